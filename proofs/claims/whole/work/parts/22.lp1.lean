theorem d_LP_distance_0 : decode prog_1_method_10_code 0 = .ok (.aload_n 0, 1) := by decide +kernel
theorem d_LP_distance_1 : decode prog_1_method_10_code 1 = .ok (.getfield 27, 3) := by decide +kernel
theorem d_LP_distance_4 : decode prog_1_method_10_code 4 = .ok (.iload_n 1, 1) := by decide +kernel
theorem d_LP_distance_5 : decode prog_1_method_10_code 5 = .ok (.invokevirtual 126, 3) := by decide +kernel
theorem d_LP_distance_8 : decode prog_1_method_10_code 8 = .ok (.ifCond .ne 5, 3) := by decide +kernel
theorem d_LP_distance_11 : decode prog_1_method_10_code 11 = .ok (.iconst (-1), 1) := by decide +kernel
theorem d_LP_distance_12 : decode prog_1_method_10_code 12 = .ok (.ireturn, 1) := by decide +kernel
theorem d_LP_distance_13 : decode prog_1_method_10_code 13 = .ok (.aload_n 0, 1) := by decide +kernel
theorem d_LP_distance_14 : decode prog_1_method_10_code 14 = .ok (.invokevirtual 135, 3) := by decide +kernel
theorem d_LP_distance_17 : decode prog_1_method_10_code 17 = .ok (.aload_n 0, 1) := by decide +kernel
theorem d_LP_distance_18 : decode prog_1_method_10_code 18 = .ok (.getfield 36, 3) := by decide +kernel
theorem d_LP_distance_21 : decode prog_1_method_10_code 21 = .ok (.iload_n 1, 1) := by decide +kernel
theorem d_LP_distance_22 : decode prog_1_method_10_code 22 = .ok (.invokevirtual 138, 3) := by decide +kernel
theorem d_LP_distance_25 : decode prog_1_method_10_code 25 = .ok (.ifCond .eq 18, 3) := by decide +kernel
theorem d_LP_distance_28 : decode prog_1_method_10_code 28 = .ok (.aload_n 0, 1) := by decide +kernel
theorem d_LP_distance_29 : decode prog_1_method_10_code 29 = .ok (.getfield 36, 3) := by decide +kernel
theorem d_LP_distance_32 : decode prog_1_method_10_code 32 = .ok (.getfield 141, 3) := by decide +kernel
theorem d_LP_distance_35 : decode prog_1_method_10_code 35 = .ok (.iload_n 1, 1) := by decide +kernel
theorem d_LP_distance_36 : decode prog_1_method_10_code 36 = .ok (.iaload, 1) := by decide +kernel
theorem d_LP_distance_37 : decode prog_1_method_10_code 37 = .ok (.bipush 16, 2) := by decide +kernel
theorem d_LP_distance_39 : decode prog_1_method_10_code 39 = .ok (.idiv, 1) := by decide +kernel
theorem d_LP_distance_40 : decode prog_1_method_10_code 40 = .ok (.goto 5, 3) := by decide +kernel
theorem d_LP_distance_43 : decode prog_1_method_10_code 43 = .ok (.bipush (-3), 2) := by decide +kernel
theorem d_LP_distance_45 : decode prog_1_method_10_code 45 = .ok (.ireturn, 1) := by decide +kernel
def rm_LP_distance : Room := { frames := 6, cells := 0, slots := 0, locals := 134 }
def f_LP_distance (σ : mS) (x1 : Int32) : Option (Int32 × mS) :=
  (f_Gr_hasNode σ x1).bind fun v1 =>
  if v1 = 0 then (
  some ((-1), σ)) else (
  (f_LP_growTree σ).bind fun σ2 =>
  (f_Se_knows 8 σ2 x1).bind fun v3 =>
  if v3 = 0 then (
  some ((-3), σ2)) else (
  gd (inb x1 10) (
  gd (isN 16) (
  some ((σ2.1 9 x1.toNatClampNeg) / 16, σ2)))))
set_option maxHeartbeats 4000000 in
set_option maxRecDepth 100000 in
theorem c_LP_distance (l : Launch) (D : va_G) (cA ad : Nat → Nat) (σ : mS) (x1 : Int32) (o : Int32 × mS) (h : f_LP_distance σ x1 = some o) : mCi l ⟨"LeastPaths", "distance", "(I)I"⟩ (Cond.code ⟨"LeastPaths", "distance", "(I)I"⟩ prog_1_method_10_code 2 (Option.some Jvm.ClassFile.FieldType.int) :: tlG) rm_LP_distance D clX (tyK cA) 99 (tbX cA) ad σ [.ref (ad 0), .int x1] o := by
  intro sz
  refine m_of (cc := prog_1_method_10_code) (maxL := 2) (Qc := mQi D clX (tyK cA) 99 (tbX cA) ad o) (by decide) (Nat.le_of_ble_eq_true rfl) (fun p e s m args below meth c ls S hr hlk hnm hl M => ?_) sz
  have hl : lv_has ls 2 [(0, .ref (ad 0)), (1, .int x1)] := hl
  generalize hQ : MQ _ _ _ _ _ _ _ = Q
  skip
  unfold f_LP_distance at h
  refine lv_aload_n S.1 S.2.1 d_LP_distance_0 rfl (lv_at hl 0 rfl) ?_
  refine m_gs (t := 1) S M (j := 1) ok_LP (by decide) rfl (by decide) rfl kw_267 rfl d_LP_distance_1 ?_
  refine lv_iload_n S.1 S.2.1 d_LP_distance_4 rfl (lv_at hl 1 rfl) ?_
  refine m_xip h (fun o ho => m_rV (As := [.int x1]) (rest := []) S M hl.1 (cwG (n := 1) S.2.2.2.2 kw_273 kw_274 kw_275 kw_15 kw_276 (by decide) ⟨Nat.le_of_ble_eq_true rfl, Nat.le_of_ble_eq_true rfl⟩) ok_Gr (by decide) rfl (c_Gr_hasNode l D cA ad σ x1 o ho _) rfl rfl (Nat.le_of_ble_eq_true rfl) d_LP_distance_5 ⟨Nat.zero_le _, Nat.zero_le _⟩) M (fun v1 H locs h M => ?_)
  refine m_ifne (tgt := 13) S d_LP_distance_8 (by decide) h (fun h => ?_) (fun h => ?_)
  · refine lv_aload_n S.1 S.2.1 d_LP_distance_13 rfl (lv_at hl 0 rfl) ?_
    refine m_xv h (fun o ho => m_rV (As := []) (rest := []) S M hl.1 (cwG (n := 0) S.2.2.2.2 kw_307 kw_308 kw_309 kw_280 kw_310 (by decide) ⟨Nat.le_of_ble_eq_true rfl, Nat.le_of_ble_eq_true rfl⟩) ok_LP (by decide) rfl (c_LP_growTree l D cA ad σ o ho _) rfl rfl (Nat.le_of_ble_eq_true rfl) d_LP_distance_14 ⟨Nat.zero_le _, Nat.zero_le _⟩) M (fun σ2 H locs h M => ?_)
    refine lv_aload_n S.1 S.2.1 d_LP_distance_17 rfl (lv_at hl 0 rfl) ?_
    refine m_gs (t := 8) S M (j := 2) ok_LP (by decide) rfl (by decide) rfl kw_303 rfl d_LP_distance_18 ?_
    refine lv_iload_n S.1 S.2.1 d_LP_distance_21 rfl (lv_at hl 1 rfl) ?_
    refine m_xip h (fun o ho => m_rV (As := [.int x1]) (rest := []) S M hl.1 (cwG (n := 1) S.2.2.2.2 kw_311 kw_113 kw_114 kw_51 kw_115 (by decide) ⟨Nat.le_of_ble_eq_true rfl, Nat.le_of_ble_eq_true rfl⟩) ok_Se (by decide) rfl (c_Se_knows l D cA ad sB_8 σ2 x1 o ho _) rfl rfl (Nat.le_of_ble_eq_true rfl) d_LP_distance_22 ⟨Nat.zero_le _, Nat.zero_le _⟩) M (fun v3 H locs h M => ?_)
    refine m_ifeq (tgt := 43) S d_LP_distance_25 (by decide) h (fun h => ?_) (fun h => ?_)
    · refine lv_bipush (v := (-3)) S.1 S.2.1 d_LP_distance_43 (by decide) ?_
      subst hQ; exact m_iret S hr hlk M (Option.some.inj h) d_LP_distance_45
    · refine lv_aload_n S.1 S.2.1 d_LP_distance_28 rfl (lv_at hl 0 rfl) ?_
      refine m_gs (t := 8) S M (j := 2) ok_LP (by decide) rfl (by decide) rfl kw_303 rfl d_LP_distance_29 ?_
      refine m_gs (t := 9) S M (j := 3) ok_Se (by decide) rfl (by decide) rfl kw_312 rfl d_LP_distance_32 ?_
      refine lv_iload_n S.1 S.2.1 d_LP_distance_35 rfl (lv_at hl 1 rfl) ?_
      refine m_ial (t0 := 0) S M (by decide) rfl rfl h d_LP_distance_36 (fun h => ?_)
      refine lv_bipush (v := 16) S.1 S.2.1 d_LP_distance_37 (by decide) ?_
      refine m_idiv S d_LP_distance_39 h (fun h => ?_)
      refine lv_goto (tgt := 45) S.1 S.2.1 d_LP_distance_40 (by decide) ?_
      subst hQ; exact m_iret S hr hlk M (Option.some.inj h) d_LP_distance_45
  · refine lv_iconst (v := (-1)) S.1 S.2.1 d_LP_distance_11 (by decide) ?_
    subst hQ; exact m_iret S hr hlk M (Option.some.inj h) d_LP_distance_12
theorem d_LP_hops_0 : decode prog_1_method_11_code 0 = .ok (.aload_n 0, 1) := by decide +kernel
theorem d_LP_hops_1 : decode prog_1_method_11_code 1 = .ok (.getfield 27, 3) := by decide +kernel
theorem d_LP_hops_4 : decode prog_1_method_11_code 4 = .ok (.iload_n 1, 1) := by decide +kernel
theorem d_LP_hops_5 : decode prog_1_method_11_code 5 = .ok (.invokevirtual 126, 3) := by decide +kernel
theorem d_LP_hops_8 : decode prog_1_method_11_code 8 = .ok (.ifCond .ne 5, 3) := by decide +kernel
theorem d_LP_hops_11 : decode prog_1_method_11_code 11 = .ok (.iconst (-1), 1) := by decide +kernel
theorem d_LP_hops_12 : decode prog_1_method_11_code 12 = .ok (.ireturn, 1) := by decide +kernel
theorem d_LP_hops_13 : decode prog_1_method_11_code 13 = .ok (.aload_n 0, 1) := by decide +kernel
theorem d_LP_hops_14 : decode prog_1_method_11_code 14 = .ok (.invokevirtual 135, 3) := by decide +kernel
theorem d_LP_hops_17 : decode prog_1_method_11_code 17 = .ok (.aload_n 0, 1) := by decide +kernel
theorem d_LP_hops_18 : decode prog_1_method_11_code 18 = .ok (.getfield 36, 3) := by decide +kernel
theorem d_LP_hops_21 : decode prog_1_method_11_code 21 = .ok (.iload_n 1, 1) := by decide +kernel
theorem d_LP_hops_22 : decode prog_1_method_11_code 22 = .ok (.invokevirtual 138, 3) := by decide +kernel
theorem d_LP_hops_25 : decode prog_1_method_11_code 25 = .ok (.ifCond .eq 18, 3) := by decide +kernel
theorem d_LP_hops_28 : decode prog_1_method_11_code 28 = .ok (.aload_n 0, 1) := by decide +kernel
theorem d_LP_hops_29 : decode prog_1_method_11_code 29 = .ok (.getfield 36, 3) := by decide +kernel
theorem d_LP_hops_32 : decode prog_1_method_11_code 32 = .ok (.getfield 141, 3) := by decide +kernel
theorem d_LP_hops_35 : decode prog_1_method_11_code 35 = .ok (.iload_n 1, 1) := by decide +kernel
theorem d_LP_hops_36 : decode prog_1_method_11_code 36 = .ok (.iaload, 1) := by decide +kernel
theorem d_LP_hops_37 : decode prog_1_method_11_code 37 = .ok (.bipush 16, 2) := by decide +kernel
theorem d_LP_hops_39 : decode prog_1_method_11_code 39 = .ok (.irem, 1) := by decide +kernel
theorem d_LP_hops_40 : decode prog_1_method_11_code 40 = .ok (.goto 5, 3) := by decide +kernel
theorem d_LP_hops_43 : decode prog_1_method_11_code 43 = .ok (.bipush (-3), 2) := by decide +kernel
theorem d_LP_hops_45 : decode prog_1_method_11_code 45 = .ok (.ireturn, 1) := by decide +kernel
def rm_LP_hops : Room := { frames := 6, cells := 0, slots := 0, locals := 134 }
def f_LP_hops (σ : mS) (x1 : Int32) : Option (Int32 × mS) :=
  (f_Gr_hasNode σ x1).bind fun v1 =>
  if v1 = 0 then (
  some ((-1), σ)) else (
  (f_LP_growTree σ).bind fun σ2 =>
  (f_Se_knows 8 σ2 x1).bind fun v3 =>
  if v3 = 0 then (
  some ((-3), σ2)) else (
  gd (inb x1 10) (
  gd (isN 16) (
  some ((σ2.1 9 x1.toNatClampNeg) - (σ2.1 9 x1.toNatClampNeg) / 16 * 16, σ2)))))
set_option maxHeartbeats 4000000 in
set_option maxRecDepth 100000 in
theorem c_LP_hops (l : Launch) (D : va_G) (cA ad : Nat → Nat) (σ : mS) (x1 : Int32) (o : Int32 × mS) (h : f_LP_hops σ x1 = some o) : mCi l ⟨"LeastPaths", "hops", "(I)I"⟩ (Cond.code ⟨"LeastPaths", "hops", "(I)I"⟩ prog_1_method_11_code 2 (Option.some Jvm.ClassFile.FieldType.int) :: tlG) rm_LP_hops D clX (tyK cA) 99 (tbX cA) ad σ [.ref (ad 0), .int x1] o := by
  intro sz
  refine m_of (cc := prog_1_method_11_code) (maxL := 2) (Qc := mQi D clX (tyK cA) 99 (tbX cA) ad o) (by decide) (Nat.le_of_ble_eq_true rfl) (fun p e s m args below meth c ls S hr hlk hnm hl M => ?_) sz
  have hl : lv_has ls 2 [(0, .ref (ad 0)), (1, .int x1)] := hl
  generalize hQ : MQ _ _ _ _ _ _ _ = Q
  skip
  unfold f_LP_hops at h
  refine lv_aload_n S.1 S.2.1 d_LP_hops_0 rfl (lv_at hl 0 rfl) ?_
  refine m_gs (t := 1) S M (j := 1) ok_LP (by decide) rfl (by decide) rfl kw_267 rfl d_LP_hops_1 ?_
  refine lv_iload_n S.1 S.2.1 d_LP_hops_4 rfl (lv_at hl 1 rfl) ?_
  refine m_xip h (fun o ho => m_rV (As := [.int x1]) (rest := []) S M hl.1 (cwG (n := 1) S.2.2.2.2 kw_273 kw_274 kw_275 kw_15 kw_276 (by decide) ⟨Nat.le_of_ble_eq_true rfl, Nat.le_of_ble_eq_true rfl⟩) ok_Gr (by decide) rfl (c_Gr_hasNode l D cA ad σ x1 o ho _) rfl rfl (Nat.le_of_ble_eq_true rfl) d_LP_hops_5 ⟨Nat.zero_le _, Nat.zero_le _⟩) M (fun v1 H locs h M => ?_)
  refine m_ifne (tgt := 13) S d_LP_hops_8 (by decide) h (fun h => ?_) (fun h => ?_)
  · refine lv_aload_n S.1 S.2.1 d_LP_hops_13 rfl (lv_at hl 0 rfl) ?_
    refine m_xv h (fun o ho => m_rV (As := []) (rest := []) S M hl.1 (cwG (n := 0) S.2.2.2.2 kw_307 kw_308 kw_309 kw_280 kw_310 (by decide) ⟨Nat.le_of_ble_eq_true rfl, Nat.le_of_ble_eq_true rfl⟩) ok_LP (by decide) rfl (c_LP_growTree l D cA ad σ o ho _) rfl rfl (Nat.le_of_ble_eq_true rfl) d_LP_hops_14 ⟨Nat.zero_le _, Nat.zero_le _⟩) M (fun σ2 H locs h M => ?_)
    refine lv_aload_n S.1 S.2.1 d_LP_hops_17 rfl (lv_at hl 0 rfl) ?_
    refine m_gs (t := 8) S M (j := 2) ok_LP (by decide) rfl (by decide) rfl kw_303 rfl d_LP_hops_18 ?_
    refine lv_iload_n S.1 S.2.1 d_LP_hops_21 rfl (lv_at hl 1 rfl) ?_
    refine m_xip h (fun o ho => m_rV (As := [.int x1]) (rest := []) S M hl.1 (cwG (n := 1) S.2.2.2.2 kw_311 kw_113 kw_114 kw_51 kw_115 (by decide) ⟨Nat.le_of_ble_eq_true rfl, Nat.le_of_ble_eq_true rfl⟩) ok_Se (by decide) rfl (c_Se_knows l D cA ad sB_8 σ2 x1 o ho _) rfl rfl (Nat.le_of_ble_eq_true rfl) d_LP_hops_22 ⟨Nat.zero_le _, Nat.zero_le _⟩) M (fun v3 H locs h M => ?_)
    refine m_ifeq (tgt := 43) S d_LP_hops_25 (by decide) h (fun h => ?_) (fun h => ?_)
    · refine lv_bipush (v := (-3)) S.1 S.2.1 d_LP_hops_43 (by decide) ?_
      subst hQ; exact m_iret S hr hlk M (Option.some.inj h) d_LP_hops_45
    · refine lv_aload_n S.1 S.2.1 d_LP_hops_28 rfl (lv_at hl 0 rfl) ?_
      refine m_gs (t := 8) S M (j := 2) ok_LP (by decide) rfl (by decide) rfl kw_303 rfl d_LP_hops_29 ?_
      refine m_gs (t := 9) S M (j := 3) ok_Se (by decide) rfl (by decide) rfl kw_312 rfl d_LP_hops_32 ?_
      refine lv_iload_n S.1 S.2.1 d_LP_hops_35 rfl (lv_at hl 1 rfl) ?_
      refine m_ial (t0 := 0) S M (by decide) rfl rfl h d_LP_hops_36 (fun h => ?_)
      refine lv_bipush (v := 16) S.1 S.2.1 d_LP_hops_37 (by decide) ?_
      refine m_irem S d_LP_hops_39 h (fun h => ?_)
      refine lv_goto (tgt := 45) S.1 S.2.1 d_LP_hops_40 (by decide) ?_
      subst hQ; exact m_iret S hr hlk M (Option.some.inj h) d_LP_hops_45
  · refine lv_iconst (v := (-1)) S.1 S.2.1 d_LP_hops_11 (by decide) ?_
    subst hQ; exact m_iret S hr hlk M (Option.some.inj h) d_LP_hops_12
theorem d_LP_step_0 : decode prog_1_method_12_code 0 = .ok (.aload_n 0, 1) := by decide +kernel
theorem d_LP_step_1 : decode prog_1_method_12_code 1 = .ok (.getfield 27, 3) := by decide +kernel
theorem d_LP_step_4 : decode prog_1_method_12_code 4 = .ok (.iload_n 1, 1) := by decide +kernel
theorem d_LP_step_5 : decode prog_1_method_12_code 5 = .ok (.invokevirtual 126, 3) := by decide +kernel
theorem d_LP_step_8 : decode prog_1_method_12_code 8 = .ok (.ifCond .ne 5, 3) := by decide +kernel
theorem d_LP_step_11 : decode prog_1_method_12_code 11 = .ok (.iconst (-1), 1) := by decide +kernel
theorem d_LP_step_12 : decode prog_1_method_12_code 12 = .ok (.ireturn, 1) := by decide +kernel
theorem d_LP_step_13 : decode prog_1_method_12_code 13 = .ok (.aload_n 0, 1) := by decide +kernel
theorem d_LP_step_14 : decode prog_1_method_12_code 14 = .ok (.invokevirtual 135, 3) := by decide +kernel
theorem d_LP_step_17 : decode prog_1_method_12_code 17 = .ok (.aload_n 0, 1) := by decide +kernel
theorem d_LP_step_18 : decode prog_1_method_12_code 18 = .ok (.getfield 36, 3) := by decide +kernel
theorem d_LP_step_21 : decode prog_1_method_12_code 21 = .ok (.iload_n 1, 1) := by decide +kernel
theorem d_LP_step_22 : decode prog_1_method_12_code 22 = .ok (.invokevirtual 138, 3) := by decide +kernel
theorem d_LP_step_25 : decode prog_1_method_12_code 25 = .ok (.ifCond .eq 14, 3) := by decide +kernel
theorem d_LP_step_28 : decode prog_1_method_12_code 28 = .ok (.aload_n 0, 1) := by decide +kernel
theorem d_LP_step_29 : decode prog_1_method_12_code 29 = .ok (.getfield 36, 3) := by decide +kernel
theorem d_LP_step_32 : decode prog_1_method_12_code 32 = .ok (.iload_n 1, 1) := by decide +kernel
theorem d_LP_step_33 : decode prog_1_method_12_code 33 = .ok (.invokevirtual 144, 3) := by decide +kernel
theorem d_LP_step_36 : decode prog_1_method_12_code 36 = .ok (.goto 4, 3) := by decide +kernel
theorem d_LP_step_39 : decode prog_1_method_12_code 39 = .ok (.iconst (-1), 1) := by decide +kernel
theorem d_LP_step_40 : decode prog_1_method_12_code 40 = .ok (.istore_n 2, 1) := by decide +kernel
theorem d_LP_step_41 : decode prog_1_method_12_code 41 = .ok (.iload_n 2, 1) := by decide +kernel
theorem d_LP_step_42 : decode prog_1_method_12_code 42 = .ok (.iconst (-1), 1) := by decide +kernel
theorem d_LP_step_43 : decode prog_1_method_12_code 43 = .ok (.if_icmp .ne 8, 3) := by decide +kernel
theorem d_LP_step_46 : decode prog_1_method_12_code 46 = .ok (.bipush (-3), 2) := by decide +kernel
theorem d_LP_step_48 : decode prog_1_method_12_code 48 = .ok (.goto 4, 3) := by decide +kernel
theorem d_LP_step_51 : decode prog_1_method_12_code 51 = .ok (.iload_n 2, 1) := by decide +kernel
theorem d_LP_step_52 : decode prog_1_method_12_code 52 = .ok (.ireturn, 1) := by decide +kernel
def rm_LP_step : Room := { frames := 6, cells := 0, slots := 0, locals := 134 }
def f_LP_step_J40 (σ2 : mS) (j4 : Int32) : Option (Int32 × mS) :=
  if j4 = ((-1)) then (
  some ((-3), σ2)) else (
  some (j4, σ2))
def f_LP_step (σ : mS) (x1 : Int32) : Option (Int32 × mS) :=
  (f_Gr_hasNode σ x1).bind fun v1 =>
  if v1 = 0 then (
  some ((-1), σ)) else (
  (f_LP_growTree σ).bind fun σ2 =>
  (f_Se_knows 8 σ2 x1).bind fun v3 =>
  if v3 = 0 then (
  f_LP_step_J40 σ2 ((-1))) else (
  (f_Se_lastArc 8 σ2 x1).bind fun v5 =>
  f_LP_step_J40 σ2 v5))
set_option maxHeartbeats 4000000 in
set_option maxRecDepth 100000 in
theorem c_LP_step (l : Launch) (D : va_G) (cA ad : Nat → Nat) (σ : mS) (x1 : Int32) (o : Int32 × mS) (h : f_LP_step σ x1 = some o) : mCi l ⟨"LeastPaths", "step", "(I)I"⟩ (Cond.code ⟨"LeastPaths", "step", "(I)I"⟩ prog_1_method_12_code 3 (Option.some Jvm.ClassFile.FieldType.int) :: tlG) rm_LP_step D clX (tyK cA) 99 (tbX cA) ad σ [.ref (ad 0), .int x1] o := by
  intro sz
  refine m_of (cc := prog_1_method_12_code) (maxL := 3) (Qc := mQi D clX (tyK cA) 99 (tbX cA) ad o) (by decide) (Nat.le_of_ble_eq_true rfl) (fun p e s m args below meth c ls S hr hlk hnm hl M => ?_) sz
  have hl : lv_has ls 3 [(0, .ref (ad 0)), (1, .int x1)] := hl
  generalize hQ : MQ _ _ _ _ _ _ _ = Q
  skip
  unfold f_LP_step at h
  refine lv_aload_n S.1 S.2.1 d_LP_step_0 rfl (lv_at hl 0 rfl) ?_
  refine m_gs (t := 1) S M (j := 1) ok_LP (by decide) rfl (by decide) rfl kw_267 rfl d_LP_step_1 ?_
  refine lv_iload_n S.1 S.2.1 d_LP_step_4 rfl (lv_at hl 1 rfl) ?_
  refine m_xip h (fun o ho => m_rV (As := [.int x1]) (rest := []) S M hl.1 (cwG (n := 1) S.2.2.2.2 kw_273 kw_274 kw_275 kw_15 kw_276 (by decide) ⟨Nat.le_of_ble_eq_true rfl, Nat.le_of_ble_eq_true rfl⟩) ok_Gr (by decide) rfl (c_Gr_hasNode l D cA ad σ x1 o ho _) rfl rfl (Nat.le_of_ble_eq_true rfl) d_LP_step_5 ⟨Nat.zero_le _, Nat.zero_le _⟩) M (fun v1 H locs h M => ?_)
  refine m_ifne (tgt := 13) S d_LP_step_8 (by decide) h (fun h => ?_) (fun h => ?_)
  · refine lv_aload_n S.1 S.2.1 d_LP_step_13 rfl (lv_at hl 0 rfl) ?_
    refine m_xv h (fun o ho => m_rV (As := []) (rest := []) S M hl.1 (cwG (n := 0) S.2.2.2.2 kw_307 kw_308 kw_309 kw_280 kw_310 (by decide) ⟨Nat.le_of_ble_eq_true rfl, Nat.le_of_ble_eq_true rfl⟩) ok_LP (by decide) rfl (c_LP_growTree l D cA ad σ o ho _) rfl rfl (Nat.le_of_ble_eq_true rfl) d_LP_step_14 ⟨Nat.zero_le _, Nat.zero_le _⟩) M (fun σ2 H locs h M => ?_)
    refine lv_aload_n S.1 S.2.1 d_LP_step_17 rfl (lv_at hl 0 rfl) ?_
    refine m_gs (t := 8) S M (j := 2) ok_LP (by decide) rfl (by decide) rfl kw_303 rfl d_LP_step_18 ?_
    refine lv_iload_n S.1 S.2.1 d_LP_step_21 rfl (lv_at hl 1 rfl) ?_
    refine m_xip h (fun o ho => m_rV (As := [.int x1]) (rest := []) S M hl.1 (cwG (n := 1) S.2.2.2.2 kw_311 kw_113 kw_114 kw_51 kw_115 (by decide) ⟨Nat.le_of_ble_eq_true rfl, Nat.le_of_ble_eq_true rfl⟩) ok_Se (by decide) rfl (c_Se_knows l D cA ad sB_8 σ2 x1 o ho _) rfl rfl (Nat.le_of_ble_eq_true rfl) d_LP_step_22 ⟨Nat.zero_le _, Nat.zero_le _⟩) M (fun v3 H locs h M => ?_)
    have J40 : ∀ (j4 : Int32) (ls : Array Slot) (H : Heap) (locs : List Loc), f_LP_step_J40 σ2 j4 = some o → lv_has ls 3 [(0, .ref (ad 0)), (1, .int x1)] → mM D clX (tyK cA) (mA 99 ad s.heap.size) s 99 (tbX cA) ad σ2 H locs → W p l e rm_LP_step s m args below meth c H locs 0 0 Q (F0 m 40 ls [.int j4]) := by
      intro j4 ls H locs h hl M
      unfold f_LP_step_J40 at h
      refine lv_istore_n (lv' := [(2, .int j4), (0, .ref (ad 0)), (1, .int x1)]) S.1 S.2.1 d_LP_step_40 rfl hl (by decide) rfl (fun ls hl => ?_)
      refine lv_iload_n S.1 S.2.1 d_LP_step_41 rfl (lv_at hl 0 rfl) ?_
      refine lv_iconst (v := (-1)) S.1 S.2.1 d_LP_step_42 (by decide) ?_
      refine m_ine (tgt := 51) S d_LP_step_43 (by decide) h (fun h => ?_) (fun h => ?_)
      · refine lv_iload_n S.1 S.2.1 d_LP_step_51 rfl (lv_at hl 0 rfl) ?_
        subst hQ; exact m_iret S hr hlk M (Option.some.inj h) d_LP_step_52
      · refine lv_bipush (v := (-3)) S.1 S.2.1 d_LP_step_46 (by decide) ?_
        refine lv_goto (tgt := 52) S.1 S.2.1 d_LP_step_48 (by decide) ?_
        subst hQ; exact m_iret S hr hlk M (Option.some.inj h) d_LP_step_52
    refine m_ifeq (tgt := 39) S d_LP_step_25 (by decide) h (fun h => ?_) (fun h => ?_)
    · refine lv_iconst (v := (-1)) S.1 S.2.1 d_LP_step_39 (by decide) ?_
      exact J40 _ ls _ _ h (lv_sub hl [0, 1] rfl) M
    · refine lv_aload_n S.1 S.2.1 d_LP_step_28 rfl (lv_at hl 0 rfl) ?_
      refine m_gs (t := 8) S M (j := 2) ok_LP (by decide) rfl (by decide) rfl kw_303 rfl d_LP_step_29 ?_
      refine lv_iload_n S.1 S.2.1 d_LP_step_32 rfl (lv_at hl 1 rfl) ?_
      refine m_xip h (fun o ho => m_rV (As := [.int x1]) (rest := []) S M hl.1 (cwG (n := 1) S.2.2.2.2 kw_313 kw_122 kw_123 kw_51 kw_124 (by decide) ⟨Nat.le_of_ble_eq_true rfl, Nat.le_of_ble_eq_true rfl⟩) ok_Se (by decide) rfl (c_Se_lastArc l D cA ad sB_8 σ2 x1 o ho _) rfl rfl (Nat.le_of_ble_eq_true rfl) d_LP_step_33 ⟨Nat.zero_le _, Nat.zero_le _⟩) M (fun v5 H locs h M => ?_)
      refine lv_goto (tgt := 40) S.1 S.2.1 d_LP_step_36 (by decide) ?_
      exact J40 _ ls _ _ h (lv_sub hl [0, 1] rfl) M
  · refine lv_iconst (v := (-1)) S.1 S.2.1 d_LP_step_11 (by decide) ?_
    subst hQ; exact m_iret S hr hlk M (Option.some.inj h) d_LP_step_12
theorem d_LP_ways_0 : decode prog_1_method_13_code 0 = .ok (.aload_n 0, 1) := by decide +kernel
theorem d_LP_ways_1 : decode prog_1_method_13_code 1 = .ok (.getfield 27, 3) := by decide +kernel
theorem d_LP_ways_4 : decode prog_1_method_13_code 4 = .ok (.iload_n 1, 1) := by decide +kernel
theorem d_LP_ways_5 : decode prog_1_method_13_code 5 = .ok (.invokevirtual 126, 3) := by decide +kernel
theorem d_LP_ways_8 : decode prog_1_method_13_code 8 = .ok (.ifCond .ne 5, 3) := by decide +kernel
theorem d_LP_ways_11 : decode prog_1_method_13_code 11 = .ok (.iconst (-1), 1) := by decide +kernel
theorem d_LP_ways_12 : decode prog_1_method_13_code 12 = .ok (.ireturn, 1) := by decide +kernel
theorem d_LP_ways_13 : decode prog_1_method_13_code 13 = .ok (.aload_n 0, 1) := by decide +kernel
theorem d_LP_ways_14 : decode prog_1_method_13_code 14 = .ok (.invokevirtual 135, 3) := by decide +kernel
theorem d_LP_ways_17 : decode prog_1_method_13_code 17 = .ok (.aload_n 0, 1) := by decide +kernel
theorem d_LP_ways_18 : decode prog_1_method_13_code 18 = .ok (.getfield 36, 3) := by decide +kernel
theorem d_LP_ways_21 : decode prog_1_method_13_code 21 = .ok (.iload_n 1, 1) := by decide +kernel
theorem d_LP_ways_22 : decode prog_1_method_13_code 22 = .ok (.invokevirtual 148, 3) := by decide +kernel
theorem d_LP_ways_25 : decode prog_1_method_13_code 25 = .ok (.ireturn, 1) := by decide +kernel
def rm_LP_ways : Room := { frames := 6, cells := 0, slots := 0, locals := 134 }
def f_LP_ways (σ : mS) (x1 : Int32) : Option (Int32 × mS) :=
  (f_Gr_hasNode σ x1).bind fun v1 =>
  if v1 = 0 then (
  some ((-1), σ)) else (
  (f_LP_growTree σ).bind fun σ2 =>
  (f_Se_countWays 8 σ2 x1).bind fun o3 =>
  some (o3.1, o3.2))
set_option maxHeartbeats 4000000 in
set_option maxRecDepth 100000 in
theorem c_LP_ways (l : Launch) (D : va_G) (cA ad : Nat → Nat) (σ : mS) (x1 : Int32) (o : Int32 × mS) (h : f_LP_ways σ x1 = some o) : mCi l ⟨"LeastPaths", "ways", "(I)I"⟩ (Cond.code ⟨"LeastPaths", "ways", "(I)I"⟩ prog_1_method_13_code 2 (Option.some Jvm.ClassFile.FieldType.int) :: tlG) rm_LP_ways D clX (tyK cA) 99 (tbX cA) ad σ [.ref (ad 0), .int x1] o := by
  intro sz
  refine m_of (cc := prog_1_method_13_code) (maxL := 2) (Qc := mQi D clX (tyK cA) 99 (tbX cA) ad o) (by decide) (Nat.le_of_ble_eq_true rfl) (fun p e s m args below meth c ls S hr hlk hnm hl M => ?_) sz
  have hl : lv_has ls 2 [(0, .ref (ad 0)), (1, .int x1)] := hl
  generalize hQ : MQ _ _ _ _ _ _ _ = Q
  skip
  unfold f_LP_ways at h
  refine lv_aload_n S.1 S.2.1 d_LP_ways_0 rfl (lv_at hl 0 rfl) ?_
  refine m_gs (t := 1) S M (j := 1) ok_LP (by decide) rfl (by decide) rfl kw_267 rfl d_LP_ways_1 ?_
  refine lv_iload_n S.1 S.2.1 d_LP_ways_4 rfl (lv_at hl 1 rfl) ?_
  refine m_xip h (fun o ho => m_rV (As := [.int x1]) (rest := []) S M hl.1 (cwG (n := 1) S.2.2.2.2 kw_273 kw_274 kw_275 kw_15 kw_276 (by decide) ⟨Nat.le_of_ble_eq_true rfl, Nat.le_of_ble_eq_true rfl⟩) ok_Gr (by decide) rfl (c_Gr_hasNode l D cA ad σ x1 o ho _) rfl rfl (Nat.le_of_ble_eq_true rfl) d_LP_ways_5 ⟨Nat.zero_le _, Nat.zero_le _⟩) M (fun v1 H locs h M => ?_)
  refine m_ifne (tgt := 13) S d_LP_ways_8 (by decide) h (fun h => ?_) (fun h => ?_)
  · refine lv_aload_n S.1 S.2.1 d_LP_ways_13 rfl (lv_at hl 0 rfl) ?_
    refine m_xv h (fun o ho => m_rV (As := []) (rest := []) S M hl.1 (cwG (n := 0) S.2.2.2.2 kw_307 kw_308 kw_309 kw_280 kw_310 (by decide) ⟨Nat.le_of_ble_eq_true rfl, Nat.le_of_ble_eq_true rfl⟩) ok_LP (by decide) rfl (c_LP_growTree l D cA ad σ o ho _) rfl rfl (Nat.le_of_ble_eq_true rfl) d_LP_ways_14 ⟨Nat.zero_le _, Nat.zero_le _⟩) M (fun σ2 H locs h M => ?_)
    refine lv_aload_n S.1 S.2.1 d_LP_ways_17 rfl (lv_at hl 0 rfl) ?_
    refine m_gs (t := 8) S M (j := 2) ok_LP (by decide) rfl (by decide) rfl kw_303 rfl d_LP_ways_18 ?_
    refine lv_iload_n S.1 S.2.1 d_LP_ways_21 rfl (lv_at hl 1 rfl) ?_
    refine m_xi h (fun o ho => m_rV (As := [.int x1]) (rest := []) S M hl.1 (cwG (n := 1) S.2.2.2.2 kw_314 kw_315 kw_316 kw_51 kw_317 (by decide) ⟨Nat.le_of_ble_eq_true rfl, Nat.le_of_ble_eq_true rfl⟩) ok_Se (by decide) rfl (c_Se_countWays l D cA ad sB_8 σ2 x1 o ho _) rfl rfl (Nat.le_of_ble_eq_true rfl) d_LP_ways_22 ⟨Nat.zero_le _, Nat.zero_le _⟩) M (fun o3 H locs h M => ?_)
    subst hQ; exact m_iret S hr hlk M (Option.some.inj h) d_LP_ways_25
  · refine lv_iconst (v := (-1)) S.1 S.2.1 d_LP_ways_11 (by decide) ?_
    subst hQ; exact m_iret S hr hlk M (Option.some.inj h) d_LP_ways_12
theorem d_LP_treeArc_0 : decode prog_1_method_31_code 0 = .ok (.aload_n 0, 1) := by decide +kernel
theorem d_LP_treeArc_1 : decode prog_1_method_31_code 1 = .ok (.getfield 36, 3) := by decide +kernel
theorem d_LP_treeArc_4 : decode prog_1_method_31_code 4 = .ok (.getfield 141, 3) := by decide +kernel
theorem d_LP_treeArc_7 : decode prog_1_method_31_code 7 = .ok (.iload_n 1, 1) := by decide +kernel
theorem d_LP_treeArc_8 : decode prog_1_method_31_code 8 = .ok (.iaload, 1) := by decide +kernel
theorem d_LP_treeArc_9 : decode prog_1_method_31_code 9 = .ok (.bipush 16, 2) := by decide +kernel
theorem d_LP_treeArc_11 : decode prog_1_method_31_code 11 = .ok (.irem, 1) := by decide +kernel
theorem d_LP_treeArc_12 : decode prog_1_method_31_code 12 = .ok (.istore_n 3, 1) := by decide +kernel
theorem d_LP_treeArc_13 : decode prog_1_method_31_code 13 = .ok (.iload_n 2, 1) := by decide +kernel
theorem d_LP_treeArc_14 : decode prog_1_method_31_code 14 = .ok (.ifCond .lt 8, 3) := by decide +kernel
theorem d_LP_treeArc_17 : decode prog_1_method_31_code 17 = .ok (.iload_n 2, 1) := by decide +kernel
theorem d_LP_treeArc_18 : decode prog_1_method_31_code 18 = .ok (.iload_n 3, 1) := by decide +kernel
theorem d_LP_treeArc_19 : decode prog_1_method_31_code 19 = .ok (.if_icmp .lt 5, 3) := by decide +kernel
theorem d_LP_treeArc_22 : decode prog_1_method_31_code 22 = .ok (.iconst (-1), 1) := by decide +kernel
theorem d_LP_treeArc_23 : decode prog_1_method_31_code 23 = .ok (.ireturn, 1) := by decide +kernel
theorem d_LP_treeArc_24 : decode prog_1_method_31_code 24 = .ok (.aload_n 0, 1) := by decide +kernel
theorem d_LP_treeArc_25 : decode prog_1_method_31_code 25 = .ok (.getfield 36, 3) := by decide +kernel
theorem d_LP_treeArc_28 : decode prog_1_method_31_code 28 = .ok (.iload_n 1, 1) := by decide +kernel
theorem d_LP_treeArc_29 : decode prog_1_method_31_code 29 = .ok (.invokevirtual 144, 3) := by decide +kernel
theorem d_LP_treeArc_32 : decode prog_1_method_31_code 32 = .ok (.istore 4, 2) := by decide +kernel
theorem d_LP_treeArc_34 : decode prog_1_method_31_code 34 = .ok (.iload_n 3, 1) := by decide +kernel
theorem d_LP_treeArc_35 : decode prog_1_method_31_code 35 = .ok (.iconst 1, 1) := by decide +kernel
theorem d_LP_treeArc_36 : decode prog_1_method_31_code 36 = .ok (.isub, 1) := by decide +kernel
theorem d_LP_treeArc_37 : decode prog_1_method_31_code 37 = .ok (.istore 5, 2) := by decide +kernel
theorem d_LP_treeArc_39 : decode prog_1_method_31_code 39 = .ok (.iload 5, 2) := by decide +kernel
theorem d_LP_treeArc_41 : decode prog_1_method_31_code 41 = .ok (.iload_n 2, 1) := by decide +kernel
theorem d_LP_treeArc_42 : decode prog_1_method_31_code 42 = .ok (.if_icmp .le 34, 3) := by decide +kernel
theorem d_LP_treeArc_45 : decode prog_1_method_31_code 45 = .ok (.iload 4, 2) := by decide +kernel
theorem d_LP_treeArc_47 : decode prog_1_method_31_code 47 = .ok (.iconst (-1), 1) := by decide +kernel
theorem d_LP_treeArc_48 : decode prog_1_method_31_code 48 = .ok (.if_icmp .eq 28, 3) := by decide +kernel
theorem d_LP_treeArc_51 : decode prog_1_method_31_code 51 = .ok (.aload_n 0, 1) := by decide +kernel
theorem d_LP_treeArc_52 : decode prog_1_method_31_code 52 = .ok (.getfield 36, 3) := by decide +kernel
theorem d_LP_treeArc_55 : decode prog_1_method_31_code 55 = .ok (.aload_n 0, 1) := by decide +kernel
theorem d_LP_treeArc_56 : decode prog_1_method_31_code 56 = .ok (.getfield 27, 3) := by decide +kernel
theorem d_LP_treeArc_59 : decode prog_1_method_31_code 59 = .ok (.getfield 231, 3) := by decide +kernel
theorem d_LP_treeArc_62 : decode prog_1_method_31_code 62 = .ok (.iload 4, 2) := by decide +kernel
theorem d_LP_treeArc_64 : decode prog_1_method_31_code 64 = .ok (.iaload, 1) := by decide +kernel
theorem d_LP_treeArc_65 : decode prog_1_method_31_code 65 = .ok (.invokevirtual 144, 3) := by decide +kernel
theorem d_LP_treeArc_68 : decode prog_1_method_31_code 68 = .ok (.istore 4, 2) := by decide +kernel
theorem d_LP_treeArc_70 : decode prog_1_method_31_code 70 = .ok (.iinc 5 (-1), 3) := by decide +kernel
theorem d_LP_treeArc_73 : decode prog_1_method_31_code 73 = .ok (.goto (-34), 3) := by decide +kernel
theorem d_LP_treeArc_76 : decode prog_1_method_31_code 76 = .ok (.iload 4, 2) := by decide +kernel
theorem d_LP_treeArc_78 : decode prog_1_method_31_code 78 = .ok (.ireturn, 1) := by decide +kernel
def rm_LP_treeArc : Room := { frames := 3, cells := 0, slots := 0, locals := 65 }
def f_LP_treeArc_L39 (σ : mS) (x2 : Int32) : (Int32 × Int32) → Option ((Int32 × Int32) ⊕ (Int32 × Int32)) := fun t39 =>
  if t39.2 ≤ x2 then (
  some (.inr (t39.1, t39.2))) else (
  if t39.1 = ((-1)) then (
  some (.inr (t39.1, t39.2))) else (
  gd (inb t39.1 40) (
  (f_Se_lastArc 8 σ (σ.1 2 t39.1.toNatClampNeg)).bind fun v4 =>
  some (.inl (v4, t39.2 + (-1))))))
def f_LP_treeArc (σ : mS) (x1 : Int32) (x2 : Int32) : Option (Int32) :=
  gd (inb x1 10) (
  gd (isN 16) (
  nm ((σ.1 9 x1.toNatClampNeg) - (σ.1 9 x1.toNatClampNeg) / 16 * 16) fun v1 =>
  if x2 < 0 then (
  some ((-1))) else (
  if x2 < v1 then (
  (f_Se_lastArc 8 σ x1).bind fun v2 =>
  nm (v1 - 1) fun v3 =>
  (lpN (f_LP_treeArc_L39 σ x2) fuS (v2, v3)).bind fun u39 =>
  some u39.1) else (
  some ((-1))))))
set_option maxHeartbeats 4000000 in
set_option maxRecDepth 100000 in
theorem c_LP_treeArc (l : Launch) (D : va_G) (cA ad : Nat → Nat) (σ : mS) (x1 : Int32) (x2 : Int32) (o : Int32) (h : f_LP_treeArc σ x1 x2 = some o) : mCi l ⟨"LeastPaths", "treeArc", "(II)I"⟩ (Cond.code ⟨"LeastPaths", "treeArc", "(II)I"⟩ prog_1_method_31_code 6 (Option.some Jvm.ClassFile.FieldType.int) :: tlG) rm_LP_treeArc D clX (tyK cA) 99 (tbX cA) ad σ [.ref (ad 0), .int x1, .int x2] (o, σ) := by
  intro sz
  refine m_of (cc := prog_1_method_31_code) (maxL := 6) (Qc := mQi D clX (tyK cA) 99 (tbX cA) ad (o, σ)) (by decide) (Nat.le_of_ble_eq_true rfl) (fun p e s m args below meth c ls S hr hlk hnm hl M => ?_) sz
  have hl : lv_has ls 6 [(0, .ref (ad 0)), (1, .int x1), (2, .int x2)] := hl
  generalize hQ : MQ _ _ _ _ _ _ _ = Q
  skip
  unfold f_LP_treeArc at h
  refine lv_aload_n S.1 S.2.1 d_LP_treeArc_0 rfl (lv_at hl 0 rfl) ?_
  refine m_gs (t := 8) S M (j := 2) ok_LP (by decide) rfl (by decide) rfl kw_303 rfl d_LP_treeArc_1 ?_
  refine m_gs (t := 9) S M (j := 3) ok_Se (by decide) rfl (by decide) rfl kw_312 rfl d_LP_treeArc_4 ?_
  refine lv_iload_n S.1 S.2.1 d_LP_treeArc_7 rfl (lv_at hl 1 rfl) ?_
  refine m_ial (t0 := 0) S M (by decide) rfl rfl h d_LP_treeArc_8 (fun h => ?_)
  refine lv_bipush (v := 16) S.1 S.2.1 d_LP_treeArc_9 (by decide) ?_
  refine m_irem S d_LP_treeArc_11 h (fun h => ?_)
  refine m_ni h (fun v1 h => ?_)
  refine lv_istore_n (lv' := [(3, .int v1), (0, .ref (ad 0)), (1, .int x1), (2, .int x2)]) S.1 S.2.1 d_LP_treeArc_12 rfl hl (by decide) rfl (fun ls hl => ?_)
  refine lv_iload_n S.1 S.2.1 d_LP_treeArc_13 rfl (lv_at hl 3 rfl) ?_
  refine m_iflt (tgt := 22) S d_LP_treeArc_14 (by decide) h (fun h => ?_) (fun h => ?_)
  · refine lv_iconst (v := (-1)) S.1 S.2.1 d_LP_treeArc_22 (by decide) ?_
    subst hQ; exact m_iret S hr hlk M (by rw [Option.some.inj h]) d_LP_treeArc_23
  · refine lv_iload_n S.1 S.2.1 d_LP_treeArc_17 rfl (lv_at hl 3 rfl) ?_
    refine lv_iload_n S.1 S.2.1 d_LP_treeArc_18 rfl (lv_at hl 0 rfl) ?_
    refine m_ilt (tgt := 24) S d_LP_treeArc_19 (by decide) h (fun h => ?_) (fun h => ?_)
    · refine lv_aload_n S.1 S.2.1 d_LP_treeArc_24 rfl (lv_at hl 1 rfl) ?_
      refine m_gs (t := 8) S M (j := 2) ok_LP (by decide) rfl (by decide) rfl kw_303 rfl d_LP_treeArc_25 ?_
      refine lv_iload_n S.1 S.2.1 d_LP_treeArc_28 rfl (lv_at hl 2 rfl) ?_
      refine m_xip h (fun o ho => m_rV (As := [.int x1]) (rest := []) S M hl.1 (cwG (n := 1) S.2.2.2.2 kw_313 kw_122 kw_123 kw_51 kw_124 (by decide) ⟨Nat.le_of_ble_eq_true rfl, Nat.le_of_ble_eq_true rfl⟩) ok_Se (by decide) rfl (c_Se_lastArc l D cA ad sB_8 σ x1 o ho _) rfl rfl (Nat.le_of_ble_eq_true rfl) d_LP_treeArc_29 ⟨Nat.zero_le _, Nat.zero_le _⟩) M (fun v2 H locs h M => ?_)
      refine lv_istore (lv' := [(4, .int v2), (3, .int v1), (0, .ref (ad 0)), (1, .int x1), (2, .int x2)]) S.1 S.2.1 d_LP_treeArc_32 hl (by decide) rfl (fun ls hl => ?_)
      refine lv_iload_n S.1 S.2.1 d_LP_treeArc_34 rfl (lv_at hl 1 rfl) ?_
      refine lv_iconst (v := 1) S.1 S.2.1 d_LP_treeArc_35 (by decide) ?_
      refine lv_isub S.1 S.2.1 d_LP_treeArc_36 ?_
      refine m_ni h (fun v3 h => ?_)
      refine lv_istore (lv' := [(5, .int v3), (4, .int v2), (3, .int v1), (0, .ref (ad 0)), (1, .int x1), (2, .int x2)]) S.1 S.2.1 d_LP_treeArc_37 hl (by decide) rfl (fun ls hl => ?_)
      obtain ⟨u39, q39, h⟩ := Option.bind_eq_some_iff.mp h
      refine lpN_W1 (st := f_LP_treeArc_L39 σ x2) (fun (t39 : Int32 × Int32) => ∀ (ls : Array Slot) (H : Heap) (locs : List Loc), lv_has ls 6 [(5, .int t39.2), (4, .int t39.1), (3, .int v1), (0, .ref (ad 0)), (1, .int x1), (2, .int x2)] → mM D clX (tyK cA) (mA 99 ad s.heap.size) s 99 (tbX cA) ad σ H locs → W p l e rm_LP_treeArc s m args below meth c H locs 0 0 Q (F0 m 39 ls [])) (fun (u39 : Int32 × Int32) => ∀ (ls : Array Slot) (H : Heap) (locs : List Loc), lv_has ls 6 [(5, .int u39.2), (4, .int u39.1), (3, .int v1), (0, .ref (ad 0)), (1, .int x1), (2, .int x2)] → mM D clX (tyK cA) (mA 99 ad s.heap.size) s 99 (tbX cA) ad σ H locs → W p l e rm_LP_treeArc s m args below meth c H locs 0 0 Q (F0 m 76 ls [])) ?_ fuS ((v2, v3) : Int32 × Int32) u39 q39 ?_ ls _ _ (lv_sub hl [0, 1, 2, 3, 4, 5] rfl) M
      · intro t39 oo39 h K1 K2 ls H locs hl M
        unfold f_LP_treeArc_L39 at h
        refine lv_iload S.1 S.2.1 d_LP_treeArc_39 (lv_at hl 0 rfl) ?_
        refine lv_iload_n S.1 S.2.1 d_LP_treeArc_41 rfl (lv_at hl 5 rfl) ?_
        refine m_ile (tgt := 76) S d_LP_treeArc_42 (by decide) h (fun h => ?_) (fun h => ?_)
        · exact K2 _ (Option.some.inj h).symm ls _ _ (lv_sub hl [0, 1, 2, 3, 4, 5] rfl) M
        · refine lv_iload S.1 S.2.1 d_LP_treeArc_45 (lv_at hl 1 rfl) ?_
          refine lv_iconst (v := (-1)) S.1 S.2.1 d_LP_treeArc_47 (by decide) ?_
          refine m_ieq (tgt := 76) S d_LP_treeArc_48 (by decide) h (fun h => ?_) (fun h => ?_)
          · exact K2 _ (Option.some.inj h).symm ls _ _ (lv_sub hl [0, 1, 2, 3, 4, 5] rfl) M
          · refine lv_aload_n S.1 S.2.1 d_LP_treeArc_51 rfl (lv_at hl 3 rfl) ?_
            refine m_gs (t := 8) S M (j := 2) ok_LP (by decide) rfl (by decide) rfl kw_303 rfl d_LP_treeArc_52 ?_
            refine lv_aload_n S.1 S.2.1 d_LP_treeArc_55 rfl (lv_at hl 3 rfl) ?_
            refine m_gs (t := 1) S M (j := 1) ok_LP (by decide) rfl (by decide) rfl kw_267 rfl d_LP_treeArc_56 ?_
            refine m_gs (t := 2) S M (j := 0) ok_Gr (by decide) rfl (by decide) rfl kw_318 rfl d_LP_treeArc_59 ?_
            refine lv_iload S.1 S.2.1 d_LP_treeArc_62 (lv_at hl 1 rfl) ?_
            refine m_ial (t0 := 0) S M (by decide) rfl rfl h d_LP_treeArc_64 (fun h => ?_)
            refine m_xip h (fun o ho => m_rV (As := [.int (σ.1 2 t39.1.toNatClampNeg)]) (rest := []) S M hl.1 (cwG (n := 1) S.2.2.2.2 kw_313 kw_122 kw_123 kw_51 kw_124 (by decide) ⟨Nat.le_of_ble_eq_true rfl, Nat.le_of_ble_eq_true rfl⟩) ok_Se (by decide) rfl (c_Se_lastArc l D cA ad sB_8 σ (σ.1 2 t39.1.toNatClampNeg) o ho _) rfl rfl (Nat.le_of_ble_eq_true rfl) d_LP_treeArc_65 ⟨Nat.zero_le _, Nat.zero_le _⟩) M (fun v4 H locs h M => ?_)
            refine lv_istore (lv' := [(4, .int v4), (5, .int t39.2), (3, .int v1), (0, .ref (ad 0)), (1, .int x1), (2, .int x2)]) S.1 S.2.1 d_LP_treeArc_68 hl (by decide) rfl (fun ls hl => ?_)
            refine lv_iinc (v := t39.2 + (-1)) (lv' := [(5, .int (t39.2 + (-1))), (4, .int v4), (3, .int v1), (0, .ref (ad 0)), (1, .int x1), (2, .int x2)]) S.1 S.2.1 d_LP_treeArc_70 hl (k := 1) rfl rfl (by decide) rfl (fun ls hl => ?_)
            refine lv_goto (tgt := 39) S.1 S.2.1 d_LP_treeArc_73 (by decide) ?_
            exact K1 _ (Option.some.inj h).symm ls _ _ (lv_sub hl [0, 1, 2, 3, 4, 5] rfl) M
      · intro ls H locs hl M
        refine lv_iload S.1 S.2.1 d_LP_treeArc_76 (lv_at hl 1 rfl) ?_
        subst hQ; exact m_iret S hr hlk M (by rw [Option.some.inj h]) d_LP_treeArc_78
    · refine lv_iconst (v := (-1)) S.1 S.2.1 d_LP_treeArc_22 (by decide) ?_
      subst hQ; exact m_iret S hr hlk M (by rw [Option.some.inj h]) d_LP_treeArc_23
theorem d_LP_tree_0 : decode prog_1_method_14_code 0 = .ok (.aload_n 0, 1) := by decide +kernel
theorem d_LP_tree_1 : decode prog_1_method_14_code 1 = .ok (.getfield 27, 3) := by decide +kernel
theorem d_LP_tree_4 : decode prog_1_method_14_code 4 = .ok (.iload_n 1, 1) := by decide +kernel
theorem d_LP_tree_5 : decode prog_1_method_14_code 5 = .ok (.invokevirtual 126, 3) := by decide +kernel
theorem d_LP_tree_8 : decode prog_1_method_14_code 8 = .ok (.ifCond .ne 5, 3) := by decide +kernel
theorem d_LP_tree_11 : decode prog_1_method_14_code 11 = .ok (.iconst (-1), 1) := by decide +kernel
theorem d_LP_tree_12 : decode prog_1_method_14_code 12 = .ok (.ireturn, 1) := by decide +kernel
theorem d_LP_tree_13 : decode prog_1_method_14_code 13 = .ok (.aload_n 0, 1) := by decide +kernel
theorem d_LP_tree_14 : decode prog_1_method_14_code 14 = .ok (.invokevirtual 135, 3) := by decide +kernel
theorem d_LP_tree_17 : decode prog_1_method_14_code 17 = .ok (.aload_n 0, 1) := by decide +kernel
theorem d_LP_tree_18 : decode prog_1_method_14_code 18 = .ok (.getfield 36, 3) := by decide +kernel
theorem d_LP_tree_21 : decode prog_1_method_14_code 21 = .ok (.iload_n 1, 1) := by decide +kernel
theorem d_LP_tree_22 : decode prog_1_method_14_code 22 = .ok (.invokevirtual 138, 3) := by decide +kernel
theorem d_LP_tree_25 : decode prog_1_method_14_code 25 = .ok (.ifCond .ne 6, 3) := by decide +kernel
theorem d_LP_tree_28 : decode prog_1_method_14_code 28 = .ok (.bipush (-3), 2) := by decide +kernel
theorem d_LP_tree_30 : decode prog_1_method_14_code 30 = .ok (.ireturn, 1) := by decide +kernel
theorem d_LP_tree_31 : decode prog_1_method_14_code 31 = .ok (.aload_n 0, 1) := by decide +kernel
theorem d_LP_tree_32 : decode prog_1_method_14_code 32 = .ok (.iload_n 1, 1) := by decide +kernel
theorem d_LP_tree_33 : decode prog_1_method_14_code 33 = .ok (.iload_n 2, 1) := by decide +kernel
theorem d_LP_tree_34 : decode prog_1_method_14_code 34 = .ok (.invokevirtual 151, 3) := by decide +kernel
theorem d_LP_tree_37 : decode prog_1_method_14_code 37 = .ok (.ireturn, 1) := by decide +kernel
def rm_LP_tree : Room := { frames := 6, cells := 0, slots := 0, locals := 134 }
def f_LP_tree (σ : mS) (x1 : Int32) (x2 : Int32) : Option (Int32 × mS) :=
  (f_Gr_hasNode σ x1).bind fun v1 =>
  if v1 = 0 then (
  some ((-1), σ)) else (
  (f_LP_growTree σ).bind fun σ2 =>
  (f_Se_knows 8 σ2 x1).bind fun v3 =>
  if v3 = 0 then (
  some ((-3), σ2)) else (
  (f_LP_treeArc σ2 x1 x2).bind fun v4 =>
  some (v4, σ2)))
set_option maxHeartbeats 4000000 in
set_option maxRecDepth 100000 in
theorem c_LP_tree (l : Launch) (D : va_G) (cA ad : Nat → Nat) (σ : mS) (x1 : Int32) (x2 : Int32) (o : Int32 × mS) (h : f_LP_tree σ x1 x2 = some o) : mCi l ⟨"LeastPaths", "tree", "(II)I"⟩ (Cond.code ⟨"LeastPaths", "tree", "(II)I"⟩ prog_1_method_14_code 3 (Option.some Jvm.ClassFile.FieldType.int) :: tlG) rm_LP_tree D clX (tyK cA) 99 (tbX cA) ad σ [.ref (ad 0), .int x1, .int x2] o := by
  intro sz
  refine m_of (cc := prog_1_method_14_code) (maxL := 3) (Qc := mQi D clX (tyK cA) 99 (tbX cA) ad o) (by decide) (Nat.le_of_ble_eq_true rfl) (fun p e s m args below meth c ls S hr hlk hnm hl M => ?_) sz
  have hl : lv_has ls 3 [(0, .ref (ad 0)), (1, .int x1), (2, .int x2)] := hl
  generalize hQ : MQ _ _ _ _ _ _ _ = Q
  skip
  unfold f_LP_tree at h
  refine lv_aload_n S.1 S.2.1 d_LP_tree_0 rfl (lv_at hl 0 rfl) ?_
  refine m_gs (t := 1) S M (j := 1) ok_LP (by decide) rfl (by decide) rfl kw_267 rfl d_LP_tree_1 ?_
  refine lv_iload_n S.1 S.2.1 d_LP_tree_4 rfl (lv_at hl 1 rfl) ?_
  refine m_xip h (fun o ho => m_rV (As := [.int x1]) (rest := []) S M hl.1 (cwG (n := 1) S.2.2.2.2 kw_273 kw_274 kw_275 kw_15 kw_276 (by decide) ⟨Nat.le_of_ble_eq_true rfl, Nat.le_of_ble_eq_true rfl⟩) ok_Gr (by decide) rfl (c_Gr_hasNode l D cA ad σ x1 o ho _) rfl rfl (Nat.le_of_ble_eq_true rfl) d_LP_tree_5 ⟨Nat.zero_le _, Nat.zero_le _⟩) M (fun v1 H locs h M => ?_)
  refine m_ifne (tgt := 13) S d_LP_tree_8 (by decide) h (fun h => ?_) (fun h => ?_)
  · refine lv_aload_n S.1 S.2.1 d_LP_tree_13 rfl (lv_at hl 0 rfl) ?_
    refine m_xv h (fun o ho => m_rV (As := []) (rest := []) S M hl.1 (cwG (n := 0) S.2.2.2.2 kw_307 kw_308 kw_309 kw_280 kw_310 (by decide) ⟨Nat.le_of_ble_eq_true rfl, Nat.le_of_ble_eq_true rfl⟩) ok_LP (by decide) rfl (c_LP_growTree l D cA ad σ o ho _) rfl rfl (Nat.le_of_ble_eq_true rfl) d_LP_tree_14 ⟨Nat.zero_le _, Nat.zero_le _⟩) M (fun σ2 H locs h M => ?_)
    refine lv_aload_n S.1 S.2.1 d_LP_tree_17 rfl (lv_at hl 0 rfl) ?_
    refine m_gs (t := 8) S M (j := 2) ok_LP (by decide) rfl (by decide) rfl kw_303 rfl d_LP_tree_18 ?_
    refine lv_iload_n S.1 S.2.1 d_LP_tree_21 rfl (lv_at hl 1 rfl) ?_
    refine m_xip h (fun o ho => m_rV (As := [.int x1]) (rest := []) S M hl.1 (cwG (n := 1) S.2.2.2.2 kw_311 kw_113 kw_114 kw_51 kw_115 (by decide) ⟨Nat.le_of_ble_eq_true rfl, Nat.le_of_ble_eq_true rfl⟩) ok_Se (by decide) rfl (c_Se_knows l D cA ad sB_8 σ2 x1 o ho _) rfl rfl (Nat.le_of_ble_eq_true rfl) d_LP_tree_22 ⟨Nat.zero_le _, Nat.zero_le _⟩) M (fun v3 H locs h M => ?_)
    refine m_ifne (tgt := 31) S d_LP_tree_25 (by decide) h (fun h => ?_) (fun h => ?_)
    · refine lv_aload_n S.1 S.2.1 d_LP_tree_31 rfl (lv_at hl 0 rfl) ?_
      refine lv_iload_n S.1 S.2.1 d_LP_tree_32 rfl (lv_at hl 1 rfl) ?_
      refine lv_iload_n S.1 S.2.1 d_LP_tree_33 rfl (lv_at hl 2 rfl) ?_
      refine m_xip h (fun o ho => m_rV (As := [.int x1, .int x2]) (rest := []) S M hl.1 (cwG (n := 2) S.2.2.2.2 kw_319 kw_320 kw_321 kw_280 kw_322 (by decide) ⟨Nat.le_of_ble_eq_true rfl, Nat.le_of_ble_eq_true rfl⟩) ok_LP (by decide) rfl (c_LP_treeArc l D cA ad σ2 x1 x2 o ho _) rfl rfl (Nat.le_of_ble_eq_true rfl) d_LP_tree_34 ⟨Nat.zero_le _, Nat.zero_le _⟩) M (fun v4 H locs h M => ?_)
      subst hQ; exact m_iret S hr hlk M (Option.some.inj h) d_LP_tree_37
    · refine lv_bipush (v := (-3)) S.1 S.2.1 d_LP_tree_28 (by decide) ?_
      subst hQ; exact m_iret S hr hlk M (Option.some.inj h) d_LP_tree_30
  · refine lv_iconst (v := (-1)) S.1 S.2.1 d_LP_tree_11 (by decide) ?_
    subst hQ; exact m_iret S hr hlk M (Option.some.inj h) d_LP_tree_12
theorem d_LP_reached_0 : decode prog_1_method_15_code 0 = .ok (.aload_n 0, 1) := by decide +kernel
theorem d_LP_reached_1 : decode prog_1_method_15_code 1 = .ok (.invokevirtual 135, 3) := by decide +kernel
theorem d_LP_reached_4 : decode prog_1_method_15_code 4 = .ok (.aload_n 0, 1) := by decide +kernel
theorem d_LP_reached_5 : decode prog_1_method_15_code 5 = .ok (.getfield 36, 3) := by decide +kernel
theorem d_LP_reached_8 : decode prog_1_method_15_code 8 = .ok (.getfield 154, 3) := by decide +kernel
theorem d_LP_reached_11 : decode prog_1_method_15_code 11 = .ok (.ireturn, 1) := by decide +kernel
def rm_LP_reached : Room := { frames := 6, cells := 0, slots := 0, locals := 134 }
def f_LP_reached (σ : mS) : Option (Int32 × mS) :=
  (f_LP_growTree σ).bind fun σ1 =>
  some (σ1.1 8 7, σ1)
set_option maxHeartbeats 4000000 in
set_option maxRecDepth 100000 in
theorem c_LP_reached (l : Launch) (D : va_G) (cA ad : Nat → Nat) (σ : mS) (o : Int32 × mS) (h : f_LP_reached σ = some o) : mCi l ⟨"LeastPaths", "reached", "()I"⟩ (Cond.code ⟨"LeastPaths", "reached", "()I"⟩ prog_1_method_15_code 1 (Option.some Jvm.ClassFile.FieldType.int) :: tlG) rm_LP_reached D clX (tyK cA) 99 (tbX cA) ad σ [.ref (ad 0)] o := by
  intro sz
  refine m_of (cc := prog_1_method_15_code) (maxL := 1) (Qc := mQi D clX (tyK cA) 99 (tbX cA) ad o) (by decide) (Nat.le_of_ble_eq_true rfl) (fun p e s m args below meth c ls S hr hlk hnm hl M => ?_) sz
  have hl : lv_has ls 1 [(0, .ref (ad 0))] := hl
  generalize hQ : MQ _ _ _ _ _ _ _ = Q
  skip
  unfold f_LP_reached at h
  refine lv_aload_n S.1 S.2.1 d_LP_reached_0 rfl (lv_at hl 0 rfl) ?_
  refine m_xv h (fun o ho => m_rV (As := []) (rest := []) S M hl.1 (cwG (n := 0) S.2.2.2.2 kw_307 kw_308 kw_309 kw_280 kw_310 (by decide) ⟨Nat.le_of_ble_eq_true rfl, Nat.le_of_ble_eq_true rfl⟩) ok_LP (by decide) rfl (c_LP_growTree l D cA ad σ o ho _) rfl rfl (Nat.le_of_ble_eq_true rfl) d_LP_reached_1 ⟨Nat.zero_le _, Nat.zero_le _⟩) M (fun σ1 H locs h M => ?_)
  refine lv_aload_n S.1 S.2.1 d_LP_reached_4 rfl (lv_at hl 0 rfl) ?_
  refine m_gs (t := 8) S M (j := 2) ok_LP (by decide) rfl (by decide) rfl kw_303 rfl d_LP_reached_5 ?_
  refine m_gi S M (j := 7) ok_Se (by decide) rfl (by decide) rfl kw_323 rfl d_LP_reached_8 ?_
  subst hQ; exact m_iret S hr hlk M (Option.some.inj h) d_LP_reached_11
theorem d_LP_good_0 : decode prog_1_method_16_code 0 = .ok (.aload_n 0, 1) := by decide +kernel
theorem d_LP_good_1 : decode prog_1_method_16_code 1 = .ok (.getfield 27, 3) := by decide +kernel
theorem d_LP_good_4 : decode prog_1_method_16_code 4 = .ok (.iload_n 1, 1) := by decide +kernel
theorem d_LP_good_5 : decode prog_1_method_16_code 5 = .ok (.invokevirtual 126, 3) := by decide +kernel
theorem d_LP_good_8 : decode prog_1_method_16_code 8 = .ok (.ifCond .ne 5, 3) := by decide +kernel
theorem d_LP_good_11 : decode prog_1_method_16_code 11 = .ok (.iconst (-1), 1) := by decide +kernel
theorem d_LP_good_12 : decode prog_1_method_16_code 12 = .ok (.ireturn, 1) := by decide +kernel
theorem d_LP_good_13 : decode prog_1_method_16_code 13 = .ok (.aload_n 0, 1) := by decide +kernel
theorem d_LP_good_14 : decode prog_1_method_16_code 14 = .ok (.getfield 27, 3) := by decide +kernel
theorem d_LP_good_17 : decode prog_1_method_16_code 17 = .ok (.iload_n 1, 1) := by decide +kernel
theorem d_LP_good_18 : decode prog_1_method_16_code 18 = .ok (.invokevirtual 157, 3) := by decide +kernel
theorem d_LP_good_21 : decode prog_1_method_16_code 21 = .ok (.ifCond .eq 7, 3) := by decide +kernel
theorem d_LP_good_24 : decode prog_1_method_16_code 24 = .ok (.iconst 1, 1) := by decide +kernel
theorem d_LP_good_25 : decode prog_1_method_16_code 25 = .ok (.goto 4, 3) := by decide +kernel
theorem d_LP_good_28 : decode prog_1_method_16_code 28 = .ok (.iconst 0, 1) := by decide +kernel
theorem d_LP_good_29 : decode prog_1_method_16_code 29 = .ok (.ireturn, 1) := by decide +kernel
def rm_LP_good : Room := { frames := 2, cells := 0, slots := 0, locals := 43 }
def f_LP_good (σ : mS) (x1 : Int32) : Option (Int32) :=
  (f_Gr_hasNode σ x1).bind fun v1 =>
  if v1 = 0 then (
  some ((-1))) else (
  (f_Gr_restsLeadTo σ x1).bind fun v2 =>
  if v2 = 0 then (
  some 0) else (
  some 1))
set_option maxHeartbeats 4000000 in
set_option maxRecDepth 100000 in
theorem c_LP_good (l : Launch) (D : va_G) (cA ad : Nat → Nat) (σ : mS) (x1 : Int32) (o : Int32) (h : f_LP_good σ x1 = some o) : mCi l ⟨"LeastPaths", "good", "(I)I"⟩ (Cond.code ⟨"LeastPaths", "good", "(I)I"⟩ prog_1_method_16_code 2 (Option.some Jvm.ClassFile.FieldType.int) :: tlG) rm_LP_good D clX (tyK cA) 99 (tbX cA) ad σ [.ref (ad 0), .int x1] (o, σ) := by
  intro sz
  refine m_of (cc := prog_1_method_16_code) (maxL := 2) (Qc := mQi D clX (tyK cA) 99 (tbX cA) ad (o, σ)) (by decide) (Nat.le_of_ble_eq_true rfl) (fun p e s m args below meth c ls S hr hlk hnm hl M => ?_) sz
  have hl : lv_has ls 2 [(0, .ref (ad 0)), (1, .int x1)] := hl
  generalize hQ : MQ _ _ _ _ _ _ _ = Q
  skip
  unfold f_LP_good at h
  refine lv_aload_n S.1 S.2.1 d_LP_good_0 rfl (lv_at hl 0 rfl) ?_
  refine m_gs (t := 1) S M (j := 1) ok_LP (by decide) rfl (by decide) rfl kw_267 rfl d_LP_good_1 ?_
  refine lv_iload_n S.1 S.2.1 d_LP_good_4 rfl (lv_at hl 1 rfl) ?_
  refine m_xip h (fun o ho => m_rV (As := [.int x1]) (rest := []) S M hl.1 (cwG (n := 1) S.2.2.2.2 kw_273 kw_274 kw_275 kw_15 kw_276 (by decide) ⟨Nat.le_of_ble_eq_true rfl, Nat.le_of_ble_eq_true rfl⟩) ok_Gr (by decide) rfl (c_Gr_hasNode l D cA ad σ x1 o ho _) rfl rfl (Nat.le_of_ble_eq_true rfl) d_LP_good_5 ⟨Nat.zero_le _, Nat.zero_le _⟩) M (fun v1 H locs h M => ?_)
  refine m_ifne (tgt := 13) S d_LP_good_8 (by decide) h (fun h => ?_) (fun h => ?_)
  · refine lv_aload_n S.1 S.2.1 d_LP_good_13 rfl (lv_at hl 0 rfl) ?_
    refine m_gs (t := 1) S M (j := 1) ok_LP (by decide) rfl (by decide) rfl kw_267 rfl d_LP_good_14 ?_
    refine lv_iload_n S.1 S.2.1 d_LP_good_17 rfl (lv_at hl 1 rfl) ?_
    refine m_xip h (fun o ho => m_rV (As := [.int x1]) (rest := []) S M hl.1 (cwG (n := 1) S.2.2.2.2 kw_324 kw_325 kw_326 kw_15 kw_327 (by decide) ⟨Nat.le_of_ble_eq_true rfl, Nat.le_of_ble_eq_true rfl⟩) ok_Gr (by decide) rfl (c_Gr_restsLeadTo l D cA ad σ x1 o ho _) rfl rfl (Nat.le_of_ble_eq_true rfl) d_LP_good_18 ⟨Nat.zero_le _, Nat.zero_le _⟩) M (fun v2 H locs h M => ?_)
    refine m_ifeq (tgt := 28) S d_LP_good_21 (by decide) h (fun h => ?_) (fun h => ?_)
    · refine lv_iconst (v := 0) S.1 S.2.1 d_LP_good_28 (by decide) ?_
      subst hQ; exact m_iret S hr hlk M (by rw [Option.some.inj h]) d_LP_good_29
    · refine lv_iconst (v := 1) S.1 S.2.1 d_LP_good_24 (by decide) ?_
      refine lv_goto (tgt := 29) S.1 S.2.1 d_LP_good_25 (by decide) ?_
      subst hQ; exact m_iret S hr hlk M (by rw [Option.some.inj h]) d_LP_good_29
  · refine lv_iconst (v := (-1)) S.1 S.2.1 d_LP_good_11 (by decide) ?_
    subst hQ; exact m_iret S hr hlk M (by rw [Option.some.inj h]) d_LP_good_12
theorem d_LP_led_0 : decode prog_1_method_17_code 0 = .ok (.aload_n 0, 1) := by decide +kernel
theorem d_LP_led_1 : decode prog_1_method_17_code 1 = .ok (.iload_n 1, 1) := by decide +kernel
theorem d_LP_led_2 : decode prog_1_method_17_code 2 = .ok (.iload_n 2, 1) := by decide +kernel
theorem d_LP_led_3 : decode prog_1_method_17_code 3 = .ok (.invokevirtual 160, 3) := by decide +kernel
theorem d_LP_led_6 : decode prog_1_method_17_code 6 = .ok (.ifCond .ne 5, 3) := by decide +kernel
theorem d_LP_led_9 : decode prog_1_method_17_code 9 = .ok (.iconst (-1), 1) := by decide +kernel
theorem d_LP_led_10 : decode prog_1_method_17_code 10 = .ok (.ireturn, 1) := by decide +kernel
theorem d_LP_led_11 : decode prog_1_method_17_code 11 = .ok (.aload_n 0, 1) := by decide +kernel
theorem d_LP_led_12 : decode prog_1_method_17_code 12 = .ok (.getfield 36, 3) := by decide +kernel
theorem d_LP_led_15 : decode prog_1_method_17_code 15 = .ok (.iload_n 1, 1) := by decide +kernel
theorem d_LP_led_16 : decode prog_1_method_17_code 16 = .ok (.iload_n 2, 1) := by decide +kernel
theorem d_LP_led_17 : decode prog_1_method_17_code 17 = .ok (.invokevirtual 163, 3) := by decide +kernel
theorem d_LP_led_20 : decode prog_1_method_17_code 20 = .ok (.aload_n 0, 1) := by decide +kernel
theorem d_LP_led_21 : decode prog_1_method_17_code 21 = .ok (.getfield 36, 3) := by decide +kernel
theorem d_LP_led_24 : decode prog_1_method_17_code 24 = .ok (.getfield 167, 3) := by decide +kernel
theorem d_LP_led_27 : decode prog_1_method_17_code 27 = .ok (.ireturn, 1) := by decide +kernel
def rm_LP_led : Room := { frames := 5, cells := 0, slots := 0, locals := 116 }
def f_LP_led (σ : mS) (x1 : Int32) (x2 : Int32) : Option (Int32 × mS) :=
  (f_LP_areNodes σ x1 x2).bind fun v1 =>
  if v1 = 0 then (
  some ((-1), σ)) else (
  (f_Se_goLed 8 σ x1 x2).bind fun σ2 =>
  some (σ2.1 8 6, σ2))
set_option maxHeartbeats 4000000 in
set_option maxRecDepth 100000 in
theorem c_LP_led (l : Launch) (D : va_G) (cA ad : Nat → Nat) (σ : mS) (x1 : Int32) (x2 : Int32) (o : Int32 × mS) (h : f_LP_led σ x1 x2 = some o) : mCi l ⟨"LeastPaths", "led", "(II)I"⟩ (Cond.code ⟨"LeastPaths", "led", "(II)I"⟩ prog_1_method_17_code 3 (Option.some Jvm.ClassFile.FieldType.int) :: tlG) rm_LP_led D clX (tyK cA) 99 (tbX cA) ad σ [.ref (ad 0), .int x1, .int x2] o := by
  intro sz
  refine m_of (cc := prog_1_method_17_code) (maxL := 3) (Qc := mQi D clX (tyK cA) 99 (tbX cA) ad o) (by decide) (Nat.le_of_ble_eq_true rfl) (fun p e s m args below meth c ls S hr hlk hnm hl M => ?_) sz
  have hl : lv_has ls 3 [(0, .ref (ad 0)), (1, .int x1), (2, .int x2)] := hl
  generalize hQ : MQ _ _ _ _ _ _ _ = Q
  skip
  unfold f_LP_led at h
  refine lv_aload_n S.1 S.2.1 d_LP_led_0 rfl (lv_at hl 0 rfl) ?_
  refine lv_iload_n S.1 S.2.1 d_LP_led_1 rfl (lv_at hl 1 rfl) ?_
  refine lv_iload_n S.1 S.2.1 d_LP_led_2 rfl (lv_at hl 2 rfl) ?_
  refine m_xip h (fun o ho => m_rV (As := [.int x1, .int x2]) (rest := []) S M hl.1 (cwG (n := 2) S.2.2.2.2 kw_277 kw_278 kw_279 kw_280 kw_281 (by decide) ⟨Nat.le_of_ble_eq_true rfl, Nat.le_of_ble_eq_true rfl⟩) ok_LP (by decide) rfl (c_LP_areNodes l D cA ad σ x1 x2 o ho _) rfl rfl (Nat.le_of_ble_eq_true rfl) d_LP_led_3 ⟨Nat.zero_le _, Nat.zero_le _⟩) M (fun v1 H locs h M => ?_)
  refine m_ifne (tgt := 11) S d_LP_led_6 (by decide) h (fun h => ?_) (fun h => ?_)
  · refine lv_aload_n S.1 S.2.1 d_LP_led_11 rfl (lv_at hl 0 rfl) ?_
    refine m_gs (t := 8) S M (j := 2) ok_LP (by decide) rfl (by decide) rfl kw_303 rfl d_LP_led_12 ?_
    refine lv_iload_n S.1 S.2.1 d_LP_led_15 rfl (lv_at hl 1 rfl) ?_
    refine lv_iload_n S.1 S.2.1 d_LP_led_16 rfl (lv_at hl 2 rfl) ?_
    refine m_xv h (fun o ho => m_rV (As := [.int x1, .int x2]) (rest := []) S M hl.1 (cwG (n := 2) S.2.2.2.2 kw_328 kw_329 kw_330 kw_51 kw_331 (by decide) ⟨Nat.le_of_ble_eq_true rfl, Nat.le_of_ble_eq_true rfl⟩) ok_Se (by decide) rfl (c_Se_goLed l D cA ad sB_8 σ x1 x2 o ho _) rfl rfl (Nat.le_of_ble_eq_true rfl) d_LP_led_17 ⟨Nat.zero_le _, Nat.zero_le _⟩) M (fun σ2 H locs h M => ?_)
    refine lv_aload_n S.1 S.2.1 d_LP_led_20 rfl (lv_at hl 0 rfl) ?_
    refine m_gs (t := 8) S M (j := 2) ok_LP (by decide) rfl (by decide) rfl kw_303 rfl d_LP_led_21 ?_
    refine m_gi S M (j := 6) ok_Se (by decide) rfl (by decide) rfl kw_332 rfl d_LP_led_24 ?_
    subst hQ; exact m_iret S hr hlk M (Option.some.inj h) d_LP_led_27
  · refine lv_iconst (v := (-1)) S.1 S.2.1 d_LP_led_9 (by decide) ?_
    subst hQ; exact m_iret S hr hlk M (Option.some.inj h) d_LP_led_10
theorem d_LP_ledTo_0 : decode prog_1_method_18_code 0 = .ok (.aload_n 0, 1) := by decide +kernel
theorem d_LP_ledTo_1 : decode prog_1_method_18_code 1 = .ok (.iload_n 1, 1) := by decide +kernel
theorem d_LP_ledTo_2 : decode prog_1_method_18_code 2 = .ok (.iload_n 2, 1) := by decide +kernel
theorem d_LP_ledTo_3 : decode prog_1_method_18_code 3 = .ok (.invokevirtual 160, 3) := by decide +kernel
theorem d_LP_ledTo_6 : decode prog_1_method_18_code 6 = .ok (.ifCond .ne 5, 3) := by decide +kernel
theorem d_LP_ledTo_9 : decode prog_1_method_18_code 9 = .ok (.iconst (-1), 1) := by decide +kernel
theorem d_LP_ledTo_10 : decode prog_1_method_18_code 10 = .ok (.ireturn, 1) := by decide +kernel
theorem d_LP_ledTo_11 : decode prog_1_method_18_code 11 = .ok (.aload_n 0, 1) := by decide +kernel
theorem d_LP_ledTo_12 : decode prog_1_method_18_code 12 = .ok (.getfield 36, 3) := by decide +kernel
theorem d_LP_ledTo_15 : decode prog_1_method_18_code 15 = .ok (.iload_n 1, 1) := by decide +kernel
theorem d_LP_ledTo_16 : decode prog_1_method_18_code 16 = .ok (.iload_n 2, 1) := by decide +kernel
theorem d_LP_ledTo_17 : decode prog_1_method_18_code 17 = .ok (.invokevirtual 163, 3) := by decide +kernel
theorem d_LP_ledTo_20 : decode prog_1_method_18_code 20 = .ok (.aload_n 0, 1) := by decide +kernel
theorem d_LP_ledTo_21 : decode prog_1_method_18_code 21 = .ok (.getfield 36, 3) := by decide +kernel
theorem d_LP_ledTo_24 : decode prog_1_method_18_code 24 = .ok (.iload_n 2, 1) := by decide +kernel
theorem d_LP_ledTo_25 : decode prog_1_method_18_code 25 = .ok (.invokevirtual 138, 3) := by decide +kernel
theorem d_LP_ledTo_28 : decode prog_1_method_18_code 28 = .ok (.ifCond .eq 18, 3) := by decide +kernel
theorem d_LP_ledTo_31 : decode prog_1_method_18_code 31 = .ok (.aload_n 0, 1) := by decide +kernel
theorem d_LP_ledTo_32 : decode prog_1_method_18_code 32 = .ok (.getfield 36, 3) := by decide +kernel
theorem d_LP_ledTo_35 : decode prog_1_method_18_code 35 = .ok (.getfield 141, 3) := by decide +kernel
theorem d_LP_ledTo_38 : decode prog_1_method_18_code 38 = .ok (.iload_n 2, 1) := by decide +kernel
theorem d_LP_ledTo_39 : decode prog_1_method_18_code 39 = .ok (.iaload, 1) := by decide +kernel
theorem d_LP_ledTo_40 : decode prog_1_method_18_code 40 = .ok (.bipush 16, 2) := by decide +kernel
theorem d_LP_ledTo_42 : decode prog_1_method_18_code 42 = .ok (.idiv, 1) := by decide +kernel
theorem d_LP_ledTo_43 : decode prog_1_method_18_code 43 = .ok (.goto 5, 3) := by decide +kernel
theorem d_LP_ledTo_46 : decode prog_1_method_18_code 46 = .ok (.bipush (-3), 2) := by decide +kernel
theorem d_LP_ledTo_48 : decode prog_1_method_18_code 48 = .ok (.ireturn, 1) := by decide +kernel
def rm_LP_ledTo : Room := { frames := 5, cells := 0, slots := 0, locals := 116 }
def f_LP_ledTo (σ : mS) (x1 : Int32) (x2 : Int32) : Option (Int32 × mS) :=
  (f_LP_areNodes σ x1 x2).bind fun v1 =>
  if v1 = 0 then (
  some ((-1), σ)) else (
  (f_Se_goLed 8 σ x1 x2).bind fun σ2 =>
  (f_Se_knows 8 σ2 x2).bind fun v3 =>
  if v3 = 0 then (
  some ((-3), σ2)) else (
  gd (inb x2 10) (
  gd (isN 16) (
  some ((σ2.1 9 x2.toNatClampNeg) / 16, σ2)))))
set_option maxHeartbeats 4000000 in
set_option maxRecDepth 100000 in
theorem c_LP_ledTo (l : Launch) (D : va_G) (cA ad : Nat → Nat) (σ : mS) (x1 : Int32) (x2 : Int32) (o : Int32 × mS) (h : f_LP_ledTo σ x1 x2 = some o) : mCi l ⟨"LeastPaths", "ledTo", "(II)I"⟩ (Cond.code ⟨"LeastPaths", "ledTo", "(II)I"⟩ prog_1_method_18_code 3 (Option.some Jvm.ClassFile.FieldType.int) :: tlG) rm_LP_ledTo D clX (tyK cA) 99 (tbX cA) ad σ [.ref (ad 0), .int x1, .int x2] o := by
  intro sz
  refine m_of (cc := prog_1_method_18_code) (maxL := 3) (Qc := mQi D clX (tyK cA) 99 (tbX cA) ad o) (by decide) (Nat.le_of_ble_eq_true rfl) (fun p e s m args below meth c ls S hr hlk hnm hl M => ?_) sz
  have hl : lv_has ls 3 [(0, .ref (ad 0)), (1, .int x1), (2, .int x2)] := hl
  generalize hQ : MQ _ _ _ _ _ _ _ = Q
  skip
  unfold f_LP_ledTo at h
  refine lv_aload_n S.1 S.2.1 d_LP_ledTo_0 rfl (lv_at hl 0 rfl) ?_
  refine lv_iload_n S.1 S.2.1 d_LP_ledTo_1 rfl (lv_at hl 1 rfl) ?_
  refine lv_iload_n S.1 S.2.1 d_LP_ledTo_2 rfl (lv_at hl 2 rfl) ?_
  refine m_xip h (fun o ho => m_rV (As := [.int x1, .int x2]) (rest := []) S M hl.1 (cwG (n := 2) S.2.2.2.2 kw_277 kw_278 kw_279 kw_280 kw_281 (by decide) ⟨Nat.le_of_ble_eq_true rfl, Nat.le_of_ble_eq_true rfl⟩) ok_LP (by decide) rfl (c_LP_areNodes l D cA ad σ x1 x2 o ho _) rfl rfl (Nat.le_of_ble_eq_true rfl) d_LP_ledTo_3 ⟨Nat.zero_le _, Nat.zero_le _⟩) M (fun v1 H locs h M => ?_)
  refine m_ifne (tgt := 11) S d_LP_ledTo_6 (by decide) h (fun h => ?_) (fun h => ?_)
  · refine lv_aload_n S.1 S.2.1 d_LP_ledTo_11 rfl (lv_at hl 0 rfl) ?_
    refine m_gs (t := 8) S M (j := 2) ok_LP (by decide) rfl (by decide) rfl kw_303 rfl d_LP_ledTo_12 ?_
    refine lv_iload_n S.1 S.2.1 d_LP_ledTo_15 rfl (lv_at hl 1 rfl) ?_
    refine lv_iload_n S.1 S.2.1 d_LP_ledTo_16 rfl (lv_at hl 2 rfl) ?_
    refine m_xv h (fun o ho => m_rV (As := [.int x1, .int x2]) (rest := []) S M hl.1 (cwG (n := 2) S.2.2.2.2 kw_328 kw_329 kw_330 kw_51 kw_331 (by decide) ⟨Nat.le_of_ble_eq_true rfl, Nat.le_of_ble_eq_true rfl⟩) ok_Se (by decide) rfl (c_Se_goLed l D cA ad sB_8 σ x1 x2 o ho _) rfl rfl (Nat.le_of_ble_eq_true rfl) d_LP_ledTo_17 ⟨Nat.zero_le _, Nat.zero_le _⟩) M (fun σ2 H locs h M => ?_)
    refine lv_aload_n S.1 S.2.1 d_LP_ledTo_20 rfl (lv_at hl 0 rfl) ?_
    refine m_gs (t := 8) S M (j := 2) ok_LP (by decide) rfl (by decide) rfl kw_303 rfl d_LP_ledTo_21 ?_
    refine lv_iload_n S.1 S.2.1 d_LP_ledTo_24 rfl (lv_at hl 2 rfl) ?_
    refine m_xip h (fun o ho => m_rV (As := [.int x2]) (rest := []) S M hl.1 (cwG (n := 1) S.2.2.2.2 kw_311 kw_113 kw_114 kw_51 kw_115 (by decide) ⟨Nat.le_of_ble_eq_true rfl, Nat.le_of_ble_eq_true rfl⟩) ok_Se (by decide) rfl (c_Se_knows l D cA ad sB_8 σ2 x2 o ho _) rfl rfl (Nat.le_of_ble_eq_true rfl) d_LP_ledTo_25 ⟨Nat.zero_le _, Nat.zero_le _⟩) M (fun v3 H locs h M => ?_)
    refine m_ifeq (tgt := 46) S d_LP_ledTo_28 (by decide) h (fun h => ?_) (fun h => ?_)
    · refine lv_bipush (v := (-3)) S.1 S.2.1 d_LP_ledTo_46 (by decide) ?_
      subst hQ; exact m_iret S hr hlk M (Option.some.inj h) d_LP_ledTo_48
    · refine lv_aload_n S.1 S.2.1 d_LP_ledTo_31 rfl (lv_at hl 0 rfl) ?_
      refine m_gs (t := 8) S M (j := 2) ok_LP (by decide) rfl (by decide) rfl kw_303 rfl d_LP_ledTo_32 ?_
      refine m_gs (t := 9) S M (j := 3) ok_Se (by decide) rfl (by decide) rfl kw_312 rfl d_LP_ledTo_35 ?_
      refine lv_iload_n S.1 S.2.1 d_LP_ledTo_38 rfl (lv_at hl 2 rfl) ?_
      refine m_ial (t0 := 0) S M (by decide) rfl rfl h d_LP_ledTo_39 (fun h => ?_)
      refine lv_bipush (v := 16) S.1 S.2.1 d_LP_ledTo_40 (by decide) ?_
      refine m_idiv S d_LP_ledTo_42 h (fun h => ?_)
      refine lv_goto (tgt := 48) S.1 S.2.1 d_LP_ledTo_43 (by decide) ?_
      subst hQ; exact m_iret S hr hlk M (Option.some.inj h) d_LP_ledTo_48
  · refine lv_iconst (v := (-1)) S.1 S.2.1 d_LP_ledTo_9 (by decide) ?_
    subst hQ; exact m_iret S hr hlk M (Option.some.inj h) d_LP_ledTo_10
theorem d_LP_both_0 : decode prog_1_method_19_code 0 = .ok (.aload_n 0, 1) := by decide +kernel
theorem d_LP_both_1 : decode prog_1_method_19_code 1 = .ok (.iload_n 1, 1) := by decide +kernel
theorem d_LP_both_2 : decode prog_1_method_19_code 2 = .ok (.iload_n 2, 1) := by decide +kernel
theorem d_LP_both_3 : decode prog_1_method_19_code 3 = .ok (.invokevirtual 160, 3) := by decide +kernel
theorem d_LP_both_6 : decode prog_1_method_19_code 6 = .ok (.ifCond .ne 5, 3) := by decide +kernel
theorem d_LP_both_9 : decode prog_1_method_19_code 9 = .ok (.iconst (-1), 1) := by decide +kernel
theorem d_LP_both_10 : decode prog_1_method_19_code 10 = .ok (.ireturn, 1) := by decide +kernel
theorem d_LP_both_11 : decode prog_1_method_19_code 11 = .ok (.aload_n 0, 1) := by decide +kernel
theorem d_LP_both_12 : decode prog_1_method_19_code 12 = .ok (.getfield 48, 3) := by decide +kernel
theorem d_LP_both_15 : decode prog_1_method_19_code 15 = .ok (.iload_n 1, 1) := by decide +kernel
theorem d_LP_both_16 : decode prog_1_method_19_code 16 = .ok (.iload_n 2, 1) := by decide +kernel
theorem d_LP_both_17 : decode prog_1_method_19_code 17 = .ok (.invokevirtual 170, 3) := by decide +kernel
theorem d_LP_both_20 : decode prog_1_method_19_code 20 = .ok (.aload_n 0, 1) := by decide +kernel
theorem d_LP_both_21 : decode prog_1_method_19_code 21 = .ok (.getfield 36, 3) := by decide +kernel
theorem d_LP_both_24 : decode prog_1_method_19_code 24 = .ok (.getfield 167, 3) := by decide +kernel
theorem d_LP_both_27 : decode prog_1_method_19_code 27 = .ok (.aload_n 0, 1) := by decide +kernel
theorem d_LP_both_28 : decode prog_1_method_19_code 28 = .ok (.getfield 40, 3) := by decide +kernel
theorem d_LP_both_31 : decode prog_1_method_19_code 31 = .ok (.getfield 167, 3) := by decide +kernel
theorem d_LP_both_34 : decode prog_1_method_19_code 34 = .ok (.iadd, 1) := by decide +kernel
theorem d_LP_both_35 : decode prog_1_method_19_code 35 = .ok (.ireturn, 1) := by decide +kernel
def rm_LP_both : Room := { frames := 5, cells := 0, slots := 0, locals := 115 }
def f_LP_both (σ : mS) (x1 : Int32) (x2 : Int32) : Option (Int32 × mS) :=
  (f_LP_areNodes σ x1 x2).bind fun v1 =>
  if v1 = 0 then (
  some ((-1), σ)) else (
  (f_BS_meet σ x1 x2).bind fun σ2 =>
  some ((σ2.1 8 6) + (σ2.1 16 6), σ2))
set_option maxHeartbeats 4000000 in
set_option maxRecDepth 100000 in
theorem c_LP_both (l : Launch) (D : va_G) (cA ad : Nat → Nat) (σ : mS) (x1 : Int32) (x2 : Int32) (o : Int32 × mS) (h : f_LP_both σ x1 x2 = some o) : mCi l ⟨"LeastPaths", "both", "(II)I"⟩ (Cond.code ⟨"LeastPaths", "both", "(II)I"⟩ prog_1_method_19_code 3 (Option.some Jvm.ClassFile.FieldType.int) :: tlG) rm_LP_both D clX (tyK cA) 99 (tbX cA) ad σ [.ref (ad 0), .int x1, .int x2] o := by
  intro sz
  refine m_of (cc := prog_1_method_19_code) (maxL := 3) (Qc := mQi D clX (tyK cA) 99 (tbX cA) ad o) (by decide) (Nat.le_of_ble_eq_true rfl) (fun p e s m args below meth c ls S hr hlk hnm hl M => ?_) sz
  have hl : lv_has ls 3 [(0, .ref (ad 0)), (1, .int x1), (2, .int x2)] := hl
  generalize hQ : MQ _ _ _ _ _ _ _ = Q
  skip
  unfold f_LP_both at h
  refine lv_aload_n S.1 S.2.1 d_LP_both_0 rfl (lv_at hl 0 rfl) ?_
  refine lv_iload_n S.1 S.2.1 d_LP_both_1 rfl (lv_at hl 1 rfl) ?_
  refine lv_iload_n S.1 S.2.1 d_LP_both_2 rfl (lv_at hl 2 rfl) ?_
  refine m_xip h (fun o ho => m_rV (As := [.int x1, .int x2]) (rest := []) S M hl.1 (cwG (n := 2) S.2.2.2.2 kw_277 kw_278 kw_279 kw_280 kw_281 (by decide) ⟨Nat.le_of_ble_eq_true rfl, Nat.le_of_ble_eq_true rfl⟩) ok_LP (by decide) rfl (c_LP_areNodes l D cA ad σ x1 x2 o ho _) rfl rfl (Nat.le_of_ble_eq_true rfl) d_LP_both_3 ⟨Nat.zero_le _, Nat.zero_le _⟩) M (fun v1 H locs h M => ?_)
  refine m_ifne (tgt := 11) S d_LP_both_6 (by decide) h (fun h => ?_) (fun h => ?_)
  · refine lv_aload_n S.1 S.2.1 d_LP_both_11 rfl (lv_at hl 0 rfl) ?_
    refine m_gs (t := 24) S M (j := 4) ok_LP (by decide) rfl (by decide) rfl kw_333 rfl d_LP_both_12 ?_
    refine lv_iload_n S.1 S.2.1 d_LP_both_15 rfl (lv_at hl 1 rfl) ?_
    refine lv_iload_n S.1 S.2.1 d_LP_both_16 rfl (lv_at hl 2 rfl) ?_
    refine m_xv h (fun o ho => m_rV (As := [.int x1, .int x2]) (rest := []) S M hl.1 (cwG (n := 2) S.2.2.2.2 kw_334 kw_335 kw_336 kw_150 kw_337 (by decide) ⟨Nat.le_of_ble_eq_true rfl, Nat.le_of_ble_eq_true rfl⟩) ok_BS (by decide) rfl (c_BS_meet l D cA ad σ x1 x2 o ho _) rfl rfl (Nat.le_of_ble_eq_true rfl) d_LP_both_17 ⟨Nat.zero_le _, Nat.zero_le _⟩) M (fun σ2 H locs h M => ?_)
    refine lv_aload_n S.1 S.2.1 d_LP_both_20 rfl (lv_at hl 0 rfl) ?_
    refine m_gs (t := 8) S M (j := 2) ok_LP (by decide) rfl (by decide) rfl kw_303 rfl d_LP_both_21 ?_
    refine m_gi S M (j := 6) ok_Se (by decide) rfl (by decide) rfl kw_332 rfl d_LP_both_24 ?_
    refine lv_aload_n S.1 S.2.1 d_LP_both_27 rfl (lv_at hl 0 rfl) ?_
    refine m_gs (t := 16) S M (j := 3) ok_LP (by decide) rfl (by decide) rfl kw_338 rfl d_LP_both_28 ?_
    refine m_gi S M (j := 6) ok_Se (by decide) rfl (by decide) rfl kw_332 rfl d_LP_both_31 ?_
    refine lv_iadd S.1 S.2.1 d_LP_both_34 ?_
    subst hQ; exact m_iret S hr hlk M (Option.some.inj h) d_LP_both_35
  · refine lv_iconst (v := (-1)) S.1 S.2.1 d_LP_both_9 (by decide) ?_
    subst hQ; exact m_iret S hr hlk M (Option.some.inj h) d_LP_both_10
