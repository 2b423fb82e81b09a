theorem d_LP_bothTo_0 : decode prog_1_method_20_code 0 = .ok (.aload_n 0, 1) := by decide +kernel
theorem d_LP_bothTo_1 : decode prog_1_method_20_code 1 = .ok (.iload_n 1, 1) := by decide +kernel
theorem d_LP_bothTo_2 : decode prog_1_method_20_code 2 = .ok (.iload_n 2, 1) := by decide +kernel
theorem d_LP_bothTo_3 : decode prog_1_method_20_code 3 = .ok (.invokevirtual 160, 3) := by decide +kernel
theorem d_LP_bothTo_6 : decode prog_1_method_20_code 6 = .ok (.ifCond .ne 5, 3) := by decide +kernel
theorem d_LP_bothTo_9 : decode prog_1_method_20_code 9 = .ok (.iconst (-1), 1) := by decide +kernel
theorem d_LP_bothTo_10 : decode prog_1_method_20_code 10 = .ok (.ireturn, 1) := by decide +kernel
theorem d_LP_bothTo_11 : decode prog_1_method_20_code 11 = .ok (.aload_n 0, 1) := by decide +kernel
theorem d_LP_bothTo_12 : decode prog_1_method_20_code 12 = .ok (.getfield 48, 3) := by decide +kernel
theorem d_LP_bothTo_15 : decode prog_1_method_20_code 15 = .ok (.iload_n 1, 1) := by decide +kernel
theorem d_LP_bothTo_16 : decode prog_1_method_20_code 16 = .ok (.iload_n 2, 1) := by decide +kernel
theorem d_LP_bothTo_17 : decode prog_1_method_20_code 17 = .ok (.invokevirtual 170, 3) := by decide +kernel
theorem d_LP_bothTo_20 : decode prog_1_method_20_code 20 = .ok (.aload_n 0, 1) := by decide +kernel
theorem d_LP_bothTo_21 : decode prog_1_method_20_code 21 = .ok (.getfield 48, 3) := by decide +kernel
theorem d_LP_bothTo_24 : decode prog_1_method_20_code 24 = .ok (.getfield 173, 3) := by decide +kernel
theorem d_LP_bothTo_27 : decode prog_1_method_20_code 27 = .ok (.ldc 176, 2) := by decide +kernel
theorem d_LP_bothTo_29 : decode prog_1_method_20_code 29 = .ok (.if_icmp .ne 8, 3) := by decide +kernel
theorem d_LP_bothTo_32 : decode prog_1_method_20_code 32 = .ok (.bipush (-3), 2) := by decide +kernel
theorem d_LP_bothTo_34 : decode prog_1_method_20_code 34 = .ok (.goto 13, 3) := by decide +kernel
theorem d_LP_bothTo_37 : decode prog_1_method_20_code 37 = .ok (.aload_n 0, 1) := by decide +kernel
theorem d_LP_bothTo_38 : decode prog_1_method_20_code 38 = .ok (.getfield 48, 3) := by decide +kernel
theorem d_LP_bothTo_41 : decode prog_1_method_20_code 41 = .ok (.getfield 173, 3) := by decide +kernel
theorem d_LP_bothTo_44 : decode prog_1_method_20_code 44 = .ok (.bipush 16, 2) := by decide +kernel
theorem d_LP_bothTo_46 : decode prog_1_method_20_code 46 = .ok (.idiv, 1) := by decide +kernel
theorem d_LP_bothTo_47 : decode prog_1_method_20_code 47 = .ok (.ireturn, 1) := by decide +kernel
def rm_LP_bothTo : Room := { frames := 5, cells := 0, slots := 0, locals := 115 }
def f_LP_bothTo (σ : mS) (x1 : Int32) (x2 : Int32) : Option (Int32 × mS) :=
  (f_LP_areNodes σ x1 x2).bind fun v1 =>
  if v1 = 0 then (
  some ((-1), σ)) else (
  (f_BS_meet σ x1 x2).bind fun σ2 =>
  if (σ2.1 24 2) = 2147483647 then (
  some ((-3), σ2)) else (
  gd (isN 16) (
  some ((σ2.1 24 2) / 16, σ2))))
set_option maxHeartbeats 4000000 in
set_option maxRecDepth 100000 in
theorem c_LP_bothTo (l : Launch) (D : va_G) (cA ad : Nat → Nat) (σ : mS) (x1 : Int32) (x2 : Int32) (o : Int32 × mS) (h : f_LP_bothTo σ x1 x2 = some o) : mCi l ⟨"LeastPaths", "bothTo", "(II)I"⟩ (Cond.code ⟨"LeastPaths", "bothTo", "(II)I"⟩ prog_1_method_20_code 3 (Option.some Jvm.ClassFile.FieldType.int) :: tlG) rm_LP_bothTo D clX (tyK cA) 99 (tbX cA) ad σ [.ref (ad 0), .int x1, .int x2] o := by
  intro sz
  refine m_of (cc := prog_1_method_20_code) (maxL := 3) (Qc := mQi D clX (tyK cA) 99 (tbX cA) ad o) (by decide) (Nat.le_of_ble_eq_true rfl) (fun p e s m args below meth c ls S hr hlk hnm hl M => ?_) sz
  have hl : lv_has ls 3 [(0, .ref (ad 0)), (1, .int x1), (2, .int x2)] := hl
  generalize hQ : MQ _ _ _ _ _ _ _ = Q
  skip
  unfold f_LP_bothTo at h
  refine lv_aload_n S.1 S.2.1 d_LP_bothTo_0 rfl (lv_at hl 0 rfl) ?_
  refine lv_iload_n S.1 S.2.1 d_LP_bothTo_1 rfl (lv_at hl 1 rfl) ?_
  refine lv_iload_n S.1 S.2.1 d_LP_bothTo_2 rfl (lv_at hl 2 rfl) ?_
  refine m_xip h (fun o ho => m_rV (As := [.int x1, .int x2]) (rest := []) S M hl.1 (cwG (n := 2) S.2.2.2.2 kw_277 kw_278 kw_279 kw_280 kw_281 (by decide) ⟨Nat.le_of_ble_eq_true rfl, Nat.le_of_ble_eq_true rfl⟩) ok_LP (by decide) rfl (c_LP_areNodes l D cA ad σ x1 x2 o ho _) rfl rfl (Nat.le_of_ble_eq_true rfl) d_LP_bothTo_3 ⟨Nat.zero_le _, Nat.zero_le _⟩) M (fun v1 H locs h M => ?_)
  refine m_ifne (tgt := 11) S d_LP_bothTo_6 (by decide) h (fun h => ?_) (fun h => ?_)
  · refine lv_aload_n S.1 S.2.1 d_LP_bothTo_11 rfl (lv_at hl 0 rfl) ?_
    refine m_gs (t := 24) S M (j := 4) ok_LP (by decide) rfl (by decide) rfl kw_333 rfl d_LP_bothTo_12 ?_
    refine lv_iload_n S.1 S.2.1 d_LP_bothTo_15 rfl (lv_at hl 1 rfl) ?_
    refine lv_iload_n S.1 S.2.1 d_LP_bothTo_16 rfl (lv_at hl 2 rfl) ?_
    refine m_xv h (fun o ho => m_rV (As := [.int x1, .int x2]) (rest := []) S M hl.1 (cwG (n := 2) S.2.2.2.2 kw_334 kw_335 kw_336 kw_150 kw_337 (by decide) ⟨Nat.le_of_ble_eq_true rfl, Nat.le_of_ble_eq_true rfl⟩) ok_BS (by decide) rfl (c_BS_meet l D cA ad σ x1 x2 o ho _) rfl rfl (Nat.le_of_ble_eq_true rfl) d_LP_bothTo_17 ⟨Nat.zero_le _, Nat.zero_le _⟩) M (fun σ2 H locs h M => ?_)
    refine lv_aload_n S.1 S.2.1 d_LP_bothTo_20 rfl (lv_at hl 0 rfl) ?_
    refine m_gs (t := 24) S M (j := 4) ok_LP (by decide) rfl (by decide) rfl kw_333 rfl d_LP_bothTo_21 ?_
    refine m_gi S M (j := 2) ok_BS (by decide) rfl (by decide) rfl kw_339 rfl d_LP_bothTo_24 ?_
    refine lv_ldc (v := 2147483647) S.1 S.2.1 S.2.2.2.1 (S.2.2.2.2 _ kw_340) d_LP_bothTo_27 ?_
    refine m_ine (tgt := 37) S d_LP_bothTo_29 (by decide) h (fun h => ?_) (fun h => ?_)
    · refine lv_aload_n S.1 S.2.1 d_LP_bothTo_37 rfl (lv_at hl 0 rfl) ?_
      refine m_gs (t := 24) S M (j := 4) ok_LP (by decide) rfl (by decide) rfl kw_333 rfl d_LP_bothTo_38 ?_
      refine m_gi S M (j := 2) ok_BS (by decide) rfl (by decide) rfl kw_339 rfl d_LP_bothTo_41 ?_
      refine lv_bipush (v := 16) S.1 S.2.1 d_LP_bothTo_44 (by decide) ?_
      refine m_idiv S d_LP_bothTo_46 h (fun h => ?_)
      subst hQ; exact m_iret S hr hlk M (Option.some.inj h) d_LP_bothTo_47
    · refine lv_bipush (v := (-3)) S.1 S.2.1 d_LP_bothTo_32 (by decide) ?_
      refine lv_goto (tgt := 47) S.1 S.2.1 d_LP_bothTo_34 (by decide) ?_
      subst hQ; exact m_iret S hr hlk M (Option.some.inj h) d_LP_bothTo_47
  · refine lv_iconst (v := (-1)) S.1 S.2.1 d_LP_bothTo_9 (by decide) ?_
    subst hQ; exact m_iret S hr hlk M (Option.some.inj h) d_LP_bothTo_10
theorem d_LP_kth_0 : decode prog_1_method_21_code 0 = .ok (.aload_n 0, 1) := by decide +kernel
theorem d_LP_kth_1 : decode prog_1_method_21_code 1 = .ok (.iload_n 1, 1) := by decide +kernel
theorem d_LP_kth_2 : decode prog_1_method_21_code 2 = .ok (.iload_n 2, 1) := by decide +kernel
theorem d_LP_kth_3 : decode prog_1_method_21_code 3 = .ok (.invokevirtual 160, 3) := by decide +kernel
theorem d_LP_kth_6 : decode prog_1_method_21_code 6 = .ok (.ifCond .ne 5, 3) := by decide +kernel
theorem d_LP_kth_9 : decode prog_1_method_21_code 9 = .ok (.iconst (-1), 1) := by decide +kernel
theorem d_LP_kth_10 : decode prog_1_method_21_code 10 = .ok (.ireturn, 1) := by decide +kernel
theorem d_LP_kth_11 : decode prog_1_method_21_code 11 = .ok (.iload_n 3, 1) := by decide +kernel
theorem d_LP_kth_12 : decode prog_1_method_21_code 12 = .ok (.ifCond .lt 9, 3) := by decide +kernel
theorem d_LP_kth_15 : decode prog_1_method_21_code 15 = .ok (.iload_n 3, 1) := by decide +kernel
theorem d_LP_kth_16 : decode prog_1_method_21_code 16 = .ok (.bipush 30, 2) := by decide +kernel
theorem d_LP_kth_18 : decode prog_1_method_21_code 18 = .ok (.if_icmp .lt 6, 3) := by decide +kernel
theorem d_LP_kth_21 : decode prog_1_method_21_code 21 = .ok (.bipush (-2), 2) := by decide +kernel
theorem d_LP_kth_23 : decode prog_1_method_21_code 23 = .ok (.ireturn, 1) := by decide +kernel
theorem d_LP_kth_24 : decode prog_1_method_21_code 24 = .ok (.aload_n 0, 1) := by decide +kernel
theorem d_LP_kth_25 : decode prog_1_method_21_code 25 = .ok (.getfield 57, 3) := by decide +kernel
theorem d_LP_kth_28 : decode prog_1_method_21_code 28 = .ok (.iload_n 1, 1) := by decide +kernel
theorem d_LP_kth_29 : decode prog_1_method_21_code 29 = .ok (.iload_n 2, 1) := by decide +kernel
theorem d_LP_kth_30 : decode prog_1_method_21_code 30 = .ok (.iload_n 3, 1) := by decide +kernel
theorem d_LP_kth_31 : decode prog_1_method_21_code 31 = .ok (.iconst 1, 1) := by decide +kernel
theorem d_LP_kth_32 : decode prog_1_method_21_code 32 = .ok (.iadd, 1) := by decide +kernel
theorem d_LP_kth_33 : decode prog_1_method_21_code 33 = .ok (.invokevirtual 177, 3) := by decide +kernel
theorem d_LP_kth_36 : decode prog_1_method_21_code 36 = .ok (.iload_n 3, 1) := by decide +kernel
theorem d_LP_kth_37 : decode prog_1_method_21_code 37 = .ok (.aload_n 0, 1) := by decide +kernel
theorem d_LP_kth_38 : decode prog_1_method_21_code 38 = .ok (.getfield 57, 3) := by decide +kernel
theorem d_LP_kth_41 : decode prog_1_method_21_code 41 = .ok (.getfield 181, 3) := by decide +kernel
theorem d_LP_kth_44 : decode prog_1_method_21_code 44 = .ok (.if_icmp .ge 21, 3) := by decide +kernel
theorem d_LP_kth_47 : decode prog_1_method_21_code 47 = .ok (.aload_n 0, 1) := by decide +kernel
theorem d_LP_kth_48 : decode prog_1_method_21_code 48 = .ok (.getfield 57, 3) := by decide +kernel
theorem d_LP_kth_51 : decode prog_1_method_21_code 51 = .ok (.getfield 184, 3) := by decide +kernel
theorem d_LP_kth_54 : decode prog_1_method_21_code 54 = .ok (.iload_n 3, 1) := by decide +kernel
theorem d_LP_kth_55 : decode prog_1_method_21_code 55 = .ok (.aaload, 1) := by decide +kernel
theorem d_LP_kth_56 : decode prog_1_method_21_code 56 = .ok (.getfield 188, 3) := by decide +kernel
theorem d_LP_kth_59 : decode prog_1_method_21_code 59 = .ok (.bipush 16, 2) := by decide +kernel
theorem d_LP_kth_61 : decode prog_1_method_21_code 61 = .ok (.idiv, 1) := by decide +kernel
theorem d_LP_kth_62 : decode prog_1_method_21_code 62 = .ok (.goto 5, 3) := by decide +kernel
theorem d_LP_kth_65 : decode prog_1_method_21_code 65 = .ok (.bipush (-3), 2) := by decide +kernel
theorem d_LP_kth_67 : decode prog_1_method_21_code 67 = .ok (.ireturn, 1) := by decide +kernel
def rm_LP_kth : Room := { frames := 7, cells := 0, slots := 0, locals := 167 }
def f_LP_kth (σ : mS) (x1 : Int32) (x2 : Int32) (x3 : Int32) : Option (Int32 × mS) :=
  (f_LP_areNodes σ x1 x2).bind fun v1 =>
  if v1 = 0 then (
  some ((-1), σ)) else (
  if x3 < 0 then (
  some ((-2), σ)) else (
  if x3 < 30 then (
  (f_Rw_fill σ x1 x2 (x3 + 1)).bind fun σ2 =>
  if (σ2.1 25 4) ≤ x3 then (
  some ((-3), σ2)) else (
  gd (inb x3 31) ((σ2.2.2 26 x3.toNatClampNeg).bind fun w3 => gd (wy w3) (
  gd (isN 16) (
  some ((σ2.1 w3 2) / 16, σ2)))))) else (
  some ((-2), σ))))
set_option maxHeartbeats 4000000 in
set_option maxRecDepth 100000 in
theorem c_LP_kth (l : Launch) (D : va_G) (cA ad : Nat → Nat) (σ : mS) (x1 : Int32) (x2 : Int32) (x3 : Int32) (o : Int32 × mS) (h : f_LP_kth σ x1 x2 x3 = some o) : mCi l ⟨"LeastPaths", "kth", "(III)I"⟩ (Cond.code ⟨"LeastPaths", "kth", "(III)I"⟩ prog_1_method_21_code 4 (Option.some Jvm.ClassFile.FieldType.int) :: tlG) rm_LP_kth D clX (tyK cA) 99 (tbX cA) ad σ [.ref (ad 0), .int x1, .int x2, .int x3] o := by
  intro sz
  refine m_of (cc := prog_1_method_21_code) (maxL := 4) (Qc := mQi D clX (tyK cA) 99 (tbX cA) ad o) (by decide) (Nat.le_of_ble_eq_true rfl) (fun p e s m args below meth c ls S hr hlk hnm hl M => ?_) sz
  have hl : lv_has ls 4 [(0, .ref (ad 0)), (1, .int x1), (2, .int x2), (3, .int x3)] := hl
  generalize hQ : MQ _ _ _ _ _ _ _ = Q
  skip
  unfold f_LP_kth at h
  refine lv_aload_n S.1 S.2.1 d_LP_kth_0 rfl (lv_at hl 0 rfl) ?_
  refine lv_iload_n S.1 S.2.1 d_LP_kth_1 rfl (lv_at hl 1 rfl) ?_
  refine lv_iload_n S.1 S.2.1 d_LP_kth_2 rfl (lv_at hl 2 rfl) ?_
  refine m_xip h (fun o ho => m_rV (As := [.int x1, .int x2]) (rest := []) S M hl.1 (cwG (n := 2) S.2.2.2.2 kw_277 kw_278 kw_279 kw_280 kw_281 (by decide) ⟨Nat.le_of_ble_eq_true rfl, Nat.le_of_ble_eq_true rfl⟩) ok_LP (by decide) rfl (c_LP_areNodes l D cA ad σ x1 x2 o ho _) rfl rfl (Nat.le_of_ble_eq_true rfl) d_LP_kth_3 ⟨Nat.zero_le _, Nat.zero_le _⟩) M (fun v1 H locs h M => ?_)
  refine m_ifne (tgt := 11) S d_LP_kth_6 (by decide) h (fun h => ?_) (fun h => ?_)
  · refine lv_iload_n S.1 S.2.1 d_LP_kth_11 rfl (lv_at hl 3 rfl) ?_
    refine m_iflt (tgt := 21) S d_LP_kth_12 (by decide) h (fun h => ?_) (fun h => ?_)
    · refine lv_bipush (v := (-2)) S.1 S.2.1 d_LP_kth_21 (by decide) ?_
      subst hQ; exact m_iret S hr hlk M (Option.some.inj h) d_LP_kth_23
    · refine lv_iload_n S.1 S.2.1 d_LP_kth_15 rfl (lv_at hl 3 rfl) ?_
      refine lv_bipush (v := 30) S.1 S.2.1 d_LP_kth_16 (by decide) ?_
      refine m_ilt (tgt := 24) S d_LP_kth_18 (by decide) h (fun h => ?_) (fun h => ?_)
      · refine lv_aload_n S.1 S.2.1 d_LP_kth_24 rfl (lv_at hl 0 rfl) ?_
        refine m_gs (t := 25) S M (j := 5) ok_LP (by decide) rfl (by decide) rfl kw_341 rfl d_LP_kth_25 ?_
        refine lv_iload_n S.1 S.2.1 d_LP_kth_28 rfl (lv_at hl 1 rfl) ?_
        refine lv_iload_n S.1 S.2.1 d_LP_kth_29 rfl (lv_at hl 2 rfl) ?_
        refine lv_iload_n S.1 S.2.1 d_LP_kth_30 rfl (lv_at hl 3 rfl) ?_
        refine lv_iconst (v := 1) S.1 S.2.1 d_LP_kth_31 (by decide) ?_
        refine lv_iadd S.1 S.2.1 d_LP_kth_32 ?_
        refine m_xv h (fun o ho => m_rV (As := [.int x1, .int x2, .int (x3 + 1)]) (rest := []) S M hl.1 (cwG (n := 3) S.2.2.2.2 kw_342 kw_343 kw_344 kw_259 kw_345 (by decide) ⟨Nat.le_of_ble_eq_true rfl, Nat.le_of_ble_eq_true rfl⟩) ok_Rw (by decide) rfl (c_Rw_fill l D cA ad σ x1 x2 (x3 + 1) o ho _) rfl rfl (Nat.le_of_ble_eq_true rfl) d_LP_kth_33 ⟨Nat.zero_le _, Nat.zero_le _⟩) M (fun σ2 H locs h M => ?_)
        refine lv_iload_n S.1 S.2.1 d_LP_kth_36 rfl (lv_at hl 3 rfl) ?_
        refine lv_aload_n S.1 S.2.1 d_LP_kth_37 rfl (lv_at hl 0 rfl) ?_
        refine m_gs (t := 25) S M (j := 5) ok_LP (by decide) rfl (by decide) rfl kw_341 rfl d_LP_kth_38 ?_
        refine m_gi S M (j := 4) ok_Rw (by decide) rfl (by decide) rfl kw_346 rfl d_LP_kth_41 ?_
        refine m_ige (tgt := 65) S d_LP_kth_44 (by decide) h (fun h => ?_) (fun h => ?_)
        · refine lv_bipush (v := (-3)) S.1 S.2.1 d_LP_kth_65 (by decide) ?_
          subst hQ; exact m_iret S hr hlk M (Option.some.inj h) d_LP_kth_67
        · refine lv_aload_n S.1 S.2.1 d_LP_kth_47 rfl (lv_at hl 0 rfl) ?_
          refine m_gs (t := 25) S M (j := 5) ok_LP (by decide) rfl (by decide) rfl kw_341 rfl d_LP_kth_48 ?_
          refine m_gs (t := 26) S M (j := 2) ok_Rw (by decide) rfl (by decide) rfl kw_347 rfl d_LP_kth_51 ?_
          refine lv_iload_n S.1 S.2.1 d_LP_kth_54 rfl (lv_at hl 3 rfl) ?_
          refine m_aalW (t0 := 3) S M (by decide) rfl rfl h d_LP_kth_55 (fun w3 hw3 h => ?_)
          refine m_gi S M (j := 2) ok_Wy (lt_Y0 hw3) (tb_Y0 hw3) (by decide) rfl kw_348 rfl d_LP_kth_56 ?_
          refine lv_bipush (v := 16) S.1 S.2.1 d_LP_kth_59 (by decide) ?_
          refine m_idiv S d_LP_kth_61 h (fun h => ?_)
          refine lv_goto (tgt := 67) S.1 S.2.1 d_LP_kth_62 (by decide) ?_
          subst hQ; exact m_iret S hr hlk M (Option.some.inj h) d_LP_kth_67
      · refine lv_bipush (v := (-2)) S.1 S.2.1 d_LP_kth_21 (by decide) ?_
        subst hQ; exact m_iret S hr hlk M (Option.some.inj h) d_LP_kth_23
  · refine lv_iconst (v := (-1)) S.1 S.2.1 d_LP_kth_9 (by decide) ?_
    subst hQ; exact m_iret S hr hlk M (Option.some.inj h) d_LP_kth_10
theorem d_LP_kthArc_0 : decode prog_1_method_22_code 0 = .ok (.aload_n 0, 1) := by decide +kernel
theorem d_LP_kthArc_1 : decode prog_1_method_22_code 1 = .ok (.iload_n 1, 1) := by decide +kernel
theorem d_LP_kthArc_2 : decode prog_1_method_22_code 2 = .ok (.iload_n 2, 1) := by decide +kernel
theorem d_LP_kthArc_3 : decode prog_1_method_22_code 3 = .ok (.invokevirtual 160, 3) := by decide +kernel
theorem d_LP_kthArc_6 : decode prog_1_method_22_code 6 = .ok (.ifCond .ne 5, 3) := by decide +kernel
theorem d_LP_kthArc_9 : decode prog_1_method_22_code 9 = .ok (.iconst (-1), 1) := by decide +kernel
theorem d_LP_kthArc_10 : decode prog_1_method_22_code 10 = .ok (.ireturn, 1) := by decide +kernel
theorem d_LP_kthArc_11 : decode prog_1_method_22_code 11 = .ok (.iload_n 3, 1) := by decide +kernel
theorem d_LP_kthArc_12 : decode prog_1_method_22_code 12 = .ok (.ifCond .lt 9, 3) := by decide +kernel
theorem d_LP_kthArc_15 : decode prog_1_method_22_code 15 = .ok (.iload_n 3, 1) := by decide +kernel
theorem d_LP_kthArc_16 : decode prog_1_method_22_code 16 = .ok (.bipush 30, 2) := by decide +kernel
theorem d_LP_kthArc_18 : decode prog_1_method_22_code 18 = .ok (.if_icmp .lt 6, 3) := by decide +kernel
theorem d_LP_kthArc_21 : decode prog_1_method_22_code 21 = .ok (.bipush (-2), 2) := by decide +kernel
theorem d_LP_kthArc_23 : decode prog_1_method_22_code 23 = .ok (.ireturn, 1) := by decide +kernel
theorem d_LP_kthArc_24 : decode prog_1_method_22_code 24 = .ok (.aload_n 0, 1) := by decide +kernel
theorem d_LP_kthArc_25 : decode prog_1_method_22_code 25 = .ok (.getfield 57, 3) := by decide +kernel
theorem d_LP_kthArc_28 : decode prog_1_method_22_code 28 = .ok (.iload_n 1, 1) := by decide +kernel
theorem d_LP_kthArc_29 : decode prog_1_method_22_code 29 = .ok (.iload_n 2, 1) := by decide +kernel
theorem d_LP_kthArc_30 : decode prog_1_method_22_code 30 = .ok (.iload_n 3, 1) := by decide +kernel
theorem d_LP_kthArc_31 : decode prog_1_method_22_code 31 = .ok (.iconst 1, 1) := by decide +kernel
theorem d_LP_kthArc_32 : decode prog_1_method_22_code 32 = .ok (.iadd, 1) := by decide +kernel
theorem d_LP_kthArc_33 : decode prog_1_method_22_code 33 = .ok (.invokevirtual 177, 3) := by decide +kernel
theorem d_LP_kthArc_36 : decode prog_1_method_22_code 36 = .ok (.iload_n 3, 1) := by decide +kernel
theorem d_LP_kthArc_37 : decode prog_1_method_22_code 37 = .ok (.aload_n 0, 1) := by decide +kernel
theorem d_LP_kthArc_38 : decode prog_1_method_22_code 38 = .ok (.getfield 57, 3) := by decide +kernel
theorem d_LP_kthArc_41 : decode prog_1_method_22_code 41 = .ok (.getfield 181, 3) := by decide +kernel
theorem d_LP_kthArc_44 : decode prog_1_method_22_code 44 = .ok (.if_icmp .ge 20, 3) := by decide +kernel
theorem d_LP_kthArc_47 : decode prog_1_method_22_code 47 = .ok (.aload_n 0, 1) := by decide +kernel
theorem d_LP_kthArc_48 : decode prog_1_method_22_code 48 = .ok (.getfield 57, 3) := by decide +kernel
theorem d_LP_kthArc_51 : decode prog_1_method_22_code 51 = .ok (.getfield 184, 3) := by decide +kernel
theorem d_LP_kthArc_54 : decode prog_1_method_22_code 54 = .ok (.iload_n 3, 1) := by decide +kernel
theorem d_LP_kthArc_55 : decode prog_1_method_22_code 55 = .ok (.aaload, 1) := by decide +kernel
theorem d_LP_kthArc_56 : decode prog_1_method_22_code 56 = .ok (.iload 4, 2) := by decide +kernel
theorem d_LP_kthArc_58 : decode prog_1_method_22_code 58 = .ok (.invokevirtual 192, 3) := by decide +kernel
theorem d_LP_kthArc_61 : decode prog_1_method_22_code 61 = .ok (.goto 5, 3) := by decide +kernel
theorem d_LP_kthArc_64 : decode prog_1_method_22_code 64 = .ok (.bipush (-3), 2) := by decide +kernel
theorem d_LP_kthArc_66 : decode prog_1_method_22_code 66 = .ok (.ireturn, 1) := by decide +kernel
def rm_LP_kthArc : Room := { frames := 7, cells := 0, slots := 0, locals := 167 }
def f_LP_kthArc (σ : mS) (x1 : Int32) (x2 : Int32) (x3 : Int32) (x4 : Int32) : Option (Int32 × mS) :=
  (f_LP_areNodes σ x1 x2).bind fun v1 =>
  if v1 = 0 then (
  some ((-1), σ)) else (
  if x3 < 0 then (
  some ((-2), σ)) else (
  if x3 < 30 then (
  (f_Rw_fill σ x1 x2 (x3 + 1)).bind fun σ2 =>
  if (σ2.1 25 4) ≤ x3 then (
  some ((-3), σ2)) else (
  gd (inb x3 31) ((σ2.2.2 26 x3.toNatClampNeg).bind fun w3 => gd (wy w3) (
  (f_Wy_arcAt w3 σ2 x4).bind fun v4 =>
  some (v4, σ2))))) else (
  some ((-2), σ))))
set_option maxHeartbeats 4000000 in
set_option maxRecDepth 100000 in
theorem c_LP_kthArc (l : Launch) (D : va_G) (cA ad : Nat → Nat) (σ : mS) (x1 : Int32) (x2 : Int32) (x3 : Int32) (x4 : Int32) (o : Int32 × mS) (h : f_LP_kthArc σ x1 x2 x3 x4 = some o) : mCi l ⟨"LeastPaths", "kthArc", "(IIII)I"⟩ (Cond.code ⟨"LeastPaths", "kthArc", "(IIII)I"⟩ prog_1_method_22_code 5 (Option.some Jvm.ClassFile.FieldType.int) :: tlG) rm_LP_kthArc D clX (tyK cA) 99 (tbX cA) ad σ [.ref (ad 0), .int x1, .int x2, .int x3, .int x4] o := by
  intro sz
  refine m_of (cc := prog_1_method_22_code) (maxL := 5) (Qc := mQi D clX (tyK cA) 99 (tbX cA) ad o) (by decide) (Nat.le_of_ble_eq_true rfl) (fun p e s m args below meth c ls S hr hlk hnm hl M => ?_) sz
  have hl : lv_has ls 5 [(0, .ref (ad 0)), (1, .int x1), (2, .int x2), (3, .int x3), (4, .int x4)] := hl
  generalize hQ : MQ _ _ _ _ _ _ _ = Q
  skip
  unfold f_LP_kthArc at h
  refine lv_aload_n S.1 S.2.1 d_LP_kthArc_0 rfl (lv_at hl 0 rfl) ?_
  refine lv_iload_n S.1 S.2.1 d_LP_kthArc_1 rfl (lv_at hl 1 rfl) ?_
  refine lv_iload_n S.1 S.2.1 d_LP_kthArc_2 rfl (lv_at hl 2 rfl) ?_
  refine m_xip h (fun o ho => m_rV (As := [.int x1, .int x2]) (rest := []) S M hl.1 (cwG (n := 2) S.2.2.2.2 kw_277 kw_278 kw_279 kw_280 kw_281 (by decide) ⟨Nat.le_of_ble_eq_true rfl, Nat.le_of_ble_eq_true rfl⟩) ok_LP (by decide) rfl (c_LP_areNodes l D cA ad σ x1 x2 o ho _) rfl rfl (Nat.le_of_ble_eq_true rfl) d_LP_kthArc_3 ⟨Nat.zero_le _, Nat.zero_le _⟩) M (fun v1 H locs h M => ?_)
  refine m_ifne (tgt := 11) S d_LP_kthArc_6 (by decide) h (fun h => ?_) (fun h => ?_)
  · refine lv_iload_n S.1 S.2.1 d_LP_kthArc_11 rfl (lv_at hl 3 rfl) ?_
    refine m_iflt (tgt := 21) S d_LP_kthArc_12 (by decide) h (fun h => ?_) (fun h => ?_)
    · refine lv_bipush (v := (-2)) S.1 S.2.1 d_LP_kthArc_21 (by decide) ?_
      subst hQ; exact m_iret S hr hlk M (Option.some.inj h) d_LP_kthArc_23
    · refine lv_iload_n S.1 S.2.1 d_LP_kthArc_15 rfl (lv_at hl 3 rfl) ?_
      refine lv_bipush (v := 30) S.1 S.2.1 d_LP_kthArc_16 (by decide) ?_
      refine m_ilt (tgt := 24) S d_LP_kthArc_18 (by decide) h (fun h => ?_) (fun h => ?_)
      · refine lv_aload_n S.1 S.2.1 d_LP_kthArc_24 rfl (lv_at hl 0 rfl) ?_
        refine m_gs (t := 25) S M (j := 5) ok_LP (by decide) rfl (by decide) rfl kw_341 rfl d_LP_kthArc_25 ?_
        refine lv_iload_n S.1 S.2.1 d_LP_kthArc_28 rfl (lv_at hl 1 rfl) ?_
        refine lv_iload_n S.1 S.2.1 d_LP_kthArc_29 rfl (lv_at hl 2 rfl) ?_
        refine lv_iload_n S.1 S.2.1 d_LP_kthArc_30 rfl (lv_at hl 3 rfl) ?_
        refine lv_iconst (v := 1) S.1 S.2.1 d_LP_kthArc_31 (by decide) ?_
        refine lv_iadd S.1 S.2.1 d_LP_kthArc_32 ?_
        refine m_xv h (fun o ho => m_rV (As := [.int x1, .int x2, .int (x3 + 1)]) (rest := []) S M hl.1 (cwG (n := 3) S.2.2.2.2 kw_342 kw_343 kw_344 kw_259 kw_345 (by decide) ⟨Nat.le_of_ble_eq_true rfl, Nat.le_of_ble_eq_true rfl⟩) ok_Rw (by decide) rfl (c_Rw_fill l D cA ad σ x1 x2 (x3 + 1) o ho _) rfl rfl (Nat.le_of_ble_eq_true rfl) d_LP_kthArc_33 ⟨Nat.zero_le _, Nat.zero_le _⟩) M (fun σ2 H locs h M => ?_)
        refine lv_iload_n S.1 S.2.1 d_LP_kthArc_36 rfl (lv_at hl 3 rfl) ?_
        refine lv_aload_n S.1 S.2.1 d_LP_kthArc_37 rfl (lv_at hl 0 rfl) ?_
        refine m_gs (t := 25) S M (j := 5) ok_LP (by decide) rfl (by decide) rfl kw_341 rfl d_LP_kthArc_38 ?_
        refine m_gi S M (j := 4) ok_Rw (by decide) rfl (by decide) rfl kw_346 rfl d_LP_kthArc_41 ?_
        refine m_ige (tgt := 64) S d_LP_kthArc_44 (by decide) h (fun h => ?_) (fun h => ?_)
        · refine lv_bipush (v := (-3)) S.1 S.2.1 d_LP_kthArc_64 (by decide) ?_
          subst hQ; exact m_iret S hr hlk M (Option.some.inj h) d_LP_kthArc_66
        · refine lv_aload_n S.1 S.2.1 d_LP_kthArc_47 rfl (lv_at hl 0 rfl) ?_
          refine m_gs (t := 25) S M (j := 5) ok_LP (by decide) rfl (by decide) rfl kw_341 rfl d_LP_kthArc_48 ?_
          refine m_gs (t := 26) S M (j := 2) ok_Rw (by decide) rfl (by decide) rfl kw_347 rfl d_LP_kthArc_51 ?_
          refine lv_iload_n S.1 S.2.1 d_LP_kthArc_54 rfl (lv_at hl 3 rfl) ?_
          refine m_aalW (t0 := 3) S M (by decide) rfl rfl h d_LP_kthArc_55 (fun w3 hw3 h => ?_)
          refine lv_iload S.1 S.2.1 d_LP_kthArc_56 (lv_at hl 4 rfl) ?_
          refine m_xip h (fun o ho => m_rV (As := [.int x4]) (rest := []) S M hl.1 (cwG (n := 1) S.2.2.2.2 kw_349 kw_350 kw_351 kw_128 kw_352 (by decide) ⟨Nat.le_of_ble_eq_true rfl, Nat.le_of_ble_eq_true rfl⟩) ok_Wy (lt_Y0 hw3) (tb_Y0 hw3) (c_Wy_arcAt l D cA ad hw3 σ2 x4 o ho _) rfl rfl (Nat.le_of_ble_eq_true rfl) d_LP_kthArc_58 ⟨Nat.zero_le _, Nat.zero_le _⟩) M (fun v4 H locs h M => ?_)
          refine lv_goto (tgt := 66) S.1 S.2.1 d_LP_kthArc_61 (by decide) ?_
          subst hQ; exact m_iret S hr hlk M (Option.some.inj h) d_LP_kthArc_66
      · refine lv_bipush (v := (-2)) S.1 S.2.1 d_LP_kthArc_21 (by decide) ?_
        subst hQ; exact m_iret S hr hlk M (Option.some.inj h) d_LP_kthArc_23
  · refine lv_iconst (v := (-1)) S.1 S.2.1 d_LP_kthArc_9 (by decide) ?_
    subst hQ; exact m_iret S hr hlk M (Option.some.inj h) d_LP_kthArc_10
theorem d_LP_widest_0 : decode prog_1_method_23_code 0 = .ok (.aload_n 0, 1) := by decide +kernel
theorem d_LP_widest_1 : decode prog_1_method_23_code 1 = .ok (.iload_n 1, 1) := by decide +kernel
theorem d_LP_widest_2 : decode prog_1_method_23_code 2 = .ok (.iload_n 2, 1) := by decide +kernel
theorem d_LP_widest_3 : decode prog_1_method_23_code 3 = .ok (.invokevirtual 91, 3) := by decide +kernel
theorem d_LP_widest_6 : decode prog_1_method_23_code 6 = .ok (.ifCond .ne 5, 3) := by decide +kernel
theorem d_LP_widest_9 : decode prog_1_method_23_code 9 = .ok (.iconst (-1), 1) := by decide +kernel
theorem d_LP_widest_10 : decode prog_1_method_23_code 10 = .ok (.ireturn, 1) := by decide +kernel
theorem d_LP_widest_11 : decode prog_1_method_23_code 11 = .ok (.aload_n 0, 1) := by decide +kernel
theorem d_LP_widest_12 : decode prog_1_method_23_code 12 = .ok (.getfield 73, 3) := by decide +kernel
theorem d_LP_widest_15 : decode prog_1_method_23_code 15 = .ok (.iload_n 1, 1) := by decide +kernel
theorem d_LP_widest_16 : decode prog_1_method_23_code 16 = .ok (.invokevirtual 195, 3) := by decide +kernel
theorem d_LP_widest_19 : decode prog_1_method_23_code 19 = .ok (.aload_n 0, 1) := by decide +kernel
theorem d_LP_widest_20 : decode prog_1_method_23_code 20 = .ok (.getfield 73, 3) := by decide +kernel
theorem d_LP_widest_23 : decode prog_1_method_23_code 23 = .ok (.getfield 199, 3) := by decide +kernel
theorem d_LP_widest_26 : decode prog_1_method_23_code 26 = .ok (.iload_n 2, 1) := by decide +kernel
theorem d_LP_widest_27 : decode prog_1_method_23_code 27 = .ok (.iaload, 1) := by decide +kernel
theorem d_LP_widest_28 : decode prog_1_method_23_code 28 = .ok (.iconst (-1), 1) := by decide +kernel
theorem d_LP_widest_29 : decode prog_1_method_23_code 29 = .ok (.if_icmp .ne 8, 3) := by decide +kernel
theorem d_LP_widest_32 : decode prog_1_method_23_code 32 = .ok (.bipush (-3), 2) := by decide +kernel
theorem d_LP_widest_34 : decode prog_1_method_23_code 34 = .ok (.goto 12, 3) := by decide +kernel
theorem d_LP_widest_37 : decode prog_1_method_23_code 37 = .ok (.aload_n 0, 1) := by decide +kernel
theorem d_LP_widest_38 : decode prog_1_method_23_code 38 = .ok (.getfield 73, 3) := by decide +kernel
theorem d_LP_widest_41 : decode prog_1_method_23_code 41 = .ok (.getfield 199, 3) := by decide +kernel
theorem d_LP_widest_44 : decode prog_1_method_23_code 44 = .ok (.iload_n 2, 1) := by decide +kernel
theorem d_LP_widest_45 : decode prog_1_method_23_code 45 = .ok (.iaload, 1) := by decide +kernel
theorem d_LP_widest_46 : decode prog_1_method_23_code 46 = .ok (.ireturn, 1) := by decide +kernel
def rm_LP_widest : Room := { frames := 3, cells := 0, slots := 0, locals := 65 }
def f_LP_widest (σ : mS) (x1 : Int32) (x2 : Int32) : Option (Int32 × mS) :=
  (f_LP_isPair σ x1 x2).bind fun v1 =>
  if v1 = 0 then (
  some ((-1), σ)) else (
  (f_Wi_spread σ x1).bind fun σ2 =>
  gd (inb x2 10) (
  if (σ2.1 95 x2.toNatClampNeg) = ((-1)) then (
  some ((-3), σ2)) else (
  gd (inb x2 10) (
  some (σ2.1 95 x2.toNatClampNeg, σ2)))))
set_option maxHeartbeats 4000000 in
set_option maxRecDepth 100000 in
theorem c_LP_widest (l : Launch) (D : va_G) (cA ad : Nat → Nat) (σ : mS) (x1 : Int32) (x2 : Int32) (o : Int32 × mS) (h : f_LP_widest σ x1 x2 = some o) : mCi l ⟨"LeastPaths", "widest", "(II)I"⟩ (Cond.code ⟨"LeastPaths", "widest", "(II)I"⟩ prog_1_method_23_code 3 (Option.some Jvm.ClassFile.FieldType.int) :: tlG) rm_LP_widest D clX (tyK cA) 99 (tbX cA) ad σ [.ref (ad 0), .int x1, .int x2] o := by
  intro sz
  refine m_of (cc := prog_1_method_23_code) (maxL := 3) (Qc := mQi D clX (tyK cA) 99 (tbX cA) ad o) (by decide) (Nat.le_of_ble_eq_true rfl) (fun p e s m args below meth c ls S hr hlk hnm hl M => ?_) sz
  have hl : lv_has ls 3 [(0, .ref (ad 0)), (1, .int x1), (2, .int x2)] := hl
  generalize hQ : MQ _ _ _ _ _ _ _ = Q
  skip
  unfold f_LP_widest at h
  refine lv_aload_n S.1 S.2.1 d_LP_widest_0 rfl (lv_at hl 0 rfl) ?_
  refine lv_iload_n S.1 S.2.1 d_LP_widest_1 rfl (lv_at hl 1 rfl) ?_
  refine lv_iload_n S.1 S.2.1 d_LP_widest_2 rfl (lv_at hl 2 rfl) ?_
  refine m_xip h (fun o ho => m_rV (As := [.int x1, .int x2]) (rest := []) S M hl.1 (cwG (n := 2) S.2.2.2.2 kw_282 kw_283 kw_284 kw_280 kw_285 (by decide) ⟨Nat.le_of_ble_eq_true rfl, Nat.le_of_ble_eq_true rfl⟩) ok_LP (by decide) rfl (c_LP_isPair l D cA ad σ x1 x2 o ho _) rfl rfl (Nat.le_of_ble_eq_true rfl) d_LP_widest_3 ⟨Nat.zero_le _, Nat.zero_le _⟩) M (fun v1 H locs h M => ?_)
  refine m_ifne (tgt := 11) S d_LP_widest_6 (by decide) h (fun h => ?_) (fun h => ?_)
  · refine lv_aload_n S.1 S.2.1 d_LP_widest_11 rfl (lv_at hl 0 rfl) ?_
    refine m_gs (t := 94) S M (j := 7) ok_LP (by decide) rfl (by decide) rfl kw_353 rfl d_LP_widest_12 ?_
    refine lv_iload_n S.1 S.2.1 d_LP_widest_15 rfl (lv_at hl 1 rfl) ?_
    refine m_xv h (fun o ho => m_rV (As := [.int x1]) (rest := []) S M hl.1 (cwG (n := 1) S.2.2.2.2 kw_354 kw_355 kw_356 kw_357 kw_358 (by decide) ⟨Nat.le_of_ble_eq_true rfl, Nat.le_of_ble_eq_true rfl⟩) ok_Wi (by decide) rfl (c_Wi_spread l D cA ad σ x1 o ho _) rfl rfl (Nat.le_of_ble_eq_true rfl) d_LP_widest_16 ⟨Nat.zero_le _, Nat.zero_le _⟩) M (fun σ2 H locs h M => ?_)
    refine lv_aload_n S.1 S.2.1 d_LP_widest_19 rfl (lv_at hl 0 rfl) ?_
    refine m_gs (t := 94) S M (j := 7) ok_LP (by decide) rfl (by decide) rfl kw_353 rfl d_LP_widest_20 ?_
    refine m_gs (t := 95) S M (j := 1) ok_Wi (by decide) rfl (by decide) rfl kw_359 rfl d_LP_widest_23 ?_
    refine lv_iload_n S.1 S.2.1 d_LP_widest_26 rfl (lv_at hl 2 rfl) ?_
    refine m_ial (t0 := 0) S M (by decide) rfl rfl h d_LP_widest_27 (fun h => ?_)
    refine lv_iconst (v := (-1)) S.1 S.2.1 d_LP_widest_28 (by decide) ?_
    refine m_ine (tgt := 37) S d_LP_widest_29 (by decide) h (fun h => ?_) (fun h => ?_)
    · refine lv_aload_n S.1 S.2.1 d_LP_widest_37 rfl (lv_at hl 0 rfl) ?_
      refine m_gs (t := 94) S M (j := 7) ok_LP (by decide) rfl (by decide) rfl kw_353 rfl d_LP_widest_38 ?_
      refine m_gs (t := 95) S M (j := 1) ok_Wi (by decide) rfl (by decide) rfl kw_359 rfl d_LP_widest_41 ?_
      refine lv_iload_n S.1 S.2.1 d_LP_widest_44 rfl (lv_at hl 2 rfl) ?_
      refine m_ial (t0 := 0) S M (by decide) rfl rfl h d_LP_widest_45 (fun h => ?_)
      subst hQ; exact m_iret S hr hlk M (Option.some.inj h) d_LP_widest_46
    · refine lv_bipush (v := (-3)) S.1 S.2.1 d_LP_widest_32 (by decide) ?_
      refine lv_goto (tgt := 46) S.1 S.2.1 d_LP_widest_34 (by decide) ?_
      subst hQ; exact m_iret S hr hlk M (Option.some.inj h) d_LP_widest_46
  · refine lv_iconst (v := (-1)) S.1 S.2.1 d_LP_widest_9 (by decide) ?_
    subst hQ; exact m_iret S hr hlk M (Option.some.inj h) d_LP_widest_10
theorem d_LP_trust_0 : decode prog_1_method_24_code 0 = .ok (.aload_n 0, 1) := by decide +kernel
theorem d_LP_trust_1 : decode prog_1_method_24_code 1 = .ok (.iload_n 1, 1) := by decide +kernel
theorem d_LP_trust_2 : decode prog_1_method_24_code 2 = .ok (.iload_n 2, 1) := by decide +kernel
theorem d_LP_trust_3 : decode prog_1_method_24_code 3 = .ok (.invokevirtual 91, 3) := by decide +kernel
theorem d_LP_trust_6 : decode prog_1_method_24_code 6 = .ok (.ifCond .ne 5, 3) := by decide +kernel
theorem d_LP_trust_9 : decode prog_1_method_24_code 9 = .ok (.iconst (-1), 1) := by decide +kernel
theorem d_LP_trust_10 : decode prog_1_method_24_code 10 = .ok (.ireturn, 1) := by decide +kernel
theorem d_LP_trust_11 : decode prog_1_method_24_code 11 = .ok (.iload_n 3, 1) := by decide +kernel
theorem d_LP_trust_12 : decode prog_1_method_24_code 12 = .ok (.ifCond .eq 11, 3) := by decide +kernel
theorem d_LP_trust_15 : decode prog_1_method_24_code 15 = .ok (.iload_n 3, 1) := by decide +kernel
theorem d_LP_trust_16 : decode prog_1_method_24_code 16 = .ok (.iconst 1, 1) := by decide +kernel
theorem d_LP_trust_17 : decode prog_1_method_24_code 17 = .ok (.if_icmp .eq 6, 3) := by decide +kernel
theorem d_LP_trust_20 : decode prog_1_method_24_code 20 = .ok (.bipush (-2), 2) := by decide +kernel
theorem d_LP_trust_22 : decode prog_1_method_24_code 22 = .ok (.ireturn, 1) := by decide +kernel
theorem d_LP_trust_23 : decode prog_1_method_24_code 23 = .ok (.aload_n 0, 1) := by decide +kernel
theorem d_LP_trust_24 : decode prog_1_method_24_code 24 = .ok (.getfield 80, 3) := by decide +kernel
theorem d_LP_trust_27 : decode prog_1_method_24_code 27 = .ok (.iload_n 1, 1) := by decide +kernel
theorem d_LP_trust_28 : decode prog_1_method_24_code 28 = .ok (.invokevirtual 202, 3) := by decide +kernel
theorem d_LP_trust_31 : decode prog_1_method_24_code 31 = .ok (.aload_n 0, 1) := by decide +kernel
theorem d_LP_trust_32 : decode prog_1_method_24_code 32 = .ok (.getfield 80, 3) := by decide +kernel
theorem d_LP_trust_35 : decode prog_1_method_24_code 35 = .ok (.iload_n 2, 1) := by decide +kernel
theorem d_LP_trust_36 : decode prog_1_method_24_code 36 = .ok (.invokevirtual 203, 3) := by decide +kernel
theorem d_LP_trust_39 : decode prog_1_method_24_code 39 = .ok (.ifCond .ne 6, 3) := by decide +kernel
theorem d_LP_trust_42 : decode prog_1_method_24_code 42 = .ok (.bipush (-3), 2) := by decide +kernel
theorem d_LP_trust_44 : decode prog_1_method_24_code 44 = .ok (.ireturn, 1) := by decide +kernel
theorem d_LP_trust_45 : decode prog_1_method_24_code 45 = .ok (.aload_n 0, 1) := by decide +kernel
theorem d_LP_trust_46 : decode prog_1_method_24_code 46 = .ok (.getfield 80, 3) := by decide +kernel
theorem d_LP_trust_49 : decode prog_1_method_24_code 49 = .ok (.iload_n 2, 1) := by decide +kernel
theorem d_LP_trust_50 : decode prog_1_method_24_code 50 = .ok (.iload_n 3, 1) := by decide +kernel
theorem d_LP_trust_51 : decode prog_1_method_24_code 51 = .ok (.invokevirtual 204, 3) := by decide +kernel
theorem d_LP_trust_54 : decode prog_1_method_24_code 54 = .ok (.ireturn, 1) := by decide +kernel
def rm_LP_trust : Room := { frames := 3, cells := 0, slots := 0, locals := 70 }
def f_LP_trust (σ : mS) (x1 : Int32) (x2 : Int32) (x3 : Int32) : Option (Int32 × mS) :=
  (f_LP_isPair σ x1 x2).bind fun v1 =>
  if v1 = 0 then (
  some ((-1), σ)) else (
  if x3 = 0 then (
  (f_Tr_spread σ x1).bind fun σ2 =>
  (f_Tr_knows σ2 x2).bind fun v3 =>
  if v3 = 0 then (
  some ((-3), σ2)) else (
  (f_Tr_lowestTerm σ2 x2 x3).bind fun v4 =>
  some (v4, σ2))) else (
  if x3 = 1 then (
  (f_Tr_spread σ x1).bind fun σ5 =>
  (f_Tr_knows σ5 x2).bind fun v6 =>
  if v6 = 0 then (
  some ((-3), σ5)) else (
  (f_Tr_lowestTerm σ5 x2 x3).bind fun v7 =>
  some (v7, σ5))) else (
  some ((-2), σ))))
set_option maxHeartbeats 4000000 in
set_option maxRecDepth 100000 in
theorem c_LP_trust (l : Launch) (D : va_G) (cA ad : Nat → Nat) (σ : mS) (x1 : Int32) (x2 : Int32) (x3 : Int32) (o : Int32 × mS) (h : f_LP_trust σ x1 x2 x3 = some o) : mCi l ⟨"LeastPaths", "trust", "(III)I"⟩ (Cond.code ⟨"LeastPaths", "trust", "(III)I"⟩ prog_1_method_24_code 4 (Option.some Jvm.ClassFile.FieldType.int) :: tlG) rm_LP_trust D clX (tyK cA) 99 (tbX cA) ad σ [.ref (ad 0), .int x1, .int x2, .int x3] o := by
  intro sz
  refine m_of (cc := prog_1_method_24_code) (maxL := 4) (Qc := mQi D clX (tyK cA) 99 (tbX cA) ad o) (by decide) (Nat.le_of_ble_eq_true rfl) (fun p e s m args below meth c ls S hr hlk hnm hl M => ?_) sz
  have hl : lv_has ls 4 [(0, .ref (ad 0)), (1, .int x1), (2, .int x2), (3, .int x3)] := hl
  generalize hQ : MQ _ _ _ _ _ _ _ = Q
  skip
  unfold f_LP_trust at h
  refine lv_aload_n S.1 S.2.1 d_LP_trust_0 rfl (lv_at hl 0 rfl) ?_
  refine lv_iload_n S.1 S.2.1 d_LP_trust_1 rfl (lv_at hl 1 rfl) ?_
  refine lv_iload_n S.1 S.2.1 d_LP_trust_2 rfl (lv_at hl 2 rfl) ?_
  refine m_xip h (fun o ho => m_rV (As := [.int x1, .int x2]) (rest := []) S M hl.1 (cwG (n := 2) S.2.2.2.2 kw_282 kw_283 kw_284 kw_280 kw_285 (by decide) ⟨Nat.le_of_ble_eq_true rfl, Nat.le_of_ble_eq_true rfl⟩) ok_LP (by decide) rfl (c_LP_isPair l D cA ad σ x1 x2 o ho _) rfl rfl (Nat.le_of_ble_eq_true rfl) d_LP_trust_3 ⟨Nat.zero_le _, Nat.zero_le _⟩) M (fun v1 H locs h M => ?_)
  refine m_ifne (tgt := 11) S d_LP_trust_6 (by decide) h (fun h => ?_) (fun h => ?_)
  · refine lv_iload_n S.1 S.2.1 d_LP_trust_11 rfl (lv_at hl 3 rfl) ?_
    refine m_ifeq (tgt := 23) S d_LP_trust_12 (by decide) h (fun h => ?_) (fun h => ?_)
    · refine lv_aload_n S.1 S.2.1 d_LP_trust_23 rfl (lv_at hl 0 rfl) ?_
      refine m_gs (t := 96) S M (j := 8) ok_LP (by decide) rfl (by decide) rfl kw_360 rfl d_LP_trust_24 ?_
      refine lv_iload_n S.1 S.2.1 d_LP_trust_27 rfl (lv_at hl 1 rfl) ?_
      refine m_xv h (fun o ho => m_rV (As := [.int x1]) (rest := []) S M hl.1 (cwG (n := 1) S.2.2.2.2 kw_361 kw_362 kw_363 kw_180 kw_364 (by decide) ⟨Nat.le_of_ble_eq_true rfl, Nat.le_of_ble_eq_true rfl⟩) ok_Tr (by decide) rfl (c_Tr_spread l D cA ad σ x1 o ho _) rfl rfl (Nat.le_of_ble_eq_true rfl) d_LP_trust_28 ⟨Nat.zero_le _, Nat.zero_le _⟩) M (fun σ2 H locs h M => ?_)
      refine lv_aload_n S.1 S.2.1 d_LP_trust_31 rfl (lv_at hl 0 rfl) ?_
      refine m_gs (t := 96) S M (j := 8) ok_LP (by decide) rfl (by decide) rfl kw_360 rfl d_LP_trust_32 ?_
      refine lv_iload_n S.1 S.2.1 d_LP_trust_35 rfl (lv_at hl 2 rfl) ?_
      refine m_xip h (fun o ho => m_rV (As := [.int x2]) (rest := []) S M hl.1 (cwG (n := 1) S.2.2.2.2 kw_365 kw_178 kw_179 kw_180 kw_181 (by decide) ⟨Nat.le_of_ble_eq_true rfl, Nat.le_of_ble_eq_true rfl⟩) ok_Tr (by decide) rfl (c_Tr_knows l D cA ad σ2 x2 o ho _) rfl rfl (Nat.le_of_ble_eq_true rfl) d_LP_trust_36 ⟨Nat.zero_le _, Nat.zero_le _⟩) M (fun v3 H locs h M => ?_)
      refine m_ifne (tgt := 45) S d_LP_trust_39 (by decide) h (fun h => ?_) (fun h => ?_)
      · refine lv_aload_n S.1 S.2.1 d_LP_trust_45 rfl (lv_at hl 0 rfl) ?_
        refine m_gs (t := 96) S M (j := 8) ok_LP (by decide) rfl (by decide) rfl kw_360 rfl d_LP_trust_46 ?_
        refine lv_iload_n S.1 S.2.1 d_LP_trust_49 rfl (lv_at hl 2 rfl) ?_
        refine lv_iload_n S.1 S.2.1 d_LP_trust_50 rfl (lv_at hl 3 rfl) ?_
        refine m_xip h (fun o ho => m_rV (As := [.int x2, .int x3]) (rest := []) S M hl.1 (cwG (n := 2) S.2.2.2.2 kw_366 kw_367 kw_368 kw_180 kw_369 (by decide) ⟨Nat.le_of_ble_eq_true rfl, Nat.le_of_ble_eq_true rfl⟩) ok_Tr (by decide) rfl (c_Tr_lowestTerm l D cA ad σ2 x2 x3 o ho _) rfl rfl (Nat.le_of_ble_eq_true rfl) d_LP_trust_51 ⟨Nat.zero_le _, Nat.zero_le _⟩) M (fun v4 H locs h M => ?_)
        subst hQ; exact m_iret S hr hlk M (Option.some.inj h) d_LP_trust_54
      · refine lv_bipush (v := (-3)) S.1 S.2.1 d_LP_trust_42 (by decide) ?_
        subst hQ; exact m_iret S hr hlk M (Option.some.inj h) d_LP_trust_44
    · refine lv_iload_n S.1 S.2.1 d_LP_trust_15 rfl (lv_at hl 3 rfl) ?_
      refine lv_iconst (v := 1) S.1 S.2.1 d_LP_trust_16 (by decide) ?_
      refine m_ieq (tgt := 23) S d_LP_trust_17 (by decide) h (fun h => ?_) (fun h => ?_)
      · refine lv_aload_n S.1 S.2.1 d_LP_trust_23 rfl (lv_at hl 0 rfl) ?_
        refine m_gs (t := 96) S M (j := 8) ok_LP (by decide) rfl (by decide) rfl kw_360 rfl d_LP_trust_24 ?_
        refine lv_iload_n S.1 S.2.1 d_LP_trust_27 rfl (lv_at hl 1 rfl) ?_
        refine m_xv h (fun o ho => m_rV (As := [.int x1]) (rest := []) S M hl.1 (cwG (n := 1) S.2.2.2.2 kw_361 kw_362 kw_363 kw_180 kw_364 (by decide) ⟨Nat.le_of_ble_eq_true rfl, Nat.le_of_ble_eq_true rfl⟩) ok_Tr (by decide) rfl (c_Tr_spread l D cA ad σ x1 o ho _) rfl rfl (Nat.le_of_ble_eq_true rfl) d_LP_trust_28 ⟨Nat.zero_le _, Nat.zero_le _⟩) M (fun σ5 H locs h M => ?_)
        refine lv_aload_n S.1 S.2.1 d_LP_trust_31 rfl (lv_at hl 0 rfl) ?_
        refine m_gs (t := 96) S M (j := 8) ok_LP (by decide) rfl (by decide) rfl kw_360 rfl d_LP_trust_32 ?_
        refine lv_iload_n S.1 S.2.1 d_LP_trust_35 rfl (lv_at hl 2 rfl) ?_
        refine m_xip h (fun o ho => m_rV (As := [.int x2]) (rest := []) S M hl.1 (cwG (n := 1) S.2.2.2.2 kw_365 kw_178 kw_179 kw_180 kw_181 (by decide) ⟨Nat.le_of_ble_eq_true rfl, Nat.le_of_ble_eq_true rfl⟩) ok_Tr (by decide) rfl (c_Tr_knows l D cA ad σ5 x2 o ho _) rfl rfl (Nat.le_of_ble_eq_true rfl) d_LP_trust_36 ⟨Nat.zero_le _, Nat.zero_le _⟩) M (fun v6 H locs h M => ?_)
        refine m_ifne (tgt := 45) S d_LP_trust_39 (by decide) h (fun h => ?_) (fun h => ?_)
        · refine lv_aload_n S.1 S.2.1 d_LP_trust_45 rfl (lv_at hl 0 rfl) ?_
          refine m_gs (t := 96) S M (j := 8) ok_LP (by decide) rfl (by decide) rfl kw_360 rfl d_LP_trust_46 ?_
          refine lv_iload_n S.1 S.2.1 d_LP_trust_49 rfl (lv_at hl 2 rfl) ?_
          refine lv_iload_n S.1 S.2.1 d_LP_trust_50 rfl (lv_at hl 3 rfl) ?_
          refine m_xip h (fun o ho => m_rV (As := [.int x2, .int x3]) (rest := []) S M hl.1 (cwG (n := 2) S.2.2.2.2 kw_366 kw_367 kw_368 kw_180 kw_369 (by decide) ⟨Nat.le_of_ble_eq_true rfl, Nat.le_of_ble_eq_true rfl⟩) ok_Tr (by decide) rfl (c_Tr_lowestTerm l D cA ad σ5 x2 x3 o ho _) rfl rfl (Nat.le_of_ble_eq_true rfl) d_LP_trust_51 ⟨Nat.zero_le _, Nat.zero_le _⟩) M (fun v7 H locs h M => ?_)
          subst hQ; exact m_iret S hr hlk M (Option.some.inj h) d_LP_trust_54
        · refine lv_bipush (v := (-3)) S.1 S.2.1 d_LP_trust_42 (by decide) ?_
          subst hQ; exact m_iret S hr hlk M (Option.some.inj h) d_LP_trust_44
      · refine lv_bipush (v := (-2)) S.1 S.2.1 d_LP_trust_20 (by decide) ?_
        subst hQ; exact m_iret S hr hlk M (Option.some.inj h) d_LP_trust_22
  · refine lv_iconst (v := (-1)) S.1 S.2.1 d_LP_trust_9 (by decide) ?_
    subst hQ; exact m_iret S hr hlk M (Option.some.inj h) d_LP_trust_10
theorem d_LP_ring_0 : decode prog_1_method_25_code 0 = .ok (.aload_n 0, 1) := by decide +kernel
theorem d_LP_ring_1 : decode prog_1_method_25_code 1 = .ok (.getfield 64, 3) := by decide +kernel
theorem d_LP_ring_4 : decode prog_1_method_25_code 4 = .ok (.invokevirtual 207, 3) := by decide +kernel
theorem d_LP_ring_7 : decode prog_1_method_25_code 7 = .ok (.aload_n 0, 1) := by decide +kernel
theorem d_LP_ring_8 : decode prog_1_method_25_code 8 = .ok (.getfield 64, 3) := by decide +kernel
theorem d_LP_ring_11 : decode prog_1_method_25_code 11 = .ok (.getfield 210, 3) := by decide +kernel
theorem d_LP_ring_14 : decode prog_1_method_25_code 14 = .ok (.getfield 214, 3) := by decide +kernel
theorem d_LP_ring_17 : decode prog_1_method_25_code 17 = .ok (.ifCond .ne 8, 3) := by decide +kernel
theorem d_LP_ring_20 : decode prog_1_method_25_code 20 = .ok (.bipush (-3), 2) := by decide +kernel
theorem d_LP_ring_22 : decode prog_1_method_25_code 22 = .ok (.goto 16, 3) := by decide +kernel
theorem d_LP_ring_25 : decode prog_1_method_25_code 25 = .ok (.aload_n 0, 1) := by decide +kernel
theorem d_LP_ring_26 : decode prog_1_method_25_code 26 = .ok (.getfield 64, 3) := by decide +kernel
theorem d_LP_ring_29 : decode prog_1_method_25_code 29 = .ok (.getfield 210, 3) := by decide +kernel
theorem d_LP_ring_32 : decode prog_1_method_25_code 32 = .ok (.getfield 188, 3) := by decide +kernel
theorem d_LP_ring_35 : decode prog_1_method_25_code 35 = .ok (.bipush 16, 2) := by decide +kernel
theorem d_LP_ring_37 : decode prog_1_method_25_code 37 = .ok (.idiv, 1) := by decide +kernel
theorem d_LP_ring_38 : decode prog_1_method_25_code 38 = .ok (.ireturn, 1) := by decide +kernel
def rm_LP_ring : Room := { frames := 6, cells := 0, slots := 0, locals := 135 }
def f_LP_ring (σ : mS) : Option (Int32 × mS) :=
  (f_Rg_find σ).bind fun σ1 =>
  if (σ1.1 92 1) = 0 then (
  some ((-3), σ1)) else (
  gd (isN 16) (
  some ((σ1.1 92 2) / 16, σ1)))
set_option maxHeartbeats 4000000 in
set_option maxRecDepth 100000 in
theorem c_LP_ring (l : Launch) (D : va_G) (cA ad : Nat → Nat) (σ : mS) (o : Int32 × mS) (h : f_LP_ring σ = some o) : mCi l ⟨"LeastPaths", "ring", "()I"⟩ (Cond.code ⟨"LeastPaths", "ring", "()I"⟩ prog_1_method_25_code 1 (Option.some Jvm.ClassFile.FieldType.int) :: tlG) rm_LP_ring D clX (tyK cA) 99 (tbX cA) ad σ [.ref (ad 0)] o := by
  intro sz
  refine m_of (cc := prog_1_method_25_code) (maxL := 1) (Qc := mQi D clX (tyK cA) 99 (tbX cA) ad o) (by decide) (Nat.le_of_ble_eq_true rfl) (fun p e s m args below meth c ls S hr hlk hnm hl M => ?_) sz
  have hl : lv_has ls 1 [(0, .ref (ad 0))] := hl
  generalize hQ : MQ _ _ _ _ _ _ _ = Q
  skip
  unfold f_LP_ring at h
  refine lv_aload_n S.1 S.2.1 d_LP_ring_0 rfl (lv_at hl 0 rfl) ?_
  refine m_gs (t := 91) S M (j := 6) ok_LP (by decide) rfl (by decide) rfl kw_370 rfl d_LP_ring_1 ?_
  refine m_xv h (fun o ho => m_rV (As := []) (rest := []) S M hl.1 (cwG (n := 0) S.2.2.2.2 kw_371 kw_372 kw_373 kw_227 kw_374 (by decide) ⟨Nat.le_of_ble_eq_true rfl, Nat.le_of_ble_eq_true rfl⟩) ok_Rg (by decide) rfl (c_Rg_find l D cA ad σ o ho _) rfl rfl (Nat.le_of_ble_eq_true rfl) d_LP_ring_4 ⟨Nat.zero_le _, Nat.zero_le _⟩) M (fun σ1 H locs h M => ?_)
  refine lv_aload_n S.1 S.2.1 d_LP_ring_7 rfl (lv_at hl 0 rfl) ?_
  refine m_gs (t := 91) S M (j := 6) ok_LP (by decide) rfl (by decide) rfl kw_370 rfl d_LP_ring_8 ?_
  refine m_gs (t := 92) S M (j := 2) ok_Rg (by decide) rfl (by decide) rfl kw_375 rfl d_LP_ring_11 ?_
  refine m_gi S M (j := 1) ok_Wy (by decide) rfl (by decide) rfl kw_376 rfl d_LP_ring_14 ?_
  refine m_ifne (tgt := 25) S d_LP_ring_17 (by decide) h (fun h => ?_) (fun h => ?_)
  · refine lv_aload_n S.1 S.2.1 d_LP_ring_25 rfl (lv_at hl 0 rfl) ?_
    refine m_gs (t := 91) S M (j := 6) ok_LP (by decide) rfl (by decide) rfl kw_370 rfl d_LP_ring_26 ?_
    refine m_gs (t := 92) S M (j := 2) ok_Rg (by decide) rfl (by decide) rfl kw_375 rfl d_LP_ring_29 ?_
    refine m_gi S M (j := 2) ok_Wy (by decide) rfl (by decide) rfl kw_348 rfl d_LP_ring_32 ?_
    refine lv_bipush (v := 16) S.1 S.2.1 d_LP_ring_35 (by decide) ?_
    refine m_idiv S d_LP_ring_37 h (fun h => ?_)
    subst hQ; exact m_iret S hr hlk M (Option.some.inj h) d_LP_ring_38
  · refine lv_bipush (v := (-3)) S.1 S.2.1 d_LP_ring_20 (by decide) ?_
    refine lv_goto (tgt := 38) S.1 S.2.1 d_LP_ring_22 (by decide) ?_
    subst hQ; exact m_iret S hr hlk M (Option.some.inj h) d_LP_ring_38
theorem d_LP_ringArc_0 : decode prog_1_method_26_code 0 = .ok (.aload_n 0, 1) := by decide +kernel
theorem d_LP_ringArc_1 : decode prog_1_method_26_code 1 = .ok (.getfield 64, 3) := by decide +kernel
theorem d_LP_ringArc_4 : decode prog_1_method_26_code 4 = .ok (.invokevirtual 207, 3) := by decide +kernel
theorem d_LP_ringArc_7 : decode prog_1_method_26_code 7 = .ok (.aload_n 0, 1) := by decide +kernel
theorem d_LP_ringArc_8 : decode prog_1_method_26_code 8 = .ok (.getfield 64, 3) := by decide +kernel
theorem d_LP_ringArc_11 : decode prog_1_method_26_code 11 = .ok (.getfield 210, 3) := by decide +kernel
theorem d_LP_ringArc_14 : decode prog_1_method_26_code 14 = .ok (.getfield 214, 3) := by decide +kernel
theorem d_LP_ringArc_17 : decode prog_1_method_26_code 17 = .ok (.ifCond .ne 8, 3) := by decide +kernel
theorem d_LP_ringArc_20 : decode prog_1_method_26_code 20 = .ok (.bipush (-3), 2) := by decide +kernel
theorem d_LP_ringArc_22 : decode prog_1_method_26_code 22 = .ok (.goto 14, 3) := by decide +kernel
theorem d_LP_ringArc_25 : decode prog_1_method_26_code 25 = .ok (.aload_n 0, 1) := by decide +kernel
theorem d_LP_ringArc_26 : decode prog_1_method_26_code 26 = .ok (.getfield 64, 3) := by decide +kernel
theorem d_LP_ringArc_29 : decode prog_1_method_26_code 29 = .ok (.getfield 210, 3) := by decide +kernel
theorem d_LP_ringArc_32 : decode prog_1_method_26_code 32 = .ok (.iload_n 1, 1) := by decide +kernel
theorem d_LP_ringArc_33 : decode prog_1_method_26_code 33 = .ok (.invokevirtual 192, 3) := by decide +kernel
theorem d_LP_ringArc_36 : decode prog_1_method_26_code 36 = .ok (.ireturn, 1) := by decide +kernel
def rm_LP_ringArc : Room := { frames := 6, cells := 0, slots := 0, locals := 135 }
def f_LP_ringArc (σ : mS) (x1 : Int32) : Option (Int32 × mS) :=
  (f_Rg_find σ).bind fun σ1 =>
  if (σ1.1 92 1) = 0 then (
  some ((-3), σ1)) else (
  (f_Wy_arcAt 92 σ1 x1).bind fun v2 =>
  some (v2, σ1))
set_option maxHeartbeats 4000000 in
set_option maxRecDepth 100000 in
theorem c_LP_ringArc (l : Launch) (D : va_G) (cA ad : Nat → Nat) (σ : mS) (x1 : Int32) (o : Int32 × mS) (h : f_LP_ringArc σ x1 = some o) : mCi l ⟨"LeastPaths", "ringArc", "(I)I"⟩ (Cond.code ⟨"LeastPaths", "ringArc", "(I)I"⟩ prog_1_method_26_code 2 (Option.some Jvm.ClassFile.FieldType.int) :: tlG) rm_LP_ringArc D clX (tyK cA) 99 (tbX cA) ad σ [.ref (ad 0), .int x1] o := by
  intro sz
  refine m_of (cc := prog_1_method_26_code) (maxL := 2) (Qc := mQi D clX (tyK cA) 99 (tbX cA) ad o) (by decide) (Nat.le_of_ble_eq_true rfl) (fun p e s m args below meth c ls S hr hlk hnm hl M => ?_) sz
  have hl : lv_has ls 2 [(0, .ref (ad 0)), (1, .int x1)] := hl
  generalize hQ : MQ _ _ _ _ _ _ _ = Q
  skip
  unfold f_LP_ringArc at h
  refine lv_aload_n S.1 S.2.1 d_LP_ringArc_0 rfl (lv_at hl 0 rfl) ?_
  refine m_gs (t := 91) S M (j := 6) ok_LP (by decide) rfl (by decide) rfl kw_370 rfl d_LP_ringArc_1 ?_
  refine m_xv h (fun o ho => m_rV (As := []) (rest := []) S M hl.1 (cwG (n := 0) S.2.2.2.2 kw_371 kw_372 kw_373 kw_227 kw_374 (by decide) ⟨Nat.le_of_ble_eq_true rfl, Nat.le_of_ble_eq_true rfl⟩) ok_Rg (by decide) rfl (c_Rg_find l D cA ad σ o ho _) rfl rfl (Nat.le_of_ble_eq_true rfl) d_LP_ringArc_4 ⟨Nat.zero_le _, Nat.zero_le _⟩) M (fun σ1 H locs h M => ?_)
  refine lv_aload_n S.1 S.2.1 d_LP_ringArc_7 rfl (lv_at hl 0 rfl) ?_
  refine m_gs (t := 91) S M (j := 6) ok_LP (by decide) rfl (by decide) rfl kw_370 rfl d_LP_ringArc_8 ?_
  refine m_gs (t := 92) S M (j := 2) ok_Rg (by decide) rfl (by decide) rfl kw_375 rfl d_LP_ringArc_11 ?_
  refine m_gi S M (j := 1) ok_Wy (by decide) rfl (by decide) rfl kw_376 rfl d_LP_ringArc_14 ?_
  refine m_ifne (tgt := 25) S d_LP_ringArc_17 (by decide) h (fun h => ?_) (fun h => ?_)
  · refine lv_aload_n S.1 S.2.1 d_LP_ringArc_25 rfl (lv_at hl 0 rfl) ?_
    refine m_gs (t := 91) S M (j := 6) ok_LP (by decide) rfl (by decide) rfl kw_370 rfl d_LP_ringArc_26 ?_
    refine m_gs (t := 92) S M (j := 2) ok_Rg (by decide) rfl (by decide) rfl kw_375 rfl d_LP_ringArc_29 ?_
    refine lv_iload_n S.1 S.2.1 d_LP_ringArc_32 rfl (lv_at hl 1 rfl) ?_
    refine m_xip h (fun o ho => m_rV (As := [.int x1]) (rest := []) S M hl.1 (cwG (n := 1) S.2.2.2.2 kw_349 kw_350 kw_351 kw_128 kw_352 (by decide) ⟨Nat.le_of_ble_eq_true rfl, Nat.le_of_ble_eq_true rfl⟩) ok_Wy (by decide) rfl (c_Wy_arcAt l D cA ad wy_92 σ1 x1 o ho _) rfl rfl (Nat.le_of_ble_eq_true rfl) d_LP_ringArc_33 ⟨Nat.zero_le _, Nat.zero_le _⟩) M (fun v2 H locs h M => ?_)
    subst hQ; exact m_iret S hr hlk M (Option.some.inj h) d_LP_ringArc_36
  · refine lv_bipush (v := (-3)) S.1 S.2.1 d_LP_ringArc_20 (by decide) ?_
    refine lv_goto (tgt := 36) S.1 S.2.1 d_LP_ringArc_22 (by decide) ?_
    subst hQ; exact m_iret S hr hlk M (Option.some.inj h) d_LP_ringArc_36
theorem d_LP_lengthWithout_0 : decode prog_1_method_32_code 0 = .ok (.aload_n 0, 1) := by decide +kernel
theorem d_LP_lengthWithout_1 : decode prog_1_method_32_code 1 = .ok (.getfield 36, 3) := by decide +kernel
theorem d_LP_lengthWithout_4 : decode prog_1_method_32_code 4 = .ok (.aload_n 0, 1) := by decide +kernel
theorem d_LP_lengthWithout_5 : decode prog_1_method_32_code 5 = .ok (.getfield 27, 3) := by decide +kernel
theorem d_LP_lengthWithout_8 : decode prog_1_method_32_code 8 = .ok (.getfield 114, 3) := by decide +kernel
theorem d_LP_lengthWithout_11 : decode prog_1_method_32_code 11 = .ok (.lload_n 3, 1) := by decide +kernel
theorem d_LP_lengthWithout_12 : decode prog_1_method_32_code 12 = .ok (.ldc2_w 118, 3) := by decide +kernel
theorem d_LP_lengthWithout_15 : decode prog_1_method_32_code 15 = .ok (.lxor, 1) := by decide +kernel
theorem d_LP_lengthWithout_16 : decode prog_1_method_32_code 16 = .ok (.land, 1) := by decide +kernel
theorem d_LP_lengthWithout_17 : decode prog_1_method_32_code 17 = .ok (.iconst 0, 1) := by decide +kernel
theorem d_LP_lengthWithout_18 : decode prog_1_method_32_code 18 = .ok (.invokevirtual 221, 3) := by decide +kernel
theorem d_LP_lengthWithout_21 : decode prog_1_method_32_code 21 = .ok (.aload_n 0, 1) := by decide +kernel
theorem d_LP_lengthWithout_22 : decode prog_1_method_32_code 22 = .ok (.getfield 36, 3) := by decide +kernel
theorem d_LP_lengthWithout_25 : decode prog_1_method_32_code 25 = .ok (.iload_n 1, 1) := by decide +kernel
theorem d_LP_lengthWithout_26 : decode prog_1_method_32_code 26 = .ok (.iconst 0, 1) := by decide +kernel
theorem d_LP_lengthWithout_27 : decode prog_1_method_32_code 27 = .ok (.invokevirtual 225, 3) := by decide +kernel
theorem d_LP_lengthWithout_30 : decode prog_1_method_32_code 30 = .ok (.aload_n 0, 1) := by decide +kernel
theorem d_LP_lengthWithout_31 : decode prog_1_method_32_code 31 = .ok (.getfield 36, 3) := by decide +kernel
theorem d_LP_lengthWithout_34 : decode prog_1_method_32_code 34 = .ok (.invokevirtual 228, 3) := by decide +kernel
theorem d_LP_lengthWithout_37 : decode prog_1_method_32_code 37 = .ok (.aload_n 0, 1) := by decide +kernel
theorem d_LP_lengthWithout_38 : decode prog_1_method_32_code 38 = .ok (.getfield 36, 3) := by decide +kernel
theorem d_LP_lengthWithout_41 : decode prog_1_method_32_code 41 = .ok (.iload_n 2, 1) := by decide +kernel
theorem d_LP_lengthWithout_42 : decode prog_1_method_32_code 42 = .ok (.invokevirtual 138, 3) := by decide +kernel
theorem d_LP_lengthWithout_45 : decode prog_1_method_32_code 45 = .ok (.ifCond .eq 18, 3) := by decide +kernel
theorem d_LP_lengthWithout_48 : decode prog_1_method_32_code 48 = .ok (.aload_n 0, 1) := by decide +kernel
theorem d_LP_lengthWithout_49 : decode prog_1_method_32_code 49 = .ok (.getfield 36, 3) := by decide +kernel
theorem d_LP_lengthWithout_52 : decode prog_1_method_32_code 52 = .ok (.getfield 141, 3) := by decide +kernel
theorem d_LP_lengthWithout_55 : decode prog_1_method_32_code 55 = .ok (.iload_n 2, 1) := by decide +kernel
theorem d_LP_lengthWithout_56 : decode prog_1_method_32_code 56 = .ok (.iaload, 1) := by decide +kernel
theorem d_LP_lengthWithout_57 : decode prog_1_method_32_code 57 = .ok (.bipush 16, 2) := by decide +kernel
theorem d_LP_lengthWithout_59 : decode prog_1_method_32_code 59 = .ok (.idiv, 1) := by decide +kernel
theorem d_LP_lengthWithout_60 : decode prog_1_method_32_code 60 = .ok (.goto 5, 3) := by decide +kernel
theorem d_LP_lengthWithout_63 : decode prog_1_method_32_code 63 = .ok (.ldc 176, 2) := by decide +kernel
theorem d_LP_lengthWithout_65 : decode prog_1_method_32_code 65 = .ok (.ireturn, 1) := by decide +kernel
def rm_LP_lengthWithout : Room := { frames := 5, cells := 0, slots := 0, locals := 113 }
def f_LP_lengthWithout (σ : mS) (x1 : Int32) (x2 : Int32) (x3 : Int64) : Option (Int32 × mS) :=
  (f_Se_beginCounted 8 σ ((σ.2.1 1 8) &&& (x3 ^^^ ((-1)))) 0).bind fun σ1 =>
  (f_Se_offer 8 σ1 x1 0).bind fun σ2 =>
  (f_Se_settleAll 8 σ2).bind fun σ3 =>
  (f_Se_knows 8 σ3 x2).bind fun v4 =>
  if v4 = 0 then (
  some (2147483647, σ3)) else (
  gd (inb x2 10) (
  gd (isN 16) (
  some ((σ3.1 9 x2.toNatClampNeg) / 16, σ3))))
set_option maxHeartbeats 4000000 in
set_option maxRecDepth 100000 in
theorem c_LP_lengthWithout (l : Launch) (D : va_G) (cA ad : Nat → Nat) (σ : mS) (x1 : Int32) (x2 : Int32) (x3 : Int64) (o : Int32 × mS) (h : f_LP_lengthWithout σ x1 x2 x3 = some o) : mCi l ⟨"LeastPaths", "lengthWithout", "(IIJ)I"⟩ (Cond.code ⟨"LeastPaths", "lengthWithout", "(IIJ)I"⟩ prog_1_method_32_code 5 (Option.some Jvm.ClassFile.FieldType.int) :: tlG) rm_LP_lengthWithout D clX (tyK cA) 99 (tbX cA) ad σ [.ref (ad 0), .int x1, .int x2, .long x3] o := by
  intro sz
  refine m_of (cc := prog_1_method_32_code) (maxL := 5) (Qc := mQi D clX (tyK cA) 99 (tbX cA) ad o) (by decide) (Nat.le_of_ble_eq_true rfl) (fun p e s m args below meth c ls S hr hlk hnm hl M => ?_) sz
  have hl : lv_has ls 5 [(0, .ref (ad 0)), (1, .int x1), (2, .int x2), (3, .long x3)] := hl
  generalize hQ : MQ _ _ _ _ _ _ _ = Q
  skip
  unfold f_LP_lengthWithout at h
  refine lv_aload_n S.1 S.2.1 d_LP_lengthWithout_0 rfl (lv_at hl 0 rfl) ?_
  refine m_gs (t := 8) S M (j := 2) ok_LP (by decide) rfl (by decide) rfl kw_303 rfl d_LP_lengthWithout_1 ?_
  refine lv_aload_n S.1 S.2.1 d_LP_lengthWithout_4 rfl (lv_at hl 0 rfl) ?_
  refine m_gs (t := 1) S M (j := 1) ok_LP (by decide) rfl (by decide) rfl kw_267 rfl d_LP_lengthWithout_5 ?_
  refine m_gl S M (j := 8) ok_Gr (by decide) rfl (by decide) rfl kw_295 rfl d_LP_lengthWithout_8 ?_
  refine lv_lload_n S.1 S.2.1 d_LP_lengthWithout_11 rfl (lv_at hl 3 rfl) ?_
  refine lv_ldc2 (v := (-1)) S.1 S.2.1 S.2.2.2.1 (S.2.2.2.2 _ kw_296) d_LP_lengthWithout_12 ?_
  refine lv_lxor S.1 S.2.1 d_LP_lengthWithout_15 ?_
  refine lv_land S.1 S.2.1 d_LP_lengthWithout_16 ?_
  refine lv_iconst (v := 0) S.1 S.2.1 d_LP_lengthWithout_17 (by decide) ?_
  refine m_xv h (fun o ho => m_rV (As := [.long ((σ.2.1 1 8) &&& (x3 ^^^ ((-1)))), .int 0]) (rest := []) S M hl.1 (cwG (n := 2) S.2.2.2.2 kw_304 kw_215 kw_216 kw_51 kw_217 (by decide) ⟨Nat.le_of_ble_eq_true rfl, Nat.le_of_ble_eq_true rfl⟩) ok_Se (by decide) rfl (c_Se_beginCounted l D cA ad sB_8 σ ((σ.2.1 1 8) &&& (x3 ^^^ ((-1)))) 0 o ho _) rfl rfl (Nat.le_of_ble_eq_true rfl) d_LP_lengthWithout_18 ⟨Nat.zero_le _, Nat.zero_le _⟩) M (fun σ1 H locs h M => ?_)
  refine lv_aload_n S.1 S.2.1 d_LP_lengthWithout_21 rfl (lv_at hl 0 rfl) ?_
  refine m_gs (t := 8) S M (j := 2) ok_LP (by decide) rfl (by decide) rfl kw_303 rfl d_LP_lengthWithout_22 ?_
  refine lv_iload_n S.1 S.2.1 d_LP_lengthWithout_25 rfl (lv_at hl 1 rfl) ?_
  refine lv_iconst (v := 0) S.1 S.2.1 d_LP_lengthWithout_26 (by decide) ?_
  refine m_xv h (fun o ho => m_rV (As := [.int x1, .int 0]) (rest := []) S M hl.1 (cwG (n := 2) S.2.2.2.2 kw_305 kw_97 kw_98 kw_51 kw_99 (by decide) ⟨Nat.le_of_ble_eq_true rfl, Nat.le_of_ble_eq_true rfl⟩) ok_Se (by decide) rfl (c_Se_offer l D cA ad sB_8 σ1 x1 0 o ho _) rfl rfl (Nat.le_of_ble_eq_true rfl) d_LP_lengthWithout_27 ⟨Nat.zero_le _, Nat.zero_le _⟩) M (fun σ2 H locs h M => ?_)
  refine lv_aload_n S.1 S.2.1 d_LP_lengthWithout_30 rfl (lv_at hl 0 rfl) ?_
  refine m_gs (t := 8) S M (j := 2) ok_LP (by decide) rfl (by decide) rfl kw_303 rfl d_LP_lengthWithout_31 ?_
  refine m_xv h (fun o ho => m_rV (As := []) (rest := []) S M hl.1 (cwG (n := 0) S.2.2.2.2 kw_306 kw_221 kw_222 kw_51 kw_223 (by decide) ⟨Nat.le_of_ble_eq_true rfl, Nat.le_of_ble_eq_true rfl⟩) ok_Se (by decide) rfl (c_Se_settleAll l D cA ad sB_8 σ2 o ho _) rfl rfl (Nat.le_of_ble_eq_true rfl) d_LP_lengthWithout_34 ⟨Nat.zero_le _, Nat.zero_le _⟩) M (fun σ3 H locs h M => ?_)
  refine lv_aload_n S.1 S.2.1 d_LP_lengthWithout_37 rfl (lv_at hl 0 rfl) ?_
  refine m_gs (t := 8) S M (j := 2) ok_LP (by decide) rfl (by decide) rfl kw_303 rfl d_LP_lengthWithout_38 ?_
  refine lv_iload_n S.1 S.2.1 d_LP_lengthWithout_41 rfl (lv_at hl 2 rfl) ?_
  refine m_xip h (fun o ho => m_rV (As := [.int x2]) (rest := []) S M hl.1 (cwG (n := 1) S.2.2.2.2 kw_311 kw_113 kw_114 kw_51 kw_115 (by decide) ⟨Nat.le_of_ble_eq_true rfl, Nat.le_of_ble_eq_true rfl⟩) ok_Se (by decide) rfl (c_Se_knows l D cA ad sB_8 σ3 x2 o ho _) rfl rfl (Nat.le_of_ble_eq_true rfl) d_LP_lengthWithout_42 ⟨Nat.zero_le _, Nat.zero_le _⟩) M (fun v4 H locs h M => ?_)
  refine m_ifeq (tgt := 63) S d_LP_lengthWithout_45 (by decide) h (fun h => ?_) (fun h => ?_)
  · refine lv_ldc (v := 2147483647) S.1 S.2.1 S.2.2.2.1 (S.2.2.2.2 _ kw_340) d_LP_lengthWithout_63 ?_
    subst hQ; exact m_iret S hr hlk M (Option.some.inj h) d_LP_lengthWithout_65
  · refine lv_aload_n S.1 S.2.1 d_LP_lengthWithout_48 rfl (lv_at hl 0 rfl) ?_
    refine m_gs (t := 8) S M (j := 2) ok_LP (by decide) rfl (by decide) rfl kw_303 rfl d_LP_lengthWithout_49 ?_
    refine m_gs (t := 9) S M (j := 3) ok_Se (by decide) rfl (by decide) rfl kw_312 rfl d_LP_lengthWithout_52 ?_
    refine lv_iload_n S.1 S.2.1 d_LP_lengthWithout_55 rfl (lv_at hl 2 rfl) ?_
    refine m_ial (t0 := 0) S M (by decide) rfl rfl h d_LP_lengthWithout_56 (fun h => ?_)
    refine lv_bipush (v := 16) S.1 S.2.1 d_LP_lengthWithout_57 (by decide) ?_
    refine m_idiv S d_LP_lengthWithout_59 h (fun h => ?_)
    refine lv_goto (tgt := 65) S.1 S.2.1 d_LP_lengthWithout_60 (by decide) ?_
    subst hQ; exact m_iret S hr hlk M (Option.some.inj h) d_LP_lengthWithout_65
