theorem d_LP_heap_0 : decode prog_1_method_2_code 0 = .ok (.aload_n 0, 1) := by decide +kernel
theorem d_LP_heap_1 : decode prog_1_method_2_code 1 = .ok (.getfield 20, 3) := by decide +kernel
theorem d_LP_heap_4 : decode prog_1_method_2_code 4 = .ok (.ireturn, 1) := by decide +kernel
def rm_LP_heap : Room := { frames := 0, cells := 0, slots := 0, locals := 0 }
def f_LP_heap (σ : mS) : Option (Int32) :=
  some (σ.1 0 0)
set_option maxHeartbeats 4000000 in
set_option maxRecDepth 100000 in
theorem c_LP_heap (l : Launch) (D : va_G) (cA ad : Nat → Nat) (σ : mS) (o : Int32) (h : f_LP_heap σ = some o) : mCi l ⟨"LeastPaths", "heap", "()I"⟩ (Cond.code ⟨"LeastPaths", "heap", "()I"⟩ prog_1_method_2_code 1 (Option.some Jvm.ClassFile.FieldType.int) :: tlG) rm_LP_heap D clX (tyK cA) 99 (tbX cA) ad σ [.ref (ad 0)] (o, σ) := by
  intro sz
  refine m_of (cc := prog_1_method_2_code) (maxL := 1) (Qc := mQi D clX (tyK cA) 99 (tbX cA) ad (o, σ)) (by decide) (Nat.le_of_ble_eq_true rfl) (fun p e s m args below meth c ls S hr hlk hnm hl M => ?_) sz
  have hl : lv_has ls 1 [(0, .ref (ad 0))] := hl
  generalize hQ : MQ _ _ _ _ _ _ _ = Q
  skip
  unfold f_LP_heap at h
  refine lv_aload_n S.1 S.2.1 d_LP_heap_0 rfl (lv_at hl 0 rfl) ?_
  refine m_gi S M (j := 0) ok_LP (by decide) rfl (by decide) rfl kw_266 rfl d_LP_heap_1 ?_
  subst hQ; exact m_iret S hr hlk M (by rw [Option.some.inj h]) d_LP_heap_4
theorem d_LP_node_0 : decode prog_1_method_3_code 0 = .ok (.aload_n 0, 1) := by decide +kernel
theorem d_LP_node_1 : decode prog_1_method_3_code 1 = .ok (.getfield 27, 3) := by decide +kernel
theorem d_LP_node_4 : decode prog_1_method_3_code 4 = .ok (.getfield 84, 3) := by decide +kernel
theorem d_LP_node_7 : decode prog_1_method_3_code 7 = .ok (.bipush 10, 2) := by decide +kernel
theorem d_LP_node_9 : decode prog_1_method_3_code 9 = .ok (.if_icmp .lt 6, 3) := by decide +kernel
theorem d_LP_node_12 : decode prog_1_method_3_code 12 = .ok (.bipush (-4), 2) := by decide +kernel
theorem d_LP_node_14 : decode prog_1_method_3_code 14 = .ok (.ireturn, 1) := by decide +kernel
theorem d_LP_node_15 : decode prog_1_method_3_code 15 = .ok (.aload_n 0, 1) := by decide +kernel
theorem d_LP_node_16 : decode prog_1_method_3_code 16 = .ok (.getfield 27, 3) := by decide +kernel
theorem d_LP_node_19 : decode prog_1_method_3_code 19 = .ok (.invokevirtual 87, 3) := by decide +kernel
theorem d_LP_node_22 : decode prog_1_method_3_code 22 = .ok (.ireturn, 1) := by decide +kernel
def rm_LP_node : Room := { frames := 1, cells := 0, slots := 0, locals := 21 }
def f_LP_node (σ : mS) : Option (Int32 × mS) :=
  if (σ.1 1 6) < 10 then (
  (f_Gr_addNode σ).bind fun o1 =>
  some (o1.1, o1.2)) else (
  some ((-4), σ))
set_option maxHeartbeats 4000000 in
set_option maxRecDepth 100000 in
theorem c_LP_node (l : Launch) (D : va_G) (cA ad : Nat → Nat) (σ : mS) (o : Int32 × mS) (h : f_LP_node σ = some o) : mCi l ⟨"LeastPaths", "node", "()I"⟩ (Cond.code ⟨"LeastPaths", "node", "()I"⟩ prog_1_method_3_code 1 (Option.some Jvm.ClassFile.FieldType.int) :: tlG) rm_LP_node D clX (tyK cA) 99 (tbX cA) ad σ [.ref (ad 0)] o := by
  intro sz
  refine m_of (cc := prog_1_method_3_code) (maxL := 1) (Qc := mQi D clX (tyK cA) 99 (tbX cA) ad o) (by decide) (Nat.le_of_ble_eq_true rfl) (fun p e s m args below meth c ls S hr hlk hnm hl M => ?_) sz
  have hl : lv_has ls 1 [(0, .ref (ad 0))] := hl
  generalize hQ : MQ _ _ _ _ _ _ _ = Q
  skip
  unfold f_LP_node at h
  refine lv_aload_n S.1 S.2.1 d_LP_node_0 rfl (lv_at hl 0 rfl) ?_
  refine m_gs (t := 1) S M (j := 1) ok_LP (by decide) rfl (by decide) rfl kw_267 rfl d_LP_node_1 ?_
  refine m_gi S M (j := 6) ok_Gr (by decide) rfl (by decide) rfl kw_268 rfl d_LP_node_4 ?_
  refine lv_bipush (v := 10) S.1 S.2.1 d_LP_node_7 (by decide) ?_
  refine m_ilt (tgt := 15) S d_LP_node_9 (by decide) h (fun h => ?_) (fun h => ?_)
  · refine lv_aload_n S.1 S.2.1 d_LP_node_15 rfl (lv_at hl 0 rfl) ?_
    refine m_gs (t := 1) S M (j := 1) ok_LP (by decide) rfl (by decide) rfl kw_267 rfl d_LP_node_16 ?_
    refine m_xi h (fun o ho => m_rV (As := []) (rest := []) S M hl.1 (cwG (n := 0) S.2.2.2.2 kw_269 kw_270 kw_271 kw_15 kw_272 (by decide) ⟨Nat.le_of_ble_eq_true rfl, Nat.le_of_ble_eq_true rfl⟩) ok_Gr (by decide) rfl (c_Gr_addNode l D cA ad σ o ho _) rfl rfl (Nat.le_of_ble_eq_true rfl) d_LP_node_19 ⟨Nat.zero_le _, Nat.zero_le _⟩) M (fun o1 H locs h M => ?_)
    subst hQ; exact m_iret S hr hlk M (Option.some.inj h) d_LP_node_22
  · refine lv_bipush (v := (-4)) S.1 S.2.1 d_LP_node_12 (by decide) ?_
    subst hQ; exact m_iret S hr hlk M (Option.some.inj h) d_LP_node_14
theorem d_LP_areNodes_0 : decode prog_1_method_28_code 0 = .ok (.aload_n 0, 1) := by decide +kernel
theorem d_LP_areNodes_1 : decode prog_1_method_28_code 1 = .ok (.getfield 27, 3) := by decide +kernel
theorem d_LP_areNodes_4 : decode prog_1_method_28_code 4 = .ok (.iload_n 1, 1) := by decide +kernel
theorem d_LP_areNodes_5 : decode prog_1_method_28_code 5 = .ok (.invokevirtual 126, 3) := by decide +kernel
theorem d_LP_areNodes_8 : decode prog_1_method_28_code 8 = .ok (.ifCond .eq 18, 3) := by decide +kernel
theorem d_LP_areNodes_11 : decode prog_1_method_28_code 11 = .ok (.aload_n 0, 1) := by decide +kernel
theorem d_LP_areNodes_12 : decode prog_1_method_28_code 12 = .ok (.getfield 27, 3) := by decide +kernel
theorem d_LP_areNodes_15 : decode prog_1_method_28_code 15 = .ok (.iload_n 2, 1) := by decide +kernel
theorem d_LP_areNodes_16 : decode prog_1_method_28_code 16 = .ok (.invokevirtual 126, 3) := by decide +kernel
theorem d_LP_areNodes_19 : decode prog_1_method_28_code 19 = .ok (.ifCond .eq 7, 3) := by decide +kernel
theorem d_LP_areNodes_22 : decode prog_1_method_28_code 22 = .ok (.iconst 1, 1) := by decide +kernel
theorem d_LP_areNodes_23 : decode prog_1_method_28_code 23 = .ok (.goto 4, 3) := by decide +kernel
theorem d_LP_areNodes_26 : decode prog_1_method_28_code 26 = .ok (.iconst 0, 1) := by decide +kernel
theorem d_LP_areNodes_27 : decode prog_1_method_28_code 27 = .ok (.ireturn, 1) := by decide +kernel
def rm_LP_areNodes : Room := { frames := 1, cells := 0, slots := 0, locals := 21 }
def f_LP_areNodes (σ : mS) (x1 : Int32) (x2 : Int32) : Option (Int32) :=
  (f_Gr_hasNode σ x1).bind fun v1 =>
  if v1 = 0 then (
  some 0) else (
  (f_Gr_hasNode σ x2).bind fun v2 =>
  if v2 = 0 then (
  some 0) else (
  some 1))
set_option maxHeartbeats 4000000 in
set_option maxRecDepth 100000 in
theorem c_LP_areNodes (l : Launch) (D : va_G) (cA ad : Nat → Nat) (σ : mS) (x1 : Int32) (x2 : Int32) (o : Int32) (h : f_LP_areNodes σ x1 x2 = some o) : mCi l ⟨"LeastPaths", "areNodes", "(II)Z"⟩ (Cond.code ⟨"LeastPaths", "areNodes", "(II)Z"⟩ prog_1_method_28_code 3 (Option.some Jvm.ClassFile.FieldType.boolean) :: tlG) rm_LP_areNodes D clX (tyK cA) 99 (tbX cA) ad σ [.ref (ad 0), .int x1, .int x2] (o, σ) := by
  intro sz
  refine m_of (cc := prog_1_method_28_code) (maxL := 3) (Qc := mQi D clX (tyK cA) 99 (tbX cA) ad (o, σ)) (by decide) (Nat.le_of_ble_eq_true rfl) (fun p e s m args below meth c ls S hr hlk hnm hl M => ?_) sz
  have hl : lv_has ls 3 [(0, .ref (ad 0)), (1, .int x1), (2, .int x2)] := hl
  generalize hQ : MQ _ _ _ _ _ _ _ = Q
  skip
  unfold f_LP_areNodes at h
  refine lv_aload_n S.1 S.2.1 d_LP_areNodes_0 rfl (lv_at hl 0 rfl) ?_
  refine m_gs (t := 1) S M (j := 1) ok_LP (by decide) rfl (by decide) rfl kw_267 rfl d_LP_areNodes_1 ?_
  refine lv_iload_n S.1 S.2.1 d_LP_areNodes_4 rfl (lv_at hl 1 rfl) ?_
  refine m_xip h (fun o ho => m_rV (As := [.int x1]) (rest := []) S M hl.1 (cwG (n := 1) S.2.2.2.2 kw_273 kw_274 kw_275 kw_15 kw_276 (by decide) ⟨Nat.le_of_ble_eq_true rfl, Nat.le_of_ble_eq_true rfl⟩) ok_Gr (by decide) rfl (c_Gr_hasNode l D cA ad σ x1 o ho _) rfl rfl (Nat.le_of_ble_eq_true rfl) d_LP_areNodes_5 ⟨Nat.zero_le _, Nat.zero_le _⟩) M (fun v1 H locs h M => ?_)
  refine m_ifeq (tgt := 26) S d_LP_areNodes_8 (by decide) h (fun h => ?_) (fun h => ?_)
  · refine lv_iconst (v := 0) S.1 S.2.1 d_LP_areNodes_26 (by decide) ?_
    subst hQ; exact m_zret S hr hlk M (by rw [Option.some.inj h]) rfl d_LP_areNodes_27
  · refine lv_aload_n S.1 S.2.1 d_LP_areNodes_11 rfl (lv_at hl 0 rfl) ?_
    refine m_gs (t := 1) S M (j := 1) ok_LP (by decide) rfl (by decide) rfl kw_267 rfl d_LP_areNodes_12 ?_
    refine lv_iload_n S.1 S.2.1 d_LP_areNodes_15 rfl (lv_at hl 2 rfl) ?_
    refine m_xip h (fun o ho => m_rV (As := [.int x2]) (rest := []) S M hl.1 (cwG (n := 1) S.2.2.2.2 kw_273 kw_274 kw_275 kw_15 kw_276 (by decide) ⟨Nat.le_of_ble_eq_true rfl, Nat.le_of_ble_eq_true rfl⟩) ok_Gr (by decide) rfl (c_Gr_hasNode l D cA ad σ x2 o ho _) rfl rfl (Nat.le_of_ble_eq_true rfl) d_LP_areNodes_16 ⟨Nat.zero_le _, Nat.zero_le _⟩) M (fun v2 H locs h M => ?_)
    refine m_ifeq (tgt := 26) S d_LP_areNodes_19 (by decide) h (fun h => ?_) (fun h => ?_)
    · refine lv_iconst (v := 0) S.1 S.2.1 d_LP_areNodes_26 (by decide) ?_
      subst hQ; exact m_zret S hr hlk M (by rw [Option.some.inj h]) rfl d_LP_areNodes_27
    · refine lv_iconst (v := 1) S.1 S.2.1 d_LP_areNodes_22 (by decide) ?_
      refine lv_goto (tgt := 27) S.1 S.2.1 d_LP_areNodes_23 (by decide) ?_
      subst hQ; exact m_zret S hr hlk M (by rw [Option.some.inj h]) rfl d_LP_areNodes_27
theorem d_LP_isPair_0 : decode prog_1_method_29_code 0 = .ok (.aload_n 0, 1) := by decide +kernel
theorem d_LP_isPair_1 : decode prog_1_method_29_code 1 = .ok (.iload_n 1, 1) := by decide +kernel
theorem d_LP_isPair_2 : decode prog_1_method_29_code 2 = .ok (.iload_n 2, 1) := by decide +kernel
theorem d_LP_isPair_3 : decode prog_1_method_29_code 3 = .ok (.invokevirtual 160, 3) := by decide +kernel
theorem d_LP_isPair_6 : decode prog_1_method_29_code 6 = .ok (.ifCond .eq 12, 3) := by decide +kernel
theorem d_LP_isPair_9 : decode prog_1_method_29_code 9 = .ok (.iload_n 1, 1) := by decide +kernel
theorem d_LP_isPair_10 : decode prog_1_method_29_code 10 = .ok (.iload_n 2, 1) := by decide +kernel
theorem d_LP_isPair_11 : decode prog_1_method_29_code 11 = .ok (.if_icmp .eq 7, 3) := by decide +kernel
theorem d_LP_isPair_14 : decode prog_1_method_29_code 14 = .ok (.iconst 1, 1) := by decide +kernel
theorem d_LP_isPair_15 : decode prog_1_method_29_code 15 = .ok (.goto 4, 3) := by decide +kernel
theorem d_LP_isPair_18 : decode prog_1_method_29_code 18 = .ok (.iconst 0, 1) := by decide +kernel
theorem d_LP_isPair_19 : decode prog_1_method_29_code 19 = .ok (.ireturn, 1) := by decide +kernel
def rm_LP_isPair : Room := { frames := 2, cells := 0, slots := 0, locals := 43 }
def f_LP_isPair (σ : mS) (x1 : Int32) (x2 : Int32) : Option (Int32) :=
  (f_LP_areNodes σ x1 x2).bind fun v1 =>
  if v1 = 0 then (
  some 0) else (
  if x1 = x2 then (
  some 0) else (
  some 1))
set_option maxHeartbeats 4000000 in
set_option maxRecDepth 100000 in
theorem c_LP_isPair (l : Launch) (D : va_G) (cA ad : Nat → Nat) (σ : mS) (x1 : Int32) (x2 : Int32) (o : Int32) (h : f_LP_isPair σ x1 x2 = some o) : mCi l ⟨"LeastPaths", "isPair", "(II)Z"⟩ (Cond.code ⟨"LeastPaths", "isPair", "(II)Z"⟩ prog_1_method_29_code 3 (Option.some Jvm.ClassFile.FieldType.boolean) :: tlG) rm_LP_isPair D clX (tyK cA) 99 (tbX cA) ad σ [.ref (ad 0), .int x1, .int x2] (o, σ) := by
  intro sz
  refine m_of (cc := prog_1_method_29_code) (maxL := 3) (Qc := mQi D clX (tyK cA) 99 (tbX cA) ad (o, σ)) (by decide) (Nat.le_of_ble_eq_true rfl) (fun p e s m args below meth c ls S hr hlk hnm hl M => ?_) sz
  have hl : lv_has ls 3 [(0, .ref (ad 0)), (1, .int x1), (2, .int x2)] := hl
  generalize hQ : MQ _ _ _ _ _ _ _ = Q
  skip
  unfold f_LP_isPair at h
  refine lv_aload_n S.1 S.2.1 d_LP_isPair_0 rfl (lv_at hl 0 rfl) ?_
  refine lv_iload_n S.1 S.2.1 d_LP_isPair_1 rfl (lv_at hl 1 rfl) ?_
  refine lv_iload_n S.1 S.2.1 d_LP_isPair_2 rfl (lv_at hl 2 rfl) ?_
  refine m_xip h (fun o ho => m_rV (As := [.int x1, .int x2]) (rest := []) S M hl.1 (cwG (n := 2) S.2.2.2.2 kw_277 kw_278 kw_279 kw_280 kw_281 (by decide) ⟨Nat.le_of_ble_eq_true rfl, Nat.le_of_ble_eq_true rfl⟩) ok_LP (by decide) rfl (c_LP_areNodes l D cA ad σ x1 x2 o ho _) rfl rfl (Nat.le_of_ble_eq_true rfl) d_LP_isPair_3 ⟨Nat.zero_le _, Nat.zero_le _⟩) M (fun v1 H locs h M => ?_)
  refine m_ifeq (tgt := 18) S d_LP_isPair_6 (by decide) h (fun h => ?_) (fun h => ?_)
  · refine lv_iconst (v := 0) S.1 S.2.1 d_LP_isPair_18 (by decide) ?_
    subst hQ; exact m_zret S hr hlk M (by rw [Option.some.inj h]) rfl d_LP_isPair_19
  · refine lv_iload_n S.1 S.2.1 d_LP_isPair_9 rfl (lv_at hl 1 rfl) ?_
    refine lv_iload_n S.1 S.2.1 d_LP_isPair_10 rfl (lv_at hl 2 rfl) ?_
    refine m_ieq (tgt := 18) S d_LP_isPair_11 (by decide) h (fun h => ?_) (fun h => ?_)
    · refine lv_iconst (v := 0) S.1 S.2.1 d_LP_isPair_18 (by decide) ?_
      subst hQ; exact m_zret S hr hlk M (by rw [Option.some.inj h]) rfl d_LP_isPair_19
    · refine lv_iconst (v := 1) S.1 S.2.1 d_LP_isPair_14 (by decide) ?_
      refine lv_goto (tgt := 19) S.1 S.2.1 d_LP_isPair_15 (by decide) ?_
      subst hQ; exact m_zret S hr hlk M (by rw [Option.some.inj h]) rfl d_LP_isPair_19
theorem d_LP_arc_0 : decode prog_1_method_4_code 0 = .ok (.aload_n 0, 1) := by decide +kernel
theorem d_LP_arc_1 : decode prog_1_method_4_code 1 = .ok (.iload_n 1, 1) := by decide +kernel
theorem d_LP_arc_2 : decode prog_1_method_4_code 2 = .ok (.iload_n 2, 1) := by decide +kernel
theorem d_LP_arc_3 : decode prog_1_method_4_code 3 = .ok (.invokevirtual 91, 3) := by decide +kernel
theorem d_LP_arc_6 : decode prog_1_method_4_code 6 = .ok (.ifCond .ne 5, 3) := by decide +kernel
theorem d_LP_arc_9 : decode prog_1_method_4_code 9 = .ok (.iconst (-1), 1) := by decide +kernel
theorem d_LP_arc_10 : decode prog_1_method_4_code 10 = .ok (.ireturn, 1) := by decide +kernel
theorem d_LP_arc_11 : decode prog_1_method_4_code 11 = .ok (.iload_n 3, 1) := by decide +kernel
theorem d_LP_arc_12 : decode prog_1_method_4_code 12 = .ok (.ifCond .lt 9, 3) := by decide +kernel
theorem d_LP_arc_15 : decode prog_1_method_4_code 15 = .ok (.iload_n 3, 1) := by decide +kernel
theorem d_LP_arc_16 : decode prog_1_method_4_code 16 = .ok (.ldc 95, 2) := by decide +kernel
theorem d_LP_arc_18 : decode prog_1_method_4_code 18 = .ok (.if_icmp .le 6, 3) := by decide +kernel
theorem d_LP_arc_21 : decode prog_1_method_4_code 21 = .ok (.bipush (-2), 2) := by decide +kernel
theorem d_LP_arc_23 : decode prog_1_method_4_code 23 = .ok (.ireturn, 1) := by decide +kernel
theorem d_LP_arc_24 : decode prog_1_method_4_code 24 = .ok (.aload_n 0, 1) := by decide +kernel
theorem d_LP_arc_25 : decode prog_1_method_4_code 25 = .ok (.getfield 27, 3) := by decide +kernel
theorem d_LP_arc_28 : decode prog_1_method_4_code 28 = .ok (.getfield 96, 3) := by decide +kernel
theorem d_LP_arc_31 : decode prog_1_method_4_code 31 = .ok (.bipush 40, 2) := by decide +kernel
theorem d_LP_arc_33 : decode prog_1_method_4_code 33 = .ok (.if_icmp .lt 6, 3) := by decide +kernel
theorem d_LP_arc_36 : decode prog_1_method_4_code 36 = .ok (.bipush (-4), 2) := by decide +kernel
theorem d_LP_arc_38 : decode prog_1_method_4_code 38 = .ok (.ireturn, 1) := by decide +kernel
theorem d_LP_arc_39 : decode prog_1_method_4_code 39 = .ok (.aload_n 0, 1) := by decide +kernel
theorem d_LP_arc_40 : decode prog_1_method_4_code 40 = .ok (.getfield 27, 3) := by decide +kernel
theorem d_LP_arc_43 : decode prog_1_method_4_code 43 = .ok (.iload_n 1, 1) := by decide +kernel
theorem d_LP_arc_44 : decode prog_1_method_4_code 44 = .ok (.iload_n 2, 1) := by decide +kernel
theorem d_LP_arc_45 : decode prog_1_method_4_code 45 = .ok (.iload_n 3, 1) := by decide +kernel
theorem d_LP_arc_46 : decode prog_1_method_4_code 46 = .ok (.invokevirtual 99, 3) := by decide +kernel
theorem d_LP_arc_49 : decode prog_1_method_4_code 49 = .ok (.ireturn, 1) := by decide +kernel
def rm_LP_arc : Room := { frames := 3, cells := 0, slots := 0, locals := 65 }
def f_LP_arc (σ : mS) (x1 : Int32) (x2 : Int32) (x3 : Int32) : Option (Int32 × mS) :=
  (f_LP_isPair σ x1 x2).bind fun v1 =>
  if v1 = 0 then (
  some ((-1), σ)) else (
  if x3 < 0 then (
  some ((-2), σ)) else (
  if x3 ≤ 1000000 then (
  if (σ.1 1 7) < 40 then (
  (f_Gr_addArc σ x1 x2 x3).bind fun o2 =>
  some (o2.1, o2.2)) else (
  some ((-4), σ))) else (
  some ((-2), σ))))
set_option maxHeartbeats 4000000 in
set_option maxRecDepth 100000 in
theorem c_LP_arc (l : Launch) (D : va_G) (cA ad : Nat → Nat) (σ : mS) (x1 : Int32) (x2 : Int32) (x3 : Int32) (o : Int32 × mS) (h : f_LP_arc σ x1 x2 x3 = some o) : mCi l ⟨"LeastPaths", "arc", "(III)I"⟩ (Cond.code ⟨"LeastPaths", "arc", "(III)I"⟩ prog_1_method_4_code 4 (Option.some Jvm.ClassFile.FieldType.int) :: tlG) rm_LP_arc D clX (tyK cA) 99 (tbX cA) ad σ [.ref (ad 0), .int x1, .int x2, .int x3] o := by
  intro sz
  refine m_of (cc := prog_1_method_4_code) (maxL := 4) (Qc := mQi D clX (tyK cA) 99 (tbX cA) ad o) (by decide) (Nat.le_of_ble_eq_true rfl) (fun p e s m args below meth c ls S hr hlk hnm hl M => ?_) sz
  have hl : lv_has ls 4 [(0, .ref (ad 0)), (1, .int x1), (2, .int x2), (3, .int x3)] := hl
  generalize hQ : MQ _ _ _ _ _ _ _ = Q
  skip
  unfold f_LP_arc at h
  refine lv_aload_n S.1 S.2.1 d_LP_arc_0 rfl (lv_at hl 0 rfl) ?_
  refine lv_iload_n S.1 S.2.1 d_LP_arc_1 rfl (lv_at hl 1 rfl) ?_
  refine lv_iload_n S.1 S.2.1 d_LP_arc_2 rfl (lv_at hl 2 rfl) ?_
  refine m_xip h (fun o ho => m_rV (As := [.int x1, .int x2]) (rest := []) S M hl.1 (cwG (n := 2) S.2.2.2.2 kw_282 kw_283 kw_284 kw_280 kw_285 (by decide) ⟨Nat.le_of_ble_eq_true rfl, Nat.le_of_ble_eq_true rfl⟩) ok_LP (by decide) rfl (c_LP_isPair l D cA ad σ x1 x2 o ho _) rfl rfl (Nat.le_of_ble_eq_true rfl) d_LP_arc_3 ⟨Nat.zero_le _, Nat.zero_le _⟩) M (fun v1 H locs h M => ?_)
  refine m_ifne (tgt := 11) S d_LP_arc_6 (by decide) h (fun h => ?_) (fun h => ?_)
  · refine lv_iload_n S.1 S.2.1 d_LP_arc_11 rfl (lv_at hl 3 rfl) ?_
    refine m_iflt (tgt := 21) S d_LP_arc_12 (by decide) h (fun h => ?_) (fun h => ?_)
    · refine lv_bipush (v := (-2)) S.1 S.2.1 d_LP_arc_21 (by decide) ?_
      subst hQ; exact m_iret S hr hlk M (Option.some.inj h) d_LP_arc_23
    · refine lv_iload_n S.1 S.2.1 d_LP_arc_15 rfl (lv_at hl 3 rfl) ?_
      refine lv_ldc (v := 1000000) S.1 S.2.1 S.2.2.2.1 (S.2.2.2.2 _ kw_286) d_LP_arc_16 ?_
      refine m_ile (tgt := 24) S d_LP_arc_18 (by decide) h (fun h => ?_) (fun h => ?_)
      · refine lv_aload_n S.1 S.2.1 d_LP_arc_24 rfl (lv_at hl 0 rfl) ?_
        refine m_gs (t := 1) S M (j := 1) ok_LP (by decide) rfl (by decide) rfl kw_267 rfl d_LP_arc_25 ?_
        refine m_gi S M (j := 7) ok_Gr (by decide) rfl (by decide) rfl kw_287 rfl d_LP_arc_28 ?_
        refine lv_bipush (v := 40) S.1 S.2.1 d_LP_arc_31 (by decide) ?_
        refine m_ilt (tgt := 39) S d_LP_arc_33 (by decide) h (fun h => ?_) (fun h => ?_)
        · refine lv_aload_n S.1 S.2.1 d_LP_arc_39 rfl (lv_at hl 0 rfl) ?_
          refine m_gs (t := 1) S M (j := 1) ok_LP (by decide) rfl (by decide) rfl kw_267 rfl d_LP_arc_40 ?_
          refine lv_iload_n S.1 S.2.1 d_LP_arc_43 rfl (lv_at hl 1 rfl) ?_
          refine lv_iload_n S.1 S.2.1 d_LP_arc_44 rfl (lv_at hl 2 rfl) ?_
          refine lv_iload_n S.1 S.2.1 d_LP_arc_45 rfl (lv_at hl 3 rfl) ?_
          refine m_xi h (fun o ho => m_rV (As := [.int x1, .int x2, .int x3]) (rest := []) S M hl.1 (cwG (n := 3) S.2.2.2.2 kw_288 kw_289 kw_290 kw_15 kw_291 (by decide) ⟨Nat.le_of_ble_eq_true rfl, Nat.le_of_ble_eq_true rfl⟩) ok_Gr (by decide) rfl (c_Gr_addArc l D cA ad σ x1 x2 x3 o ho _) rfl rfl (Nat.le_of_ble_eq_true rfl) d_LP_arc_46 ⟨Nat.zero_le _, Nat.zero_le _⟩) M (fun o2 H locs h M => ?_)
          subst hQ; exact m_iret S hr hlk M (Option.some.inj h) d_LP_arc_49
        · refine lv_bipush (v := (-4)) S.1 S.2.1 d_LP_arc_36 (by decide) ?_
          subst hQ; exact m_iret S hr hlk M (Option.some.inj h) d_LP_arc_38
      · refine lv_bipush (v := (-2)) S.1 S.2.1 d_LP_arc_21 (by decide) ?_
        subst hQ; exact m_iret S hr hlk M (Option.some.inj h) d_LP_arc_23
  · refine lv_iconst (v := (-1)) S.1 S.2.1 d_LP_arc_9 (by decide) ?_
    subst hQ; exact m_iret S hr hlk M (Option.some.inj h) d_LP_arc_10
theorem d_LP_share_0 : decode prog_1_method_5_code 0 = .ok (.aload_n 0, 1) := by decide +kernel
theorem d_LP_share_1 : decode prog_1_method_5_code 1 = .ok (.getfield 27, 3) := by decide +kernel
theorem d_LP_share_4 : decode prog_1_method_5_code 4 = .ok (.iload_n 1, 1) := by decide +kernel
theorem d_LP_share_5 : decode prog_1_method_5_code 5 = .ok (.invokevirtual 103, 3) := by decide +kernel
theorem d_LP_share_8 : decode prog_1_method_5_code 8 = .ok (.ifCond .ne 5, 3) := by decide +kernel
theorem d_LP_share_11 : decode prog_1_method_5_code 11 = .ok (.iconst (-1), 1) := by decide +kernel
theorem d_LP_share_12 : decode prog_1_method_5_code 12 = .ok (.ireturn, 1) := by decide +kernel
theorem d_LP_share_13 : decode prog_1_method_5_code 13 = .ok (.iload_n 3, 1) := by decide +kernel
theorem d_LP_share_14 : decode prog_1_method_5_code 14 = .ok (.iconst 1, 1) := by decide +kernel
theorem d_LP_share_15 : decode prog_1_method_5_code 15 = .ok (.if_icmp .lt 18, 3) := by decide +kernel
theorem d_LP_share_18 : decode prog_1_method_5_code 18 = .ok (.iload_n 3, 1) := by decide +kernel
theorem d_LP_share_19 : decode prog_1_method_5_code 19 = .ok (.bipush 9, 2) := by decide +kernel
theorem d_LP_share_21 : decode prog_1_method_5_code 21 = .ok (.if_icmp .gt 12, 3) := by decide +kernel
theorem d_LP_share_24 : decode prog_1_method_5_code 24 = .ok (.iload_n 2, 1) := by decide +kernel
theorem d_LP_share_25 : decode prog_1_method_5_code 25 = .ok (.ifCond .lt 8, 3) := by decide +kernel
theorem d_LP_share_28 : decode prog_1_method_5_code 28 = .ok (.iload_n 2, 1) := by decide +kernel
theorem d_LP_share_29 : decode prog_1_method_5_code 29 = .ok (.iload_n 3, 1) := by decide +kernel
theorem d_LP_share_30 : decode prog_1_method_5_code 30 = .ok (.if_icmp .le 6, 3) := by decide +kernel
theorem d_LP_share_33 : decode prog_1_method_5_code 33 = .ok (.bipush (-2), 2) := by decide +kernel
theorem d_LP_share_35 : decode prog_1_method_5_code 35 = .ok (.ireturn, 1) := by decide +kernel
theorem d_LP_share_36 : decode prog_1_method_5_code 36 = .ok (.aload_n 0, 1) := by decide +kernel
theorem d_LP_share_37 : decode prog_1_method_5_code 37 = .ok (.getfield 27, 3) := by decide +kernel
theorem d_LP_share_40 : decode prog_1_method_5_code 40 = .ok (.getfield 107, 3) := by decide +kernel
theorem d_LP_share_43 : decode prog_1_method_5_code 43 = .ok (.iload_n 1, 1) := by decide +kernel
theorem d_LP_share_44 : decode prog_1_method_5_code 44 = .ok (.iload_n 2, 1) := by decide +kernel
theorem d_LP_share_45 : decode prog_1_method_5_code 45 = .ok (.iastore, 1) := by decide +kernel
theorem d_LP_share_46 : decode prog_1_method_5_code 46 = .ok (.aload_n 0, 1) := by decide +kernel
theorem d_LP_share_47 : decode prog_1_method_5_code 47 = .ok (.getfield 27, 3) := by decide +kernel
theorem d_LP_share_50 : decode prog_1_method_5_code 50 = .ok (.getfield 111, 3) := by decide +kernel
theorem d_LP_share_53 : decode prog_1_method_5_code 53 = .ok (.iload_n 1, 1) := by decide +kernel
theorem d_LP_share_54 : decode prog_1_method_5_code 54 = .ok (.iload_n 3, 1) := by decide +kernel
theorem d_LP_share_55 : decode prog_1_method_5_code 55 = .ok (.iastore, 1) := by decide +kernel
theorem d_LP_share_56 : decode prog_1_method_5_code 56 = .ok (.iconst 1, 1) := by decide +kernel
theorem d_LP_share_57 : decode prog_1_method_5_code 57 = .ok (.ireturn, 1) := by decide +kernel
def rm_LP_share : Room := { frames := 1, cells := 0, slots := 0, locals := 21 }
def f_LP_share (σ : mS) (x1 : Int32) (x2 : Int32) (x3 : Int32) : Option (Int32 × mS) :=
  (f_Gr_hasArc σ x1).bind fun v1 =>
  if v1 = 0 then (
  some ((-1), σ)) else (
  if x3 < 1 then (
  some ((-2), σ)) else (
  if 9 < x3 then (
  some ((-2), σ)) else (
  if x2 < 0 then (
  some ((-2), σ)) else (
  if x2 ≤ x3 then (
  gd (inb x1 40) ((nm (sI σ 5 x1.toNatClampNeg x2) fun σ2 =>
  gd (inb x1 40) ((nm (sI σ2 6 x1.toNatClampNeg x3) fun σ3 =>
  some (1, σ3)))))) else (
  some ((-2), σ))))))
set_option maxHeartbeats 4000000 in
set_option maxRecDepth 100000 in
theorem c_LP_share (l : Launch) (D : va_G) (cA ad : Nat → Nat) (σ : mS) (x1 : Int32) (x2 : Int32) (x3 : Int32) (o : Int32 × mS) (h : f_LP_share σ x1 x2 x3 = some o) : mCi l ⟨"LeastPaths", "share", "(III)I"⟩ (Cond.code ⟨"LeastPaths", "share", "(III)I"⟩ prog_1_method_5_code 4 (Option.some Jvm.ClassFile.FieldType.int) :: tlG) rm_LP_share D clX (tyK cA) 99 (tbX cA) ad σ [.ref (ad 0), .int x1, .int x2, .int x3] o := by
  intro sz
  refine m_of (cc := prog_1_method_5_code) (maxL := 4) (Qc := mQi D clX (tyK cA) 99 (tbX cA) ad o) (by decide) (Nat.le_of_ble_eq_true rfl) (fun p e s m args below meth c ls S hr hlk hnm hl M => ?_) sz
  have hl : lv_has ls 4 [(0, .ref (ad 0)), (1, .int x1), (2, .int x2), (3, .int x3)] := hl
  generalize hQ : MQ _ _ _ _ _ _ _ = Q
  skip
  unfold f_LP_share at h
  refine lv_aload_n S.1 S.2.1 d_LP_share_0 rfl (lv_at hl 0 rfl) ?_
  refine m_gs (t := 1) S M (j := 1) ok_LP (by decide) rfl (by decide) rfl kw_267 rfl d_LP_share_1 ?_
  refine lv_iload_n S.1 S.2.1 d_LP_share_4 rfl (lv_at hl 1 rfl) ?_
  refine m_xip h (fun o ho => m_rV (As := [.int x1]) (rest := []) S M hl.1 (cwG (n := 1) S.2.2.2.2 kw_292 kw_13 kw_14 kw_15 kw_16 (by decide) ⟨Nat.le_of_ble_eq_true rfl, Nat.le_of_ble_eq_true rfl⟩) ok_Gr (by decide) rfl (c_Gr_hasArc l D cA ad σ x1 o ho _) rfl rfl (Nat.le_of_ble_eq_true rfl) d_LP_share_5 ⟨Nat.zero_le _, Nat.zero_le _⟩) M (fun v1 H locs h M => ?_)
  refine m_ifne (tgt := 13) S d_LP_share_8 (by decide) h (fun h => ?_) (fun h => ?_)
  · refine lv_iload_n S.1 S.2.1 d_LP_share_13 rfl (lv_at hl 3 rfl) ?_
    refine lv_iconst (v := 1) S.1 S.2.1 d_LP_share_14 (by decide) ?_
    refine m_ilt (tgt := 33) S d_LP_share_15 (by decide) h (fun h => ?_) (fun h => ?_)
    · refine lv_bipush (v := (-2)) S.1 S.2.1 d_LP_share_33 (by decide) ?_
      subst hQ; exact m_iret S hr hlk M (Option.some.inj h) d_LP_share_35
    · refine lv_iload_n S.1 S.2.1 d_LP_share_18 rfl (lv_at hl 3 rfl) ?_
      refine lv_bipush (v := 9) S.1 S.2.1 d_LP_share_19 (by decide) ?_
      refine m_igt (tgt := 33) S d_LP_share_21 (by decide) h (fun h => ?_) (fun h => ?_)
      · refine lv_bipush (v := (-2)) S.1 S.2.1 d_LP_share_33 (by decide) ?_
        subst hQ; exact m_iret S hr hlk M (Option.some.inj h) d_LP_share_35
      · refine lv_iload_n S.1 S.2.1 d_LP_share_24 rfl (lv_at hl 2 rfl) ?_
        refine m_iflt (tgt := 33) S d_LP_share_25 (by decide) h (fun h => ?_) (fun h => ?_)
        · refine lv_bipush (v := (-2)) S.1 S.2.1 d_LP_share_33 (by decide) ?_
          subst hQ; exact m_iret S hr hlk M (Option.some.inj h) d_LP_share_35
        · refine lv_iload_n S.1 S.2.1 d_LP_share_28 rfl (lv_at hl 2 rfl) ?_
          refine lv_iload_n S.1 S.2.1 d_LP_share_29 rfl (lv_at hl 3 rfl) ?_
          refine m_ile (tgt := 36) S d_LP_share_30 (by decide) h (fun h => ?_) (fun h => ?_)
          · refine lv_aload_n S.1 S.2.1 d_LP_share_36 rfl (lv_at hl 0 rfl) ?_
            refine m_gs (t := 1) S M (j := 1) ok_LP (by decide) rfl (by decide) rfl kw_267 rfl d_LP_share_37 ?_
            refine m_gs (t := 5) S M (j := 3) ok_Gr (by decide) rfl (by decide) rfl kw_293 rfl d_LP_share_40 ?_
            refine lv_iload_n S.1 S.2.1 d_LP_share_43 rfl (lv_at hl 1 rfl) ?_
            refine lv_iload_n S.1 S.2.1 d_LP_share_44 rfl (lv_at hl 2 rfl) ?_
            refine m_ias (t0 := 0) S M (by decide) rfl rfl h d_LP_share_45 (fun σ2 H locs h M => ?_)
            refine lv_aload_n S.1 S.2.1 d_LP_share_46 rfl (lv_at hl 0 rfl) ?_
            refine m_gs (t := 1) S M (j := 1) ok_LP (by decide) rfl (by decide) rfl kw_267 rfl d_LP_share_47 ?_
            refine m_gs (t := 6) S M (j := 4) ok_Gr (by decide) rfl (by decide) rfl kw_294 rfl d_LP_share_50 ?_
            refine lv_iload_n S.1 S.2.1 d_LP_share_53 rfl (lv_at hl 1 rfl) ?_
            refine lv_iload_n S.1 S.2.1 d_LP_share_54 rfl (lv_at hl 3 rfl) ?_
            refine m_ias (t0 := 0) S M (by decide) rfl rfl h d_LP_share_55 (fun σ3 H locs h M => ?_)
            refine lv_iconst (v := 1) S.1 S.2.1 d_LP_share_56 (by decide) ?_
            subst hQ; exact m_iret S hr hlk M (Option.some.inj h) d_LP_share_57
          · refine lv_bipush (v := (-2)) S.1 S.2.1 d_LP_share_33 (by decide) ?_
            subst hQ; exact m_iret S hr hlk M (Option.some.inj h) d_LP_share_35
  · refine lv_iconst (v := (-1)) S.1 S.2.1 d_LP_share_11 (by decide) ?_
    subst hQ; exact m_iret S hr hlk M (Option.some.inj h) d_LP_share_12
theorem d_LP_drop_0 : decode prog_1_method_6_code 0 = .ok (.aload_n 0, 1) := by decide +kernel
theorem d_LP_drop_1 : decode prog_1_method_6_code 1 = .ok (.getfield 27, 3) := by decide +kernel
theorem d_LP_drop_4 : decode prog_1_method_6_code 4 = .ok (.iload_n 1, 1) := by decide +kernel
theorem d_LP_drop_5 : decode prog_1_method_6_code 5 = .ok (.invokevirtual 103, 3) := by decide +kernel
theorem d_LP_drop_8 : decode prog_1_method_6_code 8 = .ok (.ifCond .ne 5, 3) := by decide +kernel
theorem d_LP_drop_11 : decode prog_1_method_6_code 11 = .ok (.iconst (-1), 1) := by decide +kernel
theorem d_LP_drop_12 : decode prog_1_method_6_code 12 = .ok (.ireturn, 1) := by decide +kernel
theorem d_LP_drop_13 : decode prog_1_method_6_code 13 = .ok (.aload_n 0, 1) := by decide +kernel
theorem d_LP_drop_14 : decode prog_1_method_6_code 14 = .ok (.getfield 27, 3) := by decide +kernel
theorem d_LP_drop_17 : decode prog_1_method_6_code 17 = .ok (.dup, 1) := by decide +kernel
theorem d_LP_drop_18 : decode prog_1_method_6_code 18 = .ok (.getfield 114, 3) := by decide +kernel
theorem d_LP_drop_21 : decode prog_1_method_6_code 21 = .ok (.lconst 1, 1) := by decide +kernel
theorem d_LP_drop_22 : decode prog_1_method_6_code 22 = .ok (.iload_n 1, 1) := by decide +kernel
theorem d_LP_drop_23 : decode prog_1_method_6_code 23 = .ok (.lshl, 1) := by decide +kernel
theorem d_LP_drop_24 : decode prog_1_method_6_code 24 = .ok (.ldc2_w 118, 3) := by decide +kernel
theorem d_LP_drop_27 : decode prog_1_method_6_code 27 = .ok (.lxor, 1) := by decide +kernel
theorem d_LP_drop_28 : decode prog_1_method_6_code 28 = .ok (.land, 1) := by decide +kernel
theorem d_LP_drop_29 : decode prog_1_method_6_code 29 = .ok (.putfield 114, 3) := by decide +kernel
theorem d_LP_drop_32 : decode prog_1_method_6_code 32 = .ok (.aload_n 0, 1) := by decide +kernel
theorem d_LP_drop_33 : decode prog_1_method_6_code 33 = .ok (.getfield 27, 3) := by decide +kernel
theorem d_LP_drop_36 : decode prog_1_method_6_code 36 = .ok (.getfield 114, 3) := by decide +kernel
theorem d_LP_drop_39 : decode prog_1_method_6_code 39 = .ok (.invokestatic 120, 3) := by decide +kernel
theorem d_LP_drop_42 : decode prog_1_method_6_code 42 = .ok (.ireturn, 1) := by decide +kernel
def rm_LP_drop : Room := { frames := 1, cells := 0, slots := 0, locals := 21 }
def f_LP_drop (σ : mS) (x1 : Int32) : Option (Int32 × mS) :=
  (f_Gr_hasArc σ x1).bind fun v1 =>
  if v1 = 0 then (
  some ((-1), σ)) else (
  nm (sJ σ 1 8 ((σ.2.1 1 8) &&& ((1 <<< (x1.toInt64 &&& 63)) ^^^ ((-1))))) fun σ2 =>
  (f_JL_bitCount σ2 (σ2.2.1 1 8)).bind fun v3 =>
  some (v3, σ2))
set_option maxHeartbeats 4000000 in
set_option maxRecDepth 100000 in
theorem c_LP_drop (l : Launch) (D : va_G) (cA ad : Nat → Nat) (σ : mS) (x1 : Int32) (o : Int32 × mS) (h : f_LP_drop σ x1 = some o) : mCi l ⟨"LeastPaths", "drop", "(I)I"⟩ (Cond.code ⟨"LeastPaths", "drop", "(I)I"⟩ prog_1_method_6_code 2 (Option.some Jvm.ClassFile.FieldType.int) :: tlG) rm_LP_drop D clX (tyK cA) 99 (tbX cA) ad σ [.ref (ad 0), .int x1] o := by
  intro sz
  refine m_of (cc := prog_1_method_6_code) (maxL := 2) (Qc := mQi D clX (tyK cA) 99 (tbX cA) ad o) (by decide) (Nat.le_of_ble_eq_true rfl) (fun p e s m args below meth c ls S hr hlk hnm hl M => ?_) sz
  have hl : lv_has ls 2 [(0, .ref (ad 0)), (1, .int x1)] := hl
  generalize hQ : MQ _ _ _ _ _ _ _ = Q
  skip
  unfold f_LP_drop at h
  refine lv_aload_n S.1 S.2.1 d_LP_drop_0 rfl (lv_at hl 0 rfl) ?_
  refine m_gs (t := 1) S M (j := 1) ok_LP (by decide) rfl (by decide) rfl kw_267 rfl d_LP_drop_1 ?_
  refine lv_iload_n S.1 S.2.1 d_LP_drop_4 rfl (lv_at hl 1 rfl) ?_
  refine m_xip h (fun o ho => m_rV (As := [.int x1]) (rest := []) S M hl.1 (cwG (n := 1) S.2.2.2.2 kw_292 kw_13 kw_14 kw_15 kw_16 (by decide) ⟨Nat.le_of_ble_eq_true rfl, Nat.le_of_ble_eq_true rfl⟩) ok_Gr (by decide) rfl (c_Gr_hasArc l D cA ad σ x1 o ho _) rfl rfl (Nat.le_of_ble_eq_true rfl) d_LP_drop_5 ⟨Nat.zero_le _, Nat.zero_le _⟩) M (fun v1 H locs h M => ?_)
  refine m_ifne (tgt := 13) S d_LP_drop_8 (by decide) h (fun h => ?_) (fun h => ?_)
  · refine lv_aload_n S.1 S.2.1 d_LP_drop_13 rfl (lv_at hl 0 rfl) ?_
    refine m_gs (t := 1) S M (j := 1) ok_LP (by decide) rfl (by decide) rfl kw_267 rfl d_LP_drop_14 ?_
    refine lv_dup S.1 S.2.1 d_LP_drop_17 rfl ?_
    refine m_gl S M (j := 8) ok_Gr (by decide) rfl (by decide) rfl kw_295 rfl d_LP_drop_18 ?_
    refine lv_lconst (v := 1) S.1 S.2.1 d_LP_drop_21 (by decide) ?_
    refine lv_iload_n S.1 S.2.1 d_LP_drop_22 rfl (lv_at hl 1 rfl) ?_
    refine lv_lshl S.1 S.2.1 d_LP_drop_23 rfl ?_
    refine lv_ldc2 (v := (-1)) S.1 S.2.1 S.2.2.2.1 (S.2.2.2.2 _ kw_296) d_LP_drop_24 ?_
    refine lv_lxor S.1 S.2.1 d_LP_drop_27 ?_
    refine lv_land S.1 S.2.1 d_LP_drop_28 ?_
    refine m_pl S M (j := 8) ok_Gr (by decide) rfl (by decide) rfl kw_295 rfl rfl rfl d_LP_drop_29 h (fun σ2 H locs h M => ?_)
    refine lv_aload_n S.1 S.2.1 d_LP_drop_32 rfl (lv_at hl 0 rfl) ?_
    refine m_gs (t := 1) S M (j := 1) ok_LP (by decide) rfl (by decide) rfl kw_267 rfl d_LP_drop_33 ?_
    refine m_gl S M (j := 8) ok_Gr (by decide) rfl (by decide) rfl kw_295 rfl d_LP_drop_36 ?_
    refine m_xip h (fun o ho => m_rS (As := [.long (σ2.2.1 1 8)]) (rest := []) S M hl.1 (cwGS (n := 1) S.2.2.2.2 kw_297 kw_298 kw_299 kw_300 (by decide) ⟨Nat.le_of_ble_eq_true rfl, Nat.le_of_ble_eq_true rfl⟩) (c_JL_bitCount l D cA ad σ2 (σ2.2.1 1 8) o ho _) rfl rfl (Nat.le_of_ble_eq_true rfl) d_LP_drop_39 ⟨Nat.zero_le _, Nat.zero_le _⟩) M (fun v3 H locs h M => ?_)
    subst hQ; exact m_iret S hr hlk M (Option.some.inj h) d_LP_drop_42
  · refine lv_iconst (v := (-1)) S.1 S.2.1 d_LP_drop_11 (by decide) ?_
    subst hQ; exact m_iret S hr hlk M (Option.some.inj h) d_LP_drop_12
theorem d_LP_source_0 : decode prog_1_method_7_code 0 = .ok (.aload_n 0, 1) := by decide +kernel
theorem d_LP_source_1 : decode prog_1_method_7_code 1 = .ok (.getfield 27, 3) := by decide +kernel
theorem d_LP_source_4 : decode prog_1_method_7_code 4 = .ok (.iload_n 1, 1) := by decide +kernel
theorem d_LP_source_5 : decode prog_1_method_7_code 5 = .ok (.invokevirtual 126, 3) := by decide +kernel
theorem d_LP_source_8 : decode prog_1_method_7_code 8 = .ok (.ifCond .ne 5, 3) := by decide +kernel
theorem d_LP_source_11 : decode prog_1_method_7_code 11 = .ok (.iconst (-1), 1) := by decide +kernel
theorem d_LP_source_12 : decode prog_1_method_7_code 12 = .ok (.ireturn, 1) := by decide +kernel
theorem d_LP_source_13 : decode prog_1_method_7_code 13 = .ok (.iconst 1, 1) := by decide +kernel
theorem d_LP_source_14 : decode prog_1_method_7_code 14 = .ok (.iload_n 1, 1) := by decide +kernel
theorem d_LP_source_15 : decode prog_1_method_7_code 15 = .ok (.ishl, 1) := by decide +kernel
theorem d_LP_source_16 : decode prog_1_method_7_code 16 = .ok (.istore_n 3, 1) := by decide +kernel
theorem d_LP_source_17 : decode prog_1_method_7_code 17 = .ok (.aload_n 0, 1) := by decide +kernel
theorem d_LP_source_18 : decode prog_1_method_7_code 18 = .ok (.getfield 27, 3) := by decide +kernel
theorem d_LP_source_21 : decode prog_1_method_7_code 21 = .ok (.getfield 129, 3) := by decide +kernel
theorem d_LP_source_24 : decode prog_1_method_7_code 24 = .ok (.iload_n 3, 1) := by decide +kernel
theorem d_LP_source_25 : decode prog_1_method_7_code 25 = .ok (.iand, 1) := by decide +kernel
theorem d_LP_source_26 : decode prog_1_method_7_code 26 = .ok (.ifCond .eq 7, 3) := by decide +kernel
theorem d_LP_source_29 : decode prog_1_method_7_code 29 = .ok (.iconst 1, 1) := by decide +kernel
theorem d_LP_source_30 : decode prog_1_method_7_code 30 = .ok (.goto 4, 3) := by decide +kernel
theorem d_LP_source_33 : decode prog_1_method_7_code 33 = .ok (.iconst 0, 1) := by decide +kernel
theorem d_LP_source_34 : decode prog_1_method_7_code 34 = .ok (.istore 4, 2) := by decide +kernel
theorem d_LP_source_36 : decode prog_1_method_7_code 36 = .ok (.aload_n 0, 1) := by decide +kernel
theorem d_LP_source_37 : decode prog_1_method_7_code 37 = .ok (.getfield 27, 3) := by decide +kernel
theorem d_LP_source_40 : decode prog_1_method_7_code 40 = .ok (.iload_n 2, 1) := by decide +kernel
theorem d_LP_source_41 : decode prog_1_method_7_code 41 = .ok (.ifCond .eq 15, 3) := by decide +kernel
theorem d_LP_source_44 : decode prog_1_method_7_code 44 = .ok (.aload_n 0, 1) := by decide +kernel
theorem d_LP_source_45 : decode prog_1_method_7_code 45 = .ok (.getfield 27, 3) := by decide +kernel
theorem d_LP_source_48 : decode prog_1_method_7_code 48 = .ok (.getfield 129, 3) := by decide +kernel
theorem d_LP_source_51 : decode prog_1_method_7_code 51 = .ok (.iload_n 3, 1) := by decide +kernel
theorem d_LP_source_52 : decode prog_1_method_7_code 52 = .ok (.ior, 1) := by decide +kernel
theorem d_LP_source_53 : decode prog_1_method_7_code 53 = .ok (.goto 14, 3) := by decide +kernel
theorem d_LP_source_56 : decode prog_1_method_7_code 56 = .ok (.aload_n 0, 1) := by decide +kernel
theorem d_LP_source_57 : decode prog_1_method_7_code 57 = .ok (.getfield 27, 3) := by decide +kernel
theorem d_LP_source_60 : decode prog_1_method_7_code 60 = .ok (.getfield 129, 3) := by decide +kernel
theorem d_LP_source_63 : decode prog_1_method_7_code 63 = .ok (.iload_n 3, 1) := by decide +kernel
theorem d_LP_source_64 : decode prog_1_method_7_code 64 = .ok (.iconst (-1), 1) := by decide +kernel
theorem d_LP_source_65 : decode prog_1_method_7_code 65 = .ok (.ixor, 1) := by decide +kernel
theorem d_LP_source_66 : decode prog_1_method_7_code 66 = .ok (.iand, 1) := by decide +kernel
theorem d_LP_source_67 : decode prog_1_method_7_code 67 = .ok (.putfield 129, 3) := by decide +kernel
theorem d_LP_source_70 : decode prog_1_method_7_code 70 = .ok (.iload 4, 2) := by decide +kernel
theorem d_LP_source_72 : decode prog_1_method_7_code 72 = .ok (.ireturn, 1) := by decide +kernel
def rm_LP_source : Room := { frames := 1, cells := 0, slots := 0, locals := 21 }
def f_LP_source_J34 (σ : mS) (x2 : Int32) (v2 : Int32) (j3 : Int32) : Option (Int32 × mS) :=
  if x2 = 0 then (
  nm (sI σ 1 9 ((σ.1 1 9) &&& (v2 ^^^ ((-1))))) fun σ4 =>
  some (j3, σ4)) else (
  nm (sI σ 1 9 ((σ.1 1 9) ||| v2)) fun σ5 =>
  some (j3, σ5))
def f_LP_source (σ : mS) (x1 : Int32) (x2 : Int32) : Option (Int32 × mS) :=
  (f_Gr_hasNode σ x1).bind fun v1 =>
  if v1 = 0 then (
  some ((-1), σ)) else (
  nm (1 <<< (x1 &&& 31)) fun v2 =>
  if ((σ.1 1 9) &&& v2) = 0 then (
  f_LP_source_J34 σ x2 v2 0) else (
  f_LP_source_J34 σ x2 v2 1))
set_option maxHeartbeats 4000000 in
set_option maxRecDepth 100000 in
theorem c_LP_source (l : Launch) (D : va_G) (cA ad : Nat → Nat) (σ : mS) (x1 : Int32) (x2 : Int32) (o : Int32 × mS) (h : f_LP_source σ x1 x2 = some o) : mCi l ⟨"LeastPaths", "source", "(IZ)I"⟩ (Cond.code ⟨"LeastPaths", "source", "(IZ)I"⟩ prog_1_method_7_code 5 (Option.some Jvm.ClassFile.FieldType.int) :: tlG) rm_LP_source D clX (tyK cA) 99 (tbX cA) ad σ [.ref (ad 0), .int x1, .int x2] o := by
  intro sz
  refine m_of (cc := prog_1_method_7_code) (maxL := 5) (Qc := mQi D clX (tyK cA) 99 (tbX cA) ad o) (by decide) (Nat.le_of_ble_eq_true rfl) (fun p e s m args below meth c ls S hr hlk hnm hl M => ?_) sz
  have hl : lv_has ls 5 [(0, .ref (ad 0)), (1, .int x1), (2, .int x2)] := hl
  generalize hQ : MQ _ _ _ _ _ _ _ = Q
  skip
  unfold f_LP_source at h
  refine lv_aload_n S.1 S.2.1 d_LP_source_0 rfl (lv_at hl 0 rfl) ?_
  refine m_gs (t := 1) S M (j := 1) ok_LP (by decide) rfl (by decide) rfl kw_267 rfl d_LP_source_1 ?_
  refine lv_iload_n S.1 S.2.1 d_LP_source_4 rfl (lv_at hl 1 rfl) ?_
  refine m_xip h (fun o ho => m_rV (As := [.int x1]) (rest := []) S M hl.1 (cwG (n := 1) S.2.2.2.2 kw_273 kw_274 kw_275 kw_15 kw_276 (by decide) ⟨Nat.le_of_ble_eq_true rfl, Nat.le_of_ble_eq_true rfl⟩) ok_Gr (by decide) rfl (c_Gr_hasNode l D cA ad σ x1 o ho _) rfl rfl (Nat.le_of_ble_eq_true rfl) d_LP_source_5 ⟨Nat.zero_le _, Nat.zero_le _⟩) M (fun v1 H locs h M => ?_)
  refine m_ifne (tgt := 13) S d_LP_source_8 (by decide) h (fun h => ?_) (fun h => ?_)
  · refine lv_iconst (v := 1) S.1 S.2.1 d_LP_source_13 (by decide) ?_
    refine lv_iload_n S.1 S.2.1 d_LP_source_14 rfl (lv_at hl 1 rfl) ?_
    refine lv_ishl S.1 S.2.1 d_LP_source_15 ?_
    refine m_ni h (fun v2 h => ?_)
    refine lv_istore_n (lv' := [(3, .int v2), (0, .ref (ad 0)), (1, .int x1), (2, .int x2)]) S.1 S.2.1 d_LP_source_16 rfl hl (by decide) rfl (fun ls hl => ?_)
    refine lv_aload_n S.1 S.2.1 d_LP_source_17 rfl (lv_at hl 1 rfl) ?_
    refine m_gs (t := 1) S M (j := 1) ok_LP (by decide) rfl (by decide) rfl kw_267 rfl d_LP_source_18 ?_
    refine m_gi S M (j := 9) ok_Gr (by decide) rfl (by decide) rfl kw_301 rfl d_LP_source_21 ?_
    refine lv_iload_n S.1 S.2.1 d_LP_source_24 rfl (lv_at hl 0 rfl) ?_
    refine lv_iand S.1 S.2.1 d_LP_source_25 ?_
    have J34 : ∀ (j3 : Int32) (ls : Array Slot) (H : Heap) (locs : List Loc), f_LP_source_J34 σ x2 v2 j3 = some o → lv_has ls 5 [(3, .int v2), (0, .ref (ad 0)), (1, .int x1), (2, .int x2)] → mM D clX (tyK cA) (mA 99 ad s.heap.size) s 99 (tbX cA) ad σ H locs → W p l e rm_LP_source s m args below meth c H locs 0 0 Q (F0 m 34 ls [.int j3]) := by
      intro j3 ls H locs h hl M
      unfold f_LP_source_J34 at h
      refine lv_istore (lv' := [(4, .int j3), (3, .int v2), (0, .ref (ad 0)), (1, .int x1), (2, .int x2)]) S.1 S.2.1 d_LP_source_34 hl (by decide) rfl (fun ls hl => ?_)
      refine lv_aload_n S.1 S.2.1 d_LP_source_36 rfl (lv_at hl 2 rfl) ?_
      refine m_gs (t := 1) S M (j := 1) ok_LP (by decide) rfl (by decide) rfl kw_267 rfl d_LP_source_37 ?_
      refine lv_iload_n S.1 S.2.1 d_LP_source_40 rfl (lv_at hl 4 rfl) ?_
      refine m_ifeq (tgt := 56) S d_LP_source_41 (by decide) h (fun h => ?_) (fun h => ?_)
      · refine lv_aload_n S.1 S.2.1 d_LP_source_56 rfl (lv_at hl 2 rfl) ?_
        refine m_gs (t := 1) S M (j := 1) ok_LP (by decide) rfl (by decide) rfl kw_267 rfl d_LP_source_57 ?_
        refine m_gi S M (j := 9) ok_Gr (by decide) rfl (by decide) rfl kw_301 rfl d_LP_source_60 ?_
        refine lv_iload_n S.1 S.2.1 d_LP_source_63 rfl (lv_at hl 1 rfl) ?_
        refine lv_iconst (v := (-1)) S.1 S.2.1 d_LP_source_64 (by decide) ?_
        refine lv_ixor S.1 S.2.1 d_LP_source_65 ?_
        refine lv_iand S.1 S.2.1 d_LP_source_66 ?_
        refine m_pi S M (j := 9) ok_Gr (by decide) rfl (by decide) rfl kw_301 rfl rfl rfl d_LP_source_67 h (fun σ4 H locs h M => ?_)
        refine lv_iload S.1 S.2.1 d_LP_source_70 (lv_at hl 0 rfl) ?_
        subst hQ; exact m_iret S hr hlk M (Option.some.inj h) d_LP_source_72
      · refine lv_aload_n S.1 S.2.1 d_LP_source_44 rfl (lv_at hl 2 rfl) ?_
        refine m_gs (t := 1) S M (j := 1) ok_LP (by decide) rfl (by decide) rfl kw_267 rfl d_LP_source_45 ?_
        refine m_gi S M (j := 9) ok_Gr (by decide) rfl (by decide) rfl kw_301 rfl d_LP_source_48 ?_
        refine lv_iload_n S.1 S.2.1 d_LP_source_51 rfl (lv_at hl 1 rfl) ?_
        refine lv_ior S.1 S.2.1 d_LP_source_52 ?_
        refine lv_goto (tgt := 67) S.1 S.2.1 d_LP_source_53 (by decide) ?_
        refine m_pi S M (j := 9) ok_Gr (by decide) rfl (by decide) rfl kw_301 rfl rfl rfl d_LP_source_67 h (fun σ5 H locs h M => ?_)
        refine lv_iload S.1 S.2.1 d_LP_source_70 (lv_at hl 0 rfl) ?_
        subst hQ; exact m_iret S hr hlk M (Option.some.inj h) d_LP_source_72
    refine m_ifeq (tgt := 33) S d_LP_source_26 (by decide) h (fun h => ?_) (fun h => ?_)
    · refine lv_iconst (v := 0) S.1 S.2.1 d_LP_source_33 (by decide) ?_
      exact J34 _ ls _ _ h (lv_sub hl [0, 1, 2, 3] rfl) M
    · refine lv_iconst (v := 1) S.1 S.2.1 d_LP_source_29 (by decide) ?_
      refine lv_goto (tgt := 34) S.1 S.2.1 d_LP_source_30 (by decide) ?_
      exact J34 _ ls _ _ h (lv_sub hl [0, 1, 2, 3] rfl) M
  · refine lv_iconst (v := (-1)) S.1 S.2.1 d_LP_source_11 (by decide) ?_
    subst hQ; exact m_iret S hr hlk M (Option.some.inj h) d_LP_source_12
theorem d_LP_rest_0 : decode prog_1_method_8_code 0 = .ok (.aload_n 0, 1) := by decide +kernel
theorem d_LP_rest_1 : decode prog_1_method_8_code 1 = .ok (.getfield 27, 3) := by decide +kernel
theorem d_LP_rest_4 : decode prog_1_method_8_code 4 = .ok (.iload_n 1, 1) := by decide +kernel
theorem d_LP_rest_5 : decode prog_1_method_8_code 5 = .ok (.invokevirtual 126, 3) := by decide +kernel
theorem d_LP_rest_8 : decode prog_1_method_8_code 8 = .ok (.ifCond .ne 5, 3) := by decide +kernel
theorem d_LP_rest_11 : decode prog_1_method_8_code 11 = .ok (.iconst (-1), 1) := by decide +kernel
theorem d_LP_rest_12 : decode prog_1_method_8_code 12 = .ok (.ireturn, 1) := by decide +kernel
theorem d_LP_rest_13 : decode prog_1_method_8_code 13 = .ok (.iload_n 2, 1) := by decide +kernel
theorem d_LP_rest_14 : decode prog_1_method_8_code 14 = .ok (.ifCond .lt 9, 3) := by decide +kernel
theorem d_LP_rest_17 : decode prog_1_method_8_code 17 = .ok (.iload_n 2, 1) := by decide +kernel
theorem d_LP_rest_18 : decode prog_1_method_8_code 18 = .ok (.ldc 95, 2) := by decide +kernel
theorem d_LP_rest_20 : decode prog_1_method_8_code 20 = .ok (.if_icmp .le 6, 3) := by decide +kernel
theorem d_LP_rest_23 : decode prog_1_method_8_code 23 = .ok (.bipush (-2), 2) := by decide +kernel
theorem d_LP_rest_25 : decode prog_1_method_8_code 25 = .ok (.ireturn, 1) := by decide +kernel
theorem d_LP_rest_26 : decode prog_1_method_8_code 26 = .ok (.aload_n 0, 1) := by decide +kernel
theorem d_LP_rest_27 : decode prog_1_method_8_code 27 = .ok (.getfield 27, 3) := by decide +kernel
theorem d_LP_rest_30 : decode prog_1_method_8_code 30 = .ok (.getfield 132, 3) := by decide +kernel
theorem d_LP_rest_33 : decode prog_1_method_8_code 33 = .ok (.iload_n 1, 1) := by decide +kernel
theorem d_LP_rest_34 : decode prog_1_method_8_code 34 = .ok (.iaload, 1) := by decide +kernel
theorem d_LP_rest_35 : decode prog_1_method_8_code 35 = .ok (.istore_n 3, 1) := by decide +kernel
theorem d_LP_rest_36 : decode prog_1_method_8_code 36 = .ok (.aload_n 0, 1) := by decide +kernel
theorem d_LP_rest_37 : decode prog_1_method_8_code 37 = .ok (.getfield 27, 3) := by decide +kernel
theorem d_LP_rest_40 : decode prog_1_method_8_code 40 = .ok (.getfield 132, 3) := by decide +kernel
theorem d_LP_rest_43 : decode prog_1_method_8_code 43 = .ok (.iload_n 1, 1) := by decide +kernel
theorem d_LP_rest_44 : decode prog_1_method_8_code 44 = .ok (.iload_n 2, 1) := by decide +kernel
theorem d_LP_rest_45 : decode prog_1_method_8_code 45 = .ok (.iastore, 1) := by decide +kernel
theorem d_LP_rest_46 : decode prog_1_method_8_code 46 = .ok (.iload_n 3, 1) := by decide +kernel
theorem d_LP_rest_47 : decode prog_1_method_8_code 47 = .ok (.ireturn, 1) := by decide +kernel
def rm_LP_rest : Room := { frames := 1, cells := 0, slots := 0, locals := 21 }
def f_LP_rest (σ : mS) (x1 : Int32) (x2 : Int32) : Option (Int32 × mS) :=
  (f_Gr_hasNode σ x1).bind fun v1 =>
  if v1 = 0 then (
  some ((-1), σ)) else (
  if x2 < 0 then (
  some ((-2), σ)) else (
  if x2 ≤ 1000000 then (
  gd (inb x1 10) (
  nm (σ.1 7 x1.toNatClampNeg) fun v2 =>
  gd (inb x1 10) ((nm (sI σ 7 x1.toNatClampNeg x2) fun σ3 =>
  some (v2, σ3))))) else (
  some ((-2), σ))))
set_option maxHeartbeats 4000000 in
set_option maxRecDepth 100000 in
theorem c_LP_rest (l : Launch) (D : va_G) (cA ad : Nat → Nat) (σ : mS) (x1 : Int32) (x2 : Int32) (o : Int32 × mS) (h : f_LP_rest σ x1 x2 = some o) : mCi l ⟨"LeastPaths", "rest", "(II)I"⟩ (Cond.code ⟨"LeastPaths", "rest", "(II)I"⟩ prog_1_method_8_code 4 (Option.some Jvm.ClassFile.FieldType.int) :: tlG) rm_LP_rest D clX (tyK cA) 99 (tbX cA) ad σ [.ref (ad 0), .int x1, .int x2] o := by
  intro sz
  refine m_of (cc := prog_1_method_8_code) (maxL := 4) (Qc := mQi D clX (tyK cA) 99 (tbX cA) ad o) (by decide) (Nat.le_of_ble_eq_true rfl) (fun p e s m args below meth c ls S hr hlk hnm hl M => ?_) sz
  have hl : lv_has ls 4 [(0, .ref (ad 0)), (1, .int x1), (2, .int x2)] := hl
  generalize hQ : MQ _ _ _ _ _ _ _ = Q
  skip
  unfold f_LP_rest at h
  refine lv_aload_n S.1 S.2.1 d_LP_rest_0 rfl (lv_at hl 0 rfl) ?_
  refine m_gs (t := 1) S M (j := 1) ok_LP (by decide) rfl (by decide) rfl kw_267 rfl d_LP_rest_1 ?_
  refine lv_iload_n S.1 S.2.1 d_LP_rest_4 rfl (lv_at hl 1 rfl) ?_
  refine m_xip h (fun o ho => m_rV (As := [.int x1]) (rest := []) S M hl.1 (cwG (n := 1) S.2.2.2.2 kw_273 kw_274 kw_275 kw_15 kw_276 (by decide) ⟨Nat.le_of_ble_eq_true rfl, Nat.le_of_ble_eq_true rfl⟩) ok_Gr (by decide) rfl (c_Gr_hasNode l D cA ad σ x1 o ho _) rfl rfl (Nat.le_of_ble_eq_true rfl) d_LP_rest_5 ⟨Nat.zero_le _, Nat.zero_le _⟩) M (fun v1 H locs h M => ?_)
  refine m_ifne (tgt := 13) S d_LP_rest_8 (by decide) h (fun h => ?_) (fun h => ?_)
  · refine lv_iload_n S.1 S.2.1 d_LP_rest_13 rfl (lv_at hl 2 rfl) ?_
    refine m_iflt (tgt := 23) S d_LP_rest_14 (by decide) h (fun h => ?_) (fun h => ?_)
    · refine lv_bipush (v := (-2)) S.1 S.2.1 d_LP_rest_23 (by decide) ?_
      subst hQ; exact m_iret S hr hlk M (Option.some.inj h) d_LP_rest_25
    · refine lv_iload_n S.1 S.2.1 d_LP_rest_17 rfl (lv_at hl 2 rfl) ?_
      refine lv_ldc (v := 1000000) S.1 S.2.1 S.2.2.2.1 (S.2.2.2.2 _ kw_286) d_LP_rest_18 ?_
      refine m_ile (tgt := 26) S d_LP_rest_20 (by decide) h (fun h => ?_) (fun h => ?_)
      · refine lv_aload_n S.1 S.2.1 d_LP_rest_26 rfl (lv_at hl 0 rfl) ?_
        refine m_gs (t := 1) S M (j := 1) ok_LP (by decide) rfl (by decide) rfl kw_267 rfl d_LP_rest_27 ?_
        refine m_gs (t := 7) S M (j := 5) ok_Gr (by decide) rfl (by decide) rfl kw_302 rfl d_LP_rest_30 ?_
        refine lv_iload_n S.1 S.2.1 d_LP_rest_33 rfl (lv_at hl 1 rfl) ?_
        refine m_ial (t0 := 0) S M (by decide) rfl rfl h d_LP_rest_34 (fun h => ?_)
        refine m_ni h (fun v2 h => ?_)
        refine lv_istore_n (lv' := [(3, .int v2), (0, .ref (ad 0)), (1, .int x1), (2, .int x2)]) S.1 S.2.1 d_LP_rest_35 rfl hl (by decide) rfl (fun ls hl => ?_)
        refine lv_aload_n S.1 S.2.1 d_LP_rest_36 rfl (lv_at hl 1 rfl) ?_
        refine m_gs (t := 1) S M (j := 1) ok_LP (by decide) rfl (by decide) rfl kw_267 rfl d_LP_rest_37 ?_
        refine m_gs (t := 7) S M (j := 5) ok_Gr (by decide) rfl (by decide) rfl kw_302 rfl d_LP_rest_40 ?_
        refine lv_iload_n S.1 S.2.1 d_LP_rest_43 rfl (lv_at hl 2 rfl) ?_
        refine lv_iload_n S.1 S.2.1 d_LP_rest_44 rfl (lv_at hl 3 rfl) ?_
        refine m_ias (t0 := 0) S M (by decide) rfl rfl h d_LP_rest_45 (fun σ3 H locs h M => ?_)
        refine lv_iload_n S.1 S.2.1 d_LP_rest_46 rfl (lv_at hl 0 rfl) ?_
        subst hQ; exact m_iret S hr hlk M (Option.some.inj h) d_LP_rest_47
      · refine lv_bipush (v := (-2)) S.1 S.2.1 d_LP_rest_23 (by decide) ?_
        subst hQ; exact m_iret S hr hlk M (Option.some.inj h) d_LP_rest_25
  · refine lv_iconst (v := (-1)) S.1 S.2.1 d_LP_rest_11 (by decide) ?_
    subst hQ; exact m_iret S hr hlk M (Option.some.inj h) d_LP_rest_12
theorem d_LP_clear_0 : decode prog_1_method_9_code 0 = .ok (.aload_n 0, 1) := by decide +kernel
theorem d_LP_clear_1 : decode prog_1_method_9_code 1 = .ok (.getfield 27, 3) := by decide +kernel
theorem d_LP_clear_4 : decode prog_1_method_9_code 4 = .ok (.getfield 84, 3) := by decide +kernel
theorem d_LP_clear_7 : decode prog_1_method_9_code 7 = .ok (.istore_n 1, 1) := by decide +kernel
theorem d_LP_clear_8 : decode prog_1_method_9_code 8 = .ok (.aload_n 0, 1) := by decide +kernel
theorem d_LP_clear_9 : decode prog_1_method_9_code 9 = .ok (.getfield 27, 3) := by decide +kernel
theorem d_LP_clear_12 : decode prog_1_method_9_code 12 = .ok (.iconst 0, 1) := by decide +kernel
theorem d_LP_clear_13 : decode prog_1_method_9_code 13 = .ok (.putfield 84, 3) := by decide +kernel
theorem d_LP_clear_16 : decode prog_1_method_9_code 16 = .ok (.aload_n 0, 1) := by decide +kernel
theorem d_LP_clear_17 : decode prog_1_method_9_code 17 = .ok (.getfield 27, 3) := by decide +kernel
theorem d_LP_clear_20 : decode prog_1_method_9_code 20 = .ok (.iconst 0, 1) := by decide +kernel
theorem d_LP_clear_21 : decode prog_1_method_9_code 21 = .ok (.putfield 96, 3) := by decide +kernel
theorem d_LP_clear_24 : decode prog_1_method_9_code 24 = .ok (.aload_n 0, 1) := by decide +kernel
theorem d_LP_clear_25 : decode prog_1_method_9_code 25 = .ok (.getfield 27, 3) := by decide +kernel
theorem d_LP_clear_28 : decode prog_1_method_9_code 28 = .ok (.lconst 0, 1) := by decide +kernel
theorem d_LP_clear_29 : decode prog_1_method_9_code 29 = .ok (.putfield 114, 3) := by decide +kernel
theorem d_LP_clear_32 : decode prog_1_method_9_code 32 = .ok (.aload_n 0, 1) := by decide +kernel
theorem d_LP_clear_33 : decode prog_1_method_9_code 33 = .ok (.getfield 27, 3) := by decide +kernel
theorem d_LP_clear_36 : decode prog_1_method_9_code 36 = .ok (.iconst 0, 1) := by decide +kernel
theorem d_LP_clear_37 : decode prog_1_method_9_code 37 = .ok (.putfield 129, 3) := by decide +kernel
theorem d_LP_clear_40 : decode prog_1_method_9_code 40 = .ok (.iload_n 1, 1) := by decide +kernel
theorem d_LP_clear_41 : decode prog_1_method_9_code 41 = .ok (.ireturn, 1) := by decide +kernel
def rm_LP_clear : Room := { frames := 0, cells := 0, slots := 0, locals := 0 }
def f_LP_clear (σ : mS) : Option (Int32 × mS) :=
  nm (σ.1 1 6) fun v1 =>
  nm (sI σ 1 6 0) fun σ2 =>
  nm (sI σ2 1 7 0) fun σ3 =>
  nm (sJ σ3 1 8 0) fun σ4 =>
  nm (sI σ4 1 9 0) fun σ5 =>
  some (v1, σ5)
set_option maxHeartbeats 4000000 in
set_option maxRecDepth 100000 in
theorem c_LP_clear (l : Launch) (D : va_G) (cA ad : Nat → Nat) (σ : mS) (o : Int32 × mS) (h : f_LP_clear σ = some o) : mCi l ⟨"LeastPaths", "clear", "()I"⟩ (Cond.code ⟨"LeastPaths", "clear", "()I"⟩ prog_1_method_9_code 2 (Option.some Jvm.ClassFile.FieldType.int) :: tlG) rm_LP_clear D clX (tyK cA) 99 (tbX cA) ad σ [.ref (ad 0)] o := by
  intro sz
  refine m_of (cc := prog_1_method_9_code) (maxL := 2) (Qc := mQi D clX (tyK cA) 99 (tbX cA) ad o) (by decide) (Nat.le_of_ble_eq_true rfl) (fun p e s m args below meth c ls S hr hlk hnm hl M => ?_) sz
  have hl : lv_has ls 2 [(0, .ref (ad 0))] := hl
  generalize hQ : MQ _ _ _ _ _ _ _ = Q
  skip
  unfold f_LP_clear at h
  refine lv_aload_n S.1 S.2.1 d_LP_clear_0 rfl (lv_at hl 0 rfl) ?_
  refine m_gs (t := 1) S M (j := 1) ok_LP (by decide) rfl (by decide) rfl kw_267 rfl d_LP_clear_1 ?_
  refine m_gi S M (j := 6) ok_Gr (by decide) rfl (by decide) rfl kw_268 rfl d_LP_clear_4 ?_
  refine m_ni h (fun v1 h => ?_)
  refine lv_istore_n (lv' := [(1, .int v1), (0, .ref (ad 0))]) S.1 S.2.1 d_LP_clear_7 rfl hl (by decide) rfl (fun ls hl => ?_)
  refine lv_aload_n S.1 S.2.1 d_LP_clear_8 rfl (lv_at hl 1 rfl) ?_
  refine m_gs (t := 1) S M (j := 1) ok_LP (by decide) rfl (by decide) rfl kw_267 rfl d_LP_clear_9 ?_
  refine lv_iconst (v := 0) S.1 S.2.1 d_LP_clear_12 (by decide) ?_
  refine m_pi S M (j := 6) ok_Gr (by decide) rfl (by decide) rfl kw_268 rfl rfl rfl d_LP_clear_13 h (fun σ2 H locs h M => ?_)
  refine lv_aload_n S.1 S.2.1 d_LP_clear_16 rfl (lv_at hl 1 rfl) ?_
  refine m_gs (t := 1) S M (j := 1) ok_LP (by decide) rfl (by decide) rfl kw_267 rfl d_LP_clear_17 ?_
  refine lv_iconst (v := 0) S.1 S.2.1 d_LP_clear_20 (by decide) ?_
  refine m_pi S M (j := 7) ok_Gr (by decide) rfl (by decide) rfl kw_287 rfl rfl rfl d_LP_clear_21 h (fun σ3 H locs h M => ?_)
  refine lv_aload_n S.1 S.2.1 d_LP_clear_24 rfl (lv_at hl 1 rfl) ?_
  refine m_gs (t := 1) S M (j := 1) ok_LP (by decide) rfl (by decide) rfl kw_267 rfl d_LP_clear_25 ?_
  refine lv_lconst (v := 0) S.1 S.2.1 d_LP_clear_28 (by decide) ?_
  refine m_pl S M (j := 8) ok_Gr (by decide) rfl (by decide) rfl kw_295 rfl rfl rfl d_LP_clear_29 h (fun σ4 H locs h M => ?_)
  refine lv_aload_n S.1 S.2.1 d_LP_clear_32 rfl (lv_at hl 1 rfl) ?_
  refine m_gs (t := 1) S M (j := 1) ok_LP (by decide) rfl (by decide) rfl kw_267 rfl d_LP_clear_33 ?_
  refine lv_iconst (v := 0) S.1 S.2.1 d_LP_clear_36 (by decide) ?_
  refine m_pi S M (j := 9) ok_Gr (by decide) rfl (by decide) rfl kw_301 rfl rfl rfl d_LP_clear_37 h (fun σ5 H locs h M => ?_)
  refine lv_iload_n S.1 S.2.1 d_LP_clear_40 rfl (lv_at hl 0 rfl) ?_
  subst hQ; exact m_iret S hr hlk M (Option.some.inj h) d_LP_clear_41
theorem d_LP_growTree_0 : decode prog_1_method_30_code 0 = .ok (.aload_n 0, 1) := by decide +kernel
theorem d_LP_growTree_1 : decode prog_1_method_30_code 1 = .ok (.getfield 36, 3) := by decide +kernel
theorem d_LP_growTree_4 : decode prog_1_method_30_code 4 = .ok (.aload_n 0, 1) := by decide +kernel
theorem d_LP_growTree_5 : decode prog_1_method_30_code 5 = .ok (.getfield 27, 3) := by decide +kernel
theorem d_LP_growTree_8 : decode prog_1_method_30_code 8 = .ok (.getfield 114, 3) := by decide +kernel
theorem d_LP_growTree_11 : decode prog_1_method_30_code 11 = .ok (.iconst 0, 1) := by decide +kernel
theorem d_LP_growTree_12 : decode prog_1_method_30_code 12 = .ok (.invokevirtual 221, 3) := by decide +kernel
theorem d_LP_growTree_15 : decode prog_1_method_30_code 15 = .ok (.iconst 0, 1) := by decide +kernel
theorem d_LP_growTree_16 : decode prog_1_method_30_code 16 = .ok (.istore_n 1, 1) := by decide +kernel
theorem d_LP_growTree_17 : decode prog_1_method_30_code 17 = .ok (.iload_n 1, 1) := by decide +kernel
theorem d_LP_growTree_18 : decode prog_1_method_30_code 18 = .ok (.aload_n 0, 1) := by decide +kernel
theorem d_LP_growTree_19 : decode prog_1_method_30_code 19 = .ok (.getfield 27, 3) := by decide +kernel
theorem d_LP_growTree_22 : decode prog_1_method_30_code 22 = .ok (.getfield 84, 3) := by decide +kernel
theorem d_LP_growTree_25 : decode prog_1_method_30_code 25 = .ok (.if_icmp .ge 32, 3) := by decide +kernel
theorem d_LP_growTree_28 : decode prog_1_method_30_code 28 = .ok (.aload_n 0, 1) := by decide +kernel
theorem d_LP_growTree_29 : decode prog_1_method_30_code 29 = .ok (.getfield 27, 3) := by decide +kernel
theorem d_LP_growTree_32 : decode prog_1_method_30_code 32 = .ok (.getfield 129, 3) := by decide +kernel
theorem d_LP_growTree_35 : decode prog_1_method_30_code 35 = .ok (.iload_n 1, 1) := by decide +kernel
theorem d_LP_growTree_36 : decode prog_1_method_30_code 36 = .ok (.ishr, 1) := by decide +kernel
theorem d_LP_growTree_37 : decode prog_1_method_30_code 37 = .ok (.iconst 1, 1) := by decide +kernel
theorem d_LP_growTree_38 : decode prog_1_method_30_code 38 = .ok (.iand, 1) := by decide +kernel
theorem d_LP_growTree_39 : decode prog_1_method_30_code 39 = .ok (.ifCond .eq 12, 3) := by decide +kernel
theorem d_LP_growTree_42 : decode prog_1_method_30_code 42 = .ok (.aload_n 0, 1) := by decide +kernel
theorem d_LP_growTree_43 : decode prog_1_method_30_code 43 = .ok (.getfield 36, 3) := by decide +kernel
theorem d_LP_growTree_46 : decode prog_1_method_30_code 46 = .ok (.iload_n 1, 1) := by decide +kernel
theorem d_LP_growTree_47 : decode prog_1_method_30_code 47 = .ok (.iconst 0, 1) := by decide +kernel
theorem d_LP_growTree_48 : decode prog_1_method_30_code 48 = .ok (.invokevirtual 225, 3) := by decide +kernel
theorem d_LP_growTree_51 : decode prog_1_method_30_code 51 = .ok (.iinc 1 1, 3) := by decide +kernel
theorem d_LP_growTree_54 : decode prog_1_method_30_code 54 = .ok (.goto (-37), 3) := by decide +kernel
theorem d_LP_growTree_57 : decode prog_1_method_30_code 57 = .ok (.aload_n 0, 1) := by decide +kernel
theorem d_LP_growTree_58 : decode prog_1_method_30_code 58 = .ok (.getfield 36, 3) := by decide +kernel
theorem d_LP_growTree_61 : decode prog_1_method_30_code 61 = .ok (.invokevirtual 228, 3) := by decide +kernel
theorem d_LP_growTree_64 : decode prog_1_method_30_code 64 = .ok (.return_, 1) := by decide +kernel
def rm_LP_growTree : Room := { frames := 5, cells := 0, slots := 0, locals := 113 }
def f_LP_growTree_L17 : (Int32 × mS) → Option ((Int32 × mS) ⊕ (Int32 × mS)) := fun t17 =>
  if (t17.2.1 1 6) ≤ t17.1 then (
  some (.inr (t17.1, t17.2))) else (
  if (((t17.2.1 1 9) >>> (t17.1 &&& 31)) &&& 1) = 0 then (
  some (.inl (t17.1 + 1, t17.2))) else (
  (f_Se_offer 8 t17.2 t17.1 0).bind fun σ2 =>
  some (.inl (t17.1 + 1, σ2))))
def f_LP_growTree (σ : mS) : Option (mS) :=
  (f_Se_beginCounted 8 σ (σ.2.1 1 8) 0).bind fun σ1 =>
  (lpN (f_LP_growTree_L17) fuS (0, σ1)).bind fun u17 =>
  (f_Se_settleAll 8 u17.2).bind fun σ3 =>
  some σ3
set_option maxHeartbeats 4000000 in
set_option maxRecDepth 100000 in
theorem c_LP_growTree (l : Launch) (D : va_G) (cA ad : Nat → Nat) (σ : mS) (o : mS) (h : f_LP_growTree σ = some o) : mCv l ⟨"LeastPaths", "growTree", "()V"⟩ (Cond.code ⟨"LeastPaths", "growTree", "()V"⟩ prog_1_method_30_code 2 (Option.none : Option Jvm.ClassFile.FieldType) :: tlG) rm_LP_growTree D clX (tyK cA) 99 (tbX cA) ad σ [.ref (ad 0)] o := by
  intro sz
  refine m_of (cc := prog_1_method_30_code) (maxL := 2) (Qc := mQv D clX (tyK cA) 99 (tbX cA) ad o) (by decide) (Nat.le_of_ble_eq_true rfl) (fun p e s m args below meth c ls S hr hlk hnm hl M => ?_) sz
  have hl : lv_has ls 2 [(0, .ref (ad 0))] := hl
  generalize hQ : MQ _ _ _ _ _ _ _ = Q
  skip
  unfold f_LP_growTree at h
  refine lv_aload_n S.1 S.2.1 d_LP_growTree_0 rfl (lv_at hl 0 rfl) ?_
  refine m_gs (t := 8) S M (j := 2) ok_LP (by decide) rfl (by decide) rfl kw_303 rfl d_LP_growTree_1 ?_
  refine lv_aload_n S.1 S.2.1 d_LP_growTree_4 rfl (lv_at hl 0 rfl) ?_
  refine m_gs (t := 1) S M (j := 1) ok_LP (by decide) rfl (by decide) rfl kw_267 rfl d_LP_growTree_5 ?_
  refine m_gl S M (j := 8) ok_Gr (by decide) rfl (by decide) rfl kw_295 rfl d_LP_growTree_8 ?_
  refine lv_iconst (v := 0) S.1 S.2.1 d_LP_growTree_11 (by decide) ?_
  refine m_xv h (fun o ho => m_rV (As := [.long (σ.2.1 1 8), .int 0]) (rest := []) S M hl.1 (cwG (n := 2) S.2.2.2.2 kw_304 kw_215 kw_216 kw_51 kw_217 (by decide) ⟨Nat.le_of_ble_eq_true rfl, Nat.le_of_ble_eq_true rfl⟩) ok_Se (by decide) rfl (c_Se_beginCounted l D cA ad sB_8 σ (σ.2.1 1 8) 0 o ho _) rfl rfl (Nat.le_of_ble_eq_true rfl) d_LP_growTree_12 ⟨Nat.zero_le _, Nat.zero_le _⟩) M (fun σ1 H locs h M => ?_)
  refine lv_iconst (v := 0) S.1 S.2.1 d_LP_growTree_15 (by decide) ?_
  refine lv_istore_n (lv' := [(1, .int 0), (0, .ref (ad 0))]) S.1 S.2.1 d_LP_growTree_16 rfl hl (by decide) rfl (fun ls hl => ?_)
  obtain ⟨u17, q17, h⟩ := Option.bind_eq_some_iff.mp h
  refine lpN_W1 (st := f_LP_growTree_L17) (fun (t17 : Int32 × mS) => ∀ (ls : Array Slot) (H : Heap) (locs : List Loc), lv_has ls 2 [(1, .int t17.1), (0, .ref (ad 0))] → mM D clX (tyK cA) (mA 99 ad s.heap.size) s 99 (tbX cA) ad t17.2 H locs → W p l e rm_LP_growTree s m args below meth c H locs 0 0 Q (F0 m 17 ls [])) (fun (u17 : Int32 × mS) => ∀ (ls : Array Slot) (H : Heap) (locs : List Loc), lv_has ls 2 [(1, .int u17.1), (0, .ref (ad 0))] → mM D clX (tyK cA) (mA 99 ad s.heap.size) s 99 (tbX cA) ad u17.2 H locs → W p l e rm_LP_growTree s m args below meth c H locs 0 0 Q (F0 m 57 ls [])) ?_ fuS ((0, σ1) : Int32 × mS) u17 q17 ?_ ls _ _ (lv_sub hl [0, 1] rfl) M
  · intro t17 oo17 h K1 K2 ls H locs hl M
    unfold f_LP_growTree_L17 at h
    refine lv_iload_n S.1 S.2.1 d_LP_growTree_17 rfl (lv_at hl 0 rfl) ?_
    refine lv_aload_n S.1 S.2.1 d_LP_growTree_18 rfl (lv_at hl 1 rfl) ?_
    refine m_gs (t := 1) S M (j := 1) ok_LP (by decide) rfl (by decide) rfl kw_267 rfl d_LP_growTree_19 ?_
    refine m_gi S M (j := 6) ok_Gr (by decide) rfl (by decide) rfl kw_268 rfl d_LP_growTree_22 ?_
    refine m_ige (tgt := 57) S d_LP_growTree_25 (by decide) h (fun h => ?_) (fun h => ?_)
    · exact K2 _ (Option.some.inj h).symm ls _ _ (lv_sub hl [0, 1] rfl) M
    · refine lv_aload_n S.1 S.2.1 d_LP_growTree_28 rfl (lv_at hl 1 rfl) ?_
      refine m_gs (t := 1) S M (j := 1) ok_LP (by decide) rfl (by decide) rfl kw_267 rfl d_LP_growTree_29 ?_
      refine m_gi S M (j := 9) ok_Gr (by decide) rfl (by decide) rfl kw_301 rfl d_LP_growTree_32 ?_
      refine lv_iload_n S.1 S.2.1 d_LP_growTree_35 rfl (lv_at hl 0 rfl) ?_
      refine lv_ishr S.1 S.2.1 d_LP_growTree_36 ?_
      refine lv_iconst (v := 1) S.1 S.2.1 d_LP_growTree_37 (by decide) ?_
      refine lv_iand S.1 S.2.1 d_LP_growTree_38 ?_
      refine m_ifeq (tgt := 51) S d_LP_growTree_39 (by decide) h (fun h => ?_) (fun h => ?_)
      · refine lv_iinc (v := t17.1 + 1) (lv' := [(1, .int (t17.1 + 1)), (0, .ref (ad 0))]) S.1 S.2.1 d_LP_growTree_51 hl (k := 0) rfl rfl (by decide) rfl (fun ls hl => ?_)
        refine lv_goto (tgt := 17) S.1 S.2.1 d_LP_growTree_54 (by decide) ?_
        exact K1 _ (Option.some.inj h).symm ls _ _ (lv_sub hl [0, 1] rfl) M
      · refine lv_aload_n S.1 S.2.1 d_LP_growTree_42 rfl (lv_at hl 1 rfl) ?_
        refine m_gs (t := 8) S M (j := 2) ok_LP (by decide) rfl (by decide) rfl kw_303 rfl d_LP_growTree_43 ?_
        refine lv_iload_n S.1 S.2.1 d_LP_growTree_46 rfl (lv_at hl 0 rfl) ?_
        refine lv_iconst (v := 0) S.1 S.2.1 d_LP_growTree_47 (by decide) ?_
        refine m_xv h (fun o ho => m_rV (As := [.int t17.1, .int 0]) (rest := []) S M hl.1 (cwG (n := 2) S.2.2.2.2 kw_305 kw_97 kw_98 kw_51 kw_99 (by decide) ⟨Nat.le_of_ble_eq_true rfl, Nat.le_of_ble_eq_true rfl⟩) ok_Se (by decide) rfl (c_Se_offer l D cA ad sB_8 t17.2 t17.1 0 o ho _) rfl rfl (Nat.le_of_ble_eq_true rfl) d_LP_growTree_48 ⟨Nat.zero_le _, Nat.zero_le _⟩) M (fun σ2 H locs h M => ?_)
        refine lv_iinc (v := t17.1 + 1) (lv' := [(1, .int (t17.1 + 1)), (0, .ref (ad 0))]) S.1 S.2.1 d_LP_growTree_51 hl (k := 0) rfl rfl (by decide) rfl (fun ls hl => ?_)
        refine lv_goto (tgt := 17) S.1 S.2.1 d_LP_growTree_54 (by decide) ?_
        exact K1 _ (Option.some.inj h).symm ls _ _ (lv_sub hl [0, 1] rfl) M
  · intro ls H locs hl M
    refine lv_aload_n S.1 S.2.1 d_LP_growTree_57 rfl (lv_at hl 1 rfl) ?_
    refine m_gs (t := 8) S M (j := 2) ok_LP (by decide) rfl (by decide) rfl kw_303 rfl d_LP_growTree_58 ?_
    refine m_xv h (fun o ho => m_rV (As := []) (rest := []) S M hl.1 (cwG (n := 0) S.2.2.2.2 kw_306 kw_221 kw_222 kw_51 kw_223 (by decide) ⟨Nat.le_of_ble_eq_true rfl, Nat.le_of_ble_eq_true rfl⟩) ok_Se (by decide) rfl (c_Se_settleAll l D cA ad sB_8 u17.2 o ho _) rfl rfl (Nat.le_of_ble_eq_true rfl) d_LP_growTree_61 ⟨Nat.zero_le _, Nat.zero_le _⟩) M (fun σ3 H locs h M => ?_)
    subst hQ; exact m_vret S hr hlk M (Option.some.inj h) d_LP_growTree_64
