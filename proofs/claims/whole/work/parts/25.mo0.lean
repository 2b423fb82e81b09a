theorem d_Mo_heap_0 : decode prog_12_method_2_code 0 = .ok (.aload_n 0, 1) := by decide +kernel
theorem d_Mo_heap_1 : decode prog_12_method_2_code 1 = .ok (.getfield 82, 3) := by decide +kernel
theorem d_Mo_heap_4 : decode prog_12_method_2_code 4 = .ok (.ireturn, 1) := by decide +kernel
def rm_Mo_heap : Room := { frames := 0, cells := 0, slots := 0, locals := 0 }
def f_Mo_heap (σ : mS) : Option (Int32) :=
  some (σ.1 0 0)
set_option maxHeartbeats 4000000 in
set_option maxRecDepth 100000 in
theorem c_Mo_heap (l : Launch) (D : va_G) (cA ad : Nat → Nat) (σ : mS) (o : Int32) (h : f_Mo_heap σ = some o) : mCi l ⟨"LeastPathsModel", "heap", "()I"⟩ (Cond.code ⟨"LeastPathsModel", "heap", "()I"⟩ prog_12_method_2_code 1 (Option.some Jvm.ClassFile.FieldType.int) :: tlG) rm_Mo_heap D clX (tyK cA) 23 (tbY cA) ad σ [.ref (ad 0)] (o, σ) := by
  intro sz
  refine m_of (cc := prog_12_method_2_code) (maxL := 1) (Qc := mQi D clX (tyK cA) 23 (tbY cA) ad (o, σ)) (by decide) (Nat.le_of_ble_eq_true rfl) (fun p e s m args below meth c ls S hr hlk hnm hl M => ?_) sz
  have hl : lv_has ls 1 [(0, .ref (ad 0))] := hl
  generalize hQ : MQ _ _ _ _ _ _ _ = Q
  skip
  unfold f_Mo_heap at h
  refine lv_aload_n S.1 S.2.1 d_Mo_heap_0 rfl (lv_at hl 0 rfl) ?_
  refine m_gi S M (j := 0) ok_Mo (by decide) rfl (by decide) rfl kw_381 rfl d_Mo_heap_1 ?_
  subst hQ; exact m_iret S hr hlk M (by rw [Option.some.inj h]) d_Mo_heap_4
theorem d_Mo_isNode_0 : decode prog_12_method_3_code 0 = .ok (.iload_n 1, 1) := by decide +kernel
theorem d_Mo_isNode_1 : decode prog_12_method_3_code 1 = .ok (.ifCond .lt 15, 3) := by decide +kernel
theorem d_Mo_isNode_4 : decode prog_12_method_3_code 4 = .ok (.iload_n 1, 1) := by decide +kernel
theorem d_Mo_isNode_5 : decode prog_12_method_3_code 5 = .ok (.aload_n 0, 1) := by decide +kernel
theorem d_Mo_isNode_6 : decode prog_12_method_3_code 6 = .ok (.getfield 85, 3) := by decide +kernel
theorem d_Mo_isNode_9 : decode prog_12_method_3_code 9 = .ok (.if_icmp .ge 7, 3) := by decide +kernel
theorem d_Mo_isNode_12 : decode prog_12_method_3_code 12 = .ok (.iconst 1, 1) := by decide +kernel
theorem d_Mo_isNode_13 : decode prog_12_method_3_code 13 = .ok (.goto 4, 3) := by decide +kernel
theorem d_Mo_isNode_16 : decode prog_12_method_3_code 16 = .ok (.iconst 0, 1) := by decide +kernel
theorem d_Mo_isNode_17 : decode prog_12_method_3_code 17 = .ok (.ireturn, 1) := by decide +kernel
def rm_Mo_isNode : Room := { frames := 0, cells := 0, slots := 0, locals := 0 }
def f_Mo_isNode (σ : mS) (x1 : Int32) : Option (Int32) :=
  if x1 < 0 then (
  some 0) else (
  if (σ.1 0 1) ≤ x1 then (
  some 0) else (
  some 1))
set_option maxHeartbeats 4000000 in
set_option maxRecDepth 100000 in
theorem c_Mo_isNode (l : Launch) (D : va_G) (cA ad : Nat → Nat) (σ : mS) (x1 : Int32) (o : Int32) (h : f_Mo_isNode σ x1 = some o) : mCi l ⟨"LeastPathsModel", "isNode", "(I)Z"⟩ (Cond.code ⟨"LeastPathsModel", "isNode", "(I)Z"⟩ prog_12_method_3_code 2 (Option.some Jvm.ClassFile.FieldType.boolean) :: tlG) rm_Mo_isNode D clX (tyK cA) 23 (tbY cA) ad σ [.ref (ad 0), .int x1] (o, σ) := by
  intro sz
  refine m_of (cc := prog_12_method_3_code) (maxL := 2) (Qc := mQi D clX (tyK cA) 23 (tbY cA) ad (o, σ)) (by decide) (Nat.le_of_ble_eq_true rfl) (fun p e s m args below meth c ls S hr hlk hnm hl M => ?_) sz
  have hl : lv_has ls 2 [(0, .ref (ad 0)), (1, .int x1)] := hl
  generalize hQ : MQ _ _ _ _ _ _ _ = Q
  skip
  unfold f_Mo_isNode at h
  refine lv_iload_n S.1 S.2.1 d_Mo_isNode_0 rfl (lv_at hl 1 rfl) ?_
  refine m_iflt (tgt := 16) S d_Mo_isNode_1 (by decide) h (fun h => ?_) (fun h => ?_)
  · refine lv_iconst (v := 0) S.1 S.2.1 d_Mo_isNode_16 (by decide) ?_
    subst hQ; exact m_zret S hr hlk M (by rw [Option.some.inj h]) rfl d_Mo_isNode_17
  · refine lv_iload_n S.1 S.2.1 d_Mo_isNode_4 rfl (lv_at hl 1 rfl) ?_
    refine lv_aload_n S.1 S.2.1 d_Mo_isNode_5 rfl (lv_at hl 0 rfl) ?_
    refine m_gi S M (j := 1) ok_Mo (by decide) rfl (by decide) rfl kw_382 rfl d_Mo_isNode_6 ?_
    refine m_ige (tgt := 16) S d_Mo_isNode_9 (by decide) h (fun h => ?_) (fun h => ?_)
    · refine lv_iconst (v := 0) S.1 S.2.1 d_Mo_isNode_16 (by decide) ?_
      subst hQ; exact m_zret S hr hlk M (by rw [Option.some.inj h]) rfl d_Mo_isNode_17
    · refine lv_iconst (v := 1) S.1 S.2.1 d_Mo_isNode_12 (by decide) ?_
      refine lv_goto (tgt := 17) S.1 S.2.1 d_Mo_isNode_13 (by decide) ?_
      subst hQ; exact m_zret S hr hlk M (by rw [Option.some.inj h]) rfl d_Mo_isNode_17
theorem d_Mo_isArc_0 : decode prog_12_method_4_code 0 = .ok (.iload_n 1, 1) := by decide +kernel
theorem d_Mo_isArc_1 : decode prog_12_method_4_code 1 = .ok (.ifCond .lt 24, 3) := by decide +kernel
theorem d_Mo_isArc_4 : decode prog_12_method_4_code 4 = .ok (.iload_n 1, 1) := by decide +kernel
theorem d_Mo_isArc_5 : decode prog_12_method_4_code 5 = .ok (.aload_n 0, 1) := by decide +kernel
theorem d_Mo_isArc_6 : decode prog_12_method_4_code 6 = .ok (.getfield 88, 3) := by decide +kernel
theorem d_Mo_isArc_9 : decode prog_12_method_4_code 9 = .ok (.if_icmp .ge 16, 3) := by decide +kernel
theorem d_Mo_isArc_12 : decode prog_12_method_4_code 12 = .ok (.aload_n 0, 1) := by decide +kernel
theorem d_Mo_isArc_13 : decode prog_12_method_4_code 13 = .ok (.getfield 25, 3) := by decide +kernel
theorem d_Mo_isArc_16 : decode prog_12_method_4_code 16 = .ok (.iload_n 1, 1) := by decide +kernel
theorem d_Mo_isArc_17 : decode prog_12_method_4_code 17 = .ok (.baload, 1) := by decide +kernel
theorem d_Mo_isArc_18 : decode prog_12_method_4_code 18 = .ok (.ifCond .eq 7, 3) := by decide +kernel
theorem d_Mo_isArc_21 : decode prog_12_method_4_code 21 = .ok (.iconst 1, 1) := by decide +kernel
theorem d_Mo_isArc_22 : decode prog_12_method_4_code 22 = .ok (.goto 4, 3) := by decide +kernel
theorem d_Mo_isArc_25 : decode prog_12_method_4_code 25 = .ok (.iconst 0, 1) := by decide +kernel
theorem d_Mo_isArc_26 : decode prog_12_method_4_code 26 = .ok (.ireturn, 1) := by decide +kernel
def rm_Mo_isArc : Room := { frames := 0, cells := 0, slots := 0, locals := 0 }
def f_Mo_isArc (σ : mS) (x1 : Int32) : Option (Int32) :=
  if x1 < 0 then (
  some 0) else (
  if (σ.1 0 2) ≤ x1 then (
  some 0) else (
  gd (inb x1 40) (
  if (σ.1 6 x1.toNatClampNeg) = 0 then (
  some 0) else (
  some 1))))
set_option maxHeartbeats 4000000 in
set_option maxRecDepth 100000 in
theorem c_Mo_isArc (l : Launch) (D : va_G) (cA ad : Nat → Nat) (σ : mS) (x1 : Int32) (o : Int32) (h : f_Mo_isArc σ x1 = some o) : mCi l ⟨"LeastPathsModel", "isArc", "(I)Z"⟩ (Cond.code ⟨"LeastPathsModel", "isArc", "(I)Z"⟩ prog_12_method_4_code 2 (Option.some Jvm.ClassFile.FieldType.boolean) :: tlG) rm_Mo_isArc D clX (tyK cA) 23 (tbY cA) ad σ [.ref (ad 0), .int x1] (o, σ) := by
  intro sz
  refine m_of (cc := prog_12_method_4_code) (maxL := 2) (Qc := mQi D clX (tyK cA) 23 (tbY cA) ad (o, σ)) (by decide) (Nat.le_of_ble_eq_true rfl) (fun p e s m args below meth c ls S hr hlk hnm hl M => ?_) sz
  have hl : lv_has ls 2 [(0, .ref (ad 0)), (1, .int x1)] := hl
  generalize hQ : MQ _ _ _ _ _ _ _ = Q
  skip
  unfold f_Mo_isArc at h
  refine lv_iload_n S.1 S.2.1 d_Mo_isArc_0 rfl (lv_at hl 1 rfl) ?_
  refine m_iflt (tgt := 25) S d_Mo_isArc_1 (by decide) h (fun h => ?_) (fun h => ?_)
  · refine lv_iconst (v := 0) S.1 S.2.1 d_Mo_isArc_25 (by decide) ?_
    subst hQ; exact m_zret S hr hlk M (by rw [Option.some.inj h]) rfl d_Mo_isArc_26
  · refine lv_iload_n S.1 S.2.1 d_Mo_isArc_4 rfl (lv_at hl 1 rfl) ?_
    refine lv_aload_n S.1 S.2.1 d_Mo_isArc_5 rfl (lv_at hl 0 rfl) ?_
    refine m_gi S M (j := 2) ok_Mo (by decide) rfl (by decide) rfl kw_383 rfl d_Mo_isArc_6 ?_
    refine m_ige (tgt := 25) S d_Mo_isArc_9 (by decide) h (fun h => ?_) (fun h => ?_)
    · refine lv_iconst (v := 0) S.1 S.2.1 d_Mo_isArc_25 (by decide) ?_
      subst hQ; exact m_zret S hr hlk M (by rw [Option.some.inj h]) rfl d_Mo_isArc_26
    · refine lv_aload_n S.1 S.2.1 d_Mo_isArc_12 rfl (lv_at hl 0 rfl) ?_
      refine m_gs (t := 6) S M (j := 8) ok_Mo (by decide) rfl (by decide) rfl kw_384 rfl d_Mo_isArc_13 ?_
      refine lv_iload_n S.1 S.2.1 d_Mo_isArc_16 rfl (lv_at hl 1 rfl) ?_
      refine m_zal (t0 := 2) S M (by decide) rfl rfl h d_Mo_isArc_17 (fun h => ?_)
      refine m_ifeq (tgt := 25) S d_Mo_isArc_18 (by decide) h (fun h => ?_) (fun h => ?_)
      · refine lv_iconst (v := 0) S.1 S.2.1 d_Mo_isArc_25 (by decide) ?_
        subst hQ; exact m_zret S hr hlk M (by rw [Option.some.inj h]) rfl d_Mo_isArc_26
      · refine lv_iconst (v := 1) S.1 S.2.1 d_Mo_isArc_21 (by decide) ?_
        refine lv_goto (tgt := 26) S.1 S.2.1 d_Mo_isArc_22 (by decide) ?_
        subst hQ; exact m_zret S hr hlk M (by rw [Option.some.inj h]) rfl d_Mo_isArc_26
theorem d_Mo_change_0 : decode prog_12_method_5_code 0 = .ok (.aload_n 0, 1) := by decide +kernel
theorem d_Mo_change_1 : decode prog_12_method_5_code 1 = .ok (.iconst (-1), 1) := by decide +kernel
theorem d_Mo_change_2 : decode prog_12_method_5_code 2 = .ok (.putfield 59, 3) := by decide +kernel
theorem d_Mo_change_5 : decode prog_12_method_5_code 5 = .ok (.return_, 1) := by decide +kernel
def rm_Mo_change : Room := { frames := 0, cells := 0, slots := 0, locals := 0 }
def f_Mo_change (σ : mS) : Option (mS) :=
  nm (sI σ 0 21 ((-1))) fun σ1 =>
  some σ1
set_option maxHeartbeats 4000000 in
set_option maxRecDepth 100000 in
theorem c_Mo_change (l : Launch) (D : va_G) (cA ad : Nat → Nat) (σ : mS) (o : mS) (h : f_Mo_change σ = some o) : mCv l ⟨"LeastPathsModel", "change", "()V"⟩ (Cond.code ⟨"LeastPathsModel", "change", "()V"⟩ prog_12_method_5_code 1 (Option.none : Option Jvm.ClassFile.FieldType) :: tlG) rm_Mo_change D clX (tyK cA) 23 (tbY cA) ad σ [.ref (ad 0)] o := by
  intro sz
  refine m_of (cc := prog_12_method_5_code) (maxL := 1) (Qc := mQv D clX (tyK cA) 23 (tbY cA) ad o) (by decide) (Nat.le_of_ble_eq_true rfl) (fun p e s m args below meth c ls S hr hlk hnm hl M => ?_) sz
  have hl : lv_has ls 1 [(0, .ref (ad 0))] := hl
  generalize hQ : MQ _ _ _ _ _ _ _ = Q
  skip
  unfold f_Mo_change at h
  refine lv_aload_n S.1 S.2.1 d_Mo_change_0 rfl (lv_at hl 0 rfl) ?_
  refine lv_iconst (v := (-1)) S.1 S.2.1 d_Mo_change_1 (by decide) ?_
  refine m_pi S M (j := 21) ok_Mo (by decide) rfl (by decide) rfl kw_385 rfl rfl rfl d_Mo_change_2 h (fun σ1 H locs h M => ?_)
  subst hQ; exact m_vret S hr hlk M (Option.some.inj h) d_Mo_change_5
theorem d_Mo_node_0 : decode prog_12_method_6_code 0 = .ok (.aload_n 0, 1) := by decide +kernel
theorem d_Mo_node_1 : decode prog_12_method_6_code 1 = .ok (.getfield 85, 3) := by decide +kernel
theorem d_Mo_node_4 : decode prog_12_method_6_code 4 = .ok (.bipush 10, 2) := by decide +kernel
theorem d_Mo_node_6 : decode prog_12_method_6_code 6 = .ok (.if_icmp .ne 6, 3) := by decide +kernel
theorem d_Mo_node_9 : decode prog_12_method_6_code 9 = .ok (.bipush (-4), 2) := by decide +kernel
theorem d_Mo_node_11 : decode prog_12_method_6_code 11 = .ok (.ireturn, 1) := by decide +kernel
theorem d_Mo_node_12 : decode prog_12_method_6_code 12 = .ok (.aload_n 0, 1) := by decide +kernel
theorem d_Mo_node_13 : decode prog_12_method_6_code 13 = .ok (.getfield 29, 3) := by decide +kernel
theorem d_Mo_node_16 : decode prog_12_method_6_code 16 = .ok (.aload_n 0, 1) := by decide +kernel
theorem d_Mo_node_17 : decode prog_12_method_6_code 17 = .ok (.getfield 85, 3) := by decide +kernel
theorem d_Mo_node_20 : decode prog_12_method_6_code 20 = .ok (.iconst 0, 1) := by decide +kernel
theorem d_Mo_node_21 : decode prog_12_method_6_code 21 = .ok (.bastore, 1) := by decide +kernel
theorem d_Mo_node_22 : decode prog_12_method_6_code 22 = .ok (.aload_n 0, 1) := by decide +kernel
theorem d_Mo_node_23 : decode prog_12_method_6_code 23 = .ok (.getfield 32, 3) := by decide +kernel
theorem d_Mo_node_26 : decode prog_12_method_6_code 26 = .ok (.aload_n 0, 1) := by decide +kernel
theorem d_Mo_node_27 : decode prog_12_method_6_code 27 = .ok (.getfield 85, 3) := by decide +kernel
theorem d_Mo_node_30 : decode prog_12_method_6_code 30 = .ok (.iconst 0, 1) := by decide +kernel
theorem d_Mo_node_31 : decode prog_12_method_6_code 31 = .ok (.iastore, 1) := by decide +kernel
theorem d_Mo_node_32 : decode prog_12_method_6_code 32 = .ok (.aload_n 0, 1) := by decide +kernel
theorem d_Mo_node_33 : decode prog_12_method_6_code 33 = .ok (.dup, 1) := by decide +kernel
theorem d_Mo_node_34 : decode prog_12_method_6_code 34 = .ok (.getfield 85, 3) := by decide +kernel
theorem d_Mo_node_37 : decode prog_12_method_6_code 37 = .ok (.iconst 1, 1) := by decide +kernel
theorem d_Mo_node_38 : decode prog_12_method_6_code 38 = .ok (.iadd, 1) := by decide +kernel
theorem d_Mo_node_39 : decode prog_12_method_6_code 39 = .ok (.putfield 85, 3) := by decide +kernel
theorem d_Mo_node_42 : decode prog_12_method_6_code 42 = .ok (.aload_n 0, 1) := by decide +kernel
theorem d_Mo_node_43 : decode prog_12_method_6_code 43 = .ok (.invokevirtual 91, 3) := by decide +kernel
theorem d_Mo_node_46 : decode prog_12_method_6_code 46 = .ok (.aload_n 0, 1) := by decide +kernel
theorem d_Mo_node_47 : decode prog_12_method_6_code 47 = .ok (.getfield 85, 3) := by decide +kernel
theorem d_Mo_node_50 : decode prog_12_method_6_code 50 = .ok (.iconst 1, 1) := by decide +kernel
theorem d_Mo_node_51 : decode prog_12_method_6_code 51 = .ok (.isub, 1) := by decide +kernel
theorem d_Mo_node_52 : decode prog_12_method_6_code 52 = .ok (.ireturn, 1) := by decide +kernel
def rm_Mo_node : Room := { frames := 1, cells := 0, slots := 0, locals := 20 }
def f_Mo_node (σ : mS) : Option (Int32 × mS) :=
  if (σ.1 0 1) = 10 then (
  some ((-4), σ)) else (
  gd (inb (σ.1 0 1) 10) (gd (isB 0) (nm (sI σ 7 (σ.1 0 1).toNatClampNeg 0) fun σ1 =>
  gd (inb (σ1.1 0 1) 10) ((nm (sI σ1 8 (σ1.1 0 1).toNatClampNeg 0) fun σ2 =>
  nm (sI σ2 0 1 ((σ2.1 0 1) + 1)) fun σ3 =>
  (f_Mo_change σ3).bind fun σ4 =>
  some ((σ4.1 0 1) - 1, σ4))))))
set_option maxHeartbeats 4000000 in
set_option maxRecDepth 100000 in
theorem c_Mo_node (l : Launch) (D : va_G) (cA ad : Nat → Nat) (σ : mS) (o : Int32 × mS) (h : f_Mo_node σ = some o) : mCi l ⟨"LeastPathsModel", "node", "()I"⟩ (Cond.code ⟨"LeastPathsModel", "node", "()I"⟩ prog_12_method_6_code 1 (Option.some Jvm.ClassFile.FieldType.int) :: tlG) rm_Mo_node D clX (tyK cA) 23 (tbY cA) ad σ [.ref (ad 0)] o := by
  intro sz
  refine m_of (cc := prog_12_method_6_code) (maxL := 1) (Qc := mQi D clX (tyK cA) 23 (tbY cA) ad o) (by decide) (Nat.le_of_ble_eq_true rfl) (fun p e s m args below meth c ls S hr hlk hnm hl M => ?_) sz
  have hl : lv_has ls 1 [(0, .ref (ad 0))] := hl
  generalize hQ : MQ _ _ _ _ _ _ _ = Q
  skip
  unfold f_Mo_node at h
  refine lv_aload_n S.1 S.2.1 d_Mo_node_0 rfl (lv_at hl 0 rfl) ?_
  refine m_gi S M (j := 1) ok_Mo (by decide) rfl (by decide) rfl kw_382 rfl d_Mo_node_1 ?_
  refine lv_bipush (v := 10) S.1 S.2.1 d_Mo_node_4 (by decide) ?_
  refine m_ine (tgt := 12) S d_Mo_node_6 (by decide) h (fun h => ?_) (fun h => ?_)
  · refine lv_aload_n S.1 S.2.1 d_Mo_node_12 rfl (lv_at hl 0 rfl) ?_
    refine m_gs (t := 7) S M (j := 9) ok_Mo (by decide) rfl (by decide) rfl kw_386 rfl d_Mo_node_13 ?_
    refine lv_aload_n S.1 S.2.1 d_Mo_node_16 rfl (lv_at hl 0 rfl) ?_
    refine m_gi S M (j := 1) ok_Mo (by decide) rfl (by decide) rfl kw_382 rfl d_Mo_node_17 ?_
    refine lv_iconst (v := 0) S.1 S.2.1 d_Mo_node_20 (by decide) ?_
    refine m_zas (t0 := 2) S M (by decide) rfl rfl h d_Mo_node_21 (fun σ1 H locs h M => ?_)
    refine lv_aload_n S.1 S.2.1 d_Mo_node_22 rfl (lv_at hl 0 rfl) ?_
    refine m_gs (t := 8) S M (j := 10) ok_Mo (by decide) rfl (by decide) rfl kw_387 rfl d_Mo_node_23 ?_
    refine lv_aload_n S.1 S.2.1 d_Mo_node_26 rfl (lv_at hl 0 rfl) ?_
    refine m_gi S M (j := 1) ok_Mo (by decide) rfl (by decide) rfl kw_382 rfl d_Mo_node_27 ?_
    refine lv_iconst (v := 0) S.1 S.2.1 d_Mo_node_30 (by decide) ?_
    refine m_ias (t0 := 0) S M (by decide) rfl rfl h d_Mo_node_31 (fun σ2 H locs h M => ?_)
    refine lv_aload_n S.1 S.2.1 d_Mo_node_32 rfl (lv_at hl 0 rfl) ?_
    refine lv_dup S.1 S.2.1 d_Mo_node_33 rfl ?_
    refine m_gi S M (j := 1) ok_Mo (by decide) rfl (by decide) rfl kw_382 rfl d_Mo_node_34 ?_
    refine lv_iconst (v := 1) S.1 S.2.1 d_Mo_node_37 (by decide) ?_
    refine lv_iadd S.1 S.2.1 d_Mo_node_38 ?_
    refine m_pi S M (j := 1) ok_Mo (by decide) rfl (by decide) rfl kw_382 rfl rfl rfl d_Mo_node_39 h (fun σ3 H locs h M => ?_)
    refine lv_aload_n S.1 S.2.1 d_Mo_node_42 rfl (lv_at hl 0 rfl) ?_
    refine m_xv h (fun o ho => m_rV (As := []) (rest := []) S M hl.1 (cwG (n := 0) S.2.2.2.2 kw_388 kw_389 kw_390 kw_391 kw_392 (by decide) ⟨Nat.le_of_ble_eq_true rfl, Nat.le_of_ble_eq_true rfl⟩) ok_Mo (by decide) rfl (c_Mo_change l D cA ad σ3 o ho _) rfl rfl (Nat.le_of_ble_eq_true rfl) d_Mo_node_43 ⟨Nat.zero_le _, Nat.zero_le _⟩) M (fun σ4 H locs h M => ?_)
    refine lv_aload_n S.1 S.2.1 d_Mo_node_46 rfl (lv_at hl 0 rfl) ?_
    refine m_gi S M (j := 1) ok_Mo (by decide) rfl (by decide) rfl kw_382 rfl d_Mo_node_47 ?_
    refine lv_iconst (v := 1) S.1 S.2.1 d_Mo_node_50 (by decide) ?_
    refine lv_isub S.1 S.2.1 d_Mo_node_51 ?_
    subst hQ; exact m_iret S hr hlk M (Option.some.inj h) d_Mo_node_52
  · refine lv_bipush (v := (-4)) S.1 S.2.1 d_Mo_node_9 (by decide) ?_
    subst hQ; exact m_iret S hr hlk M (Option.some.inj h) d_Mo_node_11
theorem d_Mo_arc_0 : decode prog_12_method_7_code 0 = .ok (.aload_n 0, 1) := by decide +kernel
theorem d_Mo_arc_1 : decode prog_12_method_7_code 1 = .ok (.iload_n 1, 1) := by decide +kernel
theorem d_Mo_arc_2 : decode prog_12_method_7_code 2 = .ok (.invokevirtual 94, 3) := by decide +kernel
theorem d_Mo_arc_5 : decode prog_12_method_7_code 5 = .ok (.ifCond .eq 16, 3) := by decide +kernel
theorem d_Mo_arc_8 : decode prog_12_method_7_code 8 = .ok (.aload_n 0, 1) := by decide +kernel
theorem d_Mo_arc_9 : decode prog_12_method_7_code 9 = .ok (.iload_n 2, 1) := by decide +kernel
theorem d_Mo_arc_10 : decode prog_12_method_7_code 10 = .ok (.invokevirtual 94, 3) := by decide +kernel
theorem d_Mo_arc_13 : decode prog_12_method_7_code 13 = .ok (.ifCond .eq 8, 3) := by decide +kernel
theorem d_Mo_arc_16 : decode prog_12_method_7_code 16 = .ok (.iload_n 1, 1) := by decide +kernel
theorem d_Mo_arc_17 : decode prog_12_method_7_code 17 = .ok (.iload_n 2, 1) := by decide +kernel
theorem d_Mo_arc_18 : decode prog_12_method_7_code 18 = .ok (.if_icmp .ne 5, 3) := by decide +kernel
theorem d_Mo_arc_21 : decode prog_12_method_7_code 21 = .ok (.iconst (-1), 1) := by decide +kernel
theorem d_Mo_arc_22 : decode prog_12_method_7_code 22 = .ok (.ireturn, 1) := by decide +kernel
theorem d_Mo_arc_23 : decode prog_12_method_7_code 23 = .ok (.iload_n 3, 1) := by decide +kernel
theorem d_Mo_arc_24 : decode prog_12_method_7_code 24 = .ok (.ifCond .lt 9, 3) := by decide +kernel
theorem d_Mo_arc_27 : decode prog_12_method_7_code 27 = .ok (.iload_n 3, 1) := by decide +kernel
theorem d_Mo_arc_28 : decode prog_12_method_7_code 28 = .ok (.ldc 98, 2) := by decide +kernel
theorem d_Mo_arc_30 : decode prog_12_method_7_code 30 = .ok (.if_icmp .le 6, 3) := by decide +kernel
theorem d_Mo_arc_33 : decode prog_12_method_7_code 33 = .ok (.bipush (-2), 2) := by decide +kernel
theorem d_Mo_arc_35 : decode prog_12_method_7_code 35 = .ok (.ireturn, 1) := by decide +kernel
theorem d_Mo_arc_36 : decode prog_12_method_7_code 36 = .ok (.aload_n 0, 1) := by decide +kernel
theorem d_Mo_arc_37 : decode prog_12_method_7_code 37 = .ok (.getfield 88, 3) := by decide +kernel
theorem d_Mo_arc_40 : decode prog_12_method_7_code 40 = .ok (.bipush 40, 2) := by decide +kernel
theorem d_Mo_arc_42 : decode prog_12_method_7_code 42 = .ok (.if_icmp .ne 6, 3) := by decide +kernel
theorem d_Mo_arc_45 : decode prog_12_method_7_code 45 = .ok (.bipush (-4), 2) := by decide +kernel
theorem d_Mo_arc_47 : decode prog_12_method_7_code 47 = .ok (.ireturn, 1) := by decide +kernel
theorem d_Mo_arc_48 : decode prog_12_method_7_code 48 = .ok (.aload_n 0, 1) := by decide +kernel
theorem d_Mo_arc_49 : decode prog_12_method_7_code 49 = .ok (.getfield 7, 3) := by decide +kernel
theorem d_Mo_arc_52 : decode prog_12_method_7_code 52 = .ok (.aload_n 0, 1) := by decide +kernel
theorem d_Mo_arc_53 : decode prog_12_method_7_code 53 = .ok (.getfield 88, 3) := by decide +kernel
theorem d_Mo_arc_56 : decode prog_12_method_7_code 56 = .ok (.iload_n 1, 1) := by decide +kernel
theorem d_Mo_arc_57 : decode prog_12_method_7_code 57 = .ok (.iastore, 1) := by decide +kernel
theorem d_Mo_arc_58 : decode prog_12_method_7_code 58 = .ok (.aload_n 0, 1) := by decide +kernel
theorem d_Mo_arc_59 : decode prog_12_method_7_code 59 = .ok (.getfield 13, 3) := by decide +kernel
theorem d_Mo_arc_62 : decode prog_12_method_7_code 62 = .ok (.aload_n 0, 1) := by decide +kernel
theorem d_Mo_arc_63 : decode prog_12_method_7_code 63 = .ok (.getfield 88, 3) := by decide +kernel
theorem d_Mo_arc_66 : decode prog_12_method_7_code 66 = .ok (.iload_n 2, 1) := by decide +kernel
theorem d_Mo_arc_67 : decode prog_12_method_7_code 67 = .ok (.iastore, 1) := by decide +kernel
theorem d_Mo_arc_68 : decode prog_12_method_7_code 68 = .ok (.aload_n 0, 1) := by decide +kernel
theorem d_Mo_arc_69 : decode prog_12_method_7_code 69 = .ok (.getfield 16, 3) := by decide +kernel
theorem d_Mo_arc_72 : decode prog_12_method_7_code 72 = .ok (.aload_n 0, 1) := by decide +kernel
theorem d_Mo_arc_73 : decode prog_12_method_7_code 73 = .ok (.getfield 88, 3) := by decide +kernel
theorem d_Mo_arc_76 : decode prog_12_method_7_code 76 = .ok (.iload_n 3, 1) := by decide +kernel
theorem d_Mo_arc_77 : decode prog_12_method_7_code 77 = .ok (.iastore, 1) := by decide +kernel
theorem d_Mo_arc_78 : decode prog_12_method_7_code 78 = .ok (.aload_n 0, 1) := by decide +kernel
theorem d_Mo_arc_79 : decode prog_12_method_7_code 79 = .ok (.getfield 19, 3) := by decide +kernel
theorem d_Mo_arc_82 : decode prog_12_method_7_code 82 = .ok (.aload_n 0, 1) := by decide +kernel
theorem d_Mo_arc_83 : decode prog_12_method_7_code 83 = .ok (.getfield 88, 3) := by decide +kernel
theorem d_Mo_arc_86 : decode prog_12_method_7_code 86 = .ok (.iconst 1, 1) := by decide +kernel
theorem d_Mo_arc_87 : decode prog_12_method_7_code 87 = .ok (.iastore, 1) := by decide +kernel
theorem d_Mo_arc_88 : decode prog_12_method_7_code 88 = .ok (.aload_n 0, 1) := by decide +kernel
theorem d_Mo_arc_89 : decode prog_12_method_7_code 89 = .ok (.getfield 22, 3) := by decide +kernel
theorem d_Mo_arc_92 : decode prog_12_method_7_code 92 = .ok (.aload_n 0, 1) := by decide +kernel
theorem d_Mo_arc_93 : decode prog_12_method_7_code 93 = .ok (.getfield 88, 3) := by decide +kernel
theorem d_Mo_arc_96 : decode prog_12_method_7_code 96 = .ok (.iconst 1, 1) := by decide +kernel
theorem d_Mo_arc_97 : decode prog_12_method_7_code 97 = .ok (.iastore, 1) := by decide +kernel
theorem d_Mo_arc_98 : decode prog_12_method_7_code 98 = .ok (.aload_n 0, 1) := by decide +kernel
theorem d_Mo_arc_99 : decode prog_12_method_7_code 99 = .ok (.getfield 25, 3) := by decide +kernel
theorem d_Mo_arc_102 : decode prog_12_method_7_code 102 = .ok (.aload_n 0, 1) := by decide +kernel
theorem d_Mo_arc_103 : decode prog_12_method_7_code 103 = .ok (.getfield 88, 3) := by decide +kernel
theorem d_Mo_arc_106 : decode prog_12_method_7_code 106 = .ok (.iconst 1, 1) := by decide +kernel
theorem d_Mo_arc_107 : decode prog_12_method_7_code 107 = .ok (.bastore, 1) := by decide +kernel
theorem d_Mo_arc_108 : decode prog_12_method_7_code 108 = .ok (.aload_n 0, 1) := by decide +kernel
theorem d_Mo_arc_109 : decode prog_12_method_7_code 109 = .ok (.dup, 1) := by decide +kernel
theorem d_Mo_arc_110 : decode prog_12_method_7_code 110 = .ok (.getfield 88, 3) := by decide +kernel
theorem d_Mo_arc_113 : decode prog_12_method_7_code 113 = .ok (.iconst 1, 1) := by decide +kernel
theorem d_Mo_arc_114 : decode prog_12_method_7_code 114 = .ok (.iadd, 1) := by decide +kernel
theorem d_Mo_arc_115 : decode prog_12_method_7_code 115 = .ok (.putfield 88, 3) := by decide +kernel
theorem d_Mo_arc_118 : decode prog_12_method_7_code 118 = .ok (.aload_n 0, 1) := by decide +kernel
theorem d_Mo_arc_119 : decode prog_12_method_7_code 119 = .ok (.invokevirtual 91, 3) := by decide +kernel
theorem d_Mo_arc_122 : decode prog_12_method_7_code 122 = .ok (.aload_n 0, 1) := by decide +kernel
theorem d_Mo_arc_123 : decode prog_12_method_7_code 123 = .ok (.getfield 88, 3) := by decide +kernel
theorem d_Mo_arc_126 : decode prog_12_method_7_code 126 = .ok (.iconst 1, 1) := by decide +kernel
theorem d_Mo_arc_127 : decode prog_12_method_7_code 127 = .ok (.isub, 1) := by decide +kernel
theorem d_Mo_arc_128 : decode prog_12_method_7_code 128 = .ok (.ireturn, 1) := by decide +kernel
def rm_Mo_arc : Room := { frames := 1, cells := 0, slots := 0, locals := 21 }
def f_Mo_arc (σ : mS) (x1 : Int32) (x2 : Int32) (x3 : Int32) : Option (Int32 × mS) :=
  (f_Mo_isNode σ x1).bind fun v1 =>
  if v1 = 0 then (
  some ((-1), σ)) else (
  (f_Mo_isNode σ x2).bind fun v2 =>
  if v2 = 0 then (
  some ((-1), σ)) else (
  if x1 = x2 then (
  some ((-1), σ)) else (
  if x3 < 0 then (
  some ((-2), σ)) else (
  if x3 ≤ 1000000 then (
  if (σ.1 0 2) = 40 then (
  some ((-4), σ)) else (
  gd (inb (σ.1 0 2) 40) ((nm (sI σ 1 (σ.1 0 2).toNatClampNeg x1) fun σ3 =>
  gd (inb (σ3.1 0 2) 40) ((nm (sI σ3 2 (σ3.1 0 2).toNatClampNeg x2) fun σ4 =>
  gd (inb (σ4.1 0 2) 40) ((nm (sI σ4 3 (σ4.1 0 2).toNatClampNeg x3) fun σ5 =>
  gd (inb (σ5.1 0 2) 40) ((nm (sI σ5 4 (σ5.1 0 2).toNatClampNeg 1) fun σ6 =>
  gd (inb (σ6.1 0 2) 40) ((nm (sI σ6 5 (σ6.1 0 2).toNatClampNeg 1) fun σ7 =>
  gd (inb (σ7.1 0 2) 40) (gd (isB 1) (nm (sI σ7 6 (σ7.1 0 2).toNatClampNeg 1) fun σ8 =>
  nm (sI σ8 0 2 ((σ8.1 0 2) + 1)) fun σ9 =>
  (f_Mo_change σ9).bind fun σ10 =>
  some ((σ10.1 0 2) - 1, σ10))))))))))))))) else (
  some ((-2), σ))))))
set_option maxHeartbeats 4000000 in
set_option maxRecDepth 100000 in
theorem c_Mo_arc (l : Launch) (D : va_G) (cA ad : Nat → Nat) (σ : mS) (x1 : Int32) (x2 : Int32) (x3 : Int32) (o : Int32 × mS) (h : f_Mo_arc σ x1 x2 x3 = some o) : mCi l ⟨"LeastPathsModel", "arc", "(III)I"⟩ (Cond.code ⟨"LeastPathsModel", "arc", "(III)I"⟩ prog_12_method_7_code 4 (Option.some Jvm.ClassFile.FieldType.int) :: tlG) rm_Mo_arc D clX (tyK cA) 23 (tbY cA) ad σ [.ref (ad 0), .int x1, .int x2, .int x3] o := by
  intro sz
  refine m_of (cc := prog_12_method_7_code) (maxL := 4) (Qc := mQi D clX (tyK cA) 23 (tbY cA) ad o) (by decide) (Nat.le_of_ble_eq_true rfl) (fun p e s m args below meth c ls S hr hlk hnm hl M => ?_) sz
  have hl : lv_has ls 4 [(0, .ref (ad 0)), (1, .int x1), (2, .int x2), (3, .int x3)] := hl
  generalize hQ : MQ _ _ _ _ _ _ _ = Q
  skip
  unfold f_Mo_arc at h
  refine lv_aload_n S.1 S.2.1 d_Mo_arc_0 rfl (lv_at hl 0 rfl) ?_
  refine lv_iload_n S.1 S.2.1 d_Mo_arc_1 rfl (lv_at hl 1 rfl) ?_
  refine m_xip h (fun o ho => m_rV (As := [.int x1]) (rest := []) S M hl.1 (cwG (n := 1) S.2.2.2.2 kw_393 kw_394 kw_395 kw_391 kw_396 (by decide) ⟨Nat.le_of_ble_eq_true rfl, Nat.le_of_ble_eq_true rfl⟩) ok_Mo (by decide) rfl (c_Mo_isNode l D cA ad σ x1 o ho _) rfl rfl (Nat.le_of_ble_eq_true rfl) d_Mo_arc_2 ⟨Nat.zero_le _, Nat.zero_le _⟩) M (fun v1 H locs h M => ?_)
  refine m_ifeq (tgt := 21) S d_Mo_arc_5 (by decide) h (fun h => ?_) (fun h => ?_)
  · refine lv_iconst (v := (-1)) S.1 S.2.1 d_Mo_arc_21 (by decide) ?_
    subst hQ; exact m_iret S hr hlk M (Option.some.inj h) d_Mo_arc_22
  · refine lv_aload_n S.1 S.2.1 d_Mo_arc_8 rfl (lv_at hl 0 rfl) ?_
    refine lv_iload_n S.1 S.2.1 d_Mo_arc_9 rfl (lv_at hl 2 rfl) ?_
    refine m_xip h (fun o ho => m_rV (As := [.int x2]) (rest := []) S M hl.1 (cwG (n := 1) S.2.2.2.2 kw_393 kw_394 kw_395 kw_391 kw_396 (by decide) ⟨Nat.le_of_ble_eq_true rfl, Nat.le_of_ble_eq_true rfl⟩) ok_Mo (by decide) rfl (c_Mo_isNode l D cA ad σ x2 o ho _) rfl rfl (Nat.le_of_ble_eq_true rfl) d_Mo_arc_10 ⟨Nat.zero_le _, Nat.zero_le _⟩) M (fun v2 H locs h M => ?_)
    refine m_ifeq (tgt := 21) S d_Mo_arc_13 (by decide) h (fun h => ?_) (fun h => ?_)
    · refine lv_iconst (v := (-1)) S.1 S.2.1 d_Mo_arc_21 (by decide) ?_
      subst hQ; exact m_iret S hr hlk M (Option.some.inj h) d_Mo_arc_22
    · refine lv_iload_n S.1 S.2.1 d_Mo_arc_16 rfl (lv_at hl 1 rfl) ?_
      refine lv_iload_n S.1 S.2.1 d_Mo_arc_17 rfl (lv_at hl 2 rfl) ?_
      refine m_ine (tgt := 23) S d_Mo_arc_18 (by decide) h (fun h => ?_) (fun h => ?_)
      · refine lv_iload_n S.1 S.2.1 d_Mo_arc_23 rfl (lv_at hl 3 rfl) ?_
        refine m_iflt (tgt := 33) S d_Mo_arc_24 (by decide) h (fun h => ?_) (fun h => ?_)
        · refine lv_bipush (v := (-2)) S.1 S.2.1 d_Mo_arc_33 (by decide) ?_
          subst hQ; exact m_iret S hr hlk M (Option.some.inj h) d_Mo_arc_35
        · refine lv_iload_n S.1 S.2.1 d_Mo_arc_27 rfl (lv_at hl 3 rfl) ?_
          refine lv_ldc (v := 1000000) S.1 S.2.1 S.2.2.2.1 (S.2.2.2.2 _ kw_397) d_Mo_arc_28 ?_
          refine m_ile (tgt := 36) S d_Mo_arc_30 (by decide) h (fun h => ?_) (fun h => ?_)
          · refine lv_aload_n S.1 S.2.1 d_Mo_arc_36 rfl (lv_at hl 0 rfl) ?_
            refine m_gi S M (j := 2) ok_Mo (by decide) rfl (by decide) rfl kw_383 rfl d_Mo_arc_37 ?_
            refine lv_bipush (v := 40) S.1 S.2.1 d_Mo_arc_40 (by decide) ?_
            refine m_ine (tgt := 48) S d_Mo_arc_42 (by decide) h (fun h => ?_) (fun h => ?_)
            · refine lv_aload_n S.1 S.2.1 d_Mo_arc_48 rfl (lv_at hl 0 rfl) ?_
              refine m_gs (t := 1) S M (j := 3) ok_Mo (by decide) rfl (by decide) rfl kw_398 rfl d_Mo_arc_49 ?_
              refine lv_aload_n S.1 S.2.1 d_Mo_arc_52 rfl (lv_at hl 0 rfl) ?_
              refine m_gi S M (j := 2) ok_Mo (by decide) rfl (by decide) rfl kw_383 rfl d_Mo_arc_53 ?_
              refine lv_iload_n S.1 S.2.1 d_Mo_arc_56 rfl (lv_at hl 1 rfl) ?_
              refine m_ias (t0 := 0) S M (by decide) rfl rfl h d_Mo_arc_57 (fun σ3 H locs h M => ?_)
              refine lv_aload_n S.1 S.2.1 d_Mo_arc_58 rfl (lv_at hl 0 rfl) ?_
              refine m_gs (t := 2) S M (j := 4) ok_Mo (by decide) rfl (by decide) rfl kw_399 rfl d_Mo_arc_59 ?_
              refine lv_aload_n S.1 S.2.1 d_Mo_arc_62 rfl (lv_at hl 0 rfl) ?_
              refine m_gi S M (j := 2) ok_Mo (by decide) rfl (by decide) rfl kw_383 rfl d_Mo_arc_63 ?_
              refine lv_iload_n S.1 S.2.1 d_Mo_arc_66 rfl (lv_at hl 2 rfl) ?_
              refine m_ias (t0 := 0) S M (by decide) rfl rfl h d_Mo_arc_67 (fun σ4 H locs h M => ?_)
              refine lv_aload_n S.1 S.2.1 d_Mo_arc_68 rfl (lv_at hl 0 rfl) ?_
              refine m_gs (t := 3) S M (j := 5) ok_Mo (by decide) rfl (by decide) rfl kw_400 rfl d_Mo_arc_69 ?_
              refine lv_aload_n S.1 S.2.1 d_Mo_arc_72 rfl (lv_at hl 0 rfl) ?_
              refine m_gi S M (j := 2) ok_Mo (by decide) rfl (by decide) rfl kw_383 rfl d_Mo_arc_73 ?_
              refine lv_iload_n S.1 S.2.1 d_Mo_arc_76 rfl (lv_at hl 3 rfl) ?_
              refine m_ias (t0 := 0) S M (by decide) rfl rfl h d_Mo_arc_77 (fun σ5 H locs h M => ?_)
              refine lv_aload_n S.1 S.2.1 d_Mo_arc_78 rfl (lv_at hl 0 rfl) ?_
              refine m_gs (t := 4) S M (j := 6) ok_Mo (by decide) rfl (by decide) rfl kw_401 rfl d_Mo_arc_79 ?_
              refine lv_aload_n S.1 S.2.1 d_Mo_arc_82 rfl (lv_at hl 0 rfl) ?_
              refine m_gi S M (j := 2) ok_Mo (by decide) rfl (by decide) rfl kw_383 rfl d_Mo_arc_83 ?_
              refine lv_iconst (v := 1) S.1 S.2.1 d_Mo_arc_86 (by decide) ?_
              refine m_ias (t0 := 0) S M (by decide) rfl rfl h d_Mo_arc_87 (fun σ6 H locs h M => ?_)
              refine lv_aload_n S.1 S.2.1 d_Mo_arc_88 rfl (lv_at hl 0 rfl) ?_
              refine m_gs (t := 5) S M (j := 7) ok_Mo (by decide) rfl (by decide) rfl kw_402 rfl d_Mo_arc_89 ?_
              refine lv_aload_n S.1 S.2.1 d_Mo_arc_92 rfl (lv_at hl 0 rfl) ?_
              refine m_gi S M (j := 2) ok_Mo (by decide) rfl (by decide) rfl kw_383 rfl d_Mo_arc_93 ?_
              refine lv_iconst (v := 1) S.1 S.2.1 d_Mo_arc_96 (by decide) ?_
              refine m_ias (t0 := 0) S M (by decide) rfl rfl h d_Mo_arc_97 (fun σ7 H locs h M => ?_)
              refine lv_aload_n S.1 S.2.1 d_Mo_arc_98 rfl (lv_at hl 0 rfl) ?_
              refine m_gs (t := 6) S M (j := 8) ok_Mo (by decide) rfl (by decide) rfl kw_384 rfl d_Mo_arc_99 ?_
              refine lv_aload_n S.1 S.2.1 d_Mo_arc_102 rfl (lv_at hl 0 rfl) ?_
              refine m_gi S M (j := 2) ok_Mo (by decide) rfl (by decide) rfl kw_383 rfl d_Mo_arc_103 ?_
              refine lv_iconst (v := 1) S.1 S.2.1 d_Mo_arc_106 (by decide) ?_
              refine m_zas (t0 := 2) S M (by decide) rfl rfl h d_Mo_arc_107 (fun σ8 H locs h M => ?_)
              refine lv_aload_n S.1 S.2.1 d_Mo_arc_108 rfl (lv_at hl 0 rfl) ?_
              refine lv_dup S.1 S.2.1 d_Mo_arc_109 rfl ?_
              refine m_gi S M (j := 2) ok_Mo (by decide) rfl (by decide) rfl kw_383 rfl d_Mo_arc_110 ?_
              refine lv_iconst (v := 1) S.1 S.2.1 d_Mo_arc_113 (by decide) ?_
              refine lv_iadd S.1 S.2.1 d_Mo_arc_114 ?_
              refine m_pi S M (j := 2) ok_Mo (by decide) rfl (by decide) rfl kw_383 rfl rfl rfl d_Mo_arc_115 h (fun σ9 H locs h M => ?_)
              refine lv_aload_n S.1 S.2.1 d_Mo_arc_118 rfl (lv_at hl 0 rfl) ?_
              refine m_xv h (fun o ho => m_rV (As := []) (rest := []) S M hl.1 (cwG (n := 0) S.2.2.2.2 kw_388 kw_389 kw_390 kw_391 kw_392 (by decide) ⟨Nat.le_of_ble_eq_true rfl, Nat.le_of_ble_eq_true rfl⟩) ok_Mo (by decide) rfl (c_Mo_change l D cA ad σ9 o ho _) rfl rfl (Nat.le_of_ble_eq_true rfl) d_Mo_arc_119 ⟨Nat.zero_le _, Nat.zero_le _⟩) M (fun σ10 H locs h M => ?_)
              refine lv_aload_n S.1 S.2.1 d_Mo_arc_122 rfl (lv_at hl 0 rfl) ?_
              refine m_gi S M (j := 2) ok_Mo (by decide) rfl (by decide) rfl kw_383 rfl d_Mo_arc_123 ?_
              refine lv_iconst (v := 1) S.1 S.2.1 d_Mo_arc_126 (by decide) ?_
              refine lv_isub S.1 S.2.1 d_Mo_arc_127 ?_
              subst hQ; exact m_iret S hr hlk M (Option.some.inj h) d_Mo_arc_128
            · refine lv_bipush (v := (-4)) S.1 S.2.1 d_Mo_arc_45 (by decide) ?_
              subst hQ; exact m_iret S hr hlk M (Option.some.inj h) d_Mo_arc_47
          · refine lv_bipush (v := (-2)) S.1 S.2.1 d_Mo_arc_33 (by decide) ?_
            subst hQ; exact m_iret S hr hlk M (Option.some.inj h) d_Mo_arc_35
      · refine lv_iconst (v := (-1)) S.1 S.2.1 d_Mo_arc_21 (by decide) ?_
        subst hQ; exact m_iret S hr hlk M (Option.some.inj h) d_Mo_arc_22
theorem d_Mo_share_0 : decode prog_12_method_8_code 0 = .ok (.aload_n 0, 1) := by decide +kernel
theorem d_Mo_share_1 : decode prog_12_method_8_code 1 = .ok (.iload_n 1, 1) := by decide +kernel
theorem d_Mo_share_2 : decode prog_12_method_8_code 2 = .ok (.invokevirtual 99, 3) := by decide +kernel
theorem d_Mo_share_5 : decode prog_12_method_8_code 5 = .ok (.ifCond .ne 5, 3) := by decide +kernel
theorem d_Mo_share_8 : decode prog_12_method_8_code 8 = .ok (.iconst (-1), 1) := by decide +kernel
theorem d_Mo_share_9 : decode prog_12_method_8_code 9 = .ok (.ireturn, 1) := by decide +kernel
theorem d_Mo_share_10 : decode prog_12_method_8_code 10 = .ok (.iload_n 3, 1) := by decide +kernel
theorem d_Mo_share_11 : decode prog_12_method_8_code 11 = .ok (.iconst 1, 1) := by decide +kernel
theorem d_Mo_share_12 : decode prog_12_method_8_code 12 = .ok (.if_icmp .lt 18, 3) := by decide +kernel
theorem d_Mo_share_15 : decode prog_12_method_8_code 15 = .ok (.iload_n 3, 1) := by decide +kernel
theorem d_Mo_share_16 : decode prog_12_method_8_code 16 = .ok (.bipush 9, 2) := by decide +kernel
theorem d_Mo_share_18 : decode prog_12_method_8_code 18 = .ok (.if_icmp .gt 12, 3) := by decide +kernel
theorem d_Mo_share_21 : decode prog_12_method_8_code 21 = .ok (.iload_n 2, 1) := by decide +kernel
theorem d_Mo_share_22 : decode prog_12_method_8_code 22 = .ok (.ifCond .lt 8, 3) := by decide +kernel
theorem d_Mo_share_25 : decode prog_12_method_8_code 25 = .ok (.iload_n 2, 1) := by decide +kernel
theorem d_Mo_share_26 : decode prog_12_method_8_code 26 = .ok (.iload_n 3, 1) := by decide +kernel
theorem d_Mo_share_27 : decode prog_12_method_8_code 27 = .ok (.if_icmp .le 6, 3) := by decide +kernel
theorem d_Mo_share_30 : decode prog_12_method_8_code 30 = .ok (.bipush (-2), 2) := by decide +kernel
theorem d_Mo_share_32 : decode prog_12_method_8_code 32 = .ok (.ireturn, 1) := by decide +kernel
theorem d_Mo_share_33 : decode prog_12_method_8_code 33 = .ok (.aload_n 0, 1) := by decide +kernel
theorem d_Mo_share_34 : decode prog_12_method_8_code 34 = .ok (.getfield 19, 3) := by decide +kernel
theorem d_Mo_share_37 : decode prog_12_method_8_code 37 = .ok (.iload_n 1, 1) := by decide +kernel
theorem d_Mo_share_38 : decode prog_12_method_8_code 38 = .ok (.iload_n 2, 1) := by decide +kernel
theorem d_Mo_share_39 : decode prog_12_method_8_code 39 = .ok (.iastore, 1) := by decide +kernel
theorem d_Mo_share_40 : decode prog_12_method_8_code 40 = .ok (.aload_n 0, 1) := by decide +kernel
theorem d_Mo_share_41 : decode prog_12_method_8_code 41 = .ok (.getfield 22, 3) := by decide +kernel
theorem d_Mo_share_44 : decode prog_12_method_8_code 44 = .ok (.iload_n 1, 1) := by decide +kernel
theorem d_Mo_share_45 : decode prog_12_method_8_code 45 = .ok (.iload_n 3, 1) := by decide +kernel
theorem d_Mo_share_46 : decode prog_12_method_8_code 46 = .ok (.iastore, 1) := by decide +kernel
theorem d_Mo_share_47 : decode prog_12_method_8_code 47 = .ok (.iconst 1, 1) := by decide +kernel
theorem d_Mo_share_48 : decode prog_12_method_8_code 48 = .ok (.ireturn, 1) := by decide +kernel
def rm_Mo_share : Room := { frames := 1, cells := 0, slots := 0, locals := 21 }
def f_Mo_share (σ : mS) (x1 : Int32) (x2 : Int32) (x3 : Int32) : Option (Int32 × mS) :=
  (f_Mo_isArc σ x1).bind fun v1 =>
  if v1 = 0 then (
  some ((-1), σ)) else (
  if x3 < 1 then (
  some ((-2), σ)) else (
  if 9 < x3 then (
  some ((-2), σ)) else (
  if x2 < 0 then (
  some ((-2), σ)) else (
  if x2 ≤ x3 then (
  gd (inb x1 40) ((nm (sI σ 4 x1.toNatClampNeg x2) fun σ2 =>
  gd (inb x1 40) ((nm (sI σ2 5 x1.toNatClampNeg x3) fun σ3 =>
  some (1, σ3)))))) else (
  some ((-2), σ))))))
set_option maxHeartbeats 4000000 in
set_option maxRecDepth 100000 in
theorem c_Mo_share (l : Launch) (D : va_G) (cA ad : Nat → Nat) (σ : mS) (x1 : Int32) (x2 : Int32) (x3 : Int32) (o : Int32 × mS) (h : f_Mo_share σ x1 x2 x3 = some o) : mCi l ⟨"LeastPathsModel", "share", "(III)I"⟩ (Cond.code ⟨"LeastPathsModel", "share", "(III)I"⟩ prog_12_method_8_code 4 (Option.some Jvm.ClassFile.FieldType.int) :: tlG) rm_Mo_share D clX (tyK cA) 23 (tbY cA) ad σ [.ref (ad 0), .int x1, .int x2, .int x3] o := by
  intro sz
  refine m_of (cc := prog_12_method_8_code) (maxL := 4) (Qc := mQi D clX (tyK cA) 23 (tbY cA) ad o) (by decide) (Nat.le_of_ble_eq_true rfl) (fun p e s m args below meth c ls S hr hlk hnm hl M => ?_) sz
  have hl : lv_has ls 4 [(0, .ref (ad 0)), (1, .int x1), (2, .int x2), (3, .int x3)] := hl
  generalize hQ : MQ _ _ _ _ _ _ _ = Q
  skip
  unfold f_Mo_share at h
  refine lv_aload_n S.1 S.2.1 d_Mo_share_0 rfl (lv_at hl 0 rfl) ?_
  refine lv_iload_n S.1 S.2.1 d_Mo_share_1 rfl (lv_at hl 1 rfl) ?_
  refine m_xip h (fun o ho => m_rV (As := [.int x1]) (rest := []) S M hl.1 (cwG (n := 1) S.2.2.2.2 kw_403 kw_404 kw_405 kw_391 kw_406 (by decide) ⟨Nat.le_of_ble_eq_true rfl, Nat.le_of_ble_eq_true rfl⟩) ok_Mo (by decide) rfl (c_Mo_isArc l D cA ad σ x1 o ho _) rfl rfl (Nat.le_of_ble_eq_true rfl) d_Mo_share_2 ⟨Nat.zero_le _, Nat.zero_le _⟩) M (fun v1 H locs h M => ?_)
  refine m_ifne (tgt := 10) S d_Mo_share_5 (by decide) h (fun h => ?_) (fun h => ?_)
  · refine lv_iload_n S.1 S.2.1 d_Mo_share_10 rfl (lv_at hl 3 rfl) ?_
    refine lv_iconst (v := 1) S.1 S.2.1 d_Mo_share_11 (by decide) ?_
    refine m_ilt (tgt := 30) S d_Mo_share_12 (by decide) h (fun h => ?_) (fun h => ?_)
    · refine lv_bipush (v := (-2)) S.1 S.2.1 d_Mo_share_30 (by decide) ?_
      subst hQ; exact m_iret S hr hlk M (Option.some.inj h) d_Mo_share_32
    · refine lv_iload_n S.1 S.2.1 d_Mo_share_15 rfl (lv_at hl 3 rfl) ?_
      refine lv_bipush (v := 9) S.1 S.2.1 d_Mo_share_16 (by decide) ?_
      refine m_igt (tgt := 30) S d_Mo_share_18 (by decide) h (fun h => ?_) (fun h => ?_)
      · refine lv_bipush (v := (-2)) S.1 S.2.1 d_Mo_share_30 (by decide) ?_
        subst hQ; exact m_iret S hr hlk M (Option.some.inj h) d_Mo_share_32
      · refine lv_iload_n S.1 S.2.1 d_Mo_share_21 rfl (lv_at hl 2 rfl) ?_
        refine m_iflt (tgt := 30) S d_Mo_share_22 (by decide) h (fun h => ?_) (fun h => ?_)
        · refine lv_bipush (v := (-2)) S.1 S.2.1 d_Mo_share_30 (by decide) ?_
          subst hQ; exact m_iret S hr hlk M (Option.some.inj h) d_Mo_share_32
        · refine lv_iload_n S.1 S.2.1 d_Mo_share_25 rfl (lv_at hl 2 rfl) ?_
          refine lv_iload_n S.1 S.2.1 d_Mo_share_26 rfl (lv_at hl 3 rfl) ?_
          refine m_ile (tgt := 33) S d_Mo_share_27 (by decide) h (fun h => ?_) (fun h => ?_)
          · refine lv_aload_n S.1 S.2.1 d_Mo_share_33 rfl (lv_at hl 0 rfl) ?_
            refine m_gs (t := 4) S M (j := 6) ok_Mo (by decide) rfl (by decide) rfl kw_401 rfl d_Mo_share_34 ?_
            refine lv_iload_n S.1 S.2.1 d_Mo_share_37 rfl (lv_at hl 1 rfl) ?_
            refine lv_iload_n S.1 S.2.1 d_Mo_share_38 rfl (lv_at hl 2 rfl) ?_
            refine m_ias (t0 := 0) S M (by decide) rfl rfl h d_Mo_share_39 (fun σ2 H locs h M => ?_)
            refine lv_aload_n S.1 S.2.1 d_Mo_share_40 rfl (lv_at hl 0 rfl) ?_
            refine m_gs (t := 5) S M (j := 7) ok_Mo (by decide) rfl (by decide) rfl kw_402 rfl d_Mo_share_41 ?_
            refine lv_iload_n S.1 S.2.1 d_Mo_share_44 rfl (lv_at hl 1 rfl) ?_
            refine lv_iload_n S.1 S.2.1 d_Mo_share_45 rfl (lv_at hl 3 rfl) ?_
            refine m_ias (t0 := 0) S M (by decide) rfl rfl h d_Mo_share_46 (fun σ3 H locs h M => ?_)
            refine lv_iconst (v := 1) S.1 S.2.1 d_Mo_share_47 (by decide) ?_
            subst hQ; exact m_iret S hr hlk M (Option.some.inj h) d_Mo_share_48
          · refine lv_bipush (v := (-2)) S.1 S.2.1 d_Mo_share_30 (by decide) ?_
            subst hQ; exact m_iret S hr hlk M (Option.some.inj h) d_Mo_share_32
  · refine lv_iconst (v := (-1)) S.1 S.2.1 d_Mo_share_8 (by decide) ?_
    subst hQ; exact m_iret S hr hlk M (Option.some.inj h) d_Mo_share_9
theorem d_Mo_drop_0 : decode prog_12_method_9_code 0 = .ok (.aload_n 0, 1) := by decide +kernel
theorem d_Mo_drop_1 : decode prog_12_method_9_code 1 = .ok (.iload_n 1, 1) := by decide +kernel
theorem d_Mo_drop_2 : decode prog_12_method_9_code 2 = .ok (.invokevirtual 99, 3) := by decide +kernel
theorem d_Mo_drop_5 : decode prog_12_method_9_code 5 = .ok (.ifCond .ne 5, 3) := by decide +kernel
theorem d_Mo_drop_8 : decode prog_12_method_9_code 8 = .ok (.iconst (-1), 1) := by decide +kernel
theorem d_Mo_drop_9 : decode prog_12_method_9_code 9 = .ok (.ireturn, 1) := by decide +kernel
theorem d_Mo_drop_10 : decode prog_12_method_9_code 10 = .ok (.aload_n 0, 1) := by decide +kernel
theorem d_Mo_drop_11 : decode prog_12_method_9_code 11 = .ok (.getfield 25, 3) := by decide +kernel
theorem d_Mo_drop_14 : decode prog_12_method_9_code 14 = .ok (.iload_n 1, 1) := by decide +kernel
theorem d_Mo_drop_15 : decode prog_12_method_9_code 15 = .ok (.iconst 0, 1) := by decide +kernel
theorem d_Mo_drop_16 : decode prog_12_method_9_code 16 = .ok (.bastore, 1) := by decide +kernel
theorem d_Mo_drop_17 : decode prog_12_method_9_code 17 = .ok (.aload_n 0, 1) := by decide +kernel
theorem d_Mo_drop_18 : decode prog_12_method_9_code 18 = .ok (.invokevirtual 91, 3) := by decide +kernel
theorem d_Mo_drop_21 : decode prog_12_method_9_code 21 = .ok (.iconst 0, 1) := by decide +kernel
theorem d_Mo_drop_22 : decode prog_12_method_9_code 22 = .ok (.istore_n 2, 1) := by decide +kernel
theorem d_Mo_drop_23 : decode prog_12_method_9_code 23 = .ok (.iconst 0, 1) := by decide +kernel
theorem d_Mo_drop_24 : decode prog_12_method_9_code 24 = .ok (.istore_n 3, 1) := by decide +kernel
theorem d_Mo_drop_25 : decode prog_12_method_9_code 25 = .ok (.iload_n 3, 1) := by decide +kernel
theorem d_Mo_drop_26 : decode prog_12_method_9_code 26 = .ok (.aload_n 0, 1) := by decide +kernel
theorem d_Mo_drop_27 : decode prog_12_method_9_code 27 = .ok (.getfield 88, 3) := by decide +kernel
theorem d_Mo_drop_30 : decode prog_12_method_9_code 30 = .ok (.if_icmp .ge 26, 3) := by decide +kernel
theorem d_Mo_drop_33 : decode prog_12_method_9_code 33 = .ok (.iload_n 2, 1) := by decide +kernel
theorem d_Mo_drop_34 : decode prog_12_method_9_code 34 = .ok (.aload_n 0, 1) := by decide +kernel
theorem d_Mo_drop_35 : decode prog_12_method_9_code 35 = .ok (.getfield 25, 3) := by decide +kernel
theorem d_Mo_drop_38 : decode prog_12_method_9_code 38 = .ok (.iload_n 3, 1) := by decide +kernel
theorem d_Mo_drop_39 : decode prog_12_method_9_code 39 = .ok (.baload, 1) := by decide +kernel
theorem d_Mo_drop_40 : decode prog_12_method_9_code 40 = .ok (.ifCond .eq 7, 3) := by decide +kernel
theorem d_Mo_drop_43 : decode prog_12_method_9_code 43 = .ok (.iconst 1, 1) := by decide +kernel
theorem d_Mo_drop_44 : decode prog_12_method_9_code 44 = .ok (.goto 4, 3) := by decide +kernel
theorem d_Mo_drop_47 : decode prog_12_method_9_code 47 = .ok (.iconst 0, 1) := by decide +kernel
theorem d_Mo_drop_48 : decode prog_12_method_9_code 48 = .ok (.iadd, 1) := by decide +kernel
theorem d_Mo_drop_49 : decode prog_12_method_9_code 49 = .ok (.istore_n 2, 1) := by decide +kernel
theorem d_Mo_drop_50 : decode prog_12_method_9_code 50 = .ok (.iinc 3 1, 3) := by decide +kernel
theorem d_Mo_drop_53 : decode prog_12_method_9_code 53 = .ok (.goto (-28), 3) := by decide +kernel
theorem d_Mo_drop_56 : decode prog_12_method_9_code 56 = .ok (.iload_n 2, 1) := by decide +kernel
theorem d_Mo_drop_57 : decode prog_12_method_9_code 57 = .ok (.ireturn, 1) := by decide +kernel
def rm_Mo_drop : Room := { frames := 1, cells := 0, slots := 0, locals := 21 }
def f_Mo_drop_L25 (σ3 : mS) : (Int32 × Int32) → Option ((Int32 × Int32) ⊕ (Int32 × Int32)) := fun t25 =>
  if (σ3.1 0 2) ≤ t25.2 then (
  some (.inr (t25.1, t25.2))) else (
  gd (inb t25.2 40) (
  if (σ3.1 6 t25.2.toNatClampNeg) = 0 then (
  nm (t25.1 + 0) fun v4 =>
  some (.inl (v4, t25.2 + 1))) else (
  nm (t25.1 + 1) fun v5 =>
  some (.inl (v5, t25.2 + 1)))))
def f_Mo_drop (σ : mS) (x1 : Int32) : Option (Int32 × mS) :=
  (f_Mo_isArc σ x1).bind fun v1 =>
  if v1 = 0 then (
  some ((-1), σ)) else (
  gd (inb x1 40) (gd (isB 0) (nm (sI σ 6 x1.toNatClampNeg 0) fun σ2 =>
  (f_Mo_change σ2).bind fun σ3 =>
  (lpN (f_Mo_drop_L25 σ3) fuB (0, 0)).bind fun u25 =>
  some (u25.1, σ3))))
set_option maxHeartbeats 4000000 in
set_option maxRecDepth 100000 in
theorem c_Mo_drop (l : Launch) (D : va_G) (cA ad : Nat → Nat) (σ : mS) (x1 : Int32) (o : Int32 × mS) (h : f_Mo_drop σ x1 = some o) : mCi l ⟨"LeastPathsModel", "drop", "(I)I"⟩ (Cond.code ⟨"LeastPathsModel", "drop", "(I)I"⟩ prog_12_method_9_code 4 (Option.some Jvm.ClassFile.FieldType.int) :: tlG) rm_Mo_drop D clX (tyK cA) 23 (tbY cA) ad σ [.ref (ad 0), .int x1] o := by
  intro sz
  refine m_of (cc := prog_12_method_9_code) (maxL := 4) (Qc := mQi D clX (tyK cA) 23 (tbY cA) ad o) (by decide) (Nat.le_of_ble_eq_true rfl) (fun p e s m args below meth c ls S hr hlk hnm hl M => ?_) sz
  have hl : lv_has ls 4 [(0, .ref (ad 0)), (1, .int x1)] := hl
  generalize hQ : MQ _ _ _ _ _ _ _ = Q
  skip
  unfold f_Mo_drop at h
  refine lv_aload_n S.1 S.2.1 d_Mo_drop_0 rfl (lv_at hl 0 rfl) ?_
  refine lv_iload_n S.1 S.2.1 d_Mo_drop_1 rfl (lv_at hl 1 rfl) ?_
  refine m_xip h (fun o ho => m_rV (As := [.int x1]) (rest := []) S M hl.1 (cwG (n := 1) S.2.2.2.2 kw_403 kw_404 kw_405 kw_391 kw_406 (by decide) ⟨Nat.le_of_ble_eq_true rfl, Nat.le_of_ble_eq_true rfl⟩) ok_Mo (by decide) rfl (c_Mo_isArc l D cA ad σ x1 o ho _) rfl rfl (Nat.le_of_ble_eq_true rfl) d_Mo_drop_2 ⟨Nat.zero_le _, Nat.zero_le _⟩) M (fun v1 H locs h M => ?_)
  refine m_ifne (tgt := 10) S d_Mo_drop_5 (by decide) h (fun h => ?_) (fun h => ?_)
  · refine lv_aload_n S.1 S.2.1 d_Mo_drop_10 rfl (lv_at hl 0 rfl) ?_
    refine m_gs (t := 6) S M (j := 8) ok_Mo (by decide) rfl (by decide) rfl kw_384 rfl d_Mo_drop_11 ?_
    refine lv_iload_n S.1 S.2.1 d_Mo_drop_14 rfl (lv_at hl 1 rfl) ?_
    refine lv_iconst (v := 0) S.1 S.2.1 d_Mo_drop_15 (by decide) ?_
    refine m_zas (t0 := 2) S M (by decide) rfl rfl h d_Mo_drop_16 (fun σ2 H locs h M => ?_)
    refine lv_aload_n S.1 S.2.1 d_Mo_drop_17 rfl (lv_at hl 0 rfl) ?_
    refine m_xv h (fun o ho => m_rV (As := []) (rest := []) S M hl.1 (cwG (n := 0) S.2.2.2.2 kw_388 kw_389 kw_390 kw_391 kw_392 (by decide) ⟨Nat.le_of_ble_eq_true rfl, Nat.le_of_ble_eq_true rfl⟩) ok_Mo (by decide) rfl (c_Mo_change l D cA ad σ2 o ho _) rfl rfl (Nat.le_of_ble_eq_true rfl) d_Mo_drop_18 ⟨Nat.zero_le _, Nat.zero_le _⟩) M (fun σ3 H locs h M => ?_)
    refine lv_iconst (v := 0) S.1 S.2.1 d_Mo_drop_21 (by decide) ?_
    refine lv_istore_n (lv' := [(2, .int 0), (0, .ref (ad 0)), (1, .int x1)]) S.1 S.2.1 d_Mo_drop_22 rfl hl (by decide) rfl (fun ls hl => ?_)
    refine lv_iconst (v := 0) S.1 S.2.1 d_Mo_drop_23 (by decide) ?_
    refine lv_istore_n (lv' := [(3, .int 0), (2, .int 0), (0, .ref (ad 0)), (1, .int x1)]) S.1 S.2.1 d_Mo_drop_24 rfl hl (by decide) rfl (fun ls hl => ?_)
    obtain ⟨u25, q25, h⟩ := Option.bind_eq_some_iff.mp h
    refine lpN_W1 (st := f_Mo_drop_L25 σ3) (fun (t25 : Int32 × Int32) => ∀ (ls : Array Slot) (H : Heap) (locs : List Loc), lv_has ls 4 [(3, .int t25.2), (2, .int t25.1), (0, .ref (ad 0)), (1, .int x1)] → mM D clX (tyK cA) (mA 23 ad s.heap.size) s 23 (tbY cA) ad σ3 H locs → W p l e rm_Mo_drop s m args below meth c H locs 0 0 Q (F0 m 25 ls [])) (fun (u25 : Int32 × Int32) => ∀ (ls : Array Slot) (H : Heap) (locs : List Loc), lv_has ls 4 [(3, .int u25.2), (2, .int u25.1), (0, .ref (ad 0)), (1, .int x1)] → mM D clX (tyK cA) (mA 23 ad s.heap.size) s 23 (tbY cA) ad σ3 H locs → W p l e rm_Mo_drop s m args below meth c H locs 0 0 Q (F0 m 56 ls [])) ?_ fuB ((0, 0) : Int32 × Int32) u25 q25 ?_ ls _ _ (lv_sub hl [0, 1, 2, 3] rfl) M
    · intro t25 oo25 h K1 K2 ls H locs hl M
      unfold f_Mo_drop_L25 at h
      refine lv_iload_n S.1 S.2.1 d_Mo_drop_25 rfl (lv_at hl 0 rfl) ?_
      refine lv_aload_n S.1 S.2.1 d_Mo_drop_26 rfl (lv_at hl 2 rfl) ?_
      refine m_gi S M (j := 2) ok_Mo (by decide) rfl (by decide) rfl kw_383 rfl d_Mo_drop_27 ?_
      refine m_ige (tgt := 56) S d_Mo_drop_30 (by decide) h (fun h => ?_) (fun h => ?_)
      · exact K2 _ (Option.some.inj h).symm ls _ _ (lv_sub hl [0, 1, 2, 3] rfl) M
      · refine lv_iload_n S.1 S.2.1 d_Mo_drop_33 rfl (lv_at hl 1 rfl) ?_
        refine lv_aload_n S.1 S.2.1 d_Mo_drop_34 rfl (lv_at hl 2 rfl) ?_
        refine m_gs (t := 6) S M (j := 8) ok_Mo (by decide) rfl (by decide) rfl kw_384 rfl d_Mo_drop_35 ?_
        refine lv_iload_n S.1 S.2.1 d_Mo_drop_38 rfl (lv_at hl 0 rfl) ?_
        refine m_zal (t0 := 2) S M (by decide) rfl rfl h d_Mo_drop_39 (fun h => ?_)
        refine m_ifeq (tgt := 47) S d_Mo_drop_40 (by decide) h (fun h => ?_) (fun h => ?_)
        · refine lv_iconst (v := 0) S.1 S.2.1 d_Mo_drop_47 (by decide) ?_
          refine lv_iadd S.1 S.2.1 d_Mo_drop_48 ?_
          refine m_ni h (fun v4 h => ?_)
          refine lv_istore_n (lv' := [(2, .int v4), (3, .int t25.2), (0, .ref (ad 0)), (1, .int x1)]) S.1 S.2.1 d_Mo_drop_49 rfl hl (by decide) rfl (fun ls hl => ?_)
          refine lv_iinc (v := t25.2 + 1) (lv' := [(3, .int (t25.2 + 1)), (2, .int v4), (0, .ref (ad 0)), (1, .int x1)]) S.1 S.2.1 d_Mo_drop_50 hl (k := 1) rfl rfl (by decide) rfl (fun ls hl => ?_)
          refine lv_goto (tgt := 25) S.1 S.2.1 d_Mo_drop_53 (by decide) ?_
          exact K1 _ (Option.some.inj h).symm ls _ _ (lv_sub hl [0, 1, 2, 3] rfl) M
        · refine lv_iconst (v := 1) S.1 S.2.1 d_Mo_drop_43 (by decide) ?_
          refine lv_goto (tgt := 48) S.1 S.2.1 d_Mo_drop_44 (by decide) ?_
          refine lv_iadd S.1 S.2.1 d_Mo_drop_48 ?_
          refine m_ni h (fun v5 h => ?_)
          refine lv_istore_n (lv' := [(2, .int v5), (3, .int t25.2), (0, .ref (ad 0)), (1, .int x1)]) S.1 S.2.1 d_Mo_drop_49 rfl hl (by decide) rfl (fun ls hl => ?_)
          refine lv_iinc (v := t25.2 + 1) (lv' := [(3, .int (t25.2 + 1)), (2, .int v5), (0, .ref (ad 0)), (1, .int x1)]) S.1 S.2.1 d_Mo_drop_50 hl (k := 1) rfl rfl (by decide) rfl (fun ls hl => ?_)
          refine lv_goto (tgt := 25) S.1 S.2.1 d_Mo_drop_53 (by decide) ?_
          exact K1 _ (Option.some.inj h).symm ls _ _ (lv_sub hl [0, 1, 2, 3] rfl) M
    · intro ls H locs hl M
      refine lv_iload_n S.1 S.2.1 d_Mo_drop_56 rfl (lv_at hl 1 rfl) ?_
      subst hQ; exact m_iret S hr hlk M (Option.some.inj h) d_Mo_drop_57
  · refine lv_iconst (v := (-1)) S.1 S.2.1 d_Mo_drop_8 (by decide) ?_
    subst hQ; exact m_iret S hr hlk M (Option.some.inj h) d_Mo_drop_9
theorem d_Mo_source_0 : decode prog_12_method_10_code 0 = .ok (.aload_n 0, 1) := by decide +kernel
theorem d_Mo_source_1 : decode prog_12_method_10_code 1 = .ok (.iload_n 1, 1) := by decide +kernel
theorem d_Mo_source_2 : decode prog_12_method_10_code 2 = .ok (.invokevirtual 94, 3) := by decide +kernel
theorem d_Mo_source_5 : decode prog_12_method_10_code 5 = .ok (.ifCond .ne 5, 3) := by decide +kernel
theorem d_Mo_source_8 : decode prog_12_method_10_code 8 = .ok (.iconst (-1), 1) := by decide +kernel
theorem d_Mo_source_9 : decode prog_12_method_10_code 9 = .ok (.ireturn, 1) := by decide +kernel
theorem d_Mo_source_10 : decode prog_12_method_10_code 10 = .ok (.aload_n 0, 1) := by decide +kernel
theorem d_Mo_source_11 : decode prog_12_method_10_code 11 = .ok (.getfield 29, 3) := by decide +kernel
theorem d_Mo_source_14 : decode prog_12_method_10_code 14 = .ok (.iload_n 1, 1) := by decide +kernel
theorem d_Mo_source_15 : decode prog_12_method_10_code 15 = .ok (.baload, 1) := by decide +kernel
theorem d_Mo_source_16 : decode prog_12_method_10_code 16 = .ok (.istore_n 3, 1) := by decide +kernel
theorem d_Mo_source_17 : decode prog_12_method_10_code 17 = .ok (.aload_n 0, 1) := by decide +kernel
theorem d_Mo_source_18 : decode prog_12_method_10_code 18 = .ok (.getfield 29, 3) := by decide +kernel
theorem d_Mo_source_21 : decode prog_12_method_10_code 21 = .ok (.iload_n 1, 1) := by decide +kernel
theorem d_Mo_source_22 : decode prog_12_method_10_code 22 = .ok (.iload_n 2, 1) := by decide +kernel
theorem d_Mo_source_23 : decode prog_12_method_10_code 23 = .ok (.bastore, 1) := by decide +kernel
theorem d_Mo_source_24 : decode prog_12_method_10_code 24 = .ok (.iload_n 3, 1) := by decide +kernel
theorem d_Mo_source_25 : decode prog_12_method_10_code 25 = .ok (.ifCond .eq 7, 3) := by decide +kernel
theorem d_Mo_source_28 : decode prog_12_method_10_code 28 = .ok (.iconst 1, 1) := by decide +kernel
theorem d_Mo_source_29 : decode prog_12_method_10_code 29 = .ok (.goto 4, 3) := by decide +kernel
theorem d_Mo_source_32 : decode prog_12_method_10_code 32 = .ok (.iconst 0, 1) := by decide +kernel
theorem d_Mo_source_33 : decode prog_12_method_10_code 33 = .ok (.ireturn, 1) := by decide +kernel
def rm_Mo_source : Room := { frames := 1, cells := 0, slots := 0, locals := 21 }
def f_Mo_source (σ : mS) (x1 : Int32) (x2 : Int32) : Option (Int32 × mS) :=
  (f_Mo_isNode σ x1).bind fun v1 =>
  if v1 = 0 then (
  some ((-1), σ)) else (
  gd (inb x1 10) (
  nm (σ.1 7 x1.toNatClampNeg) fun v2 =>
  gd (inb x1 10) (gd (isB x2) (nm (sI σ 7 x1.toNatClampNeg x2) fun σ3 =>
  if v2 = 0 then (
  some (0, σ3)) else (
  some (1, σ3))))))
set_option maxHeartbeats 4000000 in
set_option maxRecDepth 100000 in
theorem c_Mo_source (l : Launch) (D : va_G) (cA ad : Nat → Nat) (σ : mS) (x1 : Int32) (x2 : Int32) (o : Int32 × mS) (h : f_Mo_source σ x1 x2 = some o) : mCi l ⟨"LeastPathsModel", "source", "(IZ)I"⟩ (Cond.code ⟨"LeastPathsModel", "source", "(IZ)I"⟩ prog_12_method_10_code 4 (Option.some Jvm.ClassFile.FieldType.int) :: tlG) rm_Mo_source D clX (tyK cA) 23 (tbY cA) ad σ [.ref (ad 0), .int x1, .int x2] o := by
  intro sz
  refine m_of (cc := prog_12_method_10_code) (maxL := 4) (Qc := mQi D clX (tyK cA) 23 (tbY cA) ad o) (by decide) (Nat.le_of_ble_eq_true rfl) (fun p e s m args below meth c ls S hr hlk hnm hl M => ?_) sz
  have hl : lv_has ls 4 [(0, .ref (ad 0)), (1, .int x1), (2, .int x2)] := hl
  generalize hQ : MQ _ _ _ _ _ _ _ = Q
  skip
  unfold f_Mo_source at h
  refine lv_aload_n S.1 S.2.1 d_Mo_source_0 rfl (lv_at hl 0 rfl) ?_
  refine lv_iload_n S.1 S.2.1 d_Mo_source_1 rfl (lv_at hl 1 rfl) ?_
  refine m_xip h (fun o ho => m_rV (As := [.int x1]) (rest := []) S M hl.1 (cwG (n := 1) S.2.2.2.2 kw_393 kw_394 kw_395 kw_391 kw_396 (by decide) ⟨Nat.le_of_ble_eq_true rfl, Nat.le_of_ble_eq_true rfl⟩) ok_Mo (by decide) rfl (c_Mo_isNode l D cA ad σ x1 o ho _) rfl rfl (Nat.le_of_ble_eq_true rfl) d_Mo_source_2 ⟨Nat.zero_le _, Nat.zero_le _⟩) M (fun v1 H locs h M => ?_)
  refine m_ifne (tgt := 10) S d_Mo_source_5 (by decide) h (fun h => ?_) (fun h => ?_)
  · refine lv_aload_n S.1 S.2.1 d_Mo_source_10 rfl (lv_at hl 0 rfl) ?_
    refine m_gs (t := 7) S M (j := 9) ok_Mo (by decide) rfl (by decide) rfl kw_386 rfl d_Mo_source_11 ?_
    refine lv_iload_n S.1 S.2.1 d_Mo_source_14 rfl (lv_at hl 1 rfl) ?_
    refine m_zal (t0 := 2) S M (by decide) rfl rfl h d_Mo_source_15 (fun h => ?_)
    refine m_ni h (fun v2 h => ?_)
    refine lv_istore_n (lv' := [(3, .int v2), (0, .ref (ad 0)), (1, .int x1), (2, .int x2)]) S.1 S.2.1 d_Mo_source_16 rfl hl (by decide) rfl (fun ls hl => ?_)
    refine lv_aload_n S.1 S.2.1 d_Mo_source_17 rfl (lv_at hl 1 rfl) ?_
    refine m_gs (t := 7) S M (j := 9) ok_Mo (by decide) rfl (by decide) rfl kw_386 rfl d_Mo_source_18 ?_
    refine lv_iload_n S.1 S.2.1 d_Mo_source_21 rfl (lv_at hl 2 rfl) ?_
    refine lv_iload_n S.1 S.2.1 d_Mo_source_22 rfl (lv_at hl 3 rfl) ?_
    refine m_zas (t0 := 2) S M (by decide) rfl rfl h d_Mo_source_23 (fun σ3 H locs h M => ?_)
    refine lv_iload_n S.1 S.2.1 d_Mo_source_24 rfl (lv_at hl 0 rfl) ?_
    refine m_ifeq (tgt := 32) S d_Mo_source_25 (by decide) h (fun h => ?_) (fun h => ?_)
    · refine lv_iconst (v := 0) S.1 S.2.1 d_Mo_source_32 (by decide) ?_
      subst hQ; exact m_iret S hr hlk M (Option.some.inj h) d_Mo_source_33
    · refine lv_iconst (v := 1) S.1 S.2.1 d_Mo_source_28 (by decide) ?_
      refine lv_goto (tgt := 33) S.1 S.2.1 d_Mo_source_29 (by decide) ?_
      subst hQ; exact m_iret S hr hlk M (Option.some.inj h) d_Mo_source_33
  · refine lv_iconst (v := (-1)) S.1 S.2.1 d_Mo_source_8 (by decide) ?_
    subst hQ; exact m_iret S hr hlk M (Option.some.inj h) d_Mo_source_9
theorem d_Mo_rest_0 : decode prog_12_method_11_code 0 = .ok (.aload_n 0, 1) := by decide +kernel
theorem d_Mo_rest_1 : decode prog_12_method_11_code 1 = .ok (.iload_n 1, 1) := by decide +kernel
theorem d_Mo_rest_2 : decode prog_12_method_11_code 2 = .ok (.invokevirtual 94, 3) := by decide +kernel
theorem d_Mo_rest_5 : decode prog_12_method_11_code 5 = .ok (.ifCond .ne 5, 3) := by decide +kernel
theorem d_Mo_rest_8 : decode prog_12_method_11_code 8 = .ok (.iconst (-1), 1) := by decide +kernel
theorem d_Mo_rest_9 : decode prog_12_method_11_code 9 = .ok (.ireturn, 1) := by decide +kernel
theorem d_Mo_rest_10 : decode prog_12_method_11_code 10 = .ok (.iload_n 2, 1) := by decide +kernel
theorem d_Mo_rest_11 : decode prog_12_method_11_code 11 = .ok (.ifCond .lt 9, 3) := by decide +kernel
theorem d_Mo_rest_14 : decode prog_12_method_11_code 14 = .ok (.iload_n 2, 1) := by decide +kernel
theorem d_Mo_rest_15 : decode prog_12_method_11_code 15 = .ok (.ldc 98, 2) := by decide +kernel
theorem d_Mo_rest_17 : decode prog_12_method_11_code 17 = .ok (.if_icmp .le 6, 3) := by decide +kernel
theorem d_Mo_rest_20 : decode prog_12_method_11_code 20 = .ok (.bipush (-2), 2) := by decide +kernel
theorem d_Mo_rest_22 : decode prog_12_method_11_code 22 = .ok (.ireturn, 1) := by decide +kernel
theorem d_Mo_rest_23 : decode prog_12_method_11_code 23 = .ok (.aload_n 0, 1) := by decide +kernel
theorem d_Mo_rest_24 : decode prog_12_method_11_code 24 = .ok (.getfield 32, 3) := by decide +kernel
theorem d_Mo_rest_27 : decode prog_12_method_11_code 27 = .ok (.iload_n 1, 1) := by decide +kernel
theorem d_Mo_rest_28 : decode prog_12_method_11_code 28 = .ok (.iaload, 1) := by decide +kernel
theorem d_Mo_rest_29 : decode prog_12_method_11_code 29 = .ok (.istore_n 3, 1) := by decide +kernel
theorem d_Mo_rest_30 : decode prog_12_method_11_code 30 = .ok (.aload_n 0, 1) := by decide +kernel
theorem d_Mo_rest_31 : decode prog_12_method_11_code 31 = .ok (.getfield 32, 3) := by decide +kernel
theorem d_Mo_rest_34 : decode prog_12_method_11_code 34 = .ok (.iload_n 1, 1) := by decide +kernel
theorem d_Mo_rest_35 : decode prog_12_method_11_code 35 = .ok (.iload_n 2, 1) := by decide +kernel
theorem d_Mo_rest_36 : decode prog_12_method_11_code 36 = .ok (.iastore, 1) := by decide +kernel
theorem d_Mo_rest_37 : decode prog_12_method_11_code 37 = .ok (.iload_n 3, 1) := by decide +kernel
theorem d_Mo_rest_38 : decode prog_12_method_11_code 38 = .ok (.ireturn, 1) := by decide +kernel
def rm_Mo_rest : Room := { frames := 1, cells := 0, slots := 0, locals := 21 }
def f_Mo_rest (σ : mS) (x1 : Int32) (x2 : Int32) : Option (Int32 × mS) :=
  (f_Mo_isNode σ x1).bind fun v1 =>
  if v1 = 0 then (
  some ((-1), σ)) else (
  if x2 < 0 then (
  some ((-2), σ)) else (
  if x2 ≤ 1000000 then (
  gd (inb x1 10) (
  nm (σ.1 8 x1.toNatClampNeg) fun v2 =>
  gd (inb x1 10) ((nm (sI σ 8 x1.toNatClampNeg x2) fun σ3 =>
  some (v2, σ3))))) else (
  some ((-2), σ))))
set_option maxHeartbeats 4000000 in
set_option maxRecDepth 100000 in
theorem c_Mo_rest (l : Launch) (D : va_G) (cA ad : Nat → Nat) (σ : mS) (x1 : Int32) (x2 : Int32) (o : Int32 × mS) (h : f_Mo_rest σ x1 x2 = some o) : mCi l ⟨"LeastPathsModel", "rest", "(II)I"⟩ (Cond.code ⟨"LeastPathsModel", "rest", "(II)I"⟩ prog_12_method_11_code 4 (Option.some Jvm.ClassFile.FieldType.int) :: tlG) rm_Mo_rest D clX (tyK cA) 23 (tbY cA) ad σ [.ref (ad 0), .int x1, .int x2] o := by
  intro sz
  refine m_of (cc := prog_12_method_11_code) (maxL := 4) (Qc := mQi D clX (tyK cA) 23 (tbY cA) ad o) (by decide) (Nat.le_of_ble_eq_true rfl) (fun p e s m args below meth c ls S hr hlk hnm hl M => ?_) sz
  have hl : lv_has ls 4 [(0, .ref (ad 0)), (1, .int x1), (2, .int x2)] := hl
  generalize hQ : MQ _ _ _ _ _ _ _ = Q
  skip
  unfold f_Mo_rest at h
  refine lv_aload_n S.1 S.2.1 d_Mo_rest_0 rfl (lv_at hl 0 rfl) ?_
  refine lv_iload_n S.1 S.2.1 d_Mo_rest_1 rfl (lv_at hl 1 rfl) ?_
  refine m_xip h (fun o ho => m_rV (As := [.int x1]) (rest := []) S M hl.1 (cwG (n := 1) S.2.2.2.2 kw_393 kw_394 kw_395 kw_391 kw_396 (by decide) ⟨Nat.le_of_ble_eq_true rfl, Nat.le_of_ble_eq_true rfl⟩) ok_Mo (by decide) rfl (c_Mo_isNode l D cA ad σ x1 o ho _) rfl rfl (Nat.le_of_ble_eq_true rfl) d_Mo_rest_2 ⟨Nat.zero_le _, Nat.zero_le _⟩) M (fun v1 H locs h M => ?_)
  refine m_ifne (tgt := 10) S d_Mo_rest_5 (by decide) h (fun h => ?_) (fun h => ?_)
  · refine lv_iload_n S.1 S.2.1 d_Mo_rest_10 rfl (lv_at hl 2 rfl) ?_
    refine m_iflt (tgt := 20) S d_Mo_rest_11 (by decide) h (fun h => ?_) (fun h => ?_)
    · refine lv_bipush (v := (-2)) S.1 S.2.1 d_Mo_rest_20 (by decide) ?_
      subst hQ; exact m_iret S hr hlk M (Option.some.inj h) d_Mo_rest_22
    · refine lv_iload_n S.1 S.2.1 d_Mo_rest_14 rfl (lv_at hl 2 rfl) ?_
      refine lv_ldc (v := 1000000) S.1 S.2.1 S.2.2.2.1 (S.2.2.2.2 _ kw_397) d_Mo_rest_15 ?_
      refine m_ile (tgt := 23) S d_Mo_rest_17 (by decide) h (fun h => ?_) (fun h => ?_)
      · refine lv_aload_n S.1 S.2.1 d_Mo_rest_23 rfl (lv_at hl 0 rfl) ?_
        refine m_gs (t := 8) S M (j := 10) ok_Mo (by decide) rfl (by decide) rfl kw_387 rfl d_Mo_rest_24 ?_
        refine lv_iload_n S.1 S.2.1 d_Mo_rest_27 rfl (lv_at hl 1 rfl) ?_
        refine m_ial (t0 := 0) S M (by decide) rfl rfl h d_Mo_rest_28 (fun h => ?_)
        refine m_ni h (fun v2 h => ?_)
        refine lv_istore_n (lv' := [(3, .int v2), (0, .ref (ad 0)), (1, .int x1), (2, .int x2)]) S.1 S.2.1 d_Mo_rest_29 rfl hl (by decide) rfl (fun ls hl => ?_)
        refine lv_aload_n S.1 S.2.1 d_Mo_rest_30 rfl (lv_at hl 1 rfl) ?_
        refine m_gs (t := 8) S M (j := 10) ok_Mo (by decide) rfl (by decide) rfl kw_387 rfl d_Mo_rest_31 ?_
        refine lv_iload_n S.1 S.2.1 d_Mo_rest_34 rfl (lv_at hl 2 rfl) ?_
        refine lv_iload_n S.1 S.2.1 d_Mo_rest_35 rfl (lv_at hl 3 rfl) ?_
        refine m_ias (t0 := 0) S M (by decide) rfl rfl h d_Mo_rest_36 (fun σ3 H locs h M => ?_)
        refine lv_iload_n S.1 S.2.1 d_Mo_rest_37 rfl (lv_at hl 0 rfl) ?_
        subst hQ; exact m_iret S hr hlk M (Option.some.inj h) d_Mo_rest_38
      · refine lv_bipush (v := (-2)) S.1 S.2.1 d_Mo_rest_20 (by decide) ?_
        subst hQ; exact m_iret S hr hlk M (Option.some.inj h) d_Mo_rest_22
  · refine lv_iconst (v := (-1)) S.1 S.2.1 d_Mo_rest_8 (by decide) ?_
    subst hQ; exact m_iret S hr hlk M (Option.some.inj h) d_Mo_rest_9
