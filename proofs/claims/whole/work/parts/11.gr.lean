theorem d_Gr_hasNode_0 : decode prog_3_method_2_code 0 = .ok (.iload_n 1, 1) := by decide +kernel
theorem d_Gr_hasNode_1 : decode prog_3_method_2_code 1 = .ok (.ifCond .lt 15, 3) := by decide +kernel
theorem d_Gr_hasNode_4 : decode prog_3_method_2_code 4 = .ok (.iload_n 1, 1) := by decide +kernel
theorem d_Gr_hasNode_5 : decode prog_3_method_2_code 5 = .ok (.aload_n 0, 1) := by decide +kernel
theorem d_Gr_hasNode_6 : decode prog_3_method_2_code 6 = .ok (.getfield 30, 3) := by decide +kernel
theorem d_Gr_hasNode_9 : decode prog_3_method_2_code 9 = .ok (.if_icmp .ge 7, 3) := by decide +kernel
theorem d_Gr_hasNode_12 : decode prog_3_method_2_code 12 = .ok (.iconst 1, 1) := by decide +kernel
theorem d_Gr_hasNode_13 : decode prog_3_method_2_code 13 = .ok (.goto 4, 3) := by decide +kernel
theorem d_Gr_hasNode_16 : decode prog_3_method_2_code 16 = .ok (.iconst 0, 1) := by decide +kernel
theorem d_Gr_hasNode_17 : decode prog_3_method_2_code 17 = .ok (.ireturn, 1) := by decide +kernel
def rm_Gr_hasNode : Room := { frames := 0, cells := 0, slots := 0, locals := 0 }
def f_Gr_hasNode (σ : mS) (x1 : Int32) : Option (Int32) :=
  if x1 < 0 then (
  some 0) else (
  if (σ.1 1 6) ≤ x1 then (
  some 0) else (
  some 1))
set_option maxHeartbeats 4000000 in
set_option maxRecDepth 100000 in
theorem c_Gr_hasNode (l : Launch) (D : va_G) (cA ad : Nat → Nat) (σ : mS) (x1 : Int32) (o : Int32) (h : f_Gr_hasNode σ x1 = some o) : mCi l ⟨"LeastPaths$Graph", "hasNode", "(I)Z"⟩ (Cond.code ⟨"LeastPaths$Graph", "hasNode", "(I)Z"⟩ prog_3_method_2_code 2 (Option.some Jvm.ClassFile.FieldType.boolean) :: tlG) rm_Gr_hasNode D clX (tyK cA) 99 (tbX cA) ad σ [.ref (ad 1), .int x1] (o, σ) := by
  intro sz
  refine m_of (cc := prog_3_method_2_code) (maxL := 2) (Qc := mQi D clX (tyK cA) 99 (tbX cA) ad (o, σ)) (by decide) (Nat.le_of_ble_eq_true rfl) (fun p e s m args below meth c ls S hr hlk hnm hl M => ?_) sz
  have hl : lv_has ls 2 [(0, .ref (ad 1)), (1, .int x1)] := hl
  generalize hQ : MQ _ _ _ _ _ _ _ = Q
  skip
  unfold f_Gr_hasNode at h
  refine lv_iload_n S.1 S.2.1 d_Gr_hasNode_0 rfl (lv_at hl 1 rfl) ?_
  refine m_iflt (tgt := 16) S d_Gr_hasNode_1 (by decide) h (fun h => ?_) (fun h => ?_)
  · refine lv_iconst (v := 0) S.1 S.2.1 d_Gr_hasNode_16 (by decide) ?_
    subst hQ; exact m_zret S hr hlk M (by rw [Option.some.inj h]) rfl d_Gr_hasNode_17
  · refine lv_iload_n S.1 S.2.1 d_Gr_hasNode_4 rfl (lv_at hl 1 rfl) ?_
    refine lv_aload_n S.1 S.2.1 d_Gr_hasNode_5 rfl (lv_at hl 0 rfl) ?_
    refine m_gi S M (j := 6) ok_Gr (by decide) rfl (by decide) rfl kw_3 rfl d_Gr_hasNode_6 ?_
    refine m_ige (tgt := 16) S d_Gr_hasNode_9 (by decide) h (fun h => ?_) (fun h => ?_)
    · refine lv_iconst (v := 0) S.1 S.2.1 d_Gr_hasNode_16 (by decide) ?_
      subst hQ; exact m_zret S hr hlk M (by rw [Option.some.inj h]) rfl d_Gr_hasNode_17
    · refine lv_iconst (v := 1) S.1 S.2.1 d_Gr_hasNode_12 (by decide) ?_
      refine lv_goto (tgt := 17) S.1 S.2.1 d_Gr_hasNode_13 (by decide) ?_
      subst hQ; exact m_zret S hr hlk M (by rw [Option.some.inj h]) rfl d_Gr_hasNode_17
theorem d_Gr_hasArc_0 : decode prog_3_method_3_code 0 = .ok (.iload_n 1, 1) := by decide +kernel
theorem d_Gr_hasArc_1 : decode prog_3_method_3_code 1 = .ok (.ifCond .lt 28, 3) := by decide +kernel
theorem d_Gr_hasArc_4 : decode prog_3_method_3_code 4 = .ok (.iload_n 1, 1) := by decide +kernel
theorem d_Gr_hasArc_5 : decode prog_3_method_3_code 5 = .ok (.aload_n 0, 1) := by decide +kernel
theorem d_Gr_hasArc_6 : decode prog_3_method_3_code 6 = .ok (.getfield 34, 3) := by decide +kernel
theorem d_Gr_hasArc_9 : decode prog_3_method_3_code 9 = .ok (.if_icmp .ge 20, 3) := by decide +kernel
theorem d_Gr_hasArc_12 : decode prog_3_method_3_code 12 = .ok (.aload_n 0, 1) := by decide +kernel
theorem d_Gr_hasArc_13 : decode prog_3_method_3_code 13 = .ok (.getfield 37, 3) := by decide +kernel
theorem d_Gr_hasArc_16 : decode prog_3_method_3_code 16 = .ok (.iload_n 1, 1) := by decide +kernel
theorem d_Gr_hasArc_17 : decode prog_3_method_3_code 17 = .ok (.lshr, 1) := by decide +kernel
theorem d_Gr_hasArc_18 : decode prog_3_method_3_code 18 = .ok (.lconst 1, 1) := by decide +kernel
theorem d_Gr_hasArc_19 : decode prog_3_method_3_code 19 = .ok (.land, 1) := by decide +kernel
theorem d_Gr_hasArc_20 : decode prog_3_method_3_code 20 = .ok (.lconst 0, 1) := by decide +kernel
theorem d_Gr_hasArc_21 : decode prog_3_method_3_code 21 = .ok (.lcmp, 1) := by decide +kernel
theorem d_Gr_hasArc_22 : decode prog_3_method_3_code 22 = .ok (.ifCond .eq 7, 3) := by decide +kernel
theorem d_Gr_hasArc_25 : decode prog_3_method_3_code 25 = .ok (.iconst 1, 1) := by decide +kernel
theorem d_Gr_hasArc_26 : decode prog_3_method_3_code 26 = .ok (.goto 4, 3) := by decide +kernel
theorem d_Gr_hasArc_29 : decode prog_3_method_3_code 29 = .ok (.iconst 0, 1) := by decide +kernel
theorem d_Gr_hasArc_30 : decode prog_3_method_3_code 30 = .ok (.ireturn, 1) := by decide +kernel
def rm_Gr_hasArc : Room := { frames := 0, cells := 0, slots := 0, locals := 0 }
def f_Gr_hasArc (σ : mS) (x1 : Int32) : Option (Int32) :=
  if x1 < 0 then (
  some 0) else (
  if (σ.1 1 7) ≤ x1 then (
  some 0) else (
  if (lg_cmp (((σ.2.1 1 8) >>> (x1.toInt64 &&& 63)) &&& 1) 0) = 0 then (
  some 0) else (
  some 1)))
set_option maxHeartbeats 4000000 in
set_option maxRecDepth 100000 in
theorem c_Gr_hasArc (l : Launch) (D : va_G) (cA ad : Nat → Nat) (σ : mS) (x1 : Int32) (o : Int32) (h : f_Gr_hasArc σ x1 = some o) : mCi l ⟨"LeastPaths$Graph", "hasArc", "(I)Z"⟩ (Cond.code ⟨"LeastPaths$Graph", "hasArc", "(I)Z"⟩ prog_3_method_3_code 2 (Option.some Jvm.ClassFile.FieldType.boolean) :: tlG) rm_Gr_hasArc D clX (tyK cA) 99 (tbX cA) ad σ [.ref (ad 1), .int x1] (o, σ) := by
  intro sz
  refine m_of (cc := prog_3_method_3_code) (maxL := 2) (Qc := mQi D clX (tyK cA) 99 (tbX cA) ad (o, σ)) (by decide) (Nat.le_of_ble_eq_true rfl) (fun p e s m args below meth c ls S hr hlk hnm hl M => ?_) sz
  have hl : lv_has ls 2 [(0, .ref (ad 1)), (1, .int x1)] := hl
  generalize hQ : MQ _ _ _ _ _ _ _ = Q
  skip
  unfold f_Gr_hasArc at h
  refine lv_iload_n S.1 S.2.1 d_Gr_hasArc_0 rfl (lv_at hl 1 rfl) ?_
  refine m_iflt (tgt := 29) S d_Gr_hasArc_1 (by decide) h (fun h => ?_) (fun h => ?_)
  · refine lv_iconst (v := 0) S.1 S.2.1 d_Gr_hasArc_29 (by decide) ?_
    subst hQ; exact m_zret S hr hlk M (by rw [Option.some.inj h]) rfl d_Gr_hasArc_30
  · refine lv_iload_n S.1 S.2.1 d_Gr_hasArc_4 rfl (lv_at hl 1 rfl) ?_
    refine lv_aload_n S.1 S.2.1 d_Gr_hasArc_5 rfl (lv_at hl 0 rfl) ?_
    refine m_gi S M (j := 7) ok_Gr (by decide) rfl (by decide) rfl kw_4 rfl d_Gr_hasArc_6 ?_
    refine m_ige (tgt := 29) S d_Gr_hasArc_9 (by decide) h (fun h => ?_) (fun h => ?_)
    · refine lv_iconst (v := 0) S.1 S.2.1 d_Gr_hasArc_29 (by decide) ?_
      subst hQ; exact m_zret S hr hlk M (by rw [Option.some.inj h]) rfl d_Gr_hasArc_30
    · refine lv_aload_n S.1 S.2.1 d_Gr_hasArc_12 rfl (lv_at hl 0 rfl) ?_
      refine m_gl S M (j := 8) ok_Gr (by decide) rfl (by decide) rfl kw_5 rfl d_Gr_hasArc_13 ?_
      refine lv_iload_n S.1 S.2.1 d_Gr_hasArc_16 rfl (lv_at hl 1 rfl) ?_
      refine lv_lshr S.1 S.2.1 d_Gr_hasArc_17 rfl ?_
      refine lv_lconst (v := 1) S.1 S.2.1 d_Gr_hasArc_18 (by decide) ?_
      refine lv_land S.1 S.2.1 d_Gr_hasArc_19 ?_
      refine lv_lconst (v := 0) S.1 S.2.1 d_Gr_hasArc_20 (by decide) ?_
      refine W.lcmp S.1 S.2.1 d_Gr_hasArc_21 ?_
      refine m_ifeq (tgt := 29) S d_Gr_hasArc_22 (by decide) h (fun h => ?_) (fun h => ?_)
      · refine lv_iconst (v := 0) S.1 S.2.1 d_Gr_hasArc_29 (by decide) ?_
        subst hQ; exact m_zret S hr hlk M (by rw [Option.some.inj h]) rfl d_Gr_hasArc_30
      · refine lv_iconst (v := 1) S.1 S.2.1 d_Gr_hasArc_25 (by decide) ?_
        refine lv_goto (tgt := 30) S.1 S.2.1 d_Gr_hasArc_26 (by decide) ?_
        subst hQ; exact m_zret S hr hlk M (by rw [Option.some.inj h]) rfl d_Gr_hasArc_30
theorem d_Gr_addNode_0 : decode prog_3_method_4_code 0 = .ok (.aload_n 0, 1) := by decide +kernel
theorem d_Gr_addNode_1 : decode prog_3_method_4_code 1 = .ok (.getfield 30, 3) := by decide +kernel
theorem d_Gr_addNode_4 : decode prog_3_method_4_code 4 = .ok (.istore_n 1, 1) := by decide +kernel
theorem d_Gr_addNode_5 : decode prog_3_method_4_code 5 = .ok (.aload_n 0, 1) := by decide +kernel
theorem d_Gr_addNode_6 : decode prog_3_method_4_code 6 = .ok (.getfield 27, 3) := by decide +kernel
theorem d_Gr_addNode_9 : decode prog_3_method_4_code 9 = .ok (.iload_n 1, 1) := by decide +kernel
theorem d_Gr_addNode_10 : decode prog_3_method_4_code 10 = .ok (.iconst 0, 1) := by decide +kernel
theorem d_Gr_addNode_11 : decode prog_3_method_4_code 11 = .ok (.iastore, 1) := by decide +kernel
theorem d_Gr_addNode_12 : decode prog_3_method_4_code 12 = .ok (.aload_n 0, 1) := by decide +kernel
theorem d_Gr_addNode_13 : decode prog_3_method_4_code 13 = .ok (.dup, 1) := by decide +kernel
theorem d_Gr_addNode_14 : decode prog_3_method_4_code 14 = .ok (.getfield 30, 3) := by decide +kernel
theorem d_Gr_addNode_17 : decode prog_3_method_4_code 17 = .ok (.iconst 1, 1) := by decide +kernel
theorem d_Gr_addNode_18 : decode prog_3_method_4_code 18 = .ok (.iadd, 1) := by decide +kernel
theorem d_Gr_addNode_19 : decode prog_3_method_4_code 19 = .ok (.putfield 30, 3) := by decide +kernel
theorem d_Gr_addNode_22 : decode prog_3_method_4_code 22 = .ok (.iload_n 1, 1) := by decide +kernel
theorem d_Gr_addNode_23 : decode prog_3_method_4_code 23 = .ok (.ireturn, 1) := by decide +kernel
def rm_Gr_addNode : Room := { frames := 0, cells := 0, slots := 0, locals := 0 }
def f_Gr_addNode (σ : mS) : Option (Int32 × mS) :=
  nm (σ.1 1 6) fun v1 =>
  gd (inb v1 10) ((nm (sI σ 7 v1.toNatClampNeg 0) fun σ2 =>
  nm (sI σ2 1 6 ((σ2.1 1 6) + 1)) fun σ3 =>
  some (v1, σ3)))
set_option maxHeartbeats 4000000 in
set_option maxRecDepth 100000 in
theorem c_Gr_addNode (l : Launch) (D : va_G) (cA ad : Nat → Nat) (σ : mS) (o : Int32 × mS) (h : f_Gr_addNode σ = some o) : mCi l ⟨"LeastPaths$Graph", "addNode", "()I"⟩ (Cond.code ⟨"LeastPaths$Graph", "addNode", "()I"⟩ prog_3_method_4_code 2 (Option.some Jvm.ClassFile.FieldType.int) :: tlG) rm_Gr_addNode D clX (tyK cA) 99 (tbX cA) ad σ [.ref (ad 1)] o := by
  intro sz
  refine m_of (cc := prog_3_method_4_code) (maxL := 2) (Qc := mQi D clX (tyK cA) 99 (tbX cA) ad o) (by decide) (Nat.le_of_ble_eq_true rfl) (fun p e s m args below meth c ls S hr hlk hnm hl M => ?_) sz
  have hl : lv_has ls 2 [(0, .ref (ad 1))] := hl
  generalize hQ : MQ _ _ _ _ _ _ _ = Q
  skip
  unfold f_Gr_addNode at h
  refine lv_aload_n S.1 S.2.1 d_Gr_addNode_0 rfl (lv_at hl 0 rfl) ?_
  refine m_gi S M (j := 6) ok_Gr (by decide) rfl (by decide) rfl kw_3 rfl d_Gr_addNode_1 ?_
  refine m_ni h (fun v1 h => ?_)
  refine lv_istore_n (lv' := [(1, .int v1), (0, .ref (ad 1))]) S.1 S.2.1 d_Gr_addNode_4 rfl hl (by decide) rfl (fun ls hl => ?_)
  refine lv_aload_n S.1 S.2.1 d_Gr_addNode_5 rfl (lv_at hl 1 rfl) ?_
  refine m_gs (t := 7) S M (j := 5) ok_Gr (by decide) rfl (by decide) rfl kw_6 rfl d_Gr_addNode_6 ?_
  refine lv_iload_n S.1 S.2.1 d_Gr_addNode_9 rfl (lv_at hl 0 rfl) ?_
  refine lv_iconst (v := 0) S.1 S.2.1 d_Gr_addNode_10 (by decide) ?_
  refine m_ias (t0 := 0) S M (by decide) rfl rfl h d_Gr_addNode_11 (fun σ2 H locs h M => ?_)
  refine lv_aload_n S.1 S.2.1 d_Gr_addNode_12 rfl (lv_at hl 1 rfl) ?_
  refine lv_dup S.1 S.2.1 d_Gr_addNode_13 rfl ?_
  refine m_gi S M (j := 6) ok_Gr (by decide) rfl (by decide) rfl kw_3 rfl d_Gr_addNode_14 ?_
  refine lv_iconst (v := 1) S.1 S.2.1 d_Gr_addNode_17 (by decide) ?_
  refine lv_iadd S.1 S.2.1 d_Gr_addNode_18 ?_
  refine m_pi S M (j := 6) ok_Gr (by decide) rfl (by decide) rfl kw_3 rfl rfl rfl d_Gr_addNode_19 h (fun σ3 H locs h M => ?_)
  refine lv_iload_n S.1 S.2.1 d_Gr_addNode_22 rfl (lv_at hl 0 rfl) ?_
  subst hQ; exact m_iret S hr hlk M (Option.some.inj h) d_Gr_addNode_23
theorem d_Gr_addArc_0 : decode prog_3_method_5_code 0 = .ok (.aload_n 0, 1) := by decide +kernel
theorem d_Gr_addArc_1 : decode prog_3_method_5_code 1 = .ok (.getfield 34, 3) := by decide +kernel
theorem d_Gr_addArc_4 : decode prog_3_method_5_code 4 = .ok (.istore 4, 2) := by decide +kernel
theorem d_Gr_addArc_6 : decode prog_3_method_5_code 6 = .ok (.aload_n 0, 1) := by decide +kernel
theorem d_Gr_addArc_7 : decode prog_3_method_5_code 7 = .ok (.getfield 9, 3) := by decide +kernel
theorem d_Gr_addArc_10 : decode prog_3_method_5_code 10 = .ok (.iload 4, 2) := by decide +kernel
theorem d_Gr_addArc_12 : decode prog_3_method_5_code 12 = .ok (.iload_n 1, 1) := by decide +kernel
theorem d_Gr_addArc_13 : decode prog_3_method_5_code 13 = .ok (.iastore, 1) := by decide +kernel
theorem d_Gr_addArc_14 : decode prog_3_method_5_code 14 = .ok (.aload_n 0, 1) := by decide +kernel
theorem d_Gr_addArc_15 : decode prog_3_method_5_code 15 = .ok (.getfield 15, 3) := by decide +kernel
theorem d_Gr_addArc_18 : decode prog_3_method_5_code 18 = .ok (.iload 4, 2) := by decide +kernel
theorem d_Gr_addArc_20 : decode prog_3_method_5_code 20 = .ok (.iload_n 2, 1) := by decide +kernel
theorem d_Gr_addArc_21 : decode prog_3_method_5_code 21 = .ok (.iastore, 1) := by decide +kernel
theorem d_Gr_addArc_22 : decode prog_3_method_5_code 22 = .ok (.aload_n 0, 1) := by decide +kernel
theorem d_Gr_addArc_23 : decode prog_3_method_5_code 23 = .ok (.getfield 18, 3) := by decide +kernel
theorem d_Gr_addArc_26 : decode prog_3_method_5_code 26 = .ok (.iload 4, 2) := by decide +kernel
theorem d_Gr_addArc_28 : decode prog_3_method_5_code 28 = .ok (.iload_n 3, 1) := by decide +kernel
theorem d_Gr_addArc_29 : decode prog_3_method_5_code 29 = .ok (.iastore, 1) := by decide +kernel
theorem d_Gr_addArc_30 : decode prog_3_method_5_code 30 = .ok (.aload_n 0, 1) := by decide +kernel
theorem d_Gr_addArc_31 : decode prog_3_method_5_code 31 = .ok (.getfield 21, 3) := by decide +kernel
theorem d_Gr_addArc_34 : decode prog_3_method_5_code 34 = .ok (.iload 4, 2) := by decide +kernel
theorem d_Gr_addArc_36 : decode prog_3_method_5_code 36 = .ok (.iconst 1, 1) := by decide +kernel
theorem d_Gr_addArc_37 : decode prog_3_method_5_code 37 = .ok (.iastore, 1) := by decide +kernel
theorem d_Gr_addArc_38 : decode prog_3_method_5_code 38 = .ok (.aload_n 0, 1) := by decide +kernel
theorem d_Gr_addArc_39 : decode prog_3_method_5_code 39 = .ok (.getfield 24, 3) := by decide +kernel
theorem d_Gr_addArc_42 : decode prog_3_method_5_code 42 = .ok (.iload 4, 2) := by decide +kernel
theorem d_Gr_addArc_44 : decode prog_3_method_5_code 44 = .ok (.iconst 1, 1) := by decide +kernel
theorem d_Gr_addArc_45 : decode prog_3_method_5_code 45 = .ok (.iastore, 1) := by decide +kernel
theorem d_Gr_addArc_46 : decode prog_3_method_5_code 46 = .ok (.aload_n 0, 1) := by decide +kernel
theorem d_Gr_addArc_47 : decode prog_3_method_5_code 47 = .ok (.dup, 1) := by decide +kernel
theorem d_Gr_addArc_48 : decode prog_3_method_5_code 48 = .ok (.getfield 37, 3) := by decide +kernel
theorem d_Gr_addArc_51 : decode prog_3_method_5_code 51 = .ok (.lconst 1, 1) := by decide +kernel
theorem d_Gr_addArc_52 : decode prog_3_method_5_code 52 = .ok (.iload 4, 2) := by decide +kernel
theorem d_Gr_addArc_54 : decode prog_3_method_5_code 54 = .ok (.lshl, 1) := by decide +kernel
theorem d_Gr_addArc_55 : decode prog_3_method_5_code 55 = .ok (.lor, 1) := by decide +kernel
theorem d_Gr_addArc_56 : decode prog_3_method_5_code 56 = .ok (.putfield 37, 3) := by decide +kernel
theorem d_Gr_addArc_59 : decode prog_3_method_5_code 59 = .ok (.aload_n 0, 1) := by decide +kernel
theorem d_Gr_addArc_60 : decode prog_3_method_5_code 60 = .ok (.dup, 1) := by decide +kernel
theorem d_Gr_addArc_61 : decode prog_3_method_5_code 61 = .ok (.getfield 34, 3) := by decide +kernel
theorem d_Gr_addArc_64 : decode prog_3_method_5_code 64 = .ok (.iconst 1, 1) := by decide +kernel
theorem d_Gr_addArc_65 : decode prog_3_method_5_code 65 = .ok (.iadd, 1) := by decide +kernel
theorem d_Gr_addArc_66 : decode prog_3_method_5_code 66 = .ok (.putfield 34, 3) := by decide +kernel
theorem d_Gr_addArc_69 : decode prog_3_method_5_code 69 = .ok (.iload 4, 2) := by decide +kernel
theorem d_Gr_addArc_71 : decode prog_3_method_5_code 71 = .ok (.ireturn, 1) := by decide +kernel
def rm_Gr_addArc : Room := { frames := 0, cells := 0, slots := 0, locals := 0 }
def f_Gr_addArc (σ : mS) (x1 : Int32) (x2 : Int32) (x3 : Int32) : Option (Int32 × mS) :=
  nm (σ.1 1 7) fun v1 =>
  gd (inb v1 40) ((nm (sI σ 2 v1.toNatClampNeg x1) fun σ2 =>
  gd (inb v1 40) ((nm (sI σ2 3 v1.toNatClampNeg x2) fun σ3 =>
  gd (inb v1 40) ((nm (sI σ3 4 v1.toNatClampNeg x3) fun σ4 =>
  gd (inb v1 40) ((nm (sI σ4 5 v1.toNatClampNeg 1) fun σ5 =>
  gd (inb v1 40) ((nm (sI σ5 6 v1.toNatClampNeg 1) fun σ6 =>
  nm (sJ σ6 1 8 ((σ6.2.1 1 8) ||| (1 <<< (v1.toInt64 &&& 63)))) fun σ7 =>
  nm (sI σ7 1 7 ((σ7.1 1 7) + 1)) fun σ8 =>
  some (v1, σ8)))))))))))
set_option maxHeartbeats 4000000 in
set_option maxRecDepth 100000 in
theorem c_Gr_addArc (l : Launch) (D : va_G) (cA ad : Nat → Nat) (σ : mS) (x1 : Int32) (x2 : Int32) (x3 : Int32) (o : Int32 × mS) (h : f_Gr_addArc σ x1 x2 x3 = some o) : mCi l ⟨"LeastPaths$Graph", "addArc", "(III)I"⟩ (Cond.code ⟨"LeastPaths$Graph", "addArc", "(III)I"⟩ prog_3_method_5_code 5 (Option.some Jvm.ClassFile.FieldType.int) :: tlG) rm_Gr_addArc D clX (tyK cA) 99 (tbX cA) ad σ [.ref (ad 1), .int x1, .int x2, .int x3] o := by
  intro sz
  refine m_of (cc := prog_3_method_5_code) (maxL := 5) (Qc := mQi D clX (tyK cA) 99 (tbX cA) ad o) (by decide) (Nat.le_of_ble_eq_true rfl) (fun p e s m args below meth c ls S hr hlk hnm hl M => ?_) sz
  have hl : lv_has ls 5 [(0, .ref (ad 1)), (1, .int x1), (2, .int x2), (3, .int x3)] := hl
  generalize hQ : MQ _ _ _ _ _ _ _ = Q
  skip
  unfold f_Gr_addArc at h
  refine lv_aload_n S.1 S.2.1 d_Gr_addArc_0 rfl (lv_at hl 0 rfl) ?_
  refine m_gi S M (j := 7) ok_Gr (by decide) rfl (by decide) rfl kw_4 rfl d_Gr_addArc_1 ?_
  refine m_ni h (fun v1 h => ?_)
  refine lv_istore (lv' := [(4, .int v1), (0, .ref (ad 1)), (1, .int x1), (2, .int x2), (3, .int x3)]) S.1 S.2.1 d_Gr_addArc_4 hl (by decide) rfl (fun ls hl => ?_)
  refine lv_aload_n S.1 S.2.1 d_Gr_addArc_6 rfl (lv_at hl 1 rfl) ?_
  refine m_gs (t := 2) S M (j := 0) ok_Gr (by decide) rfl (by decide) rfl kw_7 rfl d_Gr_addArc_7 ?_
  refine lv_iload S.1 S.2.1 d_Gr_addArc_10 (lv_at hl 0 rfl) ?_
  refine lv_iload_n S.1 S.2.1 d_Gr_addArc_12 rfl (lv_at hl 2 rfl) ?_
  refine m_ias (t0 := 0) S M (by decide) rfl rfl h d_Gr_addArc_13 (fun σ2 H locs h M => ?_)
  refine lv_aload_n S.1 S.2.1 d_Gr_addArc_14 rfl (lv_at hl 1 rfl) ?_
  refine m_gs (t := 3) S M (j := 1) ok_Gr (by decide) rfl (by decide) rfl kw_8 rfl d_Gr_addArc_15 ?_
  refine lv_iload S.1 S.2.1 d_Gr_addArc_18 (lv_at hl 0 rfl) ?_
  refine lv_iload_n S.1 S.2.1 d_Gr_addArc_20 rfl (lv_at hl 3 rfl) ?_
  refine m_ias (t0 := 0) S M (by decide) rfl rfl h d_Gr_addArc_21 (fun σ3 H locs h M => ?_)
  refine lv_aload_n S.1 S.2.1 d_Gr_addArc_22 rfl (lv_at hl 1 rfl) ?_
  refine m_gs (t := 4) S M (j := 2) ok_Gr (by decide) rfl (by decide) rfl kw_9 rfl d_Gr_addArc_23 ?_
  refine lv_iload S.1 S.2.1 d_Gr_addArc_26 (lv_at hl 0 rfl) ?_
  refine lv_iload_n S.1 S.2.1 d_Gr_addArc_28 rfl (lv_at hl 4 rfl) ?_
  refine m_ias (t0 := 0) S M (by decide) rfl rfl h d_Gr_addArc_29 (fun σ4 H locs h M => ?_)
  refine lv_aload_n S.1 S.2.1 d_Gr_addArc_30 rfl (lv_at hl 1 rfl) ?_
  refine m_gs (t := 5) S M (j := 3) ok_Gr (by decide) rfl (by decide) rfl kw_10 rfl d_Gr_addArc_31 ?_
  refine lv_iload S.1 S.2.1 d_Gr_addArc_34 (lv_at hl 0 rfl) ?_
  refine lv_iconst (v := 1) S.1 S.2.1 d_Gr_addArc_36 (by decide) ?_
  refine m_ias (t0 := 0) S M (by decide) rfl rfl h d_Gr_addArc_37 (fun σ5 H locs h M => ?_)
  refine lv_aload_n S.1 S.2.1 d_Gr_addArc_38 rfl (lv_at hl 1 rfl) ?_
  refine m_gs (t := 6) S M (j := 4) ok_Gr (by decide) rfl (by decide) rfl kw_11 rfl d_Gr_addArc_39 ?_
  refine lv_iload S.1 S.2.1 d_Gr_addArc_42 (lv_at hl 0 rfl) ?_
  refine lv_iconst (v := 1) S.1 S.2.1 d_Gr_addArc_44 (by decide) ?_
  refine m_ias (t0 := 0) S M (by decide) rfl rfl h d_Gr_addArc_45 (fun σ6 H locs h M => ?_)
  refine lv_aload_n S.1 S.2.1 d_Gr_addArc_46 rfl (lv_at hl 1 rfl) ?_
  refine lv_dup S.1 S.2.1 d_Gr_addArc_47 rfl ?_
  refine m_gl S M (j := 8) ok_Gr (by decide) rfl (by decide) rfl kw_5 rfl d_Gr_addArc_48 ?_
  refine lv_lconst (v := 1) S.1 S.2.1 d_Gr_addArc_51 (by decide) ?_
  refine lv_iload S.1 S.2.1 d_Gr_addArc_52 (lv_at hl 0 rfl) ?_
  refine lv_lshl S.1 S.2.1 d_Gr_addArc_54 rfl ?_
  refine lv_lor S.1 S.2.1 d_Gr_addArc_55 ?_
  refine m_pl S M (j := 8) ok_Gr (by decide) rfl (by decide) rfl kw_5 rfl rfl rfl d_Gr_addArc_56 h (fun σ7 H locs h M => ?_)
  refine lv_aload_n S.1 S.2.1 d_Gr_addArc_59 rfl (lv_at hl 1 rfl) ?_
  refine lv_dup S.1 S.2.1 d_Gr_addArc_60 rfl ?_
  refine m_gi S M (j := 7) ok_Gr (by decide) rfl (by decide) rfl kw_4 rfl d_Gr_addArc_61 ?_
  refine lv_iconst (v := 1) S.1 S.2.1 d_Gr_addArc_64 (by decide) ?_
  refine lv_iadd S.1 S.2.1 d_Gr_addArc_65 ?_
  refine m_pi S M (j := 7) ok_Gr (by decide) rfl (by decide) rfl kw_4 rfl rfl rfl d_Gr_addArc_66 h (fun σ8 H locs h M => ?_)
  refine lv_iload S.1 S.2.1 d_Gr_addArc_69 (lv_at hl 0 rfl) ?_
  subst hQ; exact m_iret S hr hlk M (Option.some.inj h) d_Gr_addArc_71
theorem d_Gr_restsLeadTo_0 : decode prog_3_method_6_code 0 = .ok (.aload_n 0, 1) := by decide +kernel
theorem d_Gr_restsLeadTo_1 : decode prog_3_method_6_code 1 = .ok (.getfield 27, 3) := by decide +kernel
theorem d_Gr_restsLeadTo_4 : decode prog_3_method_6_code 4 = .ok (.iload_n 1, 1) := by decide +kernel
theorem d_Gr_restsLeadTo_5 : decode prog_3_method_6_code 5 = .ok (.iaload, 1) := by decide +kernel
theorem d_Gr_restsLeadTo_6 : decode prog_3_method_6_code 6 = .ok (.ifCond .eq 5, 3) := by decide +kernel
theorem d_Gr_restsLeadTo_9 : decode prog_3_method_6_code 9 = .ok (.iconst 0, 1) := by decide +kernel
theorem d_Gr_restsLeadTo_10 : decode prog_3_method_6_code 10 = .ok (.ireturn, 1) := by decide +kernel
theorem d_Gr_restsLeadTo_11 : decode prog_3_method_6_code 11 = .ok (.iconst 0, 1) := by decide +kernel
theorem d_Gr_restsLeadTo_12 : decode prog_3_method_6_code 12 = .ok (.istore_n 2, 1) := by decide +kernel
theorem d_Gr_restsLeadTo_13 : decode prog_3_method_6_code 13 = .ok (.iload_n 2, 1) := by decide +kernel
theorem d_Gr_restsLeadTo_14 : decode prog_3_method_6_code 14 = .ok (.aload_n 0, 1) := by decide +kernel
theorem d_Gr_restsLeadTo_15 : decode prog_3_method_6_code 15 = .ok (.getfield 34, 3) := by decide +kernel
theorem d_Gr_restsLeadTo_18 : decode prog_3_method_6_code 18 = .ok (.if_icmp .ge 51, 3) := by decide +kernel
theorem d_Gr_restsLeadTo_21 : decode prog_3_method_6_code 21 = .ok (.aload_n 0, 1) := by decide +kernel
theorem d_Gr_restsLeadTo_22 : decode prog_3_method_6_code 22 = .ok (.iload_n 2, 1) := by decide +kernel
theorem d_Gr_restsLeadTo_23 : decode prog_3_method_6_code 23 = .ok (.invokevirtual 41, 3) := by decide +kernel
theorem d_Gr_restsLeadTo_26 : decode prog_3_method_6_code 26 = .ok (.ifCond .eq 37, 3) := by decide +kernel
theorem d_Gr_restsLeadTo_29 : decode prog_3_method_6_code 29 = .ok (.aload_n 0, 1) := by decide +kernel
theorem d_Gr_restsLeadTo_30 : decode prog_3_method_6_code 30 = .ok (.getfield 27, 3) := by decide +kernel
theorem d_Gr_restsLeadTo_33 : decode prog_3_method_6_code 33 = .ok (.aload_n 0, 1) := by decide +kernel
theorem d_Gr_restsLeadTo_34 : decode prog_3_method_6_code 34 = .ok (.getfield 9, 3) := by decide +kernel
theorem d_Gr_restsLeadTo_37 : decode prog_3_method_6_code 37 = .ok (.iload_n 2, 1) := by decide +kernel
theorem d_Gr_restsLeadTo_38 : decode prog_3_method_6_code 38 = .ok (.iaload, 1) := by decide +kernel
theorem d_Gr_restsLeadTo_39 : decode prog_3_method_6_code 39 = .ok (.iaload, 1) := by decide +kernel
theorem d_Gr_restsLeadTo_40 : decode prog_3_method_6_code 40 = .ok (.aload_n 0, 1) := by decide +kernel
theorem d_Gr_restsLeadTo_41 : decode prog_3_method_6_code 41 = .ok (.getfield 18, 3) := by decide +kernel
theorem d_Gr_restsLeadTo_44 : decode prog_3_method_6_code 44 = .ok (.iload_n 2, 1) := by decide +kernel
theorem d_Gr_restsLeadTo_45 : decode prog_3_method_6_code 45 = .ok (.iaload, 1) := by decide +kernel
theorem d_Gr_restsLeadTo_46 : decode prog_3_method_6_code 46 = .ok (.aload_n 0, 1) := by decide +kernel
theorem d_Gr_restsLeadTo_47 : decode prog_3_method_6_code 47 = .ok (.getfield 27, 3) := by decide +kernel
theorem d_Gr_restsLeadTo_50 : decode prog_3_method_6_code 50 = .ok (.aload_n 0, 1) := by decide +kernel
theorem d_Gr_restsLeadTo_51 : decode prog_3_method_6_code 51 = .ok (.getfield 15, 3) := by decide +kernel
theorem d_Gr_restsLeadTo_54 : decode prog_3_method_6_code 54 = .ok (.iload_n 2, 1) := by decide +kernel
theorem d_Gr_restsLeadTo_55 : decode prog_3_method_6_code 55 = .ok (.iaload, 1) := by decide +kernel
theorem d_Gr_restsLeadTo_56 : decode prog_3_method_6_code 56 = .ok (.iaload, 1) := by decide +kernel
theorem d_Gr_restsLeadTo_57 : decode prog_3_method_6_code 57 = .ok (.iadd, 1) := by decide +kernel
theorem d_Gr_restsLeadTo_58 : decode prog_3_method_6_code 58 = .ok (.if_icmp .le 5, 3) := by decide +kernel
theorem d_Gr_restsLeadTo_61 : decode prog_3_method_6_code 61 = .ok (.iconst 0, 1) := by decide +kernel
theorem d_Gr_restsLeadTo_62 : decode prog_3_method_6_code 62 = .ok (.ireturn, 1) := by decide +kernel
theorem d_Gr_restsLeadTo_63 : decode prog_3_method_6_code 63 = .ok (.iinc 2 1, 3) := by decide +kernel
theorem d_Gr_restsLeadTo_66 : decode prog_3_method_6_code 66 = .ok (.goto (-53), 3) := by decide +kernel
theorem d_Gr_restsLeadTo_69 : decode prog_3_method_6_code 69 = .ok (.iconst 1, 1) := by decide +kernel
theorem d_Gr_restsLeadTo_70 : decode prog_3_method_6_code 70 = .ok (.ireturn, 1) := by decide +kernel
def rm_Gr_restsLeadTo : Room := { frames := 1, cells := 0, slots := 0, locals := 21 }
def f_Gr_restsLeadTo_L13 (σ : mS) : (Int32) → Option ((Int32) ⊕ ((Int32) ⊕ (Int32))) := fun t13 =>
  if (σ.1 1 7) ≤ t13 then (
  some (.inr (.inl (t13)))) else (
  (f_Gr_hasArc σ t13).bind fun v1 =>
  if v1 = 0 then (
  some (.inl (t13 + 1))) else (
  gd (inb t13 40) (
  gd (inb (σ.1 2 t13.toNatClampNeg) 10) (
  gd (inb t13 40) (
  gd (inb t13 40) (
  gd (inb (σ.1 3 t13.toNatClampNeg) 10) (
  if (σ.1 7 (σ.1 2 t13.toNatClampNeg).toNatClampNeg) ≤ ((σ.1 4 t13.toNatClampNeg) + (σ.1 7 (σ.1 3 t13.toNatClampNeg).toNatClampNeg)) then (
  some (.inl (t13 + 1))) else (
  some (.inr (.inr 0))))))))))
def f_Gr_restsLeadTo (σ : mS) (x1 : Int32) : Option (Int32) :=
  gd (inb x1 10) (
  if (σ.1 7 x1.toNatClampNeg) = 0 then (
  (lpN (f_Gr_restsLeadTo_L13 σ) fuS (0)).bind fun u13 => Sum.elim (fun e13 =>
  some 1)
  (fun y13 => some y13) u13) else (
  some 0))
set_option maxHeartbeats 4000000 in
set_option maxRecDepth 100000 in
theorem c_Gr_restsLeadTo (l : Launch) (D : va_G) (cA ad : Nat → Nat) (σ : mS) (x1 : Int32) (o : Int32) (h : f_Gr_restsLeadTo σ x1 = some o) : mCi l ⟨"LeastPaths$Graph", "restsLeadTo", "(I)Z"⟩ (Cond.code ⟨"LeastPaths$Graph", "restsLeadTo", "(I)Z"⟩ prog_3_method_6_code 3 (Option.some Jvm.ClassFile.FieldType.boolean) :: tlG) rm_Gr_restsLeadTo D clX (tyK cA) 99 (tbX cA) ad σ [.ref (ad 1), .int x1] (o, σ) := by
  intro sz
  refine m_of (cc := prog_3_method_6_code) (maxL := 3) (Qc := mQi D clX (tyK cA) 99 (tbX cA) ad (o, σ)) (by decide) (Nat.le_of_ble_eq_true rfl) (fun p e s m args below meth c ls S hr hlk hnm hl M => ?_) sz
  have hl : lv_has ls 3 [(0, .ref (ad 1)), (1, .int x1)] := hl
  generalize hQ : MQ _ _ _ _ _ _ _ = Q
  skip
  unfold f_Gr_restsLeadTo at h
  refine lv_aload_n S.1 S.2.1 d_Gr_restsLeadTo_0 rfl (lv_at hl 0 rfl) ?_
  refine m_gs (t := 7) S M (j := 5) ok_Gr (by decide) rfl (by decide) rfl kw_6 rfl d_Gr_restsLeadTo_1 ?_
  refine lv_iload_n S.1 S.2.1 d_Gr_restsLeadTo_4 rfl (lv_at hl 1 rfl) ?_
  refine m_ial (t0 := 0) S M (by decide) rfl rfl h d_Gr_restsLeadTo_5 (fun h => ?_)
  refine m_ifeq (tgt := 11) S d_Gr_restsLeadTo_6 (by decide) h (fun h => ?_) (fun h => ?_)
  · refine lv_iconst (v := 0) S.1 S.2.1 d_Gr_restsLeadTo_11 (by decide) ?_
    refine lv_istore_n (lv' := [(2, .int 0), (0, .ref (ad 1)), (1, .int x1)]) S.1 S.2.1 d_Gr_restsLeadTo_12 rfl hl (by decide) rfl (fun ls hl => ?_)
    obtain ⟨u13, q13, h⟩ := Option.bind_eq_some_iff.mp h
    refine lpN_W2 (st := f_Gr_restsLeadTo_L13 σ) (fun (t13 : Int32) => ∀ (ls : Array Slot) (H : Heap) (locs : List Loc), lv_has ls 3 [(2, .int t13), (0, .ref (ad 1)), (1, .int x1)] → mM D clX (tyK cA) (mA 99 ad s.heap.size) s 99 (tbX cA) ad σ H locs → W p l e rm_Gr_restsLeadTo s m args below meth c H locs 0 0 Q (F0 m 13 ls [])) (fun (e13 : Int32) => ∀ (ls : Array Slot) (H : Heap) (locs : List Loc), lv_has ls 3 [(2, .int e13), (0, .ref (ad 1)), (1, .int x1)] → mM D clX (tyK cA) (mA 99 ad s.heap.size) s 99 (tbX cA) ad σ H locs → W p l e rm_Gr_restsLeadTo s m args below meth c H locs 0 0 Q (F0 m 69 ls [])) (fun (y13 : Int32) => ∀ (pc : Nat) (ls : Array Slot) (H : Heap) (locs : List Loc), decode prog_3_method_6_code pc = .ok (.ireturn, 1) → isB y13 = true → mM D clX (tyK cA) (mA 99 ad s.heap.size) s 99 (tbX cA) ad σ H locs → W p l e rm_Gr_restsLeadTo s m args below meth c H locs 0 0 Q (F0 m pc ls [.int y13])) ?_ fuS ((0) : Int32) u13 q13 ?_ ?_ ls _ _ (lv_sub hl [0, 1, 2] rfl) M
    · intro t13 oo13 h K1 K2 K3 ls H locs hl M
      unfold f_Gr_restsLeadTo_L13 at h
      refine lv_iload_n S.1 S.2.1 d_Gr_restsLeadTo_13 rfl (lv_at hl 0 rfl) ?_
      refine lv_aload_n S.1 S.2.1 d_Gr_restsLeadTo_14 rfl (lv_at hl 1 rfl) ?_
      refine m_gi S M (j := 7) ok_Gr (by decide) rfl (by decide) rfl kw_4 rfl d_Gr_restsLeadTo_15 ?_
      refine m_ige (tgt := 69) S d_Gr_restsLeadTo_18 (by decide) h (fun h => ?_) (fun h => ?_)
      · exact K2 _ (Option.some.inj h).symm ls _ _ (lv_sub hl [0, 1, 2] rfl) M
      · refine lv_aload_n S.1 S.2.1 d_Gr_restsLeadTo_21 rfl (lv_at hl 1 rfl) ?_
        refine lv_iload_n S.1 S.2.1 d_Gr_restsLeadTo_22 rfl (lv_at hl 0 rfl) ?_
        refine m_xip h (fun o ho => m_rV (As := [.int t13]) (rest := []) S M hl.1 (cwG (n := 1) S.2.2.2.2 kw_12 kw_13 kw_14 kw_15 kw_16 (by decide) ⟨Nat.le_of_ble_eq_true rfl, Nat.le_of_ble_eq_true rfl⟩) ok_Gr (by decide) rfl (c_Gr_hasArc l D cA ad σ t13 o ho _) rfl rfl (Nat.le_of_ble_eq_true rfl) d_Gr_restsLeadTo_23 ⟨Nat.zero_le _, Nat.zero_le _⟩) M (fun v1 H locs h M => ?_)
        refine m_ifeq (tgt := 63) S d_Gr_restsLeadTo_26 (by decide) h (fun h => ?_) (fun h => ?_)
        · refine lv_iinc (v := t13 + 1) (lv' := [(2, .int (t13 + 1)), (0, .ref (ad 1)), (1, .int x1)]) S.1 S.2.1 d_Gr_restsLeadTo_63 hl (k := 0) rfl rfl (by decide) rfl (fun ls hl => ?_)
          refine lv_goto (tgt := 13) S.1 S.2.1 d_Gr_restsLeadTo_66 (by decide) ?_
          exact K1 _ (Option.some.inj h).symm ls _ _ (lv_sub hl [0, 1, 2] rfl) M
        · refine lv_aload_n S.1 S.2.1 d_Gr_restsLeadTo_29 rfl (lv_at hl 1 rfl) ?_
          refine m_gs (t := 7) S M (j := 5) ok_Gr (by decide) rfl (by decide) rfl kw_6 rfl d_Gr_restsLeadTo_30 ?_
          refine lv_aload_n S.1 S.2.1 d_Gr_restsLeadTo_33 rfl (lv_at hl 1 rfl) ?_
          refine m_gs (t := 2) S M (j := 0) ok_Gr (by decide) rfl (by decide) rfl kw_7 rfl d_Gr_restsLeadTo_34 ?_
          refine lv_iload_n S.1 S.2.1 d_Gr_restsLeadTo_37 rfl (lv_at hl 0 rfl) ?_
          refine m_ial (t0 := 0) S M (by decide) rfl rfl h d_Gr_restsLeadTo_38 (fun h => ?_)
          refine m_ial (t0 := 0) S M (by decide) rfl rfl h d_Gr_restsLeadTo_39 (fun h => ?_)
          refine lv_aload_n S.1 S.2.1 d_Gr_restsLeadTo_40 rfl (lv_at hl 1 rfl) ?_
          refine m_gs (t := 4) S M (j := 2) ok_Gr (by decide) rfl (by decide) rfl kw_9 rfl d_Gr_restsLeadTo_41 ?_
          refine lv_iload_n S.1 S.2.1 d_Gr_restsLeadTo_44 rfl (lv_at hl 0 rfl) ?_
          refine m_ial (t0 := 0) S M (by decide) rfl rfl h d_Gr_restsLeadTo_45 (fun h => ?_)
          refine lv_aload_n S.1 S.2.1 d_Gr_restsLeadTo_46 rfl (lv_at hl 1 rfl) ?_
          refine m_gs (t := 7) S M (j := 5) ok_Gr (by decide) rfl (by decide) rfl kw_6 rfl d_Gr_restsLeadTo_47 ?_
          refine lv_aload_n S.1 S.2.1 d_Gr_restsLeadTo_50 rfl (lv_at hl 1 rfl) ?_
          refine m_gs (t := 3) S M (j := 1) ok_Gr (by decide) rfl (by decide) rfl kw_8 rfl d_Gr_restsLeadTo_51 ?_
          refine lv_iload_n S.1 S.2.1 d_Gr_restsLeadTo_54 rfl (lv_at hl 0 rfl) ?_
          refine m_ial (t0 := 0) S M (by decide) rfl rfl h d_Gr_restsLeadTo_55 (fun h => ?_)
          refine m_ial (t0 := 0) S M (by decide) rfl rfl h d_Gr_restsLeadTo_56 (fun h => ?_)
          refine lv_iadd S.1 S.2.1 d_Gr_restsLeadTo_57 ?_
          refine m_ile (tgt := 63) S d_Gr_restsLeadTo_58 (by decide) h (fun h => ?_) (fun h => ?_)
          · refine lv_iinc (v := t13 + 1) (lv' := [(2, .int (t13 + 1)), (0, .ref (ad 1)), (1, .int x1)]) S.1 S.2.1 d_Gr_restsLeadTo_63 hl (k := 0) rfl rfl (by decide) rfl (fun ls hl => ?_)
            refine lv_goto (tgt := 13) S.1 S.2.1 d_Gr_restsLeadTo_66 (by decide) ?_
            exact K1 _ (Option.some.inj h).symm ls _ _ (lv_sub hl [0, 1, 2] rfl) M
          · refine lv_iconst (v := 0) S.1 S.2.1 d_Gr_restsLeadTo_61 (by decide) ?_
            exact K3 _ (Option.some.inj h).symm _ ls _ _ d_Gr_restsLeadTo_62 rfl M
    · intro e13 q ls H locs hl M
      subst q
      dsimp only [Sum.elim_inl] at h
      refine lv_iconst (v := 1) S.1 S.2.1 d_Gr_restsLeadTo_69 (by decide) ?_
      subst hQ; exact m_zret S hr hlk M (by rw [Option.some.inj h]) rfl d_Gr_restsLeadTo_70
    · intro y13 q
      subst q
      dsimp only [Sum.elim_inr] at h
      intro pc ls H locs hd hB M
      subst hQ; exact m_zret S hr hlk M (by rw [Option.some.inj h]) hB hd
  · refine lv_iconst (v := 0) S.1 S.2.1 d_Gr_restsLeadTo_9 (by decide) ?_
    subst hQ; exact m_zret S hr hlk M (by rw [Option.some.inj h]) rfl d_Gr_restsLeadTo_10
