theorem d_Wy_begin_0 : decode prog_9_method_2_code 0 = .ok (.aload_n 0, 1) := by decide +kernel
theorem d_Wy_begin_1 : decode prog_9_method_2_code 1 = .ok (.iconst 0, 1) := by decide +kernel
theorem d_Wy_begin_2 : decode prog_9_method_2_code 2 = .ok (.putfield 15, 3) := by decide +kernel
theorem d_Wy_begin_5 : decode prog_9_method_2_code 5 = .ok (.aload_n 0, 1) := by decide +kernel
theorem d_Wy_begin_6 : decode prog_9_method_2_code 6 = .ok (.iconst 0, 1) := by decide +kernel
theorem d_Wy_begin_7 : decode prog_9_method_2_code 7 = .ok (.putfield 19, 3) := by decide +kernel
theorem d_Wy_begin_10 : decode prog_9_method_2_code 10 = .ok (.aload_n 0, 1) := by decide +kernel
theorem d_Wy_begin_11 : decode prog_9_method_2_code 11 = .ok (.iload_n 1, 1) := by decide +kernel
theorem d_Wy_begin_12 : decode prog_9_method_2_code 12 = .ok (.putfield 22, 3) := by decide +kernel
theorem d_Wy_begin_15 : decode prog_9_method_2_code 15 = .ok (.aload_n 0, 1) := by decide +kernel
theorem d_Wy_begin_16 : decode prog_9_method_2_code 16 = .ok (.lload_n 2, 1) := by decide +kernel
theorem d_Wy_begin_17 : decode prog_9_method_2_code 17 = .ok (.putfield 25, 3) := by decide +kernel
theorem d_Wy_begin_20 : decode prog_9_method_2_code 20 = .ok (.return_, 1) := by decide +kernel
def rm_Wy_begin : Room := { frames := 0, cells := 0, slots := 0, locals := 0 }
def f_Wy_begin (w : Nat) (σ : mS) (x1 : Int32) (x2 : Int64) : Option (mS) :=
  nm (sI σ w 1 0) fun σ1 =>
  nm (sI σ1 w 2 0) fun σ2 =>
  nm (sI σ2 w 3 x1) fun σ3 =>
  nm (sJ σ3 w 4 x2) fun σ4 =>
  some σ4
set_option maxHeartbeats 4000000 in
set_option maxRecDepth 100000 in
theorem c_Wy_begin (l : Launch) (D : va_G) (cA ad : Nat → Nat) {w : Nat} (hw : wy w = true) (σ : mS) (x1 : Int32) (x2 : Int64) (o : mS) (h : f_Wy_begin w σ x1 x2 = some o) : mCv l ⟨"LeastPaths$Way", "begin", "(IJ)V"⟩ (Cond.code ⟨"LeastPaths$Way", "begin", "(IJ)V"⟩ prog_9_method_2_code 4 (Option.none : Option Jvm.ClassFile.FieldType) :: tlG) rm_Wy_begin D clX (tyK cA) 99 (tbX cA) ad σ [.ref (ad w), .int x1, .long x2] o := by
  intro sz
  refine m_of (cc := prog_9_method_2_code) (maxL := 4) (Qc := mQv D clX (tyK cA) 99 (tbX cA) ad o) (by decide) (Nat.le_of_ble_eq_true rfl) (fun p e s m args below meth c ls S hr hlk hnm hl M => ?_) sz
  have hl : lv_has ls 4 [(0, .ref (ad w)), (1, .int x1), (2, .long x2)] := hl
  generalize hQ : MQ _ _ _ _ _ _ _ = Q
  skip
  unfold f_Wy_begin at h
  refine lv_aload_n S.1 S.2.1 d_Wy_begin_0 rfl (lv_at hl 0 rfl) ?_
  refine lv_iconst (v := 0) S.1 S.2.1 d_Wy_begin_1 (by decide) ?_
  refine m_pi S M (j := 1) ok_Wy (lt_Y0 hw) (tb_Y0 hw) (by decide) rfl kw_32 rfl rfl rfl d_Wy_begin_2 h (fun σ1 H locs h M => ?_)
  refine lv_aload_n S.1 S.2.1 d_Wy_begin_5 rfl (lv_at hl 0 rfl) ?_
  refine lv_iconst (v := 0) S.1 S.2.1 d_Wy_begin_6 (by decide) ?_
  refine m_pi S M (j := 2) ok_Wy (lt_Y0 hw) (tb_Y0 hw) (by decide) rfl kw_33 rfl rfl rfl d_Wy_begin_7 h (fun σ2 H locs h M => ?_)
  refine lv_aload_n S.1 S.2.1 d_Wy_begin_10 rfl (lv_at hl 0 rfl) ?_
  refine lv_iload_n S.1 S.2.1 d_Wy_begin_11 rfl (lv_at hl 1 rfl) ?_
  refine m_pi S M (j := 3) ok_Wy (lt_Y0 hw) (tb_Y0 hw) (by decide) rfl kw_34 rfl rfl rfl d_Wy_begin_12 h (fun σ3 H locs h M => ?_)
  refine lv_aload_n S.1 S.2.1 d_Wy_begin_15 rfl (lv_at hl 0 rfl) ?_
  refine lv_lload_n S.1 S.2.1 d_Wy_begin_16 rfl (lv_at hl 2 rfl) ?_
  refine m_pl S M (j := 4) ok_Wy (lt_Y0 hw) (tb_Y0 hw) (by decide) rfl kw_35 rfl rfl rfl d_Wy_begin_17 h (fun σ4 H locs h M => ?_)
  subst hQ; exact m_vret S hr hlk M (Option.some.inj h) d_Wy_begin_20
theorem d_Wy_add_0 : decode prog_9_method_3_code 0 = .ok (.aload_n 0, 1) := by decide +kernel
theorem d_Wy_add_1 : decode prog_9_method_3_code 1 = .ok (.getfield 15, 3) := by decide +kernel
theorem d_Wy_add_4 : decode prog_9_method_3_code 4 = .ok (.bipush 10, 2) := by decide +kernel
theorem d_Wy_add_6 : decode prog_9_method_3_code 6 = .ok (.if_icmp .ge 38, 3) := by decide +kernel
theorem d_Wy_add_9 : decode prog_9_method_3_code 9 = .ok (.aload_n 0, 1) := by decide +kernel
theorem d_Wy_add_10 : decode prog_9_method_3_code 10 = .ok (.getfield 9, 3) := by decide +kernel
theorem d_Wy_add_13 : decode prog_9_method_3_code 13 = .ok (.aload_n 0, 1) := by decide +kernel
theorem d_Wy_add_14 : decode prog_9_method_3_code 14 = .ok (.getfield 15, 3) := by decide +kernel
theorem d_Wy_add_17 : decode prog_9_method_3_code 17 = .ok (.iload_n 1, 1) := by decide +kernel
theorem d_Wy_add_18 : decode prog_9_method_3_code 18 = .ok (.iastore, 1) := by decide +kernel
theorem d_Wy_add_19 : decode prog_9_method_3_code 19 = .ok (.aload_n 0, 1) := by decide +kernel
theorem d_Wy_add_20 : decode prog_9_method_3_code 20 = .ok (.dup, 1) := by decide +kernel
theorem d_Wy_add_21 : decode prog_9_method_3_code 21 = .ok (.getfield 15, 3) := by decide +kernel
theorem d_Wy_add_24 : decode prog_9_method_3_code 24 = .ok (.iconst 1, 1) := by decide +kernel
theorem d_Wy_add_25 : decode prog_9_method_3_code 25 = .ok (.iadd, 1) := by decide +kernel
theorem d_Wy_add_26 : decode prog_9_method_3_code 26 = .ok (.putfield 15, 3) := by decide +kernel
theorem d_Wy_add_29 : decode prog_9_method_3_code 29 = .ok (.aload_n 0, 1) := by decide +kernel
theorem d_Wy_add_30 : decode prog_9_method_3_code 30 = .ok (.dup, 1) := by decide +kernel
theorem d_Wy_add_31 : decode prog_9_method_3_code 31 = .ok (.getfield 19, 3) := by decide +kernel
theorem d_Wy_add_34 : decode prog_9_method_3_code 34 = .ok (.iload_n 2, 1) := by decide +kernel
theorem d_Wy_add_35 : decode prog_9_method_3_code 35 = .ok (.bipush 16, 2) := by decide +kernel
theorem d_Wy_add_37 : decode prog_9_method_3_code 37 = .ok (.imul, 1) := by decide +kernel
theorem d_Wy_add_38 : decode prog_9_method_3_code 38 = .ok (.iconst 1, 1) := by decide +kernel
theorem d_Wy_add_39 : decode prog_9_method_3_code 39 = .ok (.iadd, 1) := by decide +kernel
theorem d_Wy_add_40 : decode prog_9_method_3_code 40 = .ok (.iadd, 1) := by decide +kernel
theorem d_Wy_add_41 : decode prog_9_method_3_code 41 = .ok (.putfield 19, 3) := by decide +kernel
theorem d_Wy_add_44 : decode prog_9_method_3_code 44 = .ok (.return_, 1) := by decide +kernel
def rm_Wy_add : Room := { frames := 0, cells := 0, slots := 0, locals := 0 }
def f_Wy_add (w : Nat) (σ : mS) (x1 : Int32) (x2 : Int32) : Option (mS) :=
  if 10 ≤ (σ.1 w 1) then (
  some σ) else (
  gd (inb (σ.1 w 1) 10) ((nm (sI σ ((w + 1)) (σ.1 w 1).toNatClampNeg x1) fun σ1 =>
  nm (sI σ1 w 1 ((σ1.1 w 1) + 1)) fun σ2 =>
  nm (sI σ2 w 2 ((σ2.1 w 2) + ((x2 * 16) + 1))) fun σ3 =>
  some σ3)))
set_option maxHeartbeats 4000000 in
set_option maxRecDepth 100000 in
theorem c_Wy_add (l : Launch) (D : va_G) (cA ad : Nat → Nat) {w : Nat} (hw : wy w = true) (σ : mS) (x1 : Int32) (x2 : Int32) (o : mS) (h : f_Wy_add w σ x1 x2 = some o) : mCv l ⟨"LeastPaths$Way", "add", "(II)V"⟩ (Cond.code ⟨"LeastPaths$Way", "add", "(II)V"⟩ prog_9_method_3_code 3 (Option.none : Option Jvm.ClassFile.FieldType) :: tlG) rm_Wy_add D clX (tyK cA) 99 (tbX cA) ad σ [.ref (ad w), .int x1, .int x2] o := by
  intro sz
  refine m_of (cc := prog_9_method_3_code) (maxL := 3) (Qc := mQv D clX (tyK cA) 99 (tbX cA) ad o) (by decide) (Nat.le_of_ble_eq_true rfl) (fun p e s m args below meth c ls S hr hlk hnm hl M => ?_) sz
  have hl : lv_has ls 3 [(0, .ref (ad w)), (1, .int x1), (2, .int x2)] := hl
  generalize hQ : MQ _ _ _ _ _ _ _ = Q
  skip
  unfold f_Wy_add at h
  refine lv_aload_n S.1 S.2.1 d_Wy_add_0 rfl (lv_at hl 0 rfl) ?_
  refine m_gi S M (j := 1) ok_Wy (lt_Y0 hw) (tb_Y0 hw) (by decide) rfl kw_32 rfl d_Wy_add_1 ?_
  refine lv_bipush (v := 10) S.1 S.2.1 d_Wy_add_4 (by decide) ?_
  refine m_ige (tgt := 44) S d_Wy_add_6 (by decide) h (fun h => ?_) (fun h => ?_)
  · subst hQ; exact m_vret S hr hlk M (Option.some.inj h) d_Wy_add_44
  · refine lv_aload_n S.1 S.2.1 d_Wy_add_9 rfl (lv_at hl 0 rfl) ?_
    refine m_gs (t := (w + 1)) S M (j := 0) ok_Wy (lt_Y0 hw) (tb_Y0 hw) (by decide) rfl kw_36 rfl d_Wy_add_10 ?_
    refine lv_aload_n S.1 S.2.1 d_Wy_add_13 rfl (lv_at hl 0 rfl) ?_
    refine m_gi S M (j := 1) ok_Wy (lt_Y0 hw) (tb_Y0 hw) (by decide) rfl kw_32 rfl d_Wy_add_14 ?_
    refine lv_iload_n S.1 S.2.1 d_Wy_add_17 rfl (lv_at hl 1 rfl) ?_
    refine m_ias (t0 := 0) S M (lt_Y1 hw) (tb_Y1 hw) rfl h d_Wy_add_18 (fun σ1 H locs h M => ?_)
    refine lv_aload_n S.1 S.2.1 d_Wy_add_19 rfl (lv_at hl 0 rfl) ?_
    refine lv_dup S.1 S.2.1 d_Wy_add_20 rfl ?_
    refine m_gi S M (j := 1) ok_Wy (lt_Y0 hw) (tb_Y0 hw) (by decide) rfl kw_32 rfl d_Wy_add_21 ?_
    refine lv_iconst (v := 1) S.1 S.2.1 d_Wy_add_24 (by decide) ?_
    refine lv_iadd S.1 S.2.1 d_Wy_add_25 ?_
    refine m_pi S M (j := 1) ok_Wy (lt_Y0 hw) (tb_Y0 hw) (by decide) rfl kw_32 rfl rfl rfl d_Wy_add_26 h (fun σ2 H locs h M => ?_)
    refine lv_aload_n S.1 S.2.1 d_Wy_add_29 rfl (lv_at hl 0 rfl) ?_
    refine lv_dup S.1 S.2.1 d_Wy_add_30 rfl ?_
    refine m_gi S M (j := 2) ok_Wy (lt_Y0 hw) (tb_Y0 hw) (by decide) rfl kw_33 rfl d_Wy_add_31 ?_
    refine lv_iload_n S.1 S.2.1 d_Wy_add_34 rfl (lv_at hl 2 rfl) ?_
    refine lv_bipush (v := 16) S.1 S.2.1 d_Wy_add_35 (by decide) ?_
    refine lv_imul S.1 S.2.1 d_Wy_add_37 ?_
    refine lv_iconst (v := 1) S.1 S.2.1 d_Wy_add_38 (by decide) ?_
    refine lv_iadd S.1 S.2.1 d_Wy_add_39 ?_
    refine lv_iadd S.1 S.2.1 d_Wy_add_40 ?_
    refine m_pi S M (j := 2) ok_Wy (lt_Y0 hw) (tb_Y0 hw) (by decide) rfl kw_33 rfl rfl rfl d_Wy_add_41 h (fun σ3 H locs h M => ?_)
    subst hQ; exact m_vret S hr hlk M (Option.some.inj h) d_Wy_add_44
theorem d_Wy_arcAt_0 : decode prog_9_method_4_code 0 = .ok (.iload_n 1, 1) := by decide +kernel
theorem d_Wy_arcAt_1 : decode prog_9_method_4_code 1 = .ok (.ifCond .lt 20, 3) := by decide +kernel
theorem d_Wy_arcAt_4 : decode prog_9_method_4_code 4 = .ok (.iload_n 1, 1) := by decide +kernel
theorem d_Wy_arcAt_5 : decode prog_9_method_4_code 5 = .ok (.aload_n 0, 1) := by decide +kernel
theorem d_Wy_arcAt_6 : decode prog_9_method_4_code 6 = .ok (.getfield 15, 3) := by decide +kernel
theorem d_Wy_arcAt_9 : decode prog_9_method_4_code 9 = .ok (.if_icmp .ge 12, 3) := by decide +kernel
theorem d_Wy_arcAt_12 : decode prog_9_method_4_code 12 = .ok (.aload_n 0, 1) := by decide +kernel
theorem d_Wy_arcAt_13 : decode prog_9_method_4_code 13 = .ok (.getfield 9, 3) := by decide +kernel
theorem d_Wy_arcAt_16 : decode prog_9_method_4_code 16 = .ok (.iload_n 1, 1) := by decide +kernel
theorem d_Wy_arcAt_17 : decode prog_9_method_4_code 17 = .ok (.iaload, 1) := by decide +kernel
theorem d_Wy_arcAt_18 : decode prog_9_method_4_code 18 = .ok (.goto 4, 3) := by decide +kernel
theorem d_Wy_arcAt_21 : decode prog_9_method_4_code 21 = .ok (.iconst (-1), 1) := by decide +kernel
theorem d_Wy_arcAt_22 : decode prog_9_method_4_code 22 = .ok (.ireturn, 1) := by decide +kernel
def rm_Wy_arcAt : Room := { frames := 0, cells := 0, slots := 0, locals := 0 }
def f_Wy_arcAt (w : Nat) (σ : mS) (x1 : Int32) : Option (Int32) :=
  if x1 < 0 then (
  some ((-1))) else (
  if (σ.1 w 1) ≤ x1 then (
  some ((-1))) else (
  gd (inb x1 10) (
  some (σ.1 ((w + 1)) x1.toNatClampNeg))))
set_option maxHeartbeats 4000000 in
set_option maxRecDepth 100000 in
theorem c_Wy_arcAt (l : Launch) (D : va_G) (cA ad : Nat → Nat) {w : Nat} (hw : wy w = true) (σ : mS) (x1 : Int32) (o : Int32) (h : f_Wy_arcAt w σ x1 = some o) : mCi l ⟨"LeastPaths$Way", "arcAt", "(I)I"⟩ (Cond.code ⟨"LeastPaths$Way", "arcAt", "(I)I"⟩ prog_9_method_4_code 2 (Option.some Jvm.ClassFile.FieldType.int) :: tlG) rm_Wy_arcAt D clX (tyK cA) 99 (tbX cA) ad σ [.ref (ad w), .int x1] (o, σ) := by
  intro sz
  refine m_of (cc := prog_9_method_4_code) (maxL := 2) (Qc := mQi D clX (tyK cA) 99 (tbX cA) ad (o, σ)) (by decide) (Nat.le_of_ble_eq_true rfl) (fun p e s m args below meth c ls S hr hlk hnm hl M => ?_) sz
  have hl : lv_has ls 2 [(0, .ref (ad w)), (1, .int x1)] := hl
  generalize hQ : MQ _ _ _ _ _ _ _ = Q
  skip
  unfold f_Wy_arcAt at h
  refine lv_iload_n S.1 S.2.1 d_Wy_arcAt_0 rfl (lv_at hl 1 rfl) ?_
  refine m_iflt (tgt := 21) S d_Wy_arcAt_1 (by decide) h (fun h => ?_) (fun h => ?_)
  · refine lv_iconst (v := (-1)) S.1 S.2.1 d_Wy_arcAt_21 (by decide) ?_
    subst hQ; exact m_iret S hr hlk M (by rw [Option.some.inj h]) d_Wy_arcAt_22
  · refine lv_iload_n S.1 S.2.1 d_Wy_arcAt_4 rfl (lv_at hl 1 rfl) ?_
    refine lv_aload_n S.1 S.2.1 d_Wy_arcAt_5 rfl (lv_at hl 0 rfl) ?_
    refine m_gi S M (j := 1) ok_Wy (lt_Y0 hw) (tb_Y0 hw) (by decide) rfl kw_32 rfl d_Wy_arcAt_6 ?_
    refine m_ige (tgt := 21) S d_Wy_arcAt_9 (by decide) h (fun h => ?_) (fun h => ?_)
    · refine lv_iconst (v := (-1)) S.1 S.2.1 d_Wy_arcAt_21 (by decide) ?_
      subst hQ; exact m_iret S hr hlk M (by rw [Option.some.inj h]) d_Wy_arcAt_22
    · refine lv_aload_n S.1 S.2.1 d_Wy_arcAt_12 rfl (lv_at hl 0 rfl) ?_
      refine m_gs (t := (w + 1)) S M (j := 0) ok_Wy (lt_Y0 hw) (tb_Y0 hw) (by decide) rfl kw_36 rfl d_Wy_arcAt_13 ?_
      refine lv_iload_n S.1 S.2.1 d_Wy_arcAt_16 rfl (lv_at hl 1 rfl) ?_
      refine m_ial (t0 := 0) S M (lt_Y1 hw) (tb_Y1 hw) rfl h d_Wy_arcAt_17 (fun h => ?_)
      refine lv_goto (tgt := 22) S.1 S.2.1 d_Wy_arcAt_18 (by decide) ?_
      subst hQ; exact m_iret S hr hlk M (by rw [Option.some.inj h]) d_Wy_arcAt_22
theorem d_Wy_isBefore_0 : decode prog_9_method_5_code 0 = .ok (.aload_n 0, 1) := by decide +kernel
theorem d_Wy_isBefore_1 : decode prog_9_method_5_code 1 = .ok (.getfield 19, 3) := by decide +kernel
theorem d_Wy_isBefore_4 : decode prog_9_method_5_code 4 = .ok (.aload_n 1, 1) := by decide +kernel
theorem d_Wy_isBefore_5 : decode prog_9_method_5_code 5 = .ok (.getfield 19, 3) := by decide +kernel
theorem d_Wy_isBefore_8 : decode prog_9_method_5_code 8 = .ok (.if_icmp .eq 20, 3) := by decide +kernel
theorem d_Wy_isBefore_11 : decode prog_9_method_5_code 11 = .ok (.aload_n 0, 1) := by decide +kernel
theorem d_Wy_isBefore_12 : decode prog_9_method_5_code 12 = .ok (.getfield 19, 3) := by decide +kernel
theorem d_Wy_isBefore_15 : decode prog_9_method_5_code 15 = .ok (.aload_n 1, 1) := by decide +kernel
theorem d_Wy_isBefore_16 : decode prog_9_method_5_code 16 = .ok (.getfield 19, 3) := by decide +kernel
theorem d_Wy_isBefore_19 : decode prog_9_method_5_code 19 = .ok (.if_icmp .ge 7, 3) := by decide +kernel
theorem d_Wy_isBefore_22 : decode prog_9_method_5_code 22 = .ok (.iconst 1, 1) := by decide +kernel
theorem d_Wy_isBefore_23 : decode prog_9_method_5_code 23 = .ok (.goto 4, 3) := by decide +kernel
theorem d_Wy_isBefore_26 : decode prog_9_method_5_code 26 = .ok (.iconst 0, 1) := by decide +kernel
theorem d_Wy_isBefore_27 : decode prog_9_method_5_code 27 = .ok (.ireturn, 1) := by decide +kernel
theorem d_Wy_isBefore_28 : decode prog_9_method_5_code 28 = .ok (.iconst 0, 1) := by decide +kernel
theorem d_Wy_isBefore_29 : decode prog_9_method_5_code 29 = .ok (.istore_n 2, 1) := by decide +kernel
theorem d_Wy_isBefore_30 : decode prog_9_method_5_code 30 = .ok (.iload_n 2, 1) := by decide +kernel
theorem d_Wy_isBefore_31 : decode prog_9_method_5_code 31 = .ok (.aload_n 0, 1) := by decide +kernel
theorem d_Wy_isBefore_32 : decode prog_9_method_5_code 32 = .ok (.getfield 15, 3) := by decide +kernel
theorem d_Wy_isBefore_35 : decode prog_9_method_5_code 35 = .ok (.if_icmp .ge 45, 3) := by decide +kernel
theorem d_Wy_isBefore_38 : decode prog_9_method_5_code 38 = .ok (.aload_n 0, 1) := by decide +kernel
theorem d_Wy_isBefore_39 : decode prog_9_method_5_code 39 = .ok (.getfield 9, 3) := by decide +kernel
theorem d_Wy_isBefore_42 : decode prog_9_method_5_code 42 = .ok (.iload_n 2, 1) := by decide +kernel
theorem d_Wy_isBefore_43 : decode prog_9_method_5_code 43 = .ok (.iaload, 1) := by decide +kernel
theorem d_Wy_isBefore_44 : decode prog_9_method_5_code 44 = .ok (.aload_n 1, 1) := by decide +kernel
theorem d_Wy_isBefore_45 : decode prog_9_method_5_code 45 = .ok (.getfield 9, 3) := by decide +kernel
theorem d_Wy_isBefore_48 : decode prog_9_method_5_code 48 = .ok (.iload_n 2, 1) := by decide +kernel
theorem d_Wy_isBefore_49 : decode prog_9_method_5_code 49 = .ok (.iaload, 1) := by decide +kernel
theorem d_Wy_isBefore_50 : decode prog_9_method_5_code 50 = .ok (.if_icmp .eq 24, 3) := by decide +kernel
theorem d_Wy_isBefore_53 : decode prog_9_method_5_code 53 = .ok (.aload_n 0, 1) := by decide +kernel
theorem d_Wy_isBefore_54 : decode prog_9_method_5_code 54 = .ok (.getfield 9, 3) := by decide +kernel
theorem d_Wy_isBefore_57 : decode prog_9_method_5_code 57 = .ok (.iload_n 2, 1) := by decide +kernel
theorem d_Wy_isBefore_58 : decode prog_9_method_5_code 58 = .ok (.iaload, 1) := by decide +kernel
theorem d_Wy_isBefore_59 : decode prog_9_method_5_code 59 = .ok (.aload_n 1, 1) := by decide +kernel
theorem d_Wy_isBefore_60 : decode prog_9_method_5_code 60 = .ok (.getfield 9, 3) := by decide +kernel
theorem d_Wy_isBefore_63 : decode prog_9_method_5_code 63 = .ok (.iload_n 2, 1) := by decide +kernel
theorem d_Wy_isBefore_64 : decode prog_9_method_5_code 64 = .ok (.iaload, 1) := by decide +kernel
theorem d_Wy_isBefore_65 : decode prog_9_method_5_code 65 = .ok (.if_icmp .ge 7, 3) := by decide +kernel
theorem d_Wy_isBefore_68 : decode prog_9_method_5_code 68 = .ok (.iconst 1, 1) := by decide +kernel
theorem d_Wy_isBefore_69 : decode prog_9_method_5_code 69 = .ok (.goto 4, 3) := by decide +kernel
theorem d_Wy_isBefore_72 : decode prog_9_method_5_code 72 = .ok (.iconst 0, 1) := by decide +kernel
theorem d_Wy_isBefore_73 : decode prog_9_method_5_code 73 = .ok (.ireturn, 1) := by decide +kernel
theorem d_Wy_isBefore_74 : decode prog_9_method_5_code 74 = .ok (.iinc 2 1, 3) := by decide +kernel
theorem d_Wy_isBefore_77 : decode prog_9_method_5_code 77 = .ok (.goto (-47), 3) := by decide +kernel
theorem d_Wy_isBefore_80 : decode prog_9_method_5_code 80 = .ok (.iconst 0, 1) := by decide +kernel
theorem d_Wy_isBefore_81 : decode prog_9_method_5_code 81 = .ok (.ireturn, 1) := by decide +kernel
def rm_Wy_isBefore : Room := { frames := 0, cells := 0, slots := 0, locals := 0 }
def f_Wy_isBefore_L30 (σ : mS) (w : Nat) (w1 : Nat) : (Int32) → Option ((Int32) ⊕ ((Int32) ⊕ (Int32))) := fun t30 =>
  if (σ.1 w 1) ≤ t30 then (
  some (.inr (.inr 0))) else (
  gd (inb t30 10) (
  gd (inb t30 10) (
  if (σ.1 ((w + 1)) t30.toNatClampNeg) = (σ.1 ((w1 + 1)) t30.toNatClampNeg) then (
  some (.inl (t30 + 1))) else (
  some (.inr (.inl (t30)))))))
def f_Wy_isBefore (w : Nat) (σ : mS) (w1 : Nat) : Option (Int32) :=
  if (σ.1 w 2) = (σ.1 w1 2) then (
  (lpN (f_Wy_isBefore_L30 σ w w1) fuS (0)).bind fun u30 => Sum.elim (fun e30 =>
  gd (inb e30 10) (
  gd (inb e30 10) (
  if (σ.1 ((w1 + 1)) e30.toNatClampNeg) ≤ (σ.1 ((w + 1)) e30.toNatClampNeg) then (
  some 0) else (
  some 1))))
  (fun y30 => some y30) u30) else (
  if (σ.1 w1 2) ≤ (σ.1 w 2) then (
  some 0) else (
  some 1))
set_option maxHeartbeats 4000000 in
set_option maxRecDepth 100000 in
theorem c_Wy_isBefore (l : Launch) (D : va_G) (cA ad : Nat → Nat) {w : Nat} (hw : wy w = true) {w1 : Nat} (hw1 : wy w1 = true) (σ : mS) (o : Int32) (h : f_Wy_isBefore w σ w1 = some o) : mCi l ⟨"LeastPaths$Way", "isBefore", "(LLeastPaths$Way;)Z"⟩ (Cond.code ⟨"LeastPaths$Way", "isBefore", "(LLeastPaths$Way;)Z"⟩ prog_9_method_5_code 3 (Option.some Jvm.ClassFile.FieldType.boolean) :: tlG) rm_Wy_isBefore D clX (tyK cA) 99 (tbX cA) ad σ [.ref (ad w), .ref (ad w1)] (o, σ) := by
  intro sz
  refine m_of (cc := prog_9_method_5_code) (maxL := 3) (Qc := mQi D clX (tyK cA) 99 (tbX cA) ad (o, σ)) (by decide) (Nat.le_of_ble_eq_true rfl) (fun p e s m args below meth c ls S hr hlk hnm hl M => ?_) sz
  have hl : lv_has ls 3 [(0, .ref (ad w)), (1, .ref (ad w1))] := hl
  generalize hQ : MQ _ _ _ _ _ _ _ = Q
  skip
  unfold f_Wy_isBefore at h
  refine lv_aload_n S.1 S.2.1 d_Wy_isBefore_0 rfl (lv_at hl 0 rfl) ?_
  refine m_gi S M (j := 2) ok_Wy (lt_Y0 hw) (tb_Y0 hw) (by decide) rfl kw_33 rfl d_Wy_isBefore_1 ?_
  refine lv_aload_n S.1 S.2.1 d_Wy_isBefore_4 rfl (lv_at hl 1 rfl) ?_
  refine m_gi S M (j := 2) ok_Wy (lt_Y0 hw1) (tb_Y0 hw1) (by decide) rfl kw_33 rfl d_Wy_isBefore_5 ?_
  refine m_ieq (tgt := 28) S d_Wy_isBefore_8 (by decide) h (fun h => ?_) (fun h => ?_)
  · refine lv_iconst (v := 0) S.1 S.2.1 d_Wy_isBefore_28 (by decide) ?_
    refine lv_istore_n (lv' := [(2, .int 0), (0, .ref (ad w)), (1, .ref (ad w1))]) S.1 S.2.1 d_Wy_isBefore_29 rfl hl (by decide) rfl (fun ls hl => ?_)
    obtain ⟨u30, q30, h⟩ := Option.bind_eq_some_iff.mp h
    refine lpN_W2 (st := f_Wy_isBefore_L30 σ w w1) (fun (t30 : Int32) => ∀ (ls : Array Slot) (H : Heap) (locs : List Loc), lv_has ls 3 [(2, .int t30), (0, .ref (ad w)), (1, .ref (ad w1))] → mM D clX (tyK cA) (mA 99 ad s.heap.size) s 99 (tbX cA) ad σ H locs → W p l e rm_Wy_isBefore s m args below meth c H locs 0 0 Q (F0 m 30 ls [])) (fun (e30 : Int32) => ∀ (ls : Array Slot) (H : Heap) (locs : List Loc), lv_has ls 3 [(2, .int e30), (0, .ref (ad w)), (1, .ref (ad w1))] → mM D clX (tyK cA) (mA 99 ad s.heap.size) s 99 (tbX cA) ad σ H locs → W p l e rm_Wy_isBefore s m args below meth c H locs 0 0 Q (F0 m 53 ls [])) (fun (y30 : Int32) => ∀ (pc : Nat) (ls : Array Slot) (H : Heap) (locs : List Loc), decode prog_9_method_5_code pc = .ok (.ireturn, 1) → isB y30 = true → mM D clX (tyK cA) (mA 99 ad s.heap.size) s 99 (tbX cA) ad σ H locs → W p l e rm_Wy_isBefore s m args below meth c H locs 0 0 Q (F0 m pc ls [.int y30])) ?_ fuS ((0) : Int32) u30 q30 ?_ ?_ ls _ _ (lv_sub hl [0, 1, 2] rfl) M
    · intro t30 oo30 h K1 K2 K3 ls H locs hl M
      unfold f_Wy_isBefore_L30 at h
      refine lv_iload_n S.1 S.2.1 d_Wy_isBefore_30 rfl (lv_at hl 0 rfl) ?_
      refine lv_aload_n S.1 S.2.1 d_Wy_isBefore_31 rfl (lv_at hl 1 rfl) ?_
      refine m_gi S M (j := 1) ok_Wy (lt_Y0 hw) (tb_Y0 hw) (by decide) rfl kw_32 rfl d_Wy_isBefore_32 ?_
      refine m_ige (tgt := 80) S d_Wy_isBefore_35 (by decide) h (fun h => ?_) (fun h => ?_)
      · refine lv_iconst (v := 0) S.1 S.2.1 d_Wy_isBefore_80 (by decide) ?_
        exact K3 _ (Option.some.inj h).symm _ ls _ _ d_Wy_isBefore_81 rfl M
      · refine lv_aload_n S.1 S.2.1 d_Wy_isBefore_38 rfl (lv_at hl 1 rfl) ?_
        refine m_gs (t := (w + 1)) S M (j := 0) ok_Wy (lt_Y0 hw) (tb_Y0 hw) (by decide) rfl kw_36 rfl d_Wy_isBefore_39 ?_
        refine lv_iload_n S.1 S.2.1 d_Wy_isBefore_42 rfl (lv_at hl 0 rfl) ?_
        refine m_ial (t0 := 0) S M (lt_Y1 hw) (tb_Y1 hw) rfl h d_Wy_isBefore_43 (fun h => ?_)
        refine lv_aload_n S.1 S.2.1 d_Wy_isBefore_44 rfl (lv_at hl 2 rfl) ?_
        refine m_gs (t := (w1 + 1)) S M (j := 0) ok_Wy (lt_Y0 hw1) (tb_Y0 hw1) (by decide) rfl kw_36 rfl d_Wy_isBefore_45 ?_
        refine lv_iload_n S.1 S.2.1 d_Wy_isBefore_48 rfl (lv_at hl 0 rfl) ?_
        refine m_ial (t0 := 0) S M (lt_Y1 hw1) (tb_Y1 hw1) rfl h d_Wy_isBefore_49 (fun h => ?_)
        refine m_ieq (tgt := 74) S d_Wy_isBefore_50 (by decide) h (fun h => ?_) (fun h => ?_)
        · refine lv_iinc (v := t30 + 1) (lv' := [(2, .int (t30 + 1)), (0, .ref (ad w)), (1, .ref (ad w1))]) S.1 S.2.1 d_Wy_isBefore_74 hl (k := 0) rfl rfl (by decide) rfl (fun ls hl => ?_)
          refine lv_goto (tgt := 30) S.1 S.2.1 d_Wy_isBefore_77 (by decide) ?_
          exact K1 _ (Option.some.inj h).symm ls _ _ (lv_sub hl [0, 1, 2] rfl) M
        · exact K2 _ (Option.some.inj h).symm ls _ _ (lv_sub hl [0, 1, 2] rfl) M
    · intro e30 q ls H locs hl M
      subst q
      dsimp only [Sum.elim_inl] at h
      refine lv_aload_n S.1 S.2.1 d_Wy_isBefore_53 rfl (lv_at hl 1 rfl) ?_
      refine m_gs (t := (w + 1)) S M (j := 0) ok_Wy (lt_Y0 hw) (tb_Y0 hw) (by decide) rfl kw_36 rfl d_Wy_isBefore_54 ?_
      refine lv_iload_n S.1 S.2.1 d_Wy_isBefore_57 rfl (lv_at hl 0 rfl) ?_
      refine m_ial (t0 := 0) S M (lt_Y1 hw) (tb_Y1 hw) rfl h d_Wy_isBefore_58 (fun h => ?_)
      refine lv_aload_n S.1 S.2.1 d_Wy_isBefore_59 rfl (lv_at hl 2 rfl) ?_
      refine m_gs (t := (w1 + 1)) S M (j := 0) ok_Wy (lt_Y0 hw1) (tb_Y0 hw1) (by decide) rfl kw_36 rfl d_Wy_isBefore_60 ?_
      refine lv_iload_n S.1 S.2.1 d_Wy_isBefore_63 rfl (lv_at hl 0 rfl) ?_
      refine m_ial (t0 := 0) S M (lt_Y1 hw1) (tb_Y1 hw1) rfl h d_Wy_isBefore_64 (fun h => ?_)
      refine m_ige (tgt := 72) S d_Wy_isBefore_65 (by decide) h (fun h => ?_) (fun h => ?_)
      · refine lv_iconst (v := 0) S.1 S.2.1 d_Wy_isBefore_72 (by decide) ?_
        subst hQ; exact m_zret S hr hlk M (by rw [Option.some.inj h]) rfl d_Wy_isBefore_73
      · refine lv_iconst (v := 1) S.1 S.2.1 d_Wy_isBefore_68 (by decide) ?_
        refine lv_goto (tgt := 73) S.1 S.2.1 d_Wy_isBefore_69 (by decide) ?_
        subst hQ; exact m_zret S hr hlk M (by rw [Option.some.inj h]) rfl d_Wy_isBefore_73
    · intro y30 q
      subst q
      dsimp only [Sum.elim_inr] at h
      intro pc ls H locs hd hB M
      subst hQ; exact m_zret S hr hlk M (by rw [Option.some.inj h]) hB hd
  · refine lv_aload_n S.1 S.2.1 d_Wy_isBefore_11 rfl (lv_at hl 0 rfl) ?_
    refine m_gi S M (j := 2) ok_Wy (lt_Y0 hw) (tb_Y0 hw) (by decide) rfl kw_33 rfl d_Wy_isBefore_12 ?_
    refine lv_aload_n S.1 S.2.1 d_Wy_isBefore_15 rfl (lv_at hl 1 rfl) ?_
    refine m_gi S M (j := 2) ok_Wy (lt_Y0 hw1) (tb_Y0 hw1) (by decide) rfl kw_33 rfl d_Wy_isBefore_16 ?_
    refine m_ige (tgt := 26) S d_Wy_isBefore_19 (by decide) h (fun h => ?_) (fun h => ?_)
    · refine lv_iconst (v := 0) S.1 S.2.1 d_Wy_isBefore_26 (by decide) ?_
      subst hQ; exact m_zret S hr hlk M (by rw [Option.some.inj h]) rfl d_Wy_isBefore_27
    · refine lv_iconst (v := 1) S.1 S.2.1 d_Wy_isBefore_22 (by decide) ?_
      refine lv_goto (tgt := 27) S.1 S.2.1 d_Wy_isBefore_23 (by decide) ?_
      subst hQ; exact m_zret S hr hlk M (by rw [Option.some.inj h]) rfl d_Wy_isBefore_27
