theorem d_Tr_knows_0 : decode prog_7_method_2_code 0 = .ok (.aload_n 0, 1) := by decide +kernel
theorem d_Tr_knows_1 : decode prog_7_method_2_code 1 = .ok (.getfield 15, 3) := by decide +kernel
theorem d_Tr_knows_4 : decode prog_7_method_2_code 4 = .ok (.iload_n 1, 1) := by decide +kernel
theorem d_Tr_knows_5 : decode prog_7_method_2_code 5 = .ok (.laload, 1) := by decide +kernel
theorem d_Tr_knows_6 : decode prog_7_method_2_code 6 = .ok (.lconst 0, 1) := by decide +kernel
theorem d_Tr_knows_7 : decode prog_7_method_2_code 7 = .ok (.lcmp, 1) := by decide +kernel
theorem d_Tr_knows_8 : decode prog_7_method_2_code 8 = .ok (.ifCond .eq 7, 3) := by decide +kernel
theorem d_Tr_knows_11 : decode prog_7_method_2_code 11 = .ok (.iconst 1, 1) := by decide +kernel
theorem d_Tr_knows_12 : decode prog_7_method_2_code 12 = .ok (.goto 4, 3) := by decide +kernel
theorem d_Tr_knows_15 : decode prog_7_method_2_code 15 = .ok (.iconst 0, 1) := by decide +kernel
theorem d_Tr_knows_16 : decode prog_7_method_2_code 16 = .ok (.ireturn, 1) := by decide +kernel
def rm_Tr_knows : Room := { frames := 0, cells := 0, slots := 0, locals := 0 }
def f_Tr_knows (σ : mS) (x1 : Int32) : Option (Int32) :=
  gd (inb x1 10) (
  if (lg_cmp (σ.2.1 98 x1.toNatClampNeg) 0) = 0 then (
  some 0) else (
  some 1))
set_option maxHeartbeats 4000000 in
set_option maxRecDepth 100000 in
theorem c_Tr_knows (l : Launch) (D : va_G) (cA ad : Nat → Nat) (σ : mS) (x1 : Int32) (o : Int32) (h : f_Tr_knows σ x1 = some o) : mCi l ⟨"LeastPaths$Trusts", "knows", "(I)Z"⟩ (Cond.code ⟨"LeastPaths$Trusts", "knows", "(I)Z"⟩ prog_7_method_2_code 2 (Option.some Jvm.ClassFile.FieldType.boolean) :: tlG) rm_Tr_knows D clX (tyK cA) 99 (tbX cA) ad σ [.ref (ad 96), .int x1] (o, σ) := by
  intro sz
  refine m_of (cc := prog_7_method_2_code) (maxL := 2) (Qc := mQi D clX (tyK cA) 99 (tbX cA) ad (o, σ)) (by decide) (Nat.le_of_ble_eq_true rfl) (fun p e s m args below meth c ls S hr hlk hnm hl M => ?_) sz
  have hl : lv_has ls 2 [(0, .ref (ad 96)), (1, .int x1)] := hl
  generalize hQ : MQ _ _ _ _ _ _ _ = Q
  skip
  unfold f_Tr_knows at h
  refine lv_aload_n S.1 S.2.1 d_Tr_knows_0 rfl (lv_at hl 0 rfl) ?_
  refine m_gs (t := 98) S M (j := 2) ok_Tr (by decide) rfl (by decide) rfl kw_170 rfl d_Tr_knows_1 ?_
  refine lv_iload_n S.1 S.2.1 d_Tr_knows_4 rfl (lv_at hl 1 rfl) ?_
  refine m_lal (t0 := 1) S M (by decide) rfl rfl h d_Tr_knows_5 (fun h => ?_)
  refine lv_lconst (v := 0) S.1 S.2.1 d_Tr_knows_6 (by decide) ?_
  refine W.lcmp S.1 S.2.1 d_Tr_knows_7 ?_
  refine m_ifeq (tgt := 15) S d_Tr_knows_8 (by decide) h (fun h => ?_) (fun h => ?_)
  · refine lv_iconst (v := 0) S.1 S.2.1 d_Tr_knows_15 (by decide) ?_
    subst hQ; exact m_zret S hr hlk M (by rw [Option.some.inj h]) rfl d_Tr_knows_16
  · refine lv_iconst (v := 1) S.1 S.2.1 d_Tr_knows_11 (by decide) ?_
    refine lv_goto (tgt := 16) S.1 S.2.1 d_Tr_knows_12 (by decide) ?_
    subst hQ; exact m_zret S hr hlk M (by rw [Option.some.inj h]) rfl d_Tr_knows_16
theorem d_Tr_pass_0 : decode prog_7_method_4_code 0 = .ok (.aload_n 0, 1) := by decide +kernel
theorem d_Tr_pass_1 : decode prog_7_method_4_code 1 = .ok (.getfield 18, 3) := by decide +kernel
theorem d_Tr_pass_4 : decode prog_7_method_4_code 4 = .ok (.getfield 46, 3) := by decide +kernel
theorem d_Tr_pass_7 : decode prog_7_method_4_code 7 = .ok (.iload_n 1, 1) := by decide +kernel
theorem d_Tr_pass_8 : decode prog_7_method_4_code 8 = .ok (.iaload, 1) := by decide +kernel
theorem d_Tr_pass_9 : decode prog_7_method_4_code 9 = .ok (.istore_n 2, 1) := by decide +kernel
theorem d_Tr_pass_10 : decode prog_7_method_4_code 10 = .ok (.aload_n 0, 1) := by decide +kernel
theorem d_Tr_pass_11 : decode prog_7_method_4_code 11 = .ok (.getfield 9, 3) := by decide +kernel
theorem d_Tr_pass_14 : decode prog_7_method_4_code 14 = .ok (.aload_n 0, 1) := by decide +kernel
theorem d_Tr_pass_15 : decode prog_7_method_4_code 15 = .ok (.getfield 18, 3) := by decide +kernel
theorem d_Tr_pass_18 : decode prog_7_method_4_code 18 = .ok (.getfield 35, 3) := by decide +kernel
theorem d_Tr_pass_21 : decode prog_7_method_4_code 21 = .ok (.iload_n 1, 1) := by decide +kernel
theorem d_Tr_pass_22 : decode prog_7_method_4_code 22 = .ok (.iaload, 1) := by decide +kernel
theorem d_Tr_pass_23 : decode prog_7_method_4_code 23 = .ok (.laload, 1) := by decide +kernel
theorem d_Tr_pass_24 : decode prog_7_method_4_code 24 = .ok (.aload_n 0, 1) := by decide +kernel
theorem d_Tr_pass_25 : decode prog_7_method_4_code 25 = .ok (.getfield 18, 3) := by decide +kernel
theorem d_Tr_pass_28 : decode prog_7_method_4_code 28 = .ok (.getfield 49, 3) := by decide +kernel
theorem d_Tr_pass_31 : decode prog_7_method_4_code 31 = .ok (.iload_n 1, 1) := by decide +kernel
theorem d_Tr_pass_32 : decode prog_7_method_4_code 32 = .ok (.iaload, 1) := by decide +kernel
theorem d_Tr_pass_33 : decode prog_7_method_4_code 33 = .ok (.i2l, 1) := by decide +kernel
theorem d_Tr_pass_34 : decode prog_7_method_4_code 34 = .ok (.lmul, 1) := by decide +kernel
theorem d_Tr_pass_35 : decode prog_7_method_4_code 35 = .ok (.lstore_n 3, 1) := by decide +kernel
theorem d_Tr_pass_36 : decode prog_7_method_4_code 36 = .ok (.aload_n 0, 1) := by decide +kernel
theorem d_Tr_pass_37 : decode prog_7_method_4_code 37 = .ok (.getfield 15, 3) := by decide +kernel
theorem d_Tr_pass_40 : decode prog_7_method_4_code 40 = .ok (.aload_n 0, 1) := by decide +kernel
theorem d_Tr_pass_41 : decode prog_7_method_4_code 41 = .ok (.getfield 18, 3) := by decide +kernel
theorem d_Tr_pass_44 : decode prog_7_method_4_code 44 = .ok (.getfield 35, 3) := by decide +kernel
theorem d_Tr_pass_47 : decode prog_7_method_4_code 47 = .ok (.iload_n 1, 1) := by decide +kernel
theorem d_Tr_pass_48 : decode prog_7_method_4_code 48 = .ok (.iaload, 1) := by decide +kernel
theorem d_Tr_pass_49 : decode prog_7_method_4_code 49 = .ok (.laload, 1) := by decide +kernel
theorem d_Tr_pass_50 : decode prog_7_method_4_code 50 = .ok (.aload_n 0, 1) := by decide +kernel
theorem d_Tr_pass_51 : decode prog_7_method_4_code 51 = .ok (.getfield 18, 3) := by decide +kernel
theorem d_Tr_pass_54 : decode prog_7_method_4_code 54 = .ok (.getfield 51, 3) := by decide +kernel
theorem d_Tr_pass_57 : decode prog_7_method_4_code 57 = .ok (.iload_n 1, 1) := by decide +kernel
theorem d_Tr_pass_58 : decode prog_7_method_4_code 58 = .ok (.iaload, 1) := by decide +kernel
theorem d_Tr_pass_59 : decode prog_7_method_4_code 59 = .ok (.i2l, 1) := by decide +kernel
theorem d_Tr_pass_60 : decode prog_7_method_4_code 60 = .ok (.lmul, 1) := by decide +kernel
theorem d_Tr_pass_61 : decode prog_7_method_4_code 61 = .ok (.lstore 5, 2) := by decide +kernel
theorem d_Tr_pass_63 : decode prog_7_method_4_code 63 = .ok (.aload_n 0, 1) := by decide +kernel
theorem d_Tr_pass_64 : decode prog_7_method_4_code 64 = .ok (.iload_n 2, 1) := by decide +kernel
theorem d_Tr_pass_65 : decode prog_7_method_4_code 65 = .ok (.invokevirtual 39, 3) := by decide +kernel
theorem d_Tr_pass_68 : decode prog_7_method_4_code 68 = .ok (.ifCond .eq 24, 3) := by decide +kernel
theorem d_Tr_pass_71 : decode prog_7_method_4_code 71 = .ok (.lload_n 3, 1) := by decide +kernel
theorem d_Tr_pass_72 : decode prog_7_method_4_code 72 = .ok (.aload_n 0, 1) := by decide +kernel
theorem d_Tr_pass_73 : decode prog_7_method_4_code 73 = .ok (.getfield 15, 3) := by decide +kernel
theorem d_Tr_pass_76 : decode prog_7_method_4_code 76 = .ok (.iload_n 2, 1) := by decide +kernel
theorem d_Tr_pass_77 : decode prog_7_method_4_code 77 = .ok (.laload, 1) := by decide +kernel
theorem d_Tr_pass_78 : decode prog_7_method_4_code 78 = .ok (.lmul, 1) := by decide +kernel
theorem d_Tr_pass_79 : decode prog_7_method_4_code 79 = .ok (.aload_n 0, 1) := by decide +kernel
theorem d_Tr_pass_80 : decode prog_7_method_4_code 80 = .ok (.getfield 9, 3) := by decide +kernel
theorem d_Tr_pass_83 : decode prog_7_method_4_code 83 = .ok (.iload_n 2, 1) := by decide +kernel
theorem d_Tr_pass_84 : decode prog_7_method_4_code 84 = .ok (.laload, 1) := by decide +kernel
theorem d_Tr_pass_85 : decode prog_7_method_4_code 85 = .ok (.lload 5, 2) := by decide +kernel
theorem d_Tr_pass_87 : decode prog_7_method_4_code 87 = .ok (.lmul, 1) := by decide +kernel
theorem d_Tr_pass_88 : decode prog_7_method_4_code 88 = .ok (.lcmp, 1) := by decide +kernel
theorem d_Tr_pass_89 : decode prog_7_method_4_code 89 = .ok (.ifCond .le 18, 3) := by decide +kernel
theorem d_Tr_pass_92 : decode prog_7_method_4_code 92 = .ok (.aload_n 0, 1) := by decide +kernel
theorem d_Tr_pass_93 : decode prog_7_method_4_code 93 = .ok (.getfield 9, 3) := by decide +kernel
theorem d_Tr_pass_96 : decode prog_7_method_4_code 96 = .ok (.iload_n 2, 1) := by decide +kernel
theorem d_Tr_pass_97 : decode prog_7_method_4_code 97 = .ok (.lload_n 3, 1) := by decide +kernel
theorem d_Tr_pass_98 : decode prog_7_method_4_code 98 = .ok (.lastore, 1) := by decide +kernel
theorem d_Tr_pass_99 : decode prog_7_method_4_code 99 = .ok (.aload_n 0, 1) := by decide +kernel
theorem d_Tr_pass_100 : decode prog_7_method_4_code 100 = .ok (.getfield 15, 3) := by decide +kernel
theorem d_Tr_pass_103 : decode prog_7_method_4_code 103 = .ok (.iload_n 2, 1) := by decide +kernel
theorem d_Tr_pass_104 : decode prog_7_method_4_code 104 = .ok (.lload 5, 2) := by decide +kernel
theorem d_Tr_pass_106 : decode prog_7_method_4_code 106 = .ok (.lastore, 1) := by decide +kernel
theorem d_Tr_pass_107 : decode prog_7_method_4_code 107 = .ok (.return_, 1) := by decide +kernel
def rm_Tr_pass : Room := { frames := 1, cells := 0, slots := 0, locals := 21 }
def f_Tr_pass (σ : mS) (x1 : Int32) : Option (mS) :=
  gd (inb x1 40) (
  nm (σ.1 3 x1.toNatClampNeg) fun v1 =>
  gd (inb x1 40) (
  gd (inb (σ.1 2 x1.toNatClampNeg) 10) (
  gd (inb x1 40) (
  nm ((σ.2.1 97 (σ.1 2 x1.toNatClampNeg).toNatClampNeg) * ((σ.1 5 x1.toNatClampNeg).toInt64)) fun v2 =>
  gd (inb x1 40) (
  gd (inb (σ.1 2 x1.toNatClampNeg) 10) (
  gd (inb x1 40) (
  nm ((σ.2.1 98 (σ.1 2 x1.toNatClampNeg).toNatClampNeg) * ((σ.1 6 x1.toNatClampNeg).toInt64)) fun v3 =>
  (f_Tr_knows σ v1).bind fun v4 =>
  if v4 = 0 then (
  gd (inb v1 10) ((nm (sJ σ 97 v1.toNatClampNeg v2) fun σ5 =>
  gd (inb v1 10) ((nm (sJ σ5 98 v1.toNatClampNeg v3) fun σ6 =>
  some σ6))))) else (
  gd (inb v1 10) (
  gd (inb v1 10) (
  if (lg_cmp (v2 * (σ.2.1 98 v1.toNatClampNeg)) ((σ.2.1 97 v1.toNatClampNeg) * v3)) ≤ 0 then (
  some σ) else (
  gd (inb v1 10) ((nm (sJ σ 97 v1.toNatClampNeg v2) fun σ7 =>
  gd (inb v1 10) ((nm (sJ σ7 98 v1.toNatClampNeg v3) fun σ8 =>
  some σ8)))))))))))))))
set_option maxHeartbeats 4000000 in
set_option maxRecDepth 100000 in
theorem c_Tr_pass (l : Launch) (D : va_G) (cA ad : Nat → Nat) (σ : mS) (x1 : Int32) (o : mS) (h : f_Tr_pass σ x1 = some o) : mCv l ⟨"LeastPaths$Trusts", "pass", "(I)V"⟩ (Cond.code ⟨"LeastPaths$Trusts", "pass", "(I)V"⟩ prog_7_method_4_code 7 (Option.none : Option Jvm.ClassFile.FieldType) :: tlG) rm_Tr_pass D clX (tyK cA) 99 (tbX cA) ad σ [.ref (ad 96), .int x1] o := by
  intro sz
  refine m_of (cc := prog_7_method_4_code) (maxL := 7) (Qc := mQv D clX (tyK cA) 99 (tbX cA) ad o) (by decide) (Nat.le_of_ble_eq_true rfl) (fun p e s m args below meth c ls S hr hlk hnm hl M => ?_) sz
  have hl : lv_has ls 7 [(0, .ref (ad 96)), (1, .int x1)] := hl
  generalize hQ : MQ _ _ _ _ _ _ _ = Q
  skip
  unfold f_Tr_pass at h
  refine lv_aload_n S.1 S.2.1 d_Tr_pass_0 rfl (lv_at hl 0 rfl) ?_
  refine m_gs (t := 1) S M (j := 0) ok_Tr (by decide) rfl (by decide) rfl kw_171 rfl d_Tr_pass_1 ?_
  refine m_gs (t := 3) S M (j := 1) ok_Gr (by decide) rfl (by decide) rfl kw_172 rfl d_Tr_pass_4 ?_
  refine lv_iload_n S.1 S.2.1 d_Tr_pass_7 rfl (lv_at hl 1 rfl) ?_
  refine m_ial (t0 := 0) S M (by decide) rfl rfl h d_Tr_pass_8 (fun h => ?_)
  refine m_ni h (fun v1 h => ?_)
  refine lv_istore_n (lv' := [(2, .int v1), (0, .ref (ad 96)), (1, .int x1)]) S.1 S.2.1 d_Tr_pass_9 rfl hl (by decide) rfl (fun ls hl => ?_)
  refine lv_aload_n S.1 S.2.1 d_Tr_pass_10 rfl (lv_at hl 1 rfl) ?_
  refine m_gs (t := 97) S M (j := 1) ok_Tr (by decide) rfl (by decide) rfl kw_173 rfl d_Tr_pass_11 ?_
  refine lv_aload_n S.1 S.2.1 d_Tr_pass_14 rfl (lv_at hl 1 rfl) ?_
  refine m_gs (t := 1) S M (j := 0) ok_Tr (by decide) rfl (by decide) rfl kw_171 rfl d_Tr_pass_15 ?_
  refine m_gs (t := 2) S M (j := 0) ok_Gr (by decide) rfl (by decide) rfl kw_174 rfl d_Tr_pass_18 ?_
  refine lv_iload_n S.1 S.2.1 d_Tr_pass_21 rfl (lv_at hl 2 rfl) ?_
  refine m_ial (t0 := 0) S M (by decide) rfl rfl h d_Tr_pass_22 (fun h => ?_)
  refine m_lal (t0 := 1) S M (by decide) rfl rfl h d_Tr_pass_23 (fun h => ?_)
  refine lv_aload_n S.1 S.2.1 d_Tr_pass_24 rfl (lv_at hl 1 rfl) ?_
  refine m_gs (t := 1) S M (j := 0) ok_Tr (by decide) rfl (by decide) rfl kw_171 rfl d_Tr_pass_25 ?_
  refine m_gs (t := 5) S M (j := 3) ok_Gr (by decide) rfl (by decide) rfl kw_175 rfl d_Tr_pass_28 ?_
  refine lv_iload_n S.1 S.2.1 d_Tr_pass_31 rfl (lv_at hl 2 rfl) ?_
  refine m_ial (t0 := 0) S M (by decide) rfl rfl h d_Tr_pass_32 (fun h => ?_)
  refine lv_i2l S.1 S.2.1 d_Tr_pass_33 rfl ?_
  refine lv_lmul S.1 S.2.1 d_Tr_pass_34 ?_
  refine m_nl h (fun v2 h => ?_)
  refine lv_lstore_n (lv' := [(3, .long v2), (2, .int v1), (0, .ref (ad 96)), (1, .int x1)]) S.1 S.2.1 d_Tr_pass_35 rfl hl (by decide) rfl (fun ls hl => ?_)
  refine lv_aload_n S.1 S.2.1 d_Tr_pass_36 rfl (lv_at hl 2 rfl) ?_
  refine m_gs (t := 98) S M (j := 2) ok_Tr (by decide) rfl (by decide) rfl kw_170 rfl d_Tr_pass_37 ?_
  refine lv_aload_n S.1 S.2.1 d_Tr_pass_40 rfl (lv_at hl 2 rfl) ?_
  refine m_gs (t := 1) S M (j := 0) ok_Tr (by decide) rfl (by decide) rfl kw_171 rfl d_Tr_pass_41 ?_
  refine m_gs (t := 2) S M (j := 0) ok_Gr (by decide) rfl (by decide) rfl kw_174 rfl d_Tr_pass_44 ?_
  refine lv_iload_n S.1 S.2.1 d_Tr_pass_47 rfl (lv_at hl 3 rfl) ?_
  refine m_ial (t0 := 0) S M (by decide) rfl rfl h d_Tr_pass_48 (fun h => ?_)
  refine m_lal (t0 := 1) S M (by decide) rfl rfl h d_Tr_pass_49 (fun h => ?_)
  refine lv_aload_n S.1 S.2.1 d_Tr_pass_50 rfl (lv_at hl 2 rfl) ?_
  refine m_gs (t := 1) S M (j := 0) ok_Tr (by decide) rfl (by decide) rfl kw_171 rfl d_Tr_pass_51 ?_
  refine m_gs (t := 6) S M (j := 4) ok_Gr (by decide) rfl (by decide) rfl kw_176 rfl d_Tr_pass_54 ?_
  refine lv_iload_n S.1 S.2.1 d_Tr_pass_57 rfl (lv_at hl 3 rfl) ?_
  refine m_ial (t0 := 0) S M (by decide) rfl rfl h d_Tr_pass_58 (fun h => ?_)
  refine lv_i2l S.1 S.2.1 d_Tr_pass_59 rfl ?_
  refine lv_lmul S.1 S.2.1 d_Tr_pass_60 ?_
  refine m_nl h (fun v3 h => ?_)
  refine lv_lstore (lv' := [(5, .long v3), (3, .long v2), (2, .int v1), (0, .ref (ad 96)), (1, .int x1)]) S.1 S.2.1 d_Tr_pass_61 hl (by decide) rfl (fun ls hl => ?_)
  refine lv_aload_n S.1 S.2.1 d_Tr_pass_63 rfl (lv_at hl 3 rfl) ?_
  refine lv_iload_n S.1 S.2.1 d_Tr_pass_64 rfl (lv_at hl 2 rfl) ?_
  refine m_xip h (fun o ho => m_rV (As := [.int v1]) (rest := []) S M hl.1 (cwG (n := 1) S.2.2.2.2 kw_177 kw_178 kw_179 kw_180 kw_181 (by decide) ⟨Nat.le_of_ble_eq_true rfl, Nat.le_of_ble_eq_true rfl⟩) ok_Tr (by decide) rfl (c_Tr_knows l D cA ad σ v1 o ho _) rfl rfl (Nat.le_of_ble_eq_true rfl) d_Tr_pass_65 ⟨Nat.zero_le _, Nat.zero_le _⟩) M (fun v4 H locs h M => ?_)
  refine m_ifeq (tgt := 92) S d_Tr_pass_68 (by decide) h (fun h => ?_) (fun h => ?_)
  · refine lv_aload_n S.1 S.2.1 d_Tr_pass_92 rfl (lv_at hl 3 rfl) ?_
    refine m_gs (t := 97) S M (j := 1) ok_Tr (by decide) rfl (by decide) rfl kw_173 rfl d_Tr_pass_93 ?_
    refine lv_iload_n S.1 S.2.1 d_Tr_pass_96 rfl (lv_at hl 2 rfl) ?_
    refine lv_lload_n S.1 S.2.1 d_Tr_pass_97 rfl (lv_at hl 1 rfl) ?_
    refine m_las (t0 := 1) S M (by decide) rfl rfl h d_Tr_pass_98 (fun σ5 H locs h M => ?_)
    refine lv_aload_n S.1 S.2.1 d_Tr_pass_99 rfl (lv_at hl 3 rfl) ?_
    refine m_gs (t := 98) S M (j := 2) ok_Tr (by decide) rfl (by decide) rfl kw_170 rfl d_Tr_pass_100 ?_
    refine lv_iload_n S.1 S.2.1 d_Tr_pass_103 rfl (lv_at hl 2 rfl) ?_
    refine lv_lload S.1 S.2.1 d_Tr_pass_104 (lv_at hl 0 rfl) ?_
    refine m_las (t0 := 1) S M (by decide) rfl rfl h d_Tr_pass_106 (fun σ6 H locs h M => ?_)
    subst hQ; exact m_vret S hr hlk M (Option.some.inj h) d_Tr_pass_107
  · refine lv_lload_n S.1 S.2.1 d_Tr_pass_71 rfl (lv_at hl 1 rfl) ?_
    refine lv_aload_n S.1 S.2.1 d_Tr_pass_72 rfl (lv_at hl 3 rfl) ?_
    refine m_gs (t := 98) S M (j := 2) ok_Tr (by decide) rfl (by decide) rfl kw_170 rfl d_Tr_pass_73 ?_
    refine lv_iload_n S.1 S.2.1 d_Tr_pass_76 rfl (lv_at hl 2 rfl) ?_
    refine m_lal (t0 := 1) S M (by decide) rfl rfl h d_Tr_pass_77 (fun h => ?_)
    refine lv_lmul S.1 S.2.1 d_Tr_pass_78 ?_
    refine lv_aload_n S.1 S.2.1 d_Tr_pass_79 rfl (lv_at hl 3 rfl) ?_
    refine m_gs (t := 97) S M (j := 1) ok_Tr (by decide) rfl (by decide) rfl kw_173 rfl d_Tr_pass_80 ?_
    refine lv_iload_n S.1 S.2.1 d_Tr_pass_83 rfl (lv_at hl 2 rfl) ?_
    refine m_lal (t0 := 1) S M (by decide) rfl rfl h d_Tr_pass_84 (fun h => ?_)
    refine lv_lload S.1 S.2.1 d_Tr_pass_85 (lv_at hl 0 rfl) ?_
    refine lv_lmul S.1 S.2.1 d_Tr_pass_87 ?_
    refine W.lcmp S.1 S.2.1 d_Tr_pass_88 ?_
    refine m_ifle (tgt := 107) S d_Tr_pass_89 (by decide) h (fun h => ?_) (fun h => ?_)
    · subst hQ; exact m_vret S hr hlk M (Option.some.inj h) d_Tr_pass_107
    · refine lv_aload_n S.1 S.2.1 d_Tr_pass_92 rfl (lv_at hl 3 rfl) ?_
      refine m_gs (t := 97) S M (j := 1) ok_Tr (by decide) rfl (by decide) rfl kw_173 rfl d_Tr_pass_93 ?_
      refine lv_iload_n S.1 S.2.1 d_Tr_pass_96 rfl (lv_at hl 2 rfl) ?_
      refine lv_lload_n S.1 S.2.1 d_Tr_pass_97 rfl (lv_at hl 1 rfl) ?_
      refine m_las (t0 := 1) S M (by decide) rfl rfl h d_Tr_pass_98 (fun σ7 H locs h M => ?_)
      refine lv_aload_n S.1 S.2.1 d_Tr_pass_99 rfl (lv_at hl 3 rfl) ?_
      refine m_gs (t := 98) S M (j := 2) ok_Tr (by decide) rfl (by decide) rfl kw_170 rfl d_Tr_pass_100 ?_
      refine lv_iload_n S.1 S.2.1 d_Tr_pass_103 rfl (lv_at hl 2 rfl) ?_
      refine lv_lload S.1 S.2.1 d_Tr_pass_104 (lv_at hl 0 rfl) ?_
      refine m_las (t0 := 1) S M (by decide) rfl rfl h d_Tr_pass_106 (fun σ8 H locs h M => ?_)
      subst hQ; exact m_vret S hr hlk M (Option.some.inj h) d_Tr_pass_107
theorem d_Tr_spread_0 : decode prog_7_method_3_code 0 = .ok (.iconst 0, 1) := by decide +kernel
theorem d_Tr_spread_1 : decode prog_7_method_3_code 1 = .ok (.istore_n 2, 1) := by decide +kernel
theorem d_Tr_spread_2 : decode prog_7_method_3_code 2 = .ok (.iload_n 2, 1) := by decide +kernel
theorem d_Tr_spread_3 : decode prog_7_method_3_code 3 = .ok (.bipush 10, 2) := by decide +kernel
theorem d_Tr_spread_5 : decode prog_7_method_3_code 5 = .ok (.if_icmp .ge 41, 3) := by decide +kernel
theorem d_Tr_spread_8 : decode prog_7_method_3_code 8 = .ok (.aload_n 0, 1) := by decide +kernel
theorem d_Tr_spread_9 : decode prog_7_method_3_code 9 = .ok (.getfield 9, 3) := by decide +kernel
theorem d_Tr_spread_12 : decode prog_7_method_3_code 12 = .ok (.iload_n 2, 1) := by decide +kernel
theorem d_Tr_spread_13 : decode prog_7_method_3_code 13 = .ok (.iload_n 2, 1) := by decide +kernel
theorem d_Tr_spread_14 : decode prog_7_method_3_code 14 = .ok (.iload_n 1, 1) := by decide +kernel
theorem d_Tr_spread_15 : decode prog_7_method_3_code 15 = .ok (.if_icmp .ne 7, 3) := by decide +kernel
theorem d_Tr_spread_18 : decode prog_7_method_3_code 18 = .ok (.lconst 1, 1) := by decide +kernel
theorem d_Tr_spread_19 : decode prog_7_method_3_code 19 = .ok (.goto 4, 3) := by decide +kernel
theorem d_Tr_spread_22 : decode prog_7_method_3_code 22 = .ok (.lconst 0, 1) := by decide +kernel
theorem d_Tr_spread_23 : decode prog_7_method_3_code 23 = .ok (.lastore, 1) := by decide +kernel
theorem d_Tr_spread_24 : decode prog_7_method_3_code 24 = .ok (.aload_n 0, 1) := by decide +kernel
theorem d_Tr_spread_25 : decode prog_7_method_3_code 25 = .ok (.getfield 15, 3) := by decide +kernel
theorem d_Tr_spread_28 : decode prog_7_method_3_code 28 = .ok (.iload_n 2, 1) := by decide +kernel
theorem d_Tr_spread_29 : decode prog_7_method_3_code 29 = .ok (.iload_n 2, 1) := by decide +kernel
theorem d_Tr_spread_30 : decode prog_7_method_3_code 30 = .ok (.iload_n 1, 1) := by decide +kernel
theorem d_Tr_spread_31 : decode prog_7_method_3_code 31 = .ok (.if_icmp .ne 7, 3) := by decide +kernel
theorem d_Tr_spread_34 : decode prog_7_method_3_code 34 = .ok (.lconst 1, 1) := by decide +kernel
theorem d_Tr_spread_35 : decode prog_7_method_3_code 35 = .ok (.goto 4, 3) := by decide +kernel
theorem d_Tr_spread_38 : decode prog_7_method_3_code 38 = .ok (.lconst 0, 1) := by decide +kernel
theorem d_Tr_spread_39 : decode prog_7_method_3_code 39 = .ok (.lastore, 1) := by decide +kernel
theorem d_Tr_spread_40 : decode prog_7_method_3_code 40 = .ok (.iinc 2 1, 3) := by decide +kernel
theorem d_Tr_spread_43 : decode prog_7_method_3_code 43 = .ok (.goto (-41), 3) := by decide +kernel
theorem d_Tr_spread_46 : decode prog_7_method_3_code 46 = .ok (.iconst 1, 1) := by decide +kernel
theorem d_Tr_spread_47 : decode prog_7_method_3_code 47 = .ok (.istore_n 2, 1) := by decide +kernel
theorem d_Tr_spread_48 : decode prog_7_method_3_code 48 = .ok (.iload_n 2, 1) := by decide +kernel
theorem d_Tr_spread_49 : decode prog_7_method_3_code 49 = .ok (.aload_n 0, 1) := by decide +kernel
theorem d_Tr_spread_50 : decode prog_7_method_3_code 50 = .ok (.getfield 18, 3) := by decide +kernel
theorem d_Tr_spread_53 : decode prog_7_method_3_code 53 = .ok (.getfield 22, 3) := by decide +kernel
theorem d_Tr_spread_56 : decode prog_7_method_3_code 56 = .ok (.if_icmp .ge 60, 3) := by decide +kernel
theorem d_Tr_spread_59 : decode prog_7_method_3_code 59 = .ok (.iconst 0, 1) := by decide +kernel
theorem d_Tr_spread_60 : decode prog_7_method_3_code 60 = .ok (.istore_n 3, 1) := by decide +kernel
theorem d_Tr_spread_61 : decode prog_7_method_3_code 61 = .ok (.iload_n 3, 1) := by decide +kernel
theorem d_Tr_spread_62 : decode prog_7_method_3_code 62 = .ok (.aload_n 0, 1) := by decide +kernel
theorem d_Tr_spread_63 : decode prog_7_method_3_code 63 = .ok (.getfield 18, 3) := by decide +kernel
theorem d_Tr_spread_66 : decode prog_7_method_3_code 66 = .ok (.getfield 28, 3) := by decide +kernel
theorem d_Tr_spread_69 : decode prog_7_method_3_code 69 = .ok (.if_icmp .ge 41, 3) := by decide +kernel
theorem d_Tr_spread_72 : decode prog_7_method_3_code 72 = .ok (.aload_n 0, 1) := by decide +kernel
theorem d_Tr_spread_73 : decode prog_7_method_3_code 73 = .ok (.getfield 18, 3) := by decide +kernel
theorem d_Tr_spread_76 : decode prog_7_method_3_code 76 = .ok (.iload_n 3, 1) := by decide +kernel
theorem d_Tr_spread_77 : decode prog_7_method_3_code 77 = .ok (.invokevirtual 31, 3) := by decide +kernel
theorem d_Tr_spread_80 : decode prog_7_method_3_code 80 = .ok (.ifCond .eq 24, 3) := by decide +kernel
theorem d_Tr_spread_83 : decode prog_7_method_3_code 83 = .ok (.aload_n 0, 1) := by decide +kernel
theorem d_Tr_spread_84 : decode prog_7_method_3_code 84 = .ok (.aload_n 0, 1) := by decide +kernel
theorem d_Tr_spread_85 : decode prog_7_method_3_code 85 = .ok (.getfield 18, 3) := by decide +kernel
theorem d_Tr_spread_88 : decode prog_7_method_3_code 88 = .ok (.getfield 35, 3) := by decide +kernel
theorem d_Tr_spread_91 : decode prog_7_method_3_code 91 = .ok (.iload_n 3, 1) := by decide +kernel
theorem d_Tr_spread_92 : decode prog_7_method_3_code 92 = .ok (.iaload, 1) := by decide +kernel
theorem d_Tr_spread_93 : decode prog_7_method_3_code 93 = .ok (.invokevirtual 39, 3) := by decide +kernel
theorem d_Tr_spread_96 : decode prog_7_method_3_code 96 = .ok (.ifCond .eq 8, 3) := by decide +kernel
theorem d_Tr_spread_99 : decode prog_7_method_3_code 99 = .ok (.aload_n 0, 1) := by decide +kernel
theorem d_Tr_spread_100 : decode prog_7_method_3_code 100 = .ok (.iload_n 3, 1) := by decide +kernel
theorem d_Tr_spread_101 : decode prog_7_method_3_code 101 = .ok (.invokevirtual 42, 3) := by decide +kernel
theorem d_Tr_spread_104 : decode prog_7_method_3_code 104 = .ok (.iinc 3 1, 3) := by decide +kernel
theorem d_Tr_spread_107 : decode prog_7_method_3_code 107 = .ok (.goto (-46), 3) := by decide +kernel
theorem d_Tr_spread_110 : decode prog_7_method_3_code 110 = .ok (.iinc 2 1, 3) := by decide +kernel
theorem d_Tr_spread_113 : decode prog_7_method_3_code 113 = .ok (.goto (-65), 3) := by decide +kernel
theorem d_Tr_spread_116 : decode prog_7_method_3_code 116 = .ok (.return_, 1) := by decide +kernel
def rm_Tr_spread : Room := { frames := 2, cells := 0, slots := 0, locals := 47 }
def f_Tr_spread_J23 (x1 : Int32) (t2 : Int32 × mS) (j1 : Int64) : Option ((Int32 × mS) ⊕ (Int32 × mS)) :=
  gd (inb t2.1 10) ((nm (sJ t2.2 97 t2.1.toNatClampNeg j1) fun σ2 =>
  if t2.1 = x1 then (
  gd (inb t2.1 10) ((nm (sJ σ2 98 t2.1.toNatClampNeg 1) fun σ4 =>
  some (.inl (t2.1 + 1, σ4))))) else (
  gd (inb t2.1 10) ((nm (sJ σ2 98 t2.1.toNatClampNeg 0) fun σ3 =>
  some (.inl (t2.1 + 1, σ3)))))))
def f_Tr_spread_L2 (x1 : Int32) : (Int32 × mS) → Option ((Int32 × mS) ⊕ (Int32 × mS)) := fun t2 =>
  if 10 ≤ t2.1 then (
  some (.inr (t2.1, t2.2))) else (
  if t2.1 = x1 then (
  f_Tr_spread_J23 x1 t2 1) else (
  f_Tr_spread_J23 x1 t2 0))
def f_Tr_spread_L61 : (Int32 × mS) → Option ((Int32 × mS) ⊕ (Int32 × mS)) := fun t61 =>
  if (t61.2.1 1 7) ≤ t61.1 then (
  some (.inr (t61.1, t61.2))) else (
  (f_Gr_hasArc t61.2 t61.1).bind fun v5 =>
  if v5 = 0 then (
  some (.inl (t61.1 + 1, t61.2))) else (
  gd (inb t61.1 40) (
  (f_Tr_knows t61.2 (t61.2.1 2 t61.1.toNatClampNeg)).bind fun v6 =>
  if v6 = 0 then (
  some (.inl (t61.1 + 1, t61.2))) else (
  (f_Tr_pass t61.2 t61.1).bind fun σ7 =>
  some (.inl (t61.1 + 1, σ7))))))
def f_Tr_spread_L48 : (Int32 × mS) → Option ((Int32 × mS) ⊕ (Int32 × mS)) := fun t48 =>
  if (t48.2.1 1 6) ≤ t48.1 then (
  some (.inr (t48.1, t48.2))) else (
  (lpN (f_Tr_spread_L61) fuS (0, t48.2)).bind fun u61 =>
  some (.inl (t48.1 + 1, u61.2)))
def f_Tr_spread (σ : mS) (x1 : Int32) : Option (mS) :=
  (lpN (f_Tr_spread_L2 x1) fuS (0, σ)).bind fun u2 =>
  (lpN (f_Tr_spread_L48) fuS (1, u2.2)).bind fun u48 =>
  some u48.2
set_option maxHeartbeats 4000000 in
set_option maxRecDepth 100000 in
theorem c_Tr_spread (l : Launch) (D : va_G) (cA ad : Nat → Nat) (σ : mS) (x1 : Int32) (o : mS) (h : f_Tr_spread σ x1 = some o) : mCv l ⟨"LeastPaths$Trusts", "spread", "(I)V"⟩ (Cond.code ⟨"LeastPaths$Trusts", "spread", "(I)V"⟩ prog_7_method_3_code 4 (Option.none : Option Jvm.ClassFile.FieldType) :: tlG) rm_Tr_spread D clX (tyK cA) 99 (tbX cA) ad σ [.ref (ad 96), .int x1] o := by
  intro sz
  refine m_of (cc := prog_7_method_3_code) (maxL := 4) (Qc := mQv D clX (tyK cA) 99 (tbX cA) ad o) (by decide) (Nat.le_of_ble_eq_true rfl) (fun p e s m args below meth c ls S hr hlk hnm hl M => ?_) sz
  have hl : lv_has ls 4 [(0, .ref (ad 96)), (1, .int x1)] := hl
  generalize hQ : MQ _ _ _ _ _ _ _ = Q
  skip
  unfold f_Tr_spread at h
  refine lv_iconst (v := 0) S.1 S.2.1 d_Tr_spread_0 (by decide) ?_
  refine lv_istore_n (lv' := [(2, .int 0), (0, .ref (ad 96)), (1, .int x1)]) S.1 S.2.1 d_Tr_spread_1 rfl hl (by decide) rfl (fun ls hl => ?_)
  obtain ⟨u2, q2, h⟩ := Option.bind_eq_some_iff.mp h
  refine lpN_W1 (st := f_Tr_spread_L2 x1) (fun (t2 : Int32 × mS) => ∀ (ls : Array Slot) (H : Heap) (locs : List Loc), lv_has ls 4 [(2, .int t2.1), (0, .ref (ad 96)), (1, .int x1)] → mM D clX (tyK cA) (mA 99 ad s.heap.size) s 99 (tbX cA) ad t2.2 H locs → W p l e rm_Tr_spread s m args below meth c H locs 0 0 Q (F0 m 2 ls [])) (fun (u2 : Int32 × mS) => ∀ (ls : Array Slot) (H : Heap) (locs : List Loc), lv_has ls 4 [(2, .int u2.1), (0, .ref (ad 96)), (1, .int x1)] → mM D clX (tyK cA) (mA 99 ad s.heap.size) s 99 (tbX cA) ad u2.2 H locs → W p l e rm_Tr_spread s m args below meth c H locs 0 0 Q (F0 m 46 ls [])) ?_ fuS ((0, σ) : Int32 × mS) u2 q2 ?_ ls _ _ (lv_sub hl [0, 1, 2] rfl) M
  · intro t2 oo2 h K1 K2 ls H locs hl M
    unfold f_Tr_spread_L2 at h
    refine lv_iload_n S.1 S.2.1 d_Tr_spread_2 rfl (lv_at hl 0 rfl) ?_
    refine lv_bipush (v := 10) S.1 S.2.1 d_Tr_spread_3 (by decide) ?_
    refine m_ige (tgt := 46) S d_Tr_spread_5 (by decide) h (fun h => ?_) (fun h => ?_)
    · exact K2 _ (Option.some.inj h).symm ls _ _ (lv_sub hl [0, 1, 2] rfl) M
    · refine lv_aload_n S.1 S.2.1 d_Tr_spread_8 rfl (lv_at hl 1 rfl) ?_
      refine m_gs (t := 97) S M (j := 1) ok_Tr (by decide) rfl (by decide) rfl kw_173 rfl d_Tr_spread_9 ?_
      refine lv_iload_n S.1 S.2.1 d_Tr_spread_12 rfl (lv_at hl 0 rfl) ?_
      refine lv_iload_n S.1 S.2.1 d_Tr_spread_13 rfl (lv_at hl 0 rfl) ?_
      refine lv_iload_n S.1 S.2.1 d_Tr_spread_14 rfl (lv_at hl 2 rfl) ?_
      have J23 : ∀ (j1 : Int64) (ls : Array Slot) (H : Heap) (locs : List Loc), f_Tr_spread_J23 x1 t2 j1 = some oo2 → lv_has ls 4 [(2, .int t2.1), (0, .ref (ad 96)), (1, .int x1)] → mM D clX (tyK cA) (mA 99 ad s.heap.size) s 99 (tbX cA) ad t2.2 H locs → W p l e rm_Tr_spread s m args below meth c H locs 0 0 Q (F0 m 23 ls [.long j1, .int t2.1, .ref (ad 97)]) := by
        intro j1 ls H locs h hl M
        unfold f_Tr_spread_J23 at h
        refine m_las (t0 := 1) S M (by decide) rfl rfl h d_Tr_spread_23 (fun σ2 H locs h M => ?_)
        refine lv_aload_n S.1 S.2.1 d_Tr_spread_24 rfl (lv_at hl 1 rfl) ?_
        refine m_gs (t := 98) S M (j := 2) ok_Tr (by decide) rfl (by decide) rfl kw_170 rfl d_Tr_spread_25 ?_
        refine lv_iload_n S.1 S.2.1 d_Tr_spread_28 rfl (lv_at hl 0 rfl) ?_
        refine lv_iload_n S.1 S.2.1 d_Tr_spread_29 rfl (lv_at hl 0 rfl) ?_
        refine lv_iload_n S.1 S.2.1 d_Tr_spread_30 rfl (lv_at hl 2 rfl) ?_
        refine m_ine (tgt := 38) S d_Tr_spread_31 (by decide) h (fun h => ?_) (fun h => ?_)
        · refine lv_lconst (v := 0) S.1 S.2.1 d_Tr_spread_38 (by decide) ?_
          refine m_las (t0 := 1) S M (by decide) rfl rfl h d_Tr_spread_39 (fun σ3 H locs h M => ?_)
          refine lv_iinc (v := t2.1 + 1) (lv' := [(2, .int (t2.1 + 1)), (0, .ref (ad 96)), (1, .int x1)]) S.1 S.2.1 d_Tr_spread_40 hl (k := 0) rfl rfl (by decide) rfl (fun ls hl => ?_)
          refine lv_goto (tgt := 2) S.1 S.2.1 d_Tr_spread_43 (by decide) ?_
          exact K1 _ (Option.some.inj h).symm ls _ _ (lv_sub hl [0, 1, 2] rfl) M
        · refine lv_lconst (v := 1) S.1 S.2.1 d_Tr_spread_34 (by decide) ?_
          refine lv_goto (tgt := 39) S.1 S.2.1 d_Tr_spread_35 (by decide) ?_
          refine m_las (t0 := 1) S M (by decide) rfl rfl h d_Tr_spread_39 (fun σ4 H locs h M => ?_)
          refine lv_iinc (v := t2.1 + 1) (lv' := [(2, .int (t2.1 + 1)), (0, .ref (ad 96)), (1, .int x1)]) S.1 S.2.1 d_Tr_spread_40 hl (k := 0) rfl rfl (by decide) rfl (fun ls hl => ?_)
          refine lv_goto (tgt := 2) S.1 S.2.1 d_Tr_spread_43 (by decide) ?_
          exact K1 _ (Option.some.inj h).symm ls _ _ (lv_sub hl [0, 1, 2] rfl) M
      refine m_ine (tgt := 22) S d_Tr_spread_15 (by decide) h (fun h => ?_) (fun h => ?_)
      · refine lv_lconst (v := 0) S.1 S.2.1 d_Tr_spread_22 (by decide) ?_
        exact J23 _ ls _ _ h (lv_sub hl [0, 1, 2] rfl) M
      · refine lv_lconst (v := 1) S.1 S.2.1 d_Tr_spread_18 (by decide) ?_
        refine lv_goto (tgt := 23) S.1 S.2.1 d_Tr_spread_19 (by decide) ?_
        exact J23 _ ls _ _ h (lv_sub hl [0, 1, 2] rfl) M
  · intro ls H locs hl M
    refine lv_iconst (v := 1) S.1 S.2.1 d_Tr_spread_46 (by decide) ?_
    refine lv_istore_n (lv' := [(2, .int 1), (0, .ref (ad 96)), (1, .int x1)]) S.1 S.2.1 d_Tr_spread_47 rfl hl (by decide) rfl (fun ls hl => ?_)
    obtain ⟨u48, q48, h⟩ := Option.bind_eq_some_iff.mp h
    refine lpN_W1 (st := f_Tr_spread_L48) (fun (t48 : Int32 × mS) => ∀ (ls : Array Slot) (H : Heap) (locs : List Loc), lv_has ls 4 [(2, .int t48.1), (0, .ref (ad 96)), (1, .int x1)] → mM D clX (tyK cA) (mA 99 ad s.heap.size) s 99 (tbX cA) ad t48.2 H locs → W p l e rm_Tr_spread s m args below meth c H locs 0 0 Q (F0 m 48 ls [])) (fun (u48 : Int32 × mS) => ∀ (ls : Array Slot) (H : Heap) (locs : List Loc), lv_has ls 4 [(2, .int u48.1), (0, .ref (ad 96)), (1, .int x1)] → mM D clX (tyK cA) (mA 99 ad s.heap.size) s 99 (tbX cA) ad u48.2 H locs → W p l e rm_Tr_spread s m args below meth c H locs 0 0 Q (F0 m 116 ls [])) ?_ fuS ((1, u2.2) : Int32 × mS) u48 q48 ?_ ls _ _ (lv_sub hl [0, 1, 2] rfl) M
    · intro t48 oo48 h K1 K2 ls H locs hl M
      unfold f_Tr_spread_L48 at h
      refine lv_iload_n S.1 S.2.1 d_Tr_spread_48 rfl (lv_at hl 0 rfl) ?_
      refine lv_aload_n S.1 S.2.1 d_Tr_spread_49 rfl (lv_at hl 1 rfl) ?_
      refine m_gs (t := 1) S M (j := 0) ok_Tr (by decide) rfl (by decide) rfl kw_171 rfl d_Tr_spread_50 ?_
      refine m_gi S M (j := 6) ok_Gr (by decide) rfl (by decide) rfl kw_182 rfl d_Tr_spread_53 ?_
      refine m_ige (tgt := 116) S d_Tr_spread_56 (by decide) h (fun h => ?_) (fun h => ?_)
      · exact K2 _ (Option.some.inj h).symm ls _ _ (lv_sub hl [0, 1, 2] rfl) M
      · refine lv_iconst (v := 0) S.1 S.2.1 d_Tr_spread_59 (by decide) ?_
        refine lv_istore_n (lv' := [(3, .int 0), (2, .int t48.1), (0, .ref (ad 96)), (1, .int x1)]) S.1 S.2.1 d_Tr_spread_60 rfl hl (by decide) rfl (fun ls hl => ?_)
        obtain ⟨u61, q61, h⟩ := Option.bind_eq_some_iff.mp h
        refine lpN_W1 (st := f_Tr_spread_L61) (fun (t61 : Int32 × mS) => ∀ (ls : Array Slot) (H : Heap) (locs : List Loc), lv_has ls 4 [(3, .int t61.1), (2, .int t48.1), (0, .ref (ad 96)), (1, .int x1)] → mM D clX (tyK cA) (mA 99 ad s.heap.size) s 99 (tbX cA) ad t61.2 H locs → W p l e rm_Tr_spread s m args below meth c H locs 0 0 Q (F0 m 61 ls [])) (fun (u61 : Int32 × mS) => ∀ (ls : Array Slot) (H : Heap) (locs : List Loc), lv_has ls 4 [(3, .int u61.1), (2, .int t48.1), (0, .ref (ad 96)), (1, .int x1)] → mM D clX (tyK cA) (mA 99 ad s.heap.size) s 99 (tbX cA) ad u61.2 H locs → W p l e rm_Tr_spread s m args below meth c H locs 0 0 Q (F0 m 110 ls [])) ?_ fuS ((0, t48.2) : Int32 × mS) u61 q61 ?_ ls _ _ (lv_sub hl [0, 1, 2, 3] rfl) M
        · intro t61 oo61 h K1 K2 ls H locs hl M
          unfold f_Tr_spread_L61 at h
          refine lv_iload_n S.1 S.2.1 d_Tr_spread_61 rfl (lv_at hl 0 rfl) ?_
          refine lv_aload_n S.1 S.2.1 d_Tr_spread_62 rfl (lv_at hl 2 rfl) ?_
          refine m_gs (t := 1) S M (j := 0) ok_Tr (by decide) rfl (by decide) rfl kw_171 rfl d_Tr_spread_63 ?_
          refine m_gi S M (j := 7) ok_Gr (by decide) rfl (by decide) rfl kw_183 rfl d_Tr_spread_66 ?_
          refine m_ige (tgt := 110) S d_Tr_spread_69 (by decide) h (fun h => ?_) (fun h => ?_)
          · exact K2 _ (Option.some.inj h).symm ls _ _ (lv_sub hl [0, 1, 2, 3] rfl) M
          · refine lv_aload_n S.1 S.2.1 d_Tr_spread_72 rfl (lv_at hl 2 rfl) ?_
            refine m_gs (t := 1) S M (j := 0) ok_Tr (by decide) rfl (by decide) rfl kw_171 rfl d_Tr_spread_73 ?_
            refine lv_iload_n S.1 S.2.1 d_Tr_spread_76 rfl (lv_at hl 0 rfl) ?_
            refine m_xip h (fun o ho => m_rV (As := [.int t61.1]) (rest := []) S M hl.1 (cwG (n := 1) S.2.2.2.2 kw_184 kw_13 kw_14 kw_15 kw_16 (by decide) ⟨Nat.le_of_ble_eq_true rfl, Nat.le_of_ble_eq_true rfl⟩) ok_Gr (by decide) rfl (c_Gr_hasArc l D cA ad t61.2 t61.1 o ho _) rfl rfl (Nat.le_of_ble_eq_true rfl) d_Tr_spread_77 ⟨Nat.zero_le _, Nat.zero_le _⟩) M (fun v5 H locs h M => ?_)
            refine m_ifeq (tgt := 104) S d_Tr_spread_80 (by decide) h (fun h => ?_) (fun h => ?_)
            · refine lv_iinc (v := t61.1 + 1) (lv' := [(3, .int (t61.1 + 1)), (2, .int t48.1), (0, .ref (ad 96)), (1, .int x1)]) S.1 S.2.1 d_Tr_spread_104 hl (k := 0) rfl rfl (by decide) rfl (fun ls hl => ?_)
              refine lv_goto (tgt := 61) S.1 S.2.1 d_Tr_spread_107 (by decide) ?_
              exact K1 _ (Option.some.inj h).symm ls _ _ (lv_sub hl [0, 1, 2, 3] rfl) M
            · refine lv_aload_n S.1 S.2.1 d_Tr_spread_83 rfl (lv_at hl 2 rfl) ?_
              refine lv_aload_n S.1 S.2.1 d_Tr_spread_84 rfl (lv_at hl 2 rfl) ?_
              refine m_gs (t := 1) S M (j := 0) ok_Tr (by decide) rfl (by decide) rfl kw_171 rfl d_Tr_spread_85 ?_
              refine m_gs (t := 2) S M (j := 0) ok_Gr (by decide) rfl (by decide) rfl kw_174 rfl d_Tr_spread_88 ?_
              refine lv_iload_n S.1 S.2.1 d_Tr_spread_91 rfl (lv_at hl 0 rfl) ?_
              refine m_ial (t0 := 0) S M (by decide) rfl rfl h d_Tr_spread_92 (fun h => ?_)
              refine m_xip h (fun o ho => m_rV (As := [.int (t61.2.1 2 t61.1.toNatClampNeg)]) (rest := []) S M hl.1 (cwG (n := 1) S.2.2.2.2 kw_177 kw_178 kw_179 kw_180 kw_181 (by decide) ⟨Nat.le_of_ble_eq_true rfl, Nat.le_of_ble_eq_true rfl⟩) ok_Tr (by decide) rfl (c_Tr_knows l D cA ad t61.2 (t61.2.1 2 t61.1.toNatClampNeg) o ho _) rfl rfl (Nat.le_of_ble_eq_true rfl) d_Tr_spread_93 ⟨Nat.zero_le _, Nat.zero_le _⟩) M (fun v6 H locs h M => ?_)
              refine m_ifeq (tgt := 104) S d_Tr_spread_96 (by decide) h (fun h => ?_) (fun h => ?_)
              · refine lv_iinc (v := t61.1 + 1) (lv' := [(3, .int (t61.1 + 1)), (2, .int t48.1), (0, .ref (ad 96)), (1, .int x1)]) S.1 S.2.1 d_Tr_spread_104 hl (k := 0) rfl rfl (by decide) rfl (fun ls hl => ?_)
                refine lv_goto (tgt := 61) S.1 S.2.1 d_Tr_spread_107 (by decide) ?_
                exact K1 _ (Option.some.inj h).symm ls _ _ (lv_sub hl [0, 1, 2, 3] rfl) M
              · refine lv_aload_n S.1 S.2.1 d_Tr_spread_99 rfl (lv_at hl 2 rfl) ?_
                refine lv_iload_n S.1 S.2.1 d_Tr_spread_100 rfl (lv_at hl 0 rfl) ?_
                refine m_xv h (fun o ho => m_rV (As := [.int t61.1]) (rest := []) S M hl.1 (cwG (n := 1) S.2.2.2.2 kw_185 kw_186 kw_187 kw_180 kw_188 (by decide) ⟨Nat.le_of_ble_eq_true rfl, Nat.le_of_ble_eq_true rfl⟩) ok_Tr (by decide) rfl (c_Tr_pass l D cA ad t61.2 t61.1 o ho _) rfl rfl (Nat.le_of_ble_eq_true rfl) d_Tr_spread_101 ⟨Nat.zero_le _, Nat.zero_le _⟩) M (fun σ7 H locs h M => ?_)
                refine lv_iinc (v := t61.1 + 1) (lv' := [(3, .int (t61.1 + 1)), (2, .int t48.1), (0, .ref (ad 96)), (1, .int x1)]) S.1 S.2.1 d_Tr_spread_104 hl (k := 0) rfl rfl (by decide) rfl (fun ls hl => ?_)
                refine lv_goto (tgt := 61) S.1 S.2.1 d_Tr_spread_107 (by decide) ?_
                exact K1 _ (Option.some.inj h).symm ls _ _ (lv_sub hl [0, 1, 2, 3] rfl) M
        · intro ls H locs hl M
          refine lv_iinc (v := t48.1 + 1) (lv' := [(2, .int (t48.1 + 1)), (3, .int u61.1), (0, .ref (ad 96)), (1, .int x1)]) S.1 S.2.1 d_Tr_spread_110 hl (k := 1) rfl rfl (by decide) rfl (fun ls hl => ?_)
          refine lv_goto (tgt := 48) S.1 S.2.1 d_Tr_spread_113 (by decide) ?_
          exact K1 _ (Option.some.inj h).symm ls _ _ (lv_sub hl [0, 2, 3] rfl) M
    · intro ls H locs hl M
      subst hQ; exact m_vret S hr hlk M (Option.some.inj h) d_Tr_spread_116
theorem d_Tr_commonDivisor_0 : decode prog_7_method_6_code 0 = .ok (.lload_n 2, 1) := by decide +kernel
theorem d_Tr_commonDivisor_1 : decode prog_7_method_6_code 1 = .ok (.lstore 4, 2) := by decide +kernel
theorem d_Tr_commonDivisor_3 : decode prog_7_method_6_code 3 = .ok (.lload_n 0, 1) := by decide +kernel
theorem d_Tr_commonDivisor_4 : decode prog_7_method_6_code 4 = .ok (.lstore 6, 2) := by decide +kernel
theorem d_Tr_commonDivisor_6 : decode prog_7_method_6_code 6 = .ok (.iconst 0, 1) := by decide +kernel
theorem d_Tr_commonDivisor_7 : decode prog_7_method_6_code 7 = .ok (.istore 8, 2) := by decide +kernel
theorem d_Tr_commonDivisor_9 : decode prog_7_method_6_code 9 = .ok (.iload 8, 2) := by decide +kernel
theorem d_Tr_commonDivisor_11 : decode prog_7_method_6_code 11 = .ok (.bipush 64, 2) := by decide +kernel
theorem d_Tr_commonDivisor_13 : decode prog_7_method_6_code 13 = .ok (.if_icmp .ge 31, 3) := by decide +kernel
theorem d_Tr_commonDivisor_16 : decode prog_7_method_6_code 16 = .ok (.lload 6, 2) := by decide +kernel
theorem d_Tr_commonDivisor_18 : decode prog_7_method_6_code 18 = .ok (.lconst 0, 1) := by decide +kernel
theorem d_Tr_commonDivisor_19 : decode prog_7_method_6_code 19 = .ok (.lcmp, 1) := by decide +kernel
theorem d_Tr_commonDivisor_20 : decode prog_7_method_6_code 20 = .ok (.ifCond .eq 24, 3) := by decide +kernel
theorem d_Tr_commonDivisor_23 : decode prog_7_method_6_code 23 = .ok (.lload 4, 2) := by decide +kernel
theorem d_Tr_commonDivisor_25 : decode prog_7_method_6_code 25 = .ok (.lload 6, 2) := by decide +kernel
theorem d_Tr_commonDivisor_27 : decode prog_7_method_6_code 27 = .ok (.lrem, 1) := by decide +kernel
theorem d_Tr_commonDivisor_28 : decode prog_7_method_6_code 28 = .ok (.lstore 9, 2) := by decide +kernel
theorem d_Tr_commonDivisor_30 : decode prog_7_method_6_code 30 = .ok (.lload 6, 2) := by decide +kernel
theorem d_Tr_commonDivisor_32 : decode prog_7_method_6_code 32 = .ok (.lstore 4, 2) := by decide +kernel
theorem d_Tr_commonDivisor_34 : decode prog_7_method_6_code 34 = .ok (.lload 9, 2) := by decide +kernel
theorem d_Tr_commonDivisor_36 : decode prog_7_method_6_code 36 = .ok (.lstore 6, 2) := by decide +kernel
theorem d_Tr_commonDivisor_38 : decode prog_7_method_6_code 38 = .ok (.iinc 8 1, 3) := by decide +kernel
theorem d_Tr_commonDivisor_41 : decode prog_7_method_6_code 41 = .ok (.goto (-32), 3) := by decide +kernel
theorem d_Tr_commonDivisor_44 : decode prog_7_method_6_code 44 = .ok (.lload 4, 2) := by decide +kernel
theorem d_Tr_commonDivisor_46 : decode prog_7_method_6_code 46 = .ok (.lreturn, 1) := by decide +kernel
def rm_Tr_commonDivisor : Room := { frames := 0, cells := 0, slots := 0, locals := 0 }
def f_Tr_commonDivisor_L9 : (Int64 × Int64 × Int32) → Option ((Int64 × Int64 × Int32) ⊕ (Int64 × Int64 × Int32)) := fun t9 =>
  if 64 ≤ t9.2.2 then (
  some (.inr (t9.1, t9.2.1, t9.2.2))) else (
  if (lg_cmp t9.2.1 0) = 0 then (
  some (.inr (t9.1, t9.2.1, t9.2.2))) else (
  gd (isNl t9.2.1) (
  nm (t9.1 - t9.1 / t9.2.1 * t9.2.1) fun v1 =>
  some (.inl (t9.2.1, v1, t9.2.2 + 1)))))
def f_Tr_commonDivisor (σ : mS) (x0 : Int64) (x2 : Int64) : Option (Int64) :=
  (lpN (f_Tr_commonDivisor_L9) fuS (x2, x0, 0)).bind fun u9 =>
  some u9.1
set_option maxHeartbeats 4000000 in
set_option maxRecDepth 100000 in
theorem c_Tr_commonDivisor (l : Launch) (D : va_G) (cA ad : Nat → Nat) (σ : mS) (x0 : Int64) (x2 : Int64) (o : Int64) (h : f_Tr_commonDivisor σ x0 x2 = some o) : mCl l ⟨"LeastPaths$Trusts", "commonDivisor", "(JJ)J"⟩ (Cond.code ⟨"LeastPaths$Trusts", "commonDivisor", "(JJ)J"⟩ prog_7_method_6_code 11 (Option.some Jvm.ClassFile.FieldType.long) :: tlG) rm_Tr_commonDivisor D clX (tyK cA) 99 (tbX cA) ad σ [.long x0, .long x2] (o, σ) := by
  intro sz
  refine m_of (cc := prog_7_method_6_code) (maxL := 11) (Qc := mQl D clX (tyK cA) 99 (tbX cA) ad (o, σ)) (by decide) (Nat.le_of_ble_eq_true rfl) (fun p e s m args below meth c ls S hr hlk hnm hl M => ?_) sz
  have hl : lv_has ls 11 [(0, .long x0), (2, .long x2)] := hl
  generalize hQ : MQ _ _ _ _ _ _ _ = Q
  skip
  unfold f_Tr_commonDivisor at h
  refine lv_lload_n S.1 S.2.1 d_Tr_commonDivisor_0 rfl (lv_at hl 1 rfl) ?_
  refine lv_lstore (lv' := [(4, .long x2), (0, .long x0), (2, .long x2)]) S.1 S.2.1 d_Tr_commonDivisor_1 hl (by decide) rfl (fun ls hl => ?_)
  refine lv_lload_n S.1 S.2.1 d_Tr_commonDivisor_3 rfl (lv_at hl 1 rfl) ?_
  refine lv_lstore (lv' := [(6, .long x0), (4, .long x2), (0, .long x0), (2, .long x2)]) S.1 S.2.1 d_Tr_commonDivisor_4 hl (by decide) rfl (fun ls hl => ?_)
  refine lv_iconst (v := 0) S.1 S.2.1 d_Tr_commonDivisor_6 (by decide) ?_
  refine lv_istore (lv' := [(8, .int 0), (6, .long x0), (4, .long x2), (0, .long x0), (2, .long x2)]) S.1 S.2.1 d_Tr_commonDivisor_7 hl (by decide) rfl (fun ls hl => ?_)
  obtain ⟨u9, q9, h⟩ := Option.bind_eq_some_iff.mp h
  refine lpN_W1 (st := f_Tr_commonDivisor_L9) (fun (t9 : Int64 × Int64 × Int32) => ∀ (ls : Array Slot) (H : Heap) (locs : List Loc), lv_has ls 11 [(8, .int t9.2.2), (6, .long t9.2.1), (4, .long t9.1), (0, .long x0), (2, .long x2)] → mM D clX (tyK cA) (mA 99 ad s.heap.size) s 99 (tbX cA) ad σ H locs → W p l e rm_Tr_commonDivisor s m args below meth c H locs 0 0 Q (F0 m 9 ls [])) (fun (u9 : Int64 × Int64 × Int32) => ∀ (ls : Array Slot) (H : Heap) (locs : List Loc), lv_has ls 11 [(8, .int u9.2.2), (6, .long u9.2.1), (4, .long u9.1), (0, .long x0), (2, .long x2)] → mM D clX (tyK cA) (mA 99 ad s.heap.size) s 99 (tbX cA) ad σ H locs → W p l e rm_Tr_commonDivisor s m args below meth c H locs 0 0 Q (F0 m 44 ls [])) ?_ fuS ((x2, x0, 0) : Int64 × Int64 × Int32) u9 q9 ?_ ls _ _ (lv_sub hl [0, 1, 2, 3, 4] rfl) M
  · intro t9 oo9 h K1 K2 ls H locs hl M
    unfold f_Tr_commonDivisor_L9 at h
    refine lv_iload S.1 S.2.1 d_Tr_commonDivisor_9 (lv_at hl 0 rfl) ?_
    refine lv_bipush (v := 64) S.1 S.2.1 d_Tr_commonDivisor_11 (by decide) ?_
    refine m_ige (tgt := 44) S d_Tr_commonDivisor_13 (by decide) h (fun h => ?_) (fun h => ?_)
    · exact K2 _ (Option.some.inj h).symm ls _ _ (lv_sub hl [0, 1, 2, 3, 4] rfl) M
    · refine lv_lload S.1 S.2.1 d_Tr_commonDivisor_16 (lv_at hl 1 rfl) ?_
      refine lv_lconst (v := 0) S.1 S.2.1 d_Tr_commonDivisor_18 (by decide) ?_
      refine W.lcmp S.1 S.2.1 d_Tr_commonDivisor_19 ?_
      refine m_ifeq (tgt := 44) S d_Tr_commonDivisor_20 (by decide) h (fun h => ?_) (fun h => ?_)
      · exact K2 _ (Option.some.inj h).symm ls _ _ (lv_sub hl [0, 1, 2, 3, 4] rfl) M
      · refine lv_lload S.1 S.2.1 d_Tr_commonDivisor_23 (lv_at hl 2 rfl) ?_
        refine lv_lload S.1 S.2.1 d_Tr_commonDivisor_25 (lv_at hl 1 rfl) ?_
        refine m_lrem S d_Tr_commonDivisor_27 h (fun h => ?_)
        refine m_nl h (fun v1 h => ?_)
        refine lv_lstore (lv' := [(9, .long v1), (8, .int t9.2.2), (6, .long t9.2.1), (4, .long t9.1), (0, .long x0), (2, .long x2)]) S.1 S.2.1 d_Tr_commonDivisor_28 hl (by decide) rfl (fun ls hl => ?_)
        refine lv_lload S.1 S.2.1 d_Tr_commonDivisor_30 (lv_at hl 2 rfl) ?_
        refine lv_lstore (lv' := [(4, .long t9.2.1), (9, .long v1), (8, .int t9.2.2), (6, .long t9.2.1), (0, .long x0), (2, .long x2)]) S.1 S.2.1 d_Tr_commonDivisor_32 hl (by decide) rfl (fun ls hl => ?_)
        refine lv_lload S.1 S.2.1 d_Tr_commonDivisor_34 (lv_at hl 1 rfl) ?_
        refine lv_lstore (lv' := [(6, .long v1), (4, .long t9.2.1), (9, .long v1), (8, .int t9.2.2), (0, .long x0), (2, .long x2)]) S.1 S.2.1 d_Tr_commonDivisor_36 hl (by decide) rfl (fun ls hl => ?_)
        refine lv_iinc (v := t9.2.2 + 1) (lv' := [(8, .int (t9.2.2 + 1)), (6, .long v1), (4, .long t9.2.1), (9, .long v1), (0, .long x0), (2, .long x2)]) S.1 S.2.1 d_Tr_commonDivisor_38 hl (k := 3) rfl rfl (by decide) rfl (fun ls hl => ?_)
        refine lv_goto (tgt := 9) S.1 S.2.1 d_Tr_commonDivisor_41 (by decide) ?_
        exact K1 _ (Option.some.inj h).symm ls _ _ (lv_sub hl [0, 1, 2, 4, 5] rfl) M
  · intro ls H locs hl M
    refine lv_lload S.1 S.2.1 d_Tr_commonDivisor_44 (lv_at hl 2 rfl) ?_
    subst hQ; exact m_lret S hr hlk M (by rw [Option.some.inj h]) d_Tr_commonDivisor_46
theorem d_Tr_lowestTerm_0 : decode prog_7_method_5_code 0 = .ok (.aload_n 0, 1) := by decide +kernel
theorem d_Tr_lowestTerm_1 : decode prog_7_method_5_code 1 = .ok (.getfield 9, 3) := by decide +kernel
theorem d_Tr_lowestTerm_4 : decode prog_7_method_5_code 4 = .ok (.iload_n 1, 1) := by decide +kernel
theorem d_Tr_lowestTerm_5 : decode prog_7_method_5_code 5 = .ok (.laload, 1) := by decide +kernel
theorem d_Tr_lowestTerm_6 : decode prog_7_method_5_code 6 = .ok (.aload_n 0, 1) := by decide +kernel
theorem d_Tr_lowestTerm_7 : decode prog_7_method_5_code 7 = .ok (.getfield 15, 3) := by decide +kernel
theorem d_Tr_lowestTerm_10 : decode prog_7_method_5_code 10 = .ok (.iload_n 1, 1) := by decide +kernel
theorem d_Tr_lowestTerm_11 : decode prog_7_method_5_code 11 = .ok (.laload, 1) := by decide +kernel
theorem d_Tr_lowestTerm_12 : decode prog_7_method_5_code 12 = .ok (.invokestatic 53, 3) := by decide +kernel
theorem d_Tr_lowestTerm_15 : decode prog_7_method_5_code 15 = .ok (.lstore_n 3, 1) := by decide +kernel
theorem d_Tr_lowestTerm_16 : decode prog_7_method_5_code 16 = .ok (.iload_n 2, 1) := by decide +kernel
theorem d_Tr_lowestTerm_17 : decode prog_7_method_5_code 17 = .ok (.ifCond .ne 12, 3) := by decide +kernel
theorem d_Tr_lowestTerm_20 : decode prog_7_method_5_code 20 = .ok (.aload_n 0, 1) := by decide +kernel
theorem d_Tr_lowestTerm_21 : decode prog_7_method_5_code 21 = .ok (.getfield 9, 3) := by decide +kernel
theorem d_Tr_lowestTerm_24 : decode prog_7_method_5_code 24 = .ok (.iload_n 1, 1) := by decide +kernel
theorem d_Tr_lowestTerm_25 : decode prog_7_method_5_code 25 = .ok (.laload, 1) := by decide +kernel
theorem d_Tr_lowestTerm_26 : decode prog_7_method_5_code 26 = .ok (.goto 9, 3) := by decide +kernel
theorem d_Tr_lowestTerm_29 : decode prog_7_method_5_code 29 = .ok (.aload_n 0, 1) := by decide +kernel
theorem d_Tr_lowestTerm_30 : decode prog_7_method_5_code 30 = .ok (.getfield 15, 3) := by decide +kernel
theorem d_Tr_lowestTerm_33 : decode prog_7_method_5_code 33 = .ok (.iload_n 1, 1) := by decide +kernel
theorem d_Tr_lowestTerm_34 : decode prog_7_method_5_code 34 = .ok (.laload, 1) := by decide +kernel
theorem d_Tr_lowestTerm_35 : decode prog_7_method_5_code 35 = .ok (.lstore 5, 2) := by decide +kernel
theorem d_Tr_lowestTerm_37 : decode prog_7_method_5_code 37 = .ok (.lload_n 3, 1) := by decide +kernel
theorem d_Tr_lowestTerm_38 : decode prog_7_method_5_code 38 = .ok (.lconst 0, 1) := by decide +kernel
theorem d_Tr_lowestTerm_39 : decode prog_7_method_5_code 39 = .ok (.lcmp, 1) := by decide +kernel
theorem d_Tr_lowestTerm_40 : decode prog_7_method_5_code 40 = .ok (.ifCond .ne 7, 3) := by decide +kernel
theorem d_Tr_lowestTerm_43 : decode prog_7_method_5_code 43 = .ok (.iconst 0, 1) := by decide +kernel
theorem d_Tr_lowestTerm_44 : decode prog_7_method_5_code 44 = .ok (.goto 8, 3) := by decide +kernel
theorem d_Tr_lowestTerm_47 : decode prog_7_method_5_code 47 = .ok (.lload 5, 2) := by decide +kernel
theorem d_Tr_lowestTerm_49 : decode prog_7_method_5_code 49 = .ok (.lload_n 3, 1) := by decide +kernel
theorem d_Tr_lowestTerm_50 : decode prog_7_method_5_code 50 = .ok (.ldiv, 1) := by decide +kernel
theorem d_Tr_lowestTerm_51 : decode prog_7_method_5_code 51 = .ok (.l2i, 1) := by decide +kernel
theorem d_Tr_lowestTerm_52 : decode prog_7_method_5_code 52 = .ok (.ireturn, 1) := by decide +kernel
def rm_Tr_lowestTerm : Room := { frames := 1, cells := 0, slots := 0, locals := 30 }
def f_Tr_lowestTerm_J35 (v1 : Int64) (j2 : Int64) : Option (Int32) :=
  if (lg_cmp v1 0) = 0 then (
  some 0) else (
  gd (isNl v1) (
  some ((j2 / v1).toInt32)))
def f_Tr_lowestTerm (σ : mS) (x1 : Int32) (x2 : Int32) : Option (Int32) :=
  gd (inb x1 10) (
  gd (inb x1 10) (
  (f_Tr_commonDivisor σ (σ.2.1 97 x1.toNatClampNeg) (σ.2.1 98 x1.toNatClampNeg)).bind fun v1 =>
  if x2 = 0 then (
  gd (inb x1 10) (
  f_Tr_lowestTerm_J35 v1 (σ.2.1 97 x1.toNatClampNeg))) else (
  gd (inb x1 10) (
  f_Tr_lowestTerm_J35 v1 (σ.2.1 98 x1.toNatClampNeg)))))
set_option maxHeartbeats 4000000 in
set_option maxRecDepth 100000 in
theorem c_Tr_lowestTerm (l : Launch) (D : va_G) (cA ad : Nat → Nat) (σ : mS) (x1 : Int32) (x2 : Int32) (o : Int32) (h : f_Tr_lowestTerm σ x1 x2 = some o) : mCi l ⟨"LeastPaths$Trusts", "lowestTerm", "(II)I"⟩ (Cond.code ⟨"LeastPaths$Trusts", "lowestTerm", "(II)I"⟩ prog_7_method_5_code 7 (Option.some Jvm.ClassFile.FieldType.int) :: tlG) rm_Tr_lowestTerm D clX (tyK cA) 99 (tbX cA) ad σ [.ref (ad 96), .int x1, .int x2] (o, σ) := by
  intro sz
  refine m_of (cc := prog_7_method_5_code) (maxL := 7) (Qc := mQi D clX (tyK cA) 99 (tbX cA) ad (o, σ)) (by decide) (Nat.le_of_ble_eq_true rfl) (fun p e s m args below meth c ls S hr hlk hnm hl M => ?_) sz
  have hl : lv_has ls 7 [(0, .ref (ad 96)), (1, .int x1), (2, .int x2)] := hl
  generalize hQ : MQ _ _ _ _ _ _ _ = Q
  skip
  unfold f_Tr_lowestTerm at h
  refine lv_aload_n S.1 S.2.1 d_Tr_lowestTerm_0 rfl (lv_at hl 0 rfl) ?_
  refine m_gs (t := 97) S M (j := 1) ok_Tr (by decide) rfl (by decide) rfl kw_173 rfl d_Tr_lowestTerm_1 ?_
  refine lv_iload_n S.1 S.2.1 d_Tr_lowestTerm_4 rfl (lv_at hl 1 rfl) ?_
  refine m_lal (t0 := 1) S M (by decide) rfl rfl h d_Tr_lowestTerm_5 (fun h => ?_)
  refine lv_aload_n S.1 S.2.1 d_Tr_lowestTerm_6 rfl (lv_at hl 0 rfl) ?_
  refine m_gs (t := 98) S M (j := 2) ok_Tr (by decide) rfl (by decide) rfl kw_170 rfl d_Tr_lowestTerm_7 ?_
  refine lv_iload_n S.1 S.2.1 d_Tr_lowestTerm_10 rfl (lv_at hl 1 rfl) ?_
  refine m_lal (t0 := 1) S M (by decide) rfl rfl h d_Tr_lowestTerm_11 (fun h => ?_)
  refine m_xlp h (fun o ho => m_rS (As := [.long (σ.2.1 97 x1.toNatClampNeg), .long (σ.2.1 98 x1.toNatClampNeg)]) (rest := []) S M hl.1 (cwGS (n := 2) S.2.2.2.2 kw_189 kw_190 kw_180 kw_191 (by decide) ⟨Nat.le_of_ble_eq_true rfl, Nat.le_of_ble_eq_true rfl⟩) (c_Tr_commonDivisor l D cA ad σ (σ.2.1 97 x1.toNatClampNeg) (σ.2.1 98 x1.toNatClampNeg) o ho _) rfl rfl (Nat.le_of_ble_eq_true rfl) d_Tr_lowestTerm_12 ⟨Nat.zero_le _, Nat.zero_le _⟩) M (fun v1 H locs h M => ?_)
  refine lv_lstore_n (lv' := [(3, .long v1), (0, .ref (ad 96)), (1, .int x1), (2, .int x2)]) S.1 S.2.1 d_Tr_lowestTerm_15 rfl hl (by decide) rfl (fun ls hl => ?_)
  refine lv_iload_n S.1 S.2.1 d_Tr_lowestTerm_16 rfl (lv_at hl 3 rfl) ?_
  have J35 : ∀ (j2 : Int64) (ls : Array Slot) (H : Heap) (locs : List Loc), f_Tr_lowestTerm_J35 v1 j2 = some o → lv_has ls 7 [(3, .long v1), (0, .ref (ad 96)), (1, .int x1), (2, .int x2)] → mM D clX (tyK cA) (mA 99 ad s.heap.size) s 99 (tbX cA) ad σ H locs → W p l e rm_Tr_lowestTerm s m args below meth c H locs 0 0 Q (F0 m 35 ls [.long j2]) := by
    intro j2 ls H locs h hl M
    unfold f_Tr_lowestTerm_J35 at h
    refine lv_lstore (lv' := [(5, .long j2), (3, .long v1), (0, .ref (ad 96)), (1, .int x1), (2, .int x2)]) S.1 S.2.1 d_Tr_lowestTerm_35 hl (by decide) rfl (fun ls hl => ?_)
    refine lv_lload_n S.1 S.2.1 d_Tr_lowestTerm_37 rfl (lv_at hl 1 rfl) ?_
    refine lv_lconst (v := 0) S.1 S.2.1 d_Tr_lowestTerm_38 (by decide) ?_
    refine W.lcmp S.1 S.2.1 d_Tr_lowestTerm_39 ?_
    refine m_ifne (tgt := 47) S d_Tr_lowestTerm_40 (by decide) h (fun h => ?_) (fun h => ?_)
    · refine lv_lload S.1 S.2.1 d_Tr_lowestTerm_47 (lv_at hl 0 rfl) ?_
      refine lv_lload_n S.1 S.2.1 d_Tr_lowestTerm_49 rfl (lv_at hl 1 rfl) ?_
      refine m_ldiv S d_Tr_lowestTerm_50 h (fun h => ?_)
      refine lv_l2i S.1 S.2.1 d_Tr_lowestTerm_51 rfl ?_
      subst hQ; exact m_iret S hr hlk M (by rw [Option.some.inj h]) d_Tr_lowestTerm_52
    · refine lv_iconst (v := 0) S.1 S.2.1 d_Tr_lowestTerm_43 (by decide) ?_
      refine lv_goto (tgt := 52) S.1 S.2.1 d_Tr_lowestTerm_44 (by decide) ?_
      subst hQ; exact m_iret S hr hlk M (by rw [Option.some.inj h]) d_Tr_lowestTerm_52
  refine m_ifne (tgt := 29) S d_Tr_lowestTerm_17 (by decide) h (fun h => ?_) (fun h => ?_)
  · refine lv_aload_n S.1 S.2.1 d_Tr_lowestTerm_29 rfl (lv_at hl 1 rfl) ?_
    refine m_gs (t := 98) S M (j := 2) ok_Tr (by decide) rfl (by decide) rfl kw_170 rfl d_Tr_lowestTerm_30 ?_
    refine lv_iload_n S.1 S.2.1 d_Tr_lowestTerm_33 rfl (lv_at hl 2 rfl) ?_
    refine m_lal (t0 := 1) S M (by decide) rfl rfl h d_Tr_lowestTerm_34 (fun h => ?_)
    exact J35 _ ls _ _ h (lv_sub hl [0, 1, 2, 3] rfl) M
  · refine lv_aload_n S.1 S.2.1 d_Tr_lowestTerm_20 rfl (lv_at hl 1 rfl) ?_
    refine m_gs (t := 97) S M (j := 1) ok_Tr (by decide) rfl (by decide) rfl kw_173 rfl d_Tr_lowestTerm_21 ?_
    refine lv_iload_n S.1 S.2.1 d_Tr_lowestTerm_24 rfl (lv_at hl 2 rfl) ?_
    refine m_lal (t0 := 1) S M (by decide) rfl rfl h d_Tr_lowestTerm_25 (fun h => ?_)
    refine lv_goto (tgt := 35) S.1 S.2.1 d_Tr_lowestTerm_26 (by decide) ?_
    exact J35 _ ls _ _ h (lv_sub hl [0, 1, 2, 3] rfl) M
