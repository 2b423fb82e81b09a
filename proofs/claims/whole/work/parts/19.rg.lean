theorem d_Rg_takeIfLess_0 : decode prog_4_method_3_code 0 = .ok (.aload_n 0, 1) := by decide +kernel
theorem d_Rg_takeIfLess_1 : decode prog_4_method_3_code 1 = .ok (.getfield 18, 3) := by decide +kernel
theorem d_Rg_takeIfLess_4 : decode prog_4_method_3_code 4 = .ok (.getfield 67, 3) := by decide +kernel
theorem d_Rg_takeIfLess_7 : decode prog_4_method_3_code 7 = .ok (.iload_n 1, 1) := by decide +kernel
theorem d_Rg_takeIfLess_8 : decode prog_4_method_3_code 8 = .ok (.iaload, 1) := by decide +kernel
theorem d_Rg_takeIfLess_9 : decode prog_4_method_3_code 9 = .ok (.istore_n 2, 1) := by decide +kernel
theorem d_Rg_takeIfLess_10 : decode prog_4_method_3_code 10 = .ok (.aload_n 0, 1) := by decide +kernel
theorem d_Rg_takeIfLess_11 : decode prog_4_method_3_code 11 = .ok (.getfield 22, 3) := by decide +kernel
theorem d_Rg_takeIfLess_14 : decode prog_4_method_3_code 14 = .ok (.iload_n 2, 1) := by decide +kernel
theorem d_Rg_takeIfLess_15 : decode prog_4_method_3_code 15 = .ok (.invokevirtual 70, 3) := by decide +kernel
theorem d_Rg_takeIfLess_18 : decode prog_4_method_3_code 18 = .ok (.ifCond .ne 4, 3) := by decide +kernel
theorem d_Rg_takeIfLess_21 : decode prog_4_method_3_code 21 = .ok (.return_, 1) := by decide +kernel
theorem d_Rg_takeIfLess_22 : decode prog_4_method_3_code 22 = .ok (.aload_n 0, 1) := by decide +kernel
theorem d_Rg_takeIfLess_23 : decode prog_4_method_3_code 23 = .ok (.getfield 18, 3) := by decide +kernel
theorem d_Rg_takeIfLess_26 : decode prog_4_method_3_code 26 = .ok (.getfield 73, 3) := by decide +kernel
theorem d_Rg_takeIfLess_29 : decode prog_4_method_3_code 29 = .ok (.iload_n 1, 1) := by decide +kernel
theorem d_Rg_takeIfLess_30 : decode prog_4_method_3_code 30 = .ok (.iaload, 1) := by decide +kernel
theorem d_Rg_takeIfLess_31 : decode prog_4_method_3_code 31 = .ok (.bipush 16, 2) := by decide +kernel
theorem d_Rg_takeIfLess_33 : decode prog_4_method_3_code 33 = .ok (.imul, 1) := by decide +kernel
theorem d_Rg_takeIfLess_34 : decode prog_4_method_3_code 34 = .ok (.iconst 1, 1) := by decide +kernel
theorem d_Rg_takeIfLess_35 : decode prog_4_method_3_code 35 = .ok (.iadd, 1) := by decide +kernel
theorem d_Rg_takeIfLess_36 : decode prog_4_method_3_code 36 = .ok (.aload_n 0, 1) := by decide +kernel
theorem d_Rg_takeIfLess_37 : decode prog_4_method_3_code 37 = .ok (.getfield 22, 3) := by decide +kernel
theorem d_Rg_takeIfLess_40 : decode prog_4_method_3_code 40 = .ok (.getfield 76, 3) := by decide +kernel
theorem d_Rg_takeIfLess_43 : decode prog_4_method_3_code 43 = .ok (.iload_n 2, 1) := by decide +kernel
theorem d_Rg_takeIfLess_44 : decode prog_4_method_3_code 44 = .ok (.iaload, 1) := by decide +kernel
theorem d_Rg_takeIfLess_45 : decode prog_4_method_3_code 45 = .ok (.iadd, 1) := by decide +kernel
theorem d_Rg_takeIfLess_46 : decode prog_4_method_3_code 46 = .ok (.istore_n 3, 1) := by decide +kernel
theorem d_Rg_takeIfLess_47 : decode prog_4_method_3_code 47 = .ok (.aload_n 0, 1) := by decide +kernel
theorem d_Rg_takeIfLess_48 : decode prog_4_method_3_code 48 = .ok (.getfield 12, 3) := by decide +kernel
theorem d_Rg_takeIfLess_51 : decode prog_4_method_3_code 51 = .ok (.getfield 79, 3) := by decide +kernel
theorem d_Rg_takeIfLess_54 : decode prog_4_method_3_code 54 = .ok (.ifCond .eq 14, 3) := by decide +kernel
theorem d_Rg_takeIfLess_57 : decode prog_4_method_3_code 57 = .ok (.iload_n 3, 1) := by decide +kernel
theorem d_Rg_takeIfLess_58 : decode prog_4_method_3_code 58 = .ok (.aload_n 0, 1) := by decide +kernel
theorem d_Rg_takeIfLess_59 : decode prog_4_method_3_code 59 = .ok (.getfield 12, 3) := by decide +kernel
theorem d_Rg_takeIfLess_62 : decode prog_4_method_3_code 62 = .ok (.getfield 82, 3) := by decide +kernel
theorem d_Rg_takeIfLess_65 : decode prog_4_method_3_code 65 = .ok (.if_icmp .ge 41, 3) := by decide +kernel
theorem d_Rg_takeIfLess_68 : decode prog_4_method_3_code 68 = .ok (.aload_n 0, 1) := by decide +kernel
theorem d_Rg_takeIfLess_69 : decode prog_4_method_3_code 69 = .ok (.getfield 12, 3) := by decide +kernel
theorem d_Rg_takeIfLess_72 : decode prog_4_method_3_code 72 = .ok (.iconst 0, 1) := by decide +kernel
theorem d_Rg_takeIfLess_73 : decode prog_4_method_3_code 73 = .ok (.lconst 0, 1) := by decide +kernel
theorem d_Rg_takeIfLess_74 : decode prog_4_method_3_code 74 = .ok (.invokevirtual 26, 3) := by decide +kernel
theorem d_Rg_takeIfLess_77 : decode prog_4_method_3_code 77 = .ok (.aload_n 0, 1) := by decide +kernel
theorem d_Rg_takeIfLess_78 : decode prog_4_method_3_code 78 = .ok (.getfield 12, 3) := by decide +kernel
theorem d_Rg_takeIfLess_81 : decode prog_4_method_3_code 81 = .ok (.iload_n 1, 1) := by decide +kernel
theorem d_Rg_takeIfLess_82 : decode prog_4_method_3_code 82 = .ok (.aload_n 0, 1) := by decide +kernel
theorem d_Rg_takeIfLess_83 : decode prog_4_method_3_code 83 = .ok (.getfield 18, 3) := by decide +kernel
theorem d_Rg_takeIfLess_86 : decode prog_4_method_3_code 86 = .ok (.getfield 73, 3) := by decide +kernel
theorem d_Rg_takeIfLess_89 : decode prog_4_method_3_code 89 = .ok (.iload_n 1, 1) := by decide +kernel
theorem d_Rg_takeIfLess_90 : decode prog_4_method_3_code 90 = .ok (.iaload, 1) := by decide +kernel
theorem d_Rg_takeIfLess_91 : decode prog_4_method_3_code 91 = .ok (.invokevirtual 84, 3) := by decide +kernel
theorem d_Rg_takeIfLess_94 : decode prog_4_method_3_code 94 = .ok (.aload_n 0, 1) := by decide +kernel
theorem d_Rg_takeIfLess_95 : decode prog_4_method_3_code 95 = .ok (.getfield 22, 3) := by decide +kernel
theorem d_Rg_takeIfLess_98 : decode prog_4_method_3_code 98 = .ok (.iload_n 2, 1) := by decide +kernel
theorem d_Rg_takeIfLess_99 : decode prog_4_method_3_code 99 = .ok (.aload_n 0, 1) := by decide +kernel
theorem d_Rg_takeIfLess_100 : decode prog_4_method_3_code 100 = .ok (.getfield 12, 3) := by decide +kernel
theorem d_Rg_takeIfLess_103 : decode prog_4_method_3_code 103 = .ok (.invokevirtual 87, 3) := by decide +kernel
theorem d_Rg_takeIfLess_106 : decode prog_4_method_3_code 106 = .ok (.return_, 1) := by decide +kernel
def rm_Rg_takeIfLess : Room := { frames := 4, cells := 0, slots := 0, locals := 91 }
def f_Rg_takeIfLess (σ : mS) (x1 : Int32) : Option (mS) :=
  gd (inb x1 40) (
  nm (σ.1 3 x1.toNatClampNeg) fun v1 =>
  (f_Se_knows 16 σ v1).bind fun v2 =>
  if v2 = 0 then (
  some σ) else (
  gd (inb x1 40) (
  gd (inb v1 10) (
  nm ((((σ.1 4 x1.toNatClampNeg) * 16) + 1) + (σ.1 17 v1.toNatClampNeg)) fun v3 =>
  if (σ.1 92 1) = 0 then (
  (f_Wy_begin 92 σ 0 0).bind fun σ4 =>
  gd (inb x1 40) (
  (f_Wy_add 92 σ4 x1 (σ4.1 4 x1.toNatClampNeg)).bind fun σ5 =>
  (f_Se_follow 16 σ5 v1 92).bind fun σ6 =>
  some σ6)) else (
  if (σ.1 92 2) ≤ v3 then (
  some σ) else (
  (f_Wy_begin 92 σ 0 0).bind fun σ7 =>
  gd (inb x1 40) (
  (f_Wy_add 92 σ7 x1 (σ7.1 4 x1.toNatClampNeg)).bind fun σ8 =>
  (f_Se_follow 16 σ8 v1 92).bind fun σ9 =>
  some σ9)))))))
set_option maxHeartbeats 4000000 in
set_option maxRecDepth 100000 in
theorem c_Rg_takeIfLess (l : Launch) (D : va_G) (cA ad : Nat → Nat) (σ : mS) (x1 : Int32) (o : mS) (h : f_Rg_takeIfLess σ x1 = some o) : mCv l ⟨"LeastPaths$Rings", "takeIfLess", "(I)V"⟩ (Cond.code ⟨"LeastPaths$Rings", "takeIfLess", "(I)V"⟩ prog_4_method_3_code 4 (Option.none : Option Jvm.ClassFile.FieldType) :: tlG) rm_Rg_takeIfLess D clX (tyK cA) 99 (tbX cA) ad σ [.ref (ad 91), .int x1] o := by
  intro sz
  refine m_of (cc := prog_4_method_3_code) (maxL := 4) (Qc := mQv D clX (tyK cA) 99 (tbX cA) ad o) (by decide) (Nat.le_of_ble_eq_true rfl) (fun p e s m args below meth c ls S hr hlk hnm hl M => ?_) sz
  have hl : lv_has ls 4 [(0, .ref (ad 91)), (1, .int x1)] := hl
  generalize hQ : MQ _ _ _ _ _ _ _ = Q
  skip
  unfold f_Rg_takeIfLess at h
  refine lv_aload_n S.1 S.2.1 d_Rg_takeIfLess_0 rfl (lv_at hl 0 rfl) ?_
  refine m_gs (t := 1) S M (j := 0) ok_Rg (by decide) rfl (by decide) rfl kw_192 rfl d_Rg_takeIfLess_1 ?_
  refine m_gs (t := 3) S M (j := 1) ok_Gr (by decide) rfl (by decide) rfl kw_193 rfl d_Rg_takeIfLess_4 ?_
  refine lv_iload_n S.1 S.2.1 d_Rg_takeIfLess_7 rfl (lv_at hl 1 rfl) ?_
  refine m_ial (t0 := 0) S M (by decide) rfl rfl h d_Rg_takeIfLess_8 (fun h => ?_)
  refine m_ni h (fun v1 h => ?_)
  refine lv_istore_n (lv' := [(2, .int v1), (0, .ref (ad 91)), (1, .int x1)]) S.1 S.2.1 d_Rg_takeIfLess_9 rfl hl (by decide) rfl (fun ls hl => ?_)
  refine lv_aload_n S.1 S.2.1 d_Rg_takeIfLess_10 rfl (lv_at hl 1 rfl) ?_
  refine m_gs (t := 16) S M (j := 1) ok_Rg (by decide) rfl (by decide) rfl kw_194 rfl d_Rg_takeIfLess_11 ?_
  refine lv_iload_n S.1 S.2.1 d_Rg_takeIfLess_14 rfl (lv_at hl 0 rfl) ?_
  refine m_xip h (fun o ho => m_rV (As := [.int v1]) (rest := []) S M hl.1 (cwG (n := 1) S.2.2.2.2 kw_195 kw_113 kw_114 kw_51 kw_115 (by decide) ⟨Nat.le_of_ble_eq_true rfl, Nat.le_of_ble_eq_true rfl⟩) ok_Se (by decide) rfl (c_Se_knows l D cA ad sB_16 σ v1 o ho _) rfl rfl (Nat.le_of_ble_eq_true rfl) d_Rg_takeIfLess_15 ⟨Nat.zero_le _, Nat.zero_le _⟩) M (fun v2 H locs h M => ?_)
  refine m_ifne (tgt := 22) S d_Rg_takeIfLess_18 (by decide) h (fun h => ?_) (fun h => ?_)
  · refine lv_aload_n S.1 S.2.1 d_Rg_takeIfLess_22 rfl (lv_at hl 1 rfl) ?_
    refine m_gs (t := 1) S M (j := 0) ok_Rg (by decide) rfl (by decide) rfl kw_192 rfl d_Rg_takeIfLess_23 ?_
    refine m_gs (t := 4) S M (j := 2) ok_Gr (by decide) rfl (by decide) rfl kw_196 rfl d_Rg_takeIfLess_26 ?_
    refine lv_iload_n S.1 S.2.1 d_Rg_takeIfLess_29 rfl (lv_at hl 2 rfl) ?_
    refine m_ial (t0 := 0) S M (by decide) rfl rfl h d_Rg_takeIfLess_30 (fun h => ?_)
    refine lv_bipush (v := 16) S.1 S.2.1 d_Rg_takeIfLess_31 (by decide) ?_
    refine lv_imul S.1 S.2.1 d_Rg_takeIfLess_33 ?_
    refine lv_iconst (v := 1) S.1 S.2.1 d_Rg_takeIfLess_34 (by decide) ?_
    refine lv_iadd S.1 S.2.1 d_Rg_takeIfLess_35 ?_
    refine lv_aload_n S.1 S.2.1 d_Rg_takeIfLess_36 rfl (lv_at hl 1 rfl) ?_
    refine m_gs (t := 16) S M (j := 1) ok_Rg (by decide) rfl (by decide) rfl kw_194 rfl d_Rg_takeIfLess_37 ?_
    refine m_gs (t := 17) S M (j := 3) ok_Se (by decide) rfl (by decide) rfl kw_197 rfl d_Rg_takeIfLess_40 ?_
    refine lv_iload_n S.1 S.2.1 d_Rg_takeIfLess_43 rfl (lv_at hl 0 rfl) ?_
    refine m_ial (t0 := 0) S M (by decide) rfl rfl h d_Rg_takeIfLess_44 (fun h => ?_)
    refine lv_iadd S.1 S.2.1 d_Rg_takeIfLess_45 ?_
    refine m_ni h (fun v3 h => ?_)
    refine lv_istore_n (lv' := [(3, .int v3), (2, .int v1), (0, .ref (ad 91)), (1, .int x1)]) S.1 S.2.1 d_Rg_takeIfLess_46 rfl hl (by decide) rfl (fun ls hl => ?_)
    refine lv_aload_n S.1 S.2.1 d_Rg_takeIfLess_47 rfl (lv_at hl 2 rfl) ?_
    refine m_gs (t := 92) S M (j := 2) ok_Rg (by decide) rfl (by decide) rfl kw_198 rfl d_Rg_takeIfLess_48 ?_
    refine m_gi S M (j := 1) ok_Wy (by decide) rfl (by decide) rfl kw_199 rfl d_Rg_takeIfLess_51 ?_
    refine m_ifeq (tgt := 68) S d_Rg_takeIfLess_54 (by decide) h (fun h => ?_) (fun h => ?_)
    · refine lv_aload_n S.1 S.2.1 d_Rg_takeIfLess_68 rfl (lv_at hl 2 rfl) ?_
      refine m_gs (t := 92) S M (j := 2) ok_Rg (by decide) rfl (by decide) rfl kw_198 rfl d_Rg_takeIfLess_69 ?_
      refine lv_iconst (v := 0) S.1 S.2.1 d_Rg_takeIfLess_72 (by decide) ?_
      refine lv_lconst (v := 0) S.1 S.2.1 d_Rg_takeIfLess_73 (by decide) ?_
      refine m_xv h (fun o ho => m_rV (As := [.int 0, .long 0]) (rest := []) S M hl.1 (cwG (n := 2) S.2.2.2.2 kw_200 kw_201 kw_202 kw_128 kw_203 (by decide) ⟨Nat.le_of_ble_eq_true rfl, Nat.le_of_ble_eq_true rfl⟩) ok_Wy (by decide) rfl (c_Wy_begin l D cA ad wy_92 σ 0 0 o ho _) rfl rfl (Nat.le_of_ble_eq_true rfl) d_Rg_takeIfLess_74 ⟨Nat.zero_le _, Nat.zero_le _⟩) M (fun σ4 H locs h M => ?_)
      refine lv_aload_n S.1 S.2.1 d_Rg_takeIfLess_77 rfl (lv_at hl 2 rfl) ?_
      refine m_gs (t := 92) S M (j := 2) ok_Rg (by decide) rfl (by decide) rfl kw_198 rfl d_Rg_takeIfLess_78 ?_
      refine lv_iload_n S.1 S.2.1 d_Rg_takeIfLess_81 rfl (lv_at hl 3 rfl) ?_
      refine lv_aload_n S.1 S.2.1 d_Rg_takeIfLess_82 rfl (lv_at hl 2 rfl) ?_
      refine m_gs (t := 1) S M (j := 0) ok_Rg (by decide) rfl (by decide) rfl kw_192 rfl d_Rg_takeIfLess_83 ?_
      refine m_gs (t := 4) S M (j := 2) ok_Gr (by decide) rfl (by decide) rfl kw_196 rfl d_Rg_takeIfLess_86 ?_
      refine lv_iload_n S.1 S.2.1 d_Rg_takeIfLess_89 rfl (lv_at hl 3 rfl) ?_
      refine m_ial (t0 := 0) S M (by decide) rfl rfl h d_Rg_takeIfLess_90 (fun h => ?_)
      refine m_xv h (fun o ho => m_rV (As := [.int x1, .int (σ4.1 4 x1.toNatClampNeg)]) (rest := []) S M hl.1 (cwG (n := 2) S.2.2.2.2 kw_204 kw_126 kw_127 kw_128 kw_129 (by decide) ⟨Nat.le_of_ble_eq_true rfl, Nat.le_of_ble_eq_true rfl⟩) ok_Wy (by decide) rfl (c_Wy_add l D cA ad wy_92 σ4 x1 (σ4.1 4 x1.toNatClampNeg) o ho _) rfl rfl (Nat.le_of_ble_eq_true rfl) d_Rg_takeIfLess_91 ⟨Nat.zero_le _, Nat.zero_le _⟩) M (fun σ5 H locs h M => ?_)
      refine lv_aload_n S.1 S.2.1 d_Rg_takeIfLess_94 rfl (lv_at hl 2 rfl) ?_
      refine m_gs (t := 16) S M (j := 1) ok_Rg (by decide) rfl (by decide) rfl kw_194 rfl d_Rg_takeIfLess_95 ?_
      refine lv_iload_n S.1 S.2.1 d_Rg_takeIfLess_98 rfl (lv_at hl 1 rfl) ?_
      refine lv_aload_n S.1 S.2.1 d_Rg_takeIfLess_99 rfl (lv_at hl 2 rfl) ?_
      refine m_gs (t := 92) S M (j := 2) ok_Rg (by decide) rfl (by decide) rfl kw_198 rfl d_Rg_takeIfLess_100 ?_
      refine m_xv h (fun o ho => m_rV (As := [.int v1, .ref (ad 92)]) (rest := []) S M hl.1 (cwG (n := 2) S.2.2.2.2 kw_205 kw_206 kw_207 kw_51 kw_208 (by decide) ⟨Nat.le_of_ble_eq_true rfl, Nat.le_of_ble_eq_true rfl⟩) ok_Se (by decide) rfl (c_Se_follow l D cA ad sB_16 wy_92 σ5 v1 o ho _) rfl rfl (Nat.le_of_ble_eq_true rfl) d_Rg_takeIfLess_103 ⟨Nat.zero_le _, Nat.zero_le _⟩) M (fun σ6 H locs h M => ?_)
      subst hQ; exact m_vret S hr hlk M (Option.some.inj h) d_Rg_takeIfLess_106
    · refine lv_iload_n S.1 S.2.1 d_Rg_takeIfLess_57 rfl (lv_at hl 0 rfl) ?_
      refine lv_aload_n S.1 S.2.1 d_Rg_takeIfLess_58 rfl (lv_at hl 2 rfl) ?_
      refine m_gs (t := 92) S M (j := 2) ok_Rg (by decide) rfl (by decide) rfl kw_198 rfl d_Rg_takeIfLess_59 ?_
      refine m_gi S M (j := 2) ok_Wy (by decide) rfl (by decide) rfl kw_209 rfl d_Rg_takeIfLess_62 ?_
      refine m_ige (tgt := 106) S d_Rg_takeIfLess_65 (by decide) h (fun h => ?_) (fun h => ?_)
      · subst hQ; exact m_vret S hr hlk M (Option.some.inj h) d_Rg_takeIfLess_106
      · refine lv_aload_n S.1 S.2.1 d_Rg_takeIfLess_68 rfl (lv_at hl 2 rfl) ?_
        refine m_gs (t := 92) S M (j := 2) ok_Rg (by decide) rfl (by decide) rfl kw_198 rfl d_Rg_takeIfLess_69 ?_
        refine lv_iconst (v := 0) S.1 S.2.1 d_Rg_takeIfLess_72 (by decide) ?_
        refine lv_lconst (v := 0) S.1 S.2.1 d_Rg_takeIfLess_73 (by decide) ?_
        refine m_xv h (fun o ho => m_rV (As := [.int 0, .long 0]) (rest := []) S M hl.1 (cwG (n := 2) S.2.2.2.2 kw_200 kw_201 kw_202 kw_128 kw_203 (by decide) ⟨Nat.le_of_ble_eq_true rfl, Nat.le_of_ble_eq_true rfl⟩) ok_Wy (by decide) rfl (c_Wy_begin l D cA ad wy_92 σ 0 0 o ho _) rfl rfl (Nat.le_of_ble_eq_true rfl) d_Rg_takeIfLess_74 ⟨Nat.zero_le _, Nat.zero_le _⟩) M (fun σ7 H locs h M => ?_)
        refine lv_aload_n S.1 S.2.1 d_Rg_takeIfLess_77 rfl (lv_at hl 2 rfl) ?_
        refine m_gs (t := 92) S M (j := 2) ok_Rg (by decide) rfl (by decide) rfl kw_198 rfl d_Rg_takeIfLess_78 ?_
        refine lv_iload_n S.1 S.2.1 d_Rg_takeIfLess_81 rfl (lv_at hl 3 rfl) ?_
        refine lv_aload_n S.1 S.2.1 d_Rg_takeIfLess_82 rfl (lv_at hl 2 rfl) ?_
        refine m_gs (t := 1) S M (j := 0) ok_Rg (by decide) rfl (by decide) rfl kw_192 rfl d_Rg_takeIfLess_83 ?_
        refine m_gs (t := 4) S M (j := 2) ok_Gr (by decide) rfl (by decide) rfl kw_196 rfl d_Rg_takeIfLess_86 ?_
        refine lv_iload_n S.1 S.2.1 d_Rg_takeIfLess_89 rfl (lv_at hl 3 rfl) ?_
        refine m_ial (t0 := 0) S M (by decide) rfl rfl h d_Rg_takeIfLess_90 (fun h => ?_)
        refine m_xv h (fun o ho => m_rV (As := [.int x1, .int (σ7.1 4 x1.toNatClampNeg)]) (rest := []) S M hl.1 (cwG (n := 2) S.2.2.2.2 kw_204 kw_126 kw_127 kw_128 kw_129 (by decide) ⟨Nat.le_of_ble_eq_true rfl, Nat.le_of_ble_eq_true rfl⟩) ok_Wy (by decide) rfl (c_Wy_add l D cA ad wy_92 σ7 x1 (σ7.1 4 x1.toNatClampNeg) o ho _) rfl rfl (Nat.le_of_ble_eq_true rfl) d_Rg_takeIfLess_91 ⟨Nat.zero_le _, Nat.zero_le _⟩) M (fun σ8 H locs h M => ?_)
        refine lv_aload_n S.1 S.2.1 d_Rg_takeIfLess_94 rfl (lv_at hl 2 rfl) ?_
        refine m_gs (t := 16) S M (j := 1) ok_Rg (by decide) rfl (by decide) rfl kw_194 rfl d_Rg_takeIfLess_95 ?_
        refine lv_iload_n S.1 S.2.1 d_Rg_takeIfLess_98 rfl (lv_at hl 1 rfl) ?_
        refine lv_aload_n S.1 S.2.1 d_Rg_takeIfLess_99 rfl (lv_at hl 2 rfl) ?_
        refine m_gs (t := 92) S M (j := 2) ok_Rg (by decide) rfl (by decide) rfl kw_198 rfl d_Rg_takeIfLess_100 ?_
        refine m_xv h (fun o ho => m_rV (As := [.int v1, .ref (ad 92)]) (rest := []) S M hl.1 (cwG (n := 2) S.2.2.2.2 kw_205 kw_206 kw_207 kw_51 kw_208 (by decide) ⟨Nat.le_of_ble_eq_true rfl, Nat.le_of_ble_eq_true rfl⟩) ok_Se (by decide) rfl (c_Se_follow l D cA ad sB_16 wy_92 σ8 v1 o ho _) rfl rfl (Nat.le_of_ble_eq_true rfl) d_Rg_takeIfLess_103 ⟨Nat.zero_le _, Nat.zero_le _⟩) M (fun σ9 H locs h M => ?_)
        subst hQ; exact m_vret S hr hlk M (Option.some.inj h) d_Rg_takeIfLess_106
  · subst hQ; exact m_vret S hr hlk M (Option.some.inj h) d_Rg_takeIfLess_21
theorem d_Rg_find_0 : decode prog_4_method_2_code 0 = .ok (.aload_n 0, 1) := by decide +kernel
theorem d_Rg_find_1 : decode prog_4_method_2_code 1 = .ok (.getfield 12, 3) := by decide +kernel
theorem d_Rg_find_4 : decode prog_4_method_2_code 4 = .ok (.iconst 0, 1) := by decide +kernel
theorem d_Rg_find_5 : decode prog_4_method_2_code 5 = .ok (.lconst 0, 1) := by decide +kernel
theorem d_Rg_find_6 : decode prog_4_method_2_code 6 = .ok (.invokevirtual 26, 3) := by decide +kernel
theorem d_Rg_find_9 : decode prog_4_method_2_code 9 = .ok (.iconst 0, 1) := by decide +kernel
theorem d_Rg_find_10 : decode prog_4_method_2_code 10 = .ok (.istore_n 1, 1) := by decide +kernel
theorem d_Rg_find_11 : decode prog_4_method_2_code 11 = .ok (.iload_n 1, 1) := by decide +kernel
theorem d_Rg_find_12 : decode prog_4_method_2_code 12 = .ok (.aload_n 0, 1) := by decide +kernel
theorem d_Rg_find_13 : decode prog_4_method_2_code 13 = .ok (.getfield 18, 3) := by decide +kernel
theorem d_Rg_find_16 : decode prog_4_method_2_code 16 = .ok (.getfield 30, 3) := by decide +kernel
theorem d_Rg_find_19 : decode prog_4_method_2_code 19 = .ok (.if_icmp .ge 70, 3) := by decide +kernel
theorem d_Rg_find_22 : decode prog_4_method_2_code 22 = .ok (.aload_n 0, 1) := by decide +kernel
theorem d_Rg_find_23 : decode prog_4_method_2_code 23 = .ok (.getfield 18, 3) := by decide +kernel
theorem d_Rg_find_26 : decode prog_4_method_2_code 26 = .ok (.iload_n 1, 1) := by decide +kernel
theorem d_Rg_find_27 : decode prog_4_method_2_code 27 = .ok (.invokevirtual 36, 3) := by decide +kernel
theorem d_Rg_find_30 : decode prog_4_method_2_code 30 = .ok (.ifCond .eq 53, 3) := by decide +kernel
theorem d_Rg_find_33 : decode prog_4_method_2_code 33 = .ok (.aload_n 0, 1) := by decide +kernel
theorem d_Rg_find_34 : decode prog_4_method_2_code 34 = .ok (.getfield 22, 3) := by decide +kernel
theorem d_Rg_find_37 : decode prog_4_method_2_code 37 = .ok (.aload_n 0, 1) := by decide +kernel
theorem d_Rg_find_38 : decode prog_4_method_2_code 38 = .ok (.getfield 18, 3) := by decide +kernel
theorem d_Rg_find_41 : decode prog_4_method_2_code 41 = .ok (.getfield 40, 3) := by decide +kernel
theorem d_Rg_find_44 : decode prog_4_method_2_code 44 = .ok (.ldc2_w 44, 3) := by decide +kernel
theorem d_Rg_find_47 : decode prog_4_method_2_code 47 = .ok (.iload_n 1, 1) := by decide +kernel
theorem d_Rg_find_48 : decode prog_4_method_2_code 48 = .ok (.lshl, 1) := by decide +kernel
theorem d_Rg_find_49 : decode prog_4_method_2_code 49 = .ok (.land, 1) := by decide +kernel
theorem d_Rg_find_50 : decode prog_4_method_2_code 50 = .ok (.iconst 0, 1) := by decide +kernel
theorem d_Rg_find_51 : decode prog_4_method_2_code 51 = .ok (.invokevirtual 46, 3) := by decide +kernel
theorem d_Rg_find_54 : decode prog_4_method_2_code 54 = .ok (.aload_n 0, 1) := by decide +kernel
theorem d_Rg_find_55 : decode prog_4_method_2_code 55 = .ok (.getfield 22, 3) := by decide +kernel
theorem d_Rg_find_58 : decode prog_4_method_2_code 58 = .ok (.aload_n 0, 1) := by decide +kernel
theorem d_Rg_find_59 : decode prog_4_method_2_code 59 = .ok (.getfield 18, 3) := by decide +kernel
theorem d_Rg_find_62 : decode prog_4_method_2_code 62 = .ok (.getfield 52, 3) := by decide +kernel
theorem d_Rg_find_65 : decode prog_4_method_2_code 65 = .ok (.iload_n 1, 1) := by decide +kernel
theorem d_Rg_find_66 : decode prog_4_method_2_code 66 = .ok (.iaload, 1) := by decide +kernel
theorem d_Rg_find_67 : decode prog_4_method_2_code 67 = .ok (.iconst 0, 1) := by decide +kernel
theorem d_Rg_find_68 : decode prog_4_method_2_code 68 = .ok (.invokevirtual 56, 3) := by decide +kernel
theorem d_Rg_find_71 : decode prog_4_method_2_code 71 = .ok (.aload_n 0, 1) := by decide +kernel
theorem d_Rg_find_72 : decode prog_4_method_2_code 72 = .ok (.getfield 22, 3) := by decide +kernel
theorem d_Rg_find_75 : decode prog_4_method_2_code 75 = .ok (.invokevirtual 60, 3) := by decide +kernel
theorem d_Rg_find_78 : decode prog_4_method_2_code 78 = .ok (.aload_n 0, 1) := by decide +kernel
theorem d_Rg_find_79 : decode prog_4_method_2_code 79 = .ok (.iload_n 1, 1) := by decide +kernel
theorem d_Rg_find_80 : decode prog_4_method_2_code 80 = .ok (.invokevirtual 63, 3) := by decide +kernel
theorem d_Rg_find_83 : decode prog_4_method_2_code 83 = .ok (.iinc 1 1, 3) := by decide +kernel
theorem d_Rg_find_86 : decode prog_4_method_2_code 86 = .ok (.goto (-75), 3) := by decide +kernel
theorem d_Rg_find_89 : decode prog_4_method_2_code 89 = .ok (.return_, 1) := by decide +kernel
def rm_Rg_find : Room := { frames := 5, cells := 0, slots := 0, locals := 114 }
def f_Rg_find_L11 : (Int32 × mS) → Option ((Int32 × mS) ⊕ (Int32 × mS)) := fun t11 =>
  if (t11.2.1 1 7) ≤ t11.1 then (
  some (.inr (t11.1, t11.2))) else (
  (f_Gr_hasArc t11.2 t11.1).bind fun v2 =>
  if v2 = 0 then (
  some (.inl (t11.1 + 1, t11.2))) else (
  (f_Se_beginCounted 16 t11.2 ((t11.2.2.1 1 8) &&& (((-2)) <<< (t11.1.toInt64 &&& 63))) 0).bind fun σ3 =>
  gd (inb t11.1 40) (
  (f_Se_offer 16 σ3 (σ3.1 2 t11.1.toNatClampNeg) 0).bind fun σ4 =>
  (f_Se_settleAll 16 σ4).bind fun σ5 =>
  (f_Rg_takeIfLess σ5 t11.1).bind fun σ6 =>
  some (.inl (t11.1 + 1, σ6)))))
def f_Rg_find (σ : mS) : Option (mS) :=
  (f_Wy_begin 92 σ 0 0).bind fun σ1 =>
  (lpN (f_Rg_find_L11) fuS (0, σ1)).bind fun u11 =>
  some u11.2
set_option maxHeartbeats 4000000 in
set_option maxRecDepth 100000 in
theorem c_Rg_find (l : Launch) (D : va_G) (cA ad : Nat → Nat) (σ : mS) (o : mS) (h : f_Rg_find σ = some o) : mCv l ⟨"LeastPaths$Rings", "find", "()V"⟩ (Cond.code ⟨"LeastPaths$Rings", "find", "()V"⟩ prog_4_method_2_code 2 (Option.none : Option Jvm.ClassFile.FieldType) :: tlG) rm_Rg_find D clX (tyK cA) 99 (tbX cA) ad σ [.ref (ad 91)] o := by
  intro sz
  refine m_of (cc := prog_4_method_2_code) (maxL := 2) (Qc := mQv D clX (tyK cA) 99 (tbX cA) ad o) (by decide) (Nat.le_of_ble_eq_true rfl) (fun p e s m args below meth c ls S hr hlk hnm hl M => ?_) sz
  have hl : lv_has ls 2 [(0, .ref (ad 91))] := hl
  generalize hQ : MQ _ _ _ _ _ _ _ = Q
  skip
  unfold f_Rg_find at h
  refine lv_aload_n S.1 S.2.1 d_Rg_find_0 rfl (lv_at hl 0 rfl) ?_
  refine m_gs (t := 92) S M (j := 2) ok_Rg (by decide) rfl (by decide) rfl kw_198 rfl d_Rg_find_1 ?_
  refine lv_iconst (v := 0) S.1 S.2.1 d_Rg_find_4 (by decide) ?_
  refine lv_lconst (v := 0) S.1 S.2.1 d_Rg_find_5 (by decide) ?_
  refine m_xv h (fun o ho => m_rV (As := [.int 0, .long 0]) (rest := []) S M hl.1 (cwG (n := 2) S.2.2.2.2 kw_200 kw_201 kw_202 kw_128 kw_203 (by decide) ⟨Nat.le_of_ble_eq_true rfl, Nat.le_of_ble_eq_true rfl⟩) ok_Wy (by decide) rfl (c_Wy_begin l D cA ad wy_92 σ 0 0 o ho _) rfl rfl (Nat.le_of_ble_eq_true rfl) d_Rg_find_6 ⟨Nat.zero_le _, Nat.zero_le _⟩) M (fun σ1 H locs h M => ?_)
  refine lv_iconst (v := 0) S.1 S.2.1 d_Rg_find_9 (by decide) ?_
  refine lv_istore_n (lv' := [(1, .int 0), (0, .ref (ad 91))]) S.1 S.2.1 d_Rg_find_10 rfl hl (by decide) rfl (fun ls hl => ?_)
  obtain ⟨u11, q11, h⟩ := Option.bind_eq_some_iff.mp h
  refine lpN_W1 (st := f_Rg_find_L11) (fun (t11 : Int32 × mS) => ∀ (ls : Array Slot) (H : Heap) (locs : List Loc), lv_has ls 2 [(1, .int t11.1), (0, .ref (ad 91))] → mM D clX (tyK cA) (mA 99 ad s.heap.size) s 99 (tbX cA) ad t11.2 H locs → W p l e rm_Rg_find s m args below meth c H locs 0 0 Q (F0 m 11 ls [])) (fun (u11 : Int32 × mS) => ∀ (ls : Array Slot) (H : Heap) (locs : List Loc), lv_has ls 2 [(1, .int u11.1), (0, .ref (ad 91))] → mM D clX (tyK cA) (mA 99 ad s.heap.size) s 99 (tbX cA) ad u11.2 H locs → W p l e rm_Rg_find s m args below meth c H locs 0 0 Q (F0 m 89 ls [])) ?_ fuS ((0, σ1) : Int32 × mS) u11 q11 ?_ ls _ _ (lv_sub hl [0, 1] rfl) M
  · intro t11 oo11 h K1 K2 ls H locs hl M
    unfold f_Rg_find_L11 at h
    refine lv_iload_n S.1 S.2.1 d_Rg_find_11 rfl (lv_at hl 0 rfl) ?_
    refine lv_aload_n S.1 S.2.1 d_Rg_find_12 rfl (lv_at hl 1 rfl) ?_
    refine m_gs (t := 1) S M (j := 0) ok_Rg (by decide) rfl (by decide) rfl kw_192 rfl d_Rg_find_13 ?_
    refine m_gi S M (j := 7) ok_Gr (by decide) rfl (by decide) rfl kw_210 rfl d_Rg_find_16 ?_
    refine m_ige (tgt := 89) S d_Rg_find_19 (by decide) h (fun h => ?_) (fun h => ?_)
    · exact K2 _ (Option.some.inj h).symm ls _ _ (lv_sub hl [0, 1] rfl) M
    · refine lv_aload_n S.1 S.2.1 d_Rg_find_22 rfl (lv_at hl 1 rfl) ?_
      refine m_gs (t := 1) S M (j := 0) ok_Rg (by decide) rfl (by decide) rfl kw_192 rfl d_Rg_find_23 ?_
      refine lv_iload_n S.1 S.2.1 d_Rg_find_26 rfl (lv_at hl 0 rfl) ?_
      refine m_xip h (fun o ho => m_rV (As := [.int t11.1]) (rest := []) S M hl.1 (cwG (n := 1) S.2.2.2.2 kw_211 kw_13 kw_14 kw_15 kw_16 (by decide) ⟨Nat.le_of_ble_eq_true rfl, Nat.le_of_ble_eq_true rfl⟩) ok_Gr (by decide) rfl (c_Gr_hasArc l D cA ad t11.2 t11.1 o ho _) rfl rfl (Nat.le_of_ble_eq_true rfl) d_Rg_find_27 ⟨Nat.zero_le _, Nat.zero_le _⟩) M (fun v2 H locs h M => ?_)
      refine m_ifeq (tgt := 83) S d_Rg_find_30 (by decide) h (fun h => ?_) (fun h => ?_)
      · refine lv_iinc (v := t11.1 + 1) (lv' := [(1, .int (t11.1 + 1)), (0, .ref (ad 91))]) S.1 S.2.1 d_Rg_find_83 hl (k := 0) rfl rfl (by decide) rfl (fun ls hl => ?_)
        refine lv_goto (tgt := 11) S.1 S.2.1 d_Rg_find_86 (by decide) ?_
        exact K1 _ (Option.some.inj h).symm ls _ _ (lv_sub hl [0, 1] rfl) M
      · refine lv_aload_n S.1 S.2.1 d_Rg_find_33 rfl (lv_at hl 1 rfl) ?_
        refine m_gs (t := 16) S M (j := 1) ok_Rg (by decide) rfl (by decide) rfl kw_194 rfl d_Rg_find_34 ?_
        refine lv_aload_n S.1 S.2.1 d_Rg_find_37 rfl (lv_at hl 1 rfl) ?_
        refine m_gs (t := 1) S M (j := 0) ok_Rg (by decide) rfl (by decide) rfl kw_192 rfl d_Rg_find_38 ?_
        refine m_gl S M (j := 8) ok_Gr (by decide) rfl (by decide) rfl kw_212 rfl d_Rg_find_41 ?_
        refine lv_ldc2 (v := (-2)) S.1 S.2.1 S.2.2.2.1 (S.2.2.2.2 _ kw_213) d_Rg_find_44 ?_
        refine lv_iload_n S.1 S.2.1 d_Rg_find_47 rfl (lv_at hl 0 rfl) ?_
        refine lv_lshl S.1 S.2.1 d_Rg_find_48 rfl ?_
        refine lv_land S.1 S.2.1 d_Rg_find_49 ?_
        refine lv_iconst (v := 0) S.1 S.2.1 d_Rg_find_50 (by decide) ?_
        refine m_xv h (fun o ho => m_rV (As := [.long ((t11.2.2.1 1 8) &&& (((-2)) <<< (t11.1.toInt64 &&& 63))), .int 0]) (rest := []) S M hl.1 (cwG (n := 2) S.2.2.2.2 kw_214 kw_215 kw_216 kw_51 kw_217 (by decide) ⟨Nat.le_of_ble_eq_true rfl, Nat.le_of_ble_eq_true rfl⟩) ok_Se (by decide) rfl (c_Se_beginCounted l D cA ad sB_16 t11.2 ((t11.2.2.1 1 8) &&& (((-2)) <<< (t11.1.toInt64 &&& 63))) 0 o ho _) rfl rfl (Nat.le_of_ble_eq_true rfl) d_Rg_find_51 ⟨Nat.zero_le _, Nat.zero_le _⟩) M (fun σ3 H locs h M => ?_)
        refine lv_aload_n S.1 S.2.1 d_Rg_find_54 rfl (lv_at hl 1 rfl) ?_
        refine m_gs (t := 16) S M (j := 1) ok_Rg (by decide) rfl (by decide) rfl kw_194 rfl d_Rg_find_55 ?_
        refine lv_aload_n S.1 S.2.1 d_Rg_find_58 rfl (lv_at hl 1 rfl) ?_
        refine m_gs (t := 1) S M (j := 0) ok_Rg (by decide) rfl (by decide) rfl kw_192 rfl d_Rg_find_59 ?_
        refine m_gs (t := 2) S M (j := 0) ok_Gr (by decide) rfl (by decide) rfl kw_218 rfl d_Rg_find_62 ?_
        refine lv_iload_n S.1 S.2.1 d_Rg_find_65 rfl (lv_at hl 0 rfl) ?_
        refine m_ial (t0 := 0) S M (by decide) rfl rfl h d_Rg_find_66 (fun h => ?_)
        refine lv_iconst (v := 0) S.1 S.2.1 d_Rg_find_67 (by decide) ?_
        refine m_xv h (fun o ho => m_rV (As := [.int (σ3.1 2 t11.1.toNatClampNeg), .int 0]) (rest := []) S M hl.1 (cwG (n := 2) S.2.2.2.2 kw_219 kw_97 kw_98 kw_51 kw_99 (by decide) ⟨Nat.le_of_ble_eq_true rfl, Nat.le_of_ble_eq_true rfl⟩) ok_Se (by decide) rfl (c_Se_offer l D cA ad sB_16 σ3 (σ3.1 2 t11.1.toNatClampNeg) 0 o ho _) rfl rfl (Nat.le_of_ble_eq_true rfl) d_Rg_find_68 ⟨Nat.zero_le _, Nat.zero_le _⟩) M (fun σ4 H locs h M => ?_)
        refine lv_aload_n S.1 S.2.1 d_Rg_find_71 rfl (lv_at hl 1 rfl) ?_
        refine m_gs (t := 16) S M (j := 1) ok_Rg (by decide) rfl (by decide) rfl kw_194 rfl d_Rg_find_72 ?_
        refine m_xv h (fun o ho => m_rV (As := []) (rest := []) S M hl.1 (cwG (n := 0) S.2.2.2.2 kw_220 kw_221 kw_222 kw_51 kw_223 (by decide) ⟨Nat.le_of_ble_eq_true rfl, Nat.le_of_ble_eq_true rfl⟩) ok_Se (by decide) rfl (c_Se_settleAll l D cA ad sB_16 σ4 o ho _) rfl rfl (Nat.le_of_ble_eq_true rfl) d_Rg_find_75 ⟨Nat.zero_le _, Nat.zero_le _⟩) M (fun σ5 H locs h M => ?_)
        refine lv_aload_n S.1 S.2.1 d_Rg_find_78 rfl (lv_at hl 1 rfl) ?_
        refine lv_iload_n S.1 S.2.1 d_Rg_find_79 rfl (lv_at hl 0 rfl) ?_
        refine m_xv h (fun o ho => m_rV (As := [.int t11.1]) (rest := []) S M hl.1 (cwG (n := 1) S.2.2.2.2 kw_224 kw_225 kw_226 kw_227 kw_228 (by decide) ⟨Nat.le_of_ble_eq_true rfl, Nat.le_of_ble_eq_true rfl⟩) ok_Rg (by decide) rfl (c_Rg_takeIfLess l D cA ad σ5 t11.1 o ho _) rfl rfl (Nat.le_of_ble_eq_true rfl) d_Rg_find_80 ⟨Nat.zero_le _, Nat.zero_le _⟩) M (fun σ6 H locs h M => ?_)
        refine lv_iinc (v := t11.1 + 1) (lv' := [(1, .int (t11.1 + 1)), (0, .ref (ad 91))]) S.1 S.2.1 d_Rg_find_83 hl (k := 0) rfl rfl (by decide) rfl (fun ls hl => ?_)
        refine lv_goto (tgt := 11) S.1 S.2.1 d_Rg_find_86 (by decide) ?_
        exact K1 _ (Option.some.inj h).symm ls _ _ (lv_sub hl [0, 1] rfl) M
  · intro ls H locs hl M
    subst hQ; exact m_vret S hr hlk M (Option.some.inj h) d_Rg_find_89
