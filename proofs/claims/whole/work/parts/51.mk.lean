theorem d_LP_init_0 : decode prog_1_method_1_code 0 = .ok (.aload_n 0, 1) := by decide +kernel
theorem d_LP_init_1 : decode prog_1_method_1_code 1 = .ok (.invokespecial 3, 3) := by decide +kernel
theorem d_LP_init_4 : decode prog_1_method_1_code 4 = .ok (.aload_n 0, 1) := by decide +kernel
theorem d_LP_init_5 : decode prog_1_method_1_code 5 = .ok (.iconst 3, 1) := by decide +kernel
theorem d_LP_init_6 : decode prog_1_method_1_code 6 = .ok (.iconst 1, 1) := by decide +kernel
theorem d_LP_init_7 : decode prog_1_method_1_code 7 = .ok (.iload_n 1, 1) := by decide +kernel
theorem d_LP_init_8 : decode prog_1_method_1_code 8 = .ok (.invokestatic 11, 3) := by decide +kernel
theorem d_LP_init_11 : decode prog_1_method_1_code 11 = .ok (.invokestatic 17, 3) := by decide +kernel
theorem d_LP_init_14 : decode prog_1_method_1_code 14 = .ok (.putfield 20, 3) := by decide +kernel
theorem d_LP_init_17 : decode prog_1_method_1_code 17 = .ok (.aload_n 0, 1) := by decide +kernel
theorem d_LP_init_18 : decode prog_1_method_1_code 18 = .ok (.new 24, 3) := by decide +kernel
theorem d_LP_init_21 : decode prog_1_method_1_code 21 = .ok (.dup, 1) := by decide +kernel
theorem d_LP_init_22 : decode prog_1_method_1_code 22 = .ok (.invokespecial 26, 3) := by decide +kernel
theorem d_LP_init_25 : decode prog_1_method_1_code 25 = .ok (.putfield 27, 3) := by decide +kernel
theorem d_LP_init_28 : decode prog_1_method_1_code 28 = .ok (.aload_n 0, 1) := by decide +kernel
theorem d_LP_init_29 : decode prog_1_method_1_code 29 = .ok (.new 31, 3) := by decide +kernel
theorem d_LP_init_32 : decode prog_1_method_1_code 32 = .ok (.dup, 1) := by decide +kernel
theorem d_LP_init_33 : decode prog_1_method_1_code 33 = .ok (.aload_n 0, 1) := by decide +kernel
theorem d_LP_init_34 : decode prog_1_method_1_code 34 = .ok (.getfield 27, 3) := by decide +kernel
theorem d_LP_init_37 : decode prog_1_method_1_code 37 = .ok (.iconst 0, 1) := by decide +kernel
theorem d_LP_init_38 : decode prog_1_method_1_code 38 = .ok (.aload_n 0, 1) := by decide +kernel
theorem d_LP_init_39 : decode prog_1_method_1_code 39 = .ok (.getfield 20, 3) := by decide +kernel
theorem d_LP_init_42 : decode prog_1_method_1_code 42 = .ok (.invokespecial 33, 3) := by decide +kernel
theorem d_LP_init_45 : decode prog_1_method_1_code 45 = .ok (.putfield 36, 3) := by decide +kernel
theorem d_LP_init_48 : decode prog_1_method_1_code 48 = .ok (.aload_n 0, 1) := by decide +kernel
theorem d_LP_init_49 : decode prog_1_method_1_code 49 = .ok (.new 31, 3) := by decide +kernel
theorem d_LP_init_52 : decode prog_1_method_1_code 52 = .ok (.dup, 1) := by decide +kernel
theorem d_LP_init_53 : decode prog_1_method_1_code 53 = .ok (.aload_n 0, 1) := by decide +kernel
theorem d_LP_init_54 : decode prog_1_method_1_code 54 = .ok (.getfield 27, 3) := by decide +kernel
theorem d_LP_init_57 : decode prog_1_method_1_code 57 = .ok (.iconst 1, 1) := by decide +kernel
theorem d_LP_init_58 : decode prog_1_method_1_code 58 = .ok (.aload_n 0, 1) := by decide +kernel
theorem d_LP_init_59 : decode prog_1_method_1_code 59 = .ok (.getfield 20, 3) := by decide +kernel
theorem d_LP_init_62 : decode prog_1_method_1_code 62 = .ok (.invokespecial 33, 3) := by decide +kernel
theorem d_LP_init_65 : decode prog_1_method_1_code 65 = .ok (.putfield 40, 3) := by decide +kernel
theorem d_LP_init_68 : decode prog_1_method_1_code 68 = .ok (.aload_n 0, 1) := by decide +kernel
theorem d_LP_init_69 : decode prog_1_method_1_code 69 = .ok (.new 43, 3) := by decide +kernel
theorem d_LP_init_72 : decode prog_1_method_1_code 72 = .ok (.dup, 1) := by decide +kernel
theorem d_LP_init_73 : decode prog_1_method_1_code 73 = .ok (.aload_n 0, 1) := by decide +kernel
theorem d_LP_init_74 : decode prog_1_method_1_code 74 = .ok (.getfield 36, 3) := by decide +kernel
theorem d_LP_init_77 : decode prog_1_method_1_code 77 = .ok (.aload_n 0, 1) := by decide +kernel
theorem d_LP_init_78 : decode prog_1_method_1_code 78 = .ok (.getfield 40, 3) := by decide +kernel
theorem d_LP_init_81 : decode prog_1_method_1_code 81 = .ok (.invokespecial 45, 3) := by decide +kernel
theorem d_LP_init_84 : decode prog_1_method_1_code 84 = .ok (.putfield 48, 3) := by decide +kernel
theorem d_LP_init_87 : decode prog_1_method_1_code 87 = .ok (.aload_n 0, 1) := by decide +kernel
theorem d_LP_init_88 : decode prog_1_method_1_code 88 = .ok (.new 52, 3) := by decide +kernel
theorem d_LP_init_91 : decode prog_1_method_1_code 91 = .ok (.dup, 1) := by decide +kernel
theorem d_LP_init_92 : decode prog_1_method_1_code 92 = .ok (.aload_n 0, 1) := by decide +kernel
theorem d_LP_init_93 : decode prog_1_method_1_code 93 = .ok (.getfield 27, 3) := by decide +kernel
theorem d_LP_init_96 : decode prog_1_method_1_code 96 = .ok (.aload_n 0, 1) := by decide +kernel
theorem d_LP_init_97 : decode prog_1_method_1_code 97 = .ok (.getfield 40, 3) := by decide +kernel
theorem d_LP_init_100 : decode prog_1_method_1_code 100 = .ok (.invokespecial 54, 3) := by decide +kernel
theorem d_LP_init_103 : decode prog_1_method_1_code 103 = .ok (.putfield 57, 3) := by decide +kernel
theorem d_LP_init_106 : decode prog_1_method_1_code 106 = .ok (.aload_n 0, 1) := by decide +kernel
theorem d_LP_init_107 : decode prog_1_method_1_code 107 = .ok (.new 61, 3) := by decide +kernel
theorem d_LP_init_110 : decode prog_1_method_1_code 110 = .ok (.dup, 1) := by decide +kernel
theorem d_LP_init_111 : decode prog_1_method_1_code 111 = .ok (.aload_n 0, 1) := by decide +kernel
theorem d_LP_init_112 : decode prog_1_method_1_code 112 = .ok (.getfield 27, 3) := by decide +kernel
theorem d_LP_init_115 : decode prog_1_method_1_code 115 = .ok (.aload_n 0, 1) := by decide +kernel
theorem d_LP_init_116 : decode prog_1_method_1_code 116 = .ok (.getfield 40, 3) := by decide +kernel
theorem d_LP_init_119 : decode prog_1_method_1_code 119 = .ok (.invokespecial 63, 3) := by decide +kernel
theorem d_LP_init_122 : decode prog_1_method_1_code 122 = .ok (.putfield 64, 3) := by decide +kernel
theorem d_LP_init_125 : decode prog_1_method_1_code 125 = .ok (.aload_n 0, 1) := by decide +kernel
theorem d_LP_init_126 : decode prog_1_method_1_code 126 = .ok (.new 68, 3) := by decide +kernel
theorem d_LP_init_129 : decode prog_1_method_1_code 129 = .ok (.dup, 1) := by decide +kernel
theorem d_LP_init_130 : decode prog_1_method_1_code 130 = .ok (.aload_n 0, 1) := by decide +kernel
theorem d_LP_init_131 : decode prog_1_method_1_code 131 = .ok (.getfield 27, 3) := by decide +kernel
theorem d_LP_init_134 : decode prog_1_method_1_code 134 = .ok (.invokespecial 70, 3) := by decide +kernel
theorem d_LP_init_137 : decode prog_1_method_1_code 137 = .ok (.putfield 73, 3) := by decide +kernel
theorem d_LP_init_140 : decode prog_1_method_1_code 140 = .ok (.aload_n 0, 1) := by decide +kernel
theorem d_LP_init_141 : decode prog_1_method_1_code 141 = .ok (.new 77, 3) := by decide +kernel
theorem d_LP_init_144 : decode prog_1_method_1_code 144 = .ok (.dup, 1) := by decide +kernel
theorem d_LP_init_145 : decode prog_1_method_1_code 145 = .ok (.aload_n 0, 1) := by decide +kernel
theorem d_LP_init_146 : decode prog_1_method_1_code 146 = .ok (.getfield 27, 3) := by decide +kernel
theorem d_LP_init_149 : decode prog_1_method_1_code 149 = .ok (.invokespecial 79, 3) := by decide +kernel
theorem d_LP_init_152 : decode prog_1_method_1_code 152 = .ok (.putfield 80, 3) := by decide +kernel
theorem d_LP_init_155 : decode prog_1_method_1_code 155 = .ok (.return_, 1) := by decide +kernel
def rm_LP_init : Room := { frames := 3, cells := 98, slots := 949, locals := 65 }
def g_LP (σ : mS) (x1 : Int32) : mS := (sQ (g_Tr (sQ (g_Wi (sQ (g_Rg (sQ (g_Rw (sQ (g_BS (sQ (g_Se 16 (sQ (g_Se 8 (sQ (g_Gr (sI σ 0 0 (if (if 1 < x1 then x1 else 1) < 3 then (if 1 < x1 then x1 else 1) else 3))) 0 1 (some 1)) 0 (if (if 1 < x1 then x1 else 1) < 3 then (if 1 < x1 then x1 else 1) else 3)) 0 2 (some 8)) 1 (if (if 1 < x1 then x1 else 1) < 3 then (if 1 < x1 then x1 else 1) else 3)) 0 3 (some 16))) 0 4 (some 24))) 0 5 (some 25))) 0 6 (some 91))) 0 7 (some 94))) 0 8 (some 96))
theorem gi_LP {σ : mS} (hI : mI (1) σ) (x1 : Int32) : mI (99) (g_LP σ x1) := by
  have hI := mI_sI (k := 0) (j := 0) (v := if (if 1 < x1 then x1 else 1) < 3 then (if 1 < x1 then x1 else 1) else 3) hI (by omega)
  have hI := mI_up hI
  have hI := gi_Gr  hI 
  have hI := mI_sQ (k := 0) (j := 1) (y := 1) hI (by omega) (by omega)
  have hI := mI_up hI
  have hI := gi_Se sB_8 hI 0 (if (if 1 < x1 then x1 else 1) < 3 then (if 1 < x1 then x1 else 1) else 3)
  have hI := mI_sQ (k := 0) (j := 2) (y := 8) hI (by omega) (by omega)
  have hI := mI_up hI
  have hI := gi_Se sB_16 hI 1 (if (if 1 < x1 then x1 else 1) < 3 then (if 1 < x1 then x1 else 1) else 3)
  have hI := mI_sQ (k := 0) (j := 3) (y := 16) hI (by omega) (by omega)
  have hI := mI_up hI
  have hI := gi_BS  hI 
  have hI := mI_sQ (k := 0) (j := 4) (y := 24) hI (by omega) (by omega)
  have hI := mI_up hI
  have hI := gi_Rw  hI 
  have hI := mI_sQ (k := 0) (j := 5) (y := 25) hI (by omega) (by omega)
  have hI := mI_up hI
  have hI := gi_Rg  hI 
  have hI := mI_sQ (k := 0) (j := 6) (y := 91) hI (by omega) (by omega)
  have hI := mI_up hI
  have hI := gi_Wi  hI 
  have hI := mI_sQ (k := 0) (j := 7) (y := 94) hI (by omega) (by omega)
  have hI := mI_up hI
  have hI := gi_Tr  hI 
  have hI := mI_sQ (k := 0) (j := 8) (y := 96) hI (by omega) (by omega)
  exact hI
set_option maxHeartbeats 4000000 in
set_option maxRecDepth 100000 in
theorem c_LP_init (l : Launch) (D : va_G) (cA ad : Nat → Nat) (σ : mS) (hI : mI (1) σ) (h0 : Nat) (e0 : ad (0) = h0) (x1 : Int32) : mCn l ⟨"LeastPaths", "<init>", "(I)V"⟩ (Cond.code ⟨"LeastPaths", "<init>", "(I)V"⟩ prog_1_method_1_code 2 none :: tlG) rm_LP_init D clX (tyK cA) (tbC cA) (1) ad σ [.ref h0, .int x1] (99) (g_LP σ x1) 98 949 := by
  intro sz
  refine m_ofN (cc := prog_1_method_1_code) (maxL := 2) (ret := none) (Qc := mQn D clX (tyK cA) (tbC cA) (1) ad (99) (g_LP σ x1)) (by decide) (Nat.le_of_ble_eq_true rfl) (fun p e s m args below meth c ls S hr hlk hnm hl N M => ?_) sz
  have hl : lv_has ls 2 [(0, .ref h0), (1, .int x1)] := hl
  have hA : ∀ q, s.heap.size ≤ q → mA (1) ad s.heap.size q := fun q h => Or.inr h
  have G : ∀ k, k < 1 → ad k = ad k := fun _ _ => rfl
  refine lv_aload_n S.1 S.2.1 d_LP_init_0 rfl (lv_at hl 0 rfl) ?_
  refine W.objInit S.1 S.2.1 S.2.2.2.1 (S.2.2.2.2 _ kc_56) (S.2.2.2.2 _ kc_1) (S.2.2.2.2 _ kc_2) rfl (hl.1.trans S.2.2.1.symm) rfl d_LP_init_1 (Nat.le_of_ble_eq_true rfl) (Nat.le_of_ble_eq_true rfl) ?_
  refine W.eq (g2 := F0 m 4 ls []) rfl ?_
  refine lv_aload_n S.1 S.2.1 d_LP_init_4 rfl (lv_at hl 0 rfl) ?_
  refine lv_iconst (v := 3) S.1 S.2.1 d_LP_init_5 (by decide) ?_
  refine lv_iconst (v := 1) S.1 S.2.1 d_LP_init_6 (by decide) ?_
  refine lv_iload_n S.1 S.2.1 d_LP_init_7 rfl (lv_at hl 1 rfl) ?_
  refine va_mmax (rest := [.int 3, .ref h0]) S.1 S.2.1 (S.2.2.1.trans hl.1.symm) S.2.2.2.1 (S.2.2.2.2 _ kc_57) (S.2.2.2.2 _ kc_14) (S.2.2.2.2 _ kc_15) (S.2.2.2.2 _ kc_16) (Nat.le_of_ble_eq_true rfl) (Nat.le_of_ble_eq_true rfl) (Nat.le_of_ble_eq_true rfl) (Nat.le_of_ble_eq_true rfl) d_LP_init_8 ?_
  refine va_mmin (rest := [.ref h0]) S.1 S.2.1 (S.2.2.1.trans hl.1.symm) S.2.2.2.1 (S.2.2.2.2 _ kc_58) (S.2.2.2.2 _ kc_59) (S.2.2.2.2 _ kc_15) (S.2.2.2.2 _ kc_60) (Nat.le_of_ble_eq_true rfl) (Nat.le_of_ble_eq_true rfl) (Nat.le_of_ble_eq_true rfl) (Nat.le_of_ble_eq_true rfl) d_LP_init_11 ?_
  refine m_nI (k := 0) (j := 0) S M ok_LP ((G (0) (by omega)).trans e0) (by omega) rfl (by decide) rfl kc_61 rfl hnm rfl rfl d_LP_init_14 (fun H locs M => ?_)
  have hI := mI_sI (k := 0) (j := 0) (v := if (if 1 < x1 then x1 else 1) < 3 then (if 1 < x1 then x1 else 1) else 3) hI (by omega)
  refine lv_aload_n S.1 S.2.1 d_LP_init_17 rfl (lv_at hl 0 rfl) ?_
  refine m_new S M hI (tC_dy cA) hA ok_Gr rfl kc_62 kn_Gr kc_63 kd_Gr (Nat.le_of_ble_eq_true rfl) (Nat.le_of_ble_eq_true rfl) d_LP_init_18 (fun q ad1 H g1 f M => ?_)
  subst f
  have hI := mI_up hI
  have G : ∀ k, k < 1 → ad1 k = ad k := fun k hk => (g1 k (by omega)).trans (G k hk)
  have f1 : ad1 (1) = ad1 (1) := rfl
  refine lv_dup S.1 S.2.1 d_LP_init_21 rfl ?_
  refine m_xn (m_rIN (As := []) (rest := [.ref (ad1 (1)), .ref h0]) S N M hl.1 (cwGN (n := 0) S.2.2.2.2 N.1 kc_64 kc_63 kc_65 rfl (by decide) ⟨Nat.le_of_ble_eq_true rfl, Nat.le_of_ble_eq_true rfl⟩) (c_Gr_init l D cA _ _  hI _ f1  ) rfl rfl (Nat.le_of_ble_eq_true rfl) d_LP_init_22 ⟨Nat.le_of_ble_eq_true rfl, Nat.le_of_ble_eq_true rfl⟩) M hA (fun ad2 H locs g2 M => ?_)
  have hI := gi_Gr  hI 
  have G : ∀ k, k < 1 → ad2 k = ad k := fun k hk => (g2 k (by omega)).trans (G k hk)
  have f1 : ad2 (1) = (ad1 (1)) := (g2 (1) (by omega)).trans f1
  refine m_nQ (k := 0) (y := 1) (j := 1) S M ok_LP ((G (0) (by omega)).trans e0) f1 (by omega) rfl (by decide) rfl kc_66 rfl rfl hnm rfl rfl d_LP_init_25 (fun H locs M => ?_)
  have hI := mI_sQ (k := 0) (j := 1) (y := 1) hI (by omega) (by omega)
  refine lv_aload_n S.1 S.2.1 d_LP_init_28 rfl (lv_at hl 0 rfl) ?_
  refine m_new S M hI (tC_dy cA) hA ok_Se rfl kc_67 kn_Se kc_68 kd_Se (Nat.le_of_ble_eq_true rfl) (Nat.le_of_ble_eq_true rfl) d_LP_init_29 (fun q ad3 H g3 f M => ?_)
  subst f
  have hI := mI_up hI
  have G : ∀ k, k < 1 → ad3 k = ad k := fun k hk => (g3 k (by omega)).trans (G k hk)
  have f3 : ad3 (8) = ad3 (8) := rfl
  refine lv_dup S.1 S.2.1 d_LP_init_32 rfl ?_
  refine lv_aload_n S.1 S.2.1 d_LP_init_33 rfl (lv_at hl 0 rfl) ?_
  refine m_gq (k := 0) (j := 1) (y := 1) S M ok_LP ((G (0) (by omega)).trans e0) (by omega) rfl (by decide) rfl kc_66 rfl rfl d_LP_init_34 ?_
  refine lv_iconst (v := 0) S.1 S.2.1 d_LP_init_37 (by decide) ?_
  refine lv_aload_n S.1 S.2.1 d_LP_init_38 rfl (lv_at hl 0 rfl) ?_
  refine m_giA (k := 0) (j := 0) (v := if (if 1 < x1 then x1 else 1) < 3 then (if 1 < x1 then x1 else 1) else 3) S M ok_LP ((G (0) (by omega)).trans e0) (by omega) rfl (by decide) rfl kc_61 rfl rfl d_LP_init_39 ?_
  refine m_xn (m_rI (As := [.ref (ad3 (1)), .int 0, .int (if (if 1 < x1 then x1 else 1) < 3 then (if 1 < x1 then x1 else 1) else 3)]) (rest := [.ref (ad3 (8)), .ref h0]) S N M hl.1 (cwGI (n := 3) S.2.2.2.2 kc_69 kc_70 kc_68 kc_71 rfl (by decide) ⟨Nat.le_of_ble_eq_true rfl, Nat.le_of_ble_eq_true rfl⟩) (c_Se_init l D cA _ _ sB_8 hI _ _ f3 rfl 0 (if (if 1 < x1 then x1 else 1) < 3 then (if 1 < x1 then x1 else 1) else 3) (by decide)) rfl rfl (Nat.le_of_ble_eq_true rfl) d_LP_init_42 ⟨Nat.le_of_ble_eq_true rfl, Nat.le_of_ble_eq_true rfl⟩) M hA (fun ad4 H locs g4 M => ?_)
  have hI := gi_Se sB_8 hI 0 (if (if 1 < x1 then x1 else 1) < 3 then (if 1 < x1 then x1 else 1) else 3)
  have G : ∀ k, k < 1 → ad4 k = ad k := fun k hk => (g4 k (by omega)).trans (G k hk)
  have f3 : ad4 (8) = (ad3 (8)) := (g4 (8) (by omega)).trans f3
  refine m_nQ (k := 0) (y := 8) (j := 2) S M ok_LP ((G (0) (by omega)).trans e0) f3 (by omega) rfl (by decide) rfl kc_72 rfl rfl hnm rfl rfl d_LP_init_45 (fun H locs M => ?_)
  have hI := mI_sQ (k := 0) (j := 2) (y := 8) hI (by omega) (by omega)
  refine lv_aload_n S.1 S.2.1 d_LP_init_48 rfl (lv_at hl 0 rfl) ?_
  refine m_new S M hI (tC_dy cA) hA ok_Se rfl kc_67 kn_Se kc_68 kd_Se (Nat.le_of_ble_eq_true rfl) (Nat.le_of_ble_eq_true rfl) d_LP_init_49 (fun q ad5 H g5 f M => ?_)
  subst f
  have hI := mI_up hI
  have G : ∀ k, k < 1 → ad5 k = ad k := fun k hk => (g5 k (by omega)).trans (G k hk)
  have f5 : ad5 (16) = ad5 (16) := rfl
  refine lv_dup S.1 S.2.1 d_LP_init_52 rfl ?_
  refine lv_aload_n S.1 S.2.1 d_LP_init_53 rfl (lv_at hl 0 rfl) ?_
  refine m_gq (k := 0) (j := 1) (y := 1) S M ok_LP ((G (0) (by omega)).trans e0) (by omega) rfl (by decide) rfl kc_66 rfl rfl d_LP_init_54 ?_
  refine lv_iconst (v := 1) S.1 S.2.1 d_LP_init_57 (by decide) ?_
  refine lv_aload_n S.1 S.2.1 d_LP_init_58 rfl (lv_at hl 0 rfl) ?_
  refine m_giA (k := 0) (j := 0) (v := if (if 1 < x1 then x1 else 1) < 3 then (if 1 < x1 then x1 else 1) else 3) S M ok_LP ((G (0) (by omega)).trans e0) (by omega) rfl (by decide) rfl kc_61 rfl rfl d_LP_init_59 ?_
  refine m_xn (m_rI (As := [.ref (ad5 (1)), .int 1, .int (if (if 1 < x1 then x1 else 1) < 3 then (if 1 < x1 then x1 else 1) else 3)]) (rest := [.ref (ad5 (16)), .ref h0]) S N M hl.1 (cwGI (n := 3) S.2.2.2.2 kc_69 kc_70 kc_68 kc_71 rfl (by decide) ⟨Nat.le_of_ble_eq_true rfl, Nat.le_of_ble_eq_true rfl⟩) (c_Se_init l D cA _ _ sB_16 hI _ _ f5 rfl 1 (if (if 1 < x1 then x1 else 1) < 3 then (if 1 < x1 then x1 else 1) else 3) (by decide)) rfl rfl (Nat.le_of_ble_eq_true rfl) d_LP_init_62 ⟨Nat.le_of_ble_eq_true rfl, Nat.le_of_ble_eq_true rfl⟩) M hA (fun ad6 H locs g6 M => ?_)
  have hI := gi_Se sB_16 hI 1 (if (if 1 < x1 then x1 else 1) < 3 then (if 1 < x1 then x1 else 1) else 3)
  have G : ∀ k, k < 1 → ad6 k = ad k := fun k hk => (g6 k (by omega)).trans (G k hk)
  have f5 : ad6 (16) = (ad5 (16)) := (g6 (16) (by omega)).trans f5
  refine m_nQ (k := 0) (y := 16) (j := 3) S M ok_LP ((G (0) (by omega)).trans e0) f5 (by omega) rfl (by decide) rfl kc_73 rfl rfl hnm rfl rfl d_LP_init_65 (fun H locs M => ?_)
  have hI := mI_sQ (k := 0) (j := 3) (y := 16) hI (by omega) (by omega)
  refine lv_aload_n S.1 S.2.1 d_LP_init_68 rfl (lv_at hl 0 rfl) ?_
  refine m_new S M hI (tC_dy cA) hA ok_BS rfl kc_74 kn_BS kc_75 kd_BS (Nat.le_of_ble_eq_true rfl) (Nat.le_of_ble_eq_true rfl) d_LP_init_69 (fun q ad7 H g7 f M => ?_)
  subst f
  have hI := mI_up hI
  have G : ∀ k, k < 1 → ad7 k = ad k := fun k hk => (g7 k (by omega)).trans (G k hk)
  have f7 : ad7 (24) = ad7 (24) := rfl
  refine lv_dup S.1 S.2.1 d_LP_init_72 rfl ?_
  refine lv_aload_n S.1 S.2.1 d_LP_init_73 rfl (lv_at hl 0 rfl) ?_
  refine m_gq (k := 0) (j := 2) (y := 8) S M ok_LP ((G (0) (by omega)).trans e0) (by omega) rfl (by decide) rfl kc_72 rfl rfl d_LP_init_74 ?_
  refine lv_aload_n S.1 S.2.1 d_LP_init_77 rfl (lv_at hl 0 rfl) ?_
  refine m_gq (k := 0) (j := 3) (y := 16) S M ok_LP ((G (0) (by omega)).trans e0) (by omega) rfl (by decide) rfl kc_73 rfl rfl d_LP_init_78 ?_
  refine m_xn (m_rI (As := [.ref (ad7 (8)), .ref (ad7 (16))]) (rest := [.ref (ad7 (24)), .ref h0]) S N M hl.1 (cwGI (n := 2) S.2.2.2.2 kc_76 kc_77 kc_75 kc_78 rfl (by decide) ⟨Nat.le_of_ble_eq_true rfl, Nat.le_of_ble_eq_true rfl⟩) (c_BS_init l D cA _ _  hI _ _ _ f7 rfl rfl ) rfl rfl (Nat.le_of_ble_eq_true rfl) d_LP_init_81 ⟨Nat.le_of_ble_eq_true rfl, Nat.le_of_ble_eq_true rfl⟩) M hA (fun ad8 H locs g8 M => ?_)
  have hI := gi_BS  hI 
  have G : ∀ k, k < 1 → ad8 k = ad k := fun k hk => (g8 k (by omega)).trans (G k hk)
  have f7 : ad8 (24) = (ad7 (24)) := (g8 (24) (by omega)).trans f7
  refine m_nQ (k := 0) (y := 24) (j := 4) S M ok_LP ((G (0) (by omega)).trans e0) f7 (by omega) rfl (by decide) rfl kc_79 rfl rfl hnm rfl rfl d_LP_init_84 (fun H locs M => ?_)
  have hI := mI_sQ (k := 0) (j := 4) (y := 24) hI (by omega) (by omega)
  refine lv_aload_n S.1 S.2.1 d_LP_init_87 rfl (lv_at hl 0 rfl) ?_
  refine m_new S M hI (tC_dy cA) hA ok_Rw rfl kc_80 kn_Rw kc_81 kd_Rw (Nat.le_of_ble_eq_true rfl) (Nat.le_of_ble_eq_true rfl) d_LP_init_88 (fun q ad9 H g9 f M => ?_)
  subst f
  have hI := mI_up hI
  have G : ∀ k, k < 1 → ad9 k = ad k := fun k hk => (g9 k (by omega)).trans (G k hk)
  have f9 : ad9 (25) = ad9 (25) := rfl
  refine lv_dup S.1 S.2.1 d_LP_init_91 rfl ?_
  refine lv_aload_n S.1 S.2.1 d_LP_init_92 rfl (lv_at hl 0 rfl) ?_
  refine m_gq (k := 0) (j := 1) (y := 1) S M ok_LP ((G (0) (by omega)).trans e0) (by omega) rfl (by decide) rfl kc_66 rfl rfl d_LP_init_93 ?_
  refine lv_aload_n S.1 S.2.1 d_LP_init_96 rfl (lv_at hl 0 rfl) ?_
  refine m_gq (k := 0) (j := 3) (y := 16) S M ok_LP ((G (0) (by omega)).trans e0) (by omega) rfl (by decide) rfl kc_73 rfl rfl d_LP_init_97 ?_
  refine m_xn (m_rI (As := [.ref (ad9 (1)), .ref (ad9 (16))]) (rest := [.ref (ad9 (25)), .ref h0]) S N M hl.1 (cwGI (n := 2) S.2.2.2.2 kc_82 kc_83 kc_81 kc_84 rfl (by decide) ⟨Nat.le_of_ble_eq_true rfl, Nat.le_of_ble_eq_true rfl⟩) (c_Rw_init l D cA _ _  hI _ _ _ f9 rfl rfl ) rfl rfl (Nat.le_of_ble_eq_true rfl) d_LP_init_100 ⟨Nat.le_of_ble_eq_true rfl, Nat.le_of_ble_eq_true rfl⟩) M hA (fun ad10 H locs g10 M => ?_)
  have hI := gi_Rw  hI 
  have G : ∀ k, k < 1 → ad10 k = ad k := fun k hk => (g10 k (by omega)).trans (G k hk)
  have f9 : ad10 (25) = (ad9 (25)) := (g10 (25) (by omega)).trans f9
  refine m_nQ (k := 0) (y := 25) (j := 5) S M ok_LP ((G (0) (by omega)).trans e0) f9 (by omega) rfl (by decide) rfl kc_85 rfl rfl hnm rfl rfl d_LP_init_103 (fun H locs M => ?_)
  have hI := mI_sQ (k := 0) (j := 5) (y := 25) hI (by omega) (by omega)
  refine lv_aload_n S.1 S.2.1 d_LP_init_106 rfl (lv_at hl 0 rfl) ?_
  refine m_new S M hI (tC_dy cA) hA ok_Rg rfl kc_86 kn_Rg kc_87 kd_Rg (Nat.le_of_ble_eq_true rfl) (Nat.le_of_ble_eq_true rfl) d_LP_init_107 (fun q ad11 H g11 f M => ?_)
  subst f
  have hI := mI_up hI
  have G : ∀ k, k < 1 → ad11 k = ad k := fun k hk => (g11 k (by omega)).trans (G k hk)
  have f11 : ad11 (91) = ad11 (91) := rfl
  refine lv_dup S.1 S.2.1 d_LP_init_110 rfl ?_
  refine lv_aload_n S.1 S.2.1 d_LP_init_111 rfl (lv_at hl 0 rfl) ?_
  refine m_gq (k := 0) (j := 1) (y := 1) S M ok_LP ((G (0) (by omega)).trans e0) (by omega) rfl (by decide) rfl kc_66 rfl rfl d_LP_init_112 ?_
  refine lv_aload_n S.1 S.2.1 d_LP_init_115 rfl (lv_at hl 0 rfl) ?_
  refine m_gq (k := 0) (j := 3) (y := 16) S M ok_LP ((G (0) (by omega)).trans e0) (by omega) rfl (by decide) rfl kc_73 rfl rfl d_LP_init_116 ?_
  refine m_xn (m_rI (As := [.ref (ad11 (1)), .ref (ad11 (16))]) (rest := [.ref (ad11 (91)), .ref h0]) S N M hl.1 (cwGI (n := 2) S.2.2.2.2 kc_88 kc_89 kc_87 kc_90 rfl (by decide) ⟨Nat.le_of_ble_eq_true rfl, Nat.le_of_ble_eq_true rfl⟩) (c_Rg_init l D cA _ _  hI _ _ _ f11 rfl rfl ) rfl rfl (Nat.le_of_ble_eq_true rfl) d_LP_init_119 ⟨Nat.le_of_ble_eq_true rfl, Nat.le_of_ble_eq_true rfl⟩) M hA (fun ad12 H locs g12 M => ?_)
  have hI := gi_Rg  hI 
  have G : ∀ k, k < 1 → ad12 k = ad k := fun k hk => (g12 k (by omega)).trans (G k hk)
  have f11 : ad12 (91) = (ad11 (91)) := (g12 (91) (by omega)).trans f11
  refine m_nQ (k := 0) (y := 91) (j := 6) S M ok_LP ((G (0) (by omega)).trans e0) f11 (by omega) rfl (by decide) rfl kc_91 rfl rfl hnm rfl rfl d_LP_init_122 (fun H locs M => ?_)
  have hI := mI_sQ (k := 0) (j := 6) (y := 91) hI (by omega) (by omega)
  refine lv_aload_n S.1 S.2.1 d_LP_init_125 rfl (lv_at hl 0 rfl) ?_
  refine m_new S M hI (tC_dy cA) hA ok_Wi rfl kc_92 kn_Wi kc_93 kd_Wi (Nat.le_of_ble_eq_true rfl) (Nat.le_of_ble_eq_true rfl) d_LP_init_126 (fun q ad13 H g13 f M => ?_)
  subst f
  have hI := mI_up hI
  have G : ∀ k, k < 1 → ad13 k = ad k := fun k hk => (g13 k (by omega)).trans (G k hk)
  have f13 : ad13 (94) = ad13 (94) := rfl
  refine lv_dup S.1 S.2.1 d_LP_init_129 rfl ?_
  refine lv_aload_n S.1 S.2.1 d_LP_init_130 rfl (lv_at hl 0 rfl) ?_
  refine m_gq (k := 0) (j := 1) (y := 1) S M ok_LP ((G (0) (by omega)).trans e0) (by omega) rfl (by decide) rfl kc_66 rfl rfl d_LP_init_131 ?_
  refine m_xn (m_rI (As := [.ref (ad13 (1))]) (rest := [.ref (ad13 (94)), .ref h0]) S N M hl.1 (cwGI (n := 1) S.2.2.2.2 kc_94 kc_95 kc_93 kc_96 rfl (by decide) ⟨Nat.le_of_ble_eq_true rfl, Nat.le_of_ble_eq_true rfl⟩) (c_Wi_init l D cA _ _  hI _ _ f13 rfl ) rfl rfl (Nat.le_of_ble_eq_true rfl) d_LP_init_134 ⟨Nat.le_of_ble_eq_true rfl, Nat.le_of_ble_eq_true rfl⟩) M hA (fun ad14 H locs g14 M => ?_)
  have hI := gi_Wi  hI 
  have G : ∀ k, k < 1 → ad14 k = ad k := fun k hk => (g14 k (by omega)).trans (G k hk)
  have f13 : ad14 (94) = (ad13 (94)) := (g14 (94) (by omega)).trans f13
  refine m_nQ (k := 0) (y := 94) (j := 7) S M ok_LP ((G (0) (by omega)).trans e0) f13 (by omega) rfl (by decide) rfl kc_97 rfl rfl hnm rfl rfl d_LP_init_137 (fun H locs M => ?_)
  have hI := mI_sQ (k := 0) (j := 7) (y := 94) hI (by omega) (by omega)
  refine lv_aload_n S.1 S.2.1 d_LP_init_140 rfl (lv_at hl 0 rfl) ?_
  refine m_new S M hI (tC_dy cA) hA ok_Tr rfl kc_98 kn_Tr kc_99 kd_Tr (Nat.le_of_ble_eq_true rfl) (Nat.le_of_ble_eq_true rfl) d_LP_init_141 (fun q ad15 H g15 f M => ?_)
  subst f
  have hI := mI_up hI
  have G : ∀ k, k < 1 → ad15 k = ad k := fun k hk => (g15 k (by omega)).trans (G k hk)
  have f15 : ad15 (96) = ad15 (96) := rfl
  refine lv_dup S.1 S.2.1 d_LP_init_144 rfl ?_
  refine lv_aload_n S.1 S.2.1 d_LP_init_145 rfl (lv_at hl 0 rfl) ?_
  refine m_gq (k := 0) (j := 1) (y := 1) S M ok_LP ((G (0) (by omega)).trans e0) (by omega) rfl (by decide) rfl kc_66 rfl rfl d_LP_init_146 ?_
  refine m_xn (m_rI (As := [.ref (ad15 (1))]) (rest := [.ref (ad15 (96)), .ref h0]) S N M hl.1 (cwGI (n := 1) S.2.2.2.2 kc_100 kc_101 kc_99 kc_102 rfl (by decide) ⟨Nat.le_of_ble_eq_true rfl, Nat.le_of_ble_eq_true rfl⟩) (c_Tr_init l D cA _ _  hI _ _ f15 rfl ) rfl rfl (Nat.le_of_ble_eq_true rfl) d_LP_init_149 ⟨Nat.le_of_ble_eq_true rfl, Nat.le_of_ble_eq_true rfl⟩) M hA (fun ad16 H locs g16 M => ?_)
  have hI := gi_Tr  hI 
  have G : ∀ k, k < 1 → ad16 k = ad k := fun k hk => (g16 k (by omega)).trans (G k hk)
  have f15 : ad16 (96) = (ad15 (96)) := (g16 (96) (by omega)).trans f15
  refine m_nQ (k := 0) (y := 96) (j := 8) S M ok_LP ((G (0) (by omega)).trans e0) f15 (by omega) rfl (by decide) rfl kc_103 rfl rfl hnm rfl rfl d_LP_init_152 (fun H locs M => ?_)
  have hI := mI_sQ (k := 0) (j := 8) (y := 96) hI (by omega) (by omega)
  exact m_nret S hr hlk G M d_LP_init_155

