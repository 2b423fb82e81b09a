theorem d_Rg_init_0 : decode prog_4_method_1_code 0 = .ok (.aload_n 0, 1) := by decide +kernel
theorem d_Rg_init_1 : decode prog_4_method_1_code 1 = .ok (.invokespecial 3, 3) := by decide +kernel
theorem d_Rg_init_4 : decode prog_4_method_1_code 4 = .ok (.aload_n 0, 1) := by decide +kernel
theorem d_Rg_init_5 : decode prog_4_method_1_code 5 = .ok (.new 9, 3) := by decide +kernel
theorem d_Rg_init_8 : decode prog_4_method_1_code 8 = .ok (.dup, 1) := by decide +kernel
theorem d_Rg_init_9 : decode prog_4_method_1_code 9 = .ok (.invokespecial 11, 3) := by decide +kernel
theorem d_Rg_init_12 : decode prog_4_method_1_code 12 = .ok (.putfield 12, 3) := by decide +kernel
theorem d_Rg_init_15 : decode prog_4_method_1_code 15 = .ok (.aload_n 0, 1) := by decide +kernel
theorem d_Rg_init_16 : decode prog_4_method_1_code 16 = .ok (.aload_n 1, 1) := by decide +kernel
theorem d_Rg_init_17 : decode prog_4_method_1_code 17 = .ok (.putfield 18, 3) := by decide +kernel
theorem d_Rg_init_20 : decode prog_4_method_1_code 20 = .ok (.aload_n 0, 1) := by decide +kernel
theorem d_Rg_init_21 : decode prog_4_method_1_code 21 = .ok (.aload_n 2, 1) := by decide +kernel
theorem d_Rg_init_22 : decode prog_4_method_1_code 22 = .ok (.putfield 22, 3) := by decide +kernel
theorem d_Rg_init_25 : decode prog_4_method_1_code 25 = .ok (.return_, 1) := by decide +kernel
def rm_Rg_init : Room := { frames := 2, cells := 2, slots := 15, locals := 32 }
def g_Rg (σ : mS) : mS := (sQ (sQ (sQ (g_Wy 92 σ) 91 2 (some 92)) 91 0 (some 1)) 91 1 (some 16))
theorem gi_Rg {σ : mS} (hI : mI (92) σ) : mI (94) (g_Rg σ) := by
  have hI := mI_up hI
  have hI := gi_Wy wy_92 hI 
  have hI := mI_sQ (k := 91) (j := 2) (y := 92) hI (by omega) (by omega)
  have hI := mI_sQ (k := 91) (j := 0) (y := 1) hI (by omega) (by omega)
  have hI := mI_sQ (k := 91) (j := 1) (y := 16) hI (by omega) (by omega)
  exact hI
set_option maxHeartbeats 4000000 in
set_option maxRecDepth 100000 in
theorem c_Rg_init (l : Launch) (D : va_G) (cA ad : Nat → Nat) (σ : mS) (hI : mI (92) σ) (h0 : Nat) (h1 : Nat) (h2 : Nat) (e0 : ad (91) = h0) (e1 : ad (1) = h1) (e2 : ad (16) = h2) : mCn l ⟨"LeastPaths$Rings", "<init>", "(LLeastPaths$Graph;LLeastPaths$Search;)V"⟩ (Cond.code ⟨"LeastPaths$Rings", "<init>", "(LLeastPaths$Graph;LLeastPaths$Search;)V"⟩ prog_4_method_1_code 3 none :: tlG) rm_Rg_init D clX (tyK cA) (tbC cA) (92) ad σ [.ref h0, .ref h1, .ref h2] (94) (g_Rg σ) 2 15 := by
  intro sz
  refine m_ofN (cc := prog_4_method_1_code) (maxL := 3) (ret := none) (Qc := mQn D clX (tyK cA) (tbC cA) (92) ad (94) (g_Rg σ)) (by decide) (Nat.le_of_ble_eq_true rfl) (fun p e s m args below meth c ls S hr hlk hnm hl N M => ?_) sz
  have hl : lv_has ls 3 [(0, .ref h0), (1, .ref h1), (2, .ref h2)] := hl
  have hA : ∀ q, s.heap.size ≤ q → mA (92) ad s.heap.size q := fun q h => Or.inr h
  have G : ∀ k, k < 92 → ad k = ad k := fun _ _ => rfl
  refine lv_aload_n S.1 S.2.1 d_Rg_init_0 rfl (lv_at hl 0 rfl) ?_
  refine W.objInit S.1 S.2.1 S.2.2.2.1 (S.2.2.2.2 _ kc_35) (S.2.2.2.2 _ kc_1) (S.2.2.2.2 _ kc_2) rfl (hl.1.trans S.2.2.1.symm) rfl d_Rg_init_1 (Nat.le_of_ble_eq_true rfl) (Nat.le_of_ble_eq_true rfl) ?_
  refine W.eq (g2 := F0 m 4 ls []) rfl ?_
  refine lv_aload_n S.1 S.2.1 d_Rg_init_4 rfl (lv_at hl 0 rfl) ?_
  refine m_new S M hI (tC_dy cA) hA ok_Wy rfl kc_36 kn_Wy kc_37 kd_Wy (Nat.le_of_ble_eq_true rfl) (Nat.le_of_ble_eq_true rfl) d_Rg_init_5 (fun q ad1 H g1 f M => ?_)
  subst f
  have hI := mI_up hI
  have G : ∀ k, k < 92 → ad1 k = ad k := fun k hk => (g1 k (by omega)).trans (G k hk)
  have f1 : ad1 (92) = ad1 (92) := rfl
  refine lv_dup S.1 S.2.1 d_Rg_init_8 rfl ?_
  refine m_xn (m_rIN (As := []) (rest := [.ref (ad1 (92)), .ref h0]) S N M hl.1 (cwGN (n := 0) S.2.2.2.2 N.2.2.1 kc_38 kc_37 kc_39 rfl (by decide) ⟨Nat.le_of_ble_eq_true rfl, Nat.le_of_ble_eq_true rfl⟩) (c_Wy_init l D cA _ _ wy_92 hI _ f1  ) rfl rfl (Nat.le_of_ble_eq_true rfl) d_Rg_init_9 ⟨Nat.le_of_ble_eq_true rfl, Nat.le_of_ble_eq_true rfl⟩) M hA (fun ad2 H locs g2 M => ?_)
  have hI := gi_Wy wy_92 hI 
  have G : ∀ k, k < 92 → ad2 k = ad k := fun k hk => (g2 k (by omega)).trans (G k hk)
  have f1 : ad2 (92) = (ad1 (92)) := (g2 (92) (by omega)).trans f1
  refine m_nQ (k := 91) (y := 92) (j := 2) S M ok_Rg ((G (91) (by omega)).trans e0) f1 (by omega) rfl (by decide) rfl kc_40 rfl rfl hnm rfl rfl d_Rg_init_12 (fun H locs M => ?_)
  have hI := mI_sQ (k := 91) (j := 2) (y := 92) hI (by omega) (by omega)
  refine lv_aload_n S.1 S.2.1 d_Rg_init_15 rfl (lv_at hl 0 rfl) ?_
  refine lv_aload_n S.1 S.2.1 d_Rg_init_16 rfl (lv_at hl 1 rfl) ?_
  refine m_nQ (k := 91) (y := 1) (j := 0) S M ok_Rg ((G (91) (by omega)).trans e0) ((G (1) (by omega)).trans e1) (by omega) rfl (by decide) rfl kc_41 rfl rfl hnm rfl rfl d_Rg_init_17 (fun H locs M => ?_)
  have hI := mI_sQ (k := 91) (j := 0) (y := 1) hI (by omega) (by omega)
  refine lv_aload_n S.1 S.2.1 d_Rg_init_20 rfl (lv_at hl 0 rfl) ?_
  refine lv_aload_n S.1 S.2.1 d_Rg_init_21 rfl (lv_at hl 2 rfl) ?_
  refine m_nQ (k := 91) (y := 16) (j := 1) S M ok_Rg ((G (91) (by omega)).trans e0) ((G (16) (by omega)).trans e2) (by omega) rfl (by decide) rfl kc_42 rfl rfl hnm rfl rfl d_Rg_init_22 (fun H locs M => ?_)
  have hI := mI_sQ (k := 91) (j := 1) (y := 16) hI (by omega) (by omega)
  exact m_nret S hr hlk G M d_Rg_init_25

