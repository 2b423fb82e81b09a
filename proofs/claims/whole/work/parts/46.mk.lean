theorem d_BS_init_0 : decode prog_2_method_1_code 0 = .ok (.aload_n 0, 1) := by decide +kernel
theorem d_BS_init_1 : decode prog_2_method_1_code 1 = .ok (.invokespecial 3, 3) := by decide +kernel
theorem d_BS_init_4 : decode prog_2_method_1_code 4 = .ok (.aload_n 0, 1) := by decide +kernel
theorem d_BS_init_5 : decode prog_2_method_1_code 5 = .ok (.aload_n 1, 1) := by decide +kernel
theorem d_BS_init_6 : decode prog_2_method_1_code 6 = .ok (.putfield 9, 3) := by decide +kernel
theorem d_BS_init_9 : decode prog_2_method_1_code 9 = .ok (.aload_n 0, 1) := by decide +kernel
theorem d_BS_init_10 : decode prog_2_method_1_code 10 = .ok (.aload_n 2, 1) := by decide +kernel
theorem d_BS_init_11 : decode prog_2_method_1_code 11 = .ok (.putfield 15, 3) := by decide +kernel
theorem d_BS_init_14 : decode prog_2_method_1_code 14 = .ok (.return_, 1) := by decide +kernel
def rm_BS_init : Room := { frames := 1, cells := 0, slots := 0, locals := 12 }
def g_BS (σ : mS) : mS := (sQ (sQ σ 24 0 (some 8)) 24 1 (some 16))
theorem gi_BS {σ : mS} (hI : mI (25) σ) : mI (25) (g_BS σ) := by
  have hI := mI_sQ (k := 24) (j := 0) (y := 8) hI (by omega) (by omega)
  have hI := mI_sQ (k := 24) (j := 1) (y := 16) hI (by omega) (by omega)
  exact hI
set_option maxHeartbeats 4000000 in
set_option maxRecDepth 100000 in
theorem c_BS_init (l : Launch) (D : va_G) (cA ad : Nat → Nat) (σ : mS) (hI : mI (25) σ) (h0 : Nat) (h1 : Nat) (h2 : Nat) (e0 : ad (24) = h0) (e1 : ad (8) = h1) (e2 : ad (16) = h2) : mCn l ⟨"LeastPaths$BothSides", "<init>", "(LLeastPaths$Search;LLeastPaths$Search;)V"⟩ (Cond.code ⟨"LeastPaths$BothSides", "<init>", "(LLeastPaths$Search;LLeastPaths$Search;)V"⟩ prog_2_method_1_code 3 none :: tlG) rm_BS_init D clX (tyK cA) (tbC cA) (25) ad σ [.ref h0, .ref h1, .ref h2] (25) (g_BS σ) 0 0 := by
  intro sz
  refine m_ofN (cc := prog_2_method_1_code) (maxL := 3) (ret := none) (Qc := mQn D clX (tyK cA) (tbC cA) (25) ad (25) (g_BS σ)) (by decide) (Nat.le_of_ble_eq_true rfl) (fun p e s m args below meth c ls S hr hlk hnm hl N M => ?_) sz
  have hl : lv_has ls 3 [(0, .ref h0), (1, .ref h1), (2, .ref h2)] := hl
  have hA : ∀ q, s.heap.size ≤ q → mA (25) ad s.heap.size q := fun q h => Or.inr h
  have G : ∀ k, k < 25 → ad k = ad k := fun _ _ => rfl
  refine lv_aload_n S.1 S.2.1 d_BS_init_0 rfl (lv_at hl 0 rfl) ?_
  refine W.objInit S.1 S.2.1 S.2.2.2.1 (S.2.2.2.2 _ kc_32) (S.2.2.2.2 _ kc_1) (S.2.2.2.2 _ kc_2) rfl (hl.1.trans S.2.2.1.symm) rfl d_BS_init_1 (Nat.le_of_ble_eq_true rfl) (Nat.le_of_ble_eq_true rfl) ?_
  refine W.eq (g2 := F0 m 4 ls []) rfl ?_
  refine lv_aload_n S.1 S.2.1 d_BS_init_4 rfl (lv_at hl 0 rfl) ?_
  refine lv_aload_n S.1 S.2.1 d_BS_init_5 rfl (lv_at hl 1 rfl) ?_
  refine m_nQ (k := 24) (y := 8) (j := 0) S M ok_BS ((G (24) (by omega)).trans e0) ((G (8) (by omega)).trans e1) (by omega) rfl (by decide) rfl kc_33 rfl rfl hnm rfl rfl d_BS_init_6 (fun H locs M => ?_)
  have hI := mI_sQ (k := 24) (j := 0) (y := 8) hI (by omega) (by omega)
  refine lv_aload_n S.1 S.2.1 d_BS_init_9 rfl (lv_at hl 0 rfl) ?_
  refine lv_aload_n S.1 S.2.1 d_BS_init_10 rfl (lv_at hl 2 rfl) ?_
  refine m_nQ (k := 24) (y := 16) (j := 1) S M ok_BS ((G (24) (by omega)).trans e0) ((G (16) (by omega)).trans e2) (by omega) rfl (by decide) rfl kc_34 rfl rfl hnm rfl rfl d_BS_init_11 (fun H locs M => ?_)
  have hI := mI_sQ (k := 24) (j := 1) (y := 16) hI (by omega) (by omega)
  exact m_nret S hr hlk G M d_BS_init_14

