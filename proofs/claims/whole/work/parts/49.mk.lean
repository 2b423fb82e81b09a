theorem d_Tr_init_0 : decode prog_7_method_1_code 0 = .ok (.aload_n 0, 1) := by decide +kernel
theorem d_Tr_init_1 : decode prog_7_method_1_code 1 = .ok (.invokespecial 3, 3) := by decide +kernel
theorem d_Tr_init_4 : decode prog_7_method_1_code 4 = .ok (.aload_n 0, 1) := by decide +kernel
theorem d_Tr_init_5 : decode prog_7_method_1_code 5 = .ok (.bipush 10, 2) := by decide +kernel
theorem d_Tr_init_7 : decode prog_7_method_1_code 7 = .ok (.newarray .long, 2) := by decide +kernel
theorem d_Tr_init_9 : decode prog_7_method_1_code 9 = .ok (.putfield 9, 3) := by decide +kernel
theorem d_Tr_init_12 : decode prog_7_method_1_code 12 = .ok (.aload_n 0, 1) := by decide +kernel
theorem d_Tr_init_13 : decode prog_7_method_1_code 13 = .ok (.bipush 10, 2) := by decide +kernel
theorem d_Tr_init_15 : decode prog_7_method_1_code 15 = .ok (.newarray .long, 2) := by decide +kernel
theorem d_Tr_init_17 : decode prog_7_method_1_code 17 = .ok (.putfield 15, 3) := by decide +kernel
theorem d_Tr_init_20 : decode prog_7_method_1_code 20 = .ok (.aload_n 0, 1) := by decide +kernel
theorem d_Tr_init_21 : decode prog_7_method_1_code 21 = .ok (.aload_n 1, 1) := by decide +kernel
theorem d_Tr_init_22 : decode prog_7_method_1_code 22 = .ok (.putfield 18, 3) := by decide +kernel
theorem d_Tr_init_25 : decode prog_7_method_1_code 25 = .ok (.return_, 1) := by decide +kernel
def rm_Tr_init : Room := { frames := 1, cells := 2, slots := 20, locals := 12 }
def g_Tr (σ : mS) : mS := (sQ (sQ (sQ σ 96 1 (some 97)) 96 2 (some 98)) 96 0 (some 1))
theorem gi_Tr {σ : mS} (hI : mI (97) σ) : mI (99) (g_Tr σ) := by
  have hI := mI_up hI
  have hI := mI_sQ (k := 96) (j := 1) (y := 97) hI (by omega) (by omega)
  have hI := mI_up hI
  have hI := mI_sQ (k := 96) (j := 2) (y := 98) hI (by omega) (by omega)
  have hI := mI_sQ (k := 96) (j := 0) (y := 1) hI (by omega) (by omega)
  exact hI
set_option maxHeartbeats 4000000 in
set_option maxRecDepth 100000 in
theorem c_Tr_init (l : Launch) (D : va_G) (cA ad : Nat → Nat) (σ : mS) (hI : mI (97) σ) (h0 : Nat) (h1 : Nat) (e0 : ad (96) = h0) (e1 : ad (1) = h1) : mCn l ⟨"LeastPaths$Trusts", "<init>", "(LLeastPaths$Graph;)V"⟩ (Cond.code ⟨"LeastPaths$Trusts", "<init>", "(LLeastPaths$Graph;)V"⟩ prog_7_method_1_code 2 none :: tlG) rm_Tr_init D clX (tyK cA) (tbC cA) (97) ad σ [.ref h0, .ref h1] (99) (g_Tr σ) 2 20 := by
  intro sz
  refine m_ofN (cc := prog_7_method_1_code) (maxL := 2) (ret := none) (Qc := mQn D clX (tyK cA) (tbC cA) (97) ad (99) (g_Tr σ)) (by decide) (Nat.le_of_ble_eq_true rfl) (fun p e s m args below meth c ls S hr hlk hnm hl N M => ?_) sz
  have hl : lv_has ls 2 [(0, .ref h0), (1, .ref h1)] := hl
  have hA : ∀ q, s.heap.size ≤ q → mA (97) ad s.heap.size q := fun q h => Or.inr h
  have G : ∀ k, k < 97 → ad k = ad k := fun _ _ => rfl
  refine lv_aload_n S.1 S.2.1 d_Tr_init_0 rfl (lv_at hl 0 rfl) ?_
  refine W.objInit S.1 S.2.1 S.2.2.2.1 (S.2.2.2.2 _ kc_46) (S.2.2.2.2 _ kc_1) (S.2.2.2.2 _ kc_2) rfl (hl.1.trans S.2.2.1.symm) rfl d_Tr_init_1 (Nat.le_of_ble_eq_true rfl) (Nat.le_of_ble_eq_true rfl) ?_
  refine W.eq (g2 := F0 m 4 ls []) rfl ?_
  refine lv_aload_n S.1 S.2.1 d_Tr_init_4 rfl (lv_at hl 0 rfl) ?_
  refine lv_bipush (v := 10) S.1 S.2.1 d_Tr_init_5 (by decide) ?_
  refine m_newa (atype := .long) (N := 10) (tg := 1) (k0 := 1) S M hI (tC_dy cA) hA ka_long rfl rfl rfl (fun _ h => by cases h) (fun _ => rfl) (by decide) (by decide) (by decide) (by decide) (Nat.le_of_ble_eq_true rfl) (Nat.le_of_ble_eq_true rfl) d_Tr_init_7 (fun q ad1 H g1 f M => ?_)
  subst f
  have hI := mI_up hI
  have G : ∀ k, k < 97 → ad1 k = ad k := fun k hk => (g1 k (by omega)).trans (G k hk)
  have f1 : ad1 (97) = ad1 (97) := rfl
  refine m_nQ (k := 96) (y := 97) (j := 1) S M ok_Tr ((G (96) (by omega)).trans e0) f1 (by omega) rfl (by decide) rfl kc_47 rfl rfl hnm rfl rfl d_Tr_init_9 (fun H locs M => ?_)
  have hI := mI_sQ (k := 96) (j := 1) (y := 97) hI (by omega) (by omega)
  refine lv_aload_n S.1 S.2.1 d_Tr_init_12 rfl (lv_at hl 0 rfl) ?_
  refine lv_bipush (v := 10) S.1 S.2.1 d_Tr_init_13 (by decide) ?_
  refine m_newa (atype := .long) (N := 10) (tg := 1) (k0 := 1) S M hI (tC_dy cA) hA ka_long rfl rfl rfl (fun _ h => by cases h) (fun _ => rfl) (by decide) (by decide) (by decide) (by decide) (Nat.le_of_ble_eq_true rfl) (Nat.le_of_ble_eq_true rfl) d_Tr_init_15 (fun q ad2 H g2 f M => ?_)
  subst f
  have hI := mI_up hI
  have G : ∀ k, k < 97 → ad2 k = ad k := fun k hk => (g2 k (by omega)).trans (G k hk)
  have f2 : ad2 (98) = ad2 (98) := rfl
  refine m_nQ (k := 96) (y := 98) (j := 2) S M ok_Tr ((G (96) (by omega)).trans e0) f2 (by omega) rfl (by decide) rfl kc_48 rfl rfl hnm rfl rfl d_Tr_init_17 (fun H locs M => ?_)
  have hI := mI_sQ (k := 96) (j := 2) (y := 98) hI (by omega) (by omega)
  refine lv_aload_n S.1 S.2.1 d_Tr_init_20 rfl (lv_at hl 0 rfl) ?_
  refine lv_aload_n S.1 S.2.1 d_Tr_init_21 rfl (lv_at hl 1 rfl) ?_
  refine m_nQ (k := 96) (y := 1) (j := 0) S M ok_Tr ((G (96) (by omega)).trans e0) ((G (1) (by omega)).trans e1) (by omega) rfl (by decide) rfl kc_49 rfl rfl hnm rfl rfl d_Tr_init_22 (fun H locs M => ?_)
  have hI := mI_sQ (k := 96) (j := 0) (y := 1) hI (by omega) (by omega)
  exact m_nret S hr hlk G M d_Tr_init_25

