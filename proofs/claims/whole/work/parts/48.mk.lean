theorem d_Wi_init_0 : decode prog_10_method_1_code 0 = .ok (.aload_n 0, 1) := by decide +kernel
theorem d_Wi_init_1 : decode prog_10_method_1_code 1 = .ok (.invokespecial 3, 3) := by decide +kernel
theorem d_Wi_init_4 : decode prog_10_method_1_code 4 = .ok (.aload_n 0, 1) := by decide +kernel
theorem d_Wi_init_5 : decode prog_10_method_1_code 5 = .ok (.bipush 10, 2) := by decide +kernel
theorem d_Wi_init_7 : decode prog_10_method_1_code 7 = .ok (.newarray .int, 2) := by decide +kernel
theorem d_Wi_init_9 : decode prog_10_method_1_code 9 = .ok (.putfield 9, 3) := by decide +kernel
theorem d_Wi_init_12 : decode prog_10_method_1_code 12 = .ok (.aload_n 0, 1) := by decide +kernel
theorem d_Wi_init_13 : decode prog_10_method_1_code 13 = .ok (.aload_n 1, 1) := by decide +kernel
theorem d_Wi_init_14 : decode prog_10_method_1_code 14 = .ok (.putfield 15, 3) := by decide +kernel
theorem d_Wi_init_17 : decode prog_10_method_1_code 17 = .ok (.return_, 1) := by decide +kernel
def rm_Wi_init : Room := { frames := 1, cells := 1, slots := 10, locals := 12 }
def g_Wi (σ : mS) : mS := (sQ (sQ σ 94 1 (some 95)) 94 0 (some 1))
theorem gi_Wi {σ : mS} (hI : mI (95) σ) : mI (96) (g_Wi σ) := by
  have hI := mI_up hI
  have hI := mI_sQ (k := 94) (j := 1) (y := 95) hI (by omega) (by omega)
  have hI := mI_sQ (k := 94) (j := 0) (y := 1) hI (by omega) (by omega)
  exact hI
set_option maxHeartbeats 4000000 in
set_option maxRecDepth 100000 in
theorem c_Wi_init (l : Launch) (D : va_G) (cA ad : Nat → Nat) (σ : mS) (hI : mI (95) σ) (h0 : Nat) (h1 : Nat) (e0 : ad (94) = h0) (e1 : ad (1) = h1) : mCn l ⟨"LeastPaths$Widths", "<init>", "(LLeastPaths$Graph;)V"⟩ (Cond.code ⟨"LeastPaths$Widths", "<init>", "(LLeastPaths$Graph;)V"⟩ prog_10_method_1_code 2 none :: tlG) rm_Wi_init D clX (tyK cA) (tbC cA) (95) ad σ [.ref h0, .ref h1] (96) (g_Wi σ) 1 10 := by
  intro sz
  refine m_ofN (cc := prog_10_method_1_code) (maxL := 2) (ret := none) (Qc := mQn D clX (tyK cA) (tbC cA) (95) ad (96) (g_Wi σ)) (by decide) (Nat.le_of_ble_eq_true rfl) (fun p e s m args below meth c ls S hr hlk hnm hl N M => ?_) sz
  have hl : lv_has ls 2 [(0, .ref h0), (1, .ref h1)] := hl
  have hA : ∀ q, s.heap.size ≤ q → mA (95) ad s.heap.size q := fun q h => Or.inr h
  have G : ∀ k, k < 95 → ad k = ad k := fun _ _ => rfl
  refine lv_aload_n S.1 S.2.1 d_Wi_init_0 rfl (lv_at hl 0 rfl) ?_
  refine W.objInit S.1 S.2.1 S.2.2.2.1 (S.2.2.2.2 _ kc_43) (S.2.2.2.2 _ kc_1) (S.2.2.2.2 _ kc_2) rfl (hl.1.trans S.2.2.1.symm) rfl d_Wi_init_1 (Nat.le_of_ble_eq_true rfl) (Nat.le_of_ble_eq_true rfl) ?_
  refine W.eq (g2 := F0 m 4 ls []) rfl ?_
  refine lv_aload_n S.1 S.2.1 d_Wi_init_4 rfl (lv_at hl 0 rfl) ?_
  refine lv_bipush (v := 10) S.1 S.2.1 d_Wi_init_5 (by decide) ?_
  refine m_newa (atype := .int) (N := 10) (tg := 0) (k0 := 0) S M hI (tC_dy cA) hA ka_int rfl rfl rfl (fun _ h => by cases h) (fun _ => rfl) (by decide) (by decide) (by decide) (by decide) (Nat.le_of_ble_eq_true rfl) (Nat.le_of_ble_eq_true rfl) d_Wi_init_7 (fun q ad1 H g1 f M => ?_)
  subst f
  have hI := mI_up hI
  have G : ∀ k, k < 95 → ad1 k = ad k := fun k hk => (g1 k (by omega)).trans (G k hk)
  have f1 : ad1 (95) = ad1 (95) := rfl
  refine m_nQ (k := 94) (y := 95) (j := 1) S M ok_Wi ((G (94) (by omega)).trans e0) f1 (by omega) rfl (by decide) rfl kc_44 rfl rfl hnm rfl rfl d_Wi_init_9 (fun H locs M => ?_)
  have hI := mI_sQ (k := 94) (j := 1) (y := 95) hI (by omega) (by omega)
  refine lv_aload_n S.1 S.2.1 d_Wi_init_12 rfl (lv_at hl 0 rfl) ?_
  refine lv_aload_n S.1 S.2.1 d_Wi_init_13 rfl (lv_at hl 1 rfl) ?_
  refine m_nQ (k := 94) (y := 1) (j := 0) S M ok_Wi ((G (94) (by omega)).trans e0) ((G (1) (by omega)).trans e1) (by omega) rfl (by decide) rfl kc_45 rfl rfl hnm rfl rfl d_Wi_init_14 (fun H locs M => ?_)
  have hI := mI_sQ (k := 94) (j := 0) (y := 1) hI (by omega) (by omega)
  exact m_nret S hr hlk G M d_Wi_init_17

