theorem d_Wy_init_0 : decode prog_9_method_1_code 0 = .ok (.aload_n 0, 1) := by decide +kernel
theorem d_Wy_init_1 : decode prog_9_method_1_code 1 = .ok (.invokespecial 3, 3) := by decide +kernel
theorem d_Wy_init_4 : decode prog_9_method_1_code 4 = .ok (.aload_n 0, 1) := by decide +kernel
theorem d_Wy_init_5 : decode prog_9_method_1_code 5 = .ok (.bipush 10, 2) := by decide +kernel
theorem d_Wy_init_7 : decode prog_9_method_1_code 7 = .ok (.newarray .int, 2) := by decide +kernel
theorem d_Wy_init_9 : decode prog_9_method_1_code 9 = .ok (.putfield 9, 3) := by decide +kernel
theorem d_Wy_init_12 : decode prog_9_method_1_code 12 = .ok (.return_, 1) := by decide +kernel
def rm_Wy_init : Room := { frames := 1, cells := 1, slots := 10, locals := 12 }
def g_Wy (w : Nat) (σ : mS) : mS := (sQ σ w 0 (some (w + 1)))
theorem gi_Wy {w : Nat} (hb : wy w = true) {σ : mS} (hI : mI (w + 1) σ) : mI (w + 2) (g_Wy w σ) := by
  have hI := mI_up hI
  have hI := mI_sQ (k := w) (j := 0) (y := w + 1) hI (by omega) (by omega)
  exact hI
set_option maxHeartbeats 4000000 in
set_option maxRecDepth 100000 in
theorem c_Wy_init (l : Launch) (D : va_G) (cA ad : Nat → Nat) (σ : mS) {w : Nat} (hb : wy w = true) (hI : mI (w + 1) σ) (h0 : Nat) (e0 : ad (w) = h0) : mCn l ⟨"LeastPaths$Way", "<init>", "()V"⟩ (Cond.code ⟨"LeastPaths$Way", "<init>", "()V"⟩ prog_9_method_1_code 1 none :: tlG) rm_Wy_init D clX (tyK cA) (tbC cA) (w + 1) ad σ [.ref h0] (w + 2) (g_Wy w σ) 1 10 := by
  intro sz
  refine m_ofN (cc := prog_9_method_1_code) (maxL := 1) (ret := none) (Qc := mQn D clX (tyK cA) (tbC cA) (w + 1) ad (w + 2) (g_Wy w σ)) (by decide) (Nat.le_of_ble_eq_true rfl) (fun p e s m args below meth c ls S hr hlk hnm hl N M => ?_) sz
  have hl : lv_has ls 1 [(0, .ref h0)] := hl
  have hA : ∀ q, s.heap.size ≤ q → mA (w + 1) ad s.heap.size q := fun q h => Or.inr h
  have G : ∀ k, k < w + 1 → ad k = ad k := fun _ _ => rfl
  refine lv_aload_n S.1 S.2.1 d_Wy_init_0 rfl (lv_at hl 0 rfl) ?_
  refine W.objInit S.1 S.2.1 S.2.2.2.1 (S.2.2.2.2 _ kc_18) (S.2.2.2.2 _ kc_1) (S.2.2.2.2 _ kc_2) rfl (hl.1.trans S.2.2.1.symm) rfl d_Wy_init_1 (Nat.le_of_ble_eq_true rfl) (Nat.le_of_ble_eq_true rfl) ?_
  refine W.eq (g2 := F0 m 4 ls []) rfl ?_
  refine lv_aload_n S.1 S.2.1 d_Wy_init_4 rfl (lv_at hl 0 rfl) ?_
  refine lv_bipush (v := 10) S.1 S.2.1 d_Wy_init_5 (by decide) ?_
  refine m_newa (atype := .int) (N := 10) (tg := 0) (k0 := 0) S M hI (tC_dy cA) hA ka_int rfl (tC_Y1 hb) rfl (fun _ h => by cases h) (fun _ => rfl) (by decide) (by decide) (by decide) (by decide) (Nat.le_of_ble_eq_true rfl) (Nat.le_of_ble_eq_true rfl) d_Wy_init_7 (fun q ad1 H g1 f M => ?_)
  subst f
  have hI := mI_up hI
  have G : ∀ k, k < w + 1 → ad1 k = ad k := fun k hk => (g1 k (by omega)).trans (G k hk)
  have f1 : ad1 (w + 1) = ad1 (w + 1) := rfl
  refine m_nQ (k := w) (y := w + 1) (j := 0) S M ok_Wy ((G (w) (by omega)).trans e0) f1 (by omega) (tC_Y0 hb) (by decide) rfl kc_19 rfl rfl hnm rfl rfl d_Wy_init_9 (fun H locs M => ?_)
  have hI := mI_sQ (k := w) (j := 0) (y := w + 1) hI (by omega) (by omega)
  exact m_nret S hr hlk G M d_Wy_init_12

