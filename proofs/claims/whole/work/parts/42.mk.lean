theorem d_Gr_init_0 : decode prog_3_method_1_code 0 = .ok (.aload_n 0, 1) := by decide +kernel
theorem d_Gr_init_1 : decode prog_3_method_1_code 1 = .ok (.invokespecial 3, 3) := by decide +kernel
theorem d_Gr_init_4 : decode prog_3_method_1_code 4 = .ok (.aload_n 0, 1) := by decide +kernel
theorem d_Gr_init_5 : decode prog_3_method_1_code 5 = .ok (.bipush 40, 2) := by decide +kernel
theorem d_Gr_init_7 : decode prog_3_method_1_code 7 = .ok (.newarray .int, 2) := by decide +kernel
theorem d_Gr_init_9 : decode prog_3_method_1_code 9 = .ok (.putfield 9, 3) := by decide +kernel
theorem d_Gr_init_12 : decode prog_3_method_1_code 12 = .ok (.aload_n 0, 1) := by decide +kernel
theorem d_Gr_init_13 : decode prog_3_method_1_code 13 = .ok (.bipush 40, 2) := by decide +kernel
theorem d_Gr_init_15 : decode prog_3_method_1_code 15 = .ok (.newarray .int, 2) := by decide +kernel
theorem d_Gr_init_17 : decode prog_3_method_1_code 17 = .ok (.putfield 15, 3) := by decide +kernel
theorem d_Gr_init_20 : decode prog_3_method_1_code 20 = .ok (.aload_n 0, 1) := by decide +kernel
theorem d_Gr_init_21 : decode prog_3_method_1_code 21 = .ok (.bipush 40, 2) := by decide +kernel
theorem d_Gr_init_23 : decode prog_3_method_1_code 23 = .ok (.newarray .int, 2) := by decide +kernel
theorem d_Gr_init_25 : decode prog_3_method_1_code 25 = .ok (.putfield 18, 3) := by decide +kernel
theorem d_Gr_init_28 : decode prog_3_method_1_code 28 = .ok (.aload_n 0, 1) := by decide +kernel
theorem d_Gr_init_29 : decode prog_3_method_1_code 29 = .ok (.bipush 40, 2) := by decide +kernel
theorem d_Gr_init_31 : decode prog_3_method_1_code 31 = .ok (.newarray .int, 2) := by decide +kernel
theorem d_Gr_init_33 : decode prog_3_method_1_code 33 = .ok (.putfield 21, 3) := by decide +kernel
theorem d_Gr_init_36 : decode prog_3_method_1_code 36 = .ok (.aload_n 0, 1) := by decide +kernel
theorem d_Gr_init_37 : decode prog_3_method_1_code 37 = .ok (.bipush 40, 2) := by decide +kernel
theorem d_Gr_init_39 : decode prog_3_method_1_code 39 = .ok (.newarray .int, 2) := by decide +kernel
theorem d_Gr_init_41 : decode prog_3_method_1_code 41 = .ok (.putfield 24, 3) := by decide +kernel
theorem d_Gr_init_44 : decode prog_3_method_1_code 44 = .ok (.aload_n 0, 1) := by decide +kernel
theorem d_Gr_init_45 : decode prog_3_method_1_code 45 = .ok (.bipush 10, 2) := by decide +kernel
theorem d_Gr_init_47 : decode prog_3_method_1_code 47 = .ok (.newarray .int, 2) := by decide +kernel
theorem d_Gr_init_49 : decode prog_3_method_1_code 49 = .ok (.putfield 27, 3) := by decide +kernel
theorem d_Gr_init_52 : decode prog_3_method_1_code 52 = .ok (.return_, 1) := by decide +kernel
def rm_Gr_init : Room := { frames := 1, cells := 6, slots := 210, locals := 12 }
def g_Gr (σ : mS) : mS := (sQ (sQ (sQ (sQ (sQ (sQ σ 1 0 (some 2)) 1 1 (some 3)) 1 2 (some 4)) 1 3 (some 5)) 1 4 (some 6)) 1 5 (some 7))
theorem gi_Gr {σ : mS} (hI : mI (2) σ) : mI (8) (g_Gr σ) := by
  have hI := mI_up hI
  have hI := mI_sQ (k := 1) (j := 0) (y := 2) hI (by omega) (by omega)
  have hI := mI_up hI
  have hI := mI_sQ (k := 1) (j := 1) (y := 3) hI (by omega) (by omega)
  have hI := mI_up hI
  have hI := mI_sQ (k := 1) (j := 2) (y := 4) hI (by omega) (by omega)
  have hI := mI_up hI
  have hI := mI_sQ (k := 1) (j := 3) (y := 5) hI (by omega) (by omega)
  have hI := mI_up hI
  have hI := mI_sQ (k := 1) (j := 4) (y := 6) hI (by omega) (by omega)
  have hI := mI_up hI
  have hI := mI_sQ (k := 1) (j := 5) (y := 7) hI (by omega) (by omega)
  exact hI
set_option maxHeartbeats 4000000 in
set_option maxRecDepth 100000 in
theorem c_Gr_init (l : Launch) (D : va_G) (cA ad : Nat → Nat) (σ : mS) (hI : mI (2) σ) (h0 : Nat) (e0 : ad (1) = h0) : mCn l ⟨"LeastPaths$Graph", "<init>", "()V"⟩ (Cond.code ⟨"LeastPaths$Graph", "<init>", "()V"⟩ prog_3_method_1_code 1 none :: tlG) rm_Gr_init D clX (tyK cA) (tbC cA) (2) ad σ [.ref h0] (8) (g_Gr σ) 6 210 := by
  intro sz
  refine m_ofN (cc := prog_3_method_1_code) (maxL := 1) (ret := none) (Qc := mQn D clX (tyK cA) (tbC cA) (2) ad (8) (g_Gr σ)) (by decide) (Nat.le_of_ble_eq_true rfl) (fun p e s m args below meth c ls S hr hlk hnm hl N M => ?_) sz
  have hl : lv_has ls 1 [(0, .ref h0)] := hl
  have hA : ∀ q, s.heap.size ≤ q → mA (2) ad s.heap.size q := fun q h => Or.inr h
  have G : ∀ k, k < 2 → ad k = ad k := fun _ _ => rfl
  refine lv_aload_n S.1 S.2.1 d_Gr_init_0 rfl (lv_at hl 0 rfl) ?_
  refine W.objInit S.1 S.2.1 S.2.2.2.1 (S.2.2.2.2 _ kc_0) (S.2.2.2.2 _ kc_1) (S.2.2.2.2 _ kc_2) rfl (hl.1.trans S.2.2.1.symm) rfl d_Gr_init_1 (Nat.le_of_ble_eq_true rfl) (Nat.le_of_ble_eq_true rfl) ?_
  refine W.eq (g2 := F0 m 4 ls []) rfl ?_
  refine lv_aload_n S.1 S.2.1 d_Gr_init_4 rfl (lv_at hl 0 rfl) ?_
  refine lv_bipush (v := 40) S.1 S.2.1 d_Gr_init_5 (by decide) ?_
  refine m_newa (atype := .int) (N := 40) (tg := 0) (k0 := 0) S M hI (tC_dy cA) hA ka_int rfl rfl rfl (fun _ h => by cases h) (fun _ => rfl) (by decide) (by decide) (by decide) (by decide) (Nat.le_of_ble_eq_true rfl) (Nat.le_of_ble_eq_true rfl) d_Gr_init_7 (fun q ad1 H g1 f M => ?_)
  subst f
  have hI := mI_up hI
  have G : ∀ k, k < 2 → ad1 k = ad k := fun k hk => (g1 k (by omega)).trans (G k hk)
  have f1 : ad1 (2) = ad1 (2) := rfl
  refine m_nQ (k := 1) (y := 2) (j := 0) S M ok_Gr ((G (1) (by omega)).trans e0) f1 (by omega) rfl (by decide) rfl kc_3 rfl rfl hnm rfl rfl d_Gr_init_9 (fun H locs M => ?_)
  have hI := mI_sQ (k := 1) (j := 0) (y := 2) hI (by omega) (by omega)
  refine lv_aload_n S.1 S.2.1 d_Gr_init_12 rfl (lv_at hl 0 rfl) ?_
  refine lv_bipush (v := 40) S.1 S.2.1 d_Gr_init_13 (by decide) ?_
  refine m_newa (atype := .int) (N := 40) (tg := 0) (k0 := 0) S M hI (tC_dy cA) hA ka_int rfl rfl rfl (fun _ h => by cases h) (fun _ => rfl) (by decide) (by decide) (by decide) (by decide) (Nat.le_of_ble_eq_true rfl) (Nat.le_of_ble_eq_true rfl) d_Gr_init_15 (fun q ad2 H g2 f M => ?_)
  subst f
  have hI := mI_up hI
  have G : ∀ k, k < 2 → ad2 k = ad k := fun k hk => (g2 k (by omega)).trans (G k hk)
  have f2 : ad2 (3) = ad2 (3) := rfl
  refine m_nQ (k := 1) (y := 3) (j := 1) S M ok_Gr ((G (1) (by omega)).trans e0) f2 (by omega) rfl (by decide) rfl kc_4 rfl rfl hnm rfl rfl d_Gr_init_17 (fun H locs M => ?_)
  have hI := mI_sQ (k := 1) (j := 1) (y := 3) hI (by omega) (by omega)
  refine lv_aload_n S.1 S.2.1 d_Gr_init_20 rfl (lv_at hl 0 rfl) ?_
  refine lv_bipush (v := 40) S.1 S.2.1 d_Gr_init_21 (by decide) ?_
  refine m_newa (atype := .int) (N := 40) (tg := 0) (k0 := 0) S M hI (tC_dy cA) hA ka_int rfl rfl rfl (fun _ h => by cases h) (fun _ => rfl) (by decide) (by decide) (by decide) (by decide) (Nat.le_of_ble_eq_true rfl) (Nat.le_of_ble_eq_true rfl) d_Gr_init_23 (fun q ad3 H g3 f M => ?_)
  subst f
  have hI := mI_up hI
  have G : ∀ k, k < 2 → ad3 k = ad k := fun k hk => (g3 k (by omega)).trans (G k hk)
  have f3 : ad3 (4) = ad3 (4) := rfl
  refine m_nQ (k := 1) (y := 4) (j := 2) S M ok_Gr ((G (1) (by omega)).trans e0) f3 (by omega) rfl (by decide) rfl kc_5 rfl rfl hnm rfl rfl d_Gr_init_25 (fun H locs M => ?_)
  have hI := mI_sQ (k := 1) (j := 2) (y := 4) hI (by omega) (by omega)
  refine lv_aload_n S.1 S.2.1 d_Gr_init_28 rfl (lv_at hl 0 rfl) ?_
  refine lv_bipush (v := 40) S.1 S.2.1 d_Gr_init_29 (by decide) ?_
  refine m_newa (atype := .int) (N := 40) (tg := 0) (k0 := 0) S M hI (tC_dy cA) hA ka_int rfl rfl rfl (fun _ h => by cases h) (fun _ => rfl) (by decide) (by decide) (by decide) (by decide) (Nat.le_of_ble_eq_true rfl) (Nat.le_of_ble_eq_true rfl) d_Gr_init_31 (fun q ad4 H g4 f M => ?_)
  subst f
  have hI := mI_up hI
  have G : ∀ k, k < 2 → ad4 k = ad k := fun k hk => (g4 k (by omega)).trans (G k hk)
  have f4 : ad4 (5) = ad4 (5) := rfl
  refine m_nQ (k := 1) (y := 5) (j := 3) S M ok_Gr ((G (1) (by omega)).trans e0) f4 (by omega) rfl (by decide) rfl kc_6 rfl rfl hnm rfl rfl d_Gr_init_33 (fun H locs M => ?_)
  have hI := mI_sQ (k := 1) (j := 3) (y := 5) hI (by omega) (by omega)
  refine lv_aload_n S.1 S.2.1 d_Gr_init_36 rfl (lv_at hl 0 rfl) ?_
  refine lv_bipush (v := 40) S.1 S.2.1 d_Gr_init_37 (by decide) ?_
  refine m_newa (atype := .int) (N := 40) (tg := 0) (k0 := 0) S M hI (tC_dy cA) hA ka_int rfl rfl rfl (fun _ h => by cases h) (fun _ => rfl) (by decide) (by decide) (by decide) (by decide) (Nat.le_of_ble_eq_true rfl) (Nat.le_of_ble_eq_true rfl) d_Gr_init_39 (fun q ad5 H g5 f M => ?_)
  subst f
  have hI := mI_up hI
  have G : ∀ k, k < 2 → ad5 k = ad k := fun k hk => (g5 k (by omega)).trans (G k hk)
  have f5 : ad5 (6) = ad5 (6) := rfl
  refine m_nQ (k := 1) (y := 6) (j := 4) S M ok_Gr ((G (1) (by omega)).trans e0) f5 (by omega) rfl (by decide) rfl kc_7 rfl rfl hnm rfl rfl d_Gr_init_41 (fun H locs M => ?_)
  have hI := mI_sQ (k := 1) (j := 4) (y := 6) hI (by omega) (by omega)
  refine lv_aload_n S.1 S.2.1 d_Gr_init_44 rfl (lv_at hl 0 rfl) ?_
  refine lv_bipush (v := 10) S.1 S.2.1 d_Gr_init_45 (by decide) ?_
  refine m_newa (atype := .int) (N := 10) (tg := 0) (k0 := 0) S M hI (tC_dy cA) hA ka_int rfl rfl rfl (fun _ h => by cases h) (fun _ => rfl) (by decide) (by decide) (by decide) (by decide) (Nat.le_of_ble_eq_true rfl) (Nat.le_of_ble_eq_true rfl) d_Gr_init_47 (fun q ad6 H g6 f M => ?_)
  subst f
  have hI := mI_up hI
  have G : ∀ k, k < 2 → ad6 k = ad k := fun k hk => (g6 k (by omega)).trans (G k hk)
  have f6 : ad6 (7) = ad6 (7) := rfl
  refine m_nQ (k := 1) (y := 7) (j := 5) S M ok_Gr ((G (1) (by omega)).trans e0) f6 (by omega) rfl (by decide) rfl kc_8 rfl rfl hnm rfl rfl d_Gr_init_49 (fun H locs M => ?_)
  have hI := mI_sQ (k := 1) (j := 5) (y := 7) hI (by omega) (by omega)
  exact m_nret S hr hlk G M d_Gr_init_52

