theorem d_Wa_init_0 : decode prog_8_method_1_code 0 = .ok (.aload_n 0, 1) := by decide +kernel
theorem d_Wa_init_1 : decode prog_8_method_1_code 1 = .ok (.invokespecial 3, 3) := by decide +kernel
theorem d_Wa_init_4 : decode prog_8_method_1_code 4 = .ok (.aload_n 0, 1) := by decide +kernel
theorem d_Wa_init_5 : decode prog_8_method_1_code 5 = .ok (.bipush 10, 2) := by decide +kernel
theorem d_Wa_init_7 : decode prog_8_method_1_code 7 = .ok (.newarray .int, 2) := by decide +kernel
theorem d_Wa_init_9 : decode prog_8_method_1_code 9 = .ok (.putfield 9, 3) := by decide +kernel
theorem d_Wa_init_12 : decode prog_8_method_1_code 12 = .ok (.aload_n 0, 1) := by decide +kernel
theorem d_Wa_init_13 : decode prog_8_method_1_code 13 = .ok (.bipush 10, 2) := by decide +kernel
theorem d_Wa_init_15 : decode prog_8_method_1_code 15 = .ok (.newarray .int, 2) := by decide +kernel
theorem d_Wa_init_17 : decode prog_8_method_1_code 17 = .ok (.putfield 15, 3) := by decide +kernel
theorem d_Wa_init_20 : decode prog_8_method_1_code 20 = .ok (.aload_n 0, 1) := by decide +kernel
theorem d_Wa_init_21 : decode prog_8_method_1_code 21 = .ok (.bipush 10, 2) := by decide +kernel
theorem d_Wa_init_23 : decode prog_8_method_1_code 23 = .ok (.newarray .long, 2) := by decide +kernel
theorem d_Wa_init_25 : decode prog_8_method_1_code 25 = .ok (.putfield 18, 3) := by decide +kernel
theorem d_Wa_init_28 : decode prog_8_method_1_code 28 = .ok (.aload_n 0, 1) := by decide +kernel
theorem d_Wa_init_29 : decode prog_8_method_1_code 29 = .ok (.iconst 1, 1) := by decide +kernel
theorem d_Wa_init_30 : decode prog_8_method_1_code 30 = .ok (.iload_n 1, 1) := by decide +kernel
theorem d_Wa_init_31 : decode prog_8_method_1_code 31 = .ok (.invokestatic 22, 3) := by decide +kernel
theorem d_Wa_init_34 : decode prog_8_method_1_code 34 = .ok (.putfield 28, 3) := by decide +kernel
theorem d_Wa_init_37 : decode prog_8_method_1_code 37 = .ok (.return_, 1) := by decide +kernel
def rm_Wa_init : Room := { frames := 1, cells := 3, slots := 30, locals := 21 }
def g_Wa (b : Nat) (σ : mS) (x1 : Int32) : mS := (sI (sQ (sQ (sQ σ b 1 (some (b + 1))) b 2 (some (b + 2))) b 3 (some (b + 3))) b 0 (if 1 < x1 then x1 else 1))
theorem gi_Wa {b : Nat} (hb : wB b) {σ : mS} (hI : mI (b + 1) σ) (x1 : Int32) : mI (b + 4) (g_Wa b σ x1) := by
  have hbb : 7 < b ∧ b < 30 := by rcases hb with rfl | rfl <;> decide
  have hI := mI_up hI
  have hI := mI_sQ (k := b) (j := 1) (y := b + 1) hI (by omega) (by omega)
  have hI := mI_up hI
  have hI := mI_sQ (k := b) (j := 2) (y := b + 2) hI (by omega) (by omega)
  have hI := mI_up hI
  have hI := mI_sQ (k := b) (j := 3) (y := b + 3) hI (by omega) (by omega)
  have hI := mI_sI (k := b) (j := 0) (v := if 1 < x1 then x1 else 1) hI (by omega)
  exact hI
set_option maxHeartbeats 4000000 in
set_option maxRecDepth 100000 in
theorem c_Wa_init (l : Launch) (D : va_G) (cA ad : Nat → Nat) (σ : mS) {b : Nat} (hb : wB b) (hI : mI (b + 1) σ) (h0 : Nat) (e0 : ad (b) = h0) (x1 : Int32) : mCn l ⟨"LeastPaths$Waiting", "<init>", "(I)V"⟩ (Cond.code ⟨"LeastPaths$Waiting", "<init>", "(I)V"⟩ prog_8_method_1_code 2 none :: tlG) rm_Wa_init D clX (tyK cA) (tbC cA) (b + 1) ad σ [.ref h0, .int x1] (b + 4) (g_Wa b σ x1) 3 30 := by
  intro sz
  refine m_ofN (cc := prog_8_method_1_code) (maxL := 2) (ret := none) (Qc := mQn D clX (tyK cA) (tbC cA) (b + 1) ad (b + 4) (g_Wa b σ x1)) (by decide) (Nat.le_of_ble_eq_true rfl) (fun p e s m args below meth c ls S hr hlk hnm hl N M => ?_) sz
  have hl : lv_has ls 2 [(0, .ref h0), (1, .int x1)] := hl
  have hA : ∀ q, s.heap.size ≤ q → mA (b + 1) ad s.heap.size q := fun q h => Or.inr h
  have G : ∀ k, k < b + 1 → ad k = ad k := fun _ _ => rfl
  have hbb : 7 < b ∧ b < 30 := by rcases hb with rfl | rfl <;> decide
  refine lv_aload_n S.1 S.2.1 d_Wa_init_0 rfl (lv_at hl 0 rfl) ?_
  refine W.objInit S.1 S.2.1 S.2.2.2.1 (S.2.2.2.2 _ kc_9) (S.2.2.2.2 _ kc_1) (S.2.2.2.2 _ kc_2) rfl (hl.1.trans S.2.2.1.symm) rfl d_Wa_init_1 (Nat.le_of_ble_eq_true rfl) (Nat.le_of_ble_eq_true rfl) ?_
  refine W.eq (g2 := F0 m 4 ls []) rfl ?_
  refine lv_aload_n S.1 S.2.1 d_Wa_init_4 rfl (lv_at hl 0 rfl) ?_
  refine lv_bipush (v := 10) S.1 S.2.1 d_Wa_init_5 (by decide) ?_
  refine m_newa (atype := .int) (N := 10) (tg := 0) (k0 := 0) S M hI (tC_dy cA) hA ka_int rfl (tC_W1 hb) rfl (fun _ h => by cases h) (fun _ => rfl) (by decide) (by decide) (by decide) (by decide) (Nat.le_of_ble_eq_true rfl) (Nat.le_of_ble_eq_true rfl) d_Wa_init_7 (fun q ad1 H g1 f M => ?_)
  subst f
  have hI := mI_up hI
  have G : ∀ k, k < b + 1 → ad1 k = ad k := fun k hk => (g1 k (by omega)).trans (G k hk)
  have f1 : ad1 (b + 1) = ad1 (b + 1) := rfl
  refine m_nQ (k := b) (y := b + 1) (j := 1) S M ok_Wa ((G (b) (by omega)).trans e0) f1 (by omega) (tC_W0 hb) (by decide) rfl kc_10 rfl rfl hnm rfl rfl d_Wa_init_9 (fun H locs M => ?_)
  have hI := mI_sQ (k := b) (j := 1) (y := b + 1) hI (by omega) (by omega)
  refine lv_aload_n S.1 S.2.1 d_Wa_init_12 rfl (lv_at hl 0 rfl) ?_
  refine lv_bipush (v := 10) S.1 S.2.1 d_Wa_init_13 (by decide) ?_
  refine m_newa (atype := .int) (N := 10) (tg := 0) (k0 := 0) S M hI (tC_dy cA) hA ka_int rfl (tC_W2 hb) rfl (fun _ h => by cases h) (fun _ => rfl) (by decide) (by decide) (by decide) (by decide) (Nat.le_of_ble_eq_true rfl) (Nat.le_of_ble_eq_true rfl) d_Wa_init_15 (fun q ad2 H g2 f M => ?_)
  subst f
  have hI := mI_up hI
  have G : ∀ k, k < b + 1 → ad2 k = ad k := fun k hk => (g2 k (by omega)).trans (G k hk)
  have f2 : ad2 (b + 2) = ad2 (b + 2) := rfl
  refine m_nQ (k := b) (y := b + 2) (j := 2) S M ok_Wa ((G (b) (by omega)).trans e0) f2 (by omega) (tC_W0 hb) (by decide) rfl kc_11 rfl rfl hnm rfl rfl d_Wa_init_17 (fun H locs M => ?_)
  have hI := mI_sQ (k := b) (j := 2) (y := b + 2) hI (by omega) (by omega)
  refine lv_aload_n S.1 S.2.1 d_Wa_init_20 rfl (lv_at hl 0 rfl) ?_
  refine lv_bipush (v := 10) S.1 S.2.1 d_Wa_init_21 (by decide) ?_
  refine m_newa (atype := .long) (N := 10) (tg := 1) (k0 := 1) S M hI (tC_dy cA) hA ka_long rfl (tC_W3 hb) rfl (fun _ h => by cases h) (fun _ => rfl) (by decide) (by decide) (by decide) (by decide) (Nat.le_of_ble_eq_true rfl) (Nat.le_of_ble_eq_true rfl) d_Wa_init_23 (fun q ad3 H g3 f M => ?_)
  subst f
  have hI := mI_up hI
  have G : ∀ k, k < b + 1 → ad3 k = ad k := fun k hk => (g3 k (by omega)).trans (G k hk)
  have f3 : ad3 (b + 3) = ad3 (b + 3) := rfl
  refine m_nQ (k := b) (y := b + 3) (j := 3) S M ok_Wa ((G (b) (by omega)).trans e0) f3 (by omega) (tC_W0 hb) (by decide) rfl kc_12 rfl rfl hnm rfl rfl d_Wa_init_25 (fun H locs M => ?_)
  have hI := mI_sQ (k := b) (j := 3) (y := b + 3) hI (by omega) (by omega)
  refine lv_aload_n S.1 S.2.1 d_Wa_init_28 rfl (lv_at hl 0 rfl) ?_
  refine lv_iconst (v := 1) S.1 S.2.1 d_Wa_init_29 (by decide) ?_
  refine lv_iload_n S.1 S.2.1 d_Wa_init_30 rfl (lv_at hl 1 rfl) ?_
  refine va_mmax (rest := [.ref h0]) S.1 S.2.1 (S.2.2.1.trans hl.1.symm) S.2.2.2.1 (S.2.2.2.2 _ kc_13) (S.2.2.2.2 _ kc_14) (S.2.2.2.2 _ kc_15) (S.2.2.2.2 _ kc_16) (Nat.le_of_ble_eq_true rfl) (Nat.le_of_ble_eq_true rfl) (Nat.le_of_ble_eq_true rfl) (Nat.le_of_ble_eq_true rfl) d_Wa_init_31 ?_
  refine m_nI (k := b) (j := 0) S M ok_Wa ((G (b) (by omega)).trans e0) (by omega) (tC_W0 hb) (by decide) rfl kc_17 rfl hnm rfl rfl d_Wa_init_34 (fun H locs M => ?_)
  have hI := mI_sI (k := b) (j := 0) (v := if 1 < x1 then x1 else 1) hI (by omega)
  exact m_nret S hr hlk G M d_Wa_init_37

