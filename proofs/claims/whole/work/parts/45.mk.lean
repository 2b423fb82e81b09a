theorem d_Se_init_0 : decode prog_6_method_1_code 0 = .ok (.aload_n 0, 1) := by decide +kernel
theorem d_Se_init_1 : decode prog_6_method_1_code 1 = .ok (.invokespecial 3, 3) := by decide +kernel
theorem d_Se_init_4 : decode prog_6_method_1_code 4 = .ok (.aload_n 0, 1) := by decide +kernel
theorem d_Se_init_5 : decode prog_6_method_1_code 5 = .ok (.bipush 10, 2) := by decide +kernel
theorem d_Se_init_7 : decode prog_6_method_1_code 7 = .ok (.newarray .int, 2) := by decide +kernel
theorem d_Se_init_9 : decode prog_6_method_1_code 9 = .ok (.putfield 9, 3) := by decide +kernel
theorem d_Se_init_12 : decode prog_6_method_1_code 12 = .ok (.aload_n 0, 1) := by decide +kernel
theorem d_Se_init_13 : decode prog_6_method_1_code 13 = .ok (.bipush 10, 2) := by decide +kernel
theorem d_Se_init_15 : decode prog_6_method_1_code 15 = .ok (.newarray .int, 2) := by decide +kernel
theorem d_Se_init_17 : decode prog_6_method_1_code 17 = .ok (.putfield 15, 3) := by decide +kernel
theorem d_Se_init_20 : decode prog_6_method_1_code 20 = .ok (.aload_n 0, 1) := by decide +kernel
theorem d_Se_init_21 : decode prog_6_method_1_code 21 = .ok (.bipush 10, 2) := by decide +kernel
theorem d_Se_init_23 : decode prog_6_method_1_code 23 = .ok (.newarray .int, 2) := by decide +kernel
theorem d_Se_init_25 : decode prog_6_method_1_code 25 = .ok (.putfield 18, 3) := by decide +kernel
theorem d_Se_init_28 : decode prog_6_method_1_code 28 = .ok (.aload_n 0, 1) := by decide +kernel
theorem d_Se_init_29 : decode prog_6_method_1_code 29 = .ok (.aload_n 1, 1) := by decide +kernel
theorem d_Se_init_30 : decode prog_6_method_1_code 30 = .ok (.putfield 21, 3) := by decide +kernel
theorem d_Se_init_33 : decode prog_6_method_1_code 33 = .ok (.aload_n 0, 1) := by decide +kernel
theorem d_Se_init_34 : decode prog_6_method_1_code 34 = .ok (.iload_n 2, 1) := by decide +kernel
theorem d_Se_init_35 : decode prog_6_method_1_code 35 = .ok (.putfield 25, 3) := by decide +kernel
theorem d_Se_init_38 : decode prog_6_method_1_code 38 = .ok (.aload_n 0, 1) := by decide +kernel
theorem d_Se_init_39 : decode prog_6_method_1_code 39 = .ok (.new 29, 3) := by decide +kernel
theorem d_Se_init_42 : decode prog_6_method_1_code 42 = .ok (.dup, 1) := by decide +kernel
theorem d_Se_init_43 : decode prog_6_method_1_code 43 = .ok (.iload_n 3, 1) := by decide +kernel
theorem d_Se_init_44 : decode prog_6_method_1_code 44 = .ok (.invokespecial 31, 3) := by decide +kernel
theorem d_Se_init_47 : decode prog_6_method_1_code 47 = .ok (.putfield 34, 3) := by decide +kernel
theorem d_Se_init_50 : decode prog_6_method_1_code 50 = .ok (.return_, 1) := by decide +kernel
def rm_Se_init : Room := { frames := 2, cells := 7, slots := 65, locals := 42 }
def g_Se (b : Nat) (σ : mS) (x2 : Int32) (x3 : Int32) : mS := (sQ (g_Wa (b + 4) (sI (sQ (sQ (sQ (sQ σ b 3 (some (b + 1))) b 4 (some (b + 2))) b 5 (some (b + 3))) b 0 (some 1)) b 1 x2) x3) b 2 (some (b + 4)))
theorem gi_Se {b : Nat} (hb : sB b) {σ : mS} (hI : mI (b + 1) σ) (x2 : Int32) (x3 : Int32) : mI (b + 8) (g_Se b σ x2 x3) := by
  have hbb : 7 < b ∧ b < 30 := by rcases hb with rfl | rfl <;> decide
  have hI := mI_up hI
  have hI := mI_sQ (k := b) (j := 3) (y := b + 1) hI (by omega) (by omega)
  have hI := mI_up hI
  have hI := mI_sQ (k := b) (j := 4) (y := b + 2) hI (by omega) (by omega)
  have hI := mI_up hI
  have hI := mI_sQ (k := b) (j := 5) (y := b + 3) hI (by omega) (by omega)
  have hI := mI_sQ (k := b) (j := 0) (y := 1) hI (by omega) (by omega)
  have hI := mI_sI (k := b) (j := 1) (v := x2) hI (by omega)
  have hI := mI_up hI
  have hI := gi_Wa (sB_w hb) hI x3
  have hI := mI_sQ (k := b) (j := 2) (y := b + 4) hI (by omega) (by omega)
  exact hI
set_option maxHeartbeats 4000000 in
set_option maxRecDepth 100000 in
theorem c_Se_init (l : Launch) (D : va_G) (cA ad : Nat → Nat) (σ : mS) {b : Nat} (hb : sB b) (hI : mI (b + 1) σ) (h0 : Nat) (h1 : Nat) (e0 : ad (b) = h0) (e1 : ad (1) = h1) (x2 : Int32) (x3 : Int32) (hz : x2 = 0 ∨ x2 = 1) : mCn l ⟨"LeastPaths$Search", "<init>", "(LLeastPaths$Graph;ZI)V"⟩ (Cond.code ⟨"LeastPaths$Search", "<init>", "(LLeastPaths$Graph;ZI)V"⟩ prog_6_method_1_code 4 none :: tlG) rm_Se_init D clX (tyK cA) (tbC cA) (b + 1) ad σ [.ref h0, .ref h1, .int x2, .int x3] (b + 8) (g_Se b σ x2 x3) 7 65 := by
  intro sz
  refine m_ofN (cc := prog_6_method_1_code) (maxL := 4) (ret := none) (Qc := mQn D clX (tyK cA) (tbC cA) (b + 1) ad (b + 8) (g_Se b σ x2 x3)) (by decide) (Nat.le_of_ble_eq_true rfl) (fun p e s m args below meth c ls S hr hlk hnm hl N M => ?_) sz
  have hl : lv_has ls 4 [(0, .ref h0), (1, .ref h1), (2, .int x2), (3, .int x3)] := hl
  have hA : ∀ q, s.heap.size ≤ q → mA (b + 1) ad s.heap.size q := fun q h => Or.inr h
  have G : ∀ k, k < b + 1 → ad k = ad k := fun _ _ => rfl
  have hbb : 7 < b ∧ b < 30 := by rcases hb with rfl | rfl <;> decide
  refine lv_aload_n S.1 S.2.1 d_Se_init_0 rfl (lv_at hl 0 rfl) ?_
  refine W.objInit S.1 S.2.1 S.2.2.2.1 (S.2.2.2.2 _ kc_20) (S.2.2.2.2 _ kc_1) (S.2.2.2.2 _ kc_2) rfl (hl.1.trans S.2.2.1.symm) rfl d_Se_init_1 (Nat.le_of_ble_eq_true rfl) (Nat.le_of_ble_eq_true rfl) ?_
  refine W.eq (g2 := F0 m 4 ls []) rfl ?_
  refine lv_aload_n S.1 S.2.1 d_Se_init_4 rfl (lv_at hl 0 rfl) ?_
  refine lv_bipush (v := 10) S.1 S.2.1 d_Se_init_5 (by decide) ?_
  refine m_newa (atype := .int) (N := 10) (tg := 0) (k0 := 0) S M hI (tC_dy cA) hA ka_int rfl (tC_S1 hb) rfl (fun _ h => by cases h) (fun _ => rfl) (by decide) (by decide) (by decide) (by decide) (Nat.le_of_ble_eq_true rfl) (Nat.le_of_ble_eq_true rfl) d_Se_init_7 (fun q ad1 H g1 f M => ?_)
  subst f
  have hI := mI_up hI
  have G : ∀ k, k < b + 1 → ad1 k = ad k := fun k hk => (g1 k (by omega)).trans (G k hk)
  have f1 : ad1 (b + 1) = ad1 (b + 1) := rfl
  refine m_nQ (k := b) (y := b + 1) (j := 3) S M ok_Se ((G (b) (by omega)).trans e0) f1 (by omega) (tC_S0 hb) (by decide) rfl kc_21 rfl rfl hnm rfl rfl d_Se_init_9 (fun H locs M => ?_)
  have hI := mI_sQ (k := b) (j := 3) (y := b + 1) hI (by omega) (by omega)
  refine lv_aload_n S.1 S.2.1 d_Se_init_12 rfl (lv_at hl 0 rfl) ?_
  refine lv_bipush (v := 10) S.1 S.2.1 d_Se_init_13 (by decide) ?_
  refine m_newa (atype := .int) (N := 10) (tg := 0) (k0 := 0) S M hI (tC_dy cA) hA ka_int rfl (tC_S2 hb) rfl (fun _ h => by cases h) (fun _ => rfl) (by decide) (by decide) (by decide) (by decide) (Nat.le_of_ble_eq_true rfl) (Nat.le_of_ble_eq_true rfl) d_Se_init_15 (fun q ad2 H g2 f M => ?_)
  subst f
  have hI := mI_up hI
  have G : ∀ k, k < b + 1 → ad2 k = ad k := fun k hk => (g2 k (by omega)).trans (G k hk)
  have f2 : ad2 (b + 2) = ad2 (b + 2) := rfl
  refine m_nQ (k := b) (y := b + 2) (j := 4) S M ok_Se ((G (b) (by omega)).trans e0) f2 (by omega) (tC_S0 hb) (by decide) rfl kc_22 rfl rfl hnm rfl rfl d_Se_init_17 (fun H locs M => ?_)
  have hI := mI_sQ (k := b) (j := 4) (y := b + 2) hI (by omega) (by omega)
  refine lv_aload_n S.1 S.2.1 d_Se_init_20 rfl (lv_at hl 0 rfl) ?_
  refine lv_bipush (v := 10) S.1 S.2.1 d_Se_init_21 (by decide) ?_
  refine m_newa (atype := .int) (N := 10) (tg := 0) (k0 := 0) S M hI (tC_dy cA) hA ka_int rfl (tC_S3 hb) rfl (fun _ h => by cases h) (fun _ => rfl) (by decide) (by decide) (by decide) (by decide) (Nat.le_of_ble_eq_true rfl) (Nat.le_of_ble_eq_true rfl) d_Se_init_23 (fun q ad3 H g3 f M => ?_)
  subst f
  have hI := mI_up hI
  have G : ∀ k, k < b + 1 → ad3 k = ad k := fun k hk => (g3 k (by omega)).trans (G k hk)
  have f3 : ad3 (b + 3) = ad3 (b + 3) := rfl
  refine m_nQ (k := b) (y := b + 3) (j := 5) S M ok_Se ((G (b) (by omega)).trans e0) f3 (by omega) (tC_S0 hb) (by decide) rfl kc_23 rfl rfl hnm rfl rfl d_Se_init_25 (fun H locs M => ?_)
  have hI := mI_sQ (k := b) (j := 5) (y := b + 3) hI (by omega) (by omega)
  refine lv_aload_n S.1 S.2.1 d_Se_init_28 rfl (lv_at hl 0 rfl) ?_
  refine lv_aload_n S.1 S.2.1 d_Se_init_29 rfl (lv_at hl 1 rfl) ?_
  refine m_nQ (k := b) (y := 1) (j := 0) S M ok_Se ((G (b) (by omega)).trans e0) ((G (1) (by omega)).trans e1) (by omega) (tC_S0 hb) (by decide) rfl kc_24 rfl rfl hnm rfl rfl d_Se_init_30 (fun H locs M => ?_)
  have hI := mI_sQ (k := b) (j := 0) (y := 1) hI (by omega) (by omega)
  refine lv_aload_n S.1 S.2.1 d_Se_init_33 rfl (lv_at hl 0 rfl) ?_
  refine lv_iload_n S.1 S.2.1 d_Se_init_34 rfl (lv_at hl 2 rfl) ?_
  refine m_nI (k := b) (j := 1) S M ok_Se ((G (b) (by omega)).trans e0) (by omega) (tC_S0 hb) (by decide) rfl kc_25 rfl hnm (nz_n hz) (nz_f hz) d_Se_init_35 (fun H locs M => ?_)
  have hI := mI_sI (k := b) (j := 1) (v := x2) hI (by omega)
  refine lv_aload_n S.1 S.2.1 d_Se_init_38 rfl (lv_at hl 0 rfl) ?_
  refine m_new S M hI (tC_dy cA) hA ok_Wa (tC_S4 hb) kc_26 kn_Wa kc_27 kd_Wa (Nat.le_of_ble_eq_true rfl) (Nat.le_of_ble_eq_true rfl) d_Se_init_39 (fun q ad4 H g4 f M => ?_)
  subst f
  have hI := mI_up hI
  have G : ∀ k, k < b + 1 → ad4 k = ad k := fun k hk => (g4 k (by omega)).trans (G k hk)
  have f4 : ad4 (b + 4) = ad4 (b + 4) := rfl
  refine lv_dup S.1 S.2.1 d_Se_init_42 rfl ?_
  refine lv_iload_n S.1 S.2.1 d_Se_init_43 rfl (lv_at hl 3 rfl) ?_
  refine m_xn (m_rI (As := [.int x3]) (rest := [.ref (ad4 (b + 4)), .ref h0]) S N M hl.1 (cwGI (n := 1) S.2.2.2.2 kc_28 kc_29 kc_27 kc_30 rfl (by decide) ⟨Nat.le_of_ble_eq_true rfl, Nat.le_of_ble_eq_true rfl⟩) (c_Wa_init l D cA _ _ (sB_w hb) hI _ f4  x3) rfl rfl (Nat.le_of_ble_eq_true rfl) d_Se_init_44 ⟨Nat.le_of_ble_eq_true rfl, Nat.le_of_ble_eq_true rfl⟩) M hA (fun ad5 H locs g5 M => ?_)
  have hI := gi_Wa (sB_w hb) hI x3
  have G : ∀ k, k < b + 1 → ad5 k = ad k := fun k hk => (g5 k (by omega)).trans (G k hk)
  have f4 : ad5 (b + 4) = (ad4 (b + 4)) := (g5 (b + 4) (by omega)).trans f4
  refine m_nQ (k := b) (y := b + 4) (j := 2) S M ok_Se ((G (b) (by omega)).trans e0) f4 (by omega) (tC_S0 hb) (by decide) rfl kc_31 rfl rfl hnm rfl rfl d_Se_init_47 (fun H locs M => ?_)
  have hI := mI_sQ (k := b) (j := 2) (y := b + 4) hI (by omega) (by omega)
  exact m_nret S hr hlk G M d_Se_init_50

