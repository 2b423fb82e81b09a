theorem d_Rw_init_0 : decode prog_5_method_1_code 0 = .ok (.aload_n 0, 1) := by decide +kernel
theorem d_Rw_init_1 : decode prog_5_method_1_code 1 = .ok (.invokespecial 3, 3) := by decide +kernel
theorem d_Rw_init_4 : decode prog_5_method_1_code 4 = .ok (.aload_n 0, 1) := by decide +kernel
theorem d_Rw_init_5 : decode prog_5_method_1_code 5 = .ok (.bipush 31, 2) := by decide +kernel
theorem d_Rw_init_7 : decode prog_5_method_1_code 7 = .ok (.anewarray 9, 3) := by decide +kernel
theorem d_Rw_init_10 : decode prog_5_method_1_code 10 = .ok (.putfield 11, 3) := by decide +kernel
theorem d_Rw_init_13 : decode prog_5_method_1_code 13 = .ok (.aload_n 0, 1) := by decide +kernel
theorem d_Rw_init_14 : decode prog_5_method_1_code 14 = .ok (.new 9, 3) := by decide +kernel
theorem d_Rw_init_17 : decode prog_5_method_1_code 17 = .ok (.dup, 1) := by decide +kernel
theorem d_Rw_init_18 : decode prog_5_method_1_code 18 = .ok (.invokespecial 17, 3) := by decide +kernel
theorem d_Rw_init_21 : decode prog_5_method_1_code 21 = .ok (.putfield 18, 3) := by decide +kernel
theorem d_Rw_init_24 : decode prog_5_method_1_code 24 = .ok (.aload_n 0, 1) := by decide +kernel
theorem d_Rw_init_25 : decode prog_5_method_1_code 25 = .ok (.aload_n 1, 1) := by decide +kernel
theorem d_Rw_init_26 : decode prog_5_method_1_code 26 = .ok (.putfield 22, 3) := by decide +kernel
theorem d_Rw_init_29 : decode prog_5_method_1_code 29 = .ok (.aload_n 0, 1) := by decide +kernel
theorem d_Rw_init_30 : decode prog_5_method_1_code 30 = .ok (.aload_n 2, 1) := by decide +kernel
theorem d_Rw_init_31 : decode prog_5_method_1_code 31 = .ok (.putfield 26, 3) := by decide +kernel
theorem d_Rw_init_34 : decode prog_5_method_1_code 34 = .ok (.iconst 0, 1) := by decide +kernel
theorem d_Rw_init_35 : decode prog_5_method_1_code 35 = .ok (.istore_n 3, 1) := by decide +kernel
theorem d_Rw_init_36 : decode prog_5_method_1_code 36 = .ok (.iload_n 3, 1) := by decide +kernel
theorem d_Rw_init_37 : decode prog_5_method_1_code 37 = .ok (.aload_n 0, 1) := by decide +kernel
theorem d_Rw_init_38 : decode prog_5_method_1_code 38 = .ok (.getfield 11, 3) := by decide +kernel
theorem d_Rw_init_41 : decode prog_5_method_1_code 41 = .ok (.arraylength, 1) := by decide +kernel
theorem d_Rw_init_42 : decode prog_5_method_1_code 42 = .ok (.if_icmp .ge 22, 3) := by decide +kernel
theorem d_Rw_init_45 : decode prog_5_method_1_code 45 = .ok (.aload_n 0, 1) := by decide +kernel
theorem d_Rw_init_46 : decode prog_5_method_1_code 46 = .ok (.getfield 11, 3) := by decide +kernel
theorem d_Rw_init_49 : decode prog_5_method_1_code 49 = .ok (.iload_n 3, 1) := by decide +kernel
theorem d_Rw_init_50 : decode prog_5_method_1_code 50 = .ok (.new 9, 3) := by decide +kernel
theorem d_Rw_init_53 : decode prog_5_method_1_code 53 = .ok (.dup, 1) := by decide +kernel
theorem d_Rw_init_54 : decode prog_5_method_1_code 54 = .ok (.invokespecial 17, 3) := by decide +kernel
theorem d_Rw_init_57 : decode prog_5_method_1_code 57 = .ok (.aastore, 1) := by decide +kernel
theorem d_Rw_init_58 : decode prog_5_method_1_code 58 = .ok (.iinc 3 1, 3) := by decide +kernel
theorem d_Rw_init_61 : decode prog_5_method_1_code 61 = .ok (.goto (-25), 3) := by decide +kernel
theorem d_Rw_init_64 : decode prog_5_method_1_code 64 = .ok (.return_, 1) := by decide +kernel
def rm_Rw_init : Room := { frames := 2, cells := 65, slots := 511, locals := 32 }
def g_Rw0 (σ : mS) : mS := (sQ (sQ (sQ (g_Wy 27 (sQ σ 25 2 (some 26))) 25 3 (some 27)) 25 0 (some 1)) 25 1 (some 16))
def rowS (σ : mS) : Nat → mS
  | 0 => σ
  | i + 1 => sQ (g_Wy (29 + 2 * i) (rowS σ i)) 26 i (some (29 + 2 * i))
def g_Rw (σ : mS) : mS := rowS (g_Rw0 σ) 31
theorem wy_i {i : Nat} (h : i < 31) : wy (29 + 2 * i) = true := by
  unfold wy
  exact decide_eq_true (by omega)
theorem rowS_I {σ : mS} (h : mI 29 σ) : ∀ i, i ≤ 31 → mI (29 + 2 * i) (rowS σ i) := by
  intro i
  induction i with
  | zero => intro _; exact h
  | succ i ih =>
    intro hi
    have h1 := gi_Wy (wy_i (i := i) (by omega)) (mI_up (ih (by omega)))
    exact mI_sQ h1 (by omega) (by omega)
theorem rowS_q {σ : mS} {k j : Nat} (hk : k < 26) : ∀ i, (rowS σ i).2.2 k j = σ.2.2 k j := by
  intro i
  induction i with
  | zero => rfl
  | succ i ih =>
    rw [← ih]
    have h1 : k ≠ 26 := by omega
    have h2 : k ≠ 29 + 2 * i := by omega
    simp [rowS, g_Wy, sQ, up2, h1, h2]
theorem gi_Rw0 {σ : mS} (hI : mI 26 σ) : mI 29 (g_Rw0 σ) := by
  have hI := mI_up hI
  have hI := mI_sQ (k := 25) (j := 2) (y := 26) hI (by omega) (by omega)
  have hI := mI_up hI
  have hI := gi_Wy wy_27 hI 
  have hI := mI_sQ (k := 25) (j := 3) (y := 27) hI (by omega) (by omega)
  have hI := mI_sQ (k := 25) (j := 0) (y := 1) hI (by omega) (by omega)
  have hI := mI_sQ (k := 25) (j := 1) (y := 16) hI (by omega) (by omega)
  exact hI
theorem gi_Rw {σ : mS} (hI : mI 26 σ) : mI 91 (g_Rw σ) := rowS_I (gi_Rw0 hI) 31 (Nat.le_refl _)
set_option maxHeartbeats 4000000 in
set_option maxRecDepth 100000 in
theorem c_Rw_init (l : Launch) (D : va_G) (cA ad : Nat → Nat) (σ : mS) (hI : mI 26 σ) (h0 h1 h2 : Nat) (e0 : ad 25 = h0) (e1 : ad 1 = h1) (e2 : ad 16 = h2) : mCn l ⟨"LeastPaths$Row", "<init>", "(LLeastPaths$Graph;LLeastPaths$Search;)V"⟩ (Cond.code ⟨"LeastPaths$Row", "<init>", "(LLeastPaths$Graph;LLeastPaths$Search;)V"⟩ prog_5_method_1_code 4 none :: tlG) rm_Rw_init D clX (tyK cA) (tbC cA) 26 ad σ [.ref h0, .ref h1, .ref h2] 91 (g_Rw σ) 65 511 := by
  intro sz
  refine m_ofN (cc := prog_5_method_1_code) (maxL := 4) (ret := none) (Qc := mQn D clX (tyK cA) (tbC cA) 26 ad 91 (g_Rw σ)) (by decide) (Nat.le_of_ble_eq_true rfl) (fun p e s m args below meth c ls S hr hlk hnm hl N M => ?_) sz
  have hl : lv_has ls 4 [(0, .ref h0), (1, .ref h1), (2, .ref h2)] := hl
  have hA : ∀ q, s.heap.size ≤ q → mA 26 ad s.heap.size q := fun q h => Or.inr h
  have hI0 := gi_Rw0 hI
  have G : ∀ k, k < 26 → ad k = ad k := fun _ _ => rfl
  refine lv_aload_n S.1 S.2.1 d_Rw_init_0 rfl (lv_at hl 0 rfl) ?_
  refine W.objInit S.1 S.2.1 S.2.2.2.1 (S.2.2.2.2 _ kc_50) (S.2.2.2.2 _ kc_1) (S.2.2.2.2 _ kc_2) rfl (hl.1.trans S.2.2.1.symm) rfl d_Rw_init_1 (Nat.le_of_ble_eq_true rfl) (Nat.le_of_ble_eq_true rfl) ?_
  refine W.eq (g2 := F0 m 4 ls []) rfl ?_
  refine lv_aload_n S.1 S.2.1 d_Rw_init_4 rfl (lv_at hl 0 rfl) ?_
  refine lv_bipush (v := 31) S.1 S.2.1 d_Rw_init_5 (by decide) ?_
  refine m_newq (N := 31) (k0 := 3) S M hI (tC_dy cA) hA kc_51 N.2.2.2 rfl rfl (by decide) (by decide) (by decide) (Nat.le_of_ble_eq_true rfl) (Nat.le_of_ble_eq_true rfl) d_Rw_init_7 (fun q ad1 H g1 f M => ?_)
  subst f
  have hI := mI_up hI
  have G : ∀ k, k < 26 → ad1 k = ad k := fun k hk => (g1 k (by omega)).trans (G k hk)
  have f1 : ad1 (26) = ad1 (26) := rfl
  refine m_nQ (k := 25) (y := 26) (j := 2) S M ok_Rw ((G (25) (by omega)).trans e0) f1 (by omega) rfl (by decide) rfl kc_52 rfl rfl hnm rfl rfl d_Rw_init_10 (fun H locs M => ?_)
  have hI := mI_sQ (k := 25) (j := 2) (y := 26) hI (by omega) (by omega)
  refine lv_aload_n S.1 S.2.1 d_Rw_init_13 rfl (lv_at hl 0 rfl) ?_
  refine m_new S M hI (tC_dy cA) hA ok_Wy rfl kc_51 kn_Wy kc_37 kd_Wy (Nat.le_of_ble_eq_true rfl) (Nat.le_of_ble_eq_true rfl) d_Rw_init_14 (fun q ad2 H g2 f M => ?_)
  subst f
  have hI := mI_up hI
  have G : ∀ k, k < 26 → ad2 k = ad k := fun k hk => (g2 k (by omega)).trans (G k hk)
  have f2 : ad2 (27) = ad2 (27) := rfl
  refine lv_dup S.1 S.2.1 d_Rw_init_17 rfl ?_
  refine m_xn (m_rIN (As := []) (rest := [.ref (ad2 (27)), .ref h0]) S N M hl.1 (cwGN (n := 0) S.2.2.2.2 N.2.1 kc_38 kc_37 kc_39 rfl (by decide) ⟨Nat.le_of_ble_eq_true rfl, Nat.le_of_ble_eq_true rfl⟩) (c_Wy_init l D cA _ _ wy_27 hI _ f2  ) rfl rfl (Nat.le_of_ble_eq_true rfl) d_Rw_init_18 ⟨Nat.le_of_ble_eq_true rfl, Nat.le_of_ble_eq_true rfl⟩) M hA (fun ad3 H locs g3 M => ?_)
  have hI := gi_Wy wy_27 hI 
  have G : ∀ k, k < 26 → ad3 k = ad k := fun k hk => (g3 k (by omega)).trans (G k hk)
  have f2 : ad3 (27) = (ad2 (27)) := (g3 (27) (by omega)).trans f2
  refine m_nQ (k := 25) (y := 27) (j := 3) S M ok_Rw ((G (25) (by omega)).trans e0) f2 (by omega) rfl (by decide) rfl kc_53 rfl rfl hnm rfl rfl d_Rw_init_21 (fun H locs M => ?_)
  have hI := mI_sQ (k := 25) (j := 3) (y := 27) hI (by omega) (by omega)
  refine lv_aload_n S.1 S.2.1 d_Rw_init_24 rfl (lv_at hl 0 rfl) ?_
  refine lv_aload_n S.1 S.2.1 d_Rw_init_25 rfl (lv_at hl 1 rfl) ?_
  refine m_nQ (k := 25) (y := 1) (j := 0) S M ok_Rw ((G (25) (by omega)).trans e0) ((G (1) (by omega)).trans e1) (by omega) rfl (by decide) rfl kc_54 rfl rfl hnm rfl rfl d_Rw_init_26 (fun H locs M => ?_)
  have hI := mI_sQ (k := 25) (j := 0) (y := 1) hI (by omega) (by omega)
  refine lv_aload_n S.1 S.2.1 d_Rw_init_29 rfl (lv_at hl 0 rfl) ?_
  refine lv_aload_n S.1 S.2.1 d_Rw_init_30 rfl (lv_at hl 2 rfl) ?_
  refine m_nQ (k := 25) (y := 16) (j := 1) S M ok_Rw ((G (25) (by omega)).trans e0) ((G (16) (by omega)).trans e2) (by omega) rfl (by decide) rfl kc_55 rfl rfl hnm rfl rfl d_Rw_init_31 (fun H locs M => ?_)
  have hI := mI_sQ (k := 25) (j := 1) (y := 16) hI (by omega) (by omega)
  refine lv_iconst (v := 0) S.1 S.2.1 d_Rw_init_34 (by decide) ?_
  refine lv_istore_n (lv' := [(3, .int 0), (0, .ref h0), (1, .ref h1), (2, .ref h2)]) S.1 S.2.1 d_Rw_init_35 rfl hl (by decide) rfl (fun ls hl => ?_)
  generalize hQ : MQ _ _ _ _ _ _ _ = Q
  have loop : ∀ (d i : Nat), i + d = 31 → ∀ (adI : Nat → Nat) (ls : Array Slot) (H : Heap) (locs : List Loc), (∀ k, k < 26 → adI k = ad k) → lv_has ls 4 [(3, .int (nI i)), (0, .ref h0), (1, .ref h1), (2, .ref h2)] → mM D clX (tyK cA) (mA 26 ad s.heap.size) s (29 + 2 * i) (tbC cA) adI (rowS (g_Rw0 σ) i) H locs → W p l e rm_Rw_init s m args below meth c H locs (3 + 2 * i) (46 + 15 * i) Q (F0 m 36 ls []) := by
    intro d
    induction d with
    | zero =>
      intro i hi adI ls H locs GI hl M
      have hi : i = 31 := by omega
      subst hi
      refine lv_iload_n S.1 S.2.1 d_Rw_init_36 rfl (lv_at hl 0 rfl) ?_
      refine lv_aload_n S.1 S.2.1 d_Rw_init_37 rfl (lv_at hl 1 rfl) ?_
      refine m_gq (k := 25) (j := 2) (y := 26) S M ok_Rw ((GI 25 (by omega)).trans e0) (by omega) rfl (by decide) rfl kc_52 rfl (by rw [rowS_q (by omega)]; rfl) d_Rw_init_38 ?_
      refine m_alen (k := 26) (N := 31) (t0 := 3) S M (by omega) rfl rfl d_Rw_init_41 ?_
      refine lv_icmp_ge (tgt := 64) S.1 S.2.1 d_Rw_init_42 (by decide) (fun _ => ?_) (fun hc => absurd (nI_le (Nat.le_refl 31) (by decide)) hc)
      subst hQ
      exact m_nret S hr hlk GI M d_Rw_init_64
    | succ d ih =>
      intro i hi adI ls H locs GI hl M
      have hIi := rowS_I hI0 i (by omega)
      refine lv_iload_n S.1 S.2.1 d_Rw_init_36 rfl (lv_at hl 0 rfl) ?_
      refine lv_aload_n S.1 S.2.1 d_Rw_init_37 rfl (lv_at hl 1 rfl) ?_
      refine m_gq (k := 25) (j := 2) (y := 26) S M ok_Rw ((GI 25 (by omega)).trans e0) (by omega) rfl (by decide) rfl kc_52 rfl (by rw [rowS_q (by omega)]; rfl) d_Rw_init_38 ?_
      refine m_alen (k := 26) (N := 31) (t0 := 3) S M (by omega) rfl rfl d_Rw_init_41 ?_
      refine lv_icmp_ge (tgt := 64) S.1 S.2.1 d_Rw_init_42 (by decide) (fun hc => absurd hc (nI_ge (a := i) (b := 31) (by omega) (by decide))) (fun _ => ?_)
      refine lv_aload_n S.1 S.2.1 d_Rw_init_45 rfl (lv_at hl 1 rfl) ?_
      refine m_gq (k := 25) (j := 2) (y := 26) S M ok_Rw ((GI 25 (by omega)).trans e0) (by omega) rfl (by decide) rfl kc_52 rfl (by rw [rowS_q (by omega)]; rfl) d_Rw_init_46 ?_
      refine lv_iload_n S.1 S.2.1 d_Rw_init_49 rfl (lv_at hl 0 rfl) ?_
      refine m_new S M hIi (tC_dy cA) hA ok_Wy (tC_Y0 (wy_i (by omega))) kc_51 kn_Wy kc_37 kd_Wy (by show _ ≤ 65; omega) (by show _ ≤ 511; omega) d_Rw_init_50 (fun q ad1 H g1 f M => ?_)
      subst f
      have hI1 := mI_up hIi
      refine lv_dup S.1 S.2.1 d_Rw_init_53 rfl ?_
      refine m_xn (m_rIN (As := []) (rest := [.ref (ad1 (29 + 2 * i)), .int (nI i), .ref (adI 26)]) S N M hl.1 (cwGN (n := 0) S.2.2.2.2 N.2.1 kc_38 kc_37 kc_39 rfl (by decide) ⟨Nat.le_of_ble_eq_true rfl, Nat.le_of_ble_eq_true rfl⟩) (c_Wy_init l D cA _ _ (wy_i (by omega)) hI1 _ rfl) rfl rfl (Nat.le_of_ble_eq_true rfl) d_Rw_init_54 ⟨by show _ ≤ 65; omega, by show _ ≤ 511; omega⟩) M hA (fun ad2 H locs g2 M => ?_)
      rw [← g2 (29 + 2 * i) (by omega), ← g1 26 (by omega), ← g2 26 (by omega)]
      refine m_aas (k := 26) (k2 := 29 + 2 * i) (t0 := 3) (N := 31) (r := sQ (g_Wy (29 + 2 * i) (rowS (g_Rw0 σ) i)) 26 i (some (29 + 2 * i))) (f := fun z => some z) S M ok_Wy (by omega) rfl rfl (by omega) (tC_Y0 (wy_i (by omega))) ?_ d_Rw_init_57 (fun σ1 H locs h M => ?_)
      · have hin : inb (nI i) 31 = true := by
          unfold inb
          rw [nI_toInt (by omega)]
          exact decide_eq_true (by omega)
        rw [hin, nI_clamp (by omega)]
        rfl
      · have h := Option.some.inj h
        subst h
        refine lv_iinc (v := nI i + 1) (lv' := [(3, .int (nI i + 1)), (0, .ref h0), (1, .ref h1), (2, .ref h2)]) S.1 S.2.1 d_Rw_init_58 hl (k := 0) rfl rfl (by decide) rfl (fun ls hl => ?_)
        rw [nI_1] at hl
        refine lv_goto (tgt := 36) S.1 S.2.1 d_Rw_init_61 (by decide) ?_
        refine W.widen (k := 3 + 2 * (i + 1)) (n := 46 + 15 * (i + 1)) (by omega) (by omega) ?_
        exact ih (i + 1) (by omega) ad2 ls _ _ (fun k hk => ((g2 k (by omega)).trans (g1 k (by omega))).trans (GI k hk)) hl M
  exact loop 31 0 rfl _ ls _ _ G (by rw [nI_0]; exact hl) M

