theorem p_reached {G : GT} {σ τ : mS} (R : Rel G σ τ) : Ok2 (f_LP_reached σ) (f_Mo_reached τ) := by
  have hW := R.1
  have hN := hW.1
  obtain ⟨σ', τ', K, C, c, k, o, F, H, a1, a2, a3, a4, a5, a6, a7, a8, a9, a10, a11, a12⟩ := trees_e R
  unfold f_LP_reached f_Mo_reached
  rw [a1, a2, Option.bind_some, Option.bind_some]
  have hY' := a3.2.2.1
  obtain ⟨u, p1, p2⟩ := lpN_i (st := f_Mo_reached_L8 τ') (fun i t => t.2 = nI i ∧ ∀ v, b32 t.1 v = (decide (v < i) && K v)) (fun u => ∀ v, b32 u.1 v = (decide (v < gN G) && K v)) (gN G) (fun i t hi ht => by
    obtain ⟨t1, t2⟩ := t
    obtain ⟨e1, hv⟩ := ht
    dsimp only at e1 hv
    subst e1
    unfold f_Mo_reached_L8
    dsimp only
    rw [hY'.1]
    by_cases hc : i = gN G
    · subst hc
      left
      rw [if_pos (nI_le (Nat.le_refl _) (by omega))]
      exact ⟨_, rfl, hv⟩
    · right
      have hi2 : i < gN G := by omega
      refine ⟨hi2, ?_⟩
      obtain ⟨f1, f2⟩ := a9 i hi2
      obtain ⟨g1, g2⟩ := a10 i hi2
      obtain ⟨k1, k2⟩ := a12 i hi2
      rw [if_neg (nI_ge hi2 (by omega)), gd_t (inb_n (by omega) (by decide)), nI_clamp (by omega), f1]
      have eN : ((1000000000 : Int32) ≤ nI (F i)) ↔ 1000000000 ≤ F i := by rw [show (1000000000 : Int32) = nI 1000000000 from rfl]; exact nI_leI (by omega) (by omega)
      simp only [nm]
      by_cases hf : F i = 1000000000
      · have hK : K i = false := by
          cases q : K i with
          | false => rfl
          | true => exact absurd hf (k1.mp q)
        rw [if_pos (eN.mpr (by omega))]
        refine ⟨_, rfl, nI_1 i, fun v => ?_⟩
        dsimp only
        rw [b32_or, b32_0, hv v]
        by_cases q : v = i
        · subst q; simp [hK]
        · by_cases q2 : v < i
          · simp [q2, Nat.lt_succ_of_lt q2]
          · have : ¬ v < i + 1 := by omega
            simp [q2, this]
      · rw [if_neg (fun q => by have := eN.mp q; omega)]
        refine ⟨_, rfl, nI_1 i, fun v => ?_⟩
        dsimp only
        rw [b32_set _ (by omega), hv v]
        by_cases q : v = i
        · subst q; simp [k1.mpr hf]
        · by_cases q2 : v < i
          · simp [q, q2, Nat.lt_succ_of_lt q2]
          · have : ¬ v < i + 1 := by omega
            simp [q, q2, this]) fuB 0 (0, 0) ⟨rfl, fun v => by dsimp only; rw [b32_0]; simp⟩ (Nat.zero_le _) (by rw [fuB_e]; omega)
  rw [p1, Option.bind_some]
  have eq : σ'.1 8 7 = u.1 := by
    apply b32_ext
    intro v _
    rw [a4.2.1 v, p2 v]
    cases q : K v with
    | false => simp
    | true => simp [(a4.1.2.2 v q).1]
  rw [eq]
  exact ⟨u.1, σ', τ', G, rfl, rfl, a3⟩
/-- the arc e leads best to v -/
def lbE (G : GT) (ag : Bool) (O K : Nat → Bool) (c : Nat → Nat) (e v : Nat) : Bool := decide (gE G ag e = v) && O e && K (gS G ag e) && decide (c (gS G ag e) + (gw G e * 16 + 1) = c v)
theorem leads_e {b : Nat} {G : GT} {ag : Bool} {O s X K : Nat → Bool} {σ : mS} {c : Nat → Nat} (hW : WG G) (hX : RX G σ) (h : TX b G ag O s X σ K c) {e v : Nat} (he : e < gm G) (hv : v < gN G) (hK : K v = true) : f_Se_leadsBest b σ (nI e) (nI v) = some (bI (lbE G ag O K c e v)) := by
  have hN := hW.1
  have hm := hW.2.1
  obtain ⟨h1, h2, h3, h4, h5, h6⟩ := h
  have hs := gS_lt (ag := ag) hW he
  have hee := gE_lt (ag := ag) hW he
  unfold f_Se_leadsBest lbE
  rw [end_e hW hX h5 he, Option.bind_some]
  have eq := nI_eq (a := gE G ag e) (b := v) (by omega) (by omega)
  by_cases q : gE G ag e = v
  · rw [if_pos (eq.mpr q), open_e h4 (by omega), Option.bind_some]
    cases ho : O e with
    | false => rw [if_pos bF]; simp [bI]
    | true =>
      rw [if_neg bT, start_e hW hX h5 he, Option.bind_some, knows_e h2 (by omega), Option.bind_some]
      cases hk : K (gS G ag e) with
      | false => rw [if_pos bF]; simp [bI]
      | true =>
        obtain ⟨s1, s2, s3, s4⟩ := h3 _ hk
        obtain ⟨v1, v2, v3, v4⟩ := h3 _ hK
        have hw := (hW.2.2.1 e he).2.2.2.1
        rw [if_neg bT, Option.bind_some, gd_t (inb_n (by omega) (by decide)), cost_e hW hX h6 he, Option.bind_some, gd_t (inb_n (by omega) (by decide)), nI_clamp (by omega), nI_clamp (by omega), s2, v2, nI_add]
        have e2 := nI_eq (a := c (gS G ag e) + (gw G e * 16 + 1)) (b := c v) (by omega) (by omega)
        by_cases q2 : c (gS G ag e) + (gw G e * 16 + 1) = c v
        · rw [if_pos (e2.mpr q2)]; simp [q, q2, bI]
        · rw [if_neg (fun z => q2 (e2.mp z))]; simp [q2, bI]
  · rw [if_neg (fun z => q (eq.mp z))]; simp [q, bI]
/-- the least arc that leads best, or none -/
theorem last_e {b : Nat} {G : GT} {ag : Bool} {O s X K : Nat → Bool} {σ : mS} {c : Nat → Nat} (hW : WG G) (hX : RX G σ) (h : TX b G ag O s X σ K c) {v : Nat} (hv : v < gN G) (hK : K v = true) : (f_Se_lastArc b σ (nI v) = some (-1) ∧ ∀ e, e < gm G → lbE G ag O K c e v = false) ∨ ∃ e, e < gm G ∧ f_Se_lastArc b σ (nI v) = some (nI e) ∧ lbE G ag O K c e v = true ∧ ∀ j, j < e → lbE G ag O K c j v = false := by
  have hm := hW.2.1
  unfold f_Se_lastArc
  obtain ⟨u, p1, p2⟩ := lpN_i (st := f_Se_lastArc_L2 σ b (nI v)) (fun i t => t = nI i ∧ ∀ j, j < i → lbE G ag O K c j v = false) (fun u => (∃ t, u = .inl t ∧ ∀ e, e < gm G → lbE G ag O K c e v = false) ∨ ∃ e, e < gm G ∧ u = .inr (nI e) ∧ lbE G ag O K c e v = true ∧ ∀ j, j < e → lbE G ag O K c j v = false) (gm G) (fun i t hi ht => by
    obtain ⟨rfl, hj⟩ := ht
    unfold f_Se_lastArc_L2
    rw [hX.2.1]
    by_cases hc : i = gm G
    · subst hc
      left
      rw [if_pos (nI_le (Nat.le_refl _) (by omega))]
      exact ⟨_, rfl, Or.inl ⟨_, rfl, hj⟩⟩
    · have hi2 : i < gm G := by omega
      rw [if_neg (nI_ge hi2 (by omega)), leads_e hW hX h hi2 hv hK, Option.bind_some]
      cases hb : lbE G ag O K c i v with
      | false =>
        right
        refine ⟨hi2, _, by rw [if_pos bF], nI_1 i, fun j hji => ?_⟩
        by_cases q : j = i
        · rw [q]; exact hb
        · exact hj j (by omega)
      | true =>
        left
        exact ⟨_, by rw [if_neg bT], Or.inr ⟨i, hi2, rfl, hb, hj⟩⟩) fuS 0 0 ⟨rfl, fun j hj => absurd hj (Nat.not_lt_zero _)⟩ (Nat.zero_le _) (by rw [fuS_e]; omega)
  rw [p1, Option.bind_some]
  rcases p2 with ⟨t, rfl, h2⟩ | ⟨e, e1, rfl, e3, e4⟩
  · exact Or.inl ⟨rfl, h2⟩
  · exact Or.inr ⟨e, e1, rfl, e3, e4⟩
