-- ===== PURE: loops that count =====
theorem lpN_i {S X : Type} {st : S → Option (S ⊕ X)} (I : Nat → S → Prop) (Q : X → Prop) (e : Nat) (hs : ∀ i s, i ≤ e → I i s → (∃ x, st s = some (.inr x) ∧ Q x) ∨ (i < e ∧ ∃ s', st s = some (.inl s') ∧ I (i + 1) s')) : ∀ n i s, I i s → i ≤ e → e - i < n → ∃ x, lpN st n s = some x ∧ Q x := by
  intro n
  induction n with
  | zero => intro i s _ _ h; omega
  | succ n ih =>
    intro i s hI hi hn
    rcases hs i s hi hI with ⟨x, h1, h2⟩ | ⟨h0, s', h1, h2⟩
    · exact ⟨x, by rw [lpN, h1], h2⟩
    · obtain ⟨x, h3, h4⟩ := ih (i + 1) s' h2 (by omega) (by omega)
      exact ⟨x, by rw [lpN, h1]; exact h3, h4⟩
/-- with a measure that falls -/
theorem lpN_m {S X : Type} {st : S → Option (S ⊕ X)} (I : S → Prop) (Q : X → Prop) (μ : S → Nat) (hs : ∀ s, I s → (∃ x, st s = some (.inr x) ∧ Q x) ∨ ∃ s', st s = some (.inl s') ∧ I s' ∧ μ s' < μ s) : ∀ n s, I s → μ s < n → ∃ x, lpN st n s = some x ∧ Q x := by
  intro n
  induction n with
  | zero => intro s _ h; omega
  | succ n ih =>
    intro s hI hn
    rcases hs s hI with ⟨x, h1, h2⟩ | ⟨s', h1, h2, h3⟩
    · exact ⟨x, by rw [lpN, h1], h2⟩
    · obtain ⟨x, h4, h5⟩ := ih s' h2 (by omega)
      exact ⟨x, by rw [lpN, h1]; exact h4, h5⟩
theorem bF : bI false = 0 := rfl
theorem bT : ¬ bI true = 0 := n10
theorem fuS_e : fuS = 1000 := rfl
theorem fuB_e : fuB = 10 ^ 40 := rfl
def okR (G : GT) (e : Nat) : Bool := !gl G e || decide (gr G (gf G e) ≤ gw G e + gr G (gt G e))
def allR (G : GT) (i : Nat) : Bool := (List.range i).all (okR G)
theorem allR_s (G : GT) (i : Nat) : allR G (i + 1) = (allR G i && okR G i) := by
  unfold allR
  rw [List.range_succ, List.all_append]
  simp
theorem allR_le {G : GT} {i j : Nat} (h : i ≤ j) (hj : allR G j = true) : allR G i = true := by
  unfold allR at *
  rw [List.all_eq_true] at *
  intro x hx
  exact hj x (List.mem_range.mpr (Nat.lt_of_lt_of_le (List.mem_range.mp hx) h))
section Good
variable {G : GT} {σ τ : mS}
theorem aIn_n {e : Nat} (hW : WG G) (he : e < gm G) : aIn G (nI e) = gl G e := by
  have := hW.2.1
  unfold aIn
  rw [inb_n he (by omega), nI_clamp (by omega), Bool.true_and]
theorem x_rests (hW : WG G) (hX : RX G σ) {v : Nat} (hv : v < gN G) : f_Gr_restsLeadTo σ (nI v) = some (bI (decide (gr G v = 0) && allR G (gm G))) := by
  have hN := hW.1
  have hm := hW.2.1
  unfold f_Gr_restsLeadTo
  rw [gd_t (inb_n (by omega) (by decide)), nI_clamp (by omega), hX.2.2.2.1 v hv]
  have hgr := hW.2.2.2 v hv
  have e0 : (nI (gr G v) = 0) ↔ gr G v = 0 := by rw [show (0 : Int32) = nI 0 from rfl]; exact nI_eq (by omega) (by omega)
  by_cases h0 : gr G v = 0
  · rw [if_pos (e0.mpr h0)]
    obtain ⟨x, h1, h2⟩ := lpN_i (st := f_Gr_restsLeadTo_L13 σ) (fun i t => t = nI i ∧ allR G i = true) (fun x => (∃ t, x = .inl t ∧ allR G (gm G) = true) ∨ x = .inr 0 ∧ allR G (gm G) = false) (gm G) (fun i t hi ht => by
      obtain ⟨rfl, ha⟩ := ht
      unfold f_Gr_restsLeadTo_L13
      rw [hX.2.1]
      by_cases hc : i = gm G
      · subst hc
        left
        rw [if_pos (nI_le (Nat.le_refl _) (by omega))]
        exact ⟨_, rfl, Or.inl ⟨_, rfl, ha⟩⟩
      · have hi2 : i < gm G := by omega
        rw [if_neg (nI_ge hi2 (by omega)), x_hasArc hW hX, aIn_n hW hi2, Option.bind_some]
        cases hg : gl G i with
        | false =>
          right
          refine ⟨hi2, _, by rw [if_pos bF], by rw [nI_1], ?_⟩
          rw [allR_s, ha, okR, hg]; rfl
        | true =>
          obtain ⟨q1, q2, q3, q4, q5⟩ := hX.2.2.1 i hi2
          obtain ⟨w1, w2, w3, w4, w5⟩ := hW.2.2.1 i hi2
          have r1 := hW.2.2.2 _ w1
          have r2 := hW.2.2.2 _ w2
          rw [if_neg bT, gd_t (inb_n (by omega) (by decide)), nI_clamp (by omega), q1, q2, q3, gd_t (inb_n (by omega) (by decide)), gd_t (inb_n (by omega) (by decide)), gd_t (inb_n (by omega) (by decide)), gd_t (inb_n (by omega) (by decide)), nI_clamp (by omega), nI_clamp (by omega), hX.2.2.2.1 _ w1, hX.2.2.2.1 _ w2, nI_add]
          have ec := nI_leI (a := gr G (gf G i)) (b := gw G i + gr G (gt G i)) (by omega) (by omega)
          by_cases hle : gr G (gf G i) ≤ gw G i + gr G (gt G i)
          · right
            refine ⟨hi2, _, by rw [if_pos (ec.mpr hle)], by rw [nI_1], ?_⟩
            rw [allR_s, ha, okR, hg]; simp [hle]
          · left
            refine ⟨_, by rw [if_neg (fun q => hle (ec.mp q))], Or.inr ⟨rfl, ?_⟩⟩
            cases hq : allR G (gm G) with
            | false => rfl
            | true =>
              have h3 := allR_le (i := i + 1) (by omega) hq
              rw [allR_s, okR, hg] at h3
              simp [hle] at h3) fuS 0 0 ⟨rfl, rfl⟩ (Nat.zero_le _) (by rw [fuS_e]; omega)
    rw [h1, Option.bind_some]
    rcases h2 with ⟨t, rfl, h3⟩ | ⟨rfl, h3⟩
    · simp [h0, h3, bI]
    · simp [h0, h3, bI]
  · rw [if_neg (fun q => h0 (e0.mp q))]
    simp [h0, bI]
theorem y_goodL (hW : WG G) (hY : RY G τ) (z : Bool) : ∃ x, lpN (f_Mo_good_L27 τ) fuB (bI z, 0) = some x ∧ x.1 = bI (z && allR G (gm G)) := by
  have hN := hW.1
  have hm := hW.2.1
  refine lpN_i (st := f_Mo_good_L27 τ) (fun i t => t = (bI (z && allR G i), nI i)) (fun x => x.1 = bI (z && allR G (gm G))) (gm G) (fun i t hi ht => ?_) fuB 0 (bI z, 0) (by simp [allR]; rfl) (Nat.zero_le _) (by rw [fuB_e]; omega)
  subst ht
  unfold f_Mo_good_L27
  dsimp only
  rw [hY.2.1]
  by_cases hc : i = gm G
  · subst hc
    left
    rw [if_pos (nI_le (Nat.le_refl _) (by omega))]
    exact ⟨_, rfl, rfl⟩
  · have hi2 : i < gm G := by omega
    right
    refine ⟨hi2, ?_⟩
    rw [if_neg (nI_ge hi2 (by omega))]
    cases hz : (z && allR G i) with
    | false =>
      refine ⟨_, by rw [if_pos bF], ?_⟩
      have : (z && allR G (i + 1)) = false := by rw [allR_s, ← Bool.and_assoc, hz]; rfl
      rw [this, nI_1]; rfl
    | true =>
      obtain ⟨q1, q2, q3, q4, q5, q6⟩ := hY.2.2.1 i hi2
      obtain ⟨w1, w2, w3, w4, w5⟩ := hW.2.2.1 i hi2
      have r1 := hW.2.2.2 _ w1
      have r2 := hW.2.2.2 _ w2
      have hs : ∀ y : Bool, okR G i = y → (z && allR G (i + 1)) = y := fun y hy => by rw [allR_s, ← Bool.and_assoc, hz, hy]; rfl
      rw [if_neg bT, gd_t (inb_n (by omega) (by decide)), nI_clamp (by omega), q6]
      cases hg : gl G i with
      | false =>
        refine ⟨_, by rw [if_pos bF], ?_⟩
        rw [hs true (by rw [okR, hg]; rfl), nI_1]; rfl
      | true =>
        rw [if_neg bT, gd_t (inb_n (by omega) (by decide)), q1, q2, q3, gd_t (inb_n (by omega) (by decide)), gd_t (inb_n (by omega) (by decide)), gd_t (inb_n (by omega) (by decide)), gd_t (inb_n (by omega) (by decide)), nI_clamp (by omega), nI_clamp (by omega), (hY.2.2.2 _ w1).2, (hY.2.2.2 _ w2).2, nI_add]
        have ec := nI_ltI (a := gw G i + gr G (gt G i)) (b := gr G (gf G i)) (by omega) (by omega)
        by_cases hle : gr G (gf G i) ≤ gw G i + gr G (gt G i)
        · refine ⟨_, by rw [if_neg (fun q => absurd (ec.mp q) (by omega))], ?_⟩
          rw [hs true (by rw [okR, hg]; simp [hle]), nI_1]; rfl
        · refine ⟨_, by rw [if_pos (ec.mpr (by omega))], ?_⟩
          rw [hs false (by rw [okR, hg]; simp [hle]), nI_1]; rfl
theorem p_good (R : Rel G σ τ) (x : Int32) : ∃ r, f_LP_good σ x = some r ∧ f_Mo_good τ x = some r := by
  obtain ⟨hW, hX, hY, hI, hh, hr⟩ := id R
  have hN := hW.1
  unfold f_LP_good f_Mo_good
  rw [x_hasNode hW hX, y_isNode hW hY]
  cases ex : inb x (gN G) with
  | false => exact ⟨-1, rfl, rfl⟩
  | true =>
    obtain ⟨u, hu, rfl⟩ := inb_e ex (by omega)
    have hgr := hW.2.2.2 u hu
    have e0 : (nI (gr G u) = 0) ↔ gr G u = 0 := by rw [show (0 : Int32) = nI 0 from rfl]; exact nI_eq (by omega) (by omega)
    rw [Option.bind_some, Option.bind_some, if_neg bT, if_neg bT, x_rests hW hX hu, Option.bind_some, gd_t (inb_n (by omega) (by decide)), nI_clamp (by omega), (hY.2.2.2 u hu).2]
    refine ⟨bI (decide (gr G u = 0) && allR G (gm G)), ?_, ?_⟩
    · cases (decide (gr G u = 0) && allR G (gm G)) <;> rfl
    · unfold f_Mo_good_J24
      by_cases h0 : gr G u = 0
      · obtain ⟨z, h1, h2⟩ := y_goodL hW hY true
        rw [if_pos (e0.mpr h0)]
        have h1 : lpN (f_Mo_good_L27 τ) fuB (1, 0) = some z := h1
        rw [h1, Option.bind_some, h2]
        simp only [h0, decide_true]
        cases (true && allR G (gm G)) <;> rfl
      · obtain ⟨z, h1, h2⟩ := y_goodL hW hY false
        rw [if_neg (fun q => h0 (e0.mp q))]
        have h1 : lpN (f_Mo_good_L27 τ) fuB (0, 0) = some z := h1
        rw [h1, Option.bind_some, h2]
        simp only [h0, decide_false]
        cases (false && allR G (gm G)) <;> rfl
end Good
