-- ===== PURE: the heap of those that wait =====
def ordH (d sz : Nat) (r g : Nat → Nat) : Prop := ∀ i, 0 < i → i < sz → r (g ((i - 1) / d)) < r (g i)
def upI (d sz a : Nat) (r g : Nat → Nat) : Prop := (∀ i, 0 < i → i < sz → i ≠ a → r (g ((i - 1) / d)) < r (g i)) ∧ (0 < a → ∀ c, 0 < c → c < sz → (c - 1) / d = a → r (g ((a - 1) / d)) < r (g c))
def swG (g : Nat → Nat) (a p : Nat) : Nat → Nat := fun i => if i = a then g p else if i = p then g a else g i
theorem par_lt {d i : Nat} (h : 0 < i) : (i - 1) / d < i := Nat.lt_of_le_of_lt (Nat.div_le_self _ _) (by omega)
theorem up_go {d sz a : Nat} {r g : Nat → Nat} (h : upI d sz a r g) (ha : 0 < a) (hs : a < sz) (hl : r (g a) < r (g ((a - 1) / d))) : upI d sz ((a - 1) / d) r (swG g a ((a - 1) / d)) := by
  have hp : (a - 1) / d < a := par_lt ha
  generalize hpe : (a - 1) / d = p at *
  refine ⟨fun i hi his hne => ?_, fun hp0 c hc hcs hcp => ?_⟩
  · by_cases hia : i = a
    · subst hia
      rw [hpe]
      have e1 : swG g i p p = g i := by unfold swG; rw [if_neg (by omega), if_pos rfl]
      have e2 : swG g i p i = g p := by unfold swG; rw [if_pos rfl]
      rw [e1, e2]; exact hl
    · have e2 : swG g a p i = g i := by unfold swG; rw [if_neg hia, if_neg hne]
      rw [e2]
      by_cases q1 : (i - 1) / d = a
      · have e1 : swG g a p ((i - 1) / d) = g p := by unfold swG; rw [if_pos q1]
        rw [e1]
        have := h.2 ha i hi his q1
        rw [hpe] at this
        exact this
      · by_cases q2 : (i - 1) / d = p
        · have e1 : swG g a p ((i - 1) / d) = g a := by unfold swG; rw [if_neg q1, if_pos q2]
          rw [e1]
          have := h.1 i hi his hia
          rw [q2] at this
          exact Nat.lt_trans hl this
        · have e1 : swG g a p ((i - 1) / d) = g ((i - 1) / d) := by unfold swG; rw [if_neg q1, if_neg q2]
          rw [e1]; exact h.1 i hi his hia
  · have hpp : (p - 1) / d < p := par_lt hp0
    have e1 : swG g a p ((p - 1) / d) = g ((p - 1) / d) := by unfold swG; rw [if_neg (by omega), if_neg (by omega)]
    rw [e1]
    have h1 := h.1 p hp0 (by omega) (by omega)
    by_cases hca : c = a
    · have e2 : swG g a p c = g p := by unfold swG; rw [if_pos hca]
      rw [e2]; exact h1
    · have hcp2 : c ≠ p := by have := par_lt (d := d) hc; omega
      have e2 : swG g a p c = g c := by unfold swG; rw [if_neg hca, if_neg hcp2]
      rw [e2]
      have h2 := h.1 c hc hcs hca
      rw [hcp] at h2
      exact Nat.lt_trans h1 h2
theorem up_end {d sz a : Nat} {r g : Nat → Nat} (h : upI d sz a r g) (hl : a = 0 ∨ r (g ((a - 1) / d)) < r (g a)) : ordH d sz r g := by
  intro i hi his
  by_cases hia : i = a
  · subst hia
    rcases hl with hl | hl
    · omega
    · exact hl
  · exact h.1 i hi his hia
/-- going down: a hole at a, children compared -/
def dnI (d sz a : Nat) (r g : Nat → Nat) : Prop := (∀ i, 0 < i → i < sz → (i - 1) / d ≠ a → r (g ((i - 1) / d)) < r (g i)) ∧ (0 < a → ∀ c, 0 < c → c < sz → (c - 1) / d = a → r (g ((a - 1) / d)) < r (g c))
theorem dn_go {d sz a c : Nat} {r g : Nat → Nat} (h : dnI d sz a r g) (hc : 0 < c) (hcs : c < sz) (hca : (c - 1) / d = a) (hm : ∀ k, 0 < k → k < sz → (k - 1) / d = a → k ≠ c → r (g c) < r (g k)) (hl : r (g c) < r (g a)) : dnI d sz c r (swG g c a) := by
  have hac : a < c := by have := par_lt (d := d) hc; omega
  refine ⟨fun i hi his hne => ?_, fun _ k hk hks hkc => ?_⟩
  · by_cases hic : i = c
    · subst hic
      rw [hca]
      have e1 : swG g i a a = g i := by unfold swG; rw [if_neg (by omega), if_pos rfl]
      have e2 : swG g i a i = g a := by unfold swG; rw [if_pos rfl]
      rw [e1, e2]; exact hl
    · by_cases hia : i = a
      · have hq : (i - 1) / d < i := par_lt hi
        have e1 : swG g c a ((i - 1) / d) = g ((i - 1) / d) := by unfold swG; rw [if_neg (by omega), if_neg (by omega)]
        have e2 : swG g c a i = g c := by unfold swG; rw [if_neg hic, if_pos hia]
        rw [e1, e2, hia]
        exact h.2 (by omega) c hc hcs hca
      · have e2 : swG g c a i = g i := by unfold swG; rw [if_neg hic, if_neg hia]
        rw [e2]
        by_cases q : (i - 1) / d = a
        · have e1 : swG g c a ((i - 1) / d) = g c := by unfold swG; rw [if_neg hne, if_pos q]
          rw [e1]; exact hm i hi his q hic
        · have e1 : swG g c a ((i - 1) / d) = g ((i - 1) / d) := by unfold swG; rw [if_neg hne, if_neg q]
          rw [e1]; exact h.1 i hi his q
  · rw [hca]
    have e1 : swG g c a a = g c := by unfold swG; rw [if_neg (by omega), if_pos rfl]
    have hkk : c < k := by have := par_lt (d := d) hk; omega
    have e2 : swG g c a k = g k := by unfold swG; rw [if_neg (by omega), if_neg (by omega)]
    rw [e1, e2]
    have := h.1 k hk hks (by rw [hkc]; omega)
    rw [hkc] at this
    exact this
theorem dn_end {d sz a : Nat} {r g : Nat → Nat} (h : dnI d sz a r g) (hl : ∀ k, 0 < k → k < sz → (k - 1) / d = a → r (g a) < r (g k)) : ordH d sz r g := by
  intro i hi his
  by_cases q : (i - 1) / d = a
  · rw [q]; exact hl i hi his q
  · exact h.1 i hi his q
/-- the first is the least -/
theorem ord_min {d sz : Nat} {r g : Nat → Nat} (h : ordH d sz r g) : ∀ i, i < sz → i = 0 ∨ r (g 0) < r (g i) := by
  intro i
  induction i using Nat.strongRecOn with
  | ind i ih =>
    intro hi
    rcases Nat.eq_zero_or_pos i with h0 | h0
    · exact Or.inl h0
    · right
      have hp := par_lt (d := d) h0
      have h1 := h i h0 hi
      rcases ih _ hp (by omega) with q | q
      · rw [q] at h1; exact h1
      · exact Nat.lt_trans q h1
/-- the places hold g, all but place x -/
def hM_ (b : Nat) (σ : mS) (sz : Nat) (g : Nat → Nat) (x : Nat) : Prop := σ.1 b 4 = nI sz ∧ sz ≤ 10 ∧ (∀ i, i < sz → g i < 10) ∧ (∀ i j, i < sz → j < sz → g i = g j → i = j) ∧ ∀ i, i < sz → i ≠ x → σ.1 (b + 1) i = nI (g i) ∧ σ.1 (b + 2) (g i) = nI i
/-- nothing but the heap's own cells differs -/
def frW (b : Nat) (σ σ' : mS) : Prop := (∀ k j, k ≠ b + 1 → k ≠ b + 2 → (k ≠ b ∨ j ≠ 4) → σ'.1 k j = σ.1 k j) ∧ (∀ k j, k ≠ b + 3 → σ'.2.1 k j = σ.2.1 k j) ∧ σ'.2.2 = σ.2.2
theorem frW_r (b : Nat) (σ : mS) : frW b σ σ := ⟨fun _ _ _ _ _ => rfl, fun _ _ _ => rfl, rfl⟩
theorem frW_t {b : Nat} {σ σ' σ'' : mS} (h : frW b σ σ') (k : frW b σ' σ'') : frW b σ σ'' := ⟨fun a j h1 h2 h3 => (k.1 a j h1 h2 h3).trans (h.1 a j h1 h2 h3), fun a j h1 => (k.2.1 a j h1).trans (h.2.1 a j h1), k.2.2.trans h.2.2⟩
theorem seat_e {b n i : Nat} {σ : mS} (hn : n < 10) (hi : i < 10) : f_Wa_seat b σ (nI n) (nI i) = some (sI (sI σ (b + 1) i (nI n)) (b + 2) n (nI i)) := by
  unfold f_Wa_seat
  simp only [nm, inb_n hi (by decide), inb_n hn (by decide), gd_t rfl, nI_clamp (show n < 2 ^ 31 by omega), nI_clamp (show i < 2 ^ 31 by omega)]
theorem seat_fr {b n i : Nat} {σ : mS} : frW b σ (sI (sI σ (b + 1) i (nI n)) (b + 2) n (nI i)) := by
  refine ⟨fun k j h1 h2 _ => ?_, fun _ _ _ => rfl, rfl⟩
  rw [sI_1, if_neg h2, sI_1, if_neg h1]
theorem cmpN {x y : Nat} (hx : x < 2 ^ 63) (hy : y < 2 ^ 63) : (0 ≤ lg_cmp (lN x) (lN y)) ↔ ¬ x < y := by
  unfold lg_cmp
  have h1 := pk_lLT (a := x) (b := y) hx hy
  have h2 := pk_lLT (a := y) (b := x) hy hx
  have h3 := pk_lEQ (a := x) (b := y) hx hy
  by_cases a : lN x > lN y
  · rw [if_pos a]
    have := h2.mp a
    constructor
    · intro _; omega
    · intro _; decide
  · rw [if_neg a]
    by_cases e : lN x = lN y
    · rw [if_pos e]
      have := h3.mp e
      constructor
      · intro _; omega
      · intro _; decide
    · rw [if_neg e]
      have q1 : ¬ y < x := fun q => a (h2.mpr q)
      have q2 : ¬ x = y := fun q => e (h3.mpr q)
      constructor
      · intro q; exact absurd q (by decide)
      · intro q; omega
