theorem swG_in {g : Nat → Nat} {a p sz : Nat} (ha : a < sz) (hp : p < sz) {m : Nat} : (∃ i, i < sz ∧ swG g a p i = m) ↔ ∃ i, i < sz ∧ g i = m := by
  constructor
  · rintro ⟨i, hi, h⟩
    unfold swG at h
    by_cases h1 : i = a
    · rw [if_pos h1] at h; exact ⟨p, hp, h⟩
    · rw [if_neg h1] at h
      by_cases h2 : i = p
      · rw [if_pos h2] at h; exact ⟨a, ha, h⟩
      · rw [if_neg h2] at h; exact ⟨i, hi, h⟩
  · rintro ⟨i, hi, h⟩
    by_cases h1 : i = a
    · by_cases h2 : a = p
      · exact ⟨a, ha, by unfold swG; rw [if_pos rfl, ← h2, ← h1]; exact h⟩
      · exact ⟨p, hp, by unfold swG; rw [if_neg (fun q => h2 q.symm), if_pos rfl, ← h1]; exact h⟩
    · by_cases h2 : i = p
      · exact ⟨a, ha, by unfold swG; rw [if_pos rfl, ← h2]; exact h⟩
      · exact ⟨i, hi, by unfold swG; rw [if_neg h1, if_neg h2]; exact h⟩
theorem swG_inj {g : Nat → Nat} {a p sz : Nat} (ha : a < sz) (hp : p < sz) (h : ∀ i j, i < sz → j < sz → g i = g j → i = j) : ∀ i j, i < sz → j < sz → swG g a p i = swG g a p j → i = j := by
  intro i j hi hj e
  unfold swG at e
  by_cases i1 : i = a <;> by_cases j1 : j = a
  · omega
  · rw [if_pos i1, if_neg j1] at e
    by_cases j2 : j = p
    · rw [if_pos j2] at e; have := h _ _ hp ha e; omega
    · rw [if_neg j2] at e; have := h _ _ hp hj e; omega
  · rw [if_neg i1, if_pos j1] at e
    by_cases i2 : i = p
    · rw [if_pos i2] at e; have := h _ _ ha hp e; omega
    · rw [if_neg i2] at e; have := h _ _ hi hp e; omega
  · rw [if_neg i1, if_neg j1] at e
    by_cases i2 : i = p <;> by_cases j2 : j = p
    · omega
    · rw [if_pos i2, if_neg j2] at e; have := h _ _ ha hj e; omega
    · rw [if_neg i2, if_pos j2] at e; have := h _ _ hi ha e; omega
    · rw [if_neg i2, if_neg j2] at e; exact h _ _ hi hj e
/-- moving one from place p to the hole a -/
theorem hM_mv {b sz a p : Nat} {σ : mS} {g : Nat → Nat} (h : hM_ b σ sz g a) (ha : a < sz) (hp : p < sz) (hne : p ≠ a) : hM_ b (sI (sI σ (b + 1) a (nI (g p))) (b + 2) (g p) (nI a)) sz (swG g a p) p := by
  obtain ⟨h1, h2, h3, h4, h5⟩ := h
  refine ⟨?_, h2, fun i hi => ?_, swG_inj ha hp h4, fun i hi hip => ?_⟩
  · rw [sI_1, if_neg (by omega), sI_1, if_neg (by omega)]; exact h1
  · obtain ⟨j, hj, e⟩ := (swG_in (g := g) ha hp (m := swG g a p i)).mp ⟨i, hi, rfl⟩
    rw [← e]; exact h3 j hj
  · by_cases hia : i = a
    · subst hia
      have e : swG g i p i = g p := by unfold swG; rw [if_pos rfl]
      rw [e]
      constructor
      · rw [sI_1, if_neg (by omega), sI_1, if_pos rfl, if_pos rfl]
      · rw [sI_1, if_pos rfl, if_pos rfl]
    · have e : swG g a p i = g i := by unfold swG; rw [if_neg hia, if_neg hip]
      rw [e]
      obtain ⟨q1, q2⟩ := h5 i hi hia
      constructor
      · rw [sI_1, if_neg (by omega), sI_1, if_pos rfl, if_neg hia]; exact q1
      · rw [sI_1, if_pos rfl, if_neg (fun q => hip (h4 i p hi hp q)), sI_1, if_neg (by omega)]; exact q2
/-- seating one in the hole a fills it -/
theorem hM_st {b sz a : Nat} {σ : mS} {g : Nat → Nat} (h : hM_ b σ sz g a) (ha : a < sz) (x : Nat) : hM_ b (sI (sI σ (b + 1) a (nI (g a))) (b + 2) (g a) (nI a)) sz g x := by
  obtain ⟨h1, h2, h3, h4, h5⟩ := h
  refine ⟨?_, h2, h3, h4, fun i hi _ => ?_⟩
  · rw [sI_1, if_neg (by omega), sI_1, if_neg (by omega)]; exact h1
  · by_cases hia : i = a
    · subst hia
      constructor
      · rw [sI_1, if_neg (by omega), sI_1, if_pos rfl, if_pos rfl]
      · rw [sI_1, if_pos rfl, if_pos rfl]
    · obtain ⟨q1, q2⟩ := h5 i hi hia
      constructor
      · rw [sI_1, if_neg (by omega), sI_1, if_pos rfl, if_neg hia]; exact q1
      · rw [sI_1, if_pos rfl, if_neg (fun q => hia (h4 i a hi ha q)), sI_1, if_neg (by omega)]; exact q2
/-- ranks of those in the places -/
def rkM (b : Nat) (σ : mS) (sz : Nat) (r g : Nat → Nat) : Prop := (∀ i, i < sz → σ.2.1 (b + 3) (g i) = lN (r (g i)) ∧ r (g i) < 2 ^ 40) ∧ ∀ i, i < sz → r (g i) % 10 = g i
theorem rkM_sw {b sz a p : Nat} {σ σ' : mS} {r g : Nat → Nat} (h : rkM b σ sz r g) (ha : a < sz) (hp : p < sz) (hs : σ'.2.1 (b + 3) = σ.2.1 (b + 3)) : rkM b σ' sz r (swG g a p) := by
  refine ⟨fun i hi => ?_, fun i hi => ?_⟩
  · obtain ⟨j, hj, e⟩ := (swG_in (g := g) ha hp (m := swG g a p i)).mp ⟨i, hi, rfl⟩
    rw [← e, hs]; exact h.1 j hj
  · obtain ⟨j, hj, e⟩ := (swG_in (g := g) ha hp (m := swG g a p i)).mp ⟨i, hi, rfl⟩
    rw [← e]; exact h.2 j hj
theorem put_loop {b d sz n : Nat} {σ : mS} {r g : Nat → Nat} {a : Nat} (hd1 : 1 ≤ d) (hd3 : d ≤ 3) (hd : σ.1 b 0 = nI d) (hM : hM_ b σ sz g a) (ha : a < sz) (hu : upI d sz a r g) (hn : g a = n) (hr : rkM b σ sz r g) :
    ∃ u, lpN (f_Wa_put_L55 b (nI n)) fuS (nI a, 0, σ) = some u ∧ ∃ a' g', u.1 = nI a' ∧ a' < sz ∧ hM_ b u.2.2 sz g' a' ∧ g' a' = n ∧ ordH d sz r g' ∧ rkM b u.2.2 sz r g' ∧ frW b σ u.2.2 ∧ u.2.2.2 = σ.2 ∧ (∀ m, (∃ i, i < sz ∧ g' i = m) ↔ ∃ i, i < sz ∧ g i = m) ∧ ∀ m, (∀ i, i < sz → g i ≠ m) → u.2.2.1 (b + 2) m = σ.1 (b + 2) m := by
  have hsz := hM.2.1
  refine lpN_m (st := f_Wa_put_L55 b (nI n)) (fun t => ∃ a' tn g', t.1 = nI a' ∧ t.2.1 = nI tn ∧ a' + tn < sz ∧ hM_ b t.2.2 sz g' a' ∧ upI d sz a' r g' ∧ g' a' = n ∧ rkM b t.2.2 sz r g' ∧ frW b σ t.2.2 ∧ t.2.2.2 = σ.2 ∧ (∀ m, (∃ i, i < sz ∧ g' i = m) ↔ ∃ i, i < sz ∧ g i = m) ∧ ∀ m, (∀ i, i < sz → g i ≠ m) → t.2.2.1 (b + 2) m = σ.1 (b + 2) m) _ (fun t => t.1.toNatClampNeg) (fun t ht => ?_) fuS (nI a, 0, σ) ⟨a, 0, g, rfl, rfl, by omega, hM, hu, hn, hr, frW_r b σ, rfl, fun _ => Iff.rfl, fun _ _ => rfl⟩ (by show (nI a).toNatClampNeg < fuS; rw [nI_clamp (by omega), fuS_e]; omega)
  obtain ⟨t1, t2, t3⟩ := t
  obtain ⟨a', tn, g', e1, e2, hat, hM', hu', hn', hr', hf, h2, hset, hpl⟩ := ht
  dsimp only at e1 e2 hM' hr' hf h2 hpl ⊢
  subst e1
  subst e2
  unfold f_Wa_put_L55
  dsimp only
  have hd' : t3.1 b 0 = nI d := by rw [hf.1 b 0 (by omega) (by omega) (Or.inr (by omega))]; exact hd
  rw [hM'.1, if_neg (nI_ge (by omega) (by omega))]
  by_cases h0 : a' = 0
  · subst h0
    left
    rw [if_pos (by decide)]
    exact ⟨_, rfl, 0, g', rfl, by omega, hM', hn', up_end hu' (Or.inl rfl), hr', hf, h2, hset, hpl⟩
  · have h0' : 0 < a' := by omega
    rw [if_neg (nI_nle h0' (by omega)), hd', gd_t (show isN (nI d) = true from decide_eq_true (nI_ne0 (by omega) (by omega)))]
    obtain ⟨k, rfl⟩ : ∃ k, a' = k + 1 := ⟨a' - 1, by omega⟩
    have ev : (nI (k + 1) - 1) / nI d = nI (k / d) := by rw [nI_pred, pk_div (by omega) (by omega) (by omega)]
    have hpk : k / d ≤ k := Nat.div_le_self _ _
    have hp : k / d < sz := by omega
    simp only [nm, ev]
    obtain ⟨q1, q2⟩ := hM'.2.2.2.2 (k / d) hp (by omega)
    have hgp := hM'.2.2.1 _ hp
    have hgn : n < 10 := by rw [← hn']; exact hM'.2.2.1 _ (by omega)
    have rp := hr'.1 _ hp
    have rn := hr'.1 (k + 1) (by omega)
    rw [hn'] at rn
    simp only [inb_n (show k / d < 10 by omega) (by decide), inb_n hgp (by decide), inb_n hgn (by decide), gd_t rfl, nI_clamp (show k / d < 2 ^ 31 by omega), q1, nI_clamp (show g' (k / d) < 2 ^ 31 by omega), nI_clamp (show n < 2 ^ 31 by omega), rp.1, rn.1]
    have hcmp := cmpN (x := r (g' (k / d))) (y := r n) (by omega) (by omega)
    by_cases hlt : r (g' (k / d)) < r n
    · left
      rw [if_neg (fun q => (hcmp.mp q) hlt)]
      refine ⟨_, rfl, k + 1, g', rfl, by omega, hM', hn', up_end hu' (Or.inr ?_), hr', hf, h2, hset, hpl⟩
      rw [hn']; exact hlt
    · right
      rw [if_pos (hcmp.mpr hlt), seat_e hgp (by omega), Option.bind_some]
      refine ⟨_, rfl, ⟨k / d, tn + 1, swG g' (k + 1) (k / d), rfl, by dsimp only; exact nI_1 tn, by omega, hM_mv hM' (by omega) hp (by omega), ?_, ?_, rkM_sw hr' (by omega) hp rfl, frW_t hf seat_fr, h2, fun m => (swG_in (by omega) hp).trans (hset m), fun m hm => ?_⟩, ?_⟩
      · have hne : r (g' (k + 1)) ≠ r (g' (k / d)) := by
          intro q
          have e1 := hr'.2 (k + 1) (by omega)
          have e2 := hr'.2 (k / d) hp
          rw [q, e2] at e1
          have := hM'.2.2.2.1 _ _ hp (by omega) e1
          omega
        exact up_go hu' h0' (by omega) (by show r (g' (k + 1)) < r (g' (k / d)); rw [hn'] at hne ⊢; omega)
      · unfold swG
        rw [if_neg (by omega), if_pos rfl]; exact hn'
      · dsimp only
        have hm2 : g' (k / d) ≠ m := by
          intro q
          obtain ⟨i, hi, e⟩ := (hset m).mp ⟨k / d, hp, q⟩
          exact hm i hi e
        rw [sI_1, if_pos rfl, if_neg (fun q => hm2 q.symm), sI_1, if_neg (by omega)]
        exact hpl m hm
      · dsimp only
        rw [nI_clamp (by omega), nI_clamp (by omega)]
        omega
