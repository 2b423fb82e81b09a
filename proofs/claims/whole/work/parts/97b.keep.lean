-- ===== PURE: the other side's row =====
def frK (τ τ' : mS) : Prop := ∀ k j, ¬ (k = 0 ∧ j = 23) → k ≠ 17 → k ≠ 18 → k ≠ 19 → τ'.1 k j = τ.1 k j
theorem RowAt_c {G : GT} {τ τ' : mS} {r : Nat} {p : List Nat} (h : RowAt G τ r p) (h1 : τ'.1 17 r = τ.1 17 r) (h2 : τ'.1 18 r = τ.1 18 r) (h3 : ∀ i, i < 10 → τ'.1 19 (10 * r + i) = τ.1 19 (10 * r + i)) : RowAt G τ' r p := by
  obtain ⟨a1, a2, a3, a4, a5⟩ := h
  refine ⟨a1, a2, by rw [h1]; exact a3, by rw [h2]; exact a4, fun i e z => ?_⟩
  have := (List.getElem?_eq_some_iff.mp z).1
  rw [h3 i (by omega)]
  exact a5 i e z
theorem shift_e {G : GT} {τ : mS} {r : Nat} {p : List Nat} {t5 : Int32} {t5m : mS} (hr : r < 30) (ht : t5 = nI (r + 1)) (h : RowAt G τ r p) : ∃ τ', (lpN (f_Mo_keep_L49 (t5, t5m)) fuB (0, sI (sI τ 17 (r + 1) (τ.1 17 r)) 18 (r + 1) (τ.1 18 r))).map (·.2) = some τ' ∧ RowAt G τ' (r + 1) p ∧ (∀ k j, (k ≠ 17 ∧ k ≠ 18 ∨ j ≠ r + 1) → (k ≠ 19 ∨ j < 10 * (r + 1) ∨ 10 * (r + 1) + 10 ≤ j) → τ'.1 k j = τ.1 k j) := by
  subst ht
  generalize hσ : sI (sI τ 17 (r + 1) (τ.1 17 r)) 18 (r + 1) (τ.1 18 r) = σ4
  have k0 : ∀ k j, (k ≠ 17 ∧ k ≠ 18 ∨ j ≠ r + 1) → σ4.1 k j = τ.1 k j := by
    intro k j q
    rw [← hσ, sI_1]
    by_cases z : k = 18
    · rw [if_pos z, if_neg (by omega), sI_1, if_neg (by omega)]
    · rw [if_neg z, sI_1]
      by_cases y : k = 17
      · rw [if_pos y, if_neg (by omega)]
      · rw [if_neg y]
  have k17 : σ4.1 17 (r + 1) = τ.1 17 r := by rw [← hσ]; simp [sI_1]
  have k18 : σ4.1 18 (r + 1) = τ.1 18 r := by rw [← hσ]; simp [sI_1]
  obtain ⟨u, u1, u2, u3⟩ := lpN_i (st := f_Mo_keep_L49 (nI (r + 1), t5m)) (fun t s => s.1 = nI t ∧ (∀ k j, (k ≠ 19 ∨ j < 10 * (r + 1) ∨ 10 * (r + 1) + 10 ≤ j) → s.2.1 k j = σ4.1 k j) ∧ ∀ j, j < t → s.2.1 19 (10 * (r + 1) + j) = τ.1 19 (10 * r + j)) (fun u => (∀ k j, (k ≠ 19 ∨ j < 10 * (r + 1) ∨ 10 * (r + 1) + 10 ≤ j) → u.2.1 k j = σ4.1 k j) ∧ ∀ j, j < 10 → u.2.1 19 (10 * (r + 1) + j) = τ.1 19 (10 * r + j)) 10 (fun t s hi hs => by
    obtain ⟨st, s⟩ := s
    obtain ⟨s1, s2, s3⟩ := hs
    have s1 : st = nI t := s1
    subst s1
    have s2 : ∀ k j, (k ≠ 19 ∨ j < 10 * (r + 1) ∨ 10 * (r + 1) + 10 ≤ j) → s.1 k j = σ4.1 k j := s2
    unfold f_Mo_keep_L49
    dsimp only
    by_cases hc : t = 10
    · subst hc
      left
      rw [if_pos (by decide)]
      exact ⟨_, rfl, s2, s3⟩
    · right
      have hi2 : t < 10 := by omega
      refine ⟨hi2, ?_⟩
      have hc1 : (nI (10 * r + t)).toNatClampNeg = 10 * r + t := nI_clamp (by omega)
      have hc2 : (nI (10 * (r + 1) + t)).toNatClampNeg = 10 * (r + 1) + t := nI_clamp (by omega)
      rw [if_neg (show ¬ (10 : Int32) ≤ nI t from nI_ge (a := t) (b := 10) hi2 (by decide)), nI_pred, ixY, ixY, gd_t (inb_n (by omega) (by decide)), gd_t (inb_n (by omega) (by decide)), nm_e2, hc1, hc2, s2 19 (10 * r + t) (by omega), k0 19 (10 * r + t) (by omega)]
      refine ⟨_, rfl, nI_1 _, fun k j q => ?_, fun j hj => ?_⟩
      · rw [sI_1]
        by_cases z : k = 19
        · rw [if_pos z, if_neg (by omega)]; exact s2 k j q
        · rw [if_neg z]; exact s2 k j q
      · show (sI s 19 (10 * (r + 1) + t) _).1 19 _ = _
        rw [sI_1, if_pos rfl]
        by_cases z : j = t
        · subst z; rw [if_pos rfl]
        · rw [if_neg (by omega)]; exact s3 j (by omega)) fuB 0 (0, σ4) ⟨rfl, fun _ _ _ => rfl, fun j hj => absurd hj (Nat.not_lt_zero _)⟩ (Nat.zero_le _) (by rw [fuB_e]; omega)
  rw [u1]
  obtain ⟨a1, a2, a3, a4, a5⟩ := h
  refine ⟨u.2, rfl, ⟨a1, a2, ?_, ?_, fun i e z => ?_⟩, fun k j q1 q2 => (u2 k j q2).trans (k0 k j q1)⟩
  · rw [u2 17 (r + 1) (by omega), k17]; exact a3
  · rw [u2 18 (r + 1) (by omega), k18]; exact a4
  · have := (List.getElem?_eq_some_iff.mp z).1
    rw [u3 i (by omega)]
    exact a5 i e z
theorem keep_e {G : GT} {τ : mS} {R : List (List Nat)} {p : List Nat} (hR : RowIs R (wyL G) τ) (hs : R.Pairwise (wlt G)) (hp : CW G τ p) (hpl : p.length ≤ 10) (hpw : wyL G p ≤ 10000000) (hpm : ∀ e ∈ p, e < 40) (hpR : p ∉ R) : ∃ τ' k, f_Mo_keep τ = some τ' ∧ RowIs ((insW G p R).take 30) (wyL G) τ' ∧ frK τ τ' ∧ insW G p R = insK R k p ∧ (∀ q ∈ R.take k, wlt G q p) ∧ (∀ q ∈ R.drop k, wlt G p q) := by
  obtain ⟨r1, r2, r3⟩ := hR
  have r3 : ∀ r q, R[r]? = some q → RowAt G τ r q := r3
  have hln : ∀ q ∈ R, q.length ≤ 10 := fun q hq => by
    obtain ⟨i, hi, e⟩ := List.getElem_of_mem hq
    exact (r3 i q (by rw [List.getElem?_eq_getElem hi, e])).1
  unfold f_Mo_keep
  rw [nm_e2, r1]
  -- up to where the others move
  obtain ⟨u, u1, k, hk, u2, u3, u4, u5, u6⟩ := lpN_i (st := f_Mo_keep_L5) (fun i s => s.1 = nI (R.length - i) ∧ frK τ s.2 ∧ s.2.1 0 23 = τ.1 0 23 ∧ (∀ r q, R[r]? = some q → r < R.length - i → RowAt G s.2 r q) ∧ (∀ r q, R[r]? = some q → R.length - i ≤ r → RowAt G s.2 (r + 1) q ∧ wlt G p q)) (fun u => ∃ k, k ≤ R.length ∧ u.1 = nI k ∧ frK τ u.2 ∧ u.2.1 0 23 = τ.1 0 23 ∧ ((∀ r q, R[r]? = some q → r < k → RowAt G u.2 r q) ∧ (∀ r q, R[r]? = some q → k ≤ r → RowAt G u.2 (r + 1) q ∧ wlt G p q)) ∧ (∀ q, R[k - 1]? = some q → 0 < k → ¬ wlt G p q)) R.length (fun i s hi hss => by
    obtain ⟨st, s⟩ := s
    obtain ⟨s1, s2, s3, s4, s5⟩ := hss
    have s1 : st = nI (R.length - i) := s1
    subst s1
    have s2 : frK τ s := s2
    unfold f_Mo_keep_L5
    dsimp only
    by_cases h0 : R.length - i = 0
    · left
      rw [h0, if_pos (by decide)]
      exact ⟨_, rfl, 0, Nat.zero_le _, rfl, s2, s3, ⟨fun r q _ h => absurd h (Nat.not_lt_zero _), fun r q hq _ => s5 r q hq (by omega)⟩, fun q _ h => absurd h (Nat.lt_irrefl _)⟩
    · obtain ⟨m, hm⟩ : ∃ m, R.length - i = m + 1 := ⟨R.length - i - 1, by omega⟩
      have hmR : m < R.length := by omega
      have gm1 : R[m]? = some R[m] := List.getElem?_eq_getElem hmR
      have hRow := s4 m _ gm1 (by omega)
      have hCs : CW G s p := by
        refine ⟨?_, ?_, fun j e z => ?_⟩
        · rw [s2 0 19 (by omega) (by decide) (by decide) (by decide)]; exact hp.1
        · rw [s2 0 20 (by omega) (by decide) (by decide) (by decide)]; exact hp.2.1
        · rw [s2 14 j (by omega) (by decide) (by decide) (by decide)]; exact hp.2.2 j e z
      rw [hm, if_neg (show ¬ nI (m + 1) ≤ 0 from nI_ge (a := 0) (b := m + 1) (by omega) (by omega)), nI_pred, ahead_e (by omega) hCs hpl hpw hpm hRow, Option.bind_some]
      by_cases hw : wlt G p R[m]
      · right
        rw [decide_eq_true hw, if_neg bT]
        have hc1 : (nI m).toNatClampNeg = m := nI_clamp (by omega)
        have hc2 : (nI (m + 1)).toNatClampNeg = m + 1 := nI_clamp (by omega)
        have hb1 : inb (nI m) 31 = true := inb_n (by omega) (by decide)
        have hb2 : inb (nI (m + 1)) 31 = true := inb_n (by omega) (by decide)
        rw [gd_t hb1, gd_t hb2, nm_e2, gd_t hb1, gd_t hb2, nm_e2, hc1, hc2]
        have e18 : (sI s 17 (m + 1) (s.1 17 m)).1 18 m = s.1 18 m := by rw [sI_1, if_neg (by decide)]
        rw [e18]
        obtain ⟨τ', a1, a2, a3⟩ := shift_e (t5 := nI (m + 1)) (t5m := s) (by omega) rfl hRow
        cases hlp : lpN (f_Mo_keep_L49 (nI (m + 1), s)) fuB (0, sI (sI s 17 (m + 1) (s.1 17 m)) 18 (m + 1) (s.1 18 m)) with
        | none => rw [hlp] at a1; cases a1
        | some x =>
          rw [hlp] at a1
          have a1 : x.2 = τ' := Option.some.inj a1
          subst a1
          rw [Option.bind_some, show nI (m + 1) + -1 = nI m by rw [← Int32.sub_eq_add_neg, nI_pred]]
          refine ⟨by omega, _, rfl, by rw [show R.length - (i + 1) = m by omega], fun k j q1 q2 q3 q4 => (a3 k j (Or.inl ⟨q2, q3⟩) (Or.inl q4)).trans (s2 k j q1 q2 q3 q4), (a3 0 23 (by omega) (by omega)).trans s3, fun r q hq hr => ?_, fun r q hq hr => ?_⟩
          · exact RowAt_c (s4 r q hq (by omega)) (a3 17 r (by omega) (by omega)) (a3 18 r (by omega) (by omega)) (fun i hi => a3 19 (10 * r + i) (by omega) (by omega))
          · by_cases z : r = m
            · subst z
              rw [gm1] at hq
              have hq := Option.some.inj hq
              rw [← hq]; exact ⟨a2, hw⟩
            · obtain ⟨b1, b2⟩ := s5 r q hq (by omega)
              exact ⟨RowAt_c b1 (a3 17 (r + 1) (by omega) (by omega)) (a3 18 (r + 1) (by omega) (by omega)) (fun i hi => a3 19 (10 * (r + 1) + i) (by omega) (by omega)), b2⟩
      · left
        rw [decide_eq_false hw, if_pos bF]
        refine ⟨_, rfl, m + 1, by omega, rfl, s2, s3, ⟨fun r q hq hr => s4 r q hq (by omega), fun r q hq hr => s5 r q hq (by omega)⟩, fun q hq _ => ?_⟩
        rw [Nat.add_sub_cancel, gm1] at hq
        rw [← Option.some.inj hq]; exact hw) fuB 0 (nI R.length, τ) ⟨by rw [Nat.sub_zero], fun _ _ _ _ _ _ => rfl, rfl, fun r q hq _ => r3 r q hq, fun r q hq hr => by
          have := (List.getElem?_eq_some_iff.mp hq).1
          omega⟩ (Nat.zero_le _) (by rw [fuB_e]; omega)
  obtain ⟨w1, w2⟩ := u5
  have hdrop : ∀ q ∈ R.drop k, wlt G p q := by
    intro q hq
    obtain ⟨i, hi, e⟩ := List.getElem_of_mem hq
    rw [List.getElem_drop] at e
    have hi2 : k + i < R.length := by rw [List.length_drop] at hi; omega
    exact (w2 (k + i) q (by rw [List.getElem?_eq_getElem hi2, e]) (by omega)).2
  have htake : ∀ q ∈ R.take k, wlt G q p := by
    intro q hq
    obtain ⟨i, hi, e⟩ := List.getElem_of_mem hq
    rw [List.getElem_take] at e
    have hi2 : i < k ∧ i < R.length := by rw [List.length_take] at hi; omega
    have hk1 : k - 1 < R.length := by omega
    have hno := u6 R[k - 1] (List.getElem?_eq_getElem hk1) (by omega)
    have hlast : wlt G R[k - 1] p := by
      rcases wlt_tot (G := G) p R[k - 1] with z | z | z
      · exact absurd z hno
      · exact absurd (by rw [z]; exact List.getElem_mem hk1) hpR
      · exact z
    by_cases z : i = k - 1
    · subst z; rw [← e]; exact hlast
    · have := List.pairwise_iff_getElem.mp hs i (k - 1) hi2.2 hk1 (by omega)
      rw [e] at this
      exact wlt_tr this hlast
  have hins : insW G p R = insK R k p := insW_k k R (fun q hq => by
    have hq2 := htake q hq
    cases z : wyB G p q with
    | false => rfl
    | true => exact (wlt_as hq2 ((wyB_w hpl (hln q (List.mem_of_mem_take hq))).mp z)).elim) (fun q hq => (wyB_w hpl (hln q (List.mem_of_mem_drop hq))).mpr (hdrop q hq))
  -- the new one is laid in its place
  have hck : (nI k).toNatClampNeg = k := nI_clamp (by omega)
  have hbk : inb (nI k) 31 = true := inb_n (by omega) (by decide)
  have hCu : CW G u.2 p := by
    refine ⟨?_, ?_, fun j e z => ?_⟩
    · rw [u3 0 19 (by omega) (by decide) (by decide) (by decide)]; exact hp.1
    · rw [u3 0 20 (by omega) (by decide) (by decide) (by decide)]; exact hp.2.1
    · rw [u3 14 j (by omega) (by decide) (by decide) (by decide)]; exact hp.2.2 j e z
  rw [u1, Option.bind_some, u2, gd_t hbk, nm_e2, gd_t hbk, nm_e2, hck]
  have e19 : (sI u.2 17 k (u.2.1 0 20)).1 0 19 = nI p.length := by rw [sI_1, if_neg (by decide)]; exact hCu.1
  rw [e19, hCu.2.1]
  generalize hσ : sI (sI u.2 17 k (nI (wyL G p))) 18 k (nI p.length) = σ7
  have k0 : ∀ a j, (a ≠ 17 ∧ a ≠ 18 ∨ j ≠ k) → σ7.1 a j = u.2.1 a j := by
    intro a j q
    rw [← hσ, sI_1]
    by_cases z : a = 18
    · rw [if_pos z, if_neg (by omega), sI_1, if_neg (by omega)]
    · rw [if_neg z, sI_1]
      by_cases y : a = 17
      · rw [if_pos y, if_neg (by omega)]
      · rw [if_neg y]
  have k17 : σ7.1 17 k = nI (wyL G p) := by rw [← hσ]; simp [sI_1]
  have k18 : σ7.1 18 k = nI p.length := by rw [← hσ]; simp [sI_1]
  obtain ⟨v, v1, v2, v3⟩ := lpN_i (st := f_Mo_keep_L113 u) (fun t s => s.1 = nI t ∧ (∀ a j, (a ≠ 19 ∨ j < 10 * k ∨ 10 * k + 10 ≤ j) → s.2.1 a j = σ7.1 a j) ∧ ∀ j e, j < t → p[j]? = some e → s.2.1 19 (10 * k + j) = nI e) (fun w => (∀ a j, (a ≠ 19 ∨ j < 10 * k ∨ 10 * k + 10 ≤ j) → w.2.1 a j = σ7.1 a j) ∧ ∀ j e, p[j]? = some e → w.2.1 19 (10 * k + j) = nI e) p.length (fun t s hi hss => by
    obtain ⟨st, s⟩ := s
    obtain ⟨s1, s2, s3⟩ := hss
    have s1 : st = nI t := s1
    subst s1
    have s2 : ∀ a j, (a ≠ 19 ∨ j < 10 * k ∨ 10 * k + 10 ≤ j) → s.1 a j = σ7.1 a j := s2
    unfold f_Mo_keep_L113
    dsimp only
    rw [s2 0 19 (by omega), k0 0 19 (by omega), hCu.1]
    by_cases hc : t = p.length
    · left
      rw [if_pos (nI_le (by omega) (by omega))]
      refine ⟨_, rfl, s2, fun j e z => s3 j e ?_ z⟩
      have := (List.getElem?_eq_some_iff.mp z).1
      omega
    · right
      have htq : t < p.length := by omega
      have g1 : p[t]? = some p[t] := List.getElem?_eq_getElem htq
      have hct : (nI t).toNatClampNeg = t := nI_clamp (by omega)
      have hct1 : (nI (10 * k + t)).toNatClampNeg = 10 * k + t := nI_clamp (by omega)
      rw [if_neg (nI_ge (by omega) (by omega)), u2, ixY, gd_t (inb_n (by omega) (by decide)), gd_t (inb_n (by omega) (by decide)), nm_e2, hct, hct1, s2 14 t (by omega), k0 14 t (by omega), hCu.2.2 t _ g1]
      refine ⟨htq, _, rfl, nI_1 _, fun a j q => ?_, fun j e hj z => ?_⟩
      · rw [sI_1]
        by_cases z : a = 19
        · rw [if_pos z, if_neg (by omega)]; exact s2 a j q
        · rw [if_neg z]; exact s2 a j q
      · show (sI s 19 (10 * k + t) _).1 19 _ = _
        rw [sI_1, if_pos rfl]
        by_cases y : j = t
        · subst y; rw [if_pos rfl]; rw [g1] at z; rw [Option.some.inj z]
        · rw [if_neg (by omega)]; exact s3 j e (by omega) z) fuB 0 (0, σ7) ⟨rfl, fun _ _ _ => rfl, fun j e hj => absurd hj (Nat.not_lt_zero _)⟩ (Nat.zero_le _) (by rw [fuB_e]; omega)
  rw [v1, Option.bind_some]
  have h23 : v.2.1 0 23 = nI R.length := by rw [v2 0 23 (by omega), k0 0 23 (by omega), u4]; exact r1
  rw [h23]
  -- all rows as they now stand
  have hrows : ∀ r q, (insK R k p)[r]? = some q → RowAt G v.2 r q := by
    intro r q hq
    unfold insK at hq
    have htl : (R.take k).length = k := by rw [List.length_take]; omega
    rcases Nat.lt_trichotomy r k with z | z | z
    · rw [List.getElem?_append_left (by omega), List.getElem?_take, if_pos z] at hq
      refine RowAt_c (w1 r q hq z) ?_ ?_ (fun i hi => ?_)
      · rw [v2 17 r (by omega), k0 17 r (by omega)]
      · rw [v2 18 r (by omega), k0 18 r (by omega)]
      · rw [v2 19 _ (by omega), k0 19 _ (by omega)]
    · subst z
      rw [List.getElem?_append_right (by omega), htl, Nat.sub_self, List.getElem?_cons_zero] at hq
      have hq := Option.some.inj hq
      subst hq
      exact ⟨hpl, hpw, by rw [v2 17 r (by omega)]; exact k17, by rw [v2 18 r (by omega)]; exact k18, fun i e z => ⟨hpm e (List.mem_of_getElem? z), v3 i e z⟩⟩
    · rw [List.getElem?_append_right (by omega), htl, show r - k = (r - k - 1) + 1 by omega, List.getElem?_cons_succ, List.getElem?_drop] at hq
      have hw := (w2 _ q hq (by omega)).1
      rw [show k + (r - k - 1) + 1 = r by omega] at hw
      refine RowAt_c hw ?_ ?_ (fun i hi => ?_)
      · rw [v2 17 r (by omega), k0 17 r (by omega)]
      · rw [v2 18 r (by omega), k0 18 r (by omega)]
      · rw [v2 19 _ (by omega), k0 19 _ (by omega)]
  have hfin : ∀ x : Int32, x = nI (min 30 (R.length + 1)) → RowIs ((insW G p R).take 30) (wyL G) (sI v.2 0 23 x) ∧ frK τ (sI v.2 0 23 x) := by
    intro x hx
    refine ⟨⟨?_, by rw [List.length_take]; omega, fun r q hq => ?_⟩, fun a j q1 q2 q3 q4 => ?_⟩
    · rw [sI_1, if_pos rfl, if_pos rfl, hx, List.length_take, hins, insK_len]
    · rw [List.getElem?_take] at hq
      split at hq
      · rw [hins] at hq
        exact RowAt_c (hrows r q hq) (by rw [sI_1, if_neg (by decide)]) (by rw [sI_1, if_neg (by decide)]) (fun i hi => by rw [sI_1, if_neg (by decide)])
      · cases hq
    · rw [sI_1]
      have hrest : v.2.1 a j = τ.1 a j := by rw [v2 a j (by omega), k0 a j (by omega)]; exact u3 a j q1 q2 q3 q4
      by_cases z : a = 0
      · rw [if_pos z, if_neg (by omega)]; exact hrest
      · rw [if_neg z]; exact hrest
  by_cases h30 : 30 ≤ R.length
  · rw [if_pos (show (30 : Int32) ≤ nI R.length from nI_le (a := 30) h30 (by omega)), nm_e2]
    obtain ⟨f1, f2⟩ := hfin 30 (by rw [show min 30 (R.length + 1) = 30 by omega]; rfl)
    exact ⟨_, k, rfl, f1, f2, hins, htake, hdrop⟩
  · rw [if_neg (show ¬ (30 : Int32) ≤ nI R.length from nI_ge (b := 30) (by omega) (by omega)), nm_e2, nI_1]
    obtain ⟨f1, f2⟩ := hfin (nI (R.length + 1)) (by rw [show min 30 (R.length + 1) = R.length + 1 by omega])
    exact ⟨_, k, rfl, f1, f2, hins, htake, hdrop⟩
