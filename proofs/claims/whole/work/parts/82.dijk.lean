-- ===== PURE: least numbers, counted =====
theorem relA_spec {G : GT} {ag : Bool} {O : Nat → Bool} {pa : Nat} {C : Nat → Bool} {n : Nat} (hC : C n = true) (K : Nat → Bool) (c : Nat → Nat) {v : Nat} (hv : C v = false) : ∀ i,
    (K v = true → (relA G ag O pa C n i (K, c)).1 v = true ∧ (relA G ag O pa C n i (K, c)).2 v ≤ c v) ∧
    (∀ e, e < i → gS G ag e = n → O e = true → gE G ag e = v → (relA G ag O pa C n i (K, c)).1 v = true ∧ (relA G ag O pa C n i (K, c)).2 v ≤ c n + (gw G e * 16 + pa)) ∧
    ((relA G ag O pa C n i (K, c)).1 v = true → (K v = true ∧ (relA G ag O pa C n i (K, c)).2 v = c v) ∨ ∃ e, e < i ∧ gS G ag e = n ∧ O e = true ∧ gE G ag e = v ∧ (relA G ag O pa C n i (K, c)).2 v = c n + (gw G e * 16 + pa)) := by
  intro i
  induction i with
  | zero => exact ⟨fun h => ⟨h, Nat.le_refl _⟩, fun e he => absurd he (Nat.not_lt_zero _), fun h => Or.inl ⟨h, rfl⟩⟩
  | succ i ih =>
    obtain ⟨ih1, ih2, ih3⟩ := ih
    have hcn := relA_n (G := G) (ag := ag) (O := O) (pa := pa) hC (K, c) i
    rw [relA]
    try dsimp only
    rw [hcn]
    generalize hp : relA G ag O pa C n i (K, c) = p at *
    obtain ⟨p1, p2⟩ := p
    dsimp only at *
    by_cases hcond : gS G ag i = n ∧ O i = true ∧ noO p1 C p2 (gE G ag i) (c n + (gw G i * 16 + pa)) = false
    · rw [if_pos hcond]
      dsimp only
      by_cases hvi : v = gE G ag i
      · have hno := hcond.2.2
        rw [← hvi] at hno
        have hlt : p1 v = true → c n + (gw G i * 16 + pa) < p2 v := by
          intro q
          rw [noO, hv, q] at hno
          simpa using hno
        rw [← hvi, va_up_self, va_up_self]
        refine ⟨fun h => ⟨rfl, ?_⟩, fun e he h1 h2 h3 => ⟨rfl, ?_⟩, fun _ => Or.inr ⟨i, by omega, hcond.1, hcond.2.1, hvi.symm, rfl⟩⟩
        · obtain ⟨q1, q2⟩ := ih1 h
          have := hlt q1
          omega
        · by_cases hei : e = i
          · rw [hei]; exact Nat.le_refl _
          · obtain ⟨q1, q2⟩ := ih2 e (by omega) h1 h2 h3
            have := hlt q1
            omega
      · rw [va_up_ne _ _ hvi, va_up_ne _ _ hvi]
        refine ⟨ih1, fun e he h1 h2 h3 => ?_, fun h => ?_⟩
        · by_cases hei : e = i
          · rw [hei] at h3; exact absurd h3.symm hvi
          · exact ih2 e (by omega) h1 h2 h3
        · rcases ih3 h with q | ⟨e, q1, q2⟩
          · exact Or.inl q
          · exact Or.inr ⟨e, by omega, q2⟩
    · rw [if_neg hcond]
      dsimp only
      refine ⟨ih1, fun e he h1 h2 h3 => ?_, fun h => ?_⟩
      · by_cases hei : e = i
        · subst hei
          have hno : noO p1 C p2 (gE G ag e) (c n + (gw G e * 16 + pa)) = true := by
            cases q : noO p1 C p2 (gE G ag e) (c n + (gw G e * 16 + pa)) with
            | true => rfl
            | false => exact absurd ⟨h1, h2, q⟩ hcond
          rw [h3, noO, hv] at hno
          simp only [Bool.false_or, Bool.and_eq_true, decide_eq_true_eq] at hno
          exact hno
        · exact ih2 e (by omega) h1 h2 h3
      · rcases ih3 h with q | ⟨e, q1, q2⟩
        · exact Or.inl q
        · exact Or.inr ⟨e, by omega, q2⟩
/-- the state of a counted search: s sources, X left out, k settled so far -/
def DI (G : GT) (ag : Bool) (O s X : Nat → Bool) (k : Nat) (K C : Nat → Bool) (c : Nat → Nat) : Prop :=
  (∀ v, v < gN G → s v = true → X v = false → K v = true ∧ c v = 0) ∧
  (∀ v, X v = true → C v = true ∧ K v = false) ∧
  (∀ v, C v = true → X v = true ∨ K v = true) ∧
  (∀ e, e < gm G → O e = true → K (gS G ag e) = true → C (gS G ag e) = true → X (gE G ag e) = false → K (gE G ag e) = true ∧ c (gE G ag e) ≤ c (gS G ag e) + (gw G e * 16 + 1)) ∧
  (∀ v, K v = true → v < gN G ∧ X v = false ∧ ((s v = true ∧ c v = 0) ∨ ∃ e, e < gm G ∧ O e = true ∧ gE G ag e = v ∧ K (gS G ag e) = true ∧ C (gS G ag e) = true ∧ c v = c (gS G ag e) + (gw G e * 16 + 1))) ∧
  (∀ u v, K u = true → C u = true → K v = true → C v = false → c u ≤ c v) ∧
  (∀ v, K v = true → ∃ len hp, c v = 16 * len + hp ∧ hp ≤ k ∧ len ≤ 1000000 * k)
theorem DI_step {G : GT} {ag : Bool} {O s X : Nat → Bool} {k : Nat} {K C : Nat → Bool} {c : Nat → Nat} (hW : WG G) (h : DI G ag O s X k K C c) {n : Nat} (hKn : K n = true) (hCn : C n = false) (hmin : ∀ m, K m = true → C m = false → c n ≤ c m) : DI G ag O s X (k + 1) (relA G ag O 1 (va_up C n true) n (gm G) (K, c)).1 (va_up C n true) (relA G ag O 1 (va_up C n true) n (gm G) (K, c)).2 := by
  obtain ⟨h1, h2, h7, h3, h4, h5, h6⟩ := h
  have hC' : va_up C n true n = true := va_up_self _ _ _
  have hclo : ∀ v, va_up C n true v = true → (relA G ag O 1 (va_up C n true) n (gm G) (K, c)).2 v = c v ∧ (relA G ag O 1 (va_up C n true) n (gm G) (K, c)).1 v = K v := fun v hv => relA_C (K, c) hv (gm G)
  have hopn : ∀ v, va_up C n true v = false → _ := fun v hv => relA_spec (G := G) (ag := ag) (O := O) (pa := 1) hC' K c hv (gm G)
  generalize hr : relA G ag O 1 (va_up C n true) n (gm G) (K, c) = p at *
  obtain ⟨K', c'⟩ := p
  dsimp only at *
  have cC : ∀ v, va_up C n true v = true ↔ (v = n ∨ C v = true) := by
    intro v
    by_cases q : v = n
    · rw [q, hC']; simp
    · rw [va_up_ne _ _ q]; simp [q]
  have cF : ∀ v, va_up C n true v = false → v ≠ n ∧ C v = false := by
    intro v hv
    have hvn : v ≠ n := fun q => by rw [q, hC'] at hv; cases hv
    rw [va_up_ne _ _ hvn] at hv
    exact ⟨hvn, hv⟩
  have hXn : X n = false := (h4 n hKn).2.1
  -- known stays known
  have kk : ∀ v, K v = true → K' v = true ∧ c' v ≤ c v := by
    intro v hv
    cases q : va_up C n true v with
    | true => rw [(hclo v q).1, (hclo v q).2]; exact ⟨hv, Nat.le_refl _⟩
    | false => exact (hopn v q).1 hv
  refine ⟨fun v hv hs hx => ?_, fun v hx => ?_, fun v hv => ?_, fun e he hO hKs hCs hXe => ?_, fun v hv => ?_, fun u v hu hCu hv hCv => ?_, fun v hv => ?_⟩
  · obtain ⟨q1, q2⟩ := h1 v hv hs hx
    obtain ⟨q3, q4⟩ := kk v q1
    exact ⟨q3, by omega⟩
  · obtain ⟨q1, q2⟩ := h2 v hx
    have hvn : v ≠ n := fun q => by rw [q, hXn] at hx; cases hx
    have q3 : va_up C n true v = true := by rw [va_up_ne _ _ hvn]; exact q1
    exact ⟨q3, by rw [(hclo v q3).2]; exact q2⟩
  · rw [(hclo v hv).2]
    rcases (cC v).mp hv with q | q
    · exact Or.inr (by rw [q]; exact hKn)
    · exact h7 v q
  · obtain ⟨s1, s2⟩ := hclo _ hCs
    rw [s2] at hKs
    rw [s1]
    rcases (cC _).mp hCs with q | q
    · -- out of the one that is settled now
      cases hE : va_up C n true (gE G ag e) with
      | false => rw [q]; exact (hopn _ hE).2.1 e he q hO rfl
      | true =>
        obtain ⟨t1, t2⟩ := hclo _ hE
        rw [t1, t2]
        have hne : gE G ag e ≠ n := by
          intro z
          have hw := (hW.2.2.1 e he).2.2.1
          unfold gS gE at *
          cases ag <;> simp at q z <;> omega
        have hCe : C (gE G ag e) = true := by rw [va_up_ne _ _ hne] at hE; exact hE
        -- an earlier settled one, or one left out
        cases hKe : K (gE G ag e) with
        | true =>
          have := h5 _ n hKe hCe hKn hCn
          rw [q]
          exact ⟨rfl, by omega⟩
        | false =>
          rcases h7 _ hCe with z | z
          · rw [hXe] at z; cases z
          · rw [hKe] at z; cases z
    · obtain ⟨t1, t2⟩ := h3 e he hO hKs q hXe
      obtain ⟨t3, t4⟩ := kk _ t1
      exact ⟨t3, by omega⟩
  · cases q : va_up C n true v with
    | true =>
      obtain ⟨t1, t2⟩ := hclo v q
      rw [t2] at hv
      obtain ⟨a1, a2, a3⟩ := h4 v hv
      refine ⟨a1, a2, ?_⟩
      rw [t1]
      rcases a3 with a3 | ⟨e, b1, b2, b3, b4, b5, b6⟩
      · exact Or.inl a3
      · have hcl : va_up C n true (gS G ag e) = true := (cC _).mpr (Or.inr b5)
        exact Or.inr ⟨e, b1, b2, b3, by rw [(hclo _ hcl).2]; exact b4, hcl, by rw [(hclo _ hcl).1]; exact b6⟩
    | false =>
      rcases (hopn v q).2.2 hv with ⟨t1, t2⟩ | ⟨e, b1, b2, b3, b4, b5⟩
      · obtain ⟨a1, a2, a3⟩ := h4 v t1
        refine ⟨a1, a2, ?_⟩
        rw [t2]
        rcases a3 with a3 | ⟨e, b1, b2, b3, b4, b5, b6⟩
        · exact Or.inl a3
        · have hcl : va_up C n true (gS G ag e) = true := (cC _).mpr (Or.inr b5)
          exact Or.inr ⟨e, b1, b2, b3, by rw [(hclo _ hcl).2]; exact b4, hcl, by rw [(hclo _ hcl).1]; exact b6⟩
      · refine ⟨by rw [← b4]; exact gE_lt hW b1, ?_, Or.inr ⟨e, b1, b3, b4, by rw [b2, (hclo n hC').2]; exact hKn, by rw [b2]; exact hC', by rw [b2, (hclo n hC').1]; exact b5⟩⟩
        cases hx : X v with
        | false => rfl
        | true => have := (h2 v hx).1; rw [(cF v q).2] at this; cases this
  · obtain ⟨u1, u2⟩ := hclo u hCu
    rw [u2] at hu
    rw [u1]
    obtain ⟨v1, v2⟩ := cF v hCv
    have hun : c u ≤ c n := by
      rcases (cC u).mp hCu with q | q
      · rw [q]; exact Nat.le_refl _
      · exact h5 u n hu q hKn hCn
    rcases (hopn v hCv).2.2 hv with ⟨t1, t2⟩ | ⟨e, b1, b2, b3, b4, b5⟩
    · rw [t2]; exact Nat.le_trans hun (hmin v t1 v2)
    · rw [b5]; omega
  · have old : ∀ v, K v = true → ∃ len hp, c v = 16 * len + hp ∧ hp ≤ k + 1 ∧ len ≤ 1000000 * (k + 1) := by
      intro v hv
      obtain ⟨len, hp, a1, a2, a3⟩ := h6 v hv
      exact ⟨len, hp, a1, by omega, by omega⟩
    cases q : va_up C n true v with
    | true =>
      obtain ⟨t1, t2⟩ := hclo v q
      rw [t1]; rw [t2] at hv; exact old v hv
    | false =>
      rcases (hopn v q).2.2 hv with ⟨t1, t2⟩ | ⟨e, b1, b2, b3, b4, b5⟩
      · rw [t2]; exact old v t1
      · obtain ⟨len, hp, a1, a2, a3⟩ := h6 n hKn
        have hw := (hW.2.2.1 e b1).2.2.2.1
        exact ⟨len + gw G e, hp + 1, by rw [b5]; omega, by omega, by omega⟩
