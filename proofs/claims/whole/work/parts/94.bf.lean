-- ===== PURE: rounds over the arcs (widest, trust) =====
/-- a state of the rounds: what each node has (0: nothing yet), and by which nodes it came -/
abbrev BS : Type := (Nat → Nat) × (Nat → List (Nat × Nat))
def rlC (G : GT) (h : Nat → Nat → Nat) (S : BS) (e : Nat) : Bool := gl G e && decide (S.1 (gt G e) < h e (S.1 (gf G e)))
def rl1 (G : GT) (h : Nat → Nat → Nat) (S : BS) (e : Nat) : BS := if rlC G h S e = true then (va_up S.1 (gt G e) (h e (S.1 (gf G e))), va_up S.2 (gt G e) ((gt G e, h e (S.1 (gf G e))) :: S.2 (gf G e))) else S
def rlP (G : GT) (h : Nat → Nat → Nat) (S : BS) : Nat → BS
  | 0 => S
  | n + 1 => rl1 G h (rlP G h S n) n
def rlR (G : GT) (h : Nat → Nat → Nat) (S : BS) : Nat → BS
  | 0 => S
  | k + 1 => rlP G h (rlR G h S k) (gm G)
def chg (G : GT) (h : Nat → Nat → Nat) (S : BS) : Nat → Bool
  | 0 => false
  | n + 1 => chg G h S n || rlC G h (rlP G h S n) n
theorem chg_e {G : GT} {h : Nat → Nat → Nat} {S : BS} : ∀ n, chg G h S n = false → rlP G h S n = S := by
  intro n
  induction n with
  | zero => intro _; rfl
  | succ n ih =>
    intro q
    rw [chg, Bool.or_eq_false_iff] at q
    rw [rlP, rl1, if_neg (by rw [q.2]; decide), ih q.1]
theorem chg_o {G : GT} {h : Nat → Nat → Nat} {S : BS} (q : ∀ e, e < gm G → rlC G h S e = false) : ∀ n, n ≤ gm G → chg G h S n = false := by
  intro n
  induction n with
  | zero => intro _; rfl
  | succ n ih =>
    intro hn
    have h1 := ih (by omega)
    rw [chg, h1, chg_e n h1, q n (by omega)]; rfl
/-- what h must be -/
def hOK (h : Nat → Nat → Nat) : Prop := ∀ e y, h e y ≤ y
def INV (G : GT) (S : BS) : Prop := ∀ v, v < gN G → 0 < S.1 v → (S.2 v).length ≠ 0 ∧ ((S.2 v).map (fun t => t.1)).Nodup ∧ ∀ t ∈ S.2 v, t.1 < gN G ∧ S.1 v ≤ t.2 ∧ t.2 ≤ S.1 t.1
theorem INV_len {G : GT} {S : BS} (hI : INV G S) {v : Nat} (hv : v < gN G) (h0 : 0 < S.1 v) : (S.2 v).length ≤ gN G := by
  obtain ⟨_, h2, h3⟩ := hI v hv h0
  have := nodup_len (n := gN G) h2 (fun x hx => by
    obtain ⟨t, ht, rfl⟩ := List.mem_map.mp hx
    exact (h3 t ht).1)
  rwa [List.length_map] at this
theorem INV_new {G : GT} {h : Nat → Nat → Nat} {S : BS} (hW : WG G) (hh : hOK h) (hI : INV G S) {e : Nat} (he : e < gm G) (hc : rlC G h S e = true) : 0 < S.1 (gf G e) ∧ (((gt G e, h e (S.1 (gf G e))) :: S.2 (gf G e)).map (fun t => t.1)).Nodup ∧ ∀ t ∈ (gt G e, h e (S.1 (gf G e))) :: S.2 (gf G e), t.1 < gN G ∧ h e (S.1 (gf G e)) ≤ t.2 ∧ (t.1 ≠ gt G e → t.2 ≤ S.1 t.1) ∧ (t.1 = gt G e → t.2 = h e (S.1 (gf G e))) := by
  obtain ⟨hu, hv, hne, _⟩ := hW.2.2.1 e he
  unfold rlC at hc
  have h1 := of_decide_eq_true (Bool.and_eq_true_iff.mp hc).2
  have h2 := hh e (S.1 (gf G e))
  have h0 : 0 < S.1 (gf G e) := by omega
  obtain ⟨_, g2, g3⟩ := hI _ hu h0
  have hnot : ∀ t ∈ S.2 (gf G e), t.1 ≠ gt G e := by
    intro t ht q
    obtain ⟨_, q2, q3⟩ := g3 t ht
    rw [q] at q3
    omega
  refine ⟨h0, ?_, fun t ht => ?_⟩
  · rw [List.map_cons, List.nodup_cons]
    refine ⟨fun q => ?_, g2⟩
    obtain ⟨t, ht, q⟩ := List.mem_map.mp q
    exact hnot t ht q
  · rcases List.mem_cons.mp ht with q | q
    · subst q
      exact ⟨hv, Nat.le_refl _, fun q => absurd rfl q, fun _ => rfl⟩
    · obtain ⟨q1, q2, q3⟩ := g3 t q
      exact ⟨q1, by omega, fun _ => q3, fun z => absurd z (hnot t q)⟩
theorem INV_1 {G : GT} {h : Nat → Nat → Nat} {S : BS} (hW : WG G) (hh : hOK h) (hI : INV G S) {e : Nat} (he : e < gm G) : INV G (rl1 G h S e) := by
  unfold rl1
  by_cases hc : rlC G h S e = true
  · rw [if_pos hc]
    obtain ⟨n0, n1, n2⟩ := INV_new hW hh hI he hc
    have hlt : S.1 (gt G e) < h e (S.1 (gf G e)) := of_decide_eq_true (Bool.and_eq_true_iff.mp hc).2
    intro v hv h0
    show (va_up S.2 (gt G e) _ v).length ≠ 0 ∧ ((va_up S.2 (gt G e) _ v).map (fun t => t.1)).Nodup ∧ ∀ t ∈ va_up S.2 (gt G e) _ v, t.1 < gN G ∧ va_up S.1 (gt G e) _ v ≤ t.2 ∧ t.2 ≤ va_up S.1 (gt G e) _ t.1
    by_cases q : v = gt G e
    · subst q
      rw [va_up_self, va_up_self]
      refine ⟨by simp, n1, fun t ht => ?_⟩
      obtain ⟨q1, q2, q3, q4⟩ := n2 t ht
      refine ⟨q1, q2, ?_⟩
      by_cases z : t.1 = gt G e
      · rw [z, va_up_self, q4 z]; exact Nat.le_refl _
      · rw [va_up_ne _ _ z]; exact q3 z
    · have h0 : 0 < va_up S.1 (gt G e) (h e (S.1 (gf G e))) v := h0
      rw [va_up_ne _ _ q] at h0
      rw [va_up_ne _ _ q, va_up_ne _ _ q]
      obtain ⟨p1, p2, p3⟩ := hI v hv h0
      refine ⟨p1, p2, fun t ht => ?_⟩
      obtain ⟨q1, q2, q3⟩ := p3 t ht
      refine ⟨q1, q2, ?_⟩
      by_cases z : t.1 = gt G e
      · rw [z, va_up_self]; rw [z] at q3; omega
      · rw [va_up_ne _ _ z]; exact q3
  · rw [if_neg hc]; exact hI
theorem INV_P {G : GT} {h : Nat → Nat → Nat} {S : BS} (hW : WG G) (hh : hOK h) (hI : INV G S) : ∀ n, n ≤ gm G → INV G (rlP G h S n) := by
  intro n
  induction n with
  | zero => intro _; exact hI
  | succ n ih => intro hn; exact INV_1 hW hh (ih (by omega)) (by omega)
theorem INV_R {G : GT} {h : Nat → Nat → Nat} {S : BS} (hW : WG G) (hh : hOK h) (hI : INV G S) : ∀ k, INV G (rlR G h S k) := by
  intro k
  induction k with
  | zero => exact hI
  | succ k ih => exact INV_P hW hh ih _ (Nat.le_refl _)
/-- after i rounds: what an arc may still better has come by many nodes -/
def JR (G : GT) (h : Nat → Nat → Nat) (S : BS) (i e : Nat) : Prop := ∀ j, j < gm G → rlC G h S j = true → (if j < e then i + 1 else i) < (S.2 (gf G j)).length
theorem JR_1 {G : GT} {h : Nat → Nat → Nat} {S : BS} (hW : WG G) (hI : INV G S) (hh : hOK h) {i e : Nat} (he : e < gm G) (hJ : JR G h S i e) : JR G h (rl1 G h S e) i (e + 1) := by
  obtain ⟨hu, hv, hne, _⟩ := hW.2.2.1 e he
  unfold rl1
  by_cases hc : rlC G h S e = true
  · rw [if_pos hc]
    have hlt : S.1 (gt G e) < h e (S.1 (gf G e)) := of_decide_eq_true (Bool.and_eq_true_iff.mp hc).2
    have hL := hJ e he hc
    rw [if_neg (by omega)] at hL
    intro j hj hcj
    have hcj : (gl G j && decide (va_up S.1 (gt G e) (h e (S.1 (gf G e))) (gt G j) < h j (va_up S.1 (gt G e) (h e (S.1 (gf G e))) (gf G j)))) = true := hcj
    obtain ⟨c1, c2⟩ := Bool.and_eq_true_iff.mp hcj
    have c2 := of_decide_eq_true c2
    show _ < (va_up S.2 (gt G e) _ (gf G j)).length
    by_cases q : gf G j = gt G e
    · rw [q, va_up_self, List.length_cons]
      split <;> omega
    · rw [va_up_ne _ _ q]
      rw [va_up_ne _ _ q] at c2
      have c3 : rlC G h S j = true := by
        unfold rlC
        rw [c1, Bool.true_and, decide_eq_true_iff]
        by_cases z : gt G j = gt G e
        · rw [z] at c2 ⊢; rw [va_up_self] at c2; omega
        · rwa [va_up_ne _ _ z] at c2
      have := hJ j hj c3
      by_cases z : j = e
      · subst z
        rw [va_up_self] at c2
        omega
      · split at this <;> split <;> omega
  · rw [if_neg hc]
    intro j hj hcj
    have := hJ j hj hcj
    by_cases z : j = e
    · subst z; exact absurd hcj hc
    · split at this <;> split <;> omega
theorem JR_P {G : GT} {h : Nat → Nat → Nat} {S : BS} (hW : WG G) (hI : INV G S) (hh : hOK h) {i : Nat} (hJ : JR G h S i 0) : ∀ n, n ≤ gm G → JR G h (rlP G h S n) i n := by
  intro n
  induction n with
  | zero => intro _; exact hJ
  | succ n ih => intro hn; exact JR_1 hW (INV_P hW hh hI n (by omega)) hh (by omega) (ih (by omega))
theorem JR_R {G : GT} {h : Nat → Nat → Nat} {S : BS} (hW : WG G) (hI : INV G S) (hh : hOK h) : ∀ i, JR G h (rlR G h S i) i 0 := by
  intro i
  induction i with
  | zero =>
    intro j hj hcj
    have h1 := of_decide_eq_true (Bool.and_eq_true_iff.mp hcj).2
    have h2 := hh j ((rlR G h S 0).1 (gf G j))
    have := (hI (gf G j) (hW.2.2.1 j hj).1 (Nat.lt_of_lt_of_le (Nat.lt_of_le_of_lt (Nat.zero_le _) h1) h2)).1
    rw [if_neg (by omega)]
    exact Nat.pos_of_ne_zero this
  | succ i ih =>
    have := JR_P hW (INV_R hW hh hI i) hh ih (gm G) (Nat.le_refl _)
    intro j hj hcj
    have := this j hj hcj
    rw [if_pos hj] at this
    rw [if_neg (by omega)]
    exact this
theorem rl_fix {G : GT} {h : Nat → Nat → Nat} {S : BS} (hW : WG G) (hI : INV G S) (hh : hOK h) {k : Nat} (hk : gN G ≤ k + 1) : ∀ e, e < gm G → rlC G h (rlR G h S k) e = false := by
  intro e he
  cases hc : rlC G h (rlR G h S k) e with
  | false => rfl
  | true =>
    exfalso
    have hJ := JR_R hW hI hh k e he hc
    rw [if_neg (by omega)] at hJ
    obtain ⟨_, n1, n2⟩ := INV_new hW hh (INV_R hW hh hI k) he hc
    have := nodup_len (n := gN G) n1 (fun x hx => by
      obtain ⟨t, ht, rfl⟩ := List.mem_map.mp hx
      exact (n2 t ht).1)
    rw [List.length_map, List.length_cons] at this
    omega
theorem rlR_stay {G : GT} {h : Nat → Nat → Nat} {S : BS} {k : Nat} (q : rlR G h S (k + 1) = rlR G h S k) : ∀ j, rlR G h S (k + j) = rlR G h S k := by
  intro j
  induction j with
  | zero => rfl
  | succ j ih =>
    rw [← Nat.add_assoc, rlR, ih]
    exact q
/-- the rounds to the end: whoever runs a round a step and asks for one more while something changed comes to what N-1 rounds give -/
theorem rounds_e {G : GT} {h : Nat → Nat → Nat} {S : BS} {st : (Int32 × mS) → Option ((Int32 × mS) ⊕ (Int32 × mS))} (M : mS → BS → Prop) (hW : WG G) (hN : 1 ≤ gN G) (hI : INV G S) (hh : hOK h) (h0 : ∀ τ, st (0, τ) = some (.inr (0, τ))) (h1 : ∀ τ T, INV G T → M τ T → ∃ τ', st (1, τ) = some (.inl (bI (chg G h T (gm G)), τ')) ∧ M τ' (rlP G h T (gm G))) {τ : mS} (hM : M τ S) :
    ∃ u, lpN st fuB (1, τ) = some u ∧ M u.2 (rlR G h S (gN G - 1)) := by
  obtain ⟨u, u1, u2⟩ := lpN_i (st := st) (fun i t => M t.2 (rlR G h S i) ∧ (t.1 = 1 ∧ i ≤ gN G - 1 ∨ t.1 = 0 ∧ ∃ k, i = k + 1 ∧ k ≤ gN G - 1 ∧ rlR G h S (k + 1) = rlR G h S k)) (fun u => M u.2 (rlR G h S (gN G - 1))) (gN G) (fun i t hi ht => by
    obtain ⟨f, t⟩ := t
    obtain ⟨t1, t2⟩ := ht
    rcases t2 with ⟨t2, t3⟩ | ⟨t2, k, k1, k2, k3⟩
    · have t2 : f = 1 := t2
      subst t2
      right
      refine ⟨by omega, ?_⟩
      obtain ⟨τ', e1, e2⟩ := h1 t (rlR G h S i) (INV_R hW hh hI i) t1
      refine ⟨_, e1, e2, ?_⟩
      cases hc : chg G h (rlR G h S i) (gm G) with
      | false =>
        right
        exact ⟨rfl, i, rfl, t3, chg_e _ hc⟩
      | true =>
        left
        refine ⟨rfl, ?_⟩
        rcases Nat.lt_or_ge i (gN G - 1) with q | q
        · omega
        · exfalso
          have := chg_o (rl_fix hW hI hh (S := S) (k := i) (by omega)) (gm G) (Nat.le_refl _)
          rw [hc] at this
          exact absurd this (by decide)
    · have t2 : f = 0 := t2
      subst t2
      left
      refine ⟨_, h0 t, ?_⟩
      have e1 : rlR G h S (gN G - 1) = rlR G h S k := by
        rw [show gN G - 1 = k + (gN G - 1 - k) by omega]
        exact rlR_stay k3 _
      rw [e1, ← k3, ← k1]
      exact t1) fuB 0 (1, τ) ⟨hM, Or.inl ⟨rfl, Nat.zero_le _⟩⟩ (Nat.zero_le _) (by rw [fuB_e]; have := hW.1; omega)
  exact ⟨u, u1, u2⟩
