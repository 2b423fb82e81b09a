-- ===== PURE: rows of least ways =====
def LRow (G : GT) (P : List Nat → Prop) (R : List (List Nat)) (n : Nat) : Prop := R.Pairwise (wlt G) ∧ (∀ p ∈ R, P p) ∧ R.length ≤ n ∧ ∀ q, P q → q ∈ R ∨ (R.length = n ∧ ∀ p ∈ R, wlt G p q)
theorem LRow_u {G : GT} : ∀ (R R' : List (List Nat)) (P : List Nat → Prop) (n n' : Nat), LRow G P R n → LRow G P R' n' → ∀ k, k < n → k < n' → R[k]? = R'[k]? := by
  intro R
  induction R with
  | nil =>
    intro R' P n n' h h' k hk hk'
    cases R' with
    | nil => rfl
    | cons y R' =>
      exfalso
      rcases h.2.2.2 y (h'.2.1 y (List.mem_cons_self ..)) with z | ⟨z, _⟩
      · cases z
      · rw [List.length_nil] at z; omega
  | cons x R ih =>
    intro R' P n n' h h' k hk hk'
    cases R' with
    | nil =>
      exfalso
      rcases h'.2.2.2 x (h.2.1 x (List.mem_cons_self ..)) with z | ⟨z, _⟩
      · cases z
      · rw [List.length_nil] at z; omega
    | cons y R' =>
      obtain ⟨h1, h2, h3, h4⟩ := h
      obtain ⟨g1, g2, g3, g4⟩ := h'
      rw [List.pairwise_cons] at h1 g1
      have hx : ∀ q, P q → q = x ∨ wlt G x q := by
        intro q hq
        rcases h4 q hq with z | ⟨_, z⟩
        · rcases List.mem_cons.mp z with w | w
          · exact Or.inl w
          · exact Or.inr (h1.1 q w)
        · exact Or.inr (z x (List.mem_cons_self ..))
      have hy : ∀ q, P q → q = y ∨ wlt G y q := by
        intro q hq
        rcases g4 q hq with z | ⟨_, z⟩
        · rcases List.mem_cons.mp z with w | w
          · exact Or.inl w
          · exact Or.inr (g1.1 q w)
        · exact Or.inr (z y (List.mem_cons_self ..))
      have hxy : x = y := by
        rcases hx y (g2 y (List.mem_cons_self ..)) with z | z
        · exact z.symm
        · rcases hy x (h2 x (List.mem_cons_self ..)) with w | w
          · exact w
          · exact (wlt_as z w).elim
      subst hxy
      cases k with
      | zero => rfl
      | succ k =>
        rw [List.getElem?_cons_succ, List.getElem?_cons_succ]
        rw [List.length_cons] at h3 g3
        refine ih R' (fun q => P q ∧ q ≠ x) (n - 1) (n' - 1) ⟨h1.2, fun p hp => ⟨h2 p (List.mem_cons_of_mem _ hp), fun z => wlt_irr (by have := h1.1 p hp; rw [z] at this; exact this)⟩, by omega, fun q hq => ?_⟩ ⟨g1.2, fun p hp => ⟨g2 p (List.mem_cons_of_mem _ hp), fun z => wlt_irr (by have := g1.1 p hp; rw [z] at this; exact this)⟩, by omega, fun q hq => ?_⟩ k (by omega) (by omega)
        · rcases h4 q hq.1 with z | ⟨z, w⟩
          · exact Or.inl ((List.mem_cons.mp z).resolve_left hq.2)
          · rw [List.length_cons] at z
            exact Or.inr ⟨by omega, fun p hp => w p (List.mem_cons_of_mem _ hp)⟩
        · rcases g4 q hq.1 with z | ⟨z, w⟩
          · exact Or.inl ((List.mem_cons.mp z).resolve_left hq.2)
          · rw [List.length_cons] at z
            exact Or.inr ⟨by omega, fun p hp => w p (List.mem_cons_of_mem _ hp)⟩
/-- where a new one goes -/
def insK (R : List (List Nat)) (k : Nat) (x : List Nat) : List (List Nat) := R.take k ++ x :: R.drop k
theorem insK_m {R : List (List Nat)} {k : Nat} {x q : List Nat} : q ∈ insK R k x ↔ q ∈ R ∨ q = x := by
  unfold insK
  rw [List.mem_append, List.mem_cons]
  have e : q ∈ R ↔ q ∈ R.take k ∨ q ∈ R.drop k := by
    conv => lhs; rw [← List.take_append_drop k R]
    rw [List.mem_append]
  rw [e]
  constructor
  · rintro (h | h | h)
    · exact Or.inl (Or.inl h)
    · exact Or.inr h
    · exact Or.inl (Or.inr h)
  · rintro ((h | h) | h)
    · exact Or.inl h
    · exact Or.inr (Or.inr h)
    · exact Or.inr (Or.inl h)
theorem insK_len {R : List (List Nat)} {k : Nat} {x : List Nat} : (insK R k x).length = R.length + 1 := by
  unfold insK
  rw [List.length_append, List.length_cons, List.length_take, List.length_drop]; omega
theorem insK_s {G : GT} {R : List (List Nat)} {k : Nat} {x : List Nat} (hR : R.Pairwise (wlt G)) (h1 : ∀ p ∈ R.take k, wlt G p x) (h2 : ∀ p ∈ R.drop k, wlt G x p) : (insK R k x).Pairwise (wlt G) := by
  unfold insK
  have hR' := hR
  rw [← List.take_append_drop k R, List.pairwise_append] at hR'
  rw [List.pairwise_append, List.pairwise_cons]
  refine ⟨hR'.1, ⟨h2, hR'.2.1⟩, fun p hp q hq => ?_⟩
  rcases List.mem_cons.mp hq with z | z
  · rw [z]; exact h1 p hp
  · exact hR'.2.2 p hp q z
theorem LRow_ins {G : GT} {P P' : List Nat → Prop} {R : List (List Nat)} {n k : Nat} {x : List Nat} (h : LRow G P R n) (h1 : ∀ p ∈ R.take k, wlt G p x) (h2 : ∀ p ∈ R.drop k, wlt G x p) (e : ∀ p, P' p ↔ P p ∨ p = x) : LRow G P' ((insK R k x).take n) n := by
  obtain ⟨a1, a2, a3, a4⟩ := h
  have hs := insK_s a1 h1 h2
  have hs' := hs
  rw [← List.take_append_drop n (insK R k x), List.pairwise_append] at hs'
  refine ⟨hs'.1, fun p hp => ?_, by rw [List.length_take]; omega, fun q hq => ?_⟩
  · rcases insK_m.mp (List.mem_of_mem_take hp) with z | z
    · exact (e p).mpr (Or.inl (a2 p z))
    · exact (e p).mpr (Or.inr z)
  · have hin : q ∈ insK R k x → q ∈ (insK R k x).take n ∨ (((insK R k x).take n).length = n ∧ ∀ p ∈ (insK R k x).take n, wlt G p q) := by
      intro z
      rw [← List.take_append_drop n (insK R k x)] at z
      rcases List.mem_append.mp z with w | w
      · exact Or.inl w
      · right
        refine ⟨?_, fun p hp => hs'.2.2 p hp q w⟩
        have : 0 < ((insK R k x).drop n).length := List.length_pos_of_mem w
        rw [List.length_drop] at this
        rw [List.length_take]; omega
    rcases (e q).mp hq with z | z
    · rcases a4 q z with w | ⟨w1, w2⟩
      · exact hin (insK_m.mpr (Or.inl w))
      · right
        refine ⟨by rw [List.length_take, insK_len]; omega, fun p hp => ?_⟩
        rcases insK_m.mp (List.mem_of_mem_take hp) with y | y
        · exact w2 p y
        · have hd : ((insK R k x).drop n).length = 1 := by rw [List.length_drop, insK_len]; omega
          obtain ⟨l, hl⟩ := List.length_eq_one_iff.mp hd
          have hlm : l ∈ (insK R k x).drop n := by rw [hl]; exact List.mem_singleton.mpr rfl
          have hpl := hs'.2.2 p hp l hlm
          rcases insK_m.mp (List.mem_of_mem_drop hlm) with v | v
          · exact wlt_tr hpl (w2 l v)
          · rw [y, v] at hpl; exact (wlt_irr hpl).elim
    · exact hin (insK_m.mpr (Or.inr z))
theorem wyB_w {G : GT} {p q : List Nat} (hp : p.length ≤ 10) (hq : q.length ≤ 10) : wyB G p q = true ↔ wlt G p q := by
  unfold wyB
  rw [decide_eq_true_iff, wlt_p hp hq]
theorem insW_k {G : GT} {p : List Nat} : ∀ (k : Nat) (R : List (List Nat)), (∀ q ∈ R.take k, wyB G p q = false) → (∀ q ∈ R.drop k, wyB G p q = true) → insW G p R = insK R k p := by
  intro k
  induction k with
  | zero =>
    intro R _ h
    cases R with
    | nil => rfl
    | cons q R =>
      rw [insW, if_pos (h q (by simp))]
      rfl
  | succ k ih =>
    intro R h1 h2
    cases R with
    | nil => rfl
    | cons q R =>
      rw [insW, if_neg (by rw [h1 q (by simp)]; decide), ih R (fun x hx => h1 x (by rw [List.take_succ_cons]; exact List.mem_cons_of_mem _ hx)) (fun x hx => h2 x (by rw [List.drop_succ_cons]; exact hx))]
      rfl
def RowAt (G : GT) (τ : mS) (r : Nat) (p : List Nat) : Prop := p.length ≤ 10 ∧ wyL G p ≤ 10000000 ∧ τ.1 17 r = nI (wyL G p) ∧ τ.1 18 r = nI p.length ∧ ∀ i e, p[i]? = some e → e < 40 ∧ τ.1 19 (10 * r + i) = nI e
theorem ahead_e {G : GT} {τ : mS} {r : Nat} {p x : List Nat} (hr : r < 31) (hp : CW G τ p) (hpl : p.length ≤ 10) (hpw : wyL G p ≤ 10000000) (hpm : ∀ e ∈ p, e < 40) (hx : RowAt G τ r x) : f_Mo_isAhead τ (nI r) = some (bI (decide (wlt G p x))) := by
  obtain ⟨x1, x2, x3, x4, x5⟩ := hx
  obtain ⟨p1, p2, p3⟩ := hp
  have hwl := wlt_p (G := G) hpl x1
  have hyes : wlt G p x → (some (1 : Int32)) = some (bI (decide (wlt G p x))) := fun z => by rw [decide_eq_true z]; rfl
  have hnot : ¬ wlt G p x → (some (0 : Int32)) = some (bI (decide (wlt G p x))) := fun z => by rw [decide_eq_false z]; rfl
  have hb : inb (nI r) 31 = true := inb_n hr (by decide)
  have hcr : (nI r).toNatClampNeg = r := nI_clamp (by omega)
  unfold f_Mo_isAhead
  rw [gd_t hb, gd_t hb, gd_t hb, gd_t hb, hcr, p2, x3, p1, x4]
  by_cases hlen : wyL G p = wyL G x
  · rw [if_pos (by rw [hlen])]
    by_cases hcnt : p.length = x.length
    · rw [if_pos (by rw [hcnt])]
      obtain ⟨u, u1, u2⟩ := lpN_i (st := f_Mo_isAhead_L66 τ (nI r)) (fun t s => s = nI t ∧ ∀ j, j < t → p[j]? = x[j]?) (fun u => Sum.elim (fun e66 : Int32 => gd (inb e66 12) (gd (inb ((10 * nI r) + e66) 310) (if (τ.1 19 ((10 * nI r) + e66).toNatClampNeg) ≤ (τ.1 14 e66.toNatClampNeg) then some (0 : Int32) else some 1))) (fun y66 : Int32 => some y66) u = some (bI (decide (wlt G p x)))) p.length (fun t s ht hs => by
        obtain ⟨s1, s2⟩ := hs
        subst s1
        unfold f_Mo_isAhead_L66
        rw [p1]
        by_cases hc : t = p.length
        · left
          rw [if_pos (nI_le (by omega) (by omega))]
          refine ⟨_, rfl, hnot (fun z => ?_)⟩
          have heq : p = x := lex_eq hcnt (fun j hj => s2 j (by omega))
          rw [heq] at z; exact wlt_irr z
        · have htq : t < p.length := by omega
          have htr : t < x.length := by omega
          have g1 : p[t]? = some p[t] := List.getElem?_eq_getElem htq
          have g2 : x[t]? = some x[t] := List.getElem?_eq_getElem htr
          have hct : (nI t).toNatClampNeg = t := nI_clamp (by omega)
          have hct1 : (nI (10 * r + t)).toNatClampNeg = 10 * r + t := nI_clamp (by omega)
          have hb1 : inb (nI t) 12 = true := inb_n (by omega) (by decide)
          have hb2 : inb (nI (10 * r + t)) 310 = true := inb_n (by omega) (by decide)
          have a1 := p3 t _ g1
          obtain ⟨b2, a2⟩ := x5 t _ g2
          have b1 := hpm _ (List.getElem_mem htq)
          rw [if_neg (nI_ge (by omega) (by omega)), ixY, nI_1, gd_t hb1, gd_t hb2, hct, hct1, a1, a2]
          by_cases hne : p[t] = x[t]
          · right
            rw [if_pos (by rw [hne])]
            refine ⟨htq, _, rfl, rfl, fun j hj => ?_⟩
            by_cases z : j = t
            · subst z; rw [g1, g2, hne]
            · exact s2 j (by omega)
          · left
            rw [if_neg (fun z => hne ((nI_eq (by omega) (by omega)).mp z))]
            refine ⟨_, rfl, ?_⟩
            have hlx := lex_at t p x _ _ s2 g1 g2 hne
            show gd (inb (nI t) 12) (gd (inb ((10 * nI r) + nI t) 310) (if (τ.1 19 ((10 * nI r) + nI t).toNatClampNeg) ≤ (τ.1 14 (nI t).toNatClampNeg) then some (0 : Int32) else some 1)) = _
            rw [ixY, gd_t hb1, gd_t hb2, hct, hct1, a1, a2]
            by_cases z : p[t] < x[t]
            · rw [if_neg (nI_ge z (by omega))]
              exact hyes (hwl.mpr (Or.inr ⟨hlen, Or.inr ⟨hcnt, hlx.mpr z⟩⟩))
            · rw [if_pos (nI_le (by omega) (by omega))]
              refine hnot (fun w => ?_)
              rcases hwl.mp w with w | ⟨_, w | ⟨_, w⟩⟩
              · omega
              · omega
              · exact z (hlx.mp w)) fuB 0 0 ⟨rfl, fun j hj => absurd hj (Nat.not_lt_zero _)⟩ (Nat.zero_le _) (by rw [fuB_e]; omega)
      rw [u1, Option.bind_some]
      exact u2
    · rw [if_neg (fun z => hcnt ((nI_eq (by omega) (by omega)).mp z))]
      by_cases z : p.length < x.length
      · rw [if_neg (nI_ge z (by omega))]
        exact hyes (hwl.mpr (Or.inr ⟨hlen, Or.inl z⟩))
      · rw [if_pos (nI_le (by omega) (by omega))]
        refine hnot (fun w => ?_)
        rcases hwl.mp w with w | ⟨_, w | ⟨w, _⟩⟩ <;> omega
  · rw [if_neg (fun z => hlen ((nI_eq (by omega) (by omega)).mp z))]
    by_cases z : wyL G p < wyL G x
    · rw [if_neg (nI_ge z (by omega))]
      exact hyes (hwl.mpr (Or.inl z))
    · rw [if_pos (nI_le (by omega) (by omega))]
      refine hnot (fun w => ?_)
      rcases hwl.mp w with w | ⟨w, _⟩ <;> omega
