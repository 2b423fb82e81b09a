-- ===== PURE: the other side's ring =====
theorem Rel_z {G : GT} {σ τ τ' : mS} (R : Rel G σ τ) (h : ∀ k j, k = 0 ∧ (j < 3 ∨ j = 21 ∨ j = 22 ∨ j = 23) ∨ 1 ≤ k ∧ k < 9 ∨ k = 17 ∨ k = 18 ∨ k = 19 → τ'.1 k j = τ.1 k j) : Rel G σ τ' := by
  obtain ⟨hW, hX, hY, hI, hh, hr⟩ := R
  exact ⟨hW, hX, RY_c hY (fun k j q => h k j (by omega)), hI, by rw [h 0 0 (by omega)]; exact hh, rowOK_c hr rfl rfl rfl rfl rfl rfl (fun j q => h 0 j (by omega)) (fun k j q => h k j (by omega))⟩
theorem lex_at : ∀ (t : Nat) (p q : List Nat) (x y : Nat), (∀ j, j < t → p[j]? = q[j]?) → p[t]? = some x → q[t]? = some y → x ≠ y → (p < q ↔ x < y) := by
  intro t
  induction t with
  | zero =>
    intro p q x y _ hp hq hne
    cases p with
    | nil => simp at hp
    | cons a p =>
      cases q with
      | nil => simp at hq
      | cons b q =>
        simp at hp hq
        subst hp
        subst hq
        rw [List.cons_lt_cons_iff]
        constructor
        · rintro (h | ⟨h, _⟩)
          · exact h
          · exact absurd h hne
        · intro h; exact Or.inl h
  | succ t ih =>
    intro p q x y h hp hq hne
    cases p with
    | nil => simp at hp
    | cons a p =>
      cases q with
      | nil => simp at hq
      | cons b q =>
        have h0 := h 0 (by omega)
        simp at h0
        subst h0
        rw [List.cons_lt_cons_iff]
        have := ih p q x y (fun j hj => by simpa using h (j + 1) (by omega)) (by simpa using hp) (by simpa using hq) hne
        rw [← this]
        constructor
        · rintro (h | ⟨_, h⟩)
          · exact absurd h (Nat.lt_irrefl _)
          · exact h
        · intro h; exact Or.inr ⟨rfl, h⟩
theorem lex_eq {p q : List Nat} (hl : p.length = q.length) (h : ∀ j, j < p.length → p[j]? = q[j]?) : p = q := by
  apply List.ext_getElem? 
  intro j
  rcases Nat.lt_or_ge j p.length with z | z
  · exact h j z
  · rw [List.getElem?_eq_none z, List.getElem?_eq_none (by omega)]
theorem wlt_p {G : GT} {p q : List Nat} (hp : p.length ≤ 10) (hq : q.length ≤ 10) : wlt G p q ↔ wyL G p < wyL G q ∨ wyL G p = wyL G q ∧ (p.length < q.length ∨ p.length = q.length ∧ p < q) := by
  unfold wlt
  rw [cst_e, cst_e]
  constructor
  · rintro (h | ⟨h1, h2⟩)
    · omega
    · right; exact ⟨by omega, Or.inr ⟨by omega, h2⟩⟩
  · rintro (h | ⟨h1, h2 | ⟨h2, h3⟩⟩)
    · left; omega
    · left; omega
    · right; exact ⟨by omega, h3⟩
theorem wyL_le {G : GT} (hW : WG G) {p : List Nat} (h : ∀ e ∈ p, e < gm G) (hl : p.length ≤ 10) : wyL G p ≤ 10000000 := by
  have h1 := cst_le hW p h
  have h2 := cst_e (G := G) p
  have h3 : 16000001 * p.length ≤ 160000010 := by omega
  omega
def RG (G : GT) (τ : mS) (r : List Nat) : Prop := τ.1 0 30 = nI r.length ∧ (r ≠ [] → τ.1 0 29 = nI (wyL G r) ∧ ∀ j f, r[j]? = some f → τ.1 22 j = nI f) ∧ r.length ≤ 10 ∧ ∀ e ∈ r, e < gm G
theorem better_e {G : GT} {τ : mS} {e : Nat} {q r : List Nat} (hW : WG G) (hY : RY G τ) (he : e < gm G) (hq : CW G τ q) (hql : q.length ≤ 9) (hqm : ∀ f ∈ q, f < gm G) (hr : RG G τ r) : f_Mo_isBetterRing τ (nI e) = some (bI (decide (r = [] ∨ wlt G (e :: q) r))) := by
  have hm := hW.2.1
  obtain ⟨r1, r2, r3, r4⟩ := hr
  obtain ⟨q1, q2, q3⟩ := hq
  have hwe := (hW.2.2.1 e he).2.2.2.1
  have hwq := wyL_le hW hqm (by omega)
  have hwr := wyL_le hW r4 r3
  have hce : (nI e).toNatClampNeg = e := nI_clamp (by omega)
  have hv1 : τ.1 0 20 + τ.1 3 e = nI (wyL G (e :: q)) := by rw [q2, (hY.2.2.1 e he).2.2.1, nI_add, wyL_c1]
  have hwp : wyL G (e :: q) ≤ 11000000 := by rw [wyL_c1]; omega
  have hyes : (r = [] ∨ wlt G (e :: q) r) → (some (1 : Int32)) = some (bI (decide (r = [] ∨ wlt G (e :: q) r))) := fun z => by rw [decide_eq_true z]; rfl
  have hnot : ¬ (r = [] ∨ wlt G (e :: q) r) → (some (0 : Int32)) = some (bI (decide (r = [] ∨ wlt G (e :: q) r))) := fun z => by rw [decide_eq_false z]; rfl
  unfold f_Mo_isBetterRing
  rw [gd_t (inb_n (by omega) (by decide)), hce, hv1, nm_e2, r1]
  by_cases hr0 : r = []
  · have e0 : nI r.length = 0 := by rw [hr0]; rfl
    rw [if_pos e0, if_pos e0]
    exact hyes (Or.inl hr0)
  · have hl0 : r.length ≠ 0 := fun z => hr0 (List.length_eq_zero_iff.mp z)
    have e0 : ¬ nI r.length = 0 := fun z => hl0 ((nI_eq (b := 0) (by omega) (by omega)).mp z)
    obtain ⟨r29, r22⟩ := r2 hr0
    have hwl := wlt_p (G := G) (p := e :: q) (q := r) (by rw [List.length_cons]; omega) r3
    rw [if_neg e0, if_neg e0, r29, q1, nI_1]
    by_cases hlen : wyL G (e :: q) = wyL G r
    · rw [if_pos (by rw [hlen])]
      by_cases hcnt : q.length + 1 = r.length
      · rw [if_pos (by rw [hcnt]), gd_t (by decide), gd_t (by decide)]
        cases hrr : r with
        | nil => exact absurd hrr hr0
        | cons f r' =>
          subst hrr
          have hf : f < gm G := r4 f (by simp)
          have e22 : τ.1 22 (0 : Int32).toNatClampNeg = nI f := r22 0 f rfl
          have hlr : q.length = r'.length := by simpa using hcnt
          have hiff : wlt G (e :: q) (f :: r') ↔ e < f ∨ e = f ∧ q < r' := by
            rw [hwl, List.cons_lt_cons_iff]
            constructor
            · rintro (z | ⟨_, z | ⟨_, z⟩⟩)
              · omega
              · rw [List.length_cons] at z; omega
              · exact z
            · intro z; exact Or.inr ⟨hlen, Or.inr ⟨hcnt, z⟩⟩
          rw [e22]
          by_cases hef : e = f
          · subst hef
            rw [if_pos rfl]
            obtain ⟨u, u1, u2⟩ := lpN_i (st := f_Mo_isBetterRing_L108 τ) (fun t s => s = nI t ∧ ∀ j, j < t → q[j]? = r'[j]?) (fun u => Sum.elim (fun e108 : Int32 => gd (inb e108 12) (gd (inb (e108 + 1) 12) (if (τ.1 22 (e108 + 1).toNatClampNeg) ≤ (τ.1 14 e108.toNatClampNeg) then some (0 : Int32) else some 1))) (fun y108 : Int32 => some y108) u = some (bI (decide (e :: r' = [] ∨ wlt G (e :: q) (e :: r'))))) q.length (fun t s ht hs => by
              obtain ⟨s1, s2⟩ := hs
              subst s1
              unfold f_Mo_isBetterRing_L108
              rw [q1]
              by_cases hc : t = q.length
              · left
                rw [if_pos (nI_le (by omega) (by omega))]
                refine ⟨_, rfl, hnot (fun z => ?_)⟩
                have heq : q = r' := lex_eq hlr (fun j hj => s2 j (by omega))
                rcases z with z | z
                · exact List.cons_ne_nil _ _ z
                · rw [heq] at z; exact wlt_irr z
              · have htq : t < q.length := by omega
                have htr : t < r'.length := by omega
                have g1 : q[t]? = some q[t] := List.getElem?_eq_getElem htq
                have g2 : r'[t]? = some r'[t] := List.getElem?_eq_getElem htr
                have hct : (nI t).toNatClampNeg = t := nI_clamp (by omega)
                have hct1 : (nI (t + 1)).toNatClampNeg = t + 1 := nI_clamp (by omega)
                have hb1 : inb (nI t) 12 = true := inb_n (by omega) (by decide)
                have hb2 : inb (nI (t + 1)) 12 = true := inb_n (by omega) (by decide)
                have a1 := q3 t _ g1
                have a2 : τ.1 22 (t + 1) = nI r'[t] := r22 (t + 1) _ (by rw [List.getElem?_cons_succ]; exact g2)
                have b1 := hqm _ (List.getElem_mem htq)
                have b2 := r4 _ (List.mem_cons_of_mem _ (List.getElem_mem htr))
                rw [if_neg (nI_ge (by omega) (by omega)), nI_1, gd_t hb1, gd_t hb2, hct, hct1, a1, a2]
                by_cases hne : q[t] = r'[t]
                · right
                  rw [if_pos (by rw [hne])]
                  refine ⟨htq, _, rfl, rfl, fun j hj => ?_⟩
                  by_cases z : j = t
                  · subst z; rw [g1, g2, hne]
                  · exact s2 j (by omega)
                · left
                  rw [if_neg (fun z => hne ((nI_eq (by omega) (by omega)).mp z))]
                  refine ⟨_, rfl, ?_⟩
                  have hlx := lex_at t q r' _ _ s2 g1 g2 hne
                  show gd (inb (nI t) 12) (gd (inb (nI t + 1) 12) (if (τ.1 22 (nI t + 1).toNatClampNeg) ≤ (τ.1 14 (nI t).toNatClampNeg) then some (0 : Int32) else some 1)) = _
                  rw [nI_1, gd_t hb1, gd_t hb2, hct, hct1, a1, a2]
                  by_cases z : q[t] < r'[t]
                  · rw [if_neg (nI_ge z (by omega))]
                    exact hyes (Or.inr (hiff.mpr (Or.inr ⟨rfl, hlx.mpr z⟩)))
                  · rw [if_pos (nI_le (by omega) (by omega))]
                    refine hnot (fun w => ?_)
                    rcases w with w | w
                    · exact List.cons_ne_nil _ _ w
                    · rcases hiff.mp w with w | ⟨_, w⟩
                      · omega
                      · exact z (hlx.mp w)) fuB 0 0 ⟨rfl, fun j hj => absurd hj (Nat.not_lt_zero _)⟩ (Nat.zero_le _) (by rw [fuB_e]; omega)
            rw [u1, Option.bind_some]
            exact u2
          · rw [if_neg (fun z => hef ((nI_eq (by omega) (by omega)).mp z))]
            by_cases z : e < f
            · rw [if_neg (nI_ge z (by omega))]
              exact hyes (Or.inr (hiff.mpr (Or.inl z)))
            · rw [if_pos (nI_le (by omega) (by omega))]
              refine hnot (fun w => ?_)
              rcases w with w | w
              · exact List.cons_ne_nil _ _ w
              · rcases hiff.mp w with w | ⟨w, _⟩ <;> omega
      · rw [if_neg (fun z => hcnt ((nI_eq (by omega) (by omega)).mp z))]
        by_cases z : q.length + 1 < r.length
        · rw [if_neg (nI_ge z (by omega))]
          exact hyes (Or.inr (hwl.mpr (Or.inr ⟨hlen, Or.inl (by rw [List.length_cons]; exact z)⟩)))
        · rw [if_pos (nI_le (by omega) (by omega))]
          refine hnot (fun w => ?_)
          rcases w with w | w
          · exact hr0 w
          · rcases hwl.mp w with w | ⟨_, w | ⟨w, _⟩⟩
            · omega
            · rw [List.length_cons] at w; omega
            · rw [List.length_cons] at w; omega
    · rw [if_neg (fun z => hlen ((nI_eq (by omega) (by omega)).mp z))]
      by_cases z : wyL G (e :: q) < wyL G r
      · rw [if_neg (nI_ge z (by omega))]
        exact hyes (Or.inr (hwl.mpr (Or.inl z)))
      · rw [if_pos (nI_le (by omega) (by omega))]
        refine hnot (fun w => ?_)
        rcases w with w | w
        · exact hr0 w
        · rcases hwl.mp w with w | ⟨w, _⟩ <;> omega
