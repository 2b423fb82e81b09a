-- ===== PURE: the parts don't meet; the class's row =====
def Sj (G : GT) (a b d j : Nat) (E : Ent) (q : List Nat) : Prop := if j < d then q = E.1 else Pt G a b E.1 E.2.1 E.2.2 q
def DJ (G : GT) (a b : Nat) (Es : List Ent) (d : Nat) (Ex : List Nat → Prop) : Prop := (∀ (j : Nat) (E : Ent) (q : List Nat), Es[j]? = some E → Sj G a b d j E q → ¬ Ex q) ∧ ∀ (i j : Nat) (E F : Ent) (q : List Nat), i ≠ j → Es[i]? = some E → Es[j]? = some F → Sj G a b d i E q → ¬ Sj G a b d j F q
theorem insE_src {Es : List Ent} {k j : Nat} {x E : Ent} (hk : k ≤ Es.length) (h : (insE Es k x)[j]? = some E) : (j = k ∧ E = x) ∨ ∃ j0, Es[j0]? = some E ∧ (j0 = j ∧ j < k ∨ j = j0 + 1 ∧ k < j) := by
  unfold insE at h
  have htl : (Es.take k).length = k := by rw [List.length_take]; omega
  rcases Nat.lt_trichotomy j k with z | z | z
  · rw [List.getElem?_append_left (by omega), List.getElem?_take, if_pos z] at h
    exact Or.inr ⟨j, h, Or.inl ⟨rfl, z⟩⟩
  · rw [List.getElem?_append_right (by omega), htl, z, Nat.sub_self] at h
    exact Or.inl ⟨z, (Option.some.inj h).symm⟩
  · rw [List.getElem?_append_right (by omega), htl, show j - k = (j - 1 - k) + 1 by omega, List.getElem?_cons_succ, List.getElem?_drop, show k + (j - 1 - k) = j - 1 by omega] at h
    exact Or.inr ⟨j - 1, h, Or.inr ⟨by omega, z⟩⟩
theorem DJ_ins {G : GT} {a b d n k : Nat} {Es : List Ent} {x : Ent} {Ex Ex' : List Nat → Prop} (h : DJ G a b Es d Ex) (hd : d ≤ k) (hk : k ≤ Es.length) (h1 : ∀ q, Pt G a b x.1 x.2.1 x.2.2 q → Ex q) (h2 : ∀ q, Ex' q → Ex q ∧ ¬ Pt G a b x.1 x.2.1 x.2.2 q) : DJ G a b ((insE Es k x).take n) d Ex' := by
  have hS : ∀ (j : Nat) (E : Ent) (q : List Nat), ((insE Es k x).take n)[j]? = some E → Sj G a b d j E q → (j = k ∧ E = x ∧ Pt G a b x.1 x.2.1 x.2.2 q) ∨ ∃ j0, Es[j0]? = some E ∧ Sj G a b d j0 E q ∧ (j0 = j ∧ j < k ∨ j = j0 + 1 ∧ k < j) := by
    intro j E q hj hq
    rw [List.getElem?_take] at hj
    split at hj
    · rcases insE_src hk hj with ⟨z1, z2⟩ | ⟨j0, z1, z2⟩
      · left
        subst z2
        unfold Sj at hq
        rw [if_neg (by omega)] at hq
        exact ⟨z1, rfl, hq⟩
      · right
        refine ⟨j0, z1, ?_, z2⟩
        unfold Sj at hq ⊢
        have : j0 < d ↔ j < d := by omega
        by_cases y : j < d
        · rw [if_pos y] at hq; rw [if_pos (this.mpr y)]; exact hq
        · rw [if_neg y] at hq; rw [if_neg (fun w => y (this.mp w))]; exact hq
    · cases hj
  refine ⟨fun j E q hj hq hx => ?_, fun i j E F q hij hi hj hE hF => ?_⟩
  · obtain ⟨x1, x2⟩ := h2 q hx
    rcases hS j E q hj hq with ⟨_, _, z⟩ | ⟨j0, z1, z2, _⟩
    · exact x2 z
    · exact h.1 j0 E q z1 z2 x1
  · rcases hS i E q hi hE with ⟨y1, _, y2⟩ | ⟨i0, y1, y2, y3⟩
    · rcases hS j F q hj hF with ⟨z1, _, _⟩ | ⟨j0, z1, z2, z3⟩
      · omega
      · exact h.1 j0 F q z1 z2 (h1 q y2)
    · rcases hS j F q hj hF with ⟨_, _, z⟩ | ⟨j0, z1, z2, z3⟩
      · exact h.1 i0 E q y1 y2 (h1 q z)
      · exact h.2 i0 j0 E F q (by omega) y1 z1 y2 z2
theorem DJ_rest {G : GT} {a b d : Nat} {Es : List Ent} {E : Ent} (h : DJ G a b Es d (fun _ => False)) (hok : ∀ E ∈ Es, EOK G a b E) (hE : Es[d]? = some E) : DJ G a b Es (d + 1) (restP G a b E E.2.1) := by
  have hS : ∀ (j : Nat) (F : Ent) (q : List Nat), Es[j]? = some F → Sj G a b (d + 1) j F q → Sj G a b d j F q := by
    intro j F q hj hq
    unfold Sj at *
    by_cases z : j < d
    · rw [if_pos (by omega)] at hq; rw [if_pos z]; exact hq
    · rw [if_neg z]
      by_cases y : j < d + 1
      · rw [if_pos y] at hq
        rw [hq]; exact (hok F (List.mem_of_getElem? hj)).1.1
      · rw [if_neg y] at hq; exact hq
  refine ⟨fun j F q hj hq hx => ?_, fun i j F F' q hij hi hj h1 h2 => h.2 i j F F' q hij hi hj (hS i F q hi h1) (hS j F' q hj h2)⟩
  by_cases z : j = d
  · subst z
    rw [hE] at hj
    have := Option.some.inj hj
    subst this
    unfold Sj at hq
    rw [if_pos (by omega)] at hq
    exact hx.2.2 hq
  · refine h.2 d j E F q (fun y => z y.symm) hE hj ?_ (hS j F q hj hq)
    unfold Sj
    rw [if_neg (by omega)]; exact hx.1
theorem DJ_d {G : GT} {a b d : Nat} {Es : List Ent} {Ex Ex' : List Nat → Prop} (h : DJ G a b Es d Ex) (he : ∀ q, Ex' q → Ex q) : DJ G a b Es d Ex' := ⟨fun j E q h1 h2 h3 => h.1 j E q h1 h2 (he q h3), h.2⟩
/-- the part at i of an expanded way -/
theorem part_i {G : GT} {a b i : Nat} {E : Ent} (hE : EOK G a b E) (hi : E.2.1 ≤ i) (hi2 : i < E.1.length) : (∀ q, Pt G a b E.1 i (barI E i) q → restP G a b E i q) ∧ ∀ q, restP G a b E (i + 1) q → restP G a b E i q ∧ ¬ Pt G a b E.1 i (barI E i) q := by
  have hget : E.1[i]? = some E.1[i] := List.getElem?_eq_getElem hi2
  have hbar : barI E i E.1[i] = true := by unfold barI; rw [decide_eq_true hget, Bool.or_true]
  refine ⟨fun q hq => ?_, fun q hq => ?_⟩
  · obtain ⟨h1, h2, h3⟩ := hq
    refine ⟨⟨h1, ?_, fun e he => ?_⟩, h2, fun z => ?_⟩
    · have := congrArg (fun l => List.take E.2.1 l) h2
      simpa [List.take_take, Nat.min_eq_left hi] using this
    · by_cases z : i = E.2.1
      · have := h3 e (by rw [z]; exact he)
        unfold barI at this
        rw [Bool.or_eq_false_iff, decide_eq_true z, Bool.true_and] at this
        exact this.1
      · refine hE.1.1.2.2 e ?_
        have e1 : (q.take i)[E.2.1]? = q[E.2.1]? := by rw [List.getElem?_take, if_pos (by omega)]
        have e2 : (E.1.take i)[E.2.1]? = E.1[E.2.1]? := by rw [List.getElem?_take, if_pos (by omega)]
        rw [← e2, ← h2, e1]; exact he
    · rw [z] at h3
      have := h3 _ hget
      rw [hbar] at this; cases this
  · obtain ⟨h1, h2, h3⟩ := hq
    have ht : q.take i = E.1.take i := by
      have := congrArg (fun l => List.take i l) h2
      simpa [List.take_take] using this
    refine ⟨⟨h1, ht, h3⟩, fun z => ?_⟩
    have e1 : (q.take (i + 1))[i]? = q[i]? := by rw [List.getElem?_take, if_pos (by omega)]
    have e2 : (E.1.take (i + 1))[i]? = E.1[i]? := by rw [List.getElem?_take, if_pos (by omega)]
    have := z.2.2 E.1[i] (by rw [← e1, h2, e2]; exact hget)
    rw [hbar] at this; cases this
theorem before_e {G : GT} {σ : mS} {w w1 : Nat} {p p' : List Nat} (hW : WG G) (h : WO G σ w p) (h' : WO G σ w1 p') (hl : p.length ≤ 10) (hl' : p'.length ≤ 10) : f_Wy_isBefore w σ w1 = some (bI (decide (wlt G p p'))) := by
  have hm := hW.2.1
  obtain ⟨a1, a2, a3, a4⟩ := h
  obtain ⟨b1, b2, b3, b4⟩ := h'
  have c1 := cst_le hW p a4
  have c2 := cst_le hW p' b4
  have e1 := cst_e (G := G) p
  have e2 := cst_e (G := G) p'
  have hyes : wlt G p p' → (some (1 : Int32)) = some (bI (decide (wlt G p p'))) := fun z => by rw [decide_eq_true z]; rfl
  have hnot : ¬ wlt G p p' → (some (0 : Int32)) = some (bI (decide (wlt G p p'))) := fun z => by rw [decide_eq_false z]; rfl
  unfold f_Wy_isBefore
  rw [a2, b2]
  by_cases hc : cst G p = cst G p'
  · rw [if_pos (by rw [hc])]
    have hlen : p.length = p'.length := by omega
    obtain ⟨u, u1, u2⟩ := lpN_i (st := f_Wy_isBefore_L30 σ w w1) (fun t s => s = nI t ∧ ∀ j, j < t → p[j]? = p'[j]?) (fun u => Sum.elim (fun e30 : Int32 => gd (inb e30 10) (gd (inb e30 10) (if (σ.1 (w1 + 1) e30.toNatClampNeg) ≤ (σ.1 (w + 1) e30.toNatClampNeg) then some (0 : Int32) else some 1))) (fun y30 : Int32 => some y30) u = some (bI (decide (wlt G p p')))) p.length (fun t s ht hs => by
      obtain ⟨s1, s2⟩ := hs
      subst s1
      unfold f_Wy_isBefore_L30
      rw [a1]
      by_cases hcc : t = p.length
      · left
        rw [if_pos (nI_le (by omega) (by omega))]
        refine ⟨_, rfl, hnot (fun z => ?_)⟩
        have heq : p = p' := lex_eq hlen (fun j hj => s2 j (by omega))
        rw [heq] at z; exact wlt_irr z
      · have htq : t < p.length := by omega
        have htr : t < p'.length := by omega
        have g1 : p[t]? = some p[t] := List.getElem?_eq_getElem htq
        have g2 : p'[t]? = some p'[t] := List.getElem?_eq_getElem htr
        have hct : (nI t).toNatClampNeg = t := nI_clamp (by omega)
        have hb1 : inb (nI t) 10 = true := inb_n (by omega) (by decide)
        have d1 := a4 _ (List.getElem_mem htq)
        have d2 := b4 _ (List.getElem_mem htr)
        rw [if_neg (nI_ge (by omega) (by omega)), gd_t hb1, gd_t hb1, hct, a3 t _ g1, b3 t _ g2]
        by_cases hne : p[t] = p'[t]
        · right
          rw [if_pos (by rw [hne])]
          refine ⟨htq, _, rfl, nI_1 _, fun j hj => ?_⟩
          by_cases z : j = t
          · subst z; rw [g1, g2, hne]
          · exact s2 j (by omega)
        · left
          rw [if_neg (fun z => hne ((nI_eq (by omega) (by omega)).mp z))]
          refine ⟨_, rfl, ?_⟩
          have hlx := lex_at t p p' _ _ s2 g1 g2 hne
          show gd (inb (nI t) 10) (gd (inb (nI t) 10) (if (σ.1 (w1 + 1) (nI t).toNatClampNeg) ≤ (σ.1 (w + 1) (nI t).toNatClampNeg) then some (0 : Int32) else some 1)) = _
          rw [gd_t hb1, gd_t hb1, hct, a3 t _ g1, b3 t _ g2]
          by_cases z : p[t] < p'[t]
          · rw [if_neg (nI_ge z (by omega))]
            exact hyes (Or.inr ⟨hc, hlx.mpr z⟩)
          · rw [if_pos (nI_le (by omega) (by omega))]
            refine hnot (fun v => ?_)
            rcases v with v | ⟨_, v⟩
            · omega
            · exact z (hlx.mp v)) fuS 0 0 ⟨rfl, fun j hj => absurd hj (Nat.not_lt_zero _)⟩ (Nat.zero_le _) (by rw [fuS_e]; omega)
    rw [u1, Option.bind_some]
    exact u2
  · rw [if_neg (fun z => hc ((nI_eq (by omega) (by omega)).mp z))]
    by_cases z : cst G p < cst G p'
    · rw [if_neg (nI_ge z (by omega))]
      exact hyes (Or.inl z)
    · rw [if_pos (nI_le (by omega) (by omega))]
      refine hnot (fun v => ?_)
      rcases v with v | ⟨v, _⟩ <;> omega
theorem sQ_3 (σ : mS) (k j a b : Nat) (v : Option Nat) : (sQ σ k j v).2.2 a b = if a = k then (if b = j then v else σ.2.2 a b) else σ.2.2 a b := rfl
theorem wy_q : ∀ q, q < 31 → wy (29 + 2 * q) = true := by decide
def OA (G : GT) (σ : mS) (w : Nat) (E : Ent) : Prop := WO G σ w E.1 ∧ σ.1 w 3 = nI E.2.1 ∧ ∀ e, e < 40 → b64 (σ.2.1 w 4) e = E.2.2 e
/-- where each stands once the last has gone up to k -/
def piK (k n j : Nat) : Nat := if j < k then j else if j = k then n else if j ≤ n then j - 1 else j
theorem takeIn_e {G : GT} {σ : mS} {Es : List Ent} {x : Ent} {q : Nat → Nat} {n : Nat} (hW : WG G) (hq : ∀ i, i < 31 → q i < 31 ∧ σ.2.2 26 i = some (29 + 2 * q i)) (hn : Es.length ≤ n) (hn2 : n ≤ 30) (h4 : σ.1 25 4 = nI Es.length) (h5 : σ.1 25 5 = nI n) (hEs : ∀ i E, Es[i]? = some E → WO G σ (29 + 2 * q i) E.1 ∧ E.1.length ≤ 10) (hx : WO G σ (29 + 2 * q Es.length) x.1) (hxl : x.1.length ≤ 10) (hs : sortE G Es) (hne : ∀ E ∈ Es, x.1 ≠ E.1) :
    ∃ σ' k, f_Rw_takeIn σ = some σ' ∧ k ≤ Es.length ∧ (∀ p ∈ Es.take k, wlt G p.1 x.1) ∧ (∀ p ∈ Es.drop k, wlt G x.1 p.1) ∧ (∀ a j, (a ≠ 25 ∨ j ≠ 4) → σ'.1 a j = σ.1 a j) ∧ σ'.1 25 4 = nI (min n (Es.length + 1)) ∧ σ'.2.1 = σ.2.1 ∧ ∀ i, i < 31 → σ'.2.2 26 i = some (29 + 2 * q (piK k Es.length i)) := by
  unfold f_Rw_takeIn
  rw [nm_e2, h4]
  obtain ⟨u, u1, k, hk, u2, u3, u4, u5, u6⟩ := lpN_i (st := f_Rw_takeIn_L5) (fun i s => s.1 = nI (Es.length - i) ∧ s.2.1 = σ.1 ∧ s.2.2.1 = σ.2.1 ∧ (∀ j, j < 31 → s.2.2.2 26 j = some (29 + 2 * q (piK (Es.length - i) Es.length j))) ∧ ∀ r E, Es[r]? = some E → Es.length - i ≤ r → wlt G x.1 E.1) (fun u => ∃ k, k ≤ Es.length ∧ u.2.1 = σ.1 ∧ u.2.2.1 = σ.2.1 ∧ (∀ j, j < 31 → u.2.2.2 26 j = some (29 + 2 * q (piK k Es.length j))) ∧ (∀ r E, Es[r]? = some E → k ≤ r → wlt G x.1 E.1) ∧ (∀ E, Es[k - 1]? = some E → 0 < k → ¬ wlt G x.1 E.1)) Es.length (fun i s hi hss => by
    obtain ⟨st, s⟩ := s
    obtain ⟨s1, s2, s3, s4, s5⟩ := hss
    have s1 : st = nI (Es.length - i) := s1
    subst s1
    have s2 : s.1 = σ.1 := s2
    have s3 : s.2.1 = σ.2.1 := s3
    have s4 : ∀ j, j < 31 → s.2.2 26 j = some (29 + 2 * q (piK (Es.length - i) Es.length j)) := s4
    unfold f_Rw_takeIn_L5
    dsimp only
    by_cases h0 : Es.length - i = 0
    · left
      rw [h0, if_pos (by decide)]
      rw [h0] at s4
      exact ⟨_, rfl, 0, Nat.zero_le _, s2, s3, s4, fun r E hr _ => s5 r E hr (by omega), fun E _ h => absurd h (Nat.lt_irrefl _)⟩
    · obtain ⟨m, hm⟩ : ∃ m, Es.length - i = m + 1 := ⟨Es.length - i - 1, by omega⟩
      have hmR : m < Es.length := by omega
      have gm1 : Es[m]? = some Es[m] := List.getElem?_eq_getElem hmR
      have hc1 : (nI m).toNatClampNeg = m := nI_clamp (by omega)
      have hc2 : (nI (m + 1)).toNatClampNeg = m + 1 := nI_clamp (by omega)
      have hb1 : inb (nI m) 31 = true := inb_n (by omega) (by decide)
      have hb2 : inb (nI (m + 1)) 31 = true := inb_n (by omega) (by decide)
      have p1 : s.2.2 26 (m + 1) = some (29 + 2 * q Es.length) := by
        rw [s4 (m + 1) (by omega), hm]
        unfold piK
        rw [if_neg (by omega), if_pos rfl]
      have p2 : s.2.2 26 m = some (29 + 2 * q m) := by
        rw [s4 m (by omega), hm]
        unfold piK
        rw [if_pos (by omega)]
      have o1 : WO G s (29 + 2 * q Es.length) x.1 := WO_c hx (by rw [s2]) (by rw [s2]) (fun j => by rw [s2])
      have o2 : WO G s (29 + 2 * q m) Es[m].1 := WO_c (hEs m _ gm1).1 (by rw [s2]) (by rw [s2]) (fun j => by rw [s2])
      have y1 := wy_q _ (hq Es.length (by omega)).1
      have y2 := wy_q _ (hq m (by omega)).1
      rw [hm, if_neg (show ¬ nI (m + 1) ≤ 0 from nI_ge (a := 0) (b := m + 1) (by omega) (by omega)), nI_pred, gd_t hb2, hc1, hc2, p1, p2, Option.bind_some, gd_t y1, gd_t hb1, Option.bind_some, gd_t y2, before_e hW o1 o2 hxl (hEs m _ gm1).2, Option.bind_some]
      by_cases hw : wlt G x.1 Es[m].1
      · right
        rw [decide_eq_true hw, if_neg bT, gd_t hb2, Option.bind_some, gd_t y1, gd_t hb1, Option.bind_some, gd_t y2, gd_t hb2, nm_e2, gd_t hb1, nm_e2, show nI (m + 1) + -1 = nI m by rw [← Int32.sub_eq_add_neg, nI_pred]]
        refine ⟨by omega, _, rfl, by rw [show Es.length - (i + 1) = m by omega], s2, s3, fun j hj => ?_, fun r E hr hle => ?_⟩
        · show (sQ (sQ s 26 (m + 1) _) 26 m _).2.2 26 j = _
          rw [sQ_3, if_pos rfl, show Es.length - (i + 1) = m by omega]
          unfold piK
          by_cases z : j = m
          · rw [if_pos z, if_neg (by omega), if_pos z]
          · rw [if_neg z, sQ_3, if_pos rfl]
            by_cases y : j = m + 1
            · rw [if_pos y, if_neg (by omega), if_neg z, if_pos (by omega), show j - 1 = m by omega]
            · rw [if_neg y, s4 j hj, hm]
              unfold piK
              by_cases v : j < m
              · rw [if_pos (by omega), if_pos v]
              · rw [if_neg (by omega), if_neg y, if_neg v, if_neg z]
        · by_cases z : r = m
          · subst z
            rw [gm1] at hr
            rw [← Option.some.inj hr]; exact hw
          · exact s5 r E hr (by omega)
      · left
        rw [decide_eq_false hw, if_pos bF]
        rw [hm] at s4
        refine ⟨_, rfl, m + 1, by omega, s2, s3, s4, fun r E hr hle => s5 r E hr (by omega), fun E hr _ => ?_⟩
        rw [Nat.add_sub_cancel, gm1] at hr
        rw [← Option.some.inj hr]; exact hw) fuS 0 (nI Es.length, σ) ⟨by rw [Nat.sub_zero], rfl, rfl, fun j hj => by
          rw [(hq j hj).2, Nat.sub_zero]
          unfold piK
          by_cases z : j < Es.length
          · rw [if_pos z]
          · rw [if_neg z]
            by_cases y : j = Es.length
            · rw [if_pos y, y]
            · rw [if_neg y, if_neg (by omega)], fun r E hr hle => by
          have := (List.getElem?_eq_some_iff.mp hr).1
          omega⟩ (Nat.zero_le _) (by rw [fuS_e]; omega)
  rw [u1, Option.bind_some, u2, h4, h5, nI_1, nm_e2]
  have hdrop : ∀ p ∈ Es.drop k, wlt G x.1 p.1 := by
    intro p hp
    obtain ⟨i, hi, e⟩ := List.getElem_of_mem hp
    rw [List.getElem_drop] at e
    have hi2 : k + i < Es.length := by rw [List.length_drop] at hi; omega
    exact u5 (k + i) p (by rw [List.getElem?_eq_getElem hi2, e]) (by omega)
  have htake : ∀ p ∈ Es.take k, wlt G p.1 x.1 := by
    intro p hp
    obtain ⟨i, hi, e⟩ := List.getElem_of_mem hp
    rw [List.getElem_take] at e
    have hi2 : i < k ∧ i < Es.length := by rw [List.length_take] at hi; omega
    have hk1 : k - 1 < Es.length := by omega
    have hno := u6 Es[k - 1] (List.getElem?_eq_getElem hk1) (by omega)
    have hlast : wlt G Es[k - 1].1 x.1 := by
      rcases wlt_tot (G := G) x.1 Es[k - 1].1 with z | z | z
      · exact absurd z hno
      · exact absurd z (hne _ (List.getElem_mem hk1))
      · exact z
    by_cases z : i = k - 1
    · subst z; rw [← e]; exact hlast
    · have := List.pairwise_iff_getElem.mp hs i (k - 1) hi2.2 hk1 (by omega)
      rw [e] at this
      exact wlt_tr this hlast
  refine ⟨_, k, rfl, hk, htake, hdrop, fun a j z => ?_, ?_, ?_, fun i hi => ?_⟩
  · rw [sI_1]
    by_cases y : a = 25
    · rw [if_pos y, if_neg (by omega), u2]
    · rw [if_neg y, u2]
  · rw [sI_1, if_pos rfl, if_pos rfl]
    by_cases z : Es.length + 1 < n
    · rw [if_pos ((nI_ltI (by omega) (by omega)).mpr z), show min n (Es.length + 1) = Es.length + 1 by omega]
    · rw [if_neg (fun v => by have := (nI_ltI (by omega) (by omega)).mp v; omega), show min n (Es.length + 1) = n by omega]
  · rw [sI_2]; exact u3
  · rw [sI_2]; exact u4 i hi
