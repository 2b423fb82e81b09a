-- ===== PURE: the graph that both memories hold =====
/-- nodes, arcs, from, to, weight, above, below, alive, source, rest -/
abbrev GT : Type := Nat × Nat × (Nat → Nat) × (Nat → Nat) × (Nat → Nat) × (Nat → Nat) × (Nat → Nat) × (Nat → Bool) × (Nat → Bool) × (Nat → Nat)
def gN (G : GT) : Nat := G.1
def gm (G : GT) : Nat := G.2.1
def gf (G : GT) : Nat → Nat := G.2.2.1
def gt (G : GT) : Nat → Nat := G.2.2.2.1
def gw (G : GT) : Nat → Nat := G.2.2.2.2.1
def ga (G : GT) : Nat → Nat := G.2.2.2.2.2.1
def gb (G : GT) : Nat → Nat := G.2.2.2.2.2.2.1
def gl (G : GT) : Nat → Bool := G.2.2.2.2.2.2.2.1
def gs (G : GT) : Nat → Bool := G.2.2.2.2.2.2.2.2.1
def gr (G : GT) : Nat → Nat := G.2.2.2.2.2.2.2.2.2
/-- a graph within its bounds -/
def WG (G : GT) : Prop := gN G ≤ 10 ∧ gm G ≤ 40 ∧ (∀ e, e < gm G → gf G e < gN G ∧ gt G e < gN G ∧ gf G e ≠ gt G e ∧ gw G e ≤ 1000000 ∧ ga G e ≤ gb G e ∧ 1 ≤ gb G e ∧ gb G e ≤ 9) ∧ ∀ v, v < gN G → gr G v ≤ 1000000
/-- the one side's memory holds it -/
def RX (G : GT) (σ : mS) : Prop := σ.1 1 6 = nI (gN G) ∧ σ.1 1 7 = nI (gm G) ∧ (∀ e, e < gm G → σ.1 2 e = nI (gf G e) ∧ σ.1 3 e = nI (gt G e) ∧ σ.1 4 e = nI (gw G e) ∧ σ.1 5 e = nI (ga G e) ∧ σ.1 6 e = nI (gb G e)) ∧ (∀ v, v < gN G → σ.1 7 v = nI (gr G v)) ∧ (∀ e, b64 (σ.2.1 1 8) e = (decide (e < gm G) && gl G e)) ∧ ∀ v, b32 (σ.1 1 9) v = (decide (v < gN G) && gs G v)
def bI (x : Bool) : Int32 := if x = true then 1 else 0
/-- the other side's -/
def RY (G : GT) (τ : mS) : Prop := τ.1 0 1 = nI (gN G) ∧ τ.1 0 2 = nI (gm G) ∧ (∀ e, e < gm G → τ.1 1 e = nI (gf G e) ∧ τ.1 2 e = nI (gt G e) ∧ τ.1 3 e = nI (gw G e) ∧ τ.1 4 e = nI (ga G e) ∧ τ.1 5 e = nI (gb G e) ∧ τ.1 6 e = bI (gl G e)) ∧ ∀ v, v < gN G → τ.1 7 v = bI (gs G v) ∧ τ.1 8 v = nI (gr G v)
/-- what the one side's other objects always hold -/
def IX (σ : mS) : Prop := (∃ d, 1 ≤ d ∧ d ≤ 3 ∧ σ.1 0 0 = nI d ∧ σ.1 12 0 = nI d ∧ σ.1 20 0 = nI d) ∧ σ.1 8 1 = 0 ∧ σ.1 16 1 = 1 ∧ (∃ q : Nat → Nat, (∀ i, i < 31 → q i < 31 ∧ σ.2.2 26 i = some (29 + 2 * q i)) ∧ ∀ i j, i < 31 → j < 31 → q i = q j → i = j) ∧ σ.1 27 1 = 0 ∧ σ.1 27 2 = 0 ∧ σ.1 27 3 = 0 ∧ σ.2.1 27 4 = 0
-- the row of the simple ways, as a list
/-- the simple ways on from u to b, in the order of their arcs; f: how many arcs at most; vs: nodes that were come to -/
def wysF (G : GT) (b : Nat) : Nat → List Nat → Nat → List (List Nat)
  | 0, _, u => if u = b then [[]] else []
  | f + 1, vs, u => if u = b then [[]] else (List.range (gm G)).flatMap fun e => if gl G e = true ∧ gf G e = u ∧ gt G e ∉ vs then (wysF G b f (gt G e :: vs) (gt G e)).map (e :: ·) else []
def wys (G : GT) (a b : Nat) : List (List Nat) := wysF G b 10 [a] a
def wyL (G : GT) (p : List Nat) : Nat := (p.map (gw G)).sum
/-- p stands ahead of q: by length, then by arcs -/
def wyB (G : GT) (p q : List Nat) : Bool := decide (wyL G p < wyL G q ∨ wyL G p = wyL G q ∧ (p.length < q.length ∨ p.length = q.length ∧ p < q))
def insW (G : GT) (p : List Nat) : List (List Nat) → List (List Nat)
  | [] => [p]
  | q :: l => if wyB G p q = true then p :: q :: l else q :: insW G p l
def rowW (G : GT) (a b : Nat) : List (List Nat) := ((wys G a b).foldl (fun l p => (insW G p l).take 30) [])
def RowIs (R : List (List Nat)) (L : List Nat → Nat) (τ : mS) : Prop := τ.1 0 23 = nI R.length ∧ R.length ≤ 30 ∧ ∀ r p, R[r]? = some p → p.length ≤ 10 ∧ L p ≤ 10000000 ∧ τ.1 17 r = nI (L p) ∧ τ.1 18 r = nI p.length ∧ ∀ i e, p[i]? = some e → e < 40 ∧ τ.1 19 (10 * r + i) = nI e
def rowOK (G : GT) (τ : mS) : Prop := τ.1 0 21 = -1 ∨ ∃ a b, a < gN G ∧ b < gN G ∧ τ.1 0 21 = nI a ∧ τ.1 0 22 = nI b ∧ RowIs (rowW G a b) (wyL G) τ
def Rel (G : GT) (σ τ : mS) : Prop := WG G ∧ RX G σ ∧ RY G τ ∧ IX σ ∧ τ.1 0 0 = σ.1 0 0 ∧ rowOK G τ
-- words that open the decompiled functions
theorem gd_t {α : Type} {b : Bool} {x : Option α} (h : b = true) : gd b x = x := by subst h; rfl
theorem nm_e2 {α β : Type} (v : α) (f : α → Option β) : nm v f = f v := rfl
theorem inb_n {k n : Nat} (h : k < n) (hn : n < 2 ^ 31) : inb (nI k) n = true := by
  unfold inb
  rw [nI_toInt (by omega)]
  exact decide_eq_true (by omega)
theorem inb_e {x : Int32} {n : Nat} (h : inb x n = true) (hn : n < 2 ^ 31) : ∃ j, j < n ∧ x = nI j := vp_in_of (inb_in h) hn
theorem inb_w {x : Int32} {n m : Nat} (h : inb x n = true) (hm : n ≤ m) : inb x m = true := by
  unfold inb at h ⊢
  have := of_decide_eq_true h
  exact decide_eq_true (by omega)
theorem sI_1 (σ : mS) (k j a b : Nat) (v : Int32) : (sI σ k j v).1 a b = if a = k then (if b = j then v else σ.1 a b) else σ.1 a b := rfl
theorem sI_2 (σ : mS) (k j : Nat) (v : Int32) : (sI σ k j v).2 = σ.2 := rfl
theorem sJ_1 (σ : mS) (k j : Nat) (v : Int64) : (sJ σ k j v).1 = σ.1 := rfl
theorem sJ_2 (σ : mS) (k j a b : Nat) (v : Int64) : (sJ σ k j v).2.1 a b = if a = k then (if b = j then v else σ.2.1 a b) else σ.2.1 a b := rfl
theorem sJ_3 (σ : mS) (k j : Nat) (v : Int64) : (sJ σ k j v).2.2 = σ.2.2 := rfl
theorem node_in {x : Int32} {n : Nat} (hn : n < 2 ^ 31) : (if x < 0 then some (0 : Int32) else if nI n ≤ x then some 0 else some 1) = some (bI (inb x n)) := by
  have h0 : (x < 0) ↔ x.toInt < 0 := Int32.lt_iff_toInt_lt
  have h1 : (nI n ≤ x) ↔ (n : Int) ≤ x.toInt := by rw [Int32.le_iff_toInt_le, nI_toInt hn]
  unfold inb bI
  by_cases a : x < 0
  · have := h0.mp a
    rw [if_pos a, if_neg (by simp; omega)]
  · rw [if_neg a]
    have a' : ¬ x.toInt < 0 := fun q => a (h0.mpr q)
    by_cases b : nI n ≤ x
    · have := h1.mp b
      rw [if_pos b, if_neg (by simp; omega)]
    · have b' : ¬ (n : Int) ≤ x.toInt := fun q => b (h1.mpr q)
      rw [if_neg b, if_pos (by simp; omega)]
theorem bI_0 {x : Bool} : bI x = 0 ↔ x = false := by cases x <;> decide
theorem bI_b {x : Bool} : isB (bI x) = true := by cases x <;> decide
section RelA
variable {G : GT} {σ τ : mS}
theorem x_hasNode (hW : WG G) (h : RX G σ) (x : Int32) : f_Gr_hasNode σ x = some (bI (inb x (gN G))) := by
  unfold f_Gr_hasNode
  rw [h.1]
  have := hW.1
  exact node_in (by omega)
theorem y_isNode (hW : WG G) (h : RY G τ) (x : Int32) : f_Mo_isNode τ x = some (bI (inb x (gN G))) := by
  unfold f_Mo_isNode
  rw [h.1]
  have := hW.1
  exact node_in (by omega)
/-- is x the number of an arc that there is -/
def aIn (G : GT) (x : Int32) : Bool := inb x (gm G) && gl G x.toNatClampNeg
theorem x_hasArc (hW : WG G) (h : RX G σ) (x : Int32) : f_Gr_hasArc σ x = some (bI (aIn G x)) := by
  have hm := hW.2.1
  have e := node_in (x := x) (n := gm G) (by omega)
  unfold f_Gr_hasArc aIn
  rw [h.2.1]
  by_cases a : x < 0
  · rw [if_pos a] at e ⊢
    have e2 := bI_0.mp (Option.some.inj e).symm
    rw [e2]; rfl
  · rw [if_neg a] at e ⊢
    by_cases b : nI (gm G) ≤ x
    · rw [if_pos b] at e ⊢
      have e2 := bI_0.mp (Option.some.inj e).symm
      rw [e2]; rfl
    · rw [if_neg b] at e ⊢
      have e2 : inb x (gm G) = true := by
        cases q : inb x (gm G) with
        | true => rfl
        | false => rw [q] at e; exact absurd (Option.some.inj e) (by decide)
      obtain ⟨j, hj, rfl⟩ := inb_e e2 (by omega)
      have hb := h.2.2.2.2.1 j
      simp only [hj, decide_true, Bool.true_and] at hb
      rw [e2, Bool.true_and, nI_clamp (by omega)]
      have ht := b64_t (σ.2.1 1 8) (k := j) (by omega)
      cases hg : gl G j with
      | true =>
        rw [hg] at hb
        rw [if_neg (fun q => by rw [cmp0, ht, hb] at q; cases q)]
        rfl
      | false =>
        rw [hg] at hb
        rw [if_pos ((cmp0 _).mpr (ht.mpr hb))]
        rfl
theorem y_isArc (hW : WG G) (h : RY G τ) (x : Int32) : f_Mo_isArc τ x = some (bI (aIn G x)) := by
  have hm := hW.2.1
  have e := node_in (x := x) (n := gm G) (by omega)
  unfold f_Mo_isArc aIn
  rw [h.2.1]
  by_cases a : x < 0
  · rw [if_pos a] at e ⊢
    have e2 := bI_0.mp (Option.some.inj e).symm
    rw [e2]; rfl
  · rw [if_neg a] at e ⊢
    by_cases b : nI (gm G) ≤ x
    · rw [if_pos b] at e ⊢
      have e2 := bI_0.mp (Option.some.inj e).symm
      rw [e2]; rfl
    · rw [if_neg b] at e ⊢
      have e2 : inb x (gm G) = true := by
        cases q : inb x (gm G) with
        | true => rfl
        | false => rw [q] at e; exact absurd (Option.some.inj e) (by decide)
      obtain ⟨j, hj, rfl⟩ := inb_e e2 (by omega)
      have hb := (h.2.2.1 j hj).2.2.2.2.2
      rw [gd_t (inb_n (by omega) (by omega)), e2, Bool.true_and, nI_clamp (by omega), hb]
      cases hg : gl G j <;> rfl
end RelA
