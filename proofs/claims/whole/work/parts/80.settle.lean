-- ===== PURE: settling one =====
def gS (G : GT) (ag : Bool) (e : Nat) : Nat := if ag = true then gt G e else gf G e
def gE (G : GT) (ag : Bool) (e : Nat) : Nat := if ag = true then gf G e else gt G e
/-- the offers of a node that is settled, arc by arc -/
def relA (G : GT) (ag : Bool) (O : Nat → Bool) (pa : Nat) (C : Nat → Bool) (n : Nat) : Nat → (Nat → Bool) × (Nat → Nat) → (Nat → Bool) × (Nat → Nat)
  | 0, q => q
  | i + 1, q => let p := relA G ag O pa C n i q
    if gS G ag i = n ∧ O i = true ∧ noO p.1 C p.2 (gE G ag i) (p.2 n + (gw G i * 16 + pa)) = false then (va_up p.1 (gE G ag i) true, va_up p.2 (gE G ag i) (p.2 n + (gw G i * 16 + pa))) else p
theorem relA_n {G : GT} {ag : Bool} {O : Nat → Bool} {pa : Nat} {C : Nat → Bool} {n : Nat} (hC : C n = true) (q : (Nat → Bool) × (Nat → Nat)) : ∀ i, (relA G ag O pa C n i q).2 n = q.2 n := by
  intro i
  induction i with
  | zero => rfl
  | succ i ih =>
    rw [relA]
    try dsimp only
    split
    · next h =>
      have hne : n ≠ gE G ag i := fun e => by
        have := h.2.2
        rw [noO, ← e, hC] at this
        cases this
      dsimp only
      rw [va_up_ne _ _ hne]; exact ih
    · exact ih
theorem relA_C {G : GT} {ag : Bool} {O : Nat → Bool} {pa : Nat} {C : Nat → Bool} {n : Nat} (q : (Nat → Bool) × (Nat → Nat)) {v : Nat} (hC : C v = true) : ∀ i, (relA G ag O pa C n i q).2 v = q.2 v ∧ (relA G ag O pa C n i q).1 v = q.1 v := by
  intro i
  induction i with
  | zero => exact ⟨rfl, rfl⟩
  | succ i ih =>
    rw [relA]
    try dsimp only
    split
    · next h =>
      have hne : v ≠ gE G ag i := fun e => by
        have := h.2.2
        rw [noO, ← e, hC] at this
        cases this
      dsimp only
      rw [va_up_ne _ _ hne, va_up_ne _ _ hne]; exact ih
    · exact ih
theorem relA_b {G : GT} {ag : Bool} {O : Nat → Bool} {pa : Nat} {C : Nat → Bool} {n B : Nat} (hW : WG G) (hC : C n = true) (hpa : pa ≤ 1) {q : (Nat → Bool) × (Nat → Nat)} (hn : q.2 n ≤ B) (h : ∀ v, q.1 v = true → q.2 v ≤ B + 16000001) : ∀ i, i ≤ gm G → ∀ v, (relA G ag O pa C n i q).1 v = true → (relA G ag O pa C n i q).2 v ≤ B + 16000001 := by
  intro i
  induction i with
  | zero => intro _; exact h
  | succ i ih =>
    intro hi v
    rw [relA]
    try dsimp only
    split
    · dsimp only
      rw [relA_n hC]
      by_cases e : v = gE G ag i
      · rw [e, va_up_self, va_up_self]
        intro _
        have := (hW.2.2.1 i (by omega)).2.2.2.1
        omega
      · rw [va_up_ne _ _ e, va_up_ne _ _ e]; exact ih (by omega) v
    · exact ih (by omega) v
section Arcs
variable {b d : Nat} {G : GT} {σ : mS} {ag : Bool}
theorem gS_lt (hW : WG G) {e : Nat} (he : e < gm G) : gS G ag e < gN G := by
  unfold gS
  cases ag
  · exact (hW.2.2.1 e he).1
  · exact (hW.2.2.1 e he).2.1
theorem gE_lt (hW : WG G) {e : Nat} (he : e < gm G) : gE G ag e < gN G := by
  unfold gE
  cases ag
  · exact (hW.2.2.1 e he).2.1
  · exact (hW.2.2.1 e he).1
theorem start_e (hW : WG G) (hX : RX G σ) (ha : σ.1 b 1 = bI ag) {e : Nat} (he : e < gm G) : f_Se_startOf b σ (nI e) = some (nI (gS G ag e)) := by
  have hm := hW.2.1
  unfold f_Se_startOf gS
  rw [ha, gd_t (inb_n (by omega) (by decide)), nI_clamp (by omega), gd_t (inb_n (by omega) (by decide)), (hX.2.2.1 e he).1, (hX.2.2.1 e he).2.1]
  cases ag <;> rfl
theorem end_e (hW : WG G) (hX : RX G σ) (ha : σ.1 b 1 = bI ag) {e : Nat} (he : e < gm G) : f_Se_endOf b σ (nI e) = some (nI (gE G ag e)) := by
  have hm := hW.2.1
  unfold f_Se_endOf gE
  rw [ha, gd_t (inb_n (by omega) (by decide)), nI_clamp (by omega), gd_t (inb_n (by omega) (by decide)), (hX.2.2.1 e he).1, (hX.2.2.1 e he).2.1]
  cases ag <;> rfl
theorem open_e {O : Nat → Bool} (hO : ∀ e, e < 40 → b64 (σ.2.1 b 9) e = O e) {e : Nat} (he : e < 40) : f_Se_isOpen b σ (nI e) = some (bI (O e)) := by
  unfold f_Se_isOpen
  have ht := b64_t (σ.2.1 b 9) (k := e) (by omega)
  rw [hO e he] at ht
  cases hg : O e with
  | true => rw [if_neg (fun q => by rw [cmp0, ht, hg] at q; cases q)]; rfl
  | false => rw [if_pos ((cmp0 _).mpr (ht.mpr hg))]; rfl
theorem cost_e {pa : Nat} (hW : WG G) (hX : RX G σ) (hp : σ.1 b 10 = nI pa) {e : Nat} (he : e < gm G) : f_Se_costOf b σ (nI e) = some (nI (gw G e * 16 + pa)) := by
  have hm := hW.2.1
  unfold f_Se_costOf
  rw [gd_t (inb_n (by omega) (by decide)), nI_clamp (by omega), (hX.2.2.1 e he).2.2.1, hp, show (16 : Int32) = nI 16 from rfl, pk_mul, nI_add]
theorem knows_e {K : Nat → Bool} (hk : ∀ v, b32 (σ.1 b 7) v = K v) {v : Nat} (hv : v < 10) : f_Se_knows b σ (nI v) = some (bI (K v)) := by
  unfold f_Se_knows
  have ht := b32_t (σ.1 b 7) (k := v) (by omega)
  rw [hk v] at ht
  cases hg : K v with
  | true => rw [if_neg (fun q => by rw [ht, hg] at q; cases q)]; rfl
  | false => rw [if_pos (ht.mpr hg)]; rfl
end Arcs
/-- the loop over the arcs of the node that is settled -/
theorem settle_loop {b d : Nat} {G : GT} {σ : mS} {K C : Nat → Bool} {c : Nat → Nat} {br ag : Bool} {O : Nat → Bool} {pa n B : Nat} (hW : WG G) (hX : RX G σ) (hb : sB b) (h : SI b G σ d K C c br) (ha : σ.1 b 1 = bI ag) (hO : ∀ e, e < 40 → b64 (σ.2.1 b 9) e = O e) (hp : σ.1 b 10 = nI pa) (hpa : pa ≤ 1) (hn : K n = true) (hC : C n = true) (hB : B ≤ 160000000) (hcn : c n ≤ B) (hcB : ∀ v, K v = true → c v ≤ B + 16000001) (o : mS) :
    ∃ u, lpN (f_Se_settleFirst_L58 b (nI n, o)) fuS (0, σ) = some u ∧ frO b σ u.2 ∧ SI b G u.2 d (relA G ag O pa C n (gm G) (K, c)).1 C (relA G ag O pa C n (gm G) (K, c)).2 br := by
  have hm := hW.2.1
  have hN := hW.1
  have hb8 : b = 8 ∨ b = 16 := hb
  obtain ⟨hnN, -, -⟩ := h.2.2.2.1 n hn
  refine lpN_i (st := f_Se_settleFirst_L58 b (nI n, o)) (fun i t => t.1 = nI i ∧ frO b σ t.2 ∧ SI b G t.2 d (relA G ag O pa C n i (K, c)).1 C (relA G ag O pa C n i (K, c)).2 br) (fun u => frO b σ u.2 ∧ SI b G u.2 d (relA G ag O pa C n (gm G) (K, c)).1 C (relA G ag O pa C n (gm G) (K, c)).2 br) (gm G) (fun i t hi ht => ?_) fuS 0 (0, σ) ⟨rfl, frO_r b σ, h⟩ (Nat.zero_le _) (by rw [fuS_e]; omega)
  obtain ⟨t1, t2⟩ := t
  obtain ⟨e1, hf, hS⟩ := ht
  dsimp only at e1 hf hS
  subst e1
  have hX2 : RX G t2 := frO_X hb hf hX
  have ha2 : t2.1 b 1 = bI ag := by rw [hf.1 b 1 (by omega) (by omega) (by omega) (Or.inr (by omega)) (Or.inl (by omega))]; exact ha
  have hp2 : t2.1 b 10 = nI pa := by rw [hf.1 b 10 (by omega) (by omega) (by omega) (Or.inr (by omega)) (Or.inl (by omega))]; exact hp
  have hO2 : ∀ e, e < 40 → b64 (t2.2.1 b 9) e = O e := fun e he => by rw [hf.2.1 b 9 (by omega)]; exact hO e he
  unfold f_Se_settleFirst_L58
  dsimp only
  rw [hX2.2.1]
  by_cases hc : i = gm G
  · subst hc
    left
    rw [if_pos (nI_le (Nat.le_refl _) (by omega))]
    exact ⟨_, rfl, hf, hS⟩
  · right
    have hi2 : i < gm G := by omega
    refine ⟨hi2, ?_⟩
    rw [if_neg (nI_ge hi2 (by omega)), start_e hW hX2 ha2 hi2, Option.bind_some]
    have hs := gS_lt (ag := ag) hW hi2
    have hee := gE_lt (ag := ag) hW hi2
    have heq := nI_eq (a := gS G ag i) (b := n) (by omega) (by omega)
    by_cases hst : gS G ag i = n
    · rw [if_pos (heq.mpr hst), open_e hO2 (by omega), Option.bind_some]
      cases ho : O i with
      | false =>
        rw [if_pos bF]
        refine ⟨_, rfl, nI_1 i, hf, ?_⟩
        rw [relA]; dsimp only
        rw [if_neg (fun q => by rw [ho] at q; exact absurd q.2.1 (by decide))]
        exact hS
      | true =>
        have hcn2 : (relA G ag O pa C n i (K, c)).2 n = c n := relA_n hC (K, c) i
        have hKn2 : (relA G ag O pa C n i (K, c)).1 n = true := by rw [(relA_C (K, c) hC i).2]; exact hn
        have hnum := (hS.2.2.2.1 n hKn2).2.1
        rw [hcn2] at hnum
        have hwt := (hW.2.2.1 i hi2).2.2.2.1
        rw [if_neg bT, end_e hW hX2 ha2 hi2, Option.bind_some, gd_t (inb_n (by omega) (by decide)), cost_e hW hX2 hp2 hi2, Option.bind_some, nI_clamp (by omega), hnum, nI_add]
        obtain ⟨σ', p1, p2, p3⟩ := offer_e (v := gE G ag i) (x := c n + (gw G i * 16 + pa)) hW hX2 hb hS hee (by omega)
        rw [p1, Option.bind_some]
        refine ⟨_, rfl, nI_1 i, frO_t hf p2, ?_⟩
        rw [relA]; dsimp only
        rw [hcn2]
        cases hno : noO (relA G ag O pa C n i (K, c)).1 C (relA G ag O pa C n i (K, c)).2 (gE G ag i) (c n + (gw G i * 16 + pa)) with
        | true =>
          rw [hno, if_pos rfl] at p3
          rw [if_neg (fun q => absurd q.2.2 (by decide)), p3]
          exact hS
        | false =>
          rw [hno, if_neg (by decide)] at p3
          rw [if_pos ⟨hst, ho, rfl⟩]
          exact p3
    · rw [if_neg (fun q => hst (heq.mp q))]
      refine ⟨_, rfl, nI_1 i, hf, ?_⟩
      rw [relA]; dsimp only
      rw [if_neg (fun q => hst q.1)]
      exact hS
