-- ===== PURE: both, bothTo =====
theorem PS_c {b d k : Nat} {G : GT} {σ σ' : mS} {ag br : Bool} {K C : Nat → Bool} {c : Nat → Nat} (h : PS b G σ d ag k K C c br) (h1 : ∀ k j, b ≤ k → k < b + 8 → σ'.1 k j = σ.1 k j) (h2 : ∀ k j, b ≤ k → k < b + 8 → σ'.2.1 k j = σ.2.1 k j) : PS b G σ' d ag k K C c br := by
  obtain ⟨⟨a1, a2, a3, a4, a5⟩, b1, b2, b3, b4, b5⟩ := h
  refine ⟨⟨HP_f a1 (fun k j q => h1 k j (by omega) (by omega)) (fun j => h2 (b + 4 + 3) j (by omega) (by omega)), fun v => ?_, fun v hv => ?_, fun v hv => ?_, ?_⟩, ?_, fun e he => ?_, ?_, ?_, b5⟩
  · rw [h1 b 7 (by omega) (by omega)]; exact a2 v
  · rw [h1 b 8 (by omega) (by omega)]; exact a3 v hv
  · rw [h1 (b + 1) v (by omega) (by omega)]; exact a4 v hv
  · rw [h1 b 11 (by omega) (by omega)]; exact a5
  · rw [h1 b 1 (by omega) (by omega)]; exact b1
  · rw [h2 b 9 (by omega) (by omega)]; exact b2 e he
  · rw [h1 b 10 (by omega) (by omega)]; exact b3
  · rw [h1 b 6 (by omega) (by omega)]; exact b4
/-- the least sum, one more; 0 where there is none -/
def bst (K : Nat → Bool) (c : Nat → Nat) (K' : Nat → Bool) (c' : Nat → Nat) : Nat → Nat
  | 0 => 0
  | n + 1 => if K n = true ∧ K' n = true ∧ (bst K c K' c' n = 0 ∨ c n + c' n + 1 < bst K c K' c' n) then c n + c' n + 1 else bst K c K' c' n
theorem bst_t {K : Nat → Bool} {c : Nat → Nat} {K' : Nat → Bool} {c' : Nat → Nat} {n : Nat} (h : K n = true) (h' : K' n = true) (q : bst K c K' c' n = 0 ∨ c n + c' n + 1 < bst K c K' c' n) : bst K c K' c' (n + 1) = c n + c' n + 1 := by
  rw [bst, if_pos ⟨h, h', q⟩]
theorem bst_f {K : Nat → Bool} {c : Nat → Nat} {K' : Nat → Bool} {c' : Nat → Nat} {n : Nat} (q : ¬ (K n = true ∧ K' n = true ∧ (bst K c K' c' n = 0 ∨ c n + c' n + 1 < bst K c K' c' n))) : bst K c K' c' (n + 1) = bst K c K' c' n := by
  rw [bst, if_neg q]
def eB (y : Nat) : Int32 := if y = 0 then 2147483647 else nI (y - 1)
def eC (y : Nat) : Int32 := if y = 0 then 1000000000 else nI ((y - 1) / 16)
theorem bst_ok {G : GT} {k k' : Nat} {K C K' C' : Nat → Bool} {c c' : Nat → Nat} (h : PB G k K C c) (h' : PB G k' K' C' c') : ∀ n, bst K c K' c' n = 0 ∨ (bst K c K' c' n - 1) % 16 = 0 ∧ bst K c K' c' n ≤ 320000021 := by
  intro n
  induction n with
  | zero => left; rfl
  | succ n ih =>
    rw [bst]
    by_cases q : K n = true ∧ K' n = true ∧ (bst K c K' c' n = 0 ∨ c n + c' n + 1 < bst K c K' c' n)
    · rw [if_pos q]
      right
      obtain ⟨_, a1, a2, _⟩ := fY_k h q.1
      obtain ⟨_, b1, b2, _⟩ := fY_k h' q.2.1
      omega
    · rw [if_neg q]; exact ih
theorem bst_N {G : GT} {k : Nat} {K C K' : Nat → Bool} {c c' : Nat → Nat} (h : PB G k K C c) : ∀ j, bst K c K' c' (gN G + j) = bst K c K' c' (gN G) := by
  intro j
  induction j with
  | zero => rfl
  | succ j ih =>
    rw [← Nat.add_assoc, bst, if_neg (fun q => by have := (h.1 _ q.1).1; omega), ih]
def fr24 (σ σ' : mS) : Prop := (∀ k j, (k ≠ 24 ∨ j ≠ 2) → σ'.1 k j = σ.1 k j) ∧ σ'.2 = σ.2
theorem x_best {G : GT} {σ : mS} {d d' k k' : Nat} {ag ag' br br' : Bool} {K C K' C' : Nat → Bool} {c c' : Nat → Nat} (hW : WG G) (h : PS 8 G σ d ag k K C c br) (h' : PS 16 G σ d' ag' k' K' C' c' br') : ∃ σ', f_BS_seekBest σ = some σ' ∧ fr24 σ σ' ∧ σ'.1 24 2 = eB (bst K c K' c' (gN G)) := by
  have hN := hW.1
  unfold f_BS_seekBest
  rw [nm_e2]
  obtain ⟨u, u1, u2, u3⟩ := lpN_i (st := f_BS_seekBest_L8) (fun i t => t.1 = nI i ∧ fr24 σ t.2 ∧ t.2.1 24 2 = eB (bst K c K' c' i)) (fun u => fr24 σ u.2 ∧ u.2.1 24 2 = eB (bst K c K' c' 10)) 10 (fun i t hi ht => by
    obtain ⟨ti, t⟩ := t
    obtain ⟨t1, t2, t3⟩ := ht
    have t1 : ti = nI i := t1
    subst t1
    have t2 : fr24 σ t := t2
    have t3 : t.1 24 2 = eB (bst K c K' c' i) := t3
    unfold f_BS_seekBest_L8
    dsimp only
    by_cases hc : i = 10
    · subst hc
      left
      rw [if_pos (by decide)]
      exact ⟨_, rfl, t2, t3⟩
    · right
      have hi2 : i < 10 := by omega
      refine ⟨hi2, ?_⟩
      have hci : (nI i).toNatClampNeg = i := nI_clamp (by omega)
      have hb : inb (nI i) 10 = true := inb_n hi2 (by decide)
      have P8 : PS 8 G t d ag k K C c br := PS_c h (fun k j q1 q2 => t2.1 k j (Or.inl (by omega))) (fun k j q1 q2 => by rw [t2.2])
      have P16 : PS 16 G t d' ag' k' K' C' c' br' := PS_c h' (fun k j q1 q2 => t2.1 k j (Or.inl (by omega))) (fun k j q1 q2 => by rw [t2.2])
      rw [if_neg (show ¬ (10 : Int32) ≤ nI i from nI_ge (a := i) (b := 10) hi2 (by decide)), knows_e P8.1.2.1 hi2, knows_e P16.1.2.1 hi2, Option.bind_some, Option.bind_some]
      have hskip : ¬ (K i = true ∧ K' i = true) → ∃ s', some (Sum.inl (nI i + 1, t) : (Int32 × mS) ⊕ (Int32 × mS)) = some (.inl s') ∧ s'.1 = nI (i + 1) ∧ fr24 σ s'.2 ∧ s'.2.1 24 2 = eB (bst K c K' c' (i + 1)) := by
        intro q
        refine ⟨_, rfl, nI_1 _, t2, ?_⟩
        rw [bst, if_neg (fun z => q ⟨z.1, z.2.1⟩)]; exact t3
      cases hK : K i with
      | false => rw [if_pos bF]; exact hskip (fun z => by rw [hK] at z; exact absurd z.1 (by decide))
      | true =>
        rw [if_neg bT]
        cases hK' : K' i with
        | false => rw [if_pos bF]; exact hskip (fun z => by rw [hK'] at z; exact absurd z.2 (by decide))
        | true =>
          rw [if_neg bT, gd_t hb, gd_t hb, nm_e2, hci]
          obtain ⟨_, a1, a2⟩ := P8.1.2.2.2.1 i hK
          obtain ⟨_, b1, b2⟩ := P16.1.2.2.2.1 i hK'
          have a1 : t.1 9 i = nI (c i) := a1
          have b1 : t.1 17 i = nI (c' i) := b1
          have hok := bst_ok P8.2.2.2.2.2 P16.2.2.2.2.2 i
          refine ⟨_, rfl, nI_1 _, ⟨fun k j q => ?_, ?_⟩, ?_⟩
          · rw [sI_1]
            by_cases z : k = 24
            · rw [if_pos z, if_neg (by omega)]; exact t2.1 k j q
            · rw [if_neg z]; exact t2.1 k j q
          · rw [sI_2]; exact t2.2
          · show (sI t 24 2 _).1 24 2 = _
            rw [sI_1, if_pos rfl, if_pos rfl, a1, b1, t3, nI_add]
            by_cases z : bst K c K' c' i = 0
            · have e0 : eB (bst K c K' c' i) = 2147483647 := by unfold eB; rw [if_pos z]
              rw [e0, bst_t hK hK' (Or.inl z), if_pos (show nI (c i + c' i) < 2147483647 from (nI_ltI (b := 2147483647) (by omega) (by decide)).mpr (by omega))]
              unfold eB
              rw [if_neg (by omega)]; rfl
            · have e1 : eB (bst K c K' c' i) = nI (bst K c K' c' i - 1) := by unfold eB; rw [if_neg z]
              by_cases y : c i + c' i + 1 < bst K c K' c' i
              · rw [e1, if_pos ((nI_ltI (by omega) (by omega)).mpr (by omega)), bst_t hK hK' (Or.inr y)]
                unfold eB
                rw [if_neg (by omega)]; rfl
              · have hno : ¬ nI (c i + c' i) < nI (bst K c K' c' i - 1) := fun w => by have := (nI_ltI (by omega) (by omega)).mp w; omega
                rw [bst_f (fun w => by rcases w.2.2 with w | w <;> omega), e1, if_neg hno]) fuS 0 (0, sI σ 24 2 2147483647) ⟨rfl, ⟨fun k j q => by
                rw [sI_1]
                by_cases z : k = 24
                · rw [if_pos z, if_neg (by omega)]
                · rw [if_neg z], rfl⟩, by show (sI _ _ _ _).1 24 2 = _; rw [sI_1, if_pos rfl, if_pos rfl]; rfl⟩ (Nat.zero_le _) (by rw [fuS_e]; omega)
  rw [u1, Option.bind_some]
  refine ⟨_, rfl, u2, ?_⟩
  rw [u3, show (10 : Nat) = gN G + (10 - gN G) by omega, bst_N h.2.2.2.2.2]
theorem y_best {G : GT} {τ : mS} {k k' : Nat} {K C K' C' : Nat → Bool} {c c' : Nat → Nat} (hW : WG G) (hY : RY G τ) (hB : PB G k K C c) (hB' : PB G k' K' C' c') (h : YS 0 G τ K C c) (h' : YS 1 G τ K' C' c') : f_Mo_best τ = some (eC (bst K c K' c' (gN G))) := by
  have hN := hW.1
  unfold f_Mo_best
  obtain ⟨u, u1, u2⟩ := lpN_i (st := f_Mo_best_L5 τ) (fun i t => t = (eC (bst K c K' c' i), nI i)) (fun u => u.1 = eC (bst K c K' c' (gN G))) (gN G) (fun i t hi ht => by
    subst ht
    unfold f_Mo_best_L5
    dsimp only
    rw [hY.1]
    by_cases hc : i = gN G
    · subst hc
      left
      rw [if_pos (nI_le (Nat.le_refl _) (by omega))]
      exact ⟨_, rfl, rfl⟩
    · right
      have hi2 : i < gN G := by omega
      refine ⟨hi2, ?_⟩
      have hci : (nI i).toNatClampNeg = i := nI_clamp (by omega)
      have hci2 : (nI (10 + i)).toNatClampNeg = 10 + i := nI_clamp (by omega)
      have hb : inb (nI i) 20 = true := inb_n (by omega) (by decide)
      have hb2 : inb (nI (10 + i)) 20 = true := inb_n (by omega) (by decide)
      have e1 : τ.1 12 i = nI (fY K c i) := by have := (h i hi2).1; rwa [show 10 * 0 + i = i by omega] at this
      have e2 : τ.1 12 (10 + i) = nI (fY K' c' i) := (h' i hi2).1
      rw [if_neg (nI_ge hi2 (by omega)), show (10 : Int32) + nI i = nI (10 + i) from nI_add 10 i, hci, hci2, gd_t hb, gd_t hb2, gd_t hb, gd_t hb2, gd_t hb, gd_t hb2, nm_e2, e1, e2, nI_1, show (1000000000 : Int32) = nI 1000000000 from rfl]
      have hf := fY_le hB i
      have hf' := fY_le hB' i
      have hok := bst_ok hB hB' i
      by_cases hK : K i = true
      · obtain ⟨f1, f2, f3, _⟩ := fY_k hB hK
        rw [f1, if_neg (nI_ge (by omega) (by omega))]
        by_cases hK' : K' i = true
        · obtain ⟨g1, g2, g3, _⟩ := fY_k hB' hK'
          rw [g1, if_neg (nI_ge (by omega) (by omega)), nI_add]
          by_cases z : bst K c K' c' i = 0
          · have e0 : eC (bst K c K' c' i) = nI 1000000000 := by unfold eC; rw [if_pos z]; rfl
            rw [e0, if_neg (nI_ge (by omega) (by omega)), bst_t hK hK' (Or.inl z)]
            refine ⟨_, rfl, ?_⟩
            unfold eC
            rw [if_neg (by omega), show (c i + c' i + 1 - 1) / 16 = c i / 16 + c' i / 16 by omega]
          · have e : eC (bst K c K' c' i) = nI ((bst K c K' c' i - 1) / 16) := by unfold eC; rw [if_neg z]
            by_cases y : c i + c' i + 1 < bst K c K' c' i
            · rw [e, if_neg (nI_ge (by omega) (by omega)), bst_t hK hK' (Or.inr y)]
              refine ⟨_, rfl, ?_⟩
              unfold eC
              rw [if_neg (by omega), show (c i + c' i + 1 - 1) / 16 = c i / 16 + c' i / 16 by omega]
            · rw [bst_f (fun w => by rcases w.2.2 with w | w <;> omega), e, if_pos (nI_le (by omega) (by omega))]
              exact ⟨_, rfl, rfl⟩
        · have g1 : fY K' c' i = 1000000000 := by unfold fY; rw [if_neg hK']
          rw [g1, if_pos (nI_le (Nat.le_refl _) (by omega)), bst_f (fun w => hK' w.2.1)]
          exact ⟨_, rfl, rfl⟩
      · have f1 : fY K c i = 1000000000 := by unfold fY; rw [if_neg hK]
        rw [f1, if_pos (nI_le (Nat.le_refl _) (by omega)), bst_f (fun w => hK w.1)]
        exact ⟨_, rfl, rfl⟩) fuB 0 (1000000000, 0) rfl (Nat.zero_le _) (by rw [fuB_e]; omega)
  rw [u1, Option.bind_some, u2]
theorem x_first {b d k : Nat} {G : GT} {σ : mS} {ag br : Bool} {K C : Nat → Bool} {c : Nat → Nat} {n : Nat} (hW : WG G) (h : PS b G σ d ag k K C c br) (hL : LO G br K C c (gN G) n) : f_Se_leastNumber b σ = some (nI (c n)) := by
  have hN := hW.1
  unfold f_Se_leastNumber
  rcases first_e h.1.1 with ⟨e1, e2⟩ | ⟨m, e1, e2, e3⟩
  · have := e2 n
    rw [show (K n && !C n) = wtg K C n from rfl, hL.2.1] at this
    cases this
  · obtain ⟨m1, m2⟩ := Bool.and_eq_true_iff.mp (show (K m && !C m) = true from e2)
    have m2 : C m = false := by simpa using m2
    have hm := (h.2.2.2.2.2.1 m m1).1
    have hmn : m = n := LO_one hW hL m1 m2 hm (fun x x1 x2 x3 => e3 x (by show (K x && !C x) = true; rw [x1, x2]; rfl) x3)
    subst hmn
    rw [e1, Option.bind_some, if_neg (nI_m1 (by omega)), gd_t (inb_n (by omega) (by decide)), nI_clamp (by omega), (h.1.2.2.2.1 m m1).2.1]
def bsQ (G : GT) (σ τ : mS) (r : Int32) : Prop := Rel G σ τ ∧ ∃ (k1 k2 B : Nat), r = nI (k1 + k2) ∧ σ.1 8 6 = nI k1 ∧ σ.1 16 6 = nI k2 ∧ σ.1 24 2 = eB B ∧ f_Mo_best τ = some (eC B) ∧ B ≤ 320000021
theorem both_e {G : GT} {σ τ : mS} {a g : Nat} (R : Rel G σ τ) (ha : a < gN G) (hg : g < gN G) : ∃ σ' τ' r, f_BS_meet σ (nI a) (nI g) = some σ' ∧ f_Mo_searchBoth τ (nI a) (nI g) = some (r, τ') ∧ bsQ G σ' τ' r := by
  obtain ⟨hW, hX, hY, hI, hh, hr⟩ := id R
  have hN := hW.1
  obtain ⟨⟨d, hd1, hd3, _, hd12, hd20⟩, h81, h161, _⟩ := id hI
  obtain ⟨σ1, σ2, p1, p2, p3, p4⟩ := plain_e (br := false) (ag := false) hW hX (Or.inl rfl) hd1 hd3 hd12 h81 ha
  have p1 : f_Se_beginPlain 8 σ 0 = some σ1 := p1
  have R2 : Rel G σ2 τ := Rel_B (Or.inl rfl) R p3
  have h161' : σ2.1 16 1 = bI true := by rw [p3.1 16 1 (by omega)]; exact h161
  have hd20' : σ2.1 20 0 = nI d := by rw [p3.1 20 0 (by omega)]; exact hd20
  obtain ⟨σ3, σ4, r1, r2, r3, r4⟩ := plain_e (br := false) (ag := true) hW R2.2.1 (Or.inr rfl) hd1 hd3 hd20' h161' hg
  have r1 : f_Se_beginPlain 16 σ2 0 = some σ3 := r1
  have R4 : Rel G σ4 τ := Rel_B (Or.inr rfl) R2 r3
  have p4' : PS 8 G σ4 d false 0 (va_up (fun _ => false) a true) (fun _ => false) (fun _ => 0) false := PS_c p4 (fun k j q1 q2 => r3.1 k j (by omega)) (fun k j q1 q2 => r3.2.2.2.1 k j (by omega))
  obtain ⟨σ5, s1, s2, s3⟩ := x_best hW p4' r4
  have R24 : ∀ {σ σ' τ : mS}, Rel G σ τ → fr24 σ σ' → Rel G σ' τ := fun R f => Rel_x R (fun k j q => f.1 k j (Or.inl (by omega))) (by rw [f.2]) (by rw [f.2]) (by rw [f.2])
  have P24 : ∀ {b k : Nat} {σ σ' : mS} {ag : Bool} {K C : Nat → Bool} {c : Nat → Nat}, b ≤ 16 → PS b G σ d ag k K C c false → fr24 σ σ' → PS b G σ' d ag k K C c false := fun hb P f => PS_c P (fun k j q1 q2 => f.1 k j (Or.inl (by omega))) (fun k j q1 q2 => by rw [f.2])
  have R5 := R24 R4 s2
  obtain ⟨τ1, q1, q2, q3⟩ := y_begin (τ := τ) (sd := 0) hW (by omega) ha
  have q1 : f_Mo_beginSearch τ 0 (nI a) = some τ1 := q1
  obtain ⟨τ2, z1, z2, z3⟩ := y_begin (τ := τ1) (sd := 1) hW (by omega) hg
  have z1 : f_Mo_beginSearch τ1 1 (nI g) = some τ2 := z1
  have RfY : ∀ {sd : Nat} {σ τ τ' : mS}, Rel G σ τ → frY sd τ τ' → Rel G σ τ' := fun R f => Rel_y R (fun k j q => f.1 k j (Or.inl (by omega)))
  have R6 : Rel G σ5 τ2 := RfY (RfY R5 q2) z2
  unfold f_BS_meet f_Mo_searchBoth
  rw [p1, Option.bind_some, p2, Option.bind_some, r1, Option.bind_some, r2, Option.bind_some, s1, Option.bind_some, q1, Option.bind_some, z1, Option.bind_some]
  obtain ⟨x, x', x1, x2, x3⟩ := lpN_3 (st := f_Mo_searchBoth_L17) (st' := f_BS_meet_L40) (fun i s s' => s.1 = nI i ∧ s.2.1 = 1 ∧ s'.1 = nI i ∧ Rel G s'.2 s.2.2 ∧ ∃ (k1 k2 : Nat) (K C : Nat → Bool) (c : Nat → Nat) (K' C' : Nat → Bool) (c' : Nat → Nat), i = k1 + k2 ∧ PS 8 G s'.2 d false k1 K C c false ∧ PS 16 G s'.2 d true k2 K' C' c' false ∧ YS 0 G s.2.2 K C c ∧ YS 1 G s.2.2 K' C' c' ∧ s'.2.1 24 2 = eB (bst K c K' c' (gN G))) (fun x x' => bsQ G x'.2 x.2.2 x.1) 20 (fun i s s' hi hs => by
    obtain ⟨sc, sf, s⟩ := s
    obtain ⟨stn, s'⟩ := s'
    obtain ⟨t1, t2, t3, t4, k1, k2, K, C, c, K', C', c', t5, t6, t7, t8, t9, t10⟩ := hs
    have t1 : sc = nI i := t1
    have t2 : sf = 1 := t2
    have t3 : stn = nI i := t3
    subst t1
    subst t2
    subst t3
    have t4 : Rel G s' s := t4
    have t6 : PS 8 G s' d false k1 K C c false := t6
    have t7 : PS 16 G s' d true k2 K' C' c' false := t7
    have t8 : YS 0 G s K C c := t8
    have t9 : YS 1 G s K' C' c' := t9
    have t10 : s'.1 24 2 = eB (bst K c K' c' (gN G)) := t10
    have hXs := t4.2.1
    have hYs := t4.2.2.1
    have hok := bst_ok t6.2.2.2.2.2 t7.2.2.2.2.2 (gN G)
    have hB := y_best hW hYs t6.2.2.2.2.2 t7.2.2.2.2.2 t8 t9
    have hQ : bsQ G s' s (nI i) := ⟨t4, k1, k2, _, by rw [t5], t6.2.2.2.2.1, t7.2.2.2.2.1, t10, hB, by omega⟩
    obtain ⟨ov, ov1, ov2⟩ := isOver_e t6.1
    obtain ⟨ow, ow1, ow2⟩ := isOver_e t7.1
    have hcl1 : (∀ v, v < gN G → wtg K C v = false) → ov = true := fun q => ov2.mpr (fun v hv => by
        have h1 := q v (t6.2.2.2.2.2.1 v hv).1
        unfold wtg at h1
        rw [hv] at h1
        simpa using h1)
    have hcl2 : (∀ v, v < gN G → wtg K' C' v = false) → ow = true := fun q => ow2.mpr (fun v hv => by
        have h1 := q v (t7.2.2.2.2.2.1 v hv).1
        unfold wtg at h1
        rw [hv] at h1
        simpa using h1)
    have hstop : f_BS_goesOn s' = some 0 → f_BS_meet_L40 (nI i, s') = some (.inr (nI i, s')) := by
      intro q
      unfold f_BS_meet_L40
      dsimp only
      by_cases z : (20 : Int32) ≤ nI i
      · rw [if_pos z]
      · rw [if_neg z, q, Option.bind_some, if_pos rfl]
    have hL1 := y_least (sd := 0) false hW hYs (by omega) t6.2.2.2.2.2 t8
    have hL2 := y_least (sd := 1) false hW hYs (by omega) t7.2.2.2.2.2 t9
    have ref : ∀ v3 v4, f_Mo_leastOf s 0 0 = some v3 → f_Mo_leastOf s 1 0 = some v4 → f_Mo_searchBoth_L17 (nI i, 1, s) = (if v3 < 0 then f_Mo_searchBoth_J78 (nI i, 1, s) v3 v4 0 else if v4 < 0 then f_Mo_searchBoth_J78 (nI i, 1, s) v3 v4 0 else gd (inb v3 20) (gd (inb (10 + v4) 20) ((f_Mo_best s).bind fun v11 => if v11 ≤ ((s.1 12 v3.toNatClampNeg) + (s.1 12 (10 + v4).toNatClampNeg)) then f_Mo_searchBoth_J78 (nI i, 1, s) v3 v4 0 else f_Mo_searchBoth_J78 (nI i, 1, s) v3 v4 1))) := by
      intro v3 v4 h3 h4
      unfold f_Mo_searchBoth_L17
      dsimp only
      rw [if_neg n10, h3, Option.bind_some, h4, Option.bind_some]
    have hend : ∀ v3 v4, f_Mo_searchBoth_L17 (nI i, 1, s) = f_Mo_searchBoth_J78 (nI i, 1, s) v3 v4 0 → f_BS_goesOn s' = some 0 → ∃ t x x', f_Mo_searchBoth_L17 (nI i, 1, s) = some (.inl t) ∧ f_Mo_searchBoth_L17 t = some (.inr x) ∧ f_BS_meet_L40 (nI i, s') = some (.inr x') ∧ bsQ G x'.2 x.2.2 x.1 := by
      intro v3 v4 h1 h2
      refine ⟨(nI i, 0, s), (nI i, 0, s), (nI i, s'), by rw [h1]; unfold f_Mo_searchBoth_J78; rw [if_pos rfl], ?_, hstop h2, hQ⟩
      unfold f_Mo_searchBoth_L17
      dsimp only
      rw [if_pos rfl]
    right
    rcases hL1 with ⟨e1, e2⟩ | ⟨n, e1, e2⟩
    · have e1 : f_Mo_leastOf s 0 0 = some (-1) := e1
      left
      have hgo : f_BS_goesOn s' = some 0 := by
        unfold f_BS_goesOn
        rw [ov1, hcl1 e2, Option.bind_some, if_neg bT]
      rcases hL2 with ⟨f1, _⟩ | ⟨m, f1, _⟩
      · exact hend _ _ (by rw [ref _ _ e1 f1, if_pos (by decide)]) hgo
      · exact hend _ _ (by rw [ref _ _ e1 f1, if_pos (by decide)]) hgo
    · have e1 : f_Mo_leastOf s 0 0 = some (nI n) := e1
      obtain ⟨l1, l2, l3⟩ := id e2
      obtain ⟨w1, w2⟩ := Bool.and_eq_true_iff.mp l2
      have w2 : C n = false := by simpa using w2
      have hn0 : ¬ nI n < 0 := fun z => by have := (nI_ltI (b := 0) (by omega) (by omega)).mp z; omega
      have hov : ov = false := by
        cases z : ov with
        | false => rfl
        | true => have := ov2.mp z n w1; rw [w2] at this; cases this
      rcases hL2 with ⟨f1, f2⟩ | ⟨m, f1, f2⟩
      · have f1 : f_Mo_leastOf s 1 0 = some (-1) := f1
        left
        refine hend _ _ (by rw [ref _ _ e1 f1, if_neg hn0, if_pos (by decide)]) ?_
        unfold f_BS_goesOn
        rw [ov1, hov, ow1, hcl2 f2, Option.bind_some, if_pos bF, Option.bind_some, if_neg bT]
      · have f1 : f_Mo_leastOf s 1 0 = some (nI m) := f1
        obtain ⟨m1, m2, m3⟩ := id f2
        obtain ⟨v1, v2⟩ := Bool.and_eq_true_iff.mp m2
        have v2 : C' m = false := by simpa using v2
        have hm0 : ¬ nI m < 0 := fun z => by have := (nI_ltI (b := 0) (by omega) (by omega)).mp z; omega
        have how : ow = false := by
          cases z : ow with
          | false => rfl
          | true => have := ow2.mp z m v1; rw [v2] at this; cases this
        have g1 := x_first hW t6 e2
        have g2 := x_first hW t7 f2
        have k19 := PB_lt hW t6.2.2.2.2.2 w1 w2
        have k29 := PB_lt hW t7.2.2.2.2.2 v1 v2
        obtain ⟨fa1, fa2, fa3, _⟩ := fY_k t6.2.2.2.2.2 w1
        obtain ⟨fb1, fb2, fb3, _⟩ := fY_k t7.2.2.2.2.2 v1
        have hgo : f_BS_goesOn s' = if eB (bst K c K' c' (gN G)) ≤ nI (c n + c' m) then some 0 else some 1 := by
          unfold f_BS_goesOn
          rw [ov1, hov, ow1, how, Option.bind_some, if_pos bF, Option.bind_some, if_pos bF, g1, Option.bind_some, g2, Option.bind_some, t10, nI_add]
        have hcn : (nI n).toNatClampNeg = n := nI_clamp (by omega)
        have hcm : (nI (10 + m)).toNatClampNeg = 10 + m := nI_clamp (by omega)
        have hbn : inb (nI n) 20 = true := inb_n (by omega) (by decide)
        have hbm : inb (nI (10 + m)) 20 = true := inb_n (by omega) (by decide)
        have ea : s.1 12 n = nI (c n / 16) := by have := (t8 n l1).1; rwa [show 10 * 0 + n = n by omega, fa1] at this
        have eb : s.1 12 (10 + m) = nI (c' m / 16) := by have := (t9 m m1).1; rwa [fb1] at this
        have href := ref _ _ e1 f1
        rw [if_neg hn0, if_neg hm0, gd_t hbn, show (10 : Int32) + nI m = nI (10 + m) from nI_add 10 m, gd_t hbm, hB, Option.bind_some, hcn, hcm, ea, eb, nI_add] at href
        have hiff : eB (bst K c K' c' (gN G)) ≤ nI (c n + c' m) ↔ eC (bst K c K' c' (gN G)) ≤ nI (c n / 16 + c' m / 16) := by
          unfold eB eC
          by_cases z : bst K c K' c' (gN G) = 0
          · rw [if_pos z, if_pos z]
            constructor
            · intro w; exact absurd w (show ¬ (2147483647 : Int32) ≤ nI (c n + c' m) from nI_ge (b := 2147483647) (by omega) (by decide))
            · intro w; exact absurd w (show ¬ (1000000000 : Int32) ≤ nI (c n / 16 + c' m / 16) from nI_ge (b := 1000000000) (by omega) (by decide))
          · rw [if_neg z, if_neg z, nI_leI (by omega) (by omega), nI_leI (by omega) (by omega)]
            omega
        by_cases hle : eB (bst K c K' c' (gN G)) ≤ nI (c n + c' m)
        · left
          rw [if_pos (hiff.mp hle)] at href
          exact hend _ _ href (by rw [hgo, if_pos hle])
        · right
          refine ⟨by omega, ?_⟩
          rw [if_neg (fun w => hle (hiff.mpr w))] at href
          rw [if_neg hle] at hgo
          have h20 : ¬ (20 : Int32) ≤ nI i := nI_ge (a := i) (b := 20) (by omega) (by decide)
          rw [href]
          unfold f_Mo_searchBoth_J78 f_BS_meet_L40
          dsimp only
          rw [if_neg n10, if_neg h20, hgo, Option.bind_some, if_neg n10, g1, g2, Option.bind_some, Option.bind_some, show (10 : Int32) + nI m = nI (10 + m) from nI_add 10 m, gd_t hbm, gd_t hbn, hcn, hcm, ea, eb]
          by_cases hside : c n ≤ c' m
          · rw [if_pos (nI_le hside (by omega)), if_pos (nI_le (show c n / 16 ≤ c' m / 16 by omega) (by omega))]
            obtain ⟨n', s2, b1, b2, b3, b4, b5, b6⟩ := psettle_e hW hXs (Or.inl rfl) t6 l2
            have hnn : n' = n := LO_one hW e2 b2 b3 (t6.2.2.2.2.2.1 n' b2).1 b4
            subst hnn
            have R7 : Rel G s2 s := Rel_B (Or.inl rfl) t4 (frT_B b6)
            have t7' : PS 16 G s2 d true k2 K' C' c' false := PS_c t7 (fun k j q1 q2 => b6.1 k j (by omega)) (fun k j q1 q2 => b6.2.2.2.1 k j (by omega))
            obtain ⟨s3, d1, d2, d3⟩ := x_best hW b5 t7'
            obtain ⟨y2, o1, o2, o3⟩ := y_settle (sd := 0) hW (by omega) l1 t8
            have o1 : f_Mo_settle s 0 (nI n') = some y2 := o1
            have R8 := RfY R7 o2
            obtain ⟨y3, a1, a2, a3⟩ := y_spread (sd := 0) (ag := false) (k := k1) hW R8.2.2.1 (by omega) rfl w1 (va_up_self C n' true) (by omega) (fun v hv => t6.2.2.2.2.2.1 v hv) o3
            have a1 : f_Mo_spread y2 0 (nI n') = some y3 := a1
            have R9 := R24 (RfY R8 a2) d2
            rw [b1, Option.bind_some]
            dsimp only
            rw [d1, Option.bind_some]
            unfold f_Mo_searchBoth_J110
            rw [if_pos rfl]
            unfold f_Mo_searchBoth_J127
            dsimp only
            rw [o1, Option.bind_some, if_pos rfl, a1, Option.bind_some]
            exact ⟨_, _, rfl, rfl, nI_1 _, rfl, nI_1 _, R9, k1 + 1, k2, _, _, _, _, _, _, by omega, P24 (by omega) b5 d2, P24 (by omega) t7' d2, a3, YS_o hW (YS_o hW t9 o2 (by omega)) a2 (by omega), d3⟩
          · rw [if_neg (nI_ge (show c' m < c n by omega) (by omega)), if_neg (nI_ge (show c' m / 16 < c n / 16 by omega) (by omega))]
            obtain ⟨m', s2, b1, b2, b3, b4, b5, b6⟩ := psettle_e hW hXs (Or.inr rfl) t7 m2
            have hnn : m' = m := LO_one hW f2 b2 b3 (t7.2.2.2.2.2.1 m' b2).1 b4
            subst hnn
            have R7 : Rel G s2 s := Rel_B (Or.inr rfl) t4 (frT_B b6)
            have t6' : PS 8 G s2 d false k1 K C c false := PS_c t6 (fun k j q1 q2 => b6.1 k j (by omega)) (fun k j q1 q2 => b6.2.2.2.1 k j (by omega))
            obtain ⟨s3, d1, d2, d3⟩ := x_best hW t6' b5
            obtain ⟨y2, o1, o2, o3⟩ := y_settle (sd := 1) hW (by omega) m1 t9
            have o1 : f_Mo_settle s 1 (nI m') = some y2 := o1
            have R8 := RfY R7 o2
            obtain ⟨y3, a1, a2, a3⟩ := y_spread (sd := 1) (ag := true) (k := k2) hW R8.2.2.1 (by omega) rfl v1 (va_up_self C' m' true) (by omega) (fun v hv => t7.2.2.2.2.2.1 v hv) o3
            have a1 : f_Mo_spread y2 1 (nI m') = some y3 := a1
            have R9 := R24 (RfY R8 a2) d2
            rw [b1, Option.bind_some]
            dsimp only
            rw [d1, Option.bind_some]
            unfold f_Mo_searchBoth_J110
            rw [if_neg n10]
            unfold f_Mo_searchBoth_J127
            dsimp only
            rw [o1, Option.bind_some, if_neg n10, a1, Option.bind_some]
            exact ⟨_, _, rfl, rfl, nI_1 _, rfl, nI_1 _, R9, k1, k2 + 1, _, _, _, _, _, _, by omega, P24 (by omega) t6' d2, P24 (by omega) b5 d2, YS_o hW (YS_o hW t8 o2 (by omega)) a2 (by omega), a3, d3⟩) fuB fuS 0 (0, 1, τ2) (0, σ5) ⟨rfl, rfl, rfl, R6, 0, 0, _, _, _, _, _, _, rfl, P24 (by omega) p4' s2, P24 (by omega) r4 s2, YS_o hW q3 z2 (by omega), z3, s3⟩ (by omega) (by rw [fuB_e]; omega) (by rw [fuS_e]; omega)
  rw [x1, x2, Option.bind_some, Option.bind_some]
  exact ⟨_, _, _, rfl, rfl, x3⟩
theorem p_both {G : GT} {σ τ : mS} (R : Rel G σ τ) (x y : Int32) : Ok2 (f_LP_both σ x y) (f_Mo_both τ x y) := by
  obtain ⟨hW, hX, hY, hI, hh, hr⟩ := id R
  have hN := hW.1
  unfold f_LP_both f_Mo_both
  rw [x_areNodes hW hX, y_isNode hW hY, y_isNode hW hY, Option.bind_some, Option.bind_some, Option.bind_some]
  cases ex : inb x (gN G) with
  | false => exact ⟨-1, σ, τ, G, rfl, rfl, R⟩
  | true =>
    cases ey : inb y (gN G) with
    | false => exact ⟨-1, σ, τ, G, rfl, rfl, R⟩
    | true =>
      obtain ⟨a, ha, rfl⟩ := inb_e ex (by omega)
      obtain ⟨b, hb, rfl⟩ := inb_e ey (by omega)
      obtain ⟨σ', τ', r, e1, e2, e3, k1, k2, B, e4, e5, e6, _⟩ := both_e R ha hb
      rw [if_neg bT, if_neg bT, show (true && true) = true from rfl, if_neg bT, e1, e2, Option.bind_some, Option.bind_some]
      exact ⟨_, _, _, G, rfl, by rw [e5, e6, e4, nI_add], e3⟩
theorem p_bothTo {G : GT} {σ τ : mS} (R : Rel G σ τ) (x y : Int32) : Ok2 (f_LP_bothTo σ x y) (f_Mo_bothTo τ x y) := by
  obtain ⟨hW, hX, hY, hI, hh, hr⟩ := id R
  have hN := hW.1
  unfold f_LP_bothTo f_Mo_bothTo
  rw [x_areNodes hW hX, y_isNode hW hY, y_isNode hW hY, Option.bind_some, Option.bind_some, Option.bind_some]
  cases ex : inb x (gN G) with
  | false => exact ⟨-1, σ, τ, G, rfl, rfl, R⟩
  | true =>
    cases ey : inb y (gN G) with
    | false => exact ⟨-1, σ, τ, G, rfl, rfl, R⟩
    | true =>
      obtain ⟨a, ha, rfl⟩ := inb_e ex (by omega)
      obtain ⟨b, hb, rfl⟩ := inb_e ey (by omega)
      obtain ⟨σ', τ', r, e1, e2, e3, k1, k2, B, e4, e5, e6, e7, e8, e9⟩ := both_e R ha hb
      rw [if_neg bT, if_neg bT, show (true && true) = true from rfl, if_neg bT, e1, e2, Option.bind_some, Option.bind_some]
      dsimp only
      rw [e7, e8, Option.bind_some, Option.bind_some, gd_t (by decide)]
      unfold eB eC
      by_cases z : B = 0
      · rw [if_pos z, if_pos z, if_pos rfl, if_pos rfl]
        exact ⟨_, _, _, G, rfl, rfl, e3⟩
      · rw [if_neg z, if_neg z, if_neg (show ¬ nI (B - 1) = 2147483647 from fun w => by have := (nI_eq (b := 2147483647) (by omega) (by decide)).mp w; omega), if_neg (show ¬ nI ((B - 1) / 16) = 1000000000 from fun w => by have := (nI_eq (b := 1000000000) (by omega) (by decide)).mp w; omega), show (16 : Int32) = nI 16 from rfl, pk_div (by omega) (by decide) (by decide)]
        exact ⟨_, _, _, G, rfl, rfl, e3⟩
