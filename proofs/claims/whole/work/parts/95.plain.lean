-- ===== PURE: searches by lengths alone, or by these and the rests =====
def fY (K : Nat → Bool) (c : Nat → Nat) (v : Nat) : Nat := if K v = true then c v / 16 else 1000000000
def YS (sd : Nat) (G : GT) (τ : mS) (K C : Nat → Bool) (c : Nat → Nat) : Prop := ∀ v, v < gN G → τ.1 12 (10 * sd + v) = nI (fY K c v) ∧ τ.1 13 (10 * sd + v) = bI (C v)
def frY (sd : Nat) (τ τ' : mS) : Prop := (∀ k j, (k ≠ 12 ∧ k ≠ 13 ∨ j < 10 * sd ∨ 10 * sd + 10 ≤ j) → τ'.1 k j = τ.1 k j) ∧ τ'.2 = τ.2
theorem frY_r (sd : Nat) (τ : mS) : frY sd τ τ := ⟨fun _ _ _ => rfl, rfl⟩
theorem frY_t {sd : Nat} {a b c : mS} (h : frY sd a b) (k : frY sd b c) : frY sd a c := ⟨fun x j q => (k.1 x j q).trans (h.1 x j q), k.2.trans h.2⟩
theorem frY_Y {sd : Nat} {G : GT} {τ τ' : mS} (h : frY sd τ τ') (hY : RY G τ) : RY G τ' := RY_c hY (fun k j q => h.1 k j (Or.inl (by omega)))
theorem frY_s {sd : Nat} {τ τ' : mS} (h : frY sd τ τ') {k j : Nat} {v : Int32} (hk : k = 12 ∨ k = 13) (hj : 10 * sd ≤ j ∧ j < 10 * sd + 10) : frY sd τ (sI τ' k j v) := by
  refine ⟨fun a i q => ?_, h.2⟩
  rw [sI_1]
  by_cases q1 : a = k
  · rw [if_pos q1, if_neg (by omega)]; exact h.1 a i q
  · rw [if_neg q1]; exact h.1 a i q
theorem YS_o {sd sd' : Nat} {G : GT} {τ τ' : mS} {K C : Nat → Bool} {c : Nat → Nat} (hW : WG G) (h : YS sd G τ K C c) (hf : frY sd' τ τ') (hne : sd ≠ sd') : YS sd G τ' K C c := by
  intro v hv
  have hN := hW.1
  rw [hf.1 12 (10 * sd + v) (by omega), hf.1 13 (10 * sd + v) (by omega)]
  exact h v hv
theorem fY_up {K : Nat → Bool} {c : Nat → Nat} {v x u : Nat} : fY (va_up K v true) (va_up c v x) u = if u = v then x / 16 else fY K c u := by
  unfold fY
  by_cases q : u = v
  · subst q; rw [va_up_self, va_up_self, if_pos rfl, if_pos rfl]
  · rw [va_up_ne _ _ q, va_up_ne _ _ q, if_neg q]
theorem ixY {sd v : Nat} : ((10 : Int32) * nI sd) + nI v = nI (10 * sd + v) := by
  rw [show (10 : Int32) = nI 10 from rfl, pk_mul, nI_add]
def wtg (K C : Nat → Bool) (v : Nat) : Bool := K v && !C v
/-- what the bounds of a plain search are -/
def PB (G : GT) (k : Nat) (K C : Nat → Bool) (c : Nat → Nat) : Prop := (∀ v, K v = true → v < gN G ∧ c v ≤ 16000001 * k ∧ c v % 16 = 0) ∧ k ≤ 10 ∧ sN (fun v => if C v = true then 1 else 0) 10 = k
theorem fY_le {G : GT} {k : Nat} {K C : Nat → Bool} {c : Nat → Nat} (h : PB G k K C c) (v : Nat) : fY K c v ≤ 1000000000 := by
  unfold fY
  by_cases q : K v = true
  · rw [if_pos q]; have := (h.1 v q).2.1; have := h.2.1; omega
  · rw [if_neg q]; omega
theorem fY_k {G : GT} {k : Nat} {K C : Nat → Bool} {c : Nat → Nat} (h : PB G k K C c) {v : Nat} (q : K v = true) : fY K c v = c v / 16 ∧ c v ≤ 160000010 ∧ c v % 16 = 0 ∧ v < gN G := by
  obtain ⟨h1, h2, h3⟩ := h.1 v q
  have := h.2.1
  exact ⟨by unfold fY; rw [if_pos q], by omega, h3, h1⟩
theorem one_more {C : Nat → Bool} {n : Nat} (hn : n < 10) (hC : C n = false) : sN (fun v => if va_up C n true v = true then 1 else 0) 10 = sN (fun v => if C v = true then 1 else 0) 10 + 1 := by
  have e : ∀ v, v < 10 → (fun v => if va_up C n true v = true then 1 else 0) v = va_up (fun v => if C v = true then 1 else 0) n 1 v := by
    intro v _
    by_cases q : v = n
    · subst q; show (if va_up C v true v = true then 1 else 0) = _; rw [va_up_self, va_up_self, if_pos rfl]
    · show (if va_up C n true v = true then 1 else 0) = _; rw [va_up_ne _ _ q, va_up_ne _ _ q]
  have h := sN_up (fun v => if C v = true then 1 else 0) n 1 10 hn
  have h0 : (if C n = true then 1 else 0) = 0 := by rw [hC]; rfl
  rw [sN_c 10 e]
  have h : sN (va_up (fun v => if C v = true then 1 else 0) n 1) 10 + (if C n = true then 1 else 0) = _ := h
  rw [h0] at h
  exact h
theorem all_C {C : Nat → Bool} : ∀ n, sN (fun v => if C v = true then 1 else 0) n ≤ n ∧ (sN (fun v => if C v = true then 1 else 0) n = n → ∀ v, v < n → C v = true) := by
  intro n
  induction n with
  | zero => exact ⟨Nat.le_refl _, fun _ v hv => absurd hv (Nat.not_lt_zero _)⟩
  | succ n ih =>
    rw [sN]
    by_cases q : C n = true
    · rw [if_pos q]
      refine ⟨by omega, fun h v hv => ?_⟩
      by_cases z : v = n
      · rw [z]; exact q
      · exact ih.2 (by omega) v (by omega)
    · rw [if_neg q]
      exact ⟨by omega, fun h => by omega⟩
theorem PB_lt {G : GT} {k n : Nat} {K C : Nat → Bool} {c : Nat → Nat} (hW : WG G) (h : PB G k K C c) (hK : K n = true) (hC : C n = false) : k < 10 := by
  have hN := hW.1
  have h1 := (h.1 n hK).1
  rcases Nat.lt_or_ge k 10 with q | q
  · exact q
  · exfalso
    have := (all_C (C := C) 10).2 (by rw [h.2.2]; have := h.2.1; omega) n (by omega)
    rw [hC] at this; cases this
theorem relA_16 {G : GT} {ag : Bool} {O : Nat → Bool} {C : Nat → Bool} {n : Nat} {q : (Nat → Bool) × (Nat → Nat)} (hW : WG G) (hC : C n = true) (hn : q.2 n % 16 = 0) (h : ∀ v, q.1 v = true → v < gN G ∧ q.2 v % 16 = 0) : ∀ i, i ≤ gm G → ∀ v, (relA G ag O 0 C n i q).1 v = true → v < gN G ∧ (relA G ag O 0 C n i q).2 v % 16 = 0 := by
  intro i
  induction i with
  | zero => intro _ v hv; exact h v hv
  | succ i ih =>
    intro hi v hv
    have ih := ih (by omega)
    have hq := relA_n (G := G) (ag := ag) (O := O) (pa := 0) hC q i
    unfold relA at hv ⊢
    dsimp only at hv ⊢
    split at hv
    · rename_i hc
      rw [if_pos hc]
      by_cases z : v = gE G ag i
      · subst z
        refine ⟨gE_lt hW (by omega), ?_⟩
        show va_up _ _ _ _ % 16 = 0
        rw [va_up_self, hq]; omega
      · have hv : va_up _ _ _ v = true := hv
        rw [va_up_ne _ _ z] at hv
        show _ ∧ va_up _ _ _ v % 16 = 0
        rw [va_up_ne _ _ z]
        exact ih v hv
    · rename_i hc
      rw [if_neg hc]
      exact ih v hv
theorem PB_step {G : GT} {ag : Bool} {O : Nat → Bool} {k n : Nat} {K C : Nat → Bool} {c : Nat → Nat} (hW : WG G) (h : PB G k K C c) (hK : K n = true) (hC : C n = false) : PB G (k + 1) (relA G ag O 0 (va_up C n true) n (gm G) (K, c)).1 (va_up C n true) (relA G ag O 0 (va_up C n true) n (gm G) (K, c)).2 := by
  have hN := hW.1
  have hk := PB_lt hW h hK hC
  obtain ⟨n1, n2, n3⟩ := h.1 n hK
  refine ⟨fun v hv => ?_, by omega, by rw [one_more (by omega) hC, h.2.2]⟩
  have r1 := relA_16 (ag := ag) (O := O) (q := (K, c)) hW (va_up_self C n true) n3 (fun v hv => ⟨(h.1 v hv).1, (h.1 v hv).2.2⟩) (gm G) (Nat.le_refl _) v hv
  have r2 := relA_b (ag := ag) (O := O) (pa := 0) (B := 16000001 * k) (q := (K, c)) hW (va_up_self C n true) (by omega) n2 (fun v hv => by have := (h.1 v hv).2.1; show c v ≤ _; omega) (gm G) (Nat.le_refl _) v hv
  exact ⟨r1.1, by omega, r1.2⟩
theorem y_begin {G : GT} {τ : mS} {sd a : Nat} (hW : WG G) (hs : sd ≤ 1) (ha : a < gN G) : ∃ τ', f_Mo_beginSearch τ (nI sd) (nI a) = some τ' ∧ frY sd τ τ' ∧ YS sd G τ' (va_up (fun _ => false) a true) (fun _ => false) (fun _ => 0) := by
  have hN := hW.1
  unfold f_Mo_beginSearch
  obtain ⟨u, u1, u2, u3⟩ := lpN_i (st := f_Mo_beginSearch_L2 (nI sd)) (fun i t => t.1 = nI i ∧ frY sd τ t.2 ∧ ∀ v, v < i → t.2.1 12 (10 * sd + v) = 1000000000 ∧ t.2.1 13 (10 * sd + v) = 0) (fun u => frY sd τ u.2 ∧ ∀ v, v < 10 → u.2.1 12 (10 * sd + v) = 1000000000 ∧ u.2.1 13 (10 * sd + v) = 0) 10 (fun i t hi ht => by
    obtain ⟨ti, t⟩ := t
    obtain ⟨t1, t2, t3⟩ := ht
    have t1 : ti = nI i := t1
    subst t1
    have t2 : frY sd τ t := t2
    unfold f_Mo_beginSearch_L2
    dsimp only
    by_cases hc : i = 10
    · subst hc
      left
      rw [if_pos (by decide)]
      exact ⟨_, rfl, t2, t3⟩
    · right
      have hi2 : i < 10 := by omega
      refine ⟨hi2, ?_⟩
      have hci : (nI (10 * sd + i)).toNatClampNeg = 10 * sd + i := nI_clamp (by omega)
      have hb : inb (nI (10 * sd + i)) 20 = true := inb_n (by omega) (by decide)
      rw [if_neg (show ¬ (10 : Int32) ≤ nI i from nI_ge (a := i) (b := 10) hi2 (by decide)), ixY, gd_t hb, nm_e2, gd_t hb, gd_t (by decide), nm_e2, hci]
      refine ⟨_, rfl, nI_1 _, frY_s (frY_s t2 (Or.inl rfl) (by omega)) (Or.inr rfl) (by omega), fun v hv => ?_⟩
      simp only [sI_1]
      by_cases q : v = i
      · subst q; simp
      · simpa [q] using t3 v (by omega)) fuB 0 (0, τ) ⟨rfl, frY_r _ _, fun v hv => absurd hv (Nat.not_lt_zero _)⟩ (Nat.zero_le _) (by rw [fuB_e]; omega)
  have hca : (nI (10 * sd + a)).toNatClampNeg = 10 * sd + a := nI_clamp (by omega)
  rw [u1, Option.bind_some, ixY, gd_t (inb_n (by omega) (by decide)), nm_e2, hca]
  refine ⟨_, rfl, frY_s u2 (Or.inl rfl) (by omega), fun v hv => ?_⟩
  refine ⟨?_, by rw [sI_1, if_neg (show ¬ (13 : Nat) = 12 by decide), (u3 v (by omega)).2]; rfl⟩
  rw [sI_1, if_pos rfl, (u3 v (by omega)).1]
  by_cases q : v = a
  · subst q; rw [if_pos rfl]; unfold fY; rw [va_up_self, if_pos rfl]; show (0 : Int32) = nI (0 / 16); rw [Nat.zero_div]; rfl
  · rw [if_neg (by omega)]; unfold fY; rw [va_up_ne _ _ q, if_neg (by decide)]; rfl
/-- the least of those that wait, by the other side -/
def LO (G : GT) (br : Bool) (K C : Nat → Bool) (c : Nat → Nat) (i n : Nat) : Prop := n < i ∧ wtg K C n = true ∧ ∀ m, m < i → wtg K C m = true → keyS G br c n < keyS G br c m ∨ keyS G br c n = keyS G br c m ∧ n ≤ m
theorem y_least {G : GT} {τ : mS} {sd k : Nat} {K C : Nat → Bool} {c : Nat → Nat} (br : Bool) (hW : WG G) (hY : RY G τ) (hs : sd ≤ 1) (hB : PB G k K C c) (h : YS sd G τ K C c) :
    (f_Mo_leastOf τ (nI sd) (bI br) = some (-1) ∧ ∀ v, v < gN G → wtg K C v = false) ∨ ∃ n, f_Mo_leastOf τ (nI sd) (bI br) = some (nI n) ∧ LO G br K C c (gN G) n := by
  have hN := hW.1
  unfold f_Mo_leastOf
  obtain ⟨u, u1, u2⟩ := lpN_i (st := f_Mo_leastOf_L5 τ (nI sd) (bI br)) (fun i t => t.2 = nI i ∧ ((t.1 = -1 ∧ ∀ v, v < i → wtg K C v = false) ∨ ∃ n, t.1 = nI n ∧ LO G br K C c i n)) (fun u => (u.1 = -1 ∧ ∀ v, v < gN G → wtg K C v = false) ∨ ∃ n, u.1 = nI n ∧ LO G br K C c (gN G) n) (gN G) (fun i t hi ht => by
    obtain ⟨tb, ti⟩ := t
    obtain ⟨t1, t2⟩ := ht
    have t1 : ti = nI i := t1
    subst t1
    unfold f_Mo_leastOf_L5
    dsimp only
    rw [hY.1]
    by_cases hc : i = gN G
    · subst hc
      left
      rw [if_pos (nI_le (Nat.le_refl _) (by omega))]
      exact ⟨_, rfl, t2⟩
    · right
      have hi2 : i < gN G := by omega
      refine ⟨hi2, ?_⟩
      obtain ⟨e1, e2⟩ := h i hi2
      have hci : (nI (10 * sd + i)).toNatClampNeg = 10 * sd + i := nI_clamp (by omega)
      have hci2 : (nI i).toNatClampNeg = i := nI_clamp (by omega)
      have hb : inb (nI (10 * sd + i)) 20 = true := inb_n (by omega) (by decide)
      have hb2 : inb (nI i) 10 = true := inb_n (by omega) (by decide)
      have hfy := fY_le hB i
      -- what a node that does not wait does
      have hskip : wtg K C i = false → ∃ s', some (Sum.inl (tb, nI i + 1) : (Int32 × Int32) ⊕ (Int32 × Int32)) = some (.inl s') ∧ s'.2 = nI (i + 1) ∧ ((s'.1 = -1 ∧ ∀ v, v < i + 1 → wtg K C v = false) ∨ ∃ n, s'.1 = nI n ∧ LO G br K C c (i + 1) n) := by
        intro hw
        refine ⟨_, rfl, nI_1 _, ?_⟩
        rcases t2 with ⟨q1, q2⟩ | ⟨n, q1, q2, q3, q4⟩
        · left
          refine ⟨q1, fun v hv => ?_⟩
          by_cases z : v = i
          · rw [z]; exact hw
          · exact q2 v (by omega)
        · right
          refine ⟨n, q1, by omega, q3, fun m hm hwm => ?_⟩
          by_cases z : m = i
          · rw [z, hw] at hwm; cases hwm
          · exact q4 m (by omega) hwm
      rw [if_neg (nI_ge hi2 (by omega)), ixY, nm_e2, gd_t hb, gd_t hb, gd_t hb, hci, e2, e1]
      cases hC : C i with
      | true =>
        rw [if_neg bT]
        exact hskip (by unfold wtg; rw [hC]; simp)
      | false =>
        rw [if_pos bF]
        by_cases hK : K i = true
        · obtain ⟨f1, f2, f3, _⟩ := fY_k hB hK
          have hw : wtg K C i = true := by unfold wtg; rw [hK, hC]; rfl
          rw [f1, if_neg (show ¬ nI (c i / 16) = 1000000000 from fun z => by have := (nI_eq (b := 1000000000) (by omega) (by omega)).mp z; omega)]
          have hgr := hW.2.2.2 i hi2
          have hrest : τ.1 8 i = nI (gr G i) := (hY.2.2.2 i hi2).2
          -- the sum by which it stands
          have hsum : ∀ j2 : Int32, j2 = nI (if br = true then gr G i else 0) → ∃ s', f_Mo_leastOf_J70 τ (nI sd) (bI br) (tb, nI i) (nI (10 * sd + i)) j2 = some (.inl s') ∧ s'.2 = nI (i + 1) ∧ ((s'.1 = -1 ∧ ∀ v, v < i + 1 → wtg K C v = false) ∨ ∃ n, s'.1 = nI n ∧ LO G br K C c (i + 1) n) := by
            intro j2 hj2
            subst hj2
            unfold f_Mo_leastOf_J70
            dsimp only
            rw [nm_e2, hci, e1, f1, nI_add]
            rcases t2 with ⟨q1, q2⟩ | ⟨n, q1, q2, q3, q4⟩
            · have q1 : tb = -1 := q1
              subst q1
              rw [if_pos (by decide)]
              refine ⟨_, rfl, nI_1 _, Or.inr ⟨i, rfl, by omega, hw, fun m hm hwm => ?_⟩⟩
              by_cases z : m = i
              · right; rw [z]; exact ⟨rfl, Nat.le_refl _⟩
              · rw [q2 m (by omega)] at hwm; cases hwm
            · have q1 : tb = nI n := q1
              subst q1
              have hn2 : n < gN G := by omega
              obtain ⟨e1', e2'⟩ := h n hn2
              have hKn : K n = true := (Bool.and_eq_true_iff.mp q3).1
              obtain ⟨g1, g2, g3, _⟩ := fY_k hB hKn
              have hcn : (nI (10 * sd + n)).toNatClampNeg = 10 * sd + n := nI_clamp (by omega)
              have hcn2 : (nI n).toNatClampNeg = n := nI_clamp (by omega)
              have hbn : inb (nI (10 * sd + n)) 20 = true := inb_n (by omega) (by decide)
              have hbn2 : inb (nI n) 10 = true := inb_n (by omega) (by decide)
              have hgrn := hW.2.2.2 n hn2
              have hrestn : τ.1 8 n = nI (gr G n) := (hY.2.2.2 n hn2).2
              rw [if_neg (show ¬ nI n < 0 from fun z => by have := (nI_ltI (b := 0) (by omega) (by omega)).mp z; omega), ixY, gd_t hbn, gd_t hbn2, hcn, hcn2, e1', g1, hrestn, nI_add, Int32.add_zero]
              have hkeep : keyS G br c n < keyS G br c i ∨ keyS G br c n = keyS G br c i → ∃ s', some (Sum.inl (nI n, nI i + 1) : (Int32 × Int32) ⊕ (Int32 × Int32)) = some (.inl s') ∧ s'.2 = nI (i + 1) ∧ ((s'.1 = -1 ∧ ∀ v, v < i + 1 → wtg K C v = false) ∨ ∃ n, s'.1 = nI n ∧ LO G br K C c (i + 1) n) := by
                intro hk
                refine ⟨_, rfl, nI_1 _, Or.inr ⟨n, rfl, by omega, q3, fun m hm hwm => ?_⟩⟩
                by_cases z : m = i
                · subst z; rcases hk with hk | hk
                  · exact Or.inl hk
                  · exact Or.inr ⟨hk, by omega⟩
                · exact q4 m (by omega) hwm
              have hnew : keyS G br c i < keyS G br c n → ∃ s', some (Sum.inl (nI i, nI i + 1) : (Int32 × Int32) ⊕ (Int32 × Int32)) = some (.inl s') ∧ s'.2 = nI (i + 1) ∧ ((s'.1 = -1 ∧ ∀ v, v < i + 1 → wtg K C v = false) ∨ ∃ n, s'.1 = nI n ∧ LO G br K C c (i + 1) n) := by
                intro hk
                refine ⟨_, rfl, nI_1 _, Or.inr ⟨i, rfl, by omega, hw, fun m hm hwm => ?_⟩⟩
                by_cases z : m = i
                · right; rw [z]; exact ⟨rfl, Nat.le_refl _⟩
                · left
                  rcases q4 m (by omega) hwm with q | q
                  · omega
                  · omega
              cases br with
              | false =>
                have k1 : keyS G false c n = c n := rfl
                have k2 : keyS G false c i = c i := rfl
                rw [if_pos bF, if_neg (show ¬ (false = true) by decide)]
                by_cases z : c n / 16 ≤ c i / 16 + 0
                · rw [if_pos (nI_le z (by omega))]
                  exact hkeep (by omega)
                · rw [if_neg (nI_ge (by omega) (by omega))]
                  exact hnew (by omega)
              | true =>
                have k1 : keyS G true c n = c n + gr G n * 16 := rfl
                have k2 : keyS G true c i = c i + gr G i * 16 := rfl
                rw [if_neg bT, if_pos rfl]
                by_cases z : c n / 16 + gr G n ≤ c i / 16 + gr G i
                · rw [if_pos (nI_le z (by omega))]
                  exact hkeep (by omega)
                · rw [if_neg (nI_ge (by omega) (by omega))]
                  exact hnew (by omega)
          cases br with
          | false =>
            rw [if_pos bF]
            exact hsum 0 rfl
          | true =>
            rw [if_neg bT, gd_t hb2, hci2, hrest]
            exact hsum _ rfl
        · have hf : fY K c i = 1000000000 := by unfold fY; rw [if_neg hK]
          rw [hf, if_pos (by rfl)]
          exact hskip (by unfold wtg; rw [Bool.eq_false_iff.mpr hK]; rfl)) fuB 0 (-1, 0) ⟨rfl, Or.inl ⟨rfl, fun v hv => absurd hv (Nat.not_lt_zero _)⟩⟩ (Nat.zero_le _) (by rw [fuB_e]; omega)
  rw [u1, Option.bind_some]
  rcases u2 with ⟨q1, q2⟩ | ⟨n, q1, q2⟩
  · left; exact ⟨by rw [q1], q2⟩
  · right; exact ⟨n, by rw [q1], q2⟩
/-- the two sides mean the same node -/
theorem LO_one {G : GT} {br : Bool} {K C : Nat → Bool} {c : Nat → Nat} {n m : Nat} (hW : WG G) (h : LO G br K C c (gN G) n) (hKm : K m = true) (hCm : C m = false) (hm : m < gN G) (hmin : ∀ x, K x = true → C x = false → x ≠ m → keyS G br c m * 10 + m < keyS G br c x * 10 + x) : m = n := by
  have hN := hW.1
  rcases Nat.decEq m n with q | q
  · exfalso
    obtain ⟨h1, h2, h3⟩ := h
    obtain ⟨k1, k2⟩ := Bool.and_eq_true_iff.mp h2
    have k2 : C n = false := by simpa using k2
    have a1 := hmin n k1 k2 (fun z => q z.symm)
    have a2 := h3 m hm (by unfold wtg; rw [hKm, hCm]; rfl)
    rcases a2 with a2 | a2 <;> omega
  · exact q
theorem y_settle {G : GT} {τ : mS} {sd n : Nat} {K C : Nat → Bool} {c : Nat → Nat} (hW : WG G) (hs : sd ≤ 1) (hn : n < gN G) (h : YS sd G τ K C c) : ∃ τ', f_Mo_settle τ (nI sd) (nI n) = some τ' ∧ frY sd τ τ' ∧ YS sd G τ' K (va_up C n true) c := by
  have hN := hW.1
  unfold f_Mo_settle
  have hcn : (nI (10 * sd + n)).toNatClampNeg = 10 * sd + n := nI_clamp (by omega)
  rw [ixY, gd_t (inb_n (by omega) (by decide)), gd_t (by decide), nm_e2, hcn]
  refine ⟨_, rfl, frY_s (frY_r _ _) (Or.inr rfl) (by omega), fun v hv => ?_⟩
  obtain ⟨e1, e2⟩ := h v hv
  refine ⟨by rw [sI_1, if_neg (show ¬ (12 : Nat) = 13 by decide)]; exact e1, ?_⟩
  rw [sI_1, if_pos rfl]
  by_cases q : v = n
  · subst q; rw [if_pos rfl, va_up_self]; rfl
  · rw [if_neg (by omega), va_up_ne _ _ q]; exact e2
theorem y_spread {G : GT} {τ : mS} {sd n k : Nat} {ag : Bool} {K C : Nat → Bool} {c : Nat → Nat} (hW : WG G) (hY : RY G τ) (hs : sd ≤ 1) (hag : ag = decide (sd = 1)) (hKn : K n = true) (hCn : C n = true) (hk : k ≤ 9) (hB : ∀ v, K v = true → v < gN G ∧ c v ≤ 16000001 * k ∧ c v % 16 = 0) (h : YS sd G τ K C c) :
    ∃ τ', f_Mo_spread τ (nI sd) (nI n) = some τ' ∧ frY sd τ τ' ∧ YS sd G τ' (relA G ag (liveO G) 0 C n (gm G) (K, c)).1 C (relA G ag (liveO G) 0 C n (gm G) (K, c)).2 := by
  have hN := hW.1
  have hm := hW.2.1
  obtain ⟨n1, n2, n3⟩ := hB n hKn
  unfold f_Mo_spread
  obtain ⟨u, u1, u2, u3⟩ := lpN_i (st := f_Mo_spread_L2 (nI sd) (nI n)) (fun i t => t.1 = nI i ∧ frY sd τ t.2 ∧ YS sd G t.2 (relA G ag (liveO G) 0 C n i (K, c)).1 C (relA G ag (liveO G) 0 C n i (K, c)).2) (fun u => frY sd τ u.2 ∧ YS sd G u.2 (relA G ag (liveO G) 0 C n (gm G) (K, c)).1 C (relA G ag (liveO G) 0 C n (gm G) (K, c)).2) (gm G) (fun i t hi ht => by
    obtain ⟨ti, t⟩ := t
    obtain ⟨t1, t2, t3⟩ := ht
    have t1 : ti = nI i := t1
    subst t1
    have t2 : frY sd τ t := t2
    have hYt := frY_Y t2 hY
    unfold f_Mo_spread_L2
    dsimp only
    rw [hYt.2.1]
    by_cases hc : i = gm G
    · subst hc
      left
      rw [if_pos (nI_le (Nat.le_refl _) (by omega))]
      exact ⟨_, rfl, t2, t3⟩
    · right
      have hi2 : i < gm G := by omega
      refine ⟨hi2, ?_⟩
      obtain ⟨gu, gv, gne, gwe, _⟩ := hW.2.2.1 i hi2
      obtain ⟨c1, c2, c3, _, _, c6⟩ := hYt.2.2.1 i hi2
      have hci : (nI i).toNatClampNeg = i := nI_clamp (by omega)
      have hb1 : inb (nI i) 40 = true := inb_n (by omega) (by decide)
      have hrn := relA_n (G := G) (ag := ag) (O := liveO G) (pa := 0) hCn (K, c) i
      have hr16 := relA_16 (ag := ag) (O := liveO G) (q := (K, c)) hW hCn n3 (fun v hv => ⟨(hB v hv).1, (hB v hv).2.2⟩) i (by omega)
      have hrb := relA_b (ag := ag) (O := liveO G) (pa := 0) (B := 16000001 * k) (q := (K, c)) hW hCn (by omega) n2 (fun v hv => by have := (hB v hv).2.1; show c v ≤ _; omega) i (by omega)
      have hKr : (relA G ag (liveO G) 0 C n i (K, c)).1 n = true := by
        have := (relA_C (G := G) (ag := ag) (O := liveO G) (pa := 0) (n := n) (K, c) hCn i).2
        rw [this]; exact hKn
      generalize hq : relA G ag (liveO G) 0 C n i (K, c) = q at *
      have hstep : relA G ag (liveO G) 0 C n (i + 1) (K, c) = if gS G ag i = n ∧ liveO G i = true ∧ noO q.1 C q.2 (gE G ag i) (q.2 n + (gw G i * 16 + 0)) = false then (va_up q.1 (gE G ag i) true, va_up q.2 (gE G ag i) (q.2 n + (gw G i * 16 + 0))) else q := by
        rw [relA, hq]
      have hrn : q.2 n = c n := hrn
      have hfn : fY q.1 q.2 n = c n / 16 := by unfold fY; rw [if_pos hKr, hrn]
      -- the same with the ends named
      have hmain : ∀ j1 j2 : Int32, j1 = nI (gS G ag i) → j2 = nI (gE G ag i) → ∃ s', f_Mo_spread_J50 (nI sd) (nI n) (nI i, t) j1 j2 = some (.inl s') ∧ s'.1 = nI (i + 1) ∧ frY sd τ s'.2 ∧ YS sd G s'.2 (relA G ag (liveO G) 0 C n (i + 1) (K, c)).1 C (relA G ag (liveO G) 0 C n (i + 1) (K, c)).2 := by
        intro j1 j2 h1 h2
        subst h1
        subst h2
        have hE : gE G ag i < gN G := gE_lt hW hi2
        have hS : gS G ag i < gN G := gS_lt hW hi2
        unfold f_Mo_spread_J50
        dsimp only
        have hbE : inb (nI (10 * sd + gE G ag i)) 20 = true := inb_n (by omega) (by decide)
        have hbn : inb (nI (10 * sd + n)) 20 = true := inb_n (by omega) (by decide)
        have hcE : (nI (10 * sd + gE G ag i)).toNatClampNeg = 10 * sd + gE G ag i := nI_clamp (by omega)
        have hcn : (nI (10 * sd + n)).toNatClampNeg = 10 * sd + n := nI_clamp (by omega)
        rw [gd_t hb1, gd_t hb1, hci, c6, c3, ixY, ixY, gd_t hbE, gd_t hbn, nm_e2, gd_t hbE, gd_t hbE, nm_e2, hcE, hcn]
        obtain ⟨f1, f2⟩ := t3 _ hE
        obtain ⟨f3, _⟩ := t3 n n1
        have f1 : t.1 12 (10 * sd + gE G ag i) = nI (fY q.1 q.2 (gE G ag i)) := f1
        have f2 : t.1 13 (10 * sd + gE G ag i) = bI (C (gE G ag i)) := f2
        have f3 : t.1 12 (10 * sd + n) = nI (fY q.1 q.2 n) := f3
        rw [f1, f2, f3, hfn, nI_add]
        have hlv : liveO G i = gl G i := by unfold liveO; rw [decide_eq_true hi2, Bool.true_and]
        have hskip : ¬ (gS G ag i = n ∧ liveO G i = true ∧ noO q.1 C q.2 (gE G ag i) (q.2 n + (gw G i * 16 + 0)) = false) → ∃ s', some (Sum.inl (nI i + 1, t) : (Int32 × mS) ⊕ (Int32 × mS)) = some (.inl s') ∧ s'.1 = nI (i + 1) ∧ frY sd τ s'.2 ∧ YS sd G s'.2 (relA G ag (liveO G) 0 C n (i + 1) (K, c)).1 C (relA G ag (liveO G) 0 C n (i + 1) (K, c)).2 := by
          intro z
          refine ⟨_, rfl, nI_1 _, t2, ?_⟩
          rw [hstep, if_neg z]; exact t3
        cases hg : gl G i with
        | false =>
          rw [if_pos bF]
          exact hskip (fun z => by rw [hlv, hg] at z; exact absurd z.2.1 (by decide))
        | true =>
          rw [if_neg bT]
          by_cases hsn : gS G ag i = n
          · rw [if_pos (by rw [hsn])]
            cases hCe : C (gE G ag i) with
            | true =>
              rw [if_neg bT]
              exact hskip (fun z => by have := z.2.2; unfold noO at this; rw [hCe] at this; simp at this)
            | false =>
              rw [if_pos bF]
              by_cases hKe : q.1 (gE G ag i) = true
              · have hfe : fY q.1 q.2 (gE G ag i) = q.2 (gE G ag i) / 16 := by unfold fY; rw [if_pos hKe]
                have x1 := hr16 _ hKe
                have x2 := hrb _ hKe
                rw [hfe]
                by_cases z : q.2 (gE G ag i) ≤ c n + gw G i * 16
                · rw [if_pos (nI_le (by omega) (by omega))]
                  refine hskip (fun y => ?_)
                  have := y.2.2
                  unfold noO at this
                  rw [hCe, hKe, hrn, decide_eq_true (by omega)] at this
                  exact absurd this (by decide)
                · rw [if_neg (nI_ge (by omega) (by omega))]
                  refine ⟨_, rfl, nI_1 _, frY_s t2 (Or.inl rfl) (by omega), ?_⟩
                  rw [hstep, if_pos ⟨hsn, by rw [hlv, hg], by unfold noO; rw [hCe, hKe, hrn, decide_eq_false (by omega)]; rfl⟩]
                  intro v hv
                  refine ⟨?_, by rw [sI_1, if_neg (show ¬ (13 : Nat) = 12 by decide)]; exact (t3 v hv).2⟩
                  rw [sI_1, if_pos rfl]
                  show _ = nI (fY (va_up _ _ true) (va_up _ _ _) v)
                  rw [fY_up]
                  by_cases y : v = gE G ag i
                  · rw [if_pos (by omega), if_pos y, hrn]
                    congr 1; omega
                  · rw [if_neg (by omega), if_neg y]; exact (t3 v hv).1
              · have hfe : fY q.1 q.2 (gE G ag i) = 1000000000 := by unfold fY; rw [if_neg hKe]
                rw [hfe, if_neg (nI_ge (by omega) (by omega))]
                refine ⟨_, rfl, nI_1 _, frY_s t2 (Or.inl rfl) (by omega), ?_⟩
                rw [hstep, if_pos ⟨hsn, by rw [hlv, hg], by unfold noO; rw [hCe, Bool.eq_false_iff.mpr hKe]; rfl⟩]
                intro v hv
                refine ⟨?_, by rw [sI_1, if_neg (show ¬ (13 : Nat) = 12 by decide)]; exact (t3 v hv).2⟩
                rw [sI_1, if_pos rfl]
                show _ = nI (fY (va_up _ _ true) (va_up _ _ _) v)
                rw [fY_up]
                by_cases y : v = gE G ag i
                · rw [if_pos (by omega), if_pos y, hrn]
                  congr 1; omega
                · rw [if_neg (by omega), if_neg y]; exact (t3 v hv).1
          · rw [if_neg (fun z => hsn ((nI_eq (by omega) (by omega)).mp z))]
            exact hskip (fun z => hsn z.1)
      rw [if_neg (nI_ge hi2 (by omega)), gd_t hb1, gd_t hb1, hci, c1, c2]
      unfold f_Mo_spread_J29
      dsimp only
      rw [gd_t hb1, gd_t hb1, hci, c1, c2]
      rcases (show sd = 0 ∨ sd = 1 by omega) with z | z
      · subst z
        have hag : ag = false := hag
        subst hag
        rw [if_pos (show nI 0 = 0 from rfl), if_pos (show nI 0 = 0 from rfl)]
        exact hmain _ _ rfl rfl
      · subst z
        have hag : ag = true := hag
        subst hag
        rw [if_neg (show ¬ nI 1 = 0 from n10), if_neg (show ¬ nI 1 = 0 from n10), gd_t hb1]
        exact hmain _ _ rfl rfl) fuB 0 (0, τ) ⟨rfl, frY_r _ _, h⟩ (Nat.zero_le _) (by rw [fuB_e]; omega)
  rw [u1, Option.bind_some]
  exact ⟨_, rfl, u2, u3⟩
