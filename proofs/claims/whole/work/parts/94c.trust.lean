-- ===== PURE: trust =====
def MM : Nat := 2520 ^ 10
theorem MM_pos : 0 < MM := by decide +kernel
def qT (A B : Nat) : Nat := A * MM / B
def num (L A B : Nat) : Prop := 1 ≤ B ∧ B ≤ 9 ^ L ∧ A ≤ 9 ^ L ∧ B ∣ 2520 ^ L
theorem num_dvd {L A B : Nat} (h : num L A B) (hL : L ≤ 10) : B ∣ MM := Nat.dvd_trans h.2.2.2 (Nat.pow_dvd_pow 2520 hL)
theorem q_e {A B c : Nat} (hB : 1 ≤ B) (h : MM = B * c) : qT A B = A * c := by
  unfold qT
  rw [h, Nat.mul_left_comm, Nat.mul_div_cancel_left _ (by omega)]
theorem q_step {A B a b : Nat} (hB : 1 ≤ B) (hb : 1 ≤ b) (h : B * b ∣ MM) : qT A B * a / b = qT (A * a) (B * b) := by
  obtain ⟨c, hc⟩ := h
  rw [q_e (B := B) (c := b * c) hB (by rw [hc, Nat.mul_assoc]), q_e (B := B * b) (c := c) (Nat.mul_pos hB hb) hc]
  rw [show A * (b * c) * a = b * (A * a * c) by rw [Nat.mul_left_comm A b c, Nat.mul_assoc, Nat.mul_assoc A c a, Nat.mul_comm c a, Nat.mul_assoc A a c], Nat.mul_div_cancel_left _ (by omega)]
theorem q_lt {A B A' B' : Nat} (hB : 1 ≤ B) (hB' : 1 ≤ B') (h : B ∣ MM) (h' : B' ∣ MM) : qT A B < qT A' B' ↔ A * B' < A' * B := by
  obtain ⟨c, hc⟩ := h
  obtain ⟨c', hc'⟩ := h'
  rw [q_e hB hc, q_e hB' hc']
  have hp : 0 < B * B' := Nat.mul_pos hB hB'
  rw [← Nat.mul_lt_mul_right hp (b := A * c) (c := A' * c')]
  rw [show A * c * (B * B') = (A * B') * MM by rw [hc]; simp only [Nat.mul_comm, Nat.mul_left_comm, Nat.mul_assoc], show A' * c' * (B * B') = (A' * B) * MM by rw [hc']; simp only [Nat.mul_comm, Nat.mul_left_comm, Nat.mul_assoc]]
  exact Nat.mul_lt_mul_right MM_pos
theorem q_red {A B g : Nat} (hB : 1 ≤ B) (hA : g ∣ A) (hg : g ∣ B) (h : B ∣ MM) : qT (A / g) (B / g) = qT A B := by
  obtain ⟨a, rfl⟩ := hA
  obtain ⟨b, rfl⟩ := hg
  have hg0 : 0 < g := Nat.pos_of_ne_zero (fun z => by subst z; simp at hB)
  have hb0 : 1 ≤ b := Nat.pos_of_ne_zero (fun z => by subst z; simp at hB)
  rw [Nat.mul_div_cancel_left _ hg0, Nat.mul_div_cancel_left _ hg0]
  obtain ⟨c, hc⟩ := h
  rw [q_e (c := g * c) hb0 (by rw [hc]; simp only [Nat.mul_comm, Nat.mul_left_comm, Nat.mul_assoc]), q_e hB hc]
  simp only [Nat.mul_comm, Nat.mul_left_comm, Nat.mul_assoc]
theorem b2520 : ∀ b, b < 10 → 1 ≤ b → b ∣ 2520 := by decide
theorem num_step {L A B a b : Nat} (h : num L A B) (ha : a ≤ 9) (hb : 1 ≤ b) (hb9 : b ≤ 9) : num (L + 1) (A * a) (B * b) := by
  obtain ⟨h1, h2, h3, h4⟩ := h
  refine ⟨Nat.mul_pos h1 hb, ?_, ?_, ?_⟩
  · rw [Nat.pow_succ]; exact Nat.mul_le_mul h2 hb9
  · rw [Nat.pow_succ]; exact Nat.mul_le_mul h3 ha
  · rw [Nat.pow_succ]; exact Nat.mul_dvd_mul h4 (b2520 b (by omega) hb)
theorem num_red {L A B g : Nat} (h : num L A B) (hg : g ∣ B) : num L (A / g) (B / g) := by
  obtain ⟨h1, h2, h3, h4⟩ := h
  refine ⟨Nat.div_pos (Nat.le_of_dvd h1 hg) (Nat.pos_of_dvd_of_pos hg h1), Nat.le_trans (Nat.div_le_self _ _) h2, Nat.le_trans (Nat.div_le_self _ _) h3, Nat.dvd_trans (Nat.div_dvd_of_dvd hg) h4⟩
theorem num_le {L A B : Nat} (h : num L A B) (hL : L ≤ 9) : A ≤ 387420489 ∧ B ≤ 387420489 := by
  have : 9 ^ L ≤ 9 ^ 9 := Nat.pow_le_pow_right (by decide) hL
  have e : (9 : Nat) ^ 9 = 387420489 := by decide
  obtain ⟨h1, h2, h3, h4⟩ := h
  omega
theorem num_le2 {L A B : Nat} (h : num L A B) (hL : L ≤ 10) : A ≤ 3486784401 ∧ B ≤ 3486784401 := by
  have : 9 ^ L ≤ 9 ^ 10 := Nat.pow_le_pow_right (by decide) hL
  have e : (9 : Nat) ^ 10 = 3486784401 := by decide
  obtain ⟨h1, h2, h3, h4⟩ := h
  omega
theorem mul_le2 {A B : Nat} (hA : A ≤ 3486784401) (hB : B ≤ 387420489) : A * B < 2 ^ 63 := by
  have := Nat.mul_le_mul hA hB
  omega
theorem lN_z {n : Nat} (h : n < 2 ^ 63) : lN n = 0 ↔ n = 0 := pk_lEQ (b := 0) h (by decide)
theorem cmp_le {a b : Nat} (ha : a < 2 ^ 63) (hb : b < 2 ^ 63) : lg_cmp (lN a) (lN b) ≤ 0 ↔ a ≤ b := by
  unfold lg_cmp
  by_cases h : lN a > lN b
  · rw [if_pos h]
    have : b < a := (pk_lLT hb ha).mp h
    constructor
    · intro q; exact absurd q (by decide)
    · intro q; omega
  · rw [if_neg h]
    have : ¬ b < a := fun q => h ((pk_lLT hb ha).mpr q)
    constructor
    · intro _; omega
    · intro _; split <;> decide
theorem cmp_0 {a : Nat} (ha : a < 2 ^ 63) : 0 ≤ lg_cmp (lN a) 0 := by
  unfold lg_cmp
  by_cases h : lN a > 0
  · rw [if_pos h]; decide
  · rw [if_neg h]
    have h0 : a = 0 := by
      have : ¬ 0 < a := fun q => h ((pk_lLT (a := 0) (by decide) ha).mpr q)
      omega
    rw [if_pos ((lN_z ha).mpr h0)]; decide
theorem cmp_n0 {a : Nat} (ha : a < 2 ^ 63) : ¬ lg_cmp (lN a) 0 < 0 := by
  have h := cmp_0 ha
  rw [Int32.le_iff_toInt_le] at h
  rw [Int32.lt_iff_toInt_lt]
  omega
theorem cmp_z {a : Nat} (ha : a < 2 ^ 63) : lg_cmp (lN a) 0 = 0 ↔ a = 0 := (cmp0 _).trans (lN_z ha)
theorem gcd_s (a b : Nat) : Nat.gcd b (a % b) = Nat.gcd a b := by
  rw [Nat.gcd_comm a b, Nat.gcd_rec b a, Nat.gcd_comm]
theorem y_common {a b : Nat} (ha : a < 2 ^ 63) (hb : b < 2 ^ 63) (τ : mS) : f_Mo_common τ (lN a) (lN b) = some (lN (Nat.gcd a b)) := by
  unfold f_Mo_common
  obtain ⟨u, u1, u2⟩ := lpN_m (st := f_Mo_common_L6) (fun t => ∃ x y, t = (lN x, lN y) ∧ x < 2 ^ 63 ∧ y < 2 ^ 63 ∧ Nat.gcd x y = Nat.gcd a b) (fun u => u.1 = lN (Nat.gcd a b)) (fun t => t.2.toInt.toNat) (fun t ht => by
    obtain ⟨x, y, rfl, hx, hy, hg⟩ := ht
    unfold f_Mo_common_L6
    dsimp only
    by_cases q : y = 0
    · left
      rw [if_pos ((cmp_z hy).mpr q)]
      refine ⟨_, rfl, ?_⟩
      rw [← hg, q, Nat.gcd_zero_right]
    · right
      have hn : isNl (lN y) = true := decide_eq_true (fun z => q ((lN_z hy).mp z))
      rw [if_neg (fun z => q ((cmp_z hy).mp z)), gd_t hn, nm_e2, pk_lRem hx (by omega) hy]
      have hm : x % y < y := Nat.mod_lt _ (by omega)
      refine ⟨_, rfl, ⟨y, x % y, rfl, hy, by omega, by rw [gcd_s]; exact hg⟩, ?_⟩
      show (lN (x % y)).toInt.toNat < (lN y).toInt.toNat
      rw [pk_lT (by omega), pk_lT (by omega)]
      exact hm) fuB (lN a, lN b) ⟨a, b, rfl, ha, hb, rfl⟩ (by
        show (lN b).toInt.toNat < fuB
        rw [pk_lT (by omega), fuB_e, Int.toNat_natCast]
        omega)
  rw [u1, Option.bind_some, u2]
theorem x_common {a b : Nat} (ha : a < 2 ^ 30) (hb : b < 2 ^ 63) (σ : mS) : f_Tr_commonDivisor σ (lN a) (lN b) = some (lN (Nat.gcd b a)) := by
  unfold f_Tr_commonDivisor
  obtain ⟨u, u1, u2⟩ := lpN_i (st := f_Tr_commonDivisor_L9) (fun i t => ∃ x y, t = (lN x, lN y, nI i) ∧ x < 2 ^ 63 ∧ y < 2 ^ 63 ∧ Nat.gcd x y = Nat.gcd b a ∧ (∃ j, i + 2 * j ≤ 60 ∧ y < 2 ^ j ∨ i + 2 * j + 1 ≤ 60 ∧ y = y ∧ ∃ z, z < 2 ^ (j + 1) ∧ x = z ∧ y < z)) (fun u => u.1 = lN (Nat.gcd b a)) 64 (fun i t hi ht => by
    obtain ⟨x, y, rfl, hx, hy, hg, hj⟩ := ht
    unfold f_Tr_commonDivisor_L9
    dsimp only
    have hi60 : i ≤ 60 := by
      obtain ⟨j, hj⟩ := hj
      rcases hj with ⟨h1, _⟩ | ⟨h1, _⟩ <;> omega
    rw [if_neg (show ¬ (64 : Int32) ≤ nI i from nI_ge (a := i) (b := 64) (by omega) (by decide))]
    by_cases q : y = 0
    · left
      rw [if_pos ((cmp_z hy).mpr q)]
      refine ⟨_, rfl, ?_⟩
      rw [← hg, q, Nat.gcd_zero_right]
    · right
      have hn : isNl (lN y) = true := decide_eq_true (fun z => q ((lN_z hy).mp z))
      rw [if_neg (fun z => q ((cmp_z hy).mp z)), gd_t hn, nm_e2, pk_lRem hx (by omega) hy]
      have hm : x % y < y := Nat.mod_lt _ (by omega)
      refine ⟨by omega, _, rfl, y, x % y, by rw [nI_1], hy, by omega, by rw [gcd_s]; exact hg, ?_⟩
      obtain ⟨j, hj⟩ := hj
      rcases hj with ⟨h1, h2⟩ | ⟨h1, _, z, h2, h3, h4⟩
      · -- y < 2^j: the next has x < 2^j
        cases j with
        | zero => simp at h2; omega
        | succ j => exact ⟨j, Or.inr ⟨by omega, rfl, y, h2, rfl, hm⟩⟩
      · -- x < 2^(j+1), y < x: x % y < 2^j
        subst h3
        refine ⟨j, Or.inl ⟨by omega, ?_⟩⟩
        rw [Nat.pow_succ] at h2
        have e := Nat.div_add_mod x y
        have hd : 1 ≤ x / y := (Nat.le_div_iff_mul_le (by omega)).mpr (by omega)
        have : y ≤ y * (x / y) := Nat.le_mul_of_pos_right _ hd
        omega) fuS 0 (lN b, lN a, 0) ⟨b, a, rfl, hb, by omega, rfl, 30, Or.inl ⟨by omega, ha⟩⟩ (Nat.zero_le _) (by rw [fuS_e]; omega)
  rw [u1, Option.bind_some, u2]
theorem low_eq {A B A' B' : Nat} (hB : 1 ≤ B) (hB' : 1 ≤ B') (hc : Nat.gcd A' B' = 1) (h : A' * B = A * B') : A' = A / Nat.gcd B A ∧ B' = B / Nat.gcd B A := by
  rw [Nat.gcd_comm]
  have hg : 0 < Nat.gcd A B := Nat.gcd_pos_of_pos_right _ hB
  have hco : Nat.Coprime (A / Nat.gcd A B) (B / Nat.gcd A B) := Nat.coprime_div_gcd_div_gcd hg
  obtain ⟨α, hα⟩ := Nat.gcd_dvd_left A B
  obtain ⟨β, hβ⟩ := Nat.gcd_dvd_right A B
  have e1 : A / Nat.gcd A B = α := Nat.div_eq_of_eq_mul_right hg hα
  have e2 : B / Nat.gcd A B = β := Nat.div_eq_of_eq_mul_right hg hβ
  rw [e1, e2] at hco ⊢
  have hx : A' * β = α * B' := by
    have : Nat.gcd A B * (A' * β) = Nat.gcd A B * (α * B') := by
      calc Nat.gcd A B * (A' * β) = A' * (Nat.gcd A B * β) := by simp only [Nat.mul_comm, Nat.mul_left_comm, Nat.mul_assoc]
        _ = A' * B := by rw [← hβ]
        _ = A * B' := h
        _ = (Nat.gcd A B * α) * B' := by rw [← hα]
        _ = Nat.gcd A B * (α * B') := Nat.mul_assoc _ _ _
    exact Nat.eq_of_mul_eq_mul_left hg this
  have hc : Nat.Coprime A' B' := hc
  constructor
  · refine Nat.dvd_antisymm ?_ ?_
    · exact hc.dvd_of_dvd_mul_right (by rw [← hx]; exact Nat.dvd_mul_right _ _)
    · exact hco.dvd_of_dvd_mul_right (by rw [hx]; exact Nat.dvd_mul_right _ _)
  · refine Nat.dvd_antisymm ?_ ?_
    · exact hc.symm.dvd_of_dvd_mul_left (by rw [hx]; exact Nat.dvd_mul_left _ _)
    · exact hco.symm.dvd_of_dvd_mul_left (by rw [← hx]; exact Nat.dvd_mul_left _ _)
def hTr (G : GT) (e y : Nat) : Nat := if y = 0 then 0 else min ((y - 1) * ga G e / gb G e) (y - 1) + 1
theorem hTr_ok (G : GT) : hOK (hTr G) := by
  intro e y
  unfold hTr
  by_cases q : y = 0
  · rw [if_pos q]; omega
  · rw [if_neg q]
    have := Nat.min_le_right ((y - 1) * ga G e / gb G e) (y - 1)
    omega
theorem hTr_e {G : GT} {e A B L : Nat} (hW : WG G) (he : e < gm G) (hn : num L A B) (hL : L ≤ 9) : hTr G e (qT A B + 1) = qT (A * ga G e) (B * gb G e) + 1 := by
  obtain ⟨_, _, _, _, hab, hb1, hb9⟩ := hW.2.2.1 e he
  unfold hTr
  rw [if_neg (by omega), Nat.add_sub_cancel]
  have hq := q_step (A := A) (a := ga G e) hn.1 hb1 (num_dvd (num_step (a := ga G e) hn (by omega) hb1 hb9) (by omega))
  rw [Nat.min_eq_left, hq]
  exact Nat.div_le_of_le_mul (by rw [Nat.mul_comm]; exact Nat.mul_le_mul_right _ hab)
def frL (c d : Nat) (σ σ' : mS) : Prop := σ'.1 = σ.1 ∧ (∀ k j, k ≠ c → k ≠ d → σ'.2.1 k j = σ.2.1 k j) ∧ σ'.2.2 = σ.2.2
theorem frL_s {c d : Nat} {σ σ' : mS} (h : frL c d σ σ') {k j : Nat} {v : Int64} (hk : k = c ∨ k = d) : frL c d σ (sJ σ' k j v) := by
  refine ⟨h.1, fun k' j' h1 h2 => ?_, h.2.2⟩
  rw [sJ_2, if_neg (by rcases hk with hk | hk <;> omega)]
  exact h.2.1 k' j' h1 h2
theorem frL_X {G : GT} {σ σ' : mS} (h : frL 97 98 σ σ') (hX : RX G σ) : RX G σ' := by
  unfold RX at *
  rw [h.1, h.2.1 1 8 (by decide) (by decide)]
  exact hX
theorem frL_Y {G : GT} {τ τ' : mS} (h : frL 20 21 τ τ') (hY : RY G τ) : RY G τ' := by
  unfold RY at *
  rw [h.1]; exact hY
def TX1 (σ : mS) (S : BS) (v : Nat) : Prop := (S.1 v = 0 → σ.2.1 98 v = 0) ∧ (S.1 v ≠ 0 → ∃ A B, σ.2.1 97 v = lN A ∧ σ.2.1 98 v = lN B ∧ num ((S.2 v).length - 1) A B ∧ S.1 v = qT A B + 1)
def TY1 (σ : mS) (S : BS) (v : Nat) : Prop := (S.1 v = 0 → σ.2.1 20 v = -1) ∧ (S.1 v ≠ 0 → ∃ A B, σ.2.1 20 v = lN A ∧ σ.2.1 21 v = lN B ∧ num ((S.2 v).length - 1) A B ∧ Nat.gcd A B = 1 ∧ S.1 v = qT A B + 1)
def NX (G : GT) (σ0 σ : mS) (S : BS) : Prop := frL 97 98 σ0 σ ∧ INV G S ∧ ∀ v, v < gN G → TX1 σ S v
def NY (G : GT) (σ0 σ : mS) (S : BS) : Prop := frL 20 21 σ0 σ ∧ INV G S ∧ ∀ v, v < gN G → TY1 σ S v
theorem INV_9 {G : GT} {S : BS} (hW : WG G) (hI : INV G S) {v : Nat} (hv : v < gN G) (h0 : S.1 v ≠ 0) : (S.2 v).length - 1 + 1 = (S.2 v).length ∧ (S.2 v).length - 1 ≤ 9 := by
  have h1 := INV_len hI hv (Nat.pos_of_ne_zero h0)
  have h2 := (hI v hv (Nat.pos_of_ne_zero h0)).1
  have := hW.1
  omega
theorem x_knows {G : GT} {σ0 σ : mS} {S : BS} (hW : WG G) (hM : NX G σ0 σ S) {v : Nat} (hv : v < gN G) : f_Tr_knows σ (nI v) = some (bI (!decide (S.1 v = 0))) := by
  have hN := hW.1
  unfold f_Tr_knows
  rw [gd_t (inb_n (by omega) (by decide)), nI_clamp (by omega)]
  obtain ⟨h1, h2⟩ := hM.2.2 v hv
  by_cases q : S.1 v = 0
  · rw [h1 q, decide_eq_true q]; rfl
  · obtain ⟨A, B, _, e2, hn, _⟩ := h2 q
    have hB := (num_le hn (INV_9 hW hM.2.1 hv q).2).2
    have hB1 := hn.1
    rw [e2, if_neg (fun z => by have := (cmp_z (by omega)).mp z; omega), decide_eq_false q]; rfl
/-- what stands after an arc has bettered its end -/
theorem tr_new {G : GT} {σ0 σ : mS} {S : BS} {e A B : Nat} (hW : WG G) (hM : NX G σ0 σ S) (he : e < gm G) (hc : rlC G (hTr G) S e = true) (hu : S.1 (gf G e) ≠ 0) (hn : num ((S.2 (gf G e)).length - 1) A B) (hq : S.1 (gf G e) = qT A B + 1) : NX G σ0 (sJ (sJ σ 97 (gt G e) (lN (A * ga G e))) 98 (gt G e) (lN (B * gb G e))) (rl1 G (hTr G) S e) := by
  obtain ⟨gu, gv, gne, gwe, hab, hb1, hb9⟩ := hW.2.2.1 e he
  obtain ⟨l1, l2⟩ := INV_9 hW hM.2.1 gu hu
  refine ⟨frL_s (frL_s hM.1 (Or.inl rfl)) (Or.inr rfl), INV_1 hW (hTr_ok G) hM.2.1 he, fun v hv => ?_⟩
  rw [rl1, if_pos hc]
  unfold TX1
  show (va_up S.1 _ _ v = 0 → _) ∧ (va_up S.1 _ _ v ≠ 0 → ∃ A B, _ ∧ _ ∧ num ((va_up S.2 _ _ v).length - 1) A B ∧ va_up S.1 _ _ v = qT A B + 1)
  simp only [sJ_2]
  by_cases q : v = gt G e
  · subst q
    rw [va_up_self, va_up_self, hq, hTr_e hW he hn l2]
    refine ⟨fun z => by omega, fun _ => ⟨A * ga G e, B * gb G e, by simp, by simp, ?_, rfl⟩⟩
    rw [List.length_cons, Nat.add_sub_cancel, ← l1]
    exact num_step hn (by omega) hb1 hb9
  · rw [va_up_ne _ _ q, va_up_ne _ _ q]
    simpa [q, TX1] using hM.2.2 v hv
theorem tr_pass {G : GT} {σ0 σ : mS} {S : BS} {e : Nat} (hW : WG G) (hX : RX G σ0) (hM : NX G σ0 σ S) (he : e < gm G) (hg : gl G e = true) (hu : S.1 (gf G e) ≠ 0) : ∃ σ', f_Tr_pass σ (nI e) = some σ' ∧ NX G σ0 σ' (rl1 G (hTr G) S e) := by
  have hN := hW.1
  have hm := hW.2.1
  obtain ⟨gu, gv, gne, gwe, hab, hb1, hb9⟩ := hW.2.2.1 e he
  have hXt := frL_X hM.1 hX
  obtain ⟨c1, c2, c3, c4, c5⟩ := hXt.2.2.1 e he
  obtain ⟨A, B, a1, a2, hn, hq⟩ := (hM.2.2 _ gu).2 hu
  obtain ⟨l1, l2⟩ := INV_9 hW hM.2.1 gu hu
  have hci : (nI e).toNatClampNeg = e := nI_clamp (by omega)
  have hcu : (nI (gf G e)).toNatClampNeg = gf G e := nI_clamp (by omega)
  have hcv : (nI (gt G e)).toNatClampNeg = gt G e := nI_clamp (by omega)
  have hb1' : inb (nI e) 40 = true := inb_n (by omega) (by decide)
  have hb2 : inb (nI (gf G e)) 10 = true := inb_n (by omega) (by decide)
  have hb3 : inb (nI (gt G e)) 10 = true := inb_n (by omega) (by decide)
  have hs : hTr G e (S.1 (gf G e)) = qT (A * ga G e) (B * gb G e) + 1 := by rw [hq, hTr_e hW he hn l2]
  have hn2 := num_step (a := ga G e) hn (by omega) hb1 hb9
  unfold f_Tr_pass
  rw [gd_t hb1', nm_e2, gd_t hb1', hci, c1, c2, c4, c5, gd_t hb2, gd_t hb1', nm_e2, gd_t hb1', gd_t hb2, gd_t hb1', nm_e2, hcu, hcv, a1, a2, nI_l (by omega), nI_l (by omega), lN_mul, lN_mul, x_knows hW hM gv, Option.bind_some]
  by_cases q : S.1 (gt G e) = 0
  · rw [decide_eq_true q]
    rw [if_pos (by rfl), gd_t hb3, nm_e2, gd_t hb3, nm_e2]
    refine ⟨_, rfl, tr_new hW hM he ?_ hu hn hq⟩
    unfold rlC; rw [hg, decide_eq_true (by omega)]; rfl
  · rw [decide_eq_false q]
    obtain ⟨A', B', a1', a2', hn', hq'⟩ := (hM.2.2 _ gv).2 q
    obtain ⟨l1', l2'⟩ := INV_9 hW hM.2.1 gv q
    have b1 := num_le hn' l2'
    have b2 := num_le2 hn2 (by omega)
    rw [if_neg (show ¬ bI (!false) = 0 from n10), gd_t hb3, gd_t hb3, a1', a2', lN_mul, lN_mul]
    have hk : rlC G (hTr G) S e = true ↔ A' * (B * gb G e) < A * ga G e * B' := by
      unfold rlC
      rw [hg, Bool.true_and, decide_eq_true_iff, hs, hq', Nat.add_lt_add_iff_right]
      exact q_lt hn'.1 hn2.1 (num_dvd hn' (by omega)) (num_dvd hn2 (by omega))
    have hcmp := cmp_le (mul_le2 b2.1 b1.2) (b := A' * (B * gb G e)) (by rw [Nat.mul_comm]; exact mul_le2 b2.2 b1.1)
    by_cases z : A * ga G e * B' ≤ A' * (B * gb G e)
    · rw [if_pos (hcmp.mpr z)]
      refine ⟨_, rfl, ?_⟩
      rw [rl1, if_neg (fun y => by have := hk.mp y; omega)]
      exact hM
    · rw [if_neg (fun y => z (hcmp.mp y)), gd_t hb3, nm_e2, gd_t hb3, nm_e2]
      exact ⟨_, rfl, tr_new hW hM he (hk.mpr (by omega)) hu hn hq⟩
theorem tr_round {G : GT} {σ0 σ : mS} {S : BS} (hW : WG G) (hX : RX G σ0) (hM : NX G σ0 σ S) : ∃ u, lpN f_Tr_spread_L61 fuS (0, σ) = some u ∧ NX G σ0 u.2 (rlP G (hTr G) S (gm G)) := by
  have hm := hW.2.1
  have hN := hW.1
  refine lpN_i (st := f_Tr_spread_L61) (fun i t => t.1 = nI i ∧ NX G σ0 t.2 (rlP G (hTr G) S i)) (fun u => NX G σ0 u.2 (rlP G (hTr G) S (gm G))) (gm G) (fun i t hi ht => ?_) fuS 0 (0, σ) ⟨rfl, hM⟩ (Nat.zero_le _) (by rw [fuS_e]; omega)
  obtain ⟨ti, t⟩ := t
  obtain ⟨t1, hMt⟩ := ht
  have t1 : ti = nI i := t1
  subst t1
  have hMt : NX G σ0 t (rlP G (hTr G) S i) := hMt
  have hXt := frL_X hMt.1 hX
  unfold f_Tr_spread_L61
  dsimp only
  rw [hXt.2.1]
  by_cases hc : i = gm G
  · subst hc
    left
    rw [if_pos (nI_le (Nat.le_refl _) (by omega))]
    exact ⟨_, rfl, hMt⟩
  · right
    have hi2 : i < gm G := by omega
    refine ⟨hi2, ?_⟩
    obtain ⟨gu, gv, gne, _⟩ := hW.2.2.1 i hi2
    rw [if_neg (nI_ge hi2 (by omega)), x_hasArc hW hXt, aIn_n hW hi2, Option.bind_some]
    have hskip : rlC G (hTr G) (rlP G (hTr G) S i) i = false → NX G σ0 t (rlP G (hTr G) S (i + 1)) := by
      intro q
      rw [rlP, rl1, if_neg (by rw [q]; decide)]; exact hMt
    cases hg : gl G i with
    | false =>
      rw [if_pos bF]
      exact ⟨_, rfl, nI_1 _, hskip (by unfold rlC; rw [hg, Bool.false_and])⟩
    | true =>
      have hci : (nI i).toNatClampNeg = i := nI_clamp (by omega)
      rw [if_neg bT, gd_t (inb_n (by omega) (by decide)), hci, (hXt.2.2.1 i hi2).1, x_knows hW hMt gu, Option.bind_some]
      by_cases q : (rlP G (hTr G) S i).1 (gf G i) = 0
      · rw [decide_eq_true q, if_pos (by rfl)]
        refine ⟨_, rfl, nI_1 _, hskip ?_⟩
        unfold rlC
        rw [q, show hTr G i 0 = 0 from rfl]
        simp
      · rw [decide_eq_false q, if_neg (show ¬ bI (!false) = 0 from n10)]
        obtain ⟨σ', p1, p2⟩ := tr_pass hW hX hMt hi2 hg q
        rw [p1, Option.bind_some]
        exact ⟨_, rfl, nI_1 _, p2⟩
theorem q_11 : qT 1 1 = MM := by unfold qT; simp
theorem x_trust {G : GT} {σ : mS} {s : Nat} (hW : WG G) (hX : RX G σ) (hs : s < gN G) : ∃ σ', f_Tr_spread σ (nI s) = some σ' ∧ NX G σ σ' (rlR G (hTr G) (S0 s (MM + 1)) (gN G - 1)) := by
  have hN := hW.1
  unfold f_Tr_spread
  obtain ⟨u, u1, u2, u3⟩ := lpN_i (st := f_Tr_spread_L2 (nI s)) (fun i t => t.1 = nI i ∧ frL 97 98 σ t.2 ∧ ∀ v, v < i → t.2.2.1 97 v = (if v = s then 1 else 0) ∧ t.2.2.1 98 v = (if v = s then 1 else 0)) (fun u => frL 97 98 σ u.2 ∧ ∀ v, v < 10 → u.2.2.1 97 v = (if v = s then 1 else 0) ∧ u.2.2.1 98 v = (if v = s then 1 else 0)) 10 (fun i t hi ht => by
    obtain ⟨ti, t⟩ := t
    obtain ⟨t1, t2, t3⟩ := ht
    have t1 : ti = nI i := t1
    subst t1
    unfold f_Tr_spread_L2
    dsimp only
    by_cases hc : i = 10
    · subst hc
      left
      rw [if_pos (by decide)]
      exact ⟨_, rfl, t2, t3⟩
    · right
      have hi2 : i < 10 := by omega
      refine ⟨hi2, ?_⟩
      have hci : (nI i).toNatClampNeg = i := nI_clamp (by omega)
      have hb : inb (nI i) 10 = true := inb_n hi2 (by decide)
      have key : ∀ y : Int64, y = (if i = s then 1 else 0) → frL 97 98 σ (sJ (sJ t 97 i y) 98 i y) ∧ ∀ v, v < i + 1 → (sJ (sJ t 97 i y) 98 i y).2.1 97 v = (if v = s then 1 else 0) ∧ (sJ (sJ t 97 i y) 98 i y).2.1 98 v = (if v = s then 1 else 0) := by
        intro y hy
        refine ⟨frL_s (frL_s t2 (Or.inl rfl)) (Or.inr rfl), fun v hv => ?_⟩
        simp only [sJ_2]
        by_cases q : v = i
        · subst q; simp [hy]
        · simpa [q] using t3 v (by omega)
      rw [if_neg (show ¬ (10 : Int32) ≤ nI i from nI_ge (a := i) (b := 10) hi2 (by decide))]
      unfold f_Tr_spread_J23
      dsimp only
      rw [gd_t hb, nm_e2, gd_t hb, nm_e2, gd_t hb, nm_e2, gd_t hb, nm_e2, gd_t hb, nm_e2, gd_t hb, nm_e2, hci]
      by_cases q : i = s
      · subst q
        rw [if_pos rfl, if_pos rfl]
        exact ⟨_, rfl, nI_1 _, key 1 (by rw [if_pos rfl])⟩
      · have q' : ¬ nI i = nI s := fun z => q ((nI_eq (by omega) (by omega)).mp z)
        rw [if_neg q', if_neg q']
        exact ⟨_, rfl, nI_1 _, key 0 (by rw [if_neg q])⟩) fuS 0 (0, σ) ⟨rfl, ⟨rfl, fun _ _ _ _ => rfl, rfl⟩, fun v hv => absurd hv (Nat.not_lt_zero _)⟩ (Nat.zero_le _) (by rw [fuS_e]; omega)
  rw [u1, Option.bind_some]
  have hM0 : NX G σ u.2 (S0 s (MM + 1)) := by
    refine ⟨u2, INV_0 hs, fun v hv => ?_⟩
    obtain ⟨e1, e2⟩ := u3 v (by omega)
    unfold TX1
    rw [e1, e2]
    show ((if v = s then MM + 1 else 0) = 0 → _) ∧ ((if v = s then MM + 1 else 0) ≠ 0 → ∃ A B, _ ∧ _ ∧ num ((if v = s then [(s, MM + 1)] else []).length - 1) A B ∧ (if v = s then MM + 1 else 0) = qT A B + 1)
    by_cases q : v = s
    · simp only [if_pos q]
      exact ⟨fun z => by omega, fun _ => ⟨1, 1, rfl, rfl, ⟨Nat.le_refl _, Nat.le_refl _, Nat.le_refl _, Nat.dvd_refl _⟩, by rw [q_11]⟩⟩
    · simp only [if_neg q]
      exact ⟨fun _ => trivial, fun z => absurd rfl z⟩
  obtain ⟨w, w1, w2⟩ := lpN_i (st := f_Tr_spread_L48) (fun i t => t.1 = nI (i + 1) ∧ NX G σ t.2 (rlR G (hTr G) (S0 s (MM + 1)) i)) (fun u => NX G σ u.2 (rlR G (hTr G) (S0 s (MM + 1)) (gN G - 1))) (gN G - 1) (fun i t hi ht => by
    obtain ⟨ti, t⟩ := t
    obtain ⟨t1, t2⟩ := ht
    have t1 : ti = nI (i + 1) := t1
    subst t1
    have t2 : NX G σ t (rlR G (hTr G) (S0 s (MM + 1)) i) := t2
    have hXt := frL_X t2.1 hX
    unfold f_Tr_spread_L48
    dsimp only
    rw [hXt.1]
    by_cases hc : i = gN G - 1
    · left
      rw [if_pos (nI_le (by omega) (by omega))]
      exact ⟨_, rfl, by rw [← hc]; exact t2⟩
    · right
      refine ⟨by omega, ?_⟩
      rw [if_neg (nI_ge (by omega) (by omega))]
      obtain ⟨p, p1, p2⟩ := tr_round hW hX t2
      rw [p1, Option.bind_some]
      exact ⟨_, rfl, nI_1 _, p2⟩) fuS 0 (1, u.2) ⟨rfl, hM0⟩ (Nat.zero_le _) (by rw [fuS_e]; omega)
  rw [w1, Option.bind_some]
  exact ⟨_, rfl, w2⟩
theorem tr_newY {G : GT} {σ0 σ : mS} {S : BS} {e A B : Nat} (hW : WG G) (hM : NY G σ0 σ S) (he : e < gm G) (hc : rlC G (hTr G) S e = true) (hu : S.1 (gf G e) ≠ 0) (hn : num ((S.2 (gf G e)).length - 1) A B) (hq : S.1 (gf G e) = qT A B + 1) : NY G σ0 (sJ (sJ σ 20 (gt G e) (lN (A * ga G e / Nat.gcd (A * ga G e) (B * gb G e)))) 21 (gt G e) (lN (B * gb G e / Nat.gcd (A * ga G e) (B * gb G e)))) (rl1 G (hTr G) S e) := by
  obtain ⟨gu, gv, gne, gwe, hab, hb1, hb9⟩ := hW.2.2.1 e he
  obtain ⟨l1, l2⟩ := INV_9 hW hM.2.1 gu hu
  refine ⟨frL_s (frL_s hM.1 (Or.inl rfl)) (Or.inr rfl), INV_1 hW (hTr_ok G) hM.2.1 he, fun v hv => ?_⟩
  rw [rl1, if_pos hc]
  unfold TY1
  show (va_up S.1 _ _ v = 0 → _) ∧ (va_up S.1 _ _ v ≠ 0 → ∃ A B, _ ∧ _ ∧ num ((va_up S.2 _ _ v).length - 1) A B ∧ _ ∧ va_up S.1 _ _ v = qT A B + 1)
  simp only [sJ_2]
  by_cases q : v = gt G e
  · subst q
    have hn2 := num_step (a := ga G e) hn (by omega) hb1 hb9
    rw [va_up_self, va_up_self, hq, hTr_e hW he hn l2]
    refine ⟨fun z => by omega, fun _ => ⟨A * ga G e / Nat.gcd (A * ga G e) (B * gb G e), B * gb G e / Nat.gcd (A * ga G e) (B * gb G e), by simp, by simp, ?_, Nat.coprime_div_gcd_div_gcd (Nat.gcd_pos_of_pos_right _ hn2.1), ?_⟩⟩
    · rw [List.length_cons, Nat.add_sub_cancel, ← l1]
      exact num_red hn2 (Nat.gcd_dvd_right _ _)
    · rw [q_red hn2.1 (Nat.gcd_dvd_left _ _) (Nat.gcd_dvd_right _ _) (num_dvd hn2 (by omega))]
  · rw [va_up_ne _ _ q, va_up_ne _ _ q]
    simpa [q, TY1] using hM.2.2 v hv
theorem ty_round {G : GT} {τ0 τ : mS} {S : BS} (hW : WG G) (hY : RY G τ0) (hM : NY G τ0 τ S) : ∃ u, lpN f_Mo_trust_L95 fuB (0, 0, τ) = some u ∧ u.1 = bI (chg G (hTr G) S (gm G)) ∧ NY G τ0 u.2.2 (rlP G (hTr G) S (gm G)) := by
  have hm := hW.2.1
  have hN := hW.1
  refine lpN_i (st := f_Mo_trust_L95) (fun i t => t.1 = bI (chg G (hTr G) S i) ∧ t.2.1 = nI i ∧ NY G τ0 t.2.2 (rlP G (hTr G) S i)) (fun u => u.1 = bI (chg G (hTr G) S (gm G)) ∧ NY G τ0 u.2.2 (rlP G (hTr G) S (gm G))) (gm G) (fun i t hi ht => ?_) fuB 0 (0, 0, τ) ⟨rfl, rfl, hM⟩ (Nat.zero_le _) (by rw [fuB_e]; omega)
  obtain ⟨tf, ti, t⟩ := t
  obtain ⟨t0, t1, hMt⟩ := ht
  have t0 : tf = bI (chg G (hTr G) S i) := t0
  have t1 : ti = nI i := t1
  subst t0
  subst t1
  have hMt : NY G τ0 t (rlP G (hTr G) S i) := hMt
  have hYt := frL_Y hMt.1 hY
  unfold f_Mo_trust_L95
  dsimp only
  rw [hYt.2.1]
  by_cases hc : i = gm G
  · subst hc
    left
    rw [if_pos (nI_le (Nat.le_refl _) (by omega))]
    exact ⟨_, rfl, rfl, hMt⟩
  · right
    have hi2 : i < gm G := by omega
    refine ⟨hi2, ?_⟩
    obtain ⟨gu, gv, gne, gwe, hab, hb1, hb9⟩ := hW.2.2.1 i hi2
    obtain ⟨c1, c2, _, c4, c5, c6⟩ := hYt.2.2.1 i hi2
    have hci : (nI i).toNatClampNeg = i := nI_clamp (by omega)
    have hcu : (nI (gf G i)).toNatClampNeg = gf G i := nI_clamp (by omega)
    have hcv : (nI (gt G i)).toNatClampNeg = gt G i := nI_clamp (by omega)
    have hb1' : inb (nI i) 40 = true := inb_n (by omega) (by decide)
    have hb2 : inb (nI (gf G i)) 10 = true := inb_n (by omega) (by decide)
    have hb3 : inb (nI (gt G i)) 10 = true := inb_n (by omega) (by decide)
    rw [if_neg (nI_ge hi2 (by omega)), gd_t hb1', nm_e2, gd_t hb1', nm_e2, gd_t hb1', hci, c1, c2, c4, c5, c6, hcu, hcv]
    have hskip : rlC G (hTr G) (rlP G (hTr G) S i) i = false → ∃ t', some (Sum.inl (bI (chg G (hTr G) S i), nI i + 1, t) : (Int32 × Int32 × mS) ⊕ (Int32 × Int32 × mS)) = some (.inl t') ∧ t'.1 = bI (chg G (hTr G) S (i + 1)) ∧ t'.2.1 = nI (i + 1) ∧ NY G τ0 t'.2.2 (rlP G (hTr G) S (i + 1)) := by
      intro q
      refine ⟨_, rfl, ?_, nI_1 _, ?_⟩
      · rw [chg, q, Bool.or_false]
      · rw [rlP, rl1, if_neg (by rw [q]; decide)]; exact hMt
    cases hg : gl G i with
    | false =>
      rw [if_pos bF]
      exact hskip (by unfold rlC; rw [hg, Bool.false_and])
    | true =>
      rw [if_neg bT, gd_t hb2]
      have hTu := hMt.2.2 _ gu
      have hTv := hMt.2.2 _ gv
      generalize hT : rlP G (hTr G) S i = T at *
      by_cases q : T.1 (gf G i) = 0
      · rw [hTu.1 q, if_neg (by decide)]
        refine hskip ?_
        unfold rlC
        rw [q, show hTr G i 0 = 0 from rfl]
        simp
      · obtain ⟨A, B, a1, a2, hn, hco, hq⟩ := hTu.2 q
        obtain ⟨l1, l2⟩ := INV_9 hW hMt.2.1 gu q
        have hn2 := num_step (a := ga G i) hn (by omega) hb1 hb9
        have b0 := num_le hn l2
        have b2 := num_le2 hn2 (by omega)
        have hn3 := num_red hn2 (Nat.gcd_dvd_right (A * ga G i) (B * gb G i))
        have b3 := num_le2 hn3 (by omega)
        have hgp : 0 < Nat.gcd (A * ga G i) (B * gb G i) := Nat.gcd_pos_of_pos_right _ hn2.1
        have hgle : Nat.gcd (A * ga G i) (B * gb G i) ≤ B * gb G i := Nat.le_of_dvd hn2.1 (Nat.gcd_dvd_right _ _)
        have hnl : isNl (lN (Nat.gcd (A * ga G i) (B * gb G i))) = true := decide_eq_true (fun z => by have := (lN_z (by omega)).mp z; omega)
        have hs : hTr G i (T.1 (gf G i)) = qT (A * ga G i) (B * gb G i) + 1 := by rw [hq, hTr_e hW hi2 hn l2]
        rw [a1, a2, if_pos (cmp_0 (by omega)), gd_t hb2, gd_t hb1', nm_e2, gd_t hb2, gd_t hb1', nm_e2, nI_l (by omega), nI_l (by omega), lN_mul, lN_mul, y_common (by omega) (by omega), Option.bind_some, gd_t hb3, pk_lDiv (by omega) hgp (by omega), pk_lDiv (by omega) hgp (by omega)]
        have hset : rlC G (hTr G) T i = true → ∃ t', some (Sum.inl (1, nI i + 1, sJ (sJ t 20 (gt G i) (lN (A * ga G i / Nat.gcd (A * ga G i) (B * gb G i)))) 21 (gt G i) (lN (B * gb G i / Nat.gcd (A * ga G i) (B * gb G i)))) : (Int32 × Int32 × mS) ⊕ (Int32 × Int32 × mS)) = some (.inl t') ∧ t'.1 = bI (chg G (hTr G) S (i + 1)) ∧ t'.2.1 = nI (i + 1) ∧ NY G τ0 t'.2.2 (rlP G (hTr G) S (i + 1)) := by
          intro hcc
          refine ⟨_, rfl, ?_, nI_1 _, ?_⟩
          · rw [chg, hT, hcc, Bool.or_true]; rfl
          · rw [rlP, hT]; exact tr_newY hW hMt hi2 hcc q hn hq
        by_cases q2 : T.1 (gt G i) = 0
        · rw [hTv.1 q2, if_pos (by decide), gd_t hnl, gd_t hb3, nm_e2, gd_t hnl, gd_t hb3, nm_e2]
          refine hset ?_
          unfold rlC; rw [hg, decide_eq_true (by omega)]; rfl
        · obtain ⟨A', B', a1', a2', hn', hco', hq'⟩ := hTv.2 q2
          obtain ⟨l1', l2'⟩ := INV_9 hW hMt.2.1 gv q2
          have b1 := num_le hn' l2'
          rw [a1', a2', if_neg (cmp_n0 (by omega)), gd_t hnl, gd_t hb3, gd_t hb3, gd_t hnl, lN_mul, lN_mul]
          have hk : rlC G (hTr G) T i = true ↔ A' * (B * gb G i / Nat.gcd (A * ga G i) (B * gb G i)) < A * ga G i / Nat.gcd (A * ga G i) (B * gb G i) * B' := by
            unfold rlC
            rw [hg, Bool.true_and, decide_eq_true_iff, hs, hq', Nat.add_lt_add_iff_right, ← q_red hn2.1 (Nat.gcd_dvd_left (A * ga G i) (B * gb G i)) (Nat.gcd_dvd_right (A * ga G i) (B * gb G i)) (num_dvd hn2 (by omega))]
            exact q_lt hn'.1 hn3.1 (num_dvd hn' (by omega)) (num_dvd hn3 (by omega))
          have hcmp := cmp_le (mul_le2 b3.1 b1.2) (b := A' * (B * gb G i / Nat.gcd (A * ga G i) (B * gb G i))) (by rw [Nat.mul_comm]; exact mul_le2 b3.2 b1.1)
          by_cases z : A * ga G i / Nat.gcd (A * ga G i) (B * gb G i) * B' ≤ A' * (B * gb G i / Nat.gcd (A * ga G i) (B * gb G i))
          · rw [if_pos (hcmp.mpr z)]
            refine hskip ?_
            cases hz : rlC G (hTr G) T i with
            | false => rfl
            | true => have := hk.mp hz; omega
          · rw [if_neg (fun y => z (hcmp.mp y)), gd_t hnl, gd_t hb3, nm_e2, gd_t hnl, gd_t hb3, nm_e2]
            exact hset (hk.mpr (by omega))
theorem y_trust {G : GT} {τ : mS} {s : Nat} (hW : WG G) (hY : RY G τ) (hs : s < gN G) : ∃ u, ((lpN (f_Mo_trust_L38 (nI s)) fuB (0, τ)).bind fun u38 => lpN (f_Mo_trust_L84) fuB (1, u38.2)) = some u ∧ NY G τ u.2 (rlR G (hTr G) (S0 s (MM + 1)) (gN G - 1)) := by
  have hN := hW.1
  obtain ⟨u, u1, u2, u3⟩ := lpN_i (st := f_Mo_trust_L38 (nI s)) (fun i t => t.1 = nI i ∧ frL 20 21 τ t.2 ∧ ∀ v, v < i → t.2.2.1 20 v = (if v = s then 1 else -1) ∧ t.2.2.1 21 v = 1) (fun u => frL 20 21 τ u.2 ∧ ∀ v, v < gN G → u.2.2.1 20 v = (if v = s then 1 else -1) ∧ u.2.2.1 21 v = 1) (gN G) (fun i t hi ht => by
    obtain ⟨ti, t⟩ := t
    obtain ⟨t1, t2, t3⟩ := ht
    have t1 : ti = nI i := t1
    subst t1
    have t2 : frL 20 21 τ t := t2
    unfold f_Mo_trust_L38
    dsimp only
    rw [(frL_Y t2 hY).1]
    by_cases hc : i = gN G
    · subst hc
      left
      rw [if_pos (nI_le (Nat.le_refl _) (by omega))]
      exact ⟨_, rfl, t2, t3⟩
    · right
      have hi2 : i < gN G := by omega
      refine ⟨hi2, ?_⟩
      have hci : (nI i).toNatClampNeg = i := nI_clamp (by omega)
      have hb : inb (nI i) 10 = true := inb_n (by omega) (by decide)
      have key : ∀ y : Int64, y = (if i = s then 1 else -1) → frL 20 21 τ (sJ (sJ t 20 i y) 21 i 1) ∧ ∀ v, v < i + 1 → (sJ (sJ t 20 i y) 21 i 1).2.1 20 v = (if v = s then 1 else -1) ∧ (sJ (sJ t 20 i y) 21 i 1).2.1 21 v = 1 := by
        intro y hy
        refine ⟨frL_s (frL_s t2 (Or.inl rfl)) (Or.inr rfl), fun v hv => ?_⟩
        simp only [sJ_2]
        by_cases q : v = i
        · subst q; simp [hy]
        · simpa [q] using t3 v (by omega)
      rw [if_neg (nI_ge hi2 (by omega))]
      unfold f_Mo_trust_J66
      dsimp only
      rw [gd_t hb, nm_e2, gd_t hb, nm_e2, gd_t hb, nm_e2, gd_t hb, nm_e2, hci]
      by_cases q : i = s
      · subst q
        rw [if_pos rfl]
        exact ⟨_, rfl, nI_1 _, key 1 (by rw [if_pos rfl])⟩
      · have q' : ¬ nI i = nI s := fun z => q ((nI_eq (by omega) (by omega)).mp z)
        rw [if_neg q']
        exact ⟨_, rfl, nI_1 _, key (-1) (by rw [if_neg q])⟩) fuB 0 (0, τ) ⟨rfl, ⟨rfl, fun _ _ _ _ => rfl, rfl⟩, fun v hv => absurd hv (Nat.not_lt_zero _)⟩ (Nat.zero_le _) (by rw [fuB_e]; omega)
  rw [u1, Option.bind_some]
  have hM0 : NY G τ u.2 (S0 s (MM + 1)) := by
    refine ⟨u2, INV_0 hs, fun v hv => ?_⟩
    obtain ⟨e1, e2⟩ := u3 v (by omega)
    unfold TY1
    rw [e1, e2]
    show ((if v = s then MM + 1 else 0) = 0 → _) ∧ ((if v = s then MM + 1 else 0) ≠ 0 → ∃ A B, _ ∧ _ ∧ num ((if v = s then [(s, MM + 1)] else []).length - 1) A B ∧ _ ∧ (if v = s then MM + 1 else 0) = qT A B + 1)
    by_cases q : v = s
    · simp only [if_pos q]
      exact ⟨fun z => by omega, fun _ => ⟨1, 1, rfl, rfl, ⟨Nat.le_refl _, Nat.le_refl _, Nat.le_refl _, Nat.dvd_refl _⟩, rfl, by rw [q_11]⟩⟩
    · simp only [if_neg q]
      exact ⟨fun _ => trivial, fun z => absurd rfl z⟩
  refine rounds_e (NY G τ) hW (by omega) (INV_0 hs) (hTr_ok G) (fun t => rfl) (fun t T _ hM => ?_) hM0
  unfold f_Mo_trust_L84
  dsimp only
  rw [if_neg n10]
  obtain ⟨p, p1, p2, p3⟩ := ty_round hW hY hM
  rw [p1, Option.bind_some, ← p2]
  exact ⟨_, rfl, p3⟩
theorem tr_ans {G : GT} {σ0 σ τ0 τ : mS} {S : BS} (hW : WG G) (hX : NX G σ0 σ S) (hY : NY G τ0 τ S) {b : Nat} (hb : b < gN G) (h0 : S.1 b ≠ 0) : 0 ≤ lg_cmp (τ.2.1 20 b) 0 ∧ f_Tr_lowestTerm σ (nI b) 0 = some (τ.2.1 20 b).toInt32 ∧ f_Tr_lowestTerm σ (nI b) 1 = some (τ.2.1 21 b).toInt32 := by
  have hN := hW.1
  obtain ⟨A, B, a1, a2, hn, hq⟩ := (hX.2.2 b hb).2 h0
  obtain ⟨A', B', a1', a2', hn', hco, hq'⟩ := (hY.2.2 b hb).2 h0
  obtain ⟨l1, l2⟩ := INV_9 hW hX.2.1 hb h0
  have b1 := num_le hn l2
  have b2 := num_le hn' l2
  have hqq : qT A B = qT A' B' := by omega
  have d1 := num_dvd hn (by omega)
  have d2 := num_dvd hn' (by omega)
  have n1 := q_lt (A := A) (A' := A') hn.1 hn'.1 d1 d2
  have n2 := q_lt (A := A') (A' := A) hn'.1 hn.1 d2 d1
  have heq : A' * B = A * B' := by
    have z1 : ¬ A * B' < A' * B := fun z => by have := n1.mpr z; omega
    have z2 : ¬ A' * B < A * B' := fun z => by have := n2.mpr z; omega
    omega
  obtain ⟨r1, r2⟩ := low_eq hn.1 hn'.1 hco heq
  have hgp : 0 < Nat.gcd B A := Nat.gcd_pos_of_pos_left _ hn.1
  have hgle : Nat.gcd B A ≤ B := Nat.le_of_dvd hn.1 (Nat.gcd_dvd_left _ _)
  have hbb : inb (nI b) 10 = true := inb_n (by omega) (by decide)
  have hcb : (nI b).toNatClampNeg = b := nI_clamp (by omega)
  have hJ : ∀ x, x < 2 ^ 63 → f_Tr_lowestTerm_J35 (lN (Nat.gcd B A)) (lN x) = some (nI (x / Nat.gcd B A)) := by
    intro x hx
    unfold f_Tr_lowestTerm_J35
    have hnl : isNl (lN (Nat.gcd B A)) = true := decide_eq_true (fun z => by have := (lN_z (by omega)).mp z; omega)
    rw [if_neg (fun z => by have := (cmp_z (by omega)).mp z; omega), gd_t hnl, pk_lDiv hx hgp (by omega), lN_i]
  refine ⟨by rw [a1']; exact cmp_0 (by omega), ?_, ?_⟩
  · unfold f_Tr_lowestTerm
    rw [gd_t hbb, gd_t hbb, hcb, a1, a2, x_common (by omega) (by omega), Option.bind_some, if_pos rfl, gd_t hbb, hJ _ (by omega), a1', lN_i, r1]
  · unfold f_Tr_lowestTerm
    rw [gd_t hbb, gd_t hbb, hcb, a1, a2, x_common (by omega) (by omega), Option.bind_some, if_neg n10, gd_t hbb, hJ _ (by omega), a2', lN_i, r2]
theorem p_trust {G : GT} {σ τ : mS} (R : Rel G σ τ) (x y z : Int32) : Ok2 (f_LP_trust σ x y z) (f_Mo_trust τ x y z) := by
  obtain ⟨hW, hX, hY, hI, hh, hr⟩ := id R
  have hN := hW.1
  unfold f_LP_trust f_Mo_trust
  rw [x_isPair hW hX, y_isNode hW hY, y_isNode hW hY, Option.bind_some, Option.bind_some, Option.bind_some]
  cases ex : inb x (gN G) with
  | false => exact ⟨-1, σ, τ, G, rfl, rfl, R⟩
  | true =>
    cases ey : inb y (gN G) with
    | false => exact ⟨-1, σ, τ, G, rfl, rfl, R⟩
    | true =>
      rw [if_neg bT, if_neg bT]
      by_cases q : x = y
      · rw [if_pos q, decide_eq_true q]
        exact ⟨-1, σ, τ, G, rfl, rfl, R⟩
      · rw [if_neg q, decide_eq_false q, show (true && true && !false) = true from rfl, if_neg bT]
        by_cases hz : z = 0 ∨ z = 1
        · obtain ⟨a, ha, rfl⟩ := inb_e ex (by omega)
          obtain ⟨b, hb, rfl⟩ := inb_e ey (by omega)
          obtain ⟨σ', s1, s2⟩ := x_trust hW hX ha
          obtain ⟨u, u1, u2⟩ := y_trust hW hY ha
          rw [s1, Option.bind_some]
          have hz1 : ¬ z < 0 := by rcases hz with rfl | rfl <;> decide
          have hz2 : z ≤ 1 := by rcases hz with rfl | rfl <;> decide
          rw [if_neg hz1, if_pos hz2]
          cases h38 : lpN (f_Mo_trust_L38 (nI a)) fuB (0, τ) with
          | none => rw [h38] at u1; exact absurd u1 (by simp)
          | some w =>
            rw [h38, Option.bind_some] at u1
            rw [Option.bind_some, u1, Option.bind_some]
            have hcb : (nI b).toNatClampNeg = b := nI_clamp (by omega)
            have hbb : inb (nI b) 10 = true := inb_n (by omega) (by decide)
            rw [gd_t hbb, gd_t hbb, gd_t hbb, hcb, x_knows hW s2 hb, Option.bind_some]
            generalize rlR G (hTr G) (S0 a (MM + 1)) (gN G - 1) = T at *
            have f1 := s2.1
            have f2 := u2.1
            have R' : Rel G σ' u.2 := Rel_y (Rel_x R (fun k j hk => by rw [f1.1]) (f1.2.1 1 8 (by decide) (by decide)) (f1.2.1 27 4 (by decide) (by decide)) (by rw [f1.2.2])) (fun k j hk => by rw [f2.1])
            by_cases z0 : T.1 b = 0
            · rw [(u2.2.2 b hb).1 z0, decide_eq_true z0, if_neg (show ¬ (0 : Int32) ≤ lg_cmp (-1) 0 by decide)]
              rcases hz with rfl | rfl
              · exact ⟨-3, σ', u.2, G, rfl, rfl, R'⟩
              · exact ⟨-3, σ', u.2, G, rfl, rfl, R'⟩
            · obtain ⟨k0, k1, k2⟩ := tr_ans hW s2 u2 hb z0
              rw [if_pos k0, decide_eq_false z0, if_neg (show ¬ bI (!false) = 0 from n10)]
              rcases hz with rfl | rfl
              · rw [if_pos rfl, if_pos rfl, k1]
                exact ⟨_, σ', u.2, G, rfl, rfl, R'⟩
              · rw [if_neg n10, if_pos rfl, if_neg n10, k2]
                exact ⟨_, σ', u.2, G, rfl, rfl, R'⟩
        · have z0 : ¬ z = 0 := fun h => hz (Or.inl h)
          have z1 : ¬ z = 1 := fun h => hz (Or.inr h)
          rw [if_neg z0, if_neg z1]
          by_cases n0 : z < 0
          · rw [if_pos n0]; exact ⟨-2, σ, τ, G, rfl, rfl, R⟩
          · rw [if_neg n0]
            have n1 : ¬ z ≤ 1 := by
              intro h
              obtain ⟨k, hk, rfl⟩ := nI_of2 (M := 1) (n := 1) (by decide) n0 h
              have : k = 0 ∨ k = 1 := by omega
              rcases this with rfl | rfl
              · exact z0 rfl
              · exact z1 rfl
            rw [if_neg n1]
            exact ⟨-2, σ, τ, G, rfl, rfl, R⟩
