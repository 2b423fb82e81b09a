/-- an injection of k places into k nodes meets each -/
theorem inj_onto : ∀ (k : Nat) (g : Nat → Nat), (∀ i, i < k → g i < k) → (∀ i j, i < k → j < k → g i = g j → i = j) → ∀ m, m < k → ∃ i, i < k ∧ g i = m := by
  intro k
  induction k with
  | zero => intro g _ _ m hm; omega
  | succ k ih =>
    intro g hlt hinj m hm
    -- let the last place hold k, by a swap of values
    let c := g k
    by_cases hc : c = k
    · by_cases hmk : m = k
      · exact ⟨k, by omega, hc.trans hmk.symm⟩
      · obtain ⟨i, hi, e⟩ := ih g (fun i hi => by
          have h1 := hlt i (by omega)
          have h2 : g i ≠ k := fun q => by
            have := hinj i k (by omega) (by omega) (q.trans hc.symm)
            omega
          omega) (fun i j hi hj => hinj i j (by omega) (by omega)) m (by omega)
        exact ⟨i, by omega, e⟩
    · have hck : c < k := by have := hlt k (by omega); omega
      by_cases hmc : m = c
      · exact ⟨k, by omega, hmc.symm⟩
      · -- send k to c below
        obtain ⟨i, hi, e⟩ := ih (fun i => if g i = k then c else g i) (fun i hi => by
          by_cases q : g i = k
          · simp only [q, if_true]; exact hck
          · simp only [q, if_false]; have := hlt i (by omega); omega) (fun i j hi hj q => by
          by_cases q1 : g i = k <;> by_cases q2 : g j = k
          · exact hinj i j (by omega) (by omega) (q1.trans q2.symm)
          · simp only [q1, q2, if_true, if_false] at q
            have := hinj k j (by omega) (by omega) q
            omega
          · simp only [q1, q2, if_true, if_false] at q
            have := hinj i k (by omega) (by omega) q
            omega
          · simp only [q1, q2, if_false] at q
            exact hinj i j (by omega) (by omega) q) (if m = k then c else m) (by
          by_cases q : m = k
          · simp only [q, if_true]; exact hck
          · simp only [q, if_false]; omega)
        by_cases q : m = k
        · simp only [q, if_true] at e
          by_cases q1 : g i = k
          · exact ⟨i, by omega, q1.trans q.symm⟩
          · simp only [q1, if_false] at e
            have := hinj i k (by omega) (by omega) e
            omega
        · simp only [q, if_false] at e
          by_cases q1 : g i = k
          · simp only [q1, if_true] at e; exact absurd e.symm hmc
          · simp only [q1, if_false] at e; exact ⟨i, by omega, e⟩
theorem ten_onto {g : Nat → Nat} (h1 : ∀ i, i < 10 → g i < 10) (h2 : ∀ i j, i < 10 → j < 10 → g i = g j → i = j) {m : Nat} (hm : m < 10) : ∃ i, i < 10 ∧ g i = m := inj_onto 10 g h1 h2 m hm
/-- the heap at b holds the nodes S by the ranks r -/
def HP (b : Nat) (σ : mS) (d : Nat) (S : Nat → Bool) (r : Nat → Nat) : Prop := 1 ≤ d ∧ d ≤ 3 ∧ σ.1 b 0 = nI d ∧ (∀ n, n < 10 → S n = false → σ.1 (b + 2) n = -1) ∧ ∃ sz g, hM_ b σ sz g sz ∧ rkM b σ sz r g ∧ ordH d sz r g ∧ ∀ n, S n = true ↔ ∃ i, i < sz ∧ g i = n
theorem HP_lt {b d : Nat} {σ : mS} {S : Nat → Bool} {r : Nat → Nat} (h : HP b σ d S r) {n : Nat} (hn : S n = true) : n < 10 := by
  obtain ⟨-, -, -, -, sz, g, hM, -, -, hS⟩ := h
  obtain ⟨i, hi, rfl⟩ := (hS n).mp hn
  exact hM.2.2.1 i hi
theorem HP_r {b d : Nat} {σ : mS} {S : Nat → Bool} {r : Nat → Nat} (h : HP b σ d S r) {n : Nat} (hn : S n = true) : r n % 10 = n ∧ r n < 2 ^ 40 := by
  obtain ⟨-, -, -, -, sz, g, hM, hr, -, hS⟩ := h
  obtain ⟨i, hi, rfl⟩ := (hS n).mp hn
  exact ⟨hr.2 i hi, (hr.1 i hi).2⟩
theorem empty_e {b d : Nat} {σ : mS} (hd1 : 1 ≤ d) (hd3 : d ≤ 3) (hd : σ.1 b 0 = nI d) (r : Nat → Nat) : ∃ σ', f_Wa_empty b σ = some σ' ∧ HP b σ' d (fun _ => false) r ∧ frW b σ σ' := by
  unfold f_Wa_empty
  simp only [nm]
  obtain ⟨u, h1, h2, h3⟩ := lpN_i (st := f_Wa_empty_L7 b) (fun i t => t.1 = nI i ∧ frW b σ t.2 ∧ t.2.1 b 4 = 0 ∧ ∀ n, n < i → t.2.1 (b + 2) n = -1) (fun u => frW b σ u.2 ∧ u.2.1 b 4 = 0 ∧ ∀ n, n < 10 → u.2.1 (b + 2) n = -1) 10 (fun i t hi ht => by
    obtain ⟨t1, t2⟩ := t
    obtain ⟨e1, h1, h2, h3⟩ := ht
    dsimp only at e1 h1 h2 h3
    subst e1
    unfold f_Wa_empty_L7
    dsimp only
    by_cases hc : i = 10
    · subst hc
      left
      rw [if_pos (by decide)]
      exact ⟨_, rfl, h1, h2, h3⟩
    · right
      have hi2 : i < 10 := by omega
      refine ⟨hi2, ?_⟩
      rw [if_neg (show ¬ (10 : Int32) ≤ nI i from nI_ge (a := i) (b := 10) hi2 (by decide)), gd_t (inb_n hi2 (by decide))]
      simp only [nm, nI_clamp (show i < 2 ^ 31 by omega)]
      refine ⟨_, rfl, nI_1 i, ⟨fun k j q1 q2 q3 => ?_, h1.2.1, h1.2.2⟩, ?_, fun n hn => ?_⟩
      · dsimp only
        rw [sI_1, if_neg q2]; exact h1.1 k j q1 q2 q3
      · dsimp only
        rw [sI_1, if_neg (by omega)]; exact h2
      · dsimp only
        rw [sI_1, if_pos rfl]
        by_cases q : n = i
        · rw [if_pos q]
        · rw [if_neg q]; exact h3 n (by omega)) fuS 0 (0, sI σ b 4 0) ⟨rfl, ⟨fun k j q1 q2 q3 => by
        dsimp only
        rw [sI_1]
        by_cases q : k = b
        · rw [if_pos q, if_neg (by omega)]
        · rw [if_neg q], fun _ _ _ => rfl, rfl⟩, by dsimp only; rw [sI_1, if_pos rfl, if_pos rfl], fun n hn => absurd hn (Nat.not_lt_zero _)⟩ (Nat.zero_le _) (by rw [fuS_e]; omega)
  rw [h1, Option.bind_some]
  refine ⟨_, rfl, ⟨hd1, hd3, ?_, fun n hn _ => h3.2 n hn, 0, fun _ => 0, ⟨h3.1, by omega, fun i hi => absurd hi (Nat.not_lt_zero _), fun i j hi => absurd hi (Nat.not_lt_zero _), fun i hi => absurd hi (Nat.not_lt_zero _)⟩, ⟨fun i hi => absurd hi (Nat.not_lt_zero _), fun i hi => absurd hi (Nat.not_lt_zero _)⟩, fun i _ hi => absurd hi (Nat.not_lt_zero _), fun n => ⟨fun h => (by cases h), fun ⟨i, hi, _⟩ => absurd hi (Nat.not_lt_zero _)⟩⟩, h2⟩
  rw [h2.1 b 0 (by omega) (by omega) (Or.inr (by omega))]; exact hd
theorem isEmpty_e {b d : Nat} {σ : mS} {S : Nat → Bool} {r : Nat → Nat} (h : HP b σ d S r) : ∃ x : Bool, f_Wa_isEmpty b σ = some (bI x) ∧ (x = true ↔ ∀ n, S n = false) := by
  obtain ⟨-, -, -, -, sz, g, hM, hr, ho, hS⟩ := h
  unfold f_Wa_isEmpty
  rw [hM.1]
  have hsz := hM.2.1
  by_cases c : sz = 0
  · subst c
    refine ⟨true, by rw [if_pos nI_0]; rfl, ⟨fun _ n => ?_, fun _ => rfl⟩⟩
    cases q : S n with
    | false => rfl
    | true => obtain ⟨i, hi, _⟩ := (hS n).mp q; omega
  · refine ⟨false, by rw [if_neg (nI_ne0 (by omega) (by omega))]; rfl, ⟨fun q => (by cases q), fun q => ?_⟩⟩
    have := (hS (g 0)).mpr ⟨0, by omega, rfl⟩
    rw [q (g 0)] at this
    cases this
/-- the first of those that wait: of the least rank -/
theorem first_e {b d : Nat} {σ : mS} {S : Nat → Bool} {r : Nat → Nat} (h : HP b σ d S r) : (f_Wa_first b σ = some (-1) ∧ ∀ n, S n = false) ∨ ∃ n, f_Wa_first b σ = some (nI n) ∧ S n = true ∧ ∀ m, S m = true → m ≠ n → r n < r m := by
  obtain ⟨-, -, -, -, sz, g, hM, hr, ho, hS⟩ := h
  unfold f_Wa_first
  rw [hM.1]
  have hsz := hM.2.1
  by_cases c : sz = 0
  · subst c
    left
    refine ⟨by rw [if_pos nI_0], fun n => ?_⟩
    cases q : S n with
    | false => rfl
    | true => obtain ⟨i, hi, _⟩ := (hS n).mp q; omega
  · right
    refine ⟨g 0, ?_, (hS _).mpr ⟨0, by omega, rfl⟩, fun m hm hne => ?_⟩
    · rw [if_neg (nI_ne0 (by omega) (by omega)), gd_t (by decide)]
      rw [show (0 : Int32).toNatClampNeg = 0 from rfl, (hM.2.2.2.2 0 (by omega) (by omega)).1]
    · obtain ⟨i, hi, rfl⟩ := (hS m).mp hm
      rcases ord_min ho i hi with q | q
      · subst q; exact absurd rfl hne
      · exact q
theorem put_e {b d n key : Nat} {σ : mS} {S : Nat → Bool} {r : Nat → Nat} (h : HP b σ d S r) (hn : n < 10) (hk : key < 2 ^ 31) (hle : S n = true → key * 10 + n ≤ r n) : ∃ σ', f_Wa_put b σ (nI n) (nI key) = some σ' ∧ HP b σ' d (va_up S n true) (va_up r n (key * 10 + n)) ∧ frW b σ σ' := by
  obtain ⟨hd1, hd3, hd, hneg, sz, g, hM, hr, ho, hS⟩ := h
  obtain ⟨m1, m2, m3, m4, m5⟩ := id hM
  -- the common part
  have main : ∀ (σ1 : mS) (sz1 a : Nat) (g1 : Nat → Nat), frW b σ σ1 → σ1.2 = σ.2 → hM_ b σ1 sz1 g1 a → a < sz1 → g1 a = n → σ1.1 (b + 2) n = nI a → upI d sz1 a (va_up r n (key * 10 + n)) g1 → (∀ m, va_up S n true m = true ↔ ∃ i, i < sz1 ∧ g1 i = m) → (∀ m, m < 10 → va_up S n true m = false → σ1.1 (b + 2) m = -1) → ∃ σ', f_Wa_put_J30 b (nI n) (nI key) σ1 = some σ' ∧ HP b σ' d (va_up S n true) (va_up r n (key * 10 + n)) ∧ frW b σ σ' := by
    intro σ1 sz1 a g1 hf h2 hM1 ha hga hpa hu hS1 hneg1
    unfold f_Wa_put_J30
    have ek : ((nI key).toInt64 * 10) + (nI n).toInt64 = lN (key * 10 + n) := by
      rw [nI_l hk, nI_l (by omega), show (10 : Int64) = lN 10 from rfl, lN_mul, lN_add]
    simp only [nm, inb_n hn (by decide), gd_t rfl, nI_clamp (show n < 2 ^ 31 by omega), ek]
    have e1 : (sJ σ1 (b + 3) n (lN (key * 10 + n))).1 (b + 2) n = nI a := by rw [sJ_1]; exact hpa
    rw [e1]
    have hM2 : hM_ b (sJ σ1 (b + 3) n (lN (key * 10 + n))) sz1 g1 a := hM1
    have hr2 : rkM b (sJ σ1 (b + 3) n (lN (key * 10 + n))) sz1 (va_up r n (key * 10 + n)) g1 := by
      refine ⟨fun i hi => ?_, fun i hi => ?_⟩
      · rw [sJ_2, if_pos rfl]
        by_cases q : g1 i = n
        · rw [if_pos q, q, va_up_self]; exact ⟨rfl, by omega⟩
        · rw [if_neg q, va_up_ne _ _ q, h2]
          have : S (g1 i) = true := by
            have := (hS1 (g1 i)).mpr ⟨i, hi, rfl⟩
            rw [va_up_ne _ _ q] at this; exact this
          obtain ⟨j, hj, e⟩ := (hS _).mp this
          rw [← e]; exact hr.1 j hj
      · by_cases q : g1 i = n
        · rw [q, va_up_self]; omega
        · rw [va_up_ne _ _ q]
          have : S (g1 i) = true := by
            have := (hS1 (g1 i)).mpr ⟨i, hi, rfl⟩
            rw [va_up_ne _ _ q] at this; exact this
          obtain ⟨j, hj, e⟩ := (hS _).mp this
          rw [← e]; exact hr.2 j hj
    have hd2 : (sJ σ1 (b + 3) n (lN (key * 10 + n))).1 b 0 = nI d := by rw [sJ_1, hf.1 b 0 (by omega) (by omega) (Or.inr (by omega))]; exact hd
    obtain ⟨u, h1, a', g', p1, p2, p3, p4, p5, p6, p7, p8, p9, p10⟩ := put_loop hd1 hd3 hd2 hM2 ha hu hga hr2
    rw [h1, Option.bind_some, p1, seat_e hn (by have := p3.2.1; omega), Option.bind_some]
    have hst := hM_st p3 p2 sz1
    rw [p4] at hst
    have hfj : frW b σ1 (sJ σ1 (b + 3) n (lN (key * 10 + n))) := ⟨fun _ _ _ _ _ => rfl, fun k j q => by rw [sJ_2, if_neg q], rfl⟩
    refine ⟨_, rfl, ⟨hd1, hd3, ?_, fun m hm hSm => ?_, sz1, g', hst, ⟨fun i hi => ?_, p6.2⟩, p5, fun m => ?_⟩, frW_t (frW_t (frW_t hf hfj) p7) seat_fr⟩
    · rw [seat_fr.1 b 0 (by omega) (by omega) (Or.inr (by omega)), p7.1 b 0 (by omega) (by omega) (Or.inr (by omega))]; exact hd2
    · have hmn : m ≠ n := fun q => by rw [q, va_up_self] at hSm; cases hSm
      rw [sI_1, if_pos rfl, if_neg hmn, sI_1, if_neg (by omega), p10 m (fun i hi q => ?_), sJ_1]
      · exact hneg1 m hm hSm
      · have := (hS1 m).mpr ⟨i, hi, q⟩
        rw [hSm] at this; cases this
    · exact p6.1 i hi
    · rw [hS1 m]; exact (p9 m).symm
  unfold f_Wa_put
  rw [gd_t (inb_n hn (by decide)), nI_clamp (by omega)]
  cases hSn : S n with
  | false =>
    rw [hneg n hn hSn, if_pos rfl]
    simp only [nm, inb_n hn (by decide), gd_t rfl]
    have e4 : (sI σ (b + 2) n (σ.1 b 4)).1 b 4 = nI sz := by rw [sI_1, if_neg (by omega)]; exact m1
    rw [e4, m1, nI_1]
    -- room for one more
    have hsz10 : sz < 10 := by
      rcases Nat.lt_or_ge sz 10 with q | q
      · exact q
      · exfalso
        have hall : ∀ m, m < 10 → ∃ i, i < sz ∧ g i = m := by
          -- an injection of 10 places into 10 nodes meets each
          have hinj : ∀ i j, i < 10 → j < 10 → g i = g j → i = j := fun i j hi hj => m4 i j (by omega) (by omega)
          have hlt : ∀ i, i < 10 → g i < 10 := fun i hi => m3 i (by omega)
          intro m hm
          exact ten_onto hlt hinj hm |>.elim fun i hi => ⟨i, by omega, hi.2⟩
        obtain ⟨i, hi, e⟩ := hall n hn
        have := (hS n).mpr ⟨i, hi, e⟩
        rw [hSn] at this; cases this
    have hnew : ∀ i, i < sz → g i ≠ n := fun i hi q => by
      have := (hS n).mpr ⟨i, hi, q⟩
      rw [hSn] at this; cases this
    refine main (sI (sI σ (b + 2) n (nI sz)) b 4 (nI (sz + 1))) (sz + 1) sz (va_up g sz n) ⟨fun k j q1 q2 q3 => ?_, fun _ _ _ => rfl, rfl⟩ rfl ⟨?_, by omega, fun i hi => ?_, fun i j hi hj q => ?_, fun i hi hne => ?_⟩ (by omega) (va_up_self _ _ _) ?_ ⟨fun i hi his hne => ?_, fun _ c hc hcs hcp => ?_⟩ (fun m => ?_) (fun m hm hSm => ?_)
    · rw [sI_1]
      by_cases q : k = b
      · rw [if_pos q, if_neg (by omega), sI_1, if_neg q2]
      · rw [if_neg q, sI_1, if_neg q2]
    · rw [sI_1, if_pos rfl, if_pos rfl]
    · by_cases q : i = sz
      · rw [q, va_up_self]; exact hn
      · rw [va_up_ne _ _ q]; exact m3 i (by omega)
    · by_cases q1 : i = sz <;> by_cases q2 : j = sz
      · omega
      · rw [q1, va_up_self, va_up_ne _ _ q2] at q; exact absurd q.symm (hnew j (by omega))
      · rw [q2, va_up_self, va_up_ne _ _ q1] at q; exact absurd q (hnew i (by omega))
      · rw [va_up_ne _ _ q1, va_up_ne _ _ q2] at q; exact m4 i j (by omega) (by omega) q
    · rw [va_up_ne _ _ hne]
      obtain ⟨q1, q2⟩ := m5 i (by omega) (by omega)
      constructor
      · rw [sI_1, if_neg (by omega), sI_1, if_neg (by omega)]; exact q1
      · rw [sI_1, if_neg (by omega), sI_1, if_pos rfl, if_neg (hnew i (by omega))]; exact q2
    · rw [sI_1, if_neg (by omega), sI_1, if_pos rfl, if_pos rfl]
    · have hp := par_lt (d := d) hi
      rw [va_up_ne g n (show i ≠ sz from hne), va_up_ne g n (show (i - 1) / d ≠ sz by omega), va_up_ne r _ (hnew i (by omega)), va_up_ne r _ (hnew _ (by omega))]
      exact ho i hi (by omega)
    · have hp := par_lt (d := d) hc
      omega
    · by_cases q : m = n
      · rw [q, va_up_self]
        exact ⟨fun _ => ⟨sz, by omega, va_up_self _ _ _⟩, fun _ => rfl⟩
      · rw [va_up_ne _ _ q, hS m]
        constructor
        · rintro ⟨i, hi, e⟩; exact ⟨i, by omega, by rw [va_up_ne _ _ (by omega)]; exact e⟩
        · rintro ⟨i, hi, e⟩
          by_cases q2 : i = sz
          · rw [q2, va_up_self] at e; exact absurd e.symm q
          · rw [va_up_ne _ _ q2] at e; exact ⟨i, by omega, e⟩
    · have hmn : m ≠ n := fun q => by rw [q, va_up_self] at hSm; cases hSm
      rw [va_up_ne _ _ hmn] at hSm
      rw [sI_1, if_neg (by omega), sI_1, if_pos rfl, if_neg hmn]
      exact hneg m hm hSm
  | true =>
    obtain ⟨a, ha, hga⟩ := (hS n).mp hSn
    have hpa : σ.1 (b + 2) n = nI a := by rw [← hga]; exact (m5 a ha (by omega)).2
    have hne1 : ¬ σ.1 (b + 2) n = -1 := by
      rw [hpa]
      intro q
      have := congrArg Int32.toInt q
      rw [nI_toInt (by omega)] at this
      exact absurd this (by simp)
    rw [if_neg hne1]
    have hrn := hle hSn
    have hgn : ∀ i, i < sz → i ≠ a → g i ≠ n := fun i hi hne q => hne (m4 i a hi ha (q.trans hga.symm))
    refine main σ sz a g (frW_r b σ) rfl ⟨m1, m2, m3, m4, fun i hi _ => m5 i hi (by omega)⟩ ha hga hpa ⟨fun i hi his hne => ?_, fun h0 c hc hcs hcp => ?_⟩ (fun m => ?_) (fun m hm hSm => ?_)
    · rw [va_up_ne r _ (hgn i his hne)]
      have h1 := ho i hi his
      have hp := par_lt (d := d) hi
      by_cases q : (i - 1) / d = a
      · rw [q, hga, va_up_self]; rw [q, hga] at h1; omega
      · rw [va_up_ne r _ (hgn _ (by omega) q)]; exact h1
    · have hp := par_lt (d := d) h0
      have hca : c ≠ a := by have := par_lt (d := d) hc; omega
      rw [va_up_ne r _ (hgn c hcs hca), va_up_ne r _ (hgn _ (by omega) (by omega))]
      have h1 := ho a h0 ha
      have h2 := ho c hc hcs
      rw [hcp] at h2
      omega
    · by_cases q : m = n
      · rw [q, va_up_self]
        exact ⟨fun _ => ⟨a, ha, hga⟩, fun _ => rfl⟩
      · rw [va_up_ne _ _ q]; exact hS m
    · have hmn : m ≠ n := fun q => by rw [q, va_up_self] at hSm; cases hSm
      rw [va_up_ne _ _ hmn] at hSm
      exact hneg m hm hSm
