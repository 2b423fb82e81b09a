-- ===== PURE: distance, hops, reached =====
theorem Rel_B {b : Nat} {G : GT} {σ σ' τ : mS} (hb : sB b) (R : Rel G σ τ) (h : frB b σ σ') : Rel G σ' τ := by
  have hb8 : b = 8 ∨ b = 16 := hb
  obtain ⟨hW, hX, hY, hI, hh, hr⟩ := R
  exact ⟨hW, frB_X hb h hX, hY, frB_I hb h hI, by rw [h.1 0 0 (by omega)]; exact hh, hr⟩
theorem Rel_R {G : GT} {σ τ τ' : mS} (R : Rel G σ τ) (h : frR τ τ') : Rel G σ τ' := by
  obtain ⟨hW, hX, hY, hI, hh, hr⟩ := R
  exact ⟨hW, hX, frR_Y h hY, hI, by rw [h.1 0 0 (by omega) (by omega)]; exact hh, rowOK_c hr rfl rfl rfl rfl rfl rfl (fun j _ => h.1 0 j (by omega) (by omega)) (fun k j q => h.1 k j (by omega) (by omega))⟩
theorem nI_m1 {k : Nat} (h : k < 2 ^ 31) : ¬ nI k = -1 := by
  intro q
  have := congrArg Int32.toInt q
  rw [nI_toInt h] at this
  exact absurd this (by simp)
theorem far_e {G : GT} {τ : mS} (hW : WG G) (hY : RY G τ) : ∃ τ' F H, f_Mo_findFar τ = some τ' ∧ frR τ τ' ∧ YF G τ' F H ∧ (∀ v, v < gN G → F v ≤ 1000000000 ∧ H v ≤ 9) ∧ BP G false (liveO G) (gs G) (fun _ => false) (fun v => decide (v < gN G) && !decide (F v = 1000000000)) F H := by
  have hN := hW.1
  have hm := hW.2.1
  unfold f_Mo_findFar
  obtain ⟨u, p1, p2, p3⟩ := lpN_i (st := f_Mo_findFar_L2) (fun i t => t.1 = nI i ∧ frR τ t.2 ∧ ∀ v, v < i → t.2.1 9 v = nI (if gs G v = true then 0 else 1000000000) ∧ t.2.1 10 v = nI 0) (fun u => frR τ u.2 ∧ ∀ v, v < gN G → u.2.1 9 v = nI (if gs G v = true then 0 else 1000000000) ∧ u.2.1 10 v = nI 0) (gN G) (fun i t hi ht => by
    obtain ⟨t1, t2⟩ := t
    obtain ⟨e1, hf, hv⟩ := ht
    dsimp only at e1 hf hv
    subst e1
    have hY' := frR_Y hf hY
    unfold f_Mo_findFar_L2
    dsimp only
    rw [hY'.1]
    by_cases hc : i = gN G
    · subst hc
      left
      rw [if_pos (nI_le (Nat.le_refl _) (by omega))]
      exact ⟨_, rfl, hf, hv⟩
    · right
      have hi2 : i < gN G := by omega
      refine ⟨hi2, ?_⟩
      rw [if_neg (nI_ge hi2 (by omega)), gd_t (inb_n (by omega) (by decide)), nI_clamp (by omega), (hY'.2.2.2 i hi2).1]
      have both : ∀ x : Nat, (if gs G i = true then 0 else 1000000000) = x → ∃ s', f_Mo_findFar_J30 (nI i, t2) (nI x) = some (.inl s') ∧ s'.1 = nI (i + 1) ∧ frR τ s'.2 ∧ ∀ v, v < i + 1 → s'.2.1 9 v = nI (if gs G v = true then 0 else 1000000000) ∧ s'.2.1 10 v = nI 0 := by
        intro x hx
        unfold f_Mo_findFar_J30
        simp only [nm, inb_n (show i < 10 by omega) (by decide), gd_t rfl, nI_clamp (show i < 2 ^ 31 by omega)]
        refine ⟨_, rfl, nI_1 i, frR_t hf ⟨fun k j q1 q2 => ?_, rfl⟩, fun v hvi => ?_⟩
        · dsimp only
          rw [sI_1, if_neg q2, sI_1, if_neg q1]
        · dsimp only
          by_cases q : v = i
          · subst q
            rw [hx]
            exact ⟨by rw [sI_1, if_neg (by omega), sI_1, if_pos rfl, if_pos rfl], by rw [sI_1, if_pos rfl, if_pos rfl]; rfl⟩
          · obtain ⟨h1, h2⟩ := hv v (by omega)
            exact ⟨by rw [sI_1, if_neg (by omega), sI_1, if_pos rfl, if_neg q]; exact h1, by rw [sI_1, if_pos rfl, if_neg q, sI_1, if_neg (by omega)]; exact h2⟩
      cases hg : gs G i with
      | false => rw [if_pos bF]; exact both 1000000000 (by rw [hg]; rfl)
      | true => rw [if_neg bT]; exact both 0 (by rw [hg]; rfl)) fuB 0 (0, τ) ⟨rfl, frR_r τ, fun v hv => absurd hv (Nat.not_lt_zero _)⟩ (Nat.zero_le _) (by rw [fuB_e]; omega)
  rw [p1, Option.bind_some]
  have hJ : RJ G (liveO G) (gs G) (fun v => if gs G v = true then 0 else 1000000000) (fun _ => 0) := by
    have hsv : ∀ v, (if gs G v = true then 0 else 1000000000) ≠ 1000000000 → gs G v = true := by
      intro v h
      cases q : gs G v with
      | true => rfl
      | false => rw [q] at h; exact absurd rfl h
    refine ⟨fun v hv => ⟨?_, fun _ => rfl, fun h => ⟨by simp [h], rfl⟩, fun h => by simp [hsv v h]⟩, fun v hv h => ⟨[(v, 0, 0)], rfl, by simp, fun t ht => ?_⟩, fun v hv h => Or.inl ⟨hsv v h, by simp [hsv v h], rfl⟩⟩
    · dsimp only; split <;> omega
    · rw [List.mem_singleton] at ht
      subst ht
      dsimp only
      rw [if_pos (hsv v h)]
      exact ⟨hv, Or.inr ⟨rfl, Nat.le_refl _⟩, Or.inr ⟨rfl, Nat.le_refl _⟩⟩
  obtain ⟨τ', q1, q2, F', H', q3, q4, q5⟩ := relax_e (x1 := -1) hW (frR_Y p2 hY) (fun e he => by
    unfold liveO
    have : ¬ nI e = -1 := nI_m1 (by omega)
    simp [he, this]) hJ (fun v hv => p3 v hv)
  rw [q1, Option.bind_some]
  exact ⟨τ', F', H', rfl, frR_t p2 q2, q3, fun v hv => ⟨(q4.1 v hv).1, RJ_few hW q4 v hv⟩, RJ_BP hW q4 q5⟩
/-- both trees at once: they say the same -/
theorem trees_e {G : GT} {σ τ : mS} (R : Rel G σ τ) : ∃ σ' τ' K C c k o F H, f_LP_growTree σ = some σ' ∧ f_Mo_findFar τ = some τ' ∧ Rel G σ' τ' ∧ TX 8 G false (liveO G) (gs G) (fun _ => false) σ' K c ∧ k ≤ 10 ∧ σ'.1 8 6 = nI k ∧ ordI 8 σ' k K C (fun _ => false) c o ∧ (∀ v, K v = true → C v = true) ∧ YF G τ' F H ∧ (∀ v, v < gN G → F v ≤ 1000000000 ∧ H v ≤ 9) ∧ BP G false (liveO G) (gs G) (fun _ => false) K F H ∧ ∀ v, v < gN G → (K v = true ↔ F v ≠ 1000000000) ∧ (K v = true → c v / 16 = F v ∧ c v % 16 = H v) := by
  obtain ⟨hW, hX, hY, hI, hh, hr⟩ := id R
  obtain ⟨σ', K, C, c, k, o, p1, p2, p3, p4, p5, p6, p7⟩ := grow_e hW hX hI
  obtain ⟨τ', F, H, q1, q2, q3, q4, q5⟩ := far_e hW hY
  have hu := fun v => BP_u p3.1 q5 v
  have hK : (fun v => decide (v < gN G) && !decide (F v = 1000000000)) = K := funext fun v => (hu v).1.symm
  refine ⟨σ', τ', K, C, c, k, o, F, H, p1, q1, Rel_R (Rel_B sB_8 R p2) q2, p3, p4, p5, p6, p7, q3, q4, by rw [hK] at q5; exact q5, fun v hv => ⟨?_, fun hk => (hu v).2 hk⟩⟩
  rw [(hu v).1]
  simp [hv]
theorem p_distance {G : GT} {σ τ : mS} (R : Rel G σ τ) (x : Int32) : Ok2 (f_LP_distance σ x) (f_Mo_distance τ x) := by
  obtain ⟨hW, hX, hY, hI, hh, hr⟩ := id R
  have hN := hW.1
  unfold f_LP_distance f_Mo_distance
  rw [x_hasNode hW hX, y_isNode hW hY]
  cases ex : inb x (gN G) with
  | false => exact ⟨-1, σ, τ, G, rfl, rfl, R⟩
  | true =>
    obtain ⟨v, hv, rfl⟩ := inb_e ex (by omega)
    obtain ⟨σ', τ', K, C, c, k, o, F, H, a1, a2, a3, a4, a5, a6, a7, a8, a9, a10, a11, a12⟩ := trees_e R
    obtain ⟨f1, f2⟩ := a9 v hv
    obtain ⟨g1, g2⟩ := a10 v hv
    obtain ⟨k1, k2⟩ := a12 v hv
    rw [Option.bind_some, Option.bind_some, if_neg bT, if_neg bT, a1, a2, Option.bind_some, Option.bind_some, knows_e a4.2.1 (by omega), Option.bind_some, gd_t (inb_n (show v < 10 by omega) (by decide)), nI_clamp (by omega), f1, gd_t (inb_n (show v < 10 by omega) (by decide)), gd_t (inb_n (show v < 10 by omega) (by decide))]
    have eN : (nI (F v) = 1000000000) ↔ F v = 1000000000 := by rw [show (1000000000 : Int32) = nI 1000000000 from rfl]; exact nI_eq (by omega) (by omega)
    cases hk : K v with
    | false =>
      have : F v = 1000000000 := Decidable.byContradiction fun q => by rw [k1.mpr q] at hk; cases hk
      rw [if_pos bF, if_pos (eN.mpr this)]
      exact ⟨-3, σ', τ', G, rfl, rfl, a3⟩
    | true =>
      obtain ⟨c1, c2, c3, c4⟩ := a4.2.2.1 v hk
      rw [if_neg bT, if_neg (fun q => k1.mp hk (eN.mp q)), gd_t (by decide), c2, show (16 : Int32) = nI 16 from rfl, pk_div (by omega) (by omega) (by omega), (k2 hk).1]
      exact ⟨nI (F v), σ', τ', G, rfl, rfl, a3⟩
theorem p_hops {G : GT} {σ τ : mS} (R : Rel G σ τ) (x : Int32) : Ok2 (f_LP_hops σ x) (f_Mo_hops τ x) := by
  obtain ⟨hW, hX, hY, hI, hh, hr⟩ := id R
  have hN := hW.1
  unfold f_LP_hops f_Mo_hops
  rw [x_hasNode hW hX, y_isNode hW hY]
  cases ex : inb x (gN G) with
  | false => exact ⟨-1, σ, τ, G, rfl, rfl, R⟩
  | true =>
    obtain ⟨v, hv, rfl⟩ := inb_e ex (by omega)
    obtain ⟨σ', τ', K, C, c, k, o, F, H, a1, a2, a3, a4, a5, a6, a7, a8, a9, a10, a11, a12⟩ := trees_e R
    obtain ⟨f1, f2⟩ := a9 v hv
    obtain ⟨g1, g2⟩ := a10 v hv
    obtain ⟨k1, k2⟩ := a12 v hv
    rw [Option.bind_some, Option.bind_some, if_neg bT, if_neg bT, a1, a2, Option.bind_some, Option.bind_some, knows_e a4.2.1 (by omega), Option.bind_some, gd_t (inb_n (show v < 10 by omega) (by decide)), nI_clamp (by omega), f1, gd_t (inb_n (show v < 10 by omega) (by decide)), gd_t (inb_n (show v < 10 by omega) (by decide)), f2]
    have eN : (nI (F v) = 1000000000) ↔ F v = 1000000000 := by rw [show (1000000000 : Int32) = nI 1000000000 from rfl]; exact nI_eq (by omega) (by omega)
    cases hk : K v with
    | false =>
      have : F v = 1000000000 := Decidable.byContradiction fun q => by rw [k1.mpr q] at hk; cases hk
      rw [if_pos bF, if_pos (eN.mpr this)]
      exact ⟨-3, σ', τ', G, rfl, rfl, a3⟩
    | true =>
      obtain ⟨c1, c2, c3, c4⟩ := a4.2.2.1 v hk
      rw [if_neg bT, if_neg (fun q => k1.mp hk (eN.mp q)), gd_t (by decide), c2, show (16 : Int32) = nI 16 from rfl, pk_rem (by omega) (by omega) (by omega), (k2 hk).2]
      exact ⟨nI (H v), σ', τ', G, rfl, rfl, a3⟩
