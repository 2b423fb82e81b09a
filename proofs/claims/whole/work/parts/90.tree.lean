-- ===== PURE: step and tree =====
theorem Rel_x {G : GT} {σ σ' τ : mS} (R : Rel G σ τ) (h : ∀ k j, k < 8 ∨ k = 12 ∧ j = 0 ∨ k = 20 ∧ j = 0 ∨ k = 8 ∧ j = 1 ∨ k = 16 ∧ j = 1 ∨ k = 27 → σ'.1 k j = σ.1 k j) (h1 : σ'.2.1 1 8 = σ.2.1 1 8) (h2 : σ'.2.1 27 4 = σ.2.1 27 4) (h3 : σ'.2.2 26 = σ.2.2 26) : Rel G σ' τ := by
  obtain ⟨hW, ⟨x1, x2, x3, x4, x5, x6⟩, hY, hI, hh, hr⟩ := R
  refine ⟨hW, ⟨by rw [h 1 6 (by omega)]; exact x1, by rw [h 1 7 (by omega)]; exact x2, fun e he => ?_, fun v hv => by rw [h 7 v (by omega)]; exact x4 v hv, fun e => by rw [h1]; exact x5 e, fun v => by rw [h 1 9 (by omega)]; exact x6 v⟩, hY, IX_c hI (fun k j q => h k j (by omega)) h2 h3, by rw [h 0 0 (by omega)]; exact hh, hr⟩
  rw [h 2 e (by omega), h 3 e (by omega), h 4 e (by omega), h 5 e (by omega), h 6 e (by omega)]
  exact x3 e he
theorem RY_c {G : GT} {τ τ' : mS} (hY : RY G τ) (h : ∀ k j, k = 0 ∧ j < 3 ∨ 1 ≤ k ∧ k < 9 → τ'.1 k j = τ.1 k j) : RY G τ' := by
  obtain ⟨y1, y2, y3, y4⟩ := hY
  refine ⟨by rw [h 0 1 (by omega)]; exact y1, by rw [h 0 2 (by omega)]; exact y2, fun e he => ?_, fun v hv => ?_⟩
  · rw [h 1 e (by omega), h 2 e (by omega), h 3 e (by omega), h 4 e (by omega), h 5 e (by omega), h 6 e (by omega)]
    exact y3 e he
  · rw [h 7 v (by omega), h 8 v (by omega)]; exact y4 v hv
theorem Rel_y {G : GT} {σ τ τ' : mS} (R : Rel G σ τ) (h : ∀ k j, k = 0 ∧ (j < 3 ∨ 21 ≤ j) ∨ 1 ≤ k ∧ k < 9 ∨ k = 17 ∨ k = 18 ∨ k = 19 → τ'.1 k j = τ.1 k j) : Rel G σ τ' := by
  obtain ⟨hW, hX, hY, hI, hh, hr⟩ := R
  exact ⟨hW, hX, RY_c hY (fun k j q => h k j (by omega)), hI, by rw [h 0 0 (by omega)]; exact hh, rowOK_c hr rfl rfl rfl rfl rfl rfl (fun j _ => h 0 j (by omega)) (fun k j q => h k j (by omega))⟩
/-- both trees say the same -/
def TT (G : GT) (K : Nat → Bool) (c F H : Nat → Nat) : Prop := (∀ v, v < gN G → F v ≤ 1000000000 ∧ H v ≤ 9) ∧ BP G false (liveO G) (gs G) (fun _ => false) K F H ∧ (∀ v, v < gN G → (K v = true ↔ F v ≠ 1000000000) ∧ (K v = true → c v / 16 = F v ∧ c v % 16 = H v)) ∧ ∀ v, K v = true → c v ≤ 200000000
theorem TT_lb {G : GT} {K : Nat → Bool} {c F H : Nat → Nat} (hW : WG G) (hT : TT G K c F H) {e v : Nat} (he : e < gm G) (hv : v < gN G) (hK : K v = true) : lbE G false (liveO G) K c e v = true ↔ gl G e = true ∧ gt G e = v ∧ F (gf G e) ≠ 1000000000 ∧ F (gf G e) + gw G e = F v ∧ H (gf G e) + 1 = H v := by
  obtain ⟨t1, t2, t3, t4⟩ := hT
  obtain ⟨w1, w2, w3, w4, -⟩ := hW.2.2.1 e he
  obtain ⟨a1, a2⟩ := t3 v hv
  obtain ⟨b1, b2⟩ := t3 _ w1
  obtain ⟨d1, d2⟩ := a2 hK
  have h9 := (t1 _ w1).2
  have h9v := (t1 _ hv).2
  show (decide (gt G e = v) && liveO G e && K (gf G e) && decide (c (gf G e) + (gw G e * 16 + 1) = c v)) = true ↔ _
  unfold liveO
  simp only [he, decide_true, Bool.true_and, Bool.and_eq_true, decide_eq_true_eq]
  constructor
  · rintro ⟨⟨⟨q1, q2⟩, q3⟩, q4⟩
    obtain ⟨c1, c2⟩ := b2 q3
    exact ⟨q2, q1, b1.mp q3, by omega, by omega⟩
  · rintro ⟨q1, q2, q3, q4, q5⟩
    have hk := b1.mpr q3
    obtain ⟨c1, c2⟩ := b2 hk
    exact ⟨⟨⟨q2, q1⟩, hk⟩, by omega⟩
theorem TT_F {G : GT} {K : Nat → Bool} {c F H : Nat → Nat} (hT : TT G K c F H) {v : Nat} (hv : v < gN G) (hK : K v = true) : F v ≤ 12500000 := by
  have := hT.2.2.2 v hK
  have := ((hT.2.2.1 v hv).2 hK).1
  omega
theorem stepOf_e {G : GT} {τ : mS} {K : Nat → Bool} {c F H : Nat → Nat} (hW : WG G) (hY : RY G τ) (hF : YF G τ F H) (hT : TT G K c F H) {v : Nat} (hv : v < gN G) (hK : K v = true) : (f_Mo_stepOf τ (nI v) = some (-1) ∧ ∀ e, e < gm G → lbE G false (liveO G) K c e v = false) ∨ ∃ e, e < gm G ∧ f_Mo_stepOf τ (nI v) = some (nI e) ∧ lbE G false (liveO G) K c e v = true ∧ ∀ j, j < e → lbE G false (liveO G) K c j v = false := by
  have hm := hW.2.1
  have hN := hW.1
  unfold f_Mo_stepOf
  obtain ⟨u, p1, p2⟩ := lpN_i (st := f_Mo_stepOf_L2 τ (nI v)) (fun i t => t = nI i ∧ ∀ j, j < i → lbE G false (liveO G) K c j v = false) (fun u => (∃ t, u = .inl t ∧ ∀ e, e < gm G → lbE G false (liveO G) K c e v = false) ∨ ∃ e, e < gm G ∧ u = .inr (nI e) ∧ lbE G false (liveO G) K c e v = true ∧ ∀ j, j < e → lbE G false (liveO G) K c j v = false) (gm G) (fun i t hi ht => by
    obtain ⟨rfl, hj⟩ := ht
    unfold f_Mo_stepOf_L2
    rw [hY.2.1]
    by_cases hc : i = gm G
    · subst hc
      left
      rw [if_pos (nI_le (Nat.le_refl _) (by omega))]
      exact ⟨_, rfl, Or.inl ⟨_, rfl, hj⟩⟩
    · have hi2 : i < gm G := by omega
      obtain ⟨y1, y2, y3, y4, y5, y6⟩ := hY.2.2.1 i hi2
      obtain ⟨w1, w2, w3, w4, -⟩ := hW.2.2.1 i hi2
      obtain ⟨f1, f2⟩ := hF _ w1
      obtain ⟨g1, g2⟩ := hF _ hv
      have b1 := hT.1 _ w1
      have b2 := hT.1 _ hv
      have lb := TT_lb hW hT hi2 hv hK
      have skip : ¬ (gl G i = true ∧ gt G i = v ∧ F (gf G i) ≠ 1000000000 ∧ F (gf G i) + gw G i = F v ∧ H (gf G i) + 1 = H v) → (∃ x, (some (Sum.inl (nI (i + 1))) : Option (Int32 ⊕ (Int32 ⊕ Int32))) = some (Sum.inr x) ∧ ((∃ t, x = .inl t ∧ ∀ e, e < gm G → lbE G false (liveO G) K c e v = false) ∨ ∃ e, e < gm G ∧ x = .inr (nI e) ∧ lbE G false (liveO G) K c e v = true ∧ ∀ j, j < e → lbE G false (liveO G) K c j v = false)) ∨ i < gm G ∧ ∃ s', (some (Sum.inl (nI (i + 1))) : Option (Int32 ⊕ (Int32 ⊕ Int32))) = some (Sum.inl s') ∧ s' = nI (i + 1) ∧ ∀ j, j < i + 1 → lbE G false (liveO G) K c j v = false := by
        intro hno
        refine Or.inr ⟨hi2, _, rfl, rfl, fun j hji => ?_⟩
        by_cases q : j = i
        · cases hb : lbE G false (liveO G) K c j v with
          | false => rfl
          | true => rw [q] at hb; exact absurd (lb.mp hb) hno
        · exact hj j (by omega)
      rw [if_neg (nI_ge hi2 (by omega))]
      simp only [nm, inb_n (show i < 40 by omega) (by decide), gd_t rfl, nI_clamp (show i < 2 ^ 31 by omega), y1, y2, y3, y6, inb_n (show gf G i < 10 by omega) (by decide), inb_n (show v < 10 by omega) (by decide), nI_clamp (show gf G i < 2 ^ 31 by omega), nI_clamp (show v < 2 ^ 31 by omega), f1, f2, g1, g2, nI_add, nI_1]
      cases hg : gl G i with
      | false => rw [if_pos bF]; exact skip (fun q => by rw [hg] at q; cases q.1)
      | true =>
        rw [if_neg bT]
        have e1 := nI_eq (a := gt G i) (b := v) (by omega) (by omega)
        by_cases h1 : gt G i = v
        · rw [if_pos (e1.mpr h1)]
          have e2 : ((1000000000 : Int32) ≤ nI (F (gf G i))) ↔ 1000000000 ≤ F (gf G i) := by rw [show (1000000000 : Int32) = nI 1000000000 from rfl]; exact nI_leI (by omega) (by omega)
          by_cases h2 : F (gf G i) = 1000000000
          · rw [if_pos (e2.mpr (by omega))]; exact skip (fun q => q.2.2.1 h2)
          · rw [if_neg (fun q => by have := e2.mp q; omega)]
            have e3 := nI_eq (a := F (gf G i) + gw G i) (b := F v) (by omega) (by omega)
            by_cases h3 : F (gf G i) + gw G i = F v
            · rw [if_pos (e3.mpr h3)]
              have e4 := nI_eq (a := H (gf G i) + 1) (b := H v) (by omega) (by omega)
              by_cases h4 : H (gf G i) + 1 = H v
              · rw [if_pos (e4.mpr h4)]
                exact Or.inl ⟨_, rfl, Or.inr ⟨i, hi2, rfl, lb.mpr ⟨hg, h1, h2, h3, h4⟩, hj⟩⟩
              · rw [if_neg (fun q => h4 (e4.mp q))]; exact skip (fun q => h4 q.2.2.2.2)
            · rw [if_neg (fun q => h3 (e3.mp q))]; exact skip (fun q => h3 q.2.2.2.1)
        · rw [if_neg (fun q => h1 (e1.mp q))]; exact skip (fun q => h1 q.2.1)) fuB 0 0 ⟨rfl, fun j hj => absurd hj (Nat.not_lt_zero _)⟩ (Nat.zero_le _) (by rw [fuB_e]; omega)
  rw [p1, Option.bind_some]
  rcases p2 with ⟨t, rfl, h2⟩ | ⟨e, e1, rfl, e3, e4⟩
  · exact Or.inl ⟨rfl, h2⟩
  · exact Or.inr ⟨e, e1, rfl, e3, e4⟩
/-- the arc of the step -/
def bsA (G : GT) (K : Nat → Bool) (c : Nat → Nat) (v : Nat) : Nat := ((List.range (gm G)).find? fun e => lbE G false (liveO G) K c e v).getD 0
theorem bsA_e {G : GT} {K : Nat → Bool} {c : Nat → Nat} {v e : Nat} (he : e < gm G) (h1 : lbE G false (liveO G) K c e v = true) (h2 : ∀ j, j < e → lbE G false (liveO G) K c j v = false) : bsA G K c v = e := by
  unfold bsA
  have : (List.range (gm G)).find? (fun e => lbE G false (liveO G) K c e v) = some e := by
    rw [List.find?_range_eq_some]
    exact ⟨h1, List.mem_range.mpr he, fun j hj => by rw [h2 j hj]; rfl⟩
  rw [this]; rfl
theorem step2_e {G : GT} {σ τ : mS} {K : Nat → Bool} {c F H : Nat → Nat} (hW : WG G) (hX : RX G σ) (hTX : TX 8 G false (liveO G) (gs G) (fun _ => false) σ K c) (hY : RY G τ) (hF : YF G τ F H) (hT : TT G K c F H) {v : Nat} (hv : v < gN G) (hK : K v = true) : (H v = 0 ∧ f_Se_lastArc 8 σ (nI v) = some (-1)) ∨ (H v ≠ 0 ∧ f_Se_lastArc 8 σ (nI v) = some (nI (bsA G K c v)) ∧ f_Mo_stepOf τ (nI v) = some (nI (bsA G K c v)) ∧ bsA G K c v < gm G ∧ K (gf G (bsA G K c v)) = true ∧ H (gf G (bsA G K c v)) + 1 = H v) := by
  by_cases h0 : H v = 0
  · left
    refine ⟨h0, ?_⟩
    rcases last_e hW hX hTX hv hK with ⟨a, _⟩ | ⟨e, a1, a2, a3, a4⟩
    · exact a
    · have := ((TT_lb hW hT a1 hv hK).mp a3).2.2.2.2
      omega
  · right
    obtain ⟨b1, b2, b3⟩ := hT.2.1.2.2 v hK
    have hex : ∃ e, e < gm G ∧ lbE G false (liveO G) K c e v = true := by
      rcases b3 with ⟨_, _, d⟩ | ⟨e, d1, d2, d3, d4, d5, d6⟩
      · exact absurd d h0
      · have d3 : gt G e = v := d3
        have d4 : K (gf G e) = true := d4
        have d5 : F v = F (gf G e) + gw G e := d5
        have d6 : H v = H (gf G e) + 1 := d6
        refine ⟨e, d1, (TT_lb hW hT d1 hv hK).mpr ⟨?_, d3, ?_, d5.symm, d6.symm⟩⟩
        · unfold liveO at d2; simp only [Bool.and_eq_true] at d2; exact d2.2
        · exact (hT.2.2.1 _ (hW.2.2.1 e d1).1).1.mp d4
    obtain ⟨e0, x1, x2⟩ := hex
    rcases last_e hW hX hTX hv hK with ⟨a, a'⟩ | ⟨e, a1, a2, a3, a4⟩
    · rw [a' e0 x1] at x2; cases x2
    · have hb := bsA_e a1 a3 a4
      rcases stepOf_e hW hY hF hT hv hK with ⟨z, z'⟩ | ⟨e', z1, z2, z3, z4⟩
      · rw [z' e0 x1] at x2; cases x2
      · have hb' := bsA_e z1 z3 z4
        obtain ⟨m1, m2, m3, m4, m5⟩ := (TT_lb hW hT a1 hv hK).mp a3
        rw [← hb'] at z2
        rw [hb] at z2 ⊢
        exact ⟨h0, a2, z2, a1, (hT.2.2.1 _ (hW.2.2.1 e a1).1).1.mpr m3, m5⟩
theorem trees2_e {G : GT} {σ τ : mS} (R : Rel G σ τ) : ∃ σ' τ' K C c k o F H, f_LP_growTree σ = some σ' ∧ f_Mo_findFar τ = some τ' ∧ Rel G σ' τ' ∧ TX 8 G false (liveO G) (gs G) (fun _ => false) σ' K c ∧ k ≤ 10 ∧ σ'.1 8 6 = nI k ∧ ordI 8 σ' k K C (fun _ => false) c o ∧ (∀ v, K v = true → C v = true) ∧ YF G τ' F H ∧ TT G K c F H := by
  obtain ⟨σ', τ', K, C, c, k, o, F, H, a1, a2, a3, a4, a5, a6, a7, a8, a9, a10, a11, a12⟩ := trees_e R
  exact ⟨σ', τ', K, C, c, k, o, F, H, a1, a2, a3, a4, a5, a6, a7, a8, a9, a10, a11, a12, fun v hv => (a4.2.2.1 v hv).2.2.1⟩
theorem p_step {G : GT} {σ τ : mS} (R : Rel G σ τ) (x : Int32) : Ok2 (f_LP_step σ x) (f_Mo_step τ x) := by
  obtain ⟨hW, hX, hY, hI, hh, hr⟩ := id R
  have hN := hW.1
  have hm := hW.2.1
  unfold f_LP_step f_Mo_step
  rw [x_hasNode hW hX, y_isNode hW hY]
  cases ex : inb x (gN G) with
  | false => exact ⟨-1, σ, τ, G, rfl, rfl, R⟩
  | true =>
    obtain ⟨v, hv, rfl⟩ := inb_e ex (by omega)
    obtain ⟨σ', τ', K, C, c, k, o, F, H, a1, a2, a3, a4, a5, a6, a7, a8, a9, a10⟩ := trees2_e R
    obtain ⟨f1, f2⟩ := a9 v hv
    obtain ⟨g1, g2⟩ := a10.1 v hv
    obtain ⟨k1, k2⟩ := a10.2.2.1 v hv
    rw [Option.bind_some, Option.bind_some, if_neg bT, if_neg bT, a1, a2, Option.bind_some, Option.bind_some, knows_e a4.2.1 (by omega), Option.bind_some, gd_t (inb_n (show v < 10 by omega) (by decide)), nI_clamp (by omega), f1, gd_t (inb_n (show v < 10 by omega) (by decide)), f2]
    have eN : (nI (F v) = 1000000000) ↔ F v = 1000000000 := by rw [show (1000000000 : Int32) = nI 1000000000 from rfl]; exact nI_eq (by omega) (by omega)
    have eH : (nI (H v) = 0) ↔ H v = 0 := by rw [show (0 : Int32) = nI 0 from rfl]; exact nI_eq (by omega) (by omega)
    cases hk : K v with
    | false =>
      have : F v = 1000000000 := Decidable.byContradiction fun q => by rw [k1.mpr q] at hk; cases hk
      rw [if_pos bF, if_pos (eN.mpr this)]
      exact ⟨-3, σ', τ', G, rfl, rfl, a3⟩
    | true =>
      rw [if_neg bT, if_neg (fun q => k1.mp hk (eN.mp q))]
      rcases step2_e hW a3.2.1 a4 a3.2.2.1 a9 a10 hv hk with ⟨s1, s2⟩ | ⟨s1, s2, s3, s4, s5, s6⟩
      · rw [s2, if_pos (eH.mpr s1), Option.bind_some]
        exact ⟨-3, σ', τ', G, rfl, rfl, a3⟩
      · rw [s2, s3, if_neg (fun q => s1 (eH.mp q)), Option.bind_some, Option.bind_some]
        unfold f_LP_step_J40
        rw [if_neg (nI_m1 (by omega))]
        exact ⟨_, σ', τ', G, rfl, rfl, a3⟩
/-- so many steps back -/
def bkA (G : GT) (K : Nat → Bool) (c : Nat → Nat) (v : Nat) : Nat → Nat
  | 0 => v
  | j + 1 => gf G (bsA G K c (bkA G K c v j))
theorem p_tree {G : GT} {σ τ : mS} (R : Rel G σ τ) (x y : Int32) : Ok2 (f_LP_tree σ x y) (f_Mo_tree τ x y) := by
  obtain ⟨hW, hX, hY, hI, hh, hr⟩ := id R
  have hN := hW.1
  have hm := hW.2.1
  unfold f_LP_tree f_Mo_tree
  rw [x_hasNode hW hX, y_isNode hW hY]
  cases ex : inb x (gN G) with
  | false => exact ⟨-1, σ, τ, G, rfl, rfl, R⟩
  | true =>
    obtain ⟨v, hv, rfl⟩ := inb_e ex (by omega)
    obtain ⟨σ', τ', K, C, c, k, o, F, H, a1, a2, a3, a4, a5, a6, a7, a8, a9, a10⟩ := trees2_e R
    obtain ⟨f1, f2⟩ := a9 v hv
    obtain ⟨g1, g2⟩ := a10.1 v hv
    obtain ⟨k1, k2⟩ := a10.2.2.1 v hv
    rw [Option.bind_some, Option.bind_some, if_neg bT, if_neg bT, a1, a2, Option.bind_some, Option.bind_some, knows_e a4.2.1 (by omega), Option.bind_some, gd_t (inb_n (show v < 10 by omega) (by decide)), nI_clamp (by omega), f1, gd_t (inb_n (show v < 10 by omega) (by decide)), f2]
    have eN : (nI (F v) = 1000000000) ↔ F v = 1000000000 := by rw [show (1000000000 : Int32) = nI 1000000000 from rfl]; exact nI_eq (by omega) (by omega)
    cases hk : K v with
    | false =>
      have : F v = 1000000000 := Decidable.byContradiction fun q => by rw [k1.mpr q] at hk; cases hk
      rw [if_pos bF, if_pos (eN.mpr this)]
      exact ⟨-3, σ', τ', G, rfl, rfl, a3⟩
    | true =>
      obtain ⟨c1, c2, c3, c4⟩ := a4.2.2.1 v hk
      rw [if_neg bT, if_neg (fun q => k1.mp hk (eN.mp q))]
      unfold f_LP_treeArc
      rw [gd_t (inb_n (show v < 10 by omega) (by decide)), gd_t (by decide), nI_clamp (by omega), c2, show (16 : Int32) = nI 16 from rfl, pk_rem (by omega) (by omega) (by omega), (k2 hk).2, nm_e2]
      by_cases y0 : y < 0
      · rw [if_pos y0, if_pos y0]
        exact ⟨-1, σ', τ', G, rfl, rfl, a3⟩
      · rw [if_neg y0, if_neg y0]
        by_cases yh : y < nI (H v)
        · rw [if_pos yh, if_pos yh]
          obtain ⟨i, hi, rfl⟩ : ∃ i, i < H v ∧ y = nI i := by
            have hle : y ≤ nI (H v) := by rw [Int32.le_iff_toInt_le]; rw [Int32.lt_iff_toInt_lt] at yh; omega
            obtain ⟨i, hi, rfl⟩ := nI_of2 (M := nI (H v)) (n := H v) (nI_toInt (by omega)) y0 hle
            exact ⟨i, (nI_ltI (by omega) (by omega)).mp yh, rfl⟩
          -- the nodes of the way back
          have chain : ∀ j, j ≤ H v → bkA G K c v j < gN G ∧ K (bkA G K c v j) = true ∧ H (bkA G K c v j) + j = H v := by
            intro j
            induction j with
            | zero => intro _; exact ⟨hv, hk, rfl⟩
            | succ j ih =>
              intro hj
              obtain ⟨i1, i2, i3⟩ := ih (by omega)
              rcases step2_e hW a3.2.1 a4 a3.2.2.1 a9 a10 i1 i2 with ⟨s1, s2⟩ | ⟨s1, s2, s3, s4, s5, s6⟩
              · omega
              · exact ⟨(hW.2.2.1 _ s4).1, s5, by show H (gf G (bsA G K c (bkA G K c v j))) + (j + 1) = H v; omega⟩
          have stp : ∀ j, j < H v → f_Se_lastArc 8 σ' (nI (bkA G K c v j)) = some (nI (bsA G K c (bkA G K c v j))) ∧ f_Mo_stepOf τ' (nI (bkA G K c v j)) = some (nI (bsA G K c (bkA G K c v j))) ∧ bsA G K c (bkA G K c v j) < gm G := by
            intro j hj
            obtain ⟨i1, i2, i3⟩ := chain j (by omega)
            rcases step2_e hW a3.2.1 a4 a3.2.2.1 a9 a10 i1 i2 with ⟨s1, s2⟩ | ⟨s1, s2, s3, s4, s5, s6⟩
            · omega
            · exact ⟨s2, s3, s4⟩
          obtain ⟨z1, z2, z3⟩ := stp 0 (by omega)
          have z1 : f_Se_lastArc 8 σ' (nI v) = some (nI (bsA G K c v)) := z1
          have z2 : f_Mo_stepOf τ' (nI v) = some (nI (bsA G K c v)) := z2
          rw [z1, z2, Option.bind_some, Option.bind_some, nm_e2]
          have eh : nI (H v) - 1 = nI (H v - 1) := by
            have := nI_pred (H v - 1)
            rw [show H v - 1 + 1 = H v by omega] at this
            exact this
          rw [eh]
          obtain ⟨u, u1, u2⟩ := lpN_i (st := f_LP_treeArc_L39 σ' (nI i)) (fun j t => t = (nI (bsA G K c (bkA G K c v j)), nI (H v - 1 - j))) (fun u => u.1 = nI (bsA G K c (bkA G K c v (H v - 1 - i)))) (H v - 1 - i) (fun j t hj ht => by
            subst ht
            obtain ⟨s1, s2, s3⟩ := stp j (by omega)
            unfold f_LP_treeArc_L39
            dsimp only
            by_cases hc : j = H v - 1 - i
            · left
              rw [if_pos (nI_le (by omega) (by omega))]
              exact ⟨_, rfl, by dsimp only; rw [hc]⟩
            · right
              refine ⟨by omega, ?_⟩
              obtain ⟨r1, r2, r3⟩ := stp (j + 1) (by omega)
              have r1 : f_Se_lastArc 8 σ' (nI (gf G (bsA G K c (bkA G K c v j)))) = _ := r1
              rw [if_neg (nI_ge (by omega) (by omega)), if_neg (nI_m1 (by omega)), gd_t (inb_n (by omega) (by decide)), nI_clamp (by omega), (a3.2.1.2.2.1 _ s3).1, r1, Option.bind_some]
              refine ⟨_, rfl, ?_⟩
              have : nI (H v - 1 - j) + -1 = nI (H v - 1 - (j + 1)) := by
                have := nI_pred (H v - 1 - (j + 1))
                rw [show H v - 1 - (j + 1) + 1 = H v - 1 - j by omega] at this
                rw [← this, Int32.sub_eq_add_neg]
              rw [this]) fuS 0 (nI (bsA G K c v), nI (H v - 1)) rfl (Nat.zero_le _) (by rw [fuS_e]; omega)
          rw [u1, Option.bind_some, Option.bind_some, u2]
          obtain ⟨w, w1, w2⟩ := lpN_i (st := f_Mo_tree_L53 (nI i) τ') (fun j t => t = (nI (bkA G K c v j), nI (bsA G K c (bkA G K c v j)))) (fun u => u.2 = nI (bsA G K c (bkA G K c v (H v - 1 - i)))) (H v - 1 - i) (fun j t hj ht => by
            subst ht
            obtain ⟨s1, s2, s3⟩ := stp j (by omega)
            obtain ⟨i1, i2, i3⟩ := chain j (by omega)
            unfold f_Mo_tree_L53
            dsimp only
            rw [gd_t (inb_n (by omega) (by decide)), nI_clamp (by omega), (a9 _ i1).2, nI_1]
            by_cases hc : j = H v - 1 - i
            · left
              rw [if_pos (nI_le (by omega) (by omega))]
              exact ⟨_, rfl, by dsimp only; rw [hc]⟩
            · right
              refine ⟨by omega, ?_⟩
              obtain ⟨r1, r2, r3⟩ := stp (j + 1) (by omega)
              have r2 : f_Mo_stepOf τ' (nI (gf G (bsA G K c (bkA G K c v j)))) = _ := r2
              rw [if_neg (nI_ge (by omega) (by omega)), gd_t (inb_n (by omega) (by decide)), nI_clamp (by omega), (a3.2.2.1.2.2.1 _ s3).1, nm_e2, r2, Option.bind_some]
              exact ⟨_, rfl, rfl⟩) fuB 0 (nI v, nI (bsA G K c v)) rfl (Nat.zero_le _) (by rw [fuB_e]; omega)
          rw [w1, Option.bind_some, w2]
          exact ⟨_, σ', τ', G, rfl, rfl, a3⟩
        · rw [if_neg yh, if_neg yh]
          exact ⟨-1, σ', τ', G, rfl, rfl, a3⟩
