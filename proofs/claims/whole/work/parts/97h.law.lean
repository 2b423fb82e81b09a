-- ===== PURE: the whole law =====
theorem ok_s {x y : Option (Int32 × mS)} (h : Ok2 x y) : ∃ (G : GT) (σ τ : mS), (x.bind fun o => y.bind fun q => if o.1 = q.1 then some (o.2, q.2) else none) = some (σ, τ) ∧ Rel G σ τ := by
  obtain ⟨r, σ, τ, G, h1, h2, h3⟩ := h
  exact ⟨G, σ, τ, by rw [h1, h2, Option.bind_some, Option.bind_some, if_pos rfl], h3⟩
theorem ok_q {x y : Option Int32} {G : GT} {σ τ : mS} (h : ∃ r, x = some r ∧ y = some r) (R : Rel G σ τ) : ∃ (G : GT) (σ' τ' : mS), (x.bind fun o => y.bind fun q => if o = q then some (σ, τ) else none) = some (σ', τ') ∧ Rel G σ' τ' := by
  obtain ⟨r, h1, h2⟩ := h
  exact ⟨G, σ, τ, by rw [h1, h2, Option.bind_some, Option.bind_some, if_pos rfl], R⟩
theorem zb_01 (x : Int32) : zb x = 0 ∨ zb x = 1 := by
  unfold zb
  by_cases h : x = 0
  · left; rw [if_pos h]
  · right; rw [if_neg h]
theorem lawC_e {G : GT} {σ τ : mS} (R : Rel G σ τ) (j : Nat) (a : Nat → Int32) : ∃ (G : GT) (σ' τ' : mS), lawC j a σ τ = some (σ', τ') ∧ Rel G σ' τ' := by
  match j with
  | 0 => exact ok_q (p_heap R) R
  | 1 => exact ok_s (p_node R)
  | 2 => exact ok_s (p_arc R _ _ _)
  | 3 => exact ok_s (p_share R _ _ _)
  | 4 => exact ok_s (p_drop R _)
  | 5 => exact ok_s (p_source R _ _ (zb_01 _))
  | 6 => exact ok_s (p_rest R _ _)
  | 7 => exact ok_s (p_clear R)
  | 8 => exact ok_s (p_distance R _)
  | 9 => exact ok_s (p_hops R _)
  | 10 => exact ok_s (p_step R _)
  | 11 => exact ok_s (p_ways R _)
  | 12 => exact ok_s (p_tree R _ _)
  | 13 => exact ok_s (p_reached R)
  | 14 => exact ok_q (p_good R _) R
  | 15 => exact ok_s (p_led R _ _)
  | 16 => exact ok_s (p_ledTo R _ _)
  | 17 => exact ok_s (p_both R _ _)
  | 18 => exact ok_s (p_bothTo R _ _)
  | 19 => exact ok_s (p_kth R _ _ _)
  | 20 => exact ok_s (p_kthArc R _ _ _ _)
  | 21 => exact ok_s (p_widest R _ _)
  | 22 => exact ok_s (p_trust R _ _ _)
  | 23 => exact ok_s (p_ring R)
  | 24 => exact ok_s (p_ringArc R _)
  | 25 => exact ok_s (p_missed R _ _)
  | k + 26 => exact ⟨G, σ, τ, rfl, R⟩
theorem lawN_e (xs : Nat → Int32) (L : Nat) : ∀ (d i : Nat) (σ τ : mS), (∃ G, Rel G σ τ) → L < i + d → 0 < d → lawN xs L d i σ τ = some () := by
  intro d
  induction d with
  | zero => intro i σ τ _ _ h; omega
  | succ d ih =>
    intro i σ τ ⟨G, R⟩ h _
    rw [lawN]
    by_cases hi : i + 5 ≤ L
    · rw [if_pos hi]
      obtain ⟨G', σ', τ', h1, h2⟩ := lawC_e R (xs i &&& 31).toNatClampNeg (fun k => xs (i + k))
      rw [h1, Option.bind_some]
      exact ih (i + 5) σ' τ' ⟨G', h2⟩ (by omega) (by omega)
    · rw [if_neg hi]
theorem rowS_1 (σ : mS) : ∀ n, (rowS σ n).1 = σ.1 ∧ (rowS σ n).2.1 = σ.2.1 := by
  intro n
  induction n with
  | zero => exact ⟨rfl, rfl⟩
  | succ n ih => exact ih
theorem rowS_26 (σ : mS) : ∀ n i, i < n → (rowS σ n).2.2 26 i = some (29 + 2 * i) := by
  intro n
  induction n with
  | zero => intro i h; omega
  | succ n ih =>
    intro i h
    rw [rowS, sQ_3, if_pos rfl]
    by_cases z : i = n
    · rw [if_pos z, z]
    · rw [if_neg z]
      unfold g_Wy
      rw [sQ_3, if_neg (by omega)]
      exact ih i (by omega)
def hpC (v : Int32) : Int32 := if (if 1 < v then v else 1) < 3 then (if 1 < v then v else 1) else 3
theorem hpC_d (v : Int32) : ∃ d, 1 ≤ d ∧ d ≤ 3 ∧ hpC v = nI d := by
  unfold hpC
  by_cases h1 : 1 < v
  · rw [if_pos h1]
    by_cases h2 : v < 3
    · rw [if_pos h2]
      refine ⟨2, by decide, by decide, ?_⟩
      rw [Int32.lt_iff_toInt_lt] at h1 h2
      have e1 : (1 : Int32).toInt = 1 := rfl
      have e2 : (3 : Int32).toInt = 3 := rfl
      apply Int32.toInt_inj.mp
      have e3 : (nI 2).toInt = 2 := rfl
      omega
    · rw [if_neg h2]; exact ⟨3, by decide, by decide, rfl⟩
  · rw [if_neg h1, if_pos (by decide)]; exact ⟨1, by decide, by decide, rfl⟩
theorem hpC_1 (v : Int32) : (if 1 < hpC v then hpC v else 1) = hpC v := by
  obtain ⟨d, h1, h2, h3⟩ := hpC_d v
  rw [h3]
  have : d = 1 ∨ d = 2 ∨ d = 3 := by omega
  rcases this with rfl | rfl | rfl <;> decide
theorem hpM_C (v : Int32) : hpM v = hpC v := by
  unfold hpM hpC
  have e1 : (1 : Int32).toInt = 1 := rfl
  have e3 : (3 : Int32).toInt = 3 := rfl
  by_cases h1 : 1 < v
  · have h1' : 1 ≤ v := by rw [Int32.lt_iff_toInt_lt] at h1; rw [Int32.le_iff_toInt_le]; omega
    rw [if_pos h1, if_pos h1']
    by_cases h2 : v < 3
    · have h2' : v ≤ 3 := by rw [Int32.lt_iff_toInt_lt] at h2; rw [Int32.le_iff_toInt_le]; omega
      rw [if_pos h2, if_pos h2']
    · rw [if_neg h2]
      by_cases h3 : v ≤ 3
      · rw [if_pos h3]
        apply Int32.toInt_inj.mp
        rw [Int32.lt_iff_toInt_lt] at h2
        rw [Int32.le_iff_toInt_le] at h3
        omega
      · rw [if_neg h3]
  · rw [if_neg h1, if_pos (show (1 : Int32) < 3 by decide)]
    by_cases h2 : 1 ≤ v
    · have h3 : v = 1 := by
        apply Int32.toInt_inj.mp
        rw [Int32.lt_iff_toInt_lt] at h1
        rw [Int32.le_iff_toInt_le] at h2
        omega
      rw [if_pos h2, h3]; rfl
    · rw [if_neg h2]
set_option maxRecDepth 100000 in
theorem init_1 (v : Int32) : (initS v).1 = (sI (sI (sI (sI (sI (sI (sI s00 0 0 (hpC v)) 8 1 0) 12 0 (if 1 < hpC v then hpC v else 1)) 16 1 1) 20 0 (if 1 < hpC v then hpC v else 1)) 99 21 (-1)) 99 0 (hpM v)).1 := rfl
set_option maxRecDepth 100000 in
theorem init_2 (v : Int32) : (initS v).2.1 = fun _ _ => 0 := rfl
theorem init_3 (v : Int32) : ∀ i, i < 31 → (initS v).2.2 26 i = some (29 + 2 * i) := by
  intro i hi
  have e : (initS v).2.2 26 i = (g_Rw (sQ (g_BS (sQ (g_Se 16 (sQ (g_Se 8 (sQ (g_Gr (sI s00 0 0 (hpC v))) 0 1 (some 1)) 0 (hpC v)) 0 2 (some 8)) 1 (hpC v)) 0 3 (some 16))) 0 4 (some 24))).2.2 26 i := rfl
  rw [e]
  exact rowS_26 _ 31 i hi
def G00 : GT := (0, 0, fun _ => 0, fun _ => 0, fun _ => 0, fun _ => 0, fun _ => 0, fun _ => false, fun _ => false, fun _ => 0)
theorem init_R (v : Int32) : Rel G00 (initS v) (shY (initS v)) := by
  obtain ⟨d, h1, h2, h3⟩ := hpC_d v
  have hv : ∀ k j, (initS v).1 k j = if k = 99 ∧ j = 0 then hpC v else if k = 99 ∧ j = 21 then -1 else if k = 20 ∧ j = 0 then hpC v else if k = 16 ∧ j = 1 then 1 else if k = 12 ∧ j = 0 then hpC v else if k = 0 ∧ j = 0 then hpC v else 0 := by
    intro k j
    rw [init_1, hpC_1, hpM_C]
    simp only [sI_1]
    by_cases a1 : k = 99
    · subst a1
      by_cases b1 : j = 0
      · subst b1; simp
      · by_cases b2 : j = 21
        · subst b2; simp
        · simp [b1, b2]; rfl
    · by_cases a2 : k = 20
      · subst a2
        by_cases b1 : j = 0
        · subst b1; simp
        · simp [b1]; rfl
      · by_cases a3 : k = 16
        · subst a3
          by_cases b1 : j = 1
          · subst b1; simp
          · simp [b1]; rfl
        · by_cases a4 : k = 12
          · subst a4
            by_cases b1 : j = 0
            · subst b1; simp
            · simp [b1]; rfl
          · by_cases a5 : k = 8
            · subst a5
              by_cases b1 : j = 1
              · subst b1; simp
              · simp [b1]; rfl
            · by_cases a6 : k = 0
              · subst a6
                by_cases b1 : j = 0
                · subst b1; simp
                · simp [b1]; rfl
              · simp [a1, a2, a3, a4, a5, a6]; rfl
  have hy : ∀ k j, (shY (initS v)).1 k j = (initS v).1 (99 + k) j := fun _ _ => rfl
  refine ⟨⟨by decide, by decide, fun e he => absurd he (Nat.not_lt_zero _), fun e he => absurd he (Nat.not_lt_zero _)⟩, ⟨?_, ?_, fun e he => absurd he (Nat.not_lt_zero _), fun e he => absurd he (Nat.not_lt_zero _), fun e => ?_, fun w => ?_⟩, ⟨?_, ?_, fun e he => absurd he (Nat.not_lt_zero _), fun e he => absurd he (Nat.not_lt_zero _)⟩, ⟨⟨d, h1, h2, ?_, ?_, ?_⟩, ?_, ?_, ⟨fun i => i, fun i hi => ⟨hi, init_3 v i hi⟩, fun i j _ _ h => h⟩, ?_, ?_, ?_, ?_⟩, ?_, Or.inl ?_⟩
  · rw [hv]; simp; rfl
  · rw [hv]; simp; rfl
  · rw [init_2, b64_0]
    show false = (decide (e < 0) && _)
    simp
  · rw [hv]
    show b32 0 w = (decide (w < 0) && _)
    rw [b32_0]; simp
  · rw [hy, hv]; simp; rfl
  · rw [hy, hv]; simp; rfl
  · rw [hv]; simp; exact h3
  · rw [hv]; simp; exact h3
  · rw [hv]; simp; exact h3
  · rw [hv]; simp
  · rw [hv]; simp
  · rw [hv]; simp
  · rw [hv]; simp
  · rw [hv]; simp
  · rw [init_2]
  · rw [hy, hv, hv]; simp
  · rw [hy, hv]; simp
theorem pure_law0 (xs : Nat → Int32) (L : Nat) : lawN xs L (L + 1) 1 (initS (cellV xs L)) (shY (initS (cellV xs L))) = some () := lawN_e xs L (L + 1) 1 _ _ ⟨G00, init_R _⟩ (by omega) (by omega)
