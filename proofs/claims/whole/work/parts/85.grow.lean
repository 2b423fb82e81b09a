-- ===== PURE: the tree, on the one side =====
def liveO (G : GT) : Nat → Bool := fun e => decide (e < gm G) && gl G e
def srcK (G : GT) (i : Nat) : Nat → Bool := fun v => decide (v < i) && gs G v
theorem srcK_s {G : GT} {i : Nat} (h : gs G i = true) : srcK G (i + 1) = va_up (srcK G i) i true := by
  funext v
  unfold srcK
  by_cases q : v = i
  · subst q; rw [va_up_self]; simp [h]
  · rw [va_up_ne _ _ q]
    by_cases q2 : v < i
    · simp [q2, Nat.lt_succ_of_lt q2]
    · have : ¬ v < i + 1 := by omega
      simp [q2, this]
theorem srcK_n {G : GT} {i : Nat} (h : gs G i = false) : srcK G (i + 1) = srcK G i := by
  funext v
  unfold srcK
  by_cases q : v = i
  · subst q; simp [h]
  · by_cases q2 : v < i
    · simp [q2, Nat.lt_succ_of_lt q2]
    · have : ¬ v < i + 1 := by omega
      simp [q2, this]
theorem frO_B {b : Nat} {σ σ' : mS} (h : frO b σ σ') : frB b σ σ' := frT_B (frO_T h)
theorem grow_e {G : GT} {σ : mS} (hW : WG G) (hX : RX G σ) (hI : IX σ) :
    ∃ σ' K C c k o, f_LP_growTree σ = some σ' ∧ frB 8 σ σ' ∧ TX 8 G false (liveO G) (gs G) (fun _ => false) σ' K c ∧ k ≤ 10 ∧ σ'.1 8 6 = nI k ∧ ordI 8 σ' k K C (fun _ => false) c o ∧ ∀ v, K v = true → C v = true := by
  have hN := hW.1
  have hm := hW.2.1
  obtain ⟨⟨d, d1, d2, d3, d4, d5⟩, i1, i2, i3⟩ := hI
  unfold f_LP_growTree
  obtain ⟨σ1, p1, p2, p3, p4, p5, p6⟩ := counted_e (G := G) sB_8 d1 d2 d4 (σ.2.1 1 8) 0
  rw [p1, Option.bind_some]
  have hX1 : RX G σ1 := frB_X sB_8 p2 hX
  have hC0 : (fun v => b32 0 v) = fun _ => false := funext fun v => b32_0 v
  rw [hC0] at p3
  obtain ⟨u, q1, q2, q3⟩ := lpN_i (st := f_LP_growTree_L17) (fun i t => t.1 = nI i ∧ frO 8 σ1 t.2 ∧ SI 8 G t.2 d (srcK G i) (fun _ => false) (fun _ => 0) false) (fun u => frO 8 σ1 u.2 ∧ SI 8 G u.2 d (srcK G (gN G)) (fun _ => false) (fun _ => 0) false) (gN G) (fun i t hi ht => by
    obtain ⟨t1, t2⟩ := t
    obtain ⟨e1, hf, hS⟩ := ht
    dsimp only at e1 hf hS
    subst e1
    have hX2 : RX G t2 := frO_X sB_8 hf hX1
    unfold f_LP_growTree_L17
    dsimp only
    rw [hX2.1]
    by_cases hc : i = gN G
    · subst hc
      left
      rw [if_pos (nI_le (Nat.le_refl _) (by omega))]
      exact ⟨_, rfl, hf, hS⟩
    · right
      have hi2 : i < gN G := by omega
      refine ⟨hi2, ?_⟩
      rw [if_neg (nI_ge hi2 (by omega))]
      have ht := b32_t (t2.1 1 9) (k := i) (by omega)
      rw [hX2.2.2.2.2.2 i] at ht
      simp only [hi2, decide_true, Bool.true_and] at ht
      cases hg : gs G i with
      | false =>
        rw [if_pos (ht.mpr hg)]
        exact ⟨_, rfl, nI_1 i, hf, by rw [srcK_n hg]; exact hS⟩
      | true =>
        rw [if_neg (fun q => by rw [ht, hg] at q; cases q)]
        obtain ⟨σ', r1, r2, r3⟩ := offer_e (v := i) (x := 0) hW hX2 sB_8 hS hi2 (by omega)
        have r1 : f_Se_offer 8 t2 (nI i) 0 = some σ' := r1
        rw [r1, Option.bind_some]
        have hno : noO (srcK G i) (fun _ => false) (fun _ => 0) i 0 = false := by
          unfold noO srcK; simp
        rw [hno, if_neg (by decide)] at r3
        have hcc : va_up (fun _ : Nat => (0 : Nat)) i 0 = fun _ => 0 := by
          funext v
          by_cases q : v = i
          · rw [q, va_up_self]
          · rw [va_up_ne _ _ q]
        rw [hcc, ← srcK_s hg] at r3
        exact ⟨_, rfl, nI_1 i, frO_t hf r2, r3⟩) fuS 0 (0, σ1) ⟨rfl, frO_r 8 σ1, by
      have h0 : srcK G 0 = fun _ => false := by funext v; simp [srcK]
      rw [h0]; exact p3 _⟩ (Nat.zero_le _) (by rw [fuS_e]; omega)
  rw [q1, Option.bind_some]
  have hXu : RX G u.2 := frO_X sB_8 q2 hX1
  have hD : DI G false (liveO G) (gs G) (fun _ => false) 0 (srcK G (gN G)) (fun _ => false) (fun _ => 0) := by
    refine ⟨fun v hv hs _ => ⟨by simp [srcK, hv, hs], rfl⟩, fun v h => (by cases h), fun v h => (by cases h), fun e _ _ _ h => (by cases h), fun v hv => ?_, fun u v _ h => (by cases h), fun v _ => ⟨0, 0, rfl, Nat.le_refl _, Nat.zero_le _⟩⟩
    unfold srcK at hv
    simp only [Bool.and_eq_true, decide_eq_true_eq] at hv
    exact ⟨hv.1, rfl, Or.inl ⟨hv.2, rfl⟩⟩
  have hO : ∀ e, e < 40 → b64 (u.2.2.1 8 9) e = liveO G e := fun e _ => by
    rw [q2.2.1 8 9 (by omega), p4]; exact hX.2.2.2.2.1 e
  have ha : u.2.1 8 1 = bI false := by rw [q2.1 8 1 (by omega) (by omega) (by omega) (Or.inr (by omega)) (Or.inl (by omega)), p2.2.1]; exact i1
  have hp : u.2.1 8 10 = nI 1 := by rw [q2.1 8 10 (by omega) (by omega) (by omega) (Or.inr (by omega)) (Or.inl (by omega))]; exact p6
  have h6 : u.2.1 8 6 = 0 := by rw [q2.1 8 6 (by omega) (by omega) (by omega) (Or.inr (by omega)) (Or.inl (by omega))]; exact p5
  obtain ⟨σ', K', C', c', k, o, r1, r2, r3, r4, r5, r6, r7, r8⟩ := all_e (ag := false) (O := liveO G) (s := gs G) (X := fun _ => false) hW hXu sB_8 q3 ha hO hp h6 hD (fun v h => by cases h)
  rw [r1, Option.bind_some]
  refine ⟨σ', K', C', c', k, o, rfl, frB_t (frB_t p2 (frO_B q2)) (frT_B r8), ⟨DI_BP r2 r4 r5, r3.2.1, fun v hv => ?_, fun e he => by rw [r8.2.2.2.1 8 9 (by omega)]; exact hO e he, by rw [r8.2.1 1 (by omega) (by omega) (by omega)]; exact ha, by rw [r8.2.1 10 (by omega) (by omega) (by omega)]; exact hp⟩, r2, r6, r7, r5⟩
  obtain ⟨a1, a2, a3⟩ := r3.2.2.2.1 v hv
  obtain ⟨len, hp', b1, b2, b3⟩ := r4.2.2.2.2.2.2 v hv
  exact ⟨a1, a2, a3, by omega⟩
