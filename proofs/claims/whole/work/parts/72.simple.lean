-- ===== PURE: calls without a search =====
def Ok2 (x y : Option (Int32 × mS)) : Prop := ∃ (r : Int32) (σ τ : mS) (G : GT), x = some (r, σ) ∧ y = some (r, τ) ∧ Rel G σ τ
theorem IX_c {σ σ' : mS} (h : IX σ) (h1 : ∀ k j, k = 0 ∨ k = 12 ∧ j = 0 ∨ k = 20 ∧ j = 0 ∨ k = 8 ∧ j = 1 ∨ k = 16 ∧ j = 1 ∨ k = 27 → σ'.1 k j = σ.1 k j) (h2 : σ'.2.1 27 4 = σ.2.1 27 4) (h3 : σ'.2.2 26 = σ.2.2 26) : IX σ' := by
  obtain ⟨⟨d, d1, d2, d3, d4, d5⟩, a1, a2, ⟨q, q1, q2⟩, a3, a4, a5, a6⟩ := h
  refine ⟨⟨d, d1, d2, ?_, ?_, ?_⟩, ?_, ?_, ⟨q, fun i hi => ⟨(q1 i hi).1, by rw [h3]; exact (q1 i hi).2⟩, q2⟩, ?_, ?_, ?_, ?_⟩
  · rw [h1 0 0 (by omega)]; exact d3
  · rw [h1 12 0 (by omega)]; exact d4
  · rw [h1 20 0 (by omega)]; exact d5
  · rw [h1 8 1 (by omega)]; exact a1
  · rw [h1 16 1 (by omega)]; exact a2
  · rw [h1 27 1 (by omega)]; exact a3
  · rw [h1 27 2 (by omega)]; exact a4
  · rw [h1 27 3 (by omega)]; exact a5
  · rw [h2]; exact a6
theorem up2_e {α : Type} {f : Nat → Nat → α} {k j a b : Nat} {v : α} : up2 f k j v a b = if a = k then (if b = j then v else f a b) else f a b := rfl
section Simple
variable {G : GT} {σ τ : mS}
theorem p_heap (R : Rel G σ τ) : ∃ r, f_LP_heap σ = some r ∧ f_Mo_heap τ = some r := ⟨_, rfl, by unfold f_Mo_heap; rw [R.2.2.2.2.1]⟩
theorem p_node (R : Rel G σ τ) : Ok2 (f_LP_node σ) (f_Mo_node τ) := by
  obtain ⟨hW, hX, hY, hI, hh, hr⟩ := id R
  have hN := hW.1
  have e10 : (10 : Int32) = nI 10 := rfl
  by_cases c : gN G < 10
  · obtain ⟨x1, x2, x3, x4, x5, x6⟩ := hX
    obtain ⟨y1, y2, y3, y4⟩ := hY
    refine ⟨nI (gN G), sI (sI σ 7 (gN G) 0) 1 6 (nI (gN G) + 1), sI (sI (sI (sI τ 7 (gN G) 0) 8 (gN G) 0) 0 1 (nI (gN G) + 1)) 0 21 (-1), (gN G + 1, gm G, gf G, gt G, gw G, ga G, gb G, gl G, va_up (gs G) (gN G) false, va_up (gr G) (gN G) 0), ?_, ?_, ?_⟩
    · unfold f_LP_node f_Gr_addNode
      rw [x1, if_pos (by rw [e10]; exact (nI_ltI (by omega) (by omega)).mpr c)]
      simp only [nm]
      rw [gd_t (inb_n c (by decide)), nI_clamp (by omega)]
      simp [sI_1, x1]
    · unfold f_Mo_node f_Mo_change
      rw [y1, if_neg (by rw [e10]; exact fun q => absurd ((nI_eq (by omega) (by omega)).mp q) (by omega))]
      simp only [nm]
      rw [gd_t (inb_n c (by decide)), gd_t (by decide), nI_clamp (by omega)]
      have e1 : (sI τ 7 (gN G) 0).1 0 1 = nI (gN G) := by simp [sI_1, y1]
      rw [e1, gd_t (inb_n c (by decide)), nI_clamp (by omega)]
      have e2 : (sI (sI τ 7 (gN G) 0) 8 (gN G) 0).1 0 1 = nI (gN G) := by simp [sI_1, y1]
      rw [e2, Option.bind_some]
      have e3 : (sI (sI (sI (sI τ 7 (gN G) 0) 8 (gN G) 0) 0 1 (nI (gN G) + 1)) 0 21 (-1)).1 0 1 = nI (gN G) + 1 := by simp [sI_1]
      rw [e3, nI_1, nI_pred]
    · refine ⟨⟨by show gN G + 1 ≤ 10; omega, hW.2.1, fun e he => ?_, fun v hv => ?_⟩, ⟨?_, ?_, fun e he => ?_, fun v hv => ?_, fun e => ?_, fun v => ?_⟩, ⟨?_, ?_, fun e he => ?_, fun v hv => ?_⟩, ?_, ?_, Or.inl ?_⟩
      · obtain ⟨a1, a2, a3⟩ := hW.2.2.1 e he
        exact ⟨Nat.lt_succ_of_lt a1, Nat.lt_succ_of_lt a2, a3⟩
      · show va_up (gr G) (gN G) 0 v ≤ 1000000
        by_cases q : v = gN G
        · rw [q, va_up_self]; decide
        · rw [va_up_ne _ _ q]; exact hW.2.2.2 v (by have : v < gN G + 1 := hv; omega)
      · simp [sI_1]; exact nI_1 _
      · simpa [sI_1, gN, gm, gf, gt, gw, ga, gb, gl] using x2
      · have := x3 e he
        simpa [sI_1, gN, gm, gf, gt, gw, ga, gb, gl] using this
      · show (sI (sI σ 7 (gN G) 0) 1 6 (nI (gN G) + 1)).1 7 v = nI (va_up (gr G) (gN G) 0 v)
        by_cases q : v = gN G
        · subst q; rw [va_up_self]; simp [sI_1]; rfl
        · rw [va_up_ne _ _ q]
          have := x4 v (by have : v < gN G + 1 := hv; omega)
          simpa [sI_1, q] using this
      · exact x5 e
      · show b32 ((sI (sI σ 7 (gN G) 0) 1 6 (nI (gN G) + 1)).1 1 9) v = (decide (v < gN G + 1) && va_up (gs G) (gN G) false v)
        have e1 : (sI (sI σ 7 (gN G) 0) 1 6 (nI (gN G) + 1)).1 1 9 = σ.1 1 9 := by simp [sI_1]
        rw [e1, x6 v]
        by_cases q : v = gN G
        · subst q; simp [va_up_self]
        · rw [va_up_ne _ _ q]
          by_cases q2 : v < gN G
          · simp [q2, Nat.lt_succ_of_lt q2]
          · simp [q2]; omega
      · simp [sI_1]; exact nI_1 _
      · simpa [sI_1, gN, gm, gf, gt, gw, ga, gb, gl] using y2
      · have := y3 e he
        simpa [sI_1, gN, gm, gf, gt, gw, ga, gb, gl] using this
      · show (sI (sI (sI (sI τ 7 (gN G) 0) 8 (gN G) 0) 0 1 (nI (gN G) + 1)) 0 21 (-1)).1 7 v = bI (va_up (gs G) (gN G) false v) ∧ (sI (sI (sI (sI τ 7 (gN G) 0) 8 (gN G) 0) 0 1 (nI (gN G) + 1)) 0 21 (-1)).1 8 v = nI (va_up (gr G) (gN G) 0 v)
        by_cases q : v = gN G
        · subst q; rw [va_up_self, va_up_self]; simp [sI_1]; exact ⟨rfl, rfl⟩
        · rw [va_up_ne _ _ q, va_up_ne _ _ q]
          have := y4 v (by have : v < gN G + 1 := hv; omega)
          simpa [sI_1, q] using this
      · exact IX_c hI (fun k j hk => by
          rw [sI_1, sI_1, if_neg (by omega), if_neg (by omega)]) rfl rfl
      · simpa [sI_1] using hh
      · simp [sI_1]
  · have hN10 : gN G = 10 := by omega
    refine ⟨-4, σ, τ, G, ?_, ?_, R⟩
    · unfold f_LP_node
      rw [hX.1, hN10, if_neg (by decide)]
    · unfold f_Mo_node
      rw [hY.1, hN10, if_pos (by decide)]
theorem p_clear (R : Rel G σ τ) : Ok2 (f_LP_clear σ) (f_Mo_clear τ) := by
  obtain ⟨hW, hX, hY, hI, hh, hr⟩ := id R
  obtain ⟨x1, x2, x3, x4, x5, x6⟩ := hX
  obtain ⟨y1, y2, y3, y4⟩ := hY
  refine ⟨nI (gN G), sI (sJ (sI (sI σ 1 6 0) 1 7 0) 1 8 0) 1 9 0, sI (sI (sI τ 0 1 0) 0 2 0) 0 21 (-1), (0, 0, gf G, gt G, gw G, ga G, gb G, gl G, gs G, gr G), ?_, ?_, ?_⟩
  · unfold f_LP_clear
    simp only [nm, x1]
  · unfold f_Mo_clear f_Mo_change
    simp only [nm, y1, Option.bind_some]
  · refine ⟨⟨Nat.zero_le _, Nat.zero_le _, fun e he => absurd he (Nat.not_lt_zero _), fun v hv => absurd hv (Nat.not_lt_zero _)⟩, ⟨?_, ?_, fun e he => absurd he (Nat.not_lt_zero _), fun v hv => absurd hv (Nat.not_lt_zero _), fun e => ?_, fun v => ?_⟩, ⟨?_, ?_, fun e he => absurd he (Nat.not_lt_zero _), fun v hv => absurd hv (Nat.not_lt_zero _)⟩, ?_, ?_, Or.inl ?_⟩
    · simp [sI_1, sJ_1]; rfl
    · simp [sI_1, sJ_1]; rfl
    · have e1 : (sI (sJ (sI (sI σ 1 6 0) 1 7 0) 1 8 0) 1 9 0).2.1 1 8 = 0 := by rw [sI_2, sJ_2]; simp
      rw [e1, b64_0]; simp [gm]
    · have e1 : (sI (sJ (sI (sI σ 1 6 0) 1 7 0) 1 8 0) 1 9 0).1 1 9 = 0 := by simp [sI_1]
      rw [e1, b32_0]; simp [gN]
    · simp [sI_1]; rfl
    · simp [sI_1]; rfl
    · refine IX_c hI (fun k j hk => ?_) ?_ rfl
      · rw [sI_1, if_neg (by omega), sJ_1, sI_1, if_neg (by omega), sI_1, if_neg (by omega)]
      · rw [sI_2, sJ_2, if_neg (by decide)]; rfl
    · simpa [sI_1, sJ_1] using hh
    · simp [sI_1]
end Simple
