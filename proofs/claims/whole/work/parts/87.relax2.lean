def frR (τ τ' : mS) : Prop := (∀ k j, k ≠ 9 → k ≠ 10 → τ'.1 k j = τ.1 k j) ∧ τ'.2 = τ.2
theorem frR_r (τ : mS) : frR τ τ := ⟨fun _ _ _ _ => rfl, rfl⟩
theorem frR_t {a b c : mS} (h : frR a b) (k : frR b c) : frR a c := ⟨fun x j q1 q2 => (k.1 x j q1 q2).trans (h.1 x j q1 q2), k.2.trans h.2⟩
theorem frR_Y {G : GT} {τ τ' : mS} (h : frR τ τ') (hY : RY G τ) : RY G τ' := by
  obtain ⟨y1, y2, y3, y4⟩ := hY
  refine ⟨by rw [h.1 0 1 (by omega) (by omega)]; exact y1, by rw [h.1 0 2 (by omega) (by omega)]; exact y2, fun e he => ?_, fun v hv => ?_⟩
  · rw [h.1 1 e (by omega) (by omega), h.1 2 e (by omega) (by omega), h.1 3 e (by omega) (by omega), h.1 4 e (by omega) (by omega), h.1 5 e (by omega) (by omega), h.1 6 e (by omega) (by omega)]
    exact y3 e he
  · rw [h.1 7 v (by omega) (by omega), h.1 8 v (by omega) (by omega)]; exact y4 v hv
def YF (G : GT) (τ : mS) (F H : Nat → Nat) : Prop := ∀ v, v < gN G → τ.1 9 v = nI (F v) ∧ τ.1 10 v = nI (H v)
theorem pass_e {G : GT} {τ : mS} {O s : Nat → Bool} {F H : Nat → Nat} {x1 : Int32} (hW : WG G) (hY : RY G τ) (hO : ∀ e, e < gm G → O e = (gl G e && !decide (nI e = x1))) (hJ : RJ G O s F H) (hF : YF G τ F H) :
    ∃ u, lpN (f_Mo_relax_L10 x1) fuB (0, 0, τ) = some u ∧ ∃ F' H', YF G u.2.2 F' H' ∧ RJ G O s F' H' ∧ frR τ u.2.2 ∧ ((u.1 = 0 ∧ F' = F ∧ H' = H ∧ ∀ e, e < gm G → O e = true → ¬ RU G F H e) ∨ (u.1 = 1 ∧ RM G F' H' < RM G F H)) := by
  have hN := hW.1
  have hm := hW.2.1
  refine lpN_i (st := f_Mo_relax_L10 x1) (fun i t => t.2.1 = nI i ∧ ∃ F' H', YF G t.2.2 F' H' ∧ RJ G O s F' H' ∧ frR τ t.2.2 ∧ ((t.1 = 0 ∧ F' = F ∧ H' = H ∧ ∀ e, e < i → O e = true → ¬ RU G F H e) ∨ (t.1 = 1 ∧ RM G F' H' < RM G F H))) _ (gm G) (fun i t hi ht => ?_) fuB 0 (0, 0, τ) ⟨rfl, F, H, hF, hJ, frR_r τ, Or.inl ⟨rfl, rfl, rfl, fun e he => absurd he (Nat.not_lt_zero _)⟩⟩ (Nat.zero_le _) (by rw [fuB_e]; omega)
  obtain ⟨t1, t2, t3⟩ := t
  obtain ⟨e1, F', H', hF', hJ', hf, hm'⟩ := ht
  dsimp only at e1 hF' hf hm'
  subst e1
  have hY' := frR_Y hf hY
  unfold f_Mo_relax_L10
  dsimp only
  rw [hY'.2.1]
  by_cases hc : i = gm G
  · subst hc
    left
    rw [if_pos (nI_le (Nat.le_refl _) (by omega))]
    exact ⟨_, rfl, F', H', hF', hJ', hf, hm'⟩
  · right
    have hi2 : i < gm G := by omega
    refine ⟨hi2, ?_⟩
    obtain ⟨y1, y2, y3, y4, y5, y6⟩ := hY'.2.2.1 i hi2
    obtain ⟨w1, w2, w3, w4, -⟩ := hW.2.2.1 i hi2
    obtain ⟨f1, f2⟩ := hF' _ w1
    obtain ⟨g1, g2⟩ := hF' _ w2
    have ju := hJ'.1 _ w1
    have jv := hJ'.1 _ w2
    have hu := RJ_few hW hJ' _ w1
    have hv := RJ_few hW hJ' _ w2
    rw [if_neg (nI_ge hi2 (by omega))]
    simp only [nm, inb_n (show i < 40 by omega) (by decide), gd_t rfl, nI_clamp (show i < 2 ^ 31 by omega), y1, y2, y3, y6, inb_n (show gf G i < 10 by omega) (by decide), inb_n (show gt G i < 10 by omega) (by decide), nI_clamp (show gf G i < 2 ^ 31 by omega), nI_clamp (show gt G i < 2 ^ 31 by omega), f1, f2, g1, g2, nI_add]
    -- an arc that does nothing
    have skip : (O i = true → ¬ RU G F' H' i) → ∃ s', (some (Sum.inl (t1, nI i + 1, t3)) : Option ((Int32 × Int32 × mS) ⊕ (Int32 × Int32 × mS))) = some (Sum.inl s') ∧ s'.2.1 = nI (i + 1) ∧ ∃ F' H', YF G s'.2.2 F' H' ∧ RJ G O s F' H' ∧ frR τ s'.2.2 ∧ ((s'.1 = 0 ∧ F' = F ∧ H' = H ∧ ∀ e, e < i + 1 → O e = true → ¬ RU G F H e) ∨ (s'.1 = 1 ∧ RM G F' H' < RM G F H)) := by
      intro hno
      refine ⟨_, rfl, nI_1 i, F', H', hF', hJ', hf, ?_⟩
      rcases hm' with ⟨a1, a2, a3, a4⟩ | a
      · left
        subst a2
        subst a3
        refine ⟨a1, rfl, rfl, fun e he hOe => ?_⟩
        by_cases q : e = i
        · rw [q] at hOe ⊢; exact hno hOe
        · exact a4 e (by omega) hOe
      · exact Or.inr a
    -- an arc that lessens
    have go : O i = true → RU G F' H' i → ∃ s', (some (Sum.inl ((1 : Int32), nI i + 1, sI (sI t3 9 (gt G i) (nI (F' (gf G i) + gw G i))) 10 (gt G i) ((sI t3 9 (gt G i) (nI (F' (gf G i) + gw G i))).1 10 (gf G i) + 1))) : Option ((Int32 × Int32 × mS) ⊕ (Int32 × Int32 × mS))) = some (Sum.inl s') ∧ s'.2.1 = nI (i + 1) ∧ ∃ F' H', YF G s'.2.2 F' H' ∧ RJ G O s F' H' ∧ frR τ s'.2.2 ∧ ((s'.1 = 0 ∧ F' = F ∧ H' = H ∧ ∀ e, e < i + 1 → O e = true → ¬ RU G F H e) ∨ (s'.1 = 1 ∧ RM G F' H' < RM G F H)) := by
      intro hOi hRU
      obtain ⟨j1, j2⟩ := RJ_step hW hJ' hi2 hOi hRU
      refine ⟨_, rfl, nI_1 i, _, _, fun v hv => ?_, j1, frR_t hf ⟨fun k j q1 q2 => ?_, rfl⟩, Or.inr ⟨rfl, ?_⟩⟩
      · dsimp only
        have e10 : (sI t3 9 (gt G i) (nI (F' (gf G i) + gw G i))).1 10 (gf G i) = nI (H' (gf G i)) := by rw [sI_1, if_neg (by omega)]; exact f2
        rw [e10, nI_1]
        obtain ⟨h1, h2⟩ := hF' v hv
        by_cases q : v = gt G i
        · subst q
          rw [va_up_self, va_up_self]
          exact ⟨by rw [sI_1, if_neg (by omega), sI_1, if_pos rfl, if_pos rfl], by rw [sI_1, if_pos rfl, if_pos rfl]⟩
        · rw [va_up_ne _ _ q, va_up_ne _ _ q]
          exact ⟨by rw [sI_1, if_neg (by omega), sI_1, if_pos rfl, if_neg q]; exact h1, by rw [sI_1, if_pos rfl, if_neg q, sI_1, if_neg (by omega)]; exact h2⟩
      · dsimp only
        rw [sI_1, if_neg q2, sI_1, if_neg q1]
      · rcases hm' with ⟨a1, a2, a3, a4⟩ | ⟨_, a⟩
        · rw [a2, a3] at j2 ⊢; exact j2
        · exact Nat.lt_trans j2 a
    have hOi := hO i hi2
    cases hg : gl G i with
    | false =>
      rw [if_pos bF]
      exact skip (fun q => by rw [hOi, hg] at q; cases q)
    | true =>
      rw [if_neg bT]
      by_cases hx : nI i = x1
      · rw [if_pos hx]
        exact skip (fun q => by rw [hOi, hg] at q; simp [hx] at q)
      · rw [if_neg hx]
        have hOt : O i = true := by rw [hOi, hg]; simp [hx]
        have eN : (nI (F' (gf G i)) = 1000000000) ↔ F' (gf G i) = 1000000000 := by rw [show (1000000000 : Int32) = nI 1000000000 from rfl]; exact nI_eq (by omega) (by omega)
        by_cases hn : F' (gf G i) = 1000000000
        · rw [if_pos (eN.mpr hn)]
          exact skip (fun _ q => q.1 hn)
        · rw [if_neg (fun q => hn (eN.mp q))]
          have el := nI_ltI (a := F' (gf G i) + gw G i) (b := F' (gt G i)) (by omega) (by omega)
          have ee := nI_eq (a := F' (gf G i) + gw G i) (b := F' (gt G i)) (by omega) (by omega)
          have eh : (nI (H' (gt G i)) ≤ nI (H' (gf G i)) + 1) ↔ H' (gt G i) ≤ H' (gf G i) + 1 := by rw [nI_1]; exact nI_leI (by omega) (by omega)
          by_cases c1 : F' (gf G i) + gw G i < F' (gt G i)
          · rw [if_pos (el.mpr c1)]
            exact go hOt ⟨hn, Or.inl c1⟩
          · rw [if_neg (fun q => c1 (el.mp q))]
            by_cases c2 : F' (gf G i) + gw G i = F' (gt G i)
            · rw [if_pos (ee.mpr c2)]
              by_cases c3 : H' (gt G i) ≤ H' (gf G i) + 1
              · rw [if_pos (eh.mpr c3)]
                exact skip (fun _ q => by have := q.2; omega)
              · rw [if_neg (fun q => c3 (eh.mp q))]
                exact go hOt ⟨hn, Or.inr ⟨c2, by omega⟩⟩
            · rw [if_neg (fun q => c2 (ee.mp q))]
              exact skip (fun _ q => by have := q.2; omega)
theorem relax_e {G : GT} {τ : mS} {O s : Nat → Bool} {F H : Nat → Nat} {x1 : Int32} (hW : WG G) (hY : RY G τ) (hO : ∀ e, e < gm G → O e = (gl G e && !decide (nI e = x1))) (hJ : RJ G O s F H) (hF : YF G τ F H) :
    ∃ τ', f_Mo_relax τ x1 = some τ' ∧ frR τ τ' ∧ ∃ F' H', YF G τ' F' H' ∧ RJ G O s F' H' ∧ ∀ e, e < gm G → O e = true → ¬ RU G F' H' e := by
  have hN := hW.1
  -- a bound of the measure
  have bnd : ∀ F H, RJ G O s F H → RM G F H < 10 ^ 21 := by
    intro F H hJ
    have h1 : sN F (gN G) ≤ gN G * 1000000000 := sN_le _ (fun v hv => (hJ.1 v hv).1)
    have h2 : sN H (gN G) ≤ gN G * 9 := sN_le _ (fun v hv => RJ_few hW hJ v hv)
    have h3 : gN G * 1000000000 ≤ 10 * 1000000000 := Nat.mul_le_mul_right _ hN
    have h4 : gN G * 9 ≤ 10 * 9 := Nat.mul_le_mul_right _ hN
    unfold RM
    have h5 : sN F (gN G) * 20000000000 ≤ 10000000000 * 20000000000 := Nat.mul_le_mul_right _ (by omega)
    omega
  have main : ∀ (n : Nat) (τ : mS) (F H : Nat → Nat), RY G τ → RJ G O s F H → YF G τ F H → RM G F H < n → ∃ u, lpN (f_Mo_relax_L2 x1) (n + 1) (1, τ) = some u ∧ frR τ u.2 ∧ ∃ F' H', YF G u.2 F' H' ∧ RJ G O s F' H' ∧ ∀ e, e < gm G → O e = true → ¬ RU G F' H' e := by
    intro n
    induction n with
    | zero => intro τ F H _ _ _ h; omega
    | succ n ih =>
      intro τ F H hY hJ hF hlt
      obtain ⟨u, p1, F', H', p2, p3, p4, p5⟩ := pass_e hW hY hO hJ hF
      rw [lpN]
      have e1 : f_Mo_relax_L2 x1 (1, τ) = some (.inl (u.1, u.2.2)) := by
        unfold f_Mo_relax_L2
        dsimp only
        rw [if_neg n10, p1, Option.bind_some]
      rw [e1]
      dsimp only
      rcases p5 with ⟨a1, a2, a3, a4⟩ | ⟨a1, a2⟩
      · rw [a1, lpN]
        have e2 : f_Mo_relax_L2 x1 (0, u.2.2) = some (.inr (0, u.2.2)) := by
          unfold f_Mo_relax_L2
          dsimp only
          rw [if_pos rfl]
        rw [e2]
        subst a2
        subst a3
        exact ⟨_, rfl, p4, F', H', p2, p3, a4⟩
      · rw [a1]
        obtain ⟨z, q1, q2, q3⟩ := ih u.2.2 F' H' (frR_Y p4 hY) p3 p2 (by omega)
        exact ⟨z, q1, frR_t p4 q2, q3⟩
  have hb := bnd F H hJ
  obtain ⟨u, q1, q2, q3⟩ := main (10 ^ 40 - 1) τ F H hY hJ hF (Nat.lt_of_lt_of_le hb (by decide))
  unfold f_Mo_relax
  have e40 : fuB = (10 ^ 40 - 1) + 1 := by rw [fuB_e]
  rw [e40, q1, Option.bind_some]
  exact ⟨_, rfl, q2, q3⟩
