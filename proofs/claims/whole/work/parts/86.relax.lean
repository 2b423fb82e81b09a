-- ===== PURE: the other side's relaxing =====
def sN (f : Nat → Nat) : Nat → Nat
  | 0 => 0
  | n + 1 => sN f n + f n
theorem sN_c {f g : Nat → Nat} : ∀ n, (∀ v, v < n → f v = g v) → sN f n = sN g n := by
  intro n
  induction n with
  | zero => intro _; rfl
  | succ n ih =>
    intro h
    rw [sN, sN, ih (fun v hv => h v (by omega)), h n (by omega)]
theorem sN_up (f : Nat → Nat) (v x : Nat) : ∀ n, v < n → sN (va_up f v x) n + f v = sN f n + x := by
  intro n
  induction n with
  | zero => intro h; omega
  | succ n ih =>
    intro h
    rw [sN, sN]
    by_cases q : v = n
    · subst q
      rw [va_up_self, sN_c (g := f) v (fun u hu => va_up_ne _ _ (by omega))]
      omega
    · rw [va_up_ne _ _ (fun z => q z.symm)]
      have := ih (by omega)
      omega
theorem sN_le {f : Nat → Nat} {B : Nat} : ∀ n, (∀ v, v < n → f v ≤ B) → sN f n ≤ n * B := by
  intro n
  induction n with
  | zero => intro _; simp [sN]
  | succ n ih =>
    intro h
    have h1 := ih (fun v hv => h v (by omega))
    have h2 := h n (by omega)
    rw [sN, Nat.succ_mul]
    omega
/-- far and hop within relaxing: s sources, O arcs -/
def RJ (G : GT) (O s : Nat → Bool) (F H : Nat → Nat) : Prop :=
  (∀ v, v < gN G → F v ≤ 1000000000 ∧ (F v = 1000000000 → H v = 0) ∧ (s v = true → F v = 0 ∧ H v = 0) ∧ (F v ≠ 1000000000 → F v ≤ 1000000 * H v) ∧ H v + sN F (gN G) ≤ 10000000000) ∧
  ∀ v, v < gN G → F v ≠ 1000000000 → (s v = true ∧ F v = 0 ∧ H v = 0) ∨ ∃ e, e < gm G ∧ O e = true ∧ gt G e = v ∧ F (gf G e) ≠ 1000000000 ∧ lexL (F (gf G e) + gw G e) (H (gf G e) + 1) (F v) (H v)
def RM (G : GT) (F H : Nat → Nat) : Nat := sN F (gN G) * 20000000000 + sN H (gN G)
/-- does the arc e lessen what its end has -/
def RU (G : GT) (F H : Nat → Nat) (e : Nat) : Prop := F (gf G e) ≠ 1000000000 ∧ (F (gf G e) + gw G e < F (gt G e) ∨ F (gf G e) + gw G e = F (gt G e) ∧ H (gf G e) + 1 < H (gt G e))
theorem RJ_step {G : GT} {O s : Nat → Bool} {F H : Nat → Nat} (hW : WG G) (h : RJ G O s F H) {e : Nat} (he : e < gm G) (hO : O e = true) (hu : RU G F H e) : RJ G O s (va_up F (gt G e) (F (gf G e) + gw G e)) (va_up H (gt G e) (H (gf G e) + 1)) ∧ RM G (va_up F (gt G e) (F (gf G e) + gw G e)) (va_up H (gt G e) (H (gf G e) + 1)) < RM G F H := by
  obtain ⟨w1, w2, w3, w4, -⟩ := hW.2.2.1 e he
  have hN := hW.1
  obtain ⟨hj, hs⟩ := h
  obtain ⟨hf, hc⟩ := hu
  generalize hv : gt G e = v at *
  generalize hq : gf G e = u at *
  have hF := sN_up F v (F u + gw G e) (gN G) w2
  have hH := sN_up H v (H u + 1) (gN G) w2
  obtain ⟨u1, u2, u3, u4, u5⟩ := hj u w1
  obtain ⟨v1, v2, v3, v4, v5⟩ := hj v w2
  have u4' := u4 hf
  have hlt : F u + gw G e < 1000000000 := by
    rcases hc with hc | ⟨hc1, hc2⟩
    · omega
    · by_cases q : F v = 1000000000
      · have := v2 q; omega
      · omega
  have huv : u ≠ v := w3
  refine ⟨⟨fun x hx => ?_, fun x hx hfx => ?_⟩, ?_⟩
  · obtain ⟨x1, x2, x3, x4, x5⟩ := hj x hx
    by_cases q : x = v
    · subst q
      rw [va_up_self, va_up_self]
      refine ⟨by omega, fun z => by omega, fun z => ?_, fun _ => by omega, ?_⟩
      · obtain ⟨z1, z2⟩ := x3 z
        omega
      · rcases hc with hc | ⟨hc1, hc2⟩ <;> omega
    · rw [va_up_ne _ _ q, va_up_ne _ _ q]
      refine ⟨x1, x2, x3, x4, ?_⟩
      rcases hc with hc | ⟨hc1, hc2⟩ <;> omega
  · by_cases q : x = v
    · subst q
      rw [va_up_self, va_up_self]
      exact Or.inr ⟨e, he, hO, hv, by rw [hq, va_up_ne _ _ huv]; exact hf, by rw [hq, va_up_ne _ _ huv, va_up_ne _ _ huv]; exact Or.inr ⟨rfl, Nat.le_refl _⟩⟩
    · rw [va_up_ne _ _ q] at hfx
      rw [va_up_ne _ _ q, va_up_ne _ _ q]
      rcases hs x hx hfx with z | ⟨e2, z1, z2, z3, z4, z5⟩
      · exact Or.inl z
      · refine Or.inr ⟨e2, z1, z2, z3, ?_, ?_⟩
        · by_cases y : gf G e2 = v
          · rw [y, va_up_self]; omega
          · rw [va_up_ne _ _ y]; exact z4
        · by_cases y : gf G e2 = v
          · rw [y] at z5
            rw [y, va_up_self, va_up_self]
            unfold lexL at *
            rcases hc with hc | ⟨hc1, hc2⟩ <;> omega
          · rw [va_up_ne _ _ y, va_up_ne _ _ y]; exact z5
  · unfold RM
    rcases hc with hc | ⟨hc1, hc2⟩
    · have : sN (va_up F v (F u + gw G e)) (gN G) + 1 ≤ sN F (gN G) := by omega
      have h3 : sN (va_up F v (F u + gw G e)) (gN G) * 20000000000 + 20000000000 ≤ sN F (gN G) * 20000000000 := by omega
      omega
    · have : sN (va_up F v (F u + gw G e)) (gN G) = sN F (gN G) := by omega
      rw [this]
      omega
/-- at the end of it hops are few -/
theorem RJ_few {G : GT} {O s : Nat → Bool} {F H : Nat → Nat} (hW : WG G) (h : RJ G O s F H) (hfix : ∀ e, e < gm G → O e = true → ¬ RU G F H e) : ∀ v, v < gN G → F v ≠ 1000000000 → H v ≤ 9 := by
  have hN := hW.1
  -- each finite one that is no source has one before it with one arc less
  have prev : ∀ v, v < gN G → F v ≠ 1000000000 → 0 < H v → ∃ u, u < gN G ∧ F u ≠ 1000000000 ∧ H u + 1 = H v := by
    intro v hv hf h0
    rcases h.2 v hv hf with ⟨_, _, z⟩ | ⟨e, z1, z2, z3, z4, z5⟩
    · omega
    · refine ⟨gf G e, (hW.2.2.1 e z1).1, z4, ?_⟩
      have hn := hfix e z1 z2
      unfold RU at hn
      unfold lexL at z5
      rw [z3] at hn
      have : ¬ (F (gf G e) + gw G e < F v ∨ F (gf G e) + gw G e = F v ∧ H (gf G e) + 1 < H v) := fun q => hn ⟨z4, q⟩
      omega
  have down : ∀ k v, v < gN G → F v ≠ 1000000000 → ∀ i, i + k = H v → ∃ u, u < gN G ∧ F u ≠ 1000000000 ∧ H u = i := by
    intro k
    induction k with
    | zero => intro v hv hf i hi; exact ⟨v, hv, hf, by omega⟩
    | succ k ih =>
      intro v hv hf i hi
      obtain ⟨u, u1, u2, u3⟩ := prev v hv hf (by omega)
      exact ih u u1 u2 i (by omega)
  intro v hv hf
  rcases Nat.lt_or_ge 9 (H v) with q | q
  · exfalso
    have hx : ∀ i, ∃ u, i ≤ 10 → u < gN G ∧ H u = i := by
      intro i
      by_cases hi : i ≤ 10
      · obtain ⟨u, u1, _, u3⟩ := down (H v - i) v hv hf i (by omega)
        exact ⟨u, fun _ => ⟨u1, u3⟩⟩
      · exact ⟨0, fun z => absurd z hi⟩
    have hg : ∀ i, i ≤ 10 → Classical.choose (hx i) < gN G ∧ H (Classical.choose (hx i)) = i := fun i hi => Classical.choose_spec (hx i) hi
    obtain ⟨j, hj, e⟩ := inj_onto 10 (fun i => Classical.choose (hx i)) (fun i hi => by have := (hg i (by omega)).1; omega) (fun i j hi hj e => by
      have h1 := (hg i (by omega)).2
      have h2 := (hg j (by omega)).2
      rw [e] at h1
      omega) (Classical.choose (hx 10)) (by have := (hg 10 (by omega)).1; omega)
    have h1 := (hg j (by omega)).2
    have h2 := (hg 10 (by omega)).2
    rw [e] at h1
    omega
  · exact q
theorem RJ_BP {G : GT} {O s : Nat → Bool} {F H : Nat → Nat} (hW : WG G) (h : RJ G O s F H) (hfix : ∀ e, e < gm G → O e = true → ¬ RU G F H e) : BP G false O s (fun _ => false) (fun v => decide (v < gN G) && !decide (F v = 1000000000)) F H := by
  have few := RJ_few hW h hfix
  have kk : ∀ v, (decide (v < gN G) && !decide (F v = 1000000000)) = true ↔ v < gN G ∧ F v ≠ 1000000000 := by
    intro v; simp
  refine ⟨fun v hv hs _ => ?_, fun e he hO hK _ => ?_, fun v hv => ?_⟩
  · obtain ⟨a1, a2⟩ := (h.1 v hv).2.2.1 hs
    exact ⟨(kk v).mpr ⟨hv, by omega⟩, a1, a2⟩
  · obtain ⟨k1, k2⟩ := (kk _).mp hK
    have k2 : F (gf G e) ≠ 1000000000 := k2
    obtain ⟨w1, w2, w3, w4, -⟩ := hW.2.2.1 e he
    have f1 := few _ w1 k2
    have f2 := (h.1 _ w1).2.2.2.1 k2
    have hn := hfix e he hO
    have hn2 : ¬ (F (gf G e) + gw G e < F (gt G e) ∨ F (gf G e) + gw G e = F (gt G e) ∧ H (gf G e) + 1 < H (gt G e)) := fun q => hn ⟨k2, q⟩
    refine ⟨(kk _).mpr ⟨w2, ?_⟩, ?_⟩
    · show F (gt G e) ≠ 1000000000
      omega
    · show lexL (F (gt G e)) (H (gt G e)) (F (gf G e) + gw G e) (H (gf G e) + 1)
      unfold lexL
      omega
  · obtain ⟨k1, k2⟩ := (kk v).mp hv
    refine ⟨k1, rfl, ?_⟩
    rcases h.2 v k1 k2 with z | ⟨e, z1, z2, z3, z4, z5⟩
    · exact Or.inl z
    · right
      have hn := hfix e z1 z2
      have hn2 : ¬ (F (gf G e) + gw G e < F v ∨ F (gf G e) + gw G e = F v ∧ H (gf G e) + 1 < H v) := fun q => hn ⟨z4, by rw [z3]; exact q⟩
      unfold lexL at z5
      exact ⟨e, z1, z2, z3, (kk _).mpr ⟨(hW.2.2.1 e z1).1, z4⟩, by show F v = F (gf G e) + gw G e; omega, by show H v = H (gf G e) + 1; omega⟩
