-- ===== PURE: the other side's relaxing =====
def sN (f : Nat → Nat) : Nat → Nat
  | 0 => 0
  | n + 1 => sN f n + f n
theorem sN_c {f g : Nat → Nat} : ∀ n, (∀ v, v < n → f v = g v) → sN f n = sN g n := by
  intro n
  induction n with
  | zero => intro _; rfl
  | succ n ih =>
    intro h
    rw [sN, sN, ih (fun v hv => h v (by omega)), h n (by omega)]
theorem sN_up (f : Nat → Nat) (v x : Nat) : ∀ n, v < n → sN (va_up f v x) n + f v = sN f n + x := by
  intro n
  induction n with
  | zero => intro h; omega
  | succ n ih =>
    intro h
    rw [sN, sN]
    by_cases q : v = n
    · subst q
      rw [va_up_self, sN_c (g := f) v (fun u hu => va_up_ne _ _ (by omega))]
      omega
    · rw [va_up_ne _ _ (fun z => q z.symm)]
      have := ih (by omega)
      omega
theorem sN_le {f : Nat → Nat} {B : Nat} : ∀ n, (∀ v, v < n → f v ≤ B) → sN f n ≤ n * B := by
  intro n
  induction n with
  | zero => intro _; simp [sN]
  | succ n ih =>
    intro h
    have h1 := ih (fun v hv => h v (by omega))
    have h2 := h n (by omega)
    rw [sN, Nat.succ_mul]
    omega
theorem nodup_len {n : Nat} {l : List Nat} (h : l.Nodup) (hl : ∀ x ∈ l, x < n) : l.length ≤ n := by
  rcases Nat.lt_or_ge n l.length with q | q
  · exfalso
    have hinj : ∀ i j, i < l.length → j < l.length → l.getD i 0 = l.getD j 0 → i = j := by
      intro i j hi hj e
      rw [List.getD_eq_getElem?_getD, List.getD_eq_getElem?_getD, List.getElem?_eq_getElem hi, List.getElem?_eq_getElem hj] at e
      have e : l[i] = l[j] := e
      rcases Nat.lt_trichotomy i j with q1 | q1 | q1
      · exact absurd e (List.pairwise_iff_getElem.mp h i j hi hj q1)
      · exact q1
      · exact absurd e.symm (List.pairwise_iff_getElem.mp h j i hj hi q1)
    have hlt : ∀ i, i < l.length → l.getD i 0 < n := by
      intro i hi
      rw [List.getD_eq_getElem?_getD, List.getElem?_eq_getElem hi]
      exact hl _ (List.getElem_mem hi)
    obtain ⟨j, hj, e⟩ := inj_onto n (fun i => l.getD i 0) (fun i hi => hlt i (by omega)) (fun i j hi hj => hinj i j (by omega) (by omega)) (l.getD n 0) (hlt n q)
    have := hinj j n (by omega) q e
    omega
  · exact q
/-- a way by which v has its numbers: nodes with the numbers that they had -/
def GW (G : GT) (F H : Nat → Nat) (v : Nat) (W : List (Nat × Nat × Nat)) : Prop := W.length = H v + 1 ∧ (W.map (fun t => t.1)).Nodup ∧ ∀ t ∈ W, t.1 < gN G ∧ lexL (F t.1) (H t.1) t.2.1 t.2.2 ∧ lexL t.2.1 t.2.2 (F v) (H v)
theorem GW_len {G : GT} {F H : Nat → Nat} {v : Nat} {W : List (Nat × Nat × Nat)} (hW : WG G) (h : GW G F H v W) : H v ≤ 9 := by
  have hN := hW.1
  have := nodup_len (n := gN G) h.2.1 (fun x hx => by
    obtain ⟨t, ht, rfl⟩ := List.mem_map.mp hx
    exact (h.2.2 t ht).1)
  rw [List.length_map, h.1] at this
  omega
/-- far and hop within relaxing: s sources, O arcs -/
def RJ (G : GT) (O s : Nat → Bool) (F H : Nat → Nat) : Prop :=
  (∀ v, v < gN G → F v ≤ 1000000000 ∧ (F v = 1000000000 → H v = 0) ∧ (s v = true → F v = 0 ∧ H v = 0) ∧ (F v ≠ 1000000000 → F v ≤ 1000000 * H v)) ∧
  (∀ v, v < gN G → F v ≠ 1000000000 → ∃ W, GW G F H v W) ∧
  ∀ v, v < gN G → F v ≠ 1000000000 → (s v = true ∧ F v = 0 ∧ H v = 0) ∨ ∃ e, e < gm G ∧ O e = true ∧ gt G e = v ∧ F (gf G e) ≠ 1000000000 ∧ lexL (F (gf G e) + gw G e) (H (gf G e) + 1) (F v) (H v)
def RM (G : GT) (F H : Nat → Nat) : Nat := sN F (gN G) * 20000000000 + sN H (gN G)
/-- does the arc e lessen what its end has -/
def RU (G : GT) (F H : Nat → Nat) (e : Nat) : Prop := F (gf G e) ≠ 1000000000 ∧ (F (gf G e) + gw G e < F (gt G e) ∨ F (gf G e) + gw G e = F (gt G e) ∧ H (gf G e) + 1 < H (gt G e))
theorem RJ_step {G : GT} {O s : Nat → Bool} {F H : Nat → Nat} (hW : WG G) (h : RJ G O s F H) {e : Nat} (he : e < gm G) (hO : O e = true) (hu : RU G F H e) : RJ G O s (va_up F (gt G e) (F (gf G e) + gw G e)) (va_up H (gt G e) (H (gf G e) + 1)) ∧ RM G (va_up F (gt G e) (F (gf G e) + gw G e)) (va_up H (gt G e) (H (gf G e) + 1)) < RM G F H := by
  obtain ⟨w1, w2, w3, w4, -⟩ := hW.2.2.1 e he
  have hN := hW.1
  obtain ⟨hj, hgw, hs⟩ := h
  obtain ⟨hf, hc⟩ := hu
  generalize hv : gt G e = v at *
  generalize hq : gf G e = u at *
  have hF := sN_up F v (F u + gw G e) (gN G) w2
  have hH := sN_up H v (H u + 1) (gN G) w2
  obtain ⟨u1, u2, u3, u4⟩ := hj u w1
  obtain ⟨v1, v2, v3, v4⟩ := hj v w2
  obtain ⟨Wu, hWu⟩ := hgw u w1 hf
  have hHu := GW_len hW hWu
  have u4' := u4 hf
  have hlt : F u + gw G e < 1000000000 := by
    rcases hc with hc | ⟨hc1, hc2⟩
    · omega
    · by_cases q : F v = 1000000000
      · have := v2 q; omega
      · omega
  have huv : u ≠ v := w3
  have hless : ∀ x, x < gN G → lexL (va_up F v (F u + gw G e) x) (va_up H v (H u + 1) x) (F x) (H x) := by
    intro x hx
    by_cases q : x = v
    · subst q; rw [va_up_self, va_up_self]; unfold lexL; omega
    · rw [va_up_ne _ _ q, va_up_ne _ _ q]; exact Or.inr ⟨rfl, Nat.le_refl _⟩
  refine ⟨⟨fun x hx => ?_, fun x hx hfx => ?_, fun x hx hfx => ?_⟩, ?_⟩
  · obtain ⟨x1, x2, x3, x4⟩ := hj x hx
    by_cases q : x = v
    · subst q
      rw [va_up_self, va_up_self]
      refine ⟨by omega, fun z => by omega, fun z => ?_, fun _ => by omega⟩
      obtain ⟨z1, z2⟩ := x3 z
      omega
    · rw [va_up_ne _ _ q, va_up_ne _ _ q]
      exact ⟨x1, x2, x3, x4⟩
  · by_cases q : x = v
    · subst q
      refine ⟨(x, F u + gw G e, H u + 1) :: Wu, ?_, ?_, fun t ht => ?_⟩
      · rw [List.length_cons, hWu.1, va_up_self]
      · rw [List.map_cons, List.nodup_cons]
        refine ⟨fun hm => ?_, hWu.2.1⟩
        obtain ⟨t, ht, e1⟩ := List.mem_map.mp hm
        obtain ⟨t1, t2, t3⟩ := hWu.2.2 t ht
        dsimp only at e1
        rw [e1] at t2
        unfold lexL at t2 t3
        omega
      · rcases List.mem_cons.mp ht with rfl | ht
        · dsimp only
          rw [va_up_self, va_up_self]
          exact ⟨w2, Or.inr ⟨rfl, Nat.le_refl _⟩, Or.inr ⟨rfl, Nat.le_refl _⟩⟩
        · obtain ⟨t1, t2, t3⟩ := hWu.2.2 t ht
          have h3 := hless t.1 t1
          rw [va_up_self, va_up_self]
          refine ⟨t1, ?_, ?_⟩
          · unfold lexL at *; omega
          · unfold lexL at *; omega
    · rw [va_up_ne _ _ q] at hfx
      obtain ⟨W, a1, a2, a3⟩ := hgw x hx hfx
      refine ⟨W, by rw [va_up_ne _ _ q]; exact a1, a2, fun t ht => ?_⟩
      obtain ⟨t1, t2, t3⟩ := a3 t ht
      have h3 := hless t.1 t1
      rw [va_up_ne _ _ q, va_up_ne _ _ q]
      refine ⟨t1, ?_, t3⟩
      unfold lexL at *; omega
  · by_cases q : x = v
    · subst q
      rw [va_up_self, va_up_self]
      exact Or.inr ⟨e, he, hO, hv, by rw [hq, va_up_ne _ _ huv]; exact hf, by rw [hq, va_up_ne _ _ huv, va_up_ne _ _ huv]; exact Or.inr ⟨rfl, Nat.le_refl _⟩⟩
    · rw [va_up_ne _ _ q] at hfx
      rw [va_up_ne _ _ q, va_up_ne _ _ q]
      rcases hs x hx hfx with z | ⟨e2, z1, z2, z3, z4, z5⟩
      · exact Or.inl z
      · refine Or.inr ⟨e2, z1, z2, z3, ?_, ?_⟩
        · by_cases y : gf G e2 = v
          · rw [y, va_up_self]; omega
          · rw [va_up_ne _ _ y]; exact z4
        · by_cases y : gf G e2 = v
          · rw [y] at z5
            rw [y, va_up_self, va_up_self]
            unfold lexL at *
            rcases hc with hc | ⟨hc1, hc2⟩ <;> omega
          · rw [va_up_ne _ _ y, va_up_ne _ _ y]; exact z5
  · unfold RM
    rcases hc with hc | ⟨hc1, hc2⟩
    · have : sN (va_up F v (F u + gw G e)) (gN G) + 1 ≤ sN F (gN G) := by omega
      have h3 : sN (va_up F v (F u + gw G e)) (gN G) * 20000000000 + 20000000000 ≤ sN F (gN G) * 20000000000 := by omega
      omega
    · have : sN (va_up F v (F u + gw G e)) (gN G) = sN F (gN G) := by omega
      rw [this]
      omega
theorem RJ_few {G : GT} {O s : Nat → Bool} {F H : Nat → Nat} (hW : WG G) (h : RJ G O s F H) : ∀ v, v < gN G → H v ≤ 9 := by
  intro v hv
  by_cases q : F v = 1000000000
  · have := (h.1 v hv).2.1 q; omega
  · obtain ⟨W, hw⟩ := h.2.1 v hv q
    exact GW_len hW hw
theorem RJ_BP {G : GT} {O s : Nat → Bool} {F H : Nat → Nat} (hW : WG G) (h : RJ G O s F H) (hfix : ∀ e, e < gm G → O e = true → ¬ RU G F H e) : BP G false O s (fun _ => false) (fun v => decide (v < gN G) && !decide (F v = 1000000000)) F H := by
  have few := RJ_few hW h
  have kk : ∀ v, (decide (v < gN G) && !decide (F v = 1000000000)) = true ↔ v < gN G ∧ F v ≠ 1000000000 := by
    intro v; simp
  refine ⟨fun v hv hs _ => ?_, fun e he hO hK _ => ?_, fun v hv => ?_⟩
  · obtain ⟨a1, a2⟩ := (h.1 v hv).2.2.1 hs
    exact ⟨(kk v).mpr ⟨hv, by omega⟩, a1, a2⟩
  · obtain ⟨k1, k2⟩ := (kk _).mp hK
    have k2 : F (gf G e) ≠ 1000000000 := k2
    obtain ⟨w1, w2, w3, w4, -⟩ := hW.2.2.1 e he
    have f1 := few _ w1
    have f2 := (h.1 _ w1).2.2.2 k2
    have hn := hfix e he hO
    have hn2 : ¬ (F (gf G e) + gw G e < F (gt G e) ∨ F (gf G e) + gw G e = F (gt G e) ∧ H (gf G e) + 1 < H (gt G e)) := fun q => hn ⟨k2, q⟩
    refine ⟨(kk _).mpr ⟨w2, ?_⟩, ?_⟩
    · show F (gt G e) ≠ 1000000000
      omega
    · show lexL (F (gt G e)) (H (gt G e)) (F (gf G e) + gw G e) (H (gf G e) + 1)
      unfold lexL
      omega
  · obtain ⟨k1, k2⟩ := (kk v).mp hv
    refine ⟨k1, rfl, ?_⟩
    rcases h.2.2 v k1 k2 with z | ⟨e, z1, z2, z3, z4, z5⟩
    · exact Or.inl z
    · right
      have hn := hfix e z1 z2
      have hn2 : ¬ (F (gf G e) + gw G e < F v ∨ F (gf G e) + gw G e = F v ∧ H (gf G e) + 1 < H v) := fun q => hn ⟨z4, by rw [z3]; exact q⟩
      unfold lexL at z5
      exact ⟨e, z1, z2, z3, (kk _).mpr ⟨(hW.2.2.1 e z1).1, z4⟩, by show F v = F (gf G e) + gw G e; omega, by show H v = H (gf G e) + 1; omega⟩
