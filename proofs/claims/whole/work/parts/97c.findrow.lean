-- ===== PURE: the other side's row of ways =====
theorem nodup_flat {α β : Type} {g : α → List β} : ∀ l : List α, l.Nodup → (∀ x ∈ l, (g x).Nodup) → (∀ x ∈ l, ∀ y ∈ l, x ≠ y → ∀ p, p ∈ g x → p ∉ g y) → (l.flatMap g).Nodup := by
  intro l
  induction l with
  | nil => intro _ _ _; simp
  | cons a l ih =>
    intro h1 h2 h3
    rw [List.nodup_cons] at h1
    rw [List.flatMap_cons, List.nodup_append]
    refine ⟨h2 a (List.mem_cons_self ..), ih h1.2 (fun x hx => h2 x (List.mem_cons_of_mem _ hx)) (fun x hx y hy => h3 x (List.mem_cons_of_mem _ hx) y (List.mem_cons_of_mem _ hy)), fun p hp q hq hpq => ?_⟩
    subst hpq
    obtain ⟨y, y1, y2⟩ := List.mem_flatMap.mp hq
    exact h3 a (List.mem_cons_self ..) y (List.mem_cons_of_mem _ y1) (fun z => h1.1 (by rw [z]; exact y1)) p hp y2
theorem wyO_nd {G : GT} {O : Nat → Bool} {b : Nat} : ∀ f vs u, (wyO G O b f vs u).Nodup := by
  intro f
  induction f with
  | zero => intro vs u; rw [wyO]; split <;> simp
  | succ f ih =>
    intro vs u
    rw [wyO]
    split
    · simp
    · refine nodup_flat _ List.nodup_range (fun e _ => ?_) (fun x _ y _ hne p hp hq => ?_)
      · split
        · exact List.Pairwise.map _ (fun a b hab h => hab (List.cons.inj h).2) (ih _ _)
        · simp
      · split at hp
        · split at hq
          · obtain ⟨p1, _, rfl⟩ := List.mem_map.mp hp
            obtain ⟨q1, _, h⟩ := List.mem_map.mp hq
            exact hne (List.cons.inj h).1.symm
          · cases hq
        · cases hp
theorem insW_ex {G : GT} {p : List Nat} (hpl : p.length ≤ 10) : ∀ R : List (List Nat), R.Pairwise (wlt G) → p ∉ R → (∀ q ∈ R, q.length ≤ 10) → ∃ k, insW G p R = insK R k p ∧ (∀ q ∈ R.take k, wlt G q p) ∧ ∀ q ∈ R.drop k, wlt G p q := by
  intro R
  induction R with
  | nil => intro _ _ _; exact ⟨0, rfl, by simp, by simp⟩
  | cons q R ih =>
    intro h1 h2 h3
    rw [List.pairwise_cons] at h1
    have hq := h3 q (List.mem_cons_self ..)
    by_cases hw : wlt G p q
    · refine ⟨0, by rw [insW, if_pos ((wyB_w hpl hq).mpr hw)]; rfl, by simp, fun x hx => ?_⟩
      rw [List.drop_zero] at hx
      rcases List.mem_cons.mp hx with z | z
      · rw [z]; exact hw
      · exact wlt_tr hw (h1.1 x z)
    · obtain ⟨k, k1, k2, k3⟩ := ih h1.2 (fun z => h2 (List.mem_cons_of_mem _ z)) (fun x hx => h3 x (List.mem_cons_of_mem _ hx))
      have hqp : wlt G q p := by
        rcases wlt_tot (G := G) p q with z | z | z
        · exact absurd z hw
        · exact absurd (by rw [z]; exact List.mem_cons_self ..) h2
        · exact z
      refine ⟨k + 1, by rw [insW, if_neg (fun z => hw ((wyB_w hpl hq).mp z)), k1]; rfl, fun x hx => ?_, fun x hx => ?_⟩
      · rw [List.take_succ_cons] at hx
        rcases List.mem_cons.mp hx with z | z
        · rw [z]; exact hqp
        · exact k2 x z
      · rw [List.drop_succ_cons] at hx; exact k3 x hx
def fldR (G : GT) (D : List (List Nat)) : List (List Nat) := D.foldl (fun l p => (insW G p l).take 30) []
theorem fldR_s {G : GT} {D : List (List Nat)} {p : List Nat} : fldR G (D ++ [p]) = (insW G p (fldR G D)).take 30 := by
  unfold fldR; rw [List.foldl_append]; rfl
theorem fldR_L {G : GT} : ∀ (L D : List (List Nat)), (D ++ L).Nodup → (∀ q ∈ D ++ L, q.length ≤ 10) → LRow G (fun q => q ∈ D) (fldR G D) 30 → LRow G (fun q => q ∈ D ++ L) (fldR G (D ++ L)) 30 := by
  intro L
  induction L with
  | nil => intro D _ _ h; rw [List.append_nil]; exact h
  | cons p L ih =>
    intro D hn hl h
    have e : D ++ p :: L = (D ++ [p]) ++ L := by simp
    rw [e] at hn hl ⊢
    refine ih (D ++ [p]) hn hl ?_
    have hpD : p ∉ D := by
      have h1 := (List.nodup_append.mp hn).1
      have h2 := (List.nodup_append.mp h1).2.2
      intro z
      exact h2 p z p (List.mem_singleton.mpr rfl) rfl
    obtain ⟨k, k1, k2, k3⟩ := insW_ex (G := G) (p := p) (hl p (by simp)) (fldR G D) h.1 (fun z => hpD (h.2.1 p z)) (fun q hq => hl q (List.mem_append_left _ (List.mem_append_left _ (h.2.1 q hq))))
    rw [fldR_s, k1]
    exact LRow_ins h k2 k3 (fun q => by rw [List.mem_append, List.mem_singleton])
theorem LRow_c {G : GT} {P P' : List Nat → Prop} {R : List (List Nat)} {n : Nat} (h : LRow G P R n) (e : ∀ p, P' p ↔ P p) : LRow G P' R n := ⟨h.1, fun p hp => (e p).mpr (h.2.1 p hp), h.2.2.1, fun q hq => h.2.2.2 q ((e q).mp hq)⟩
theorem fldR_0 {G : GT} : LRow G (fun q => q ∈ ([] : List (List Nat))) (fldR G []) 30 := ⟨List.Pairwise.nil, fun p hp => hp, Nat.zero_le _, fun q hq => by cases hq⟩
theorem rowW_f {G : GT} {a b : Nat} : rowW G a b = fldR G (wyO G (gl G) b 10 [a] a) := by
  unfold rowW wys fldR
  rw [wyO_F]
theorem rowW_L {G : GT} {a b : Nat} (hW : WG G) (ha : a < gN G) : LRow G (SW G (gl G) a b) (rowW G a b) 30 := by
  rw [rowW_f]
  have h := fldR_L (G := G) (wyO G (gl G) b 10 [a] a) [] (by rw [List.nil_append]; exact wyO_nd _ _ _) (fun q hq => by
    rw [List.nil_append] at hq
    have := SW_len hW ha ((wyO_SW hW ha q).mp hq)
    omega) fldR_0
  rw [List.nil_append] at h
  exact LRow_c h (fun p => (wyO_SW hW ha p).symm)
theorem y_row {G : GT} {σ τ : mS} {a b : Nat} (R : Rel G σ τ) (ha : a < gN G) (hb : b < gN G) : ∃ τ', f_Mo_findRow τ (nI a) (nI b) = some τ' ∧ Rel G σ τ' ∧ RowIs (rowW G a b) (wyL G) τ' := by
  obtain ⟨hW, hX, hY, hI, hh, hr⟩ := id R
  have hN := hW.1
  have hm := hW.2.1
  -- finding it anew
  have anew : ∃ τ', f_Mo_findRow_J17 τ (nI a) (nI b) = some τ' ∧ Rel G σ τ' ∧ RowIs (rowW G a b) (wyL G) τ' := by
    unfold f_Mo_findRow_J17
    simp only [nm]
    generalize hτ : sI (sI (sI (sI τ 0 21 (nI a)) 0 22 (nI b)) 0 23 0) 0 19 (-1) = τ4
    have k21 : τ4.1 0 21 = nI a := by rw [← hτ]; simp [sI_1]
    have k22 : τ4.1 0 22 = nI b := by rw [← hτ]; simp [sI_1]
    have k23 : τ4.1 0 23 = nI 0 := by rw [← hτ]; simp [sI_1]; rfl
    have k19 : τ4.1 0 19 = -1 := by rw [← hτ]; simp [sI_1]
    have kk : ∀ k j, k = 0 ∧ j < 3 ∨ 1 ≤ k ∧ k < 9 → τ4.1 k j = τ.1 k j := by
      intro k j q
      rw [← hτ]
      rcases q with ⟨q1, q2⟩ | q
      · subst q1
        rw [sI_1, if_pos rfl, if_neg (by omega), sI_1, if_pos rfl, if_neg (by omega), sI_1, if_pos rfl, if_neg (by omega), sI_1, if_pos rfl, if_neg (by omega)]
      · rw [sI_1, if_neg (by omega), sI_1, if_neg (by omega), sI_1, if_neg (by omega), sI_1, if_neg (by omega)]
    have hY4 : RY G τ4 := RY_c hY kk
    -- what is kept all along
    have hkeep : ∀ {t t' : mS}, (frN t t' ∨ frK t t') → (∀ k j, k = 0 ∧ (j < 3 ∨ j = 21 ∨ j = 22) ∨ 1 ≤ k ∧ k < 9 → t.1 k j = τ4.1 k j) → ∀ k j, k = 0 ∧ (j < 3 ∨ j = 21 ∨ j = 22) ∨ 1 ≤ k ∧ k < 9 → t'.1 k j = τ4.1 k j := by
      intro t t' h h0 k j q
      rw [← h0 k j q]
      rcases h with h | h
      · exact h.1 k j (by omega)
      · exact h k j (by omega) (by omega) (by omega) (by omega)
    have hYk : ∀ {t : mS}, (∀ k j, k = 0 ∧ (j < 3 ∨ j = 21 ∨ j = 22) ∨ 1 ≤ k ∧ k < 9 → t.1 k j = τ4.1 k j) → RY G t := fun h => RY_c hY4 (fun k j q => h k j (by omega))
    have hO : ∀ e, e < gm G → gl G e = (gl G e && !decide (nI e ≤ -1)) := by
      intro e he
      have : ¬ nI e ≤ -1 := by
        rw [Int32.le_iff_toInt_le, nI_toInt (by omega)]
        show ¬ (e : Int) ≤ -1
        omega
      rw [decide_eq_false this]; simp
    have hall := wyO_SW (O := gl G) (a := a) (b := b) hW ha
    have hlen := wyO_len (O := gl G) (b := b) hW 10 [a] a
    have hnd : (wyO G (gl G) b 10 [a] a).Nodup := wyO_nd _ _ _
    have hq10 : ∀ q ∈ wyO G (gl G) b 10 [a] a, q.length ≤ 10 ∧ (∀ e ∈ q, e < gm G) := by
      intro q hq
      have hs := (hall q).mp hq
      exact ⟨by have := SW_len hW ha hs; omega, fun e he => (WP_lt q a hs.1 e he).1⟩
    have hst := start_w (O := gl G) hW hY4 ha hb hO k19
    -- the loop over all
    have hloop : ∀ (f : Int32) (t : mS) (k : Nat), ((∀ k j, k = 0 ∧ (j < 3 ∨ j = 21 ∨ j = 22) ∨ 1 ≤ k ∧ k < 9 → t.1 k j = τ4.1 k j) ∧ ((f = 0 ∧ RowIs (rowW G a b) (wyL G) t) ∨ (f = 1 ∧ ∃ D w L, k = L.length + 1 ∧ D ++ w :: L = wyO G (gl G) b 10 [a] a ∧ RowIs (fldR G D) (wyL G) t ∧ ((a ≠ b ∧ EN G (gl G) a b t w L) ∨ (a = b ∧ L = [] ∧ CW G t w))))) → k < fuB → ∃ u, lpN (f_Mo_findRow_L45 (nI a) (nI b)) fuB (f, t) = some u ∧ (∀ k j, k = 0 ∧ (j < 3 ∨ j = 21 ∨ j = 22) ∨ 1 ≤ k ∧ k < 9 → u.2.1 k j = τ4.1 k j) ∧ RowIs (rowW G a b) (wyL G) u.2 := by
      intro f t k hI hk
      refine lpN_w (st := f_Mo_findRow_L45 (nI a) (nI b)) (fun k s => (∀ k j, k = 0 ∧ (j < 3 ∨ j = 21 ∨ j = 22) ∨ 1 ≤ k ∧ k < 9 → s.2.1 k j = τ4.1 k j) ∧ ((s.1 = 0 ∧ RowIs (rowW G a b) (wyL G) s.2) ∨ (s.1 = 1 ∧ ∃ D w L, k = L.length + 1 ∧ D ++ w :: L = wyO G (gl G) b 10 [a] a ∧ RowIs (fldR G D) (wyL G) s.2 ∧ ((a ≠ b ∧ EN G (gl G) a b s.2 w L) ∨ (a = b ∧ L = [] ∧ CW G s.2 w))))) (fun u => (∀ k j, k = 0 ∧ (j < 3 ∨ j = 21 ∨ j = 22) ∨ 1 ≤ k ∧ k < 9 → u.2.1 k j = τ4.1 k j) ∧ RowIs (rowW G a b) (wyL G) u.2) (fun k s hs => ?_) fuB k (f, t) hI hk
      obtain ⟨sf, s⟩ := s
      obtain ⟨s1, s2⟩ := hs
      have s1 : ∀ k j, k = 0 ∧ (j < 3 ∨ j = 21 ∨ j = 22) ∨ 1 ≤ k ∧ k < 9 → s.1 k j = τ4.1 k j := s1
      unfold f_Mo_findRow_L45
      dsimp only
      rcases s2 with ⟨s2, s3⟩ | ⟨s2, D, w, L, s3, s4, s5, s6⟩
      · have s2 : sf = 0 := s2
        subst s2
        left
        rw [if_pos rfl]
        exact ⟨_, rfl, s1, s3⟩
      · have s2 : sf = 1 := s2
        subst s2
        right
        have hwin : w ∈ wyO G (gl G) b 10 [a] a := by rw [← s4]; simp
        obtain ⟨w1, w2⟩ := hq10 w hwin
        have hCW : CW G s w := by
          rcases s6 with ⟨_, z⟩ | ⟨_, _, z⟩
          · exact EN_CW z
          · exact z
        have hnd2 := hnd
        rw [← s4, show D ++ w :: L = (D ++ [w]) ++ L by simp] at hnd2
        have hD : LRow G (fun q => q ∈ D) (fldR G D) 30 := by
          have := fldR_L (G := G) D [] (by rw [List.nil_append]; exact (List.nodup_append.mp (List.nodup_append.mp hnd2).1).1) (fun q hq => by
            rw [List.nil_append] at hq
            exact (hq10 q (by rw [← s4]; exact List.mem_append_left _ hq)).1) fldR_0
          rwa [List.nil_append] at this
        have hwD : w ∉ D := fun z => (List.nodup_append.mp (List.nodup_append.mp hnd2).1).2.2 w z w (List.mem_singleton.mpr rfl) rfl
        obtain ⟨t1, _, a1, a2, a3, _⟩ := keep_e s5 hD.1 hCW w1 (wyL_le hW w2 w1) (fun e he => by have := w2 e he; omega) (fun z => hwD (hD.2.1 w z))
        have c1 := hkeep (Or.inr a3) s1
        rw [← fldR_s] at a2
        rw [if_neg n10, a1, Option.bind_some]
        rcases s6 with ⟨z1, z2⟩ | ⟨z1, z2, _⟩
        · rw [if_neg (fun z => z1 ((nI_eq (by omega) (by omega)).mp z))]
          have z3 : EN G (gl G) a b t1 w L := EN_c z2 (fun k j q => a3 k j (by omega) (by omega) (by omega) (by omega))
          rcases next_e hW (hYk c1) ha hb hO z3 with ⟨n1, t2, n2, n3⟩ | ⟨w', L', t2, n1, n2, n3, n4⟩
          · rw [n2, Option.bind_some, if_pos rfl]
            refine ⟨_, 0, rfl, by omega, hkeep (Or.inl n3) c1, Or.inl ⟨rfl, ?_⟩⟩
            rw [rowW_f, ← s4, n1]
            exact RowIs_c a2 (n3.1 0 23 (by omega)) (fun k j q => n3.1 k j (by omega))
          · rw [n2, Option.bind_some, if_neg n10]
            refine ⟨_, L'.length + 1, rfl, by rw [s3, n1, List.length_cons]; omega, hkeep (Or.inl n3) c1, Or.inr ⟨rfl, D ++ [w], w', L', rfl, by rw [← s4, n1]; simp, RowIs_c a2 (n3.1 0 23 (by omega)) (fun k j q => n3.1 k j (by omega)), Or.inl ⟨z1, n4⟩⟩⟩
        · rw [if_pos (by rw [z1])]
          refine ⟨_, 0, rfl, by omega, c1, Or.inl ⟨rfl, ?_⟩⟩
          rw [rowW_f, ← s4, z2]
          exact a2
    have h0 : RowIs (fldR G []) (wyL G) τ4 := ⟨k23, Nat.zero_le _, fun r p hp => by cases hp⟩
    have hend : ∀ u : Int32 × mS, (∀ k j, k = 0 ∧ (j < 3 ∨ j = 21 ∨ j = 22) ∨ 1 ≤ k ∧ k < 9 → u.2.1 k j = τ4.1 k j) → RowIs (rowW G a b) (wyL G) u.2 → Rel G σ u.2 := by
      intro u h1 h2
      refine ⟨hW, hX, hYk h1, hI, ?_, Or.inr ⟨a, b, ha, hb, by rw [h1 0 21 (by omega)]; exact k21, by rw [h1 0 22 (by omega)]; exact k22, h2⟩⟩
      rw [h1 0 0 (by omega), kk 0 0 (by omega)]; exact hh
    by_cases hab : a = b
    · obtain ⟨t1, n1, n2, n3, n4⟩ := hst.2 hab
      rw [n1, Option.bind_some]
      have hw0 : wyO G (gl G) b 10 [a] a = [[]] := by rw [show (10 : Nat) = 9 + 1 from rfl, wyO, if_pos hab]
      obtain ⟨u, u1, u2, u3⟩ := hloop 1 t1 1 ⟨hkeep (Or.inl n2) (fun _ _ _ => rfl), Or.inr ⟨rfl, [], [], [], rfl, by rw [hw0]; rfl, RowIs_c h0 (n2.1 0 23 (by omega)) (fun k j q => n2.1 k j (by omega)), Or.inr ⟨hab, rfl, n3, n4, fun j e z => by simp at z⟩⟩⟩ (by rw [fuB_e]; omega)
      rw [u1, Option.bind_some]
      exact ⟨_, rfl, hend u u2 u3, u3⟩
    · rcases hst.1 hab with ⟨n1, t1, n2, n3⟩ | ⟨w', L', t1, n1, n2, n3, n4⟩
      · rw [n2, Option.bind_some]
        obtain ⟨u, u1, u2, u3⟩ := hloop 0 t1 0 ⟨hkeep (Or.inl n3) (fun _ _ _ => rfl), Or.inl ⟨rfl, by rw [rowW_f, n1]; exact RowIs_c h0 (n3.1 0 23 (by omega)) (fun k j q => n3.1 k j (by omega))⟩⟩ (by rw [fuB_e]; omega)
        rw [u1, Option.bind_some]
        exact ⟨_, rfl, hend u u2 u3, u3⟩
      · rw [n2, Option.bind_some]
        obtain ⟨u, u1, u2, u3⟩ := hloop 1 t1 (L'.length + 1) ⟨hkeep (Or.inl n3) (fun _ _ _ => rfl), Or.inr ⟨rfl, [], w', L', rfl, by rw [n1]; rfl, RowIs_c h0 (n3.1 0 23 (by omega)) (fun k j q => n3.1 k j (by omega)), Or.inl ⟨hab, n4⟩⟩⟩ (by
          rw [n1, List.length_cons] at hlen
          rw [fuB_e]; omega)
        rw [u1, Option.bind_some]
        exact ⟨_, rfl, hend u u2 u3, u3⟩
  unfold f_Mo_findRow
  by_cases h1 : τ.1 0 21 = nI a
  · rw [if_pos h1]
    by_cases h2 : τ.1 0 22 = nI b
    · rw [if_pos h2]
      refine ⟨τ, rfl, R, ?_⟩
      rcases hr with z | ⟨a', b', z1, z2, z3, z4, z5⟩
      · rw [h1] at z; exact absurd z (nI_m1 (by omega))
      · rw [h1] at z3; rw [h2] at z4
        have e1 : a = a' := (nI_eq (by omega) (by omega)).mp z3
        have e2 : b = b' := (nI_eq (by omega) (by omega)).mp z4
        rw [e1, e2]; exact z5
    · rw [if_neg h2]; exact anew
  · rw [if_neg h1]; exact anew
