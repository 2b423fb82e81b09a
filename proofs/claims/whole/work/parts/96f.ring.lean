-- ===== PURE: ring, ringArc =====
theorem LB_add {G : GT} {P P' : List Nat → Prop} {r x : List Nat} (h : (r = [] ∧ ∀ p, ¬ P p) ∨ LeastOf G P r) (hn : ¬ P []) (e : ∀ p, P' p ↔ P p ∨ p = x) : (((if r = [] ∨ wlt G x r then x else r) = []) ∧ ∀ p, ¬ P' p) ∨ LeastOf G P' (if r = [] ∨ wlt G x r then x else r) := by
  right
  by_cases hc : r = [] ∨ wlt G x r
  · rw [if_pos hc]
    refine ⟨(e x).mpr (Or.inr rfl), fun p hp => ?_⟩
    rcases (e p).mp hp with z | z
    · rcases h with ⟨h1, h2⟩ | ⟨h1, h2⟩
      · exact absurd z (h2 p)
      · rcases hc with hc | hc
        · rw [hc] at h1; exact absurd h1 hn
        · right
          rcases h2 p z with y | y
          · rw [y]; exact hc
          · exact wlt_tr hc y
    · exact Or.inl z
  · rw [if_neg hc]
    rcases h with ⟨h1, h2⟩ | ⟨h1, h2⟩
    · exact absurd (Or.inl h1) hc
    · refine ⟨(e r).mpr (Or.inl h1), fun p hp => ?_⟩
      rcases (e p).mp hp with z | z
      · exact h2 p z
      · rcases wlt_tot (G := G) x r with w | w | w
        · exact absurd (Or.inr w) hc
        · left; rw [z, w]
        · right; rw [z]; exact w
theorem flat_len {α β : Type} {g : α → List β} {B : Nat} : ∀ l : List α, (∀ x ∈ l, (g x).length ≤ B) → (l.flatMap g).length ≤ l.length * B := by
  intro l
  induction l with
  | nil => intro _; simp
  | cons a l ih =>
    intro h
    rw [List.flatMap_cons, List.length_append, List.length_cons, Nat.add_mul]
    have h1 := ih (fun x hx => h x (List.mem_cons_of_mem _ hx))
    have h2 := h a (List.mem_cons_self ..)
    omega
theorem wyO_len {G : GT} {O : Nat → Bool} {b : Nat} (hW : WG G) : ∀ f vs u, (wyO G O b f vs u).length ≤ 40 ^ f := by
  have hm := hW.2.1
  intro f
  induction f with
  | zero => intro vs u; rw [wyO]; split <;> simp
  | succ f ih =>
    intro vs u
    rw [wyO]
    split
    · have : 0 < 40 ^ (f + 1) := Nat.pow_pos (by decide)
      exact this
    · refine Nat.le_trans (flat_len (B := 40 ^ f) _ (fun e _ => ?_)) ?_
      · split
        · rw [List.length_map]; exact ih _ _
        · simp
      · rw [List.length_range, Nat.pow_succ, Nat.mul_comm (40 ^ f)]
        exact Nat.mul_le_mul_right _ hm
def frG (τ τ' : mS) : Prop := ∀ k j, k = 0 ∧ (j < 19 ∨ j = 21 ∨ j = 22 ∨ j = 23) ∨ 1 ≤ k ∧ k < 9 ∨ k = 17 ∨ k = 18 ∨ k = 19 → τ'.1 k j = τ.1 k j
theorem frG_t {a b c : mS} (h : frG a b) (k : frG b c) : frG a c := fun x j q => (k x j q).trans (h x j q)
theorem frN_G {τ τ' : mS} (h : frN τ τ') : frG τ τ' := fun k j q => h.1 k j (by omega)
theorem RG_c {G : GT} {τ τ' : mS} {r : List Nat} (h : RG G τ r) (hf : ∀ k j, k = 0 ∧ (j = 29 ∨ j = 30) ∨ k = 22 → τ'.1 k j = τ.1 k j) : RG G τ' r := by
  refine ⟨by rw [hf 0 30 (by omega)]; exact h.1, fun q => ⟨by rw [hf 0 29 (by omega)]; exact (h.2.1 q).1, fun j f z => by rw [hf 22 j (by omega)]; exact (h.2.1 q).2 j f z⟩, h.2.2⟩
/-- the ring is written down -/
theorem write_ring {G : GT} {τ : mS} {e : Nat} {q : List Nat} (hW : WG G) (hY : RY G τ) (he : e < gm G) (hq : CW G τ q) (hql : q.length ≤ 9) (hqm : ∀ f ∈ q, f < gm G) : ∃ τ', (nm (sI τ 0 29 ((τ.1 0 20) + (τ.1 3 (nI e).toNatClampNeg))) fun σ5 => nm (sI σ5 0 30 ((σ5.1 0 19) + 1)) fun σ6 => gd (inb 0 12) ((nm (sI σ6 22 (0 : Int32).toNatClampNeg (nI e)) fun σ7 => (lpN (f_Mo_findRing_L94) fuB (0, σ7)).bind fun u94 => some (Sum.inl u94.2 : mS ⊕ mS)))) = some (.inl τ') ∧ RG G τ' (e :: q) ∧ (∀ k j, ¬ (k = 0 ∧ (j = 29 ∨ j = 30)) → k ≠ 22 → τ'.1 k j = τ.1 k j) := by
  have hm := hW.2.1
  obtain ⟨q1, q2, q3⟩ := hq
  have hce : (nI e).toNatClampNeg = e := nI_clamp (by omega)
  have c0 : (0 : Int32).toNatClampNeg = 0 := by decide
  simp only [nm]
  rw [gd_t (by decide), hce, q2, (hY.2.2.1 e he).2.2.1, nI_add, c0]
  have e19 : (sI τ 0 29 (nI (wyL G q + gw G e))).1 0 19 = nI q.length := by rw [sI_1, if_pos rfl, if_neg (by decide)]; exact q1
  rw [e19, nI_1]
  generalize hτ : sI (sI (sI τ 0 29 (nI (wyL G q + gw G e))) 0 30 (nI (q.length + 1))) 22 0 (nI e) = τ7
  have k7 : ∀ k j, ¬ (k = 0 ∧ (j = 29 ∨ j = 30)) → k ≠ 22 → τ7.1 k j = τ.1 k j := by
    intro k j h1 h2
    rw [← hτ, sI_1, if_neg h2, sI_1]
    by_cases z : k = 0
    · rw [if_pos z, if_neg (by omega), sI_1, if_pos z, if_neg (by omega)]
    · rw [if_neg z, sI_1, if_neg z]
  have k29 : τ7.1 0 29 = nI (wyL G q + gw G e) := by rw [← hτ]; simp [sI_1]
  have k30 : τ7.1 0 30 = nI (q.length + 1) := by rw [← hτ]; simp [sI_1]
  have k22 : τ7.1 22 0 = nI e := by rw [← hτ]; simp [sI_1]
  obtain ⟨u, u1, u2, u3, u4⟩ := lpN_i (st := f_Mo_findRing_L94) (fun t s => s.1 = nI t ∧ (∀ k j, k ≠ 22 → s.2.1 k j = τ7.1 k j) ∧ s.2.1 22 0 = nI e ∧ ∀ j f, j < t → q[j]? = some f → s.2.1 22 (j + 1) = nI f) (fun u => (∀ k j, k ≠ 22 → u.2.1 k j = τ7.1 k j) ∧ u.2.1 22 0 = nI e ∧ ∀ j f, q[j]? = some f → u.2.1 22 (j + 1) = nI f) q.length (fun t s ht hs => by
    obtain ⟨st, s⟩ := s
    obtain ⟨s1, s2, s3, s4⟩ := hs
    have s1 : st = nI t := s1
    subst s1
    have s2 : ∀ k j, k ≠ 22 → s.1 k j = τ7.1 k j := s2
    unfold f_Mo_findRing_L94
    dsimp only
    rw [s2 0 19 (by decide), k7 0 19 (by omega) (by decide), q1]
    by_cases hc : t = q.length
    · left
      rw [if_pos (nI_le (by omega) (by omega))]
      refine ⟨_, rfl, s2, s3, fun j f z => s4 j f ?_ z⟩
      have := (List.getElem?_eq_some_iff.mp z).1
      omega
    · right
      have htq : t < q.length := by omega
      have g1 : q[t]? = some q[t] := List.getElem?_eq_getElem htq
      have hct : (nI t).toNatClampNeg = t := nI_clamp (by omega)
      have hct1 : (nI (t + 1)).toNatClampNeg = t + 1 := nI_clamp (by omega)
      rw [if_neg (nI_ge (by omega) (by omega)), nI_1, gd_t (inb_n (by omega) (by decide)), gd_t (inb_n (by omega) (by decide)), nm_e2, hct, hct1, s2 14 t (by decide), k7 14 t (by omega) (by decide), q3 t _ g1]
      refine ⟨htq, _, rfl, rfl, fun k j z => ?_, ?_, fun j f hj z => ?_⟩
      · rw [sI_1, if_neg z]; exact s2 k j z
      · show (sI s 22 (t + 1) _).1 22 0 = _
        rw [sI_1, if_pos rfl, if_neg (by omega)]; exact s3
      · show (sI s 22 (t + 1) _).1 22 (j + 1) = _
        rw [sI_1, if_pos rfl]
        by_cases y : j = t
        · subst y; rw [if_pos rfl]; rw [g1] at z; rw [Option.some.inj z]
        · rw [if_neg (by omega)]; exact s4 j f (by omega) z) fuB 0 (0, τ7) ⟨rfl, fun _ _ _ => rfl, k22, fun j f hj => absurd hj (Nat.not_lt_zero _)⟩ (Nat.zero_le _) (by rw [fuB_e]; omega)
  rw [u1, Option.bind_some]
  refine ⟨_, rfl, ⟨?_, fun _ => ⟨?_, fun j f z => ?_⟩, by rw [List.length_cons]; omega, fun f hf => ?_⟩, fun k j h1 h2 => (u2 k j h2).trans (k7 k j h1 h2)⟩
  · rw [u2 0 30 (by decide), k30, List.length_cons]
  · rw [u2 0 29 (by decide), k29, wyL_c1]
  · cases j with
    | zero => rw [List.getElem?_cons_zero] at z; rw [← Option.some.inj z]; exact u3
    | succ j => rw [List.getElem?_cons_succ] at z; exact u4 j f z
  · rcases List.mem_cons.mp hf with z | z
    · rw [z]; exact he
    · exact hqm f z
theorem y_ring {G : GT} {τ : mS} (hW : WG G) (hY : RY G τ) : ∃ τ' r, f_Mo_findRing τ = some τ' ∧ frG τ τ' ∧ RG G τ' r ∧ LR G (gm G) r := by
  have hN := hW.1
  have hm := hW.2.1
  unfold f_Mo_findRing
  rw [nm_e2]
  generalize hτ : sI τ 0 30 0 = τ1
  have f1 : frG τ τ1 := fun k j q => by
    rw [← hτ, sI_1]
    by_cases z : k = 0
    · rw [if_pos z, if_neg (by omega)]
    · rw [if_neg z]
  have k30 : τ1.1 0 30 = nI 0 := by rw [← hτ]; simp [sI_1]; rfl
  have hRY : ∀ {t : mS}, frG τ t → RY G t := fun f => RY_c hY (fun k j q => f k j (by omega))
  obtain ⟨u, u1, u2, r, u3, u4⟩ := lpN_i (st := f_Mo_findRing_L7) (fun i t => t.1 = nI i ∧ frG τ t.2 ∧ ∃ r, RG G t.2 r ∧ LR G i r) (fun u => frG τ u.2 ∧ ∃ r, RG G u.2 r ∧ LR G (gm G) r) (gm G) (fun i t hi ht => by
    obtain ⟨ti, t⟩ := t
    obtain ⟨t1, t2, r, t3, t4⟩ := ht
    have t1 : ti = nI i := t1
    subst t1
    have t2 : frG τ t := t2
    have t3 : RG G t r := t3
    have hYt := hRY t2
    unfold f_Mo_findRing_L7
    dsimp only
    rw [hYt.2.1]
    by_cases hc : i = gm G
    · subst hc
      left
      rw [if_pos (nI_le (Nat.le_refl _) (by omega))]
      exact ⟨_, rfl, t2, r, t3, t4⟩
    · right
      have hi2 : i < gm G := by omega
      refine ⟨hi2, ?_⟩
      obtain ⟨gu, gv, gne, _⟩ := hW.2.2.1 i hi2
      have hci : (nI i).toNatClampNeg = i := nI_clamp (by omega)
      have hbi : inb (nI i) 40 = true := inb_n (by omega) (by decide)
      rw [if_neg (nI_ge hi2 (by omega)), gd_t hbi, hci, (hYt.2.2.1 i hi2).2.2.2.2.2]
      cases hg : gl G i with
      | false =>
        rw [if_pos bF]
        exact ⟨_, rfl, nI_1 _, t2, r, t3, LR_skip t4 (fun ⟨q, _, z, _⟩ => by rw [hg] at z; cases z)⟩
      | true =>
        rw [if_neg bT, nm_e2]
        generalize hs : sI t 0 19 (-1) = s2
        have f2 : frG τ s2 := frG_t t2 (fun k j q => by
          rw [← hs, sI_1]
          by_cases z : k = 0
          · rw [if_pos z, if_neg (by omega)]
          · rw [if_neg z])
        have r2 : RG G s2 r := RG_c t3 (fun k j q => by
          rw [← hs, sI_1]
          by_cases z : k = 0
          · rw [if_pos z, if_neg (by omega)]
          · rw [if_neg z])
        have k19 : s2.1 0 19 = -1 := by rw [← hs]; simp [sI_1]
        have hO : ∀ e, e < gm G → rgO G i e = (gl G e && !decide (nI e ≤ nI i)) := by
          intro e he
          unfold rgO
          rw [decide_eq_true he, Bool.true_and]
          congr 1
          by_cases z : i < e
          · rw [decide_eq_true z, decide_eq_false (nI_ge z (by omega))]; rfl
          · rw [decide_eq_false z, decide_eq_true (nI_le (by omega) (by omega))]; rfl
        have hall := wyO_SW (O := rgO G i) (a := gt G i) (b := gf G i) hW gv
        have hnil : ¬ RP G i [] := fun ⟨e, q, z, _⟩ => List.cons_ne_nil _ _ z.symm
        obtain ⟨w, w1, w2, r', w3, w4⟩ := lpN_w (st := f_Mo_findRing_L32 (nI i, t)) (fun k s => frG τ s ∧ ∃ (r : List Nat) (D L : List (List Nat)), k = L.length ∧ D ++ L = wyO G (rgO G i) (gf G i) 10 [gt G i] (gt G i) ∧ RG G s r ∧ ((r = [] ∧ ∀ p, ¬ (RP G i p ∨ ∃ q, p = i :: q ∧ q ∈ D)) ∨ LeastOf G (fun p => RP G i p ∨ ∃ q, p = i :: q ∧ q ∈ D) r) ∧ ((s.1 0 19 = -1 ∧ D = []) ∨ ∃ w, EN G (rgO G i) (gt G i) (gf G i) s w L)) (fun u => frG τ u ∧ ∃ r, RG G u r ∧ LR G (i + 1) r) (fun k s hk => by
          obtain ⟨k1, r, D, L, k2, k3, k4, k5, k6⟩ := hk
          have hYs := hRY k1
          have hnx : NXt G (rgO G i) (gt G i) (gf G i) s L (f_Mo_nextWay s (nI (gt G i)) (nI (gf G i)) (nI i)) := by
            rcases k6 with ⟨z1, z2⟩ | ⟨w, z⟩
            · subst z2
              rw [List.nil_append] at k3
              rw [k3]
              exact (start_w hW hYs gv gu hO z1).1 gne.symm
            · exact next_e hW hYs gv gu hO z
          unfold f_Mo_findRing_L32
          dsimp only
          rw [gd_t hbi, gd_t hbi, hci, (hYs.2.2.1 i hi2).1, (hYs.2.2.1 i hi2).2.1]
          rcases hnx with ⟨n1, s', n2, n3⟩ | ⟨w, L', s', n1, n2, n3, n4⟩
          · left
            rw [n2, Option.bind_some, if_pos rfl]
            refine ⟨_, rfl, frG_t k1 (frN_G n3), r, RG_c k4 (fun k j q => n3.1 k j (by omega)), ?_⟩
            rw [n1, List.append_nil] at k3
            have he : ∀ p, RP G (i + 1) p ↔ (RP G i p ∨ ∃ q, p = i :: q ∧ q ∈ D) := by
              intro p
              rw [RP_s, k3]
              constructor
              · rintro (z | ⟨q, z1, _, _, z2⟩)
                · exact Or.inl z
                · exact Or.inr ⟨q, z1, (hall q).mpr z2⟩
              · rintro (z | ⟨q, z1, z2⟩)
                · exact Or.inl z
                · exact Or.inr ⟨q, z1, hi2, hg, (hall q).mp z2⟩
            rcases k5 with ⟨h1, h2⟩ | ⟨h1, h2⟩
            · exact Or.inl ⟨h1, fun p hp => h2 p ((he p).mp hp)⟩
            · exact Or.inr ⟨(he r).mpr h1, fun p hp => h2 p ((he p).mp hp)⟩
          · right
            have hSW : SW G (rgO G i) (gt G i) (gf G i) w := (hall w).mp (by rw [← k3, n1]; simp)
            have hwl := SW_len hW gv hSW
            have hwm : ∀ f ∈ w, f < gm G := fun f hf => (WP_lt w _ hSW.1 f hf).1
            have f3 := frG_t k1 (frN_G n3)
            have hYs' := hRY f3
            have k4' : RG G s' r := RG_c k4 (fun k j q => n3.1 k j (by omega))
            have hCW := EN_CW n4
            have hadd := LB_add (x := i :: w) (P' := fun p => RP G i p ∨ ∃ q, p = i :: q ∧ q ∈ D ++ [w]) k5 (by
              rintro (z | ⟨q, z, _⟩)
              · exact hnil z
              · exact List.cons_ne_nil _ _ z.symm) (fun p => by
              constructor
              · rintro (z | ⟨q, z1, z2⟩)
                · exact Or.inl (Or.inl z)
                · rcases List.mem_append.mp z2 with y | y
                  · exact Or.inl (Or.inr ⟨q, z1, y⟩)
                  · right; rw [z1, List.mem_singleton.mp y]
              · rintro ((z | ⟨q, z1, z2⟩) | z)
                · exact Or.inl z
                · exact Or.inr ⟨q, z1, List.mem_append_left _ z2⟩
                · exact Or.inr ⟨w, z, List.mem_append_right _ (List.mem_singleton.mpr rfl)⟩)
            have hDL : (D ++ [w]) ++ L' = wyO G (rgO G i) (gf G i) 10 [gt G i] (gt G i) := by rw [← k3, n1]; simp
            have hk' : L'.length < k := by rw [k2, n1, List.length_cons]; omega
            rw [n2, Option.bind_some, if_neg n10]
            dsimp only
            rw [better_e hW hYs' hi2 hCW hwl hwm k4', Option.bind_some]
            by_cases hbt : r = [] ∨ wlt G (i :: w) r
            · rw [if_pos hbt] at hadd
              rw [decide_eq_true hbt, if_neg bT, gd_t hbi]
              obtain ⟨s'', g1, g2, g3⟩ := write_ring hW hYs' hi2 hCW hwl hwm
              rw [hci] at g1
              rw [g1]
              refine ⟨s'', L'.length, rfl, hk', frG_t f3 (fun k j q => g3 k j (by omega) (by omega)), _, D ++ [w], L', rfl, hDL, g2, hadd, Or.inr ⟨w, EN_c n4 (fun k j q => g3 k j (by omega) (by omega))⟩⟩
            · rw [if_neg hbt] at hadd
              rw [decide_eq_false hbt, if_pos bF]
              exact ⟨s', L'.length, rfl, hk', f3, r, D ++ [w], L', rfl, hDL, k4', hadd, Or.inr ⟨w, n4⟩⟩) fuB (wyO G (rgO G i) (gf G i) 10 [gt G i] (gt G i)).length s2 ⟨f2, r, [], wyO G (rgO G i) (gf G i) 10 [gt G i] (gt G i), rfl, rfl, r2, by
                rcases t4 with ⟨h1, h2⟩ | ⟨h1, h2⟩
                · exact Or.inl ⟨h1, fun p hp => hp.elim (h2 p) (fun ⟨q, _, z⟩ => by cases z)⟩
                · exact Or.inr ⟨Or.inl h1, fun p hp => hp.elim (h2 p) (fun ⟨q, _, z⟩ => by cases z)⟩, Or.inl ⟨k19, rfl⟩⟩ (by
                have := wyO_len (O := rgO G i) (b := gf G i) hW 10 [gt G i] (gt G i)
                rw [fuB_e]; omega)
        rw [w1, Option.bind_some]
        exact ⟨_, rfl, nI_1 _, w2, r', w3, w4⟩) fuB 0 (0, τ1) ⟨rfl, f1, [], ⟨k30, fun z => absurd rfl z, Nat.zero_le _, fun e he => by cases he⟩, Or.inl ⟨rfl, fun p ⟨e, q, _, z, _⟩ => absurd z (Nat.not_lt_zero _)⟩⟩ (Nat.zero_le _) (by rw [fuB_e]; omega)
  rw [u1, Option.bind_some]
  exact ⟨_, r, rfl, u2, u3, u4⟩
theorem LR_u {G : GT} {n : Nat} {r r' : List Nat} (h : LR G n r) (h' : LR G n r') : r = r' := by
  rcases h with ⟨h1, h2⟩ | h
  · rcases h' with ⟨h1', _⟩ | h'
    · rw [h1, h1']
    · exact absurd h'.1 (h2 _)
  · rcases h' with ⟨_, h2'⟩ | h'
    · exact absurd h.1 (h2' _)
    · exact LeastOf_u h h'
theorem rings_e {G : GT} {σ τ : mS} (R : Rel G σ τ) : ∃ σ' τ' r, f_Rg_find σ = some σ' ∧ f_Mo_findRing τ = some τ' ∧ Rel G σ' τ' ∧ WO G σ' 92 r ∧ RG G τ' r := by
  obtain ⟨σ', r, s1, s2, s3, s4⟩ := x_ring R
  obtain ⟨τ', r', t1, t2, t3, t4⟩ := y_ring R.1 R.2.2.1
  have := LR_u s4 t4
  subst this
  exact ⟨σ', τ', r, s1, t1, Rel_z s2 (fun k j q => t2 k j (by omega)), s3, t3⟩
theorem p_ring {G : GT} {σ τ : mS} (R : Rel G σ τ) : Ok2 (f_LP_ring σ) (f_Mo_ring τ) := by
  obtain ⟨σ', τ', r, s1, t1, R', hx, hy⟩ := rings_e R
  unfold f_LP_ring f_Mo_ring
  rw [s1, t1, Option.bind_some, Option.bind_some, hx.1, hx.2.1, hy.1, gd_t (by decide)]
  by_cases z : r = []
  · have e : nI r.length = 0 := by rw [z]; rfl
    rw [if_pos e, if_pos e]
    exact ⟨_, _, _, G, rfl, rfl, R'⟩
  · have hl := hy.2.2.1
    have e : ¬ nI r.length = 0 := fun w => z (List.length_eq_zero_iff.mp ((nI_eq (b := 0) (by omega) (by omega)).mp w))
    have hc := cst_le R.1 r hy.2.2.2
    have hce := cst_e (G := G) r
    rw [if_neg e, if_neg e, (hy.2.1 z).1, show (16 : Int32) = nI 16 from rfl, pk_div (by omega) (by decide) (by decide), show cst G r / 16 = wyL G r by omega]
    exact ⟨_, _, _, G, rfl, rfl, R'⟩
theorem p_ringArc {G : GT} {σ τ : mS} (R : Rel G σ τ) (x : Int32) : Ok2 (f_LP_ringArc σ x) (f_Mo_ringArc τ x) := by
  obtain ⟨σ', τ', r, s1, t1, R', hx, hy⟩ := rings_e R
  unfold f_LP_ringArc f_Mo_ringArc f_Wy_arcAt
  rw [s1, t1, Option.bind_some, Option.bind_some, hx.1, hy.1]
  by_cases z : r = []
  · have e : nI r.length = 0 := by rw [z]; rfl
    rw [if_pos e, if_pos e]
    exact ⟨_, _, _, G, rfl, rfl, R'⟩
  · have hl := hy.2.2.1
    have e : ¬ nI r.length = 0 := fun w => z (List.length_eq_zero_iff.mp ((nI_eq (b := 0) (by omega) (by omega)).mp w))
    rw [if_neg e, if_neg e]
    by_cases x0 : x < 0
    · rw [if_pos x0, if_pos x0]
      exact ⟨_, _, _, G, rfl, rfl, R'⟩
    · rw [if_neg x0, if_neg x0]
      by_cases x1 : nI r.length ≤ x
      · rw [if_pos x1, if_pos x1]
        exact ⟨_, _, _, G, rfl, rfl, R'⟩
      · rw [if_neg x1, if_neg x1]
        have hi : inb x r.length = true := by
          have := node_in (x := x) (n := r.length) (by omega)
          rw [if_neg x0, if_neg x1] at this
          cases q : inb x r.length with
          | true => rfl
          | false => rw [q] at this; exact absurd (Option.some.inj this) (by decide)
        obtain ⟨j, hj, rfl⟩ := inb_e hi (by omega)
        have hcj : (nI j).toNatClampNeg = j := nI_clamp (by omega)
        have g1 : r[j]? = some r[j] := List.getElem?_eq_getElem hj
        rw [gd_t (inb_n (by omega) (by decide)), gd_t (inb_n (by omega) (by decide)), hcj, hx.2.2.1 j _ g1, (hy.2.1 z).2 j _ g1]
        exact ⟨_, _, _, G, rfl, rfl, R'⟩
