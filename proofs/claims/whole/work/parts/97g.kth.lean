-- ===== PURE: kth, kthArc =====
theorem RI_mono {G : GT} {a b d n : Nat} {Es : List Ent} {Ex Ex' : List Nat → Prop} (h : RI G a b Es d n Ex) (he : ∀ q, Ex q → Ex' q) : RI G a b Es d n Ex' := by
  refine ⟨h.1, h.2.1, h.2.2.1, fun q hq => ?_⟩
  rcases h.2.2.2 q hq with z | z | z | z
  · exact Or.inl z
  · exact Or.inr (Or.inl z)
  · exact Or.inr (Or.inr (Or.inl z))
  · exact Or.inr (Or.inr (Or.inr (he q z)))
theorem Pt_p {G : GT} {a b i : Nat} {p p' : List Nat} {bar : Nat → Bool} (h : p'.take i = p.take i) (q : List Nat) : Pt G a b p' i bar q ↔ Pt G a b p i bar q := by
  unfold Pt; rw [h]
theorem new_ok {G : GT} {a b i : Nat} {p x : List Nat} {bar : Nat → Bool} (hi : i ≤ p.length) (hbar : ∀ e, bar e = true → gf G e = endN G a (p.take i)) (h : LeastOf G (Pt G a b p i bar) x) : EOK G a b (x, i, bar) := by
  have ht := h.1.2.1
  refine ⟨⟨(Pt_p ht x).mpr h.1, fun q hq => h.2 q ((Pt_p ht q).mp hq)⟩, fun e he => by show _ = endN G a (x.take i); rw [ht]; exact hbar e he, ?_⟩
  show i ≤ x.length
  have := congrArg List.length ht
  rw [List.length_take, List.length_take] at this
  omega
/-- what a way has before a place -/
theorem pre_ok {G : GT} {a b i : Nat} {E : Ent} (hE : EOK G a b E) (hsi : E.2.1 ≤ i) (hi : i < E.1.length) : WP G (gl G) (fun _ => false) (endN G a (E.1.take i)) a (E.1.take i) ∧ (nds G a (E.1.take i)).Nodup ∧ (∀ e, barI E i e = true → gf G e = endN G a (E.1.take i)) ∧ b ∉ psd G a (E.1.take i) := by
  obtain ⟨h1, h2⟩ := hE.1.1.1
  have hdr : E.1.drop i = E.1[i] :: E.1.drop (i + 1) := List.drop_eq_getElem_cons hi
  have e0 : E.1 = E.1.take i ++ E.1.drop i := (List.take_append_drop i E.1).symm
  have hb := WP_end _ _ h1
  rw [e0] at h1 h2
  obtain ⟨w1, w2⟩ := (WP_a _ _ _).mp h1
  refine ⟨w1, ?_, fun e he => ?_, fun z => ?_⟩
  · rw [nds_a] at h2
    rw [nds_p]
    refine List.Nodup.sublist (List.Sublist.append_left ?_ _) h2
    unfold nds
    exact List.Sublist.cons_cons _ (List.nil_sublist _)
  · unfold barI at he
    rw [Bool.or_eq_true] at he
    rcases he with he | he
    · obtain ⟨q1, q2⟩ := Bool.and_eq_true_iff.mp he
      have q1 := of_decide_eq_true q1
      rw [q1]; exact hE.2.1 e q2
    · have q := of_decide_eq_true he
      rw [List.getElem?_eq_getElem hi] at q
      have q := Option.some.inj q
      rw [hdr] at w2
      rw [← q]; exact w2.2.2.1
  · rw [nds_p, psd_a, endN_a, ← endN_a, List.take_append_drop, hb] at h2
    exact (List.nodup_append.mp h2).2.2 b (List.mem_append_left _ z) b (List.mem_singleton.mpr rfl) rfl
theorem fill_e {G : GT} {σ τ : mS} {a b n : Nat} (R : Rel G σ τ) (ha : a < gN G) (hb : b < gN G) (hn1 : 1 ≤ n) (hn2 : n ≤ 30) : ∃ σ' Es q, f_Rw_fill σ (nI a) (nI b) (nI n) = some σ' ∧ CR G σ' τ a b n Es q ∧ LRow G (SW G (gl G) a b) (Es.map (fun E => E.1)) n := by
  obtain ⟨hW, hX, hY, hI, hh, hr⟩ := id R
  have hN := hW.1
  unfold f_Rw_fill
  have hroom : (if nI n < 30 then nI n else 30) = nI n := by
    by_cases z : n < 30
    · rw [if_pos (show nI n < 30 from (nI_ltI (b := 30) (by omega) (by decide)).mpr z)]
    · rw [if_neg (show ¬ nI n < 30 from fun y => by have := (nI_ltI (b := 30) (by omega) (by decide)).mp y; omega), show n = 30 by omega]; rfl
  rw [nm_e2, nm_e2, nm_e2, nm_e2, hroom]
  generalize hσ : sI (sI (sI (sI σ 25 6 (nI a)) 25 7 (nI b)) 25 4 0) 25 5 (nI n) = σ4
  have k4 : ∀ k j, k ≠ 25 → σ4.1 k j = σ.1 k j := fun k j h => by
    rw [← hσ, sI_1, if_neg h, sI_1, if_neg h, sI_1, if_neg h, sI_1, if_neg h]
  have k42 : σ4.2 = σ.2 := by rw [← hσ]; rfl
  have R4 : Rel G σ4 τ := Rel_x R (fun k j h => k4 k j (by omega)) (by rw [k42]) (by rw [k42]) (by rw [k42])
  obtain ⟨q0, hq1, hq2⟩ := R4.2.2.2.1.2.2.2.1
  obtain ⟨z1, z2, z3, z4⟩ := R4.2.2.2.1.2.2.2.2
  have C4 : CR G σ4 τ a b n [] q0 := ⟨R4, by rw [← hσ]; simp [sI_1]; rfl, by rw [← hσ]; simp [sI_1], by rw [← hσ]; simp [sI_1], by rw [← hσ]; simp [sI_1], hq1, hq2, fun i E h => by simp at h⟩
  have hO : OA G σ4 27 ([], 0, fun _ => false) := ⟨⟨z1, z2, fun j e h => by simp at h, fun e h => by cases h⟩, z3, fun e _ => by rw [z4]; exact b64_0 e⟩
  have hbar0 : barI ([], 0, fun _ => false) 0 = fun _ => false := by funext e; unfold barI; simp
  obtain ⟨σ5, b1, b2⟩ := branch_e (i := 0) (E := ([], 0, fun _ => false)) C4 ha hb (Nat.zero_le _) hn2 List.Pairwise.nil (fun E h => by cases h) (Or.inl rfl) hO (Nat.le_refl _) (Nat.le_refl _) (Nat.zero_le _) rfl (by simp [nds]) (fun e he => by rw [hbar0] at he; cases he) (by simp [psd]) (fun p _ F h => by cases h)
  have b1 : f_Rw_branch σ4 27 0 = some σ5 := b1
  rw [b1, Option.bind_some]
  have hPt0 : ∀ q, SW G (gl G) a b q → Pt G a b [] 0 (barI ([], 0, fun _ => false) 0) q := fun q hq => ⟨hq, by simp, fun e _ => by rw [hbar0]⟩
  -- the row that the first branch gives
  have hstart : ∃ Es q, CR G σ5 τ a b n Es q ∧ RI G a b Es 0 n (fun _ => False) ∧ DJ G a b Es 0 (fun _ => False) := by
    rcases b2 with ⟨c1, c2, c3⟩ | ⟨p, k, q', c1, c2, c3, c4, c5, c6, c7⟩
    · refine ⟨[], q0, c1, ⟨Nat.zero_le _, List.Pairwise.nil, fun E h => absurd h List.not_mem_nil, fun q hq => absurd (hPt0 q hq) (c3 q)⟩, fun j E q h => (by simp at h), fun i j E F q _ h => (by simp at h)⟩
    · have hk : k = 0 := by simpa using c2
      subst hk
      have hEs : (insE [] 0 (p, 0, barI ([], 0, fun _ => false) 0)).take n = [(p, 0, barI ([], 0, fun _ => false) 0)] := by
        unfold insE
        rw [List.take_nil, List.drop_nil, List.nil_append]
        exact List.take_of_length_le (by simpa using hn1)
      have hx : EOK G a b (p, 0, barI ([], 0, fun _ => false) 0) := new_ok (Nat.le_refl _) (fun e he => by rw [hbar0] at he; cases he) c1
      rw [hEs] at c5
      refine ⟨_, q', c5, ⟨by simpa using hn1, List.pairwise_singleton _ _, fun E hE => by rw [List.mem_singleton.mp hE]; exact hx, fun q hq => Or.inr (Or.inl ⟨0, _, Nat.le_refl _, rfl, (Pt_p (p := []) (by simp) q).mpr (hPt0 q hq)⟩)⟩, fun j E q _ _ h => h, fun i j E F q hij hi hj => ?_⟩
      have hi0 := (List.getElem?_eq_some_iff.mp hi).1
      have hj0 := (List.getElem?_eq_some_iff.mp hj).1
      simp at hi0 hj0
      omega
  obtain ⟨Es0, q5, s1, s2, s3⟩ := hstart
  have hlenR : ∀ {Es : List Ent}, (∀ E ∈ Es, EOK G a b E) → ∀ E ∈ Es, E.1.length ≤ 9 := fun h E hE => SW_len hW ha (h E hE).1.1.1
  obtain ⟨u, u1, Es, q, u2, u3⟩ := lpN_i (st := f_Rw_fill_L37) (fun d s => s.1 = nI d ∧ ∃ Es q, CR G s.2 τ a b n Es q ∧ RI G a b Es d n (fun _ => False) ∧ DJ G a b Es d (fun _ => False)) (fun u => ∃ Es q, CR G u.2 τ a b n Es q ∧ LRow G (SW G (gl G) a b) (Es.map (fun E => E.1)) n) n (fun d s hd hs => by
    obtain ⟨st, s⟩ := s
    obtain ⟨t1, Es, q, t2, t3, t4⟩ := hs
    have t1 : st = nI d := t1
    subst t1
    have t2 : CR G s τ a b n Es q := t2
    obtain ⟨R', c4, c5, c6, c7, hq, hinj, hEs⟩ := id t2
    unfold f_Rw_fill_L37
    dsimp only
    rw [c4, c5, nI_1]
    have hEl := t3.1
    by_cases h1 : Es.length ≤ d
    · left
      rw [if_pos (nI_le h1 (by omega))]
      exact ⟨_, rfl, Es, q, t2, RI_end t3 (Or.inl h1)⟩
    · rw [if_neg (nI_ge (by omega) (by omega))]
      by_cases h2 : n ≤ d + 1
      · left
        rw [if_pos (nI_le h2 (by omega))]
        exact ⟨_, rfl, Es, q, t2, RI_end t3 (Or.inr h2)⟩
      · right
        refine ⟨by omega, ?_⟩
        have hdl : d < Es.length := by omega
        have hcd : (nI d).toNatClampNeg = d := nI_clamp (by omega)
        have hEd : Es[d]? = some Es[d] := List.getElem?_eq_getElem hdl
        have hok := t3.2.2.1 Es[d] (List.getElem_mem hdl)
        have hOd := hEs d _ hEd
        rw [if_neg (nI_ge (by omega) (by omega)), gd_t (inb_n (by omega) (by decide)), hcd, (hq d (by omega)).2, Option.bind_some, gd_t (wy_q _ (hq d (by omega)).1), nm_e2, hOd.2.1]
        generalize hE : Es[d] = E at *
        generalize hw6 : 29 + 2 * q d = w6 at *
        have hE9 := SW_len hW ha hok.1.1.1
        obtain ⟨v, v1, v2⟩ := lpN_i (st := f_Rw_fill_L73 w6) (fun i s => s.1 = nI i ∧ E.2.1 ≤ i ∧ ∃ Es q, CR G s.2 τ a b n Es q ∧ RI G a b Es (d + 1) n (restP G a b E i) ∧ DJ G a b Es (d + 1) (restP G a b E i) ∧ Es[d]? = some E ∧ 29 + 2 * q d = w6 ∧ OA G s.2 w6 E) (fun u => ∃ Es q, CR G u.2 τ a b n Es q ∧ RI G a b Es (d + 1) n (fun _ => False) ∧ DJ G a b Es (d + 1) (fun _ => False)) E.1.length (fun i s hi hs => by
          obtain ⟨st, s⟩ := s
          obtain ⟨r1, r0, Es, q, r2, r3, r4, r5, r6, r7⟩ := hs
          have r1 : st = nI i := r1
          subst r1
          have r2 : CR G s τ a b n Es q := r2
          have r7 : OA G s w6 E := r7
          unfold f_Rw_fill_L73
          dsimp only
          rw [r7.1.1]
          by_cases hc : i = E.1.length
          · left
            rw [if_pos (nI_le (by omega) (by omega))]
            rw [hc] at r3 r4
            exact ⟨_, rfl, Es, q, r2, rest_e r3 hok, DJ_d r4 (fun _ h => h.elim)⟩
          · right
            have hi2 : i < E.1.length := by omega
            refine ⟨hi2, ?_⟩
            have hdl := (List.getElem?_eq_some_iff.mp r5).1
            obtain ⟨y1, y2, y3, y4⟩ := pre_ok hok r0 hi2
            obtain ⟨z1, z2⟩ := part_i hok r0 hi2
            have hnew : ∀ p, Pt G a b E.1 i (barI E i) p → ∀ F ∈ Es, p ≠ F.1 := by
              intro p hp F hF hpF
              obtain ⟨j, hj1, hj2⟩ := List.getElem_of_mem hF
              refine r4.1 j F p (by rw [List.getElem?_eq_getElem hj1, hj2]) ?_ (z1 p hp)
              unfold Sj
              split
              · exact hpF
              · rw [hpF]; exact (r3.2.2.1 F hF).1.1
            obtain ⟨s', e1, e2⟩ := branch_e (i := i) (E := E) (w1 := w6) r2 ha hb r3.1 hn2 r3.2.1 (hlenR r3.2.2.1) (Or.inr ⟨d, hdl, r6.symm⟩) r7 r0 (by omega) hE9 y1 y2 y3 y4 hnew
            rw [if_neg (nI_ge hi2 (by omega)), e1, Option.bind_some]
            refine ⟨_, rfl, nI_1 _, by omega, ?_⟩
            rcases e2 with ⟨g1, g2, g3⟩ | ⟨p, k, q', g1, g2, g3, g4, g5, g6, g7⟩
            · exact ⟨Es, q, g1, RI_mono r3 (fun x hx => (rest_s hok r0 hi2 x hx).resolve_right (g3 x)), DJ_d r4 (fun x hx => (z2 x hx).1), r5, r6, g2⟩
            · have hpE : wlt G E.1 p := by
                have hrest := z1 p g1.1
                exact (hok.1.2 p hrest.1).resolve_left hrest.2.2
              have hdk : d + 1 ≤ k := by
                rcases Nat.lt_or_ge d k with z | z
                · omega
                · exfalso
                  have hin : E ∈ Es.drop k := by
                    rw [List.mem_iff_getElem?]
                    exact ⟨d - k, by rw [List.getElem?_drop, show k + (d - k) = d by omega]; exact r5⟩
                  exact wlt_as hpE (g4 E hin)
              have hx := new_ok (by omega) y3 g1
              have ht := g1.1.2.1
              refine ⟨_, q', g5, RI_ins r3 hx hdk g2 (by omega) g3 g4 (fun x hx => ?_), DJ_ins r4 hdk g2 (fun x hx => z1 x ((Pt_p ht x).mp hx)) (fun x hx => ⟨(z2 x hx).1, fun y => (z2 x hx).2 ((Pt_p ht x).mp y)⟩), ?_, by rw [g7 d (by omega)]; exact r6, g6⟩
              · rcases rest_s hok r0 hi2 x hx with z | z
                · exact Or.inl z
                · exact Or.inr ((Pt_p ht x).mpr z)
              · rw [List.getElem?_take, if_pos (by omega)]
                unfold insE
                rw [List.getElem?_append_left (by rw [List.length_take]; omega), List.getElem?_take, if_pos (by omega)]
                exact r5) fuS E.2.1 (nI E.2.1, s) ⟨rfl, Nat.le_refl _, Es, q, t2, rest_0 t3 hEd, DJ_rest t4 t3.2.2.1 hEd, hEd, hw6, hOd⟩ hok.2.2 (by rw [fuS_e]; omega)
        rw [v1, Option.bind_some]
        obtain ⟨Es', q', v3, v4, v5⟩ := v2
        exact ⟨_, rfl, rfl, Es', q', v3, v4, v5⟩) fuS 0 (0, σ5) ⟨rfl, Es0, q5, s1, s2, s3⟩ (Nat.zero_le _) (by rw [fuS_e]; omega)
  rw [u1, Option.bind_some]
  exact ⟨_, Es, q, rfl, u2, u3⟩
/-- both rows at a place -/
theorem rows_e {G : GT} {σ τ : mS} {a b k : Nat} (R : Rel G σ τ) (ha : a < gN G) (hb : b < gN G) (hk : k < 30) : ∃ σ' τ', f_Rw_fill σ (nI a) (nI b) (nI k + 1) = some σ' ∧ f_Mo_findRow τ (nI a) (nI b) = some τ' ∧ Rel G σ' τ' ∧ ((σ'.1 25 4 ≤ nI k ∧ τ'.1 0 23 ≤ nI k) ∨ (¬ σ'.1 25 4 ≤ nI k ∧ ¬ τ'.1 0 23 ≤ nI k ∧ ∃ w p, σ'.2.2 26 k = some w ∧ wy w = true ∧ WO G σ' w p ∧ RowAt G τ' k p ∧ p.length ≤ 9)) := by
  obtain ⟨τ', t1, t2, t3⟩ := y_row R ha hb
  obtain ⟨σ', Es, q, s1, s2, s3⟩ := fill_e (n := k + 1) R ha hb (by omega) (by omega)
  have hW := R.1
  obtain ⟨R', c4, c5, c6, c7, hq, hinj, hEs⟩ := id s2
  have hL := rowW_L (b := b) hW ha
  have heq := LRow_u _ _ _ _ _ s3 hL k (by omega) hk
  have hR' : Rel G σ' τ' := ⟨hW, R'.2.1, t2.2.2.1, R'.2.2.2.1, by rw [t2.2.2.2.2.1, ← R.2.2.2.2.1, ← R'.2.2.2.2.1], t2.2.2.2.2.2⟩
  refine ⟨σ', τ', by rw [nI_1]; exact s1, t1, hR', ?_⟩
  have h1 : Es.length ≤ k + 1 := by have := s3.2.2.1; rwa [List.length_map] at this
  have h2 := t3.2.1
  rw [c4, t3.1]
  by_cases z : Es.length ≤ k
  · left
    have e1 : (Es.map (fun E => E.1))[k]? = none := List.getElem?_eq_none (by rw [List.length_map]; exact z)
    rw [e1] at heq
    have z2 : (rowW G a b).length ≤ k := List.getElem?_eq_none_iff.mp heq.symm
    exact ⟨nI_le z (by omega), nI_le z2 (by omega)⟩
  · right
    have hkl : k < Es.length := by omega
    have e1 : (Es.map (fun E => E.1))[k]? = some Es[k].1 := by rw [List.getElem?_map, List.getElem?_eq_getElem hkl]; rfl
    rw [e1] at heq
    have hlt := (List.getElem?_eq_some_iff.mp heq.symm).1
    refine ⟨nI_ge hkl (by omega), nI_ge hlt (by omega), 29 + 2 * q k, Es[k].1, (hq k (by omega)).2, wy_q _ (hq k (by omega)).1, (hEs k _ (List.getElem?_eq_getElem hkl)).1, t3.2.2 k _ heq.symm, ?_⟩
    exact SW_len hW ha (s3.2.1 Es[k].1 (List.mem_map.mpr ⟨_, List.getElem_mem hkl, rfl⟩))
theorem kth_n {x : Int32} (h0 : ¬ x < 0) : (x < 30 → ∃ k, k < 30 ∧ x = nI k ∧ x ≤ 29) ∧ (¬ x < 30 → ¬ x ≤ 29) := by
  refine ⟨fun h => ?_, fun h h2 => ?_⟩
  · have h1 : x ≤ 29 := by
      rw [Int32.lt_iff_toInt_lt] at h
      rw [Int32.le_iff_toInt_le]
      have e1 : (30 : Int32).toInt = 30 := rfl
      have e2 : (29 : Int32).toInt = 29 := rfl
      omega
    obtain ⟨k, hk, rfl⟩ := nI_of2 (M := 29) (n := 29) (by decide) h0 h1
    exact ⟨k, by omega, rfl, h1⟩
  · apply h
    rw [Int32.le_iff_toInt_le] at h2
    rw [Int32.lt_iff_toInt_lt]
    have e1 : (30 : Int32).toInt = 30 := rfl
    have e2 : (29 : Int32).toInt = 29 := rfl
    omega
theorem p_kth {G : GT} {σ τ : mS} (R : Rel G σ τ) (x y z : Int32) : Ok2 (f_LP_kth σ x y z) (f_Mo_kth τ x y z) := by
  obtain ⟨hW, hX, hY, hI, hh, hr⟩ := id R
  have hN := hW.1
  unfold f_LP_kth f_Mo_kth
  rw [x_areNodes hW hX, y_isNode hW hY, y_isNode hW hY, Option.bind_some, Option.bind_some, Option.bind_some]
  cases ex : inb x (gN G) with
  | false => exact ⟨-1, σ, τ, G, rfl, rfl, R⟩
  | true =>
    cases ey : inb y (gN G) with
    | false => exact ⟨-1, σ, τ, G, rfl, rfl, R⟩
    | true =>
      obtain ⟨a, ha, rfl⟩ := inb_e ex (by omega)
      obtain ⟨b, hb, rfl⟩ := inb_e ey (by omega)
      rw [if_neg bT, if_neg bT, show (true && true) = true from rfl, if_neg bT]
      by_cases h0 : z < 0
      · rw [if_pos h0, if_pos h0]; exact ⟨-2, σ, τ, G, rfl, rfl, R⟩
      · rw [if_neg h0, if_neg h0]
        by_cases h1 : z < 30
        · obtain ⟨k, hk, rfl, h2⟩ := (kth_n h0).1 h1
          rw [if_pos h1, if_pos h2]
          obtain ⟨σ', τ', e1, e2, R', e3⟩ := rows_e R ha hb hk
          rw [e1, e2, Option.bind_some, Option.bind_some]
          rcases e3 with ⟨e3, e4⟩ | ⟨e3, e4, w, p, e5, e6, e7, e8, e9⟩
          · rw [if_pos e3, if_pos e4]; exact ⟨-3, σ', τ', G, rfl, rfl, R'⟩
          · have hck : (nI k).toNatClampNeg = k := nI_clamp (by omega)
            have hc := cst_e (G := G) p
            have hcl := cst_le hW p e7.2.2.2
            rw [if_neg e3, if_neg e4, gd_t (inb_n (by omega) (by decide)), gd_t (inb_n (by omega) (by decide)), hck, e5, Option.bind_some, gd_t e6, gd_t (by decide), e7.2.1, e8.2.2.1, show (16 : Int32) = nI 16 from rfl, pk_div (by omega) (by decide) (by decide), show cst G p / 16 = wyL G p by omega]
            exact ⟨_, _, _, G, rfl, rfl, R'⟩
        · rw [if_neg h1, if_neg ((kth_n h0).2 h1)]; exact ⟨-2, σ, τ, G, rfl, rfl, R⟩
theorem p_kthArc {G : GT} {σ τ : mS} (R : Rel G σ τ) (x y z v : Int32) : Ok2 (f_LP_kthArc σ x y z v) (f_Mo_kthArc τ x y z v) := by
  obtain ⟨hW, hX, hY, hI, hh, hr⟩ := id R
  have hN := hW.1
  unfold f_LP_kthArc f_Mo_kthArc f_Mo_kth
  rw [x_areNodes hW hX, y_isNode hW hY, y_isNode hW hY, Option.bind_some, Option.bind_some, Option.bind_some]
  cases ex : inb x (gN G) with
  | false => exact ⟨-1, σ, τ, G, rfl, rfl, R⟩
  | true =>
    cases ey : inb y (gN G) with
    | false => exact ⟨-1, σ, τ, G, rfl, rfl, R⟩
    | true =>
      obtain ⟨a, ha, rfl⟩ := inb_e ex (by omega)
      obtain ⟨b, hb, rfl⟩ := inb_e ey (by omega)
      rw [if_neg bT, if_neg bT, show (true && true) = true from rfl, if_neg bT]
      by_cases h0 : z < 0
      · rw [if_pos h0, if_pos h0]; exact ⟨-2, σ, τ, G, rfl, rfl, R⟩
      · rw [if_neg h0, if_neg h0]
        by_cases h1 : z < 30
        · obtain ⟨k, hk, rfl, h2⟩ := (kth_n h0).1 h1
          rw [if_pos h1, if_pos h2]
          obtain ⟨σ', τ', e1, e2, R', e3⟩ := rows_e R ha hb hk
          rw [e1, e2, Option.bind_some, Option.bind_some]
          rcases e3 with ⟨e3, e4⟩ | ⟨e3, e4, w, p, e5, e6, e7, e8, e9⟩
          · rw [if_pos e3, if_pos e4]; exact ⟨-3, σ', τ', G, rfl, rfl, R'⟩
          · have hck : (nI k).toNatClampNeg = k := nI_clamp (by omega)
            have hb1 : inb (nI k) 31 = true := inb_n (by omega) (by decide)
            obtain ⟨p1, p2, p3, p4, p5⟩ := e8
            unfold f_Wy_arcAt
            rw [if_neg e3, if_neg e4, gd_t hb1, gd_t hb1, hck, e5, Option.bind_some, gd_t e6, Option.bind_some, p3, e7.1]
            dsimp only
            rw [if_pos (show (0 : Int32) ≤ nI (wyL G p) from nI_le (a := 0) (Nat.zero_le _) (by omega))]
            by_cases v0 : v < 0
            · rw [if_pos v0, if_pos v0]; exact ⟨_, _, _, G, rfl, rfl, R'⟩
            · rw [if_neg v0, if_neg v0, gd_t hb1, p4]
              by_cases v1 : nI p.length ≤ v
              · rw [if_pos v1, if_pos v1]; exact ⟨_, _, _, G, rfl, rfl, R'⟩
              · rw [if_neg v1, if_neg v1]
                have hi : inb v p.length = true := by
                  have := node_in (x := v) (n := p.length) (by omega)
                  rw [if_neg v0, if_neg v1] at this
                  cases q : inb v p.length with
                  | true => rfl
                  | false => rw [q] at this; exact absurd (Option.some.inj this) (by decide)
                obtain ⟨j, hj, rfl⟩ := inb_e hi (by omega)
                have hcj : (nI j).toNatClampNeg = j := nI_clamp (by omega)
                have hcj2 : (nI (10 * k + j)).toNatClampNeg = 10 * k + j := nI_clamp (by omega)
                have g1 : p[j]? = some p[j] := List.getElem?_eq_getElem hj
                rw [ixY, gd_t (inb_n (by omega) (by decide)), gd_t (inb_n (by omega) (by decide)), hcj, hcj2, e7.2.2.1 j _ g1, (p5 j _ g1).2]
                exact ⟨_, _, _, G, rfl, rfl, R'⟩
        · rw [if_neg h1, if_neg ((kth_n h0).2 h1)]; exact ⟨-2, σ, τ, G, rfl, rfl, R⟩
