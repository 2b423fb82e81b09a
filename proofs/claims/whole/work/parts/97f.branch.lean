-- ===== PURE: one branch =====
theorem TX_g {G : GT} {O s X K : Nat → Bool} {σ σ' : mS} {c : Nat → Nat} (h1 : ∀ k j, k = 16 ∨ k = 17 → σ'.1 k j = σ.1 k j) (h2 : σ'.2.1 16 9 = σ.2.1 16 9) (h : TX 16 G true O s X σ K c) : TX 16 G true O s X σ' K c := by
  obtain ⟨a1, a2, a3, a4, a5, a6⟩ := h
  refine ⟨a1, fun v => ?_, fun v hv => ?_, fun e he => ?_, ?_, ?_⟩
  · rw [h1 16 7 (by omega)]; exact a2 v
  · obtain ⟨b1, b2, b3⟩ := a3 v hv
    exact ⟨b1, by rw [h1 (16 + 1) v (by omega)]; exact b2, b3⟩
  · rw [h2]; exact a4 e he
  · rw [h1 16 1 (by omega)]; exact a5
  · rw [h1 16 10 (by omega)]; exact a6
theorem OA_c {G : GT} {σ σ' : mS} {w : Nat} {E : Ent} (h : OA G σ w E) (h1 : ∀ j, σ'.1 w j = σ.1 w j) (h2 : ∀ j, σ'.1 (w + 1) j = σ.1 (w + 1) j) (h3 : σ'.2.1 w 4 = σ.2.1 w 4) : OA G σ' w E := ⟨WO_c h.1 (h1 1) (h1 2) h2, by rw [h1]; exact h.2.1, fun e he => by rw [h3]; exact h.2.2 e he⟩
def CR (G : GT) (σ τ : mS) (a b n : Nat) (Es : List Ent) (q : Nat → Nat) : Prop := Rel G σ τ ∧ σ.1 25 4 = nI Es.length ∧ σ.1 25 5 = nI n ∧ σ.1 25 6 = nI a ∧ σ.1 25 7 = nI b ∧ (∀ i, i < 31 → q i < 31 ∧ σ.2.2 26 i = some (29 + 2 * q i)) ∧ (∀ i j, i < 31 → j < 31 → q i = q j → i = j) ∧ ∀ i E, Es[i]? = some E → OA G σ (29 + 2 * q i) E
theorem take_s {p : List Nat} {t : Nat} (h : t < p.length) : p.take (t + 1) = p.take t ++ [p[t]] := by
  rw [List.take_add_one, List.getElem?_eq_getElem h]; rfl
theorem x_passed {G : GT} {σ : mS} {a w i : Nat} {p : List Nat} (hW : WG G) (hX : RX G σ) (ha : a < gN G) (h : WO G σ w p) (hi : i ≤ p.length) (hl : p.length ≤ 9) : ∃ (P : Int32), lpN (f_Rw_branch_L11 σ w (nI i)) fuS (nI a, 0, 0) = some (nI (endN G a (p.take i)), P, nI i) ∧ (∀ v, b32 P v = decide (v ∈ psd G a (p.take i))) ∧ endN G a (p.take i) < gN G := by
  have hN := hW.1
  have hm := hW.2.1
  obtain ⟨u, u1, P, u2, u3, u4⟩ := lpN_i (st := f_Rw_branch_L11 σ w (nI i)) (fun t s => t ≤ i ∧ ∃ P, s = (nI (endN G a (p.take t)), P, nI t) ∧ (∀ v, b32 P v = decide (v ∈ psd G a (p.take t))) ∧ endN G a (p.take t) < gN G) (fun u => ∃ P, u = (nI (endN G a (p.take i)), P, nI i) ∧ (∀ v, b32 P v = decide (v ∈ psd G a (p.take i))) ∧ endN G a (p.take i) < gN G) i (fun t s ht hs => by
    obtain ⟨_, P, s1, s2, s3⟩ := hs
    subst s1
    unfold f_Rw_branch_L11
    dsimp only
    by_cases hc : t = i
    · subst hc
      left
      rw [if_pos (nI_le (Nat.le_refl _) (by omega))]
      exact ⟨_, rfl, P, rfl, s2, s3⟩
    · right
      have htp : t < p.length := by omega
      have g1 : p[t]? = some p[t] := List.getElem?_eq_getElem htp
      have he := h.2.2.2 _ (List.getElem_mem htp)
      have hct : (nI t).toNatClampNeg = t := nI_clamp (by omega)
      have hce : (nI p[t]).toNatClampNeg = p[t] := nI_clamp (by omega)
      rw [if_neg (nI_ge (by omega) (by omega)), nm_e2, gd_t (inb_n (by omega) (by decide)), hct, h.2.2.1 t _ g1, gd_t (inb_n (by omega) (by decide)), hce, nm_e2, (hX.2.2.1 _ he).2.1]
      refine ⟨by omega, _, rfl, by omega, P ||| (1 <<< (nI (endN G a (p.take t)) &&& 31)), ?_, fun v => ?_, ?_⟩
      · rw [take_s htp, endN_a, nI_1]; rfl
      · rw [b32_set _ (by omega), s2 v, take_s htp, psd_a]
        show _ = decide (v ∈ psd G a (p.take t) ++ [endN G a (p.take t)])
        rw [Bool.eq_iff_iff]
        simp
      · rw [take_s htp, endN_a]
        exact (hW.2.2.1 _ he).2.1) fuS 0 (nI a, 0, 0) ⟨Nat.zero_le _, 0, rfl, fun v => by rw [b32_0]; rfl, ha⟩ (Nat.zero_le _) (by rw [fuS_e]; omega)
  exact ⟨P, by rw [u1, u2], u3, u4⟩
theorem bar_bits {G : GT} {σ : mS} {E : Ent} {w i : Nat} (hW : WG G) (hO : OA G σ w E) (hl : E.1.length ≤ 9) (hi : i ≤ E.1.length) (hsi : E.2.1 ≤ i) (f : Int64 → Option mS) : ∃ j5, (if nI i = (σ.1 w 3) then (if (σ.1 w 1) ≤ nI i then f (σ.2.1 w 4) else gd (inb (nI i) 10) (nm ((σ.2.1 w 4) ||| (1 <<< ((σ.1 (w + 1) (nI i).toNatClampNeg).toInt64 &&& 63))) fun v15 => f v15)) else (if (σ.1 w 1) ≤ nI i then f 0 else gd (inb (nI i) 10) (nm ((0 : Int64) ||| (1 <<< ((σ.1 (w + 1) (nI i).toNatClampNeg).toInt64 &&& 63))) fun v15 => f v15))) = f j5 ∧ ∀ e, e < 40 → b64 j5 e = barI E i e := by
  have hm := hW.2.1
  have hci : (nI i).toNatClampNeg = i := nI_clamp (by omega)
  obtain ⟨⟨a1, a2, a3, a4⟩, b1, b2⟩ := hO
  have key : ∀ j4 : Int64, (∀ e, e < 40 → b64 j4 e = (decide (i = E.2.1) && E.2.2 e)) → ∃ j5, (if (σ.1 w 1) ≤ nI i then f j4 else gd (inb (nI i) 10) (nm (j4 ||| (1 <<< ((σ.1 (w + 1) (nI i).toNatClampNeg).toInt64 &&& 63))) fun v15 => f v15)) = f j5 ∧ ∀ e, e < 40 → b64 j5 e = barI E i e := by
    intro j4 h4
    rw [a1, hci]
    by_cases z : i = E.1.length
    · rw [if_pos (nI_le (by omega) (by omega))]
      refine ⟨j4, rfl, fun e he => ?_⟩
      unfold barI
      rw [h4 e he, z, List.getElem?_eq_none (Nat.le_refl _)]
      simp
    · have hi2 : i < E.1.length := by omega
      have g1 : E.1[i]? = some E.1[i] := List.getElem?_eq_getElem hi2
      have he0 := a4 _ (List.getElem_mem hi2)
      rw [if_neg (nI_ge hi2 (by omega)), gd_t (inb_n (by omega) (by decide)), nm_e2, a3 i _ g1]
      refine ⟨_, rfl, fun e he => ?_⟩
      unfold barI
      rw [b64_set _ (by omega), h4 e he, g1]
      congr 1
      rw [Bool.eq_iff_iff]
      simp only [decide_eq_true_eq, Option.some.injEq]
      exact ⟨fun z => z.symm, fun z => z.symm⟩
  by_cases z : nI i = σ.1 w 3
  · rw [if_pos z]
    refine key _ (fun e he => ?_)
    have z2 : nI i = nI E.2.1 := by rw [z, b1]
    by_cases y : i = E.2.1
    · rw [decide_eq_true y, Bool.true_and]; exact b2 e he
    · exact absurd ((nI_eq (by omega) (by omega)).mp z2) y
  · rw [if_neg z]
    refine key 0 (fun e he => ?_)
    rw [b64_0, decide_eq_false (fun y => z (by rw [b1, y])), Bool.false_and]
theorem piK_c (k n j : Nat) : j < k ∧ piK k n j = j ∨ j = k ∧ piK k n j = n ∨ k < j ∧ j ≤ n ∧ piK k n j = j - 1 ∨ k < j ∧ n < j ∧ piK k n j = j := by
  unfold piK
  by_cases h1 : j < k
  · rw [if_pos h1]; omega
  · rw [if_neg h1]
    by_cases h2 : j = k
    · rw [if_pos h2]; omega
    · rw [if_neg h2]
      by_cases h3 : j ≤ n
      · rw [if_pos h3]; omega
      · rw [if_neg h3]; omega
theorem branch_e {G : GT} {σ τ : mS} {a b n i w1 : Nat} {Es : List Ent} {E : Ent} {q : Nat → Nat} (C : CR G σ τ a b n Es q) (ha : a < gN G) (hb : b < gN G) (hn : Es.length ≤ n) (hn2 : n ≤ 30) (hs : sortE G Es) (hlen : ∀ E ∈ Es, E.1.length ≤ 9) (hw1 : w1 = 27 ∨ ∃ d, d < Es.length ∧ w1 = 29 + 2 * q d) (hO : OA G σ w1 E) (hsi : E.2.1 ≤ i) (hi : i ≤ E.1.length) (hl9 : E.1.length ≤ 9) (hpre : WP G (gl G) (fun _ => false) (endN G a (E.1.take i)) a (E.1.take i)) (hnd : (nds G a (E.1.take i)).Nodup) (hbar : ∀ e, barI E i e = true → gf G e = endN G a (E.1.take i)) (hgoal : b ∉ psd G a (E.1.take i)) (hnew : ∀ p, Pt G a b E.1 i (barI E i) p → ∀ F ∈ Es, p ≠ F.1) :
    ∃ σ', f_Rw_branch σ w1 (nI i) = some σ' ∧ ((CR G σ' τ a b n Es q ∧ OA G σ' w1 E ∧ ∀ p, ¬ Pt G a b E.1 i (barI E i) p) ∨ ∃ p k q', LeastOf G (Pt G a b E.1 i (barI E i)) p ∧ k ≤ Es.length ∧ (∀ F ∈ Es.take k, wlt G F.1 p) ∧ (∀ F ∈ Es.drop k, wlt G p F.1) ∧ CR G σ' τ a b n ((insE Es k (p, i, barI E i)).take n) q' ∧ OA G σ' w1 E ∧ ∀ j, j < k → q' j = q j) := by
  obtain ⟨R, c4, c5, c6, c7, hq, hinj, hEs⟩ := id C
  obtain ⟨hW, hX, hY, hI, hh, hr⟩ := id R
  have hN := hW.1
  have hm := hW.2.1
  obtain ⟨⟨d, hd1, hd3, _, hd12, hd20⟩, h81, h161, _⟩ := id hI
  unfold f_Rw_branch
  obtain ⟨P, l1, l2, l3⟩ := x_passed hW hX ha hO.1 hi hl9
  rw [nm_e2, c6, l1, Option.bind_some]
  unfold f_Rw_branch_J63
  obtain ⟨j5, b1, b2⟩ := bar_bits hW hO hl9 hi hsi (fun j => f_Rw_branch_J86 σ w1 (nI i) (nI (endN G a (E.1.take i)), P, nI i) j)
  rw [b1]
  unfold f_Rw_branch_J86
  dsimp only
  have hbits : ∀ e, e < 40 → b64 ((σ.2.1 1 8) &&& (j5 ^^^ (-1))) e = barO G (barI E i) e := by
    intro e he
    rw [b64_and, b64_xor, hX.2.2.2.2.1 e, b2 e he, b64_m1 e (by omega)]
    unfold barO
    rw [Bool.xor_true]
  have hPb : b32 P b = false := by rw [l2 b]; exact decide_eq_false hgoal
  obtain ⟨σ6, σ7, σ8, K, c, e1, e2, e3, e4, e5⟩ := one_e (b := 16) (ag := true) (O := barO G (barI E i)) (a := b) hW hX (Or.inr rfl) hd1 hd3 hd20 h161 _ P hbits hb hPb
  have hPX : (fun v => b32 P v) = fun v => decide (v ∈ psd G a (E.1.take i)) := by funext v; exact l2 v
  rw [hPX] at e5
  have hg6 : σ6.1 25 7 = nI b := by
    obtain ⟨s1', p1, p2, _⟩ := counted_e (G := G) (b := 16) (σ := σ) (Or.inr rfl) hd1 hd3 hd20 ((σ.2.1 1 8) &&& (j5 ^^^ (-1))) P
    rw [p1] at e1
    rw [← Option.some.inj e1, p2.1 25 7 (by omega)]; exact c7
  have hTB := TX_TB hb e5
  obtain ⟨g1, g2⟩ := part_e (b := b) hi hpre hnd hbar hTB
  rw [e1, Option.bind_some, hg6, e2, Option.bind_some, e3, Option.bind_some, knows_e e5.2.1 (by omega), Option.bind_some]
  have R8 : Rel G σ8 τ := Rel_B (Or.inr rfl) R e4
  have k8 : ∀ k j, 24 ≤ k → σ8.1 k j = σ.1 k j := fun k j h => e4.1 k j (by omega)
  have k8l : ∀ k j, 24 ≤ k → σ8.2.1 k j = σ.2.1 k j := fun k j h => e4.2.2.2.1 k j (by omega)
  have OA8 : ∀ {w : Nat} {F : Ent}, 24 ≤ w → OA G σ w F → OA G σ8 w F := fun hw h => OA_c h (fun j => k8 _ j hw) (fun j => k8 _ j (by omega)) (k8l _ 4 hw)
  have hw24 : 24 ≤ w1 := by rcases hw1 with z | ⟨d, _, z⟩ <;> omega
  have hq8 : ∀ i, i < 31 → q i < 31 ∧ σ8.2.2 26 i = some (29 + 2 * q i) := fun i hi => by rw [e4.2.2.2.2]; exact hq i hi
  by_cases hK : K (endN G a (E.1.take i)) = true
  · have hleast := g1 hK
    rw [hK, if_neg bT, k8 25 4 (by omega), c4]
    have hc0 : (nI Es.length).toNatClampNeg = Es.length := nI_clamp (by omega)
    rw [gd_t (inb_n (by omega) (by decide)), hc0, (hq8 Es.length (by omega)).2, Option.bind_some, gd_t (wy_q _ (hq Es.length (by omega)).1)]
    -- the place for the new one is not the model
    have hne10 : w1 ≠ 29 + 2 * q Es.length ∧ w1 + 1 ≠ 29 + 2 * q Es.length ∧ w1 ≠ 29 + 2 * q Es.length + 1 := by
      rcases hw1 with z | ⟨d, z1, z2⟩
      · omega
      · have : q d ≠ q Es.length := fun y => by have := hinj d Es.length (by omega) (by omega) y; omega
        omega
    have hsame : ∀ j, j < Es.length → q j ≠ q Es.length := fun j hj y => by have := hinj j Es.length (by omega) (by omega) y; omega
    generalize hw10 : 29 + 2 * q Es.length = w10 at *
    have hw10a : 29 ≤ w10 := by omega
    obtain ⟨σ11, f1, f2, f3, f4, f5, f6, f7⟩ := beginW_e (G := G) (σ := σ8) (w := w10) (nI i) j5
    rw [f1, Option.bind_some]
    have hO8 := OA8 hw24 hO
    have X8 := R8.2.1
    have X11 : RX G σ11 := by
      obtain ⟨x1, x2, x3, x4, x5, x6⟩ := X8
      have h0 : ∀ k j, k < 8 → σ11.1 k j = σ8.1 k j := fun k j hk => f3 k j (by omega)
      refine ⟨by rw [h0 _ _ (by decide)]; exact x1, by rw [h0 _ _ (by decide)]; exact x2, fun e he => ?_, fun v hv => by rw [h0 _ _ (by decide)]; exact x4 v hv, fun e => by rw [f4 1 8 (by omega)]; exact x5 e, fun v => by rw [h0 _ _ (by decide)]; exact x6 v⟩
      rw [h0 _ _ (by decide), h0 _ _ (by decide), h0 _ _ (by decide), h0 _ _ (by decide), h0 _ _ (by decide)]
      exact x3 e he
    have T11 : TX 16 G true (barO G (barI E i)) (fun v => decide (v = b)) (fun v => decide (v ∈ psd G a (E.1.take i))) σ11 K c := TX_g (fun k j hk => f3 k j (by omega)) (f4 16 9 (by omega)) e5
    -- the shared arcs
    obtain ⟨u, u1, u2, u3⟩ := lpN_i (st := f_Rw_branch_L161 w1 (nI i) w10) (fun t s => s.1 = nI t ∧ t ≤ i ∧ frV w10 σ11 s.2 ∧ WO G s.2 w10 (E.1.take t)) (fun u => frV w10 σ11 u.2 ∧ WO G u.2 w10 (E.1.take i)) i (fun t s ht hs => by
      obtain ⟨st, s⟩ := s
      obtain ⟨s1, s2, s3, s4⟩ := hs
      have s1 : st = nI t := s1
      subst s1
      have s3 : frV w10 σ11 s := s3
      have s4 : WO G s w10 (E.1.take t) := s4
      unfold f_Rw_branch_L161
      dsimp only
      by_cases hc : t = i
      · subst hc
        left
        rw [if_pos (nI_le (Nat.le_refl _) (by omega))]
        exact ⟨_, rfl, s3, s4⟩
      · right
        have htp : t < E.1.length := by omega
        have gg : E.1[t]? = some E.1[t] := List.getElem?_eq_getElem htp
        have he := hO.1.2.2.2 _ (List.getElem_mem htp)
        have hct : (nI t).toNatClampNeg = t := nI_clamp (by omega)
        have hce : (nI E.1[t]).toNatClampNeg = E.1[t] := nI_clamp (by omega)
        have hbt : inb (nI t) 10 = true := inb_n (by omega) (by decide)
        have harc : s.1 (w1 + 1) t = nI E.1[t] := by
          rw [s3.1 (w1 + 1) t (by omega) (by omega), f3 (w1 + 1) t (by omega)]
          exact hO8.1.2.2.1 t _ gg
        have hXs := RX_v (by omega) s3 X11
        obtain ⟨s', a1, a2, a3⟩ := add_e hW s4 (by rw [List.length_take]; omega) he
        rw [if_neg (nI_ge (by omega) (by omega)), gd_t hbt, gd_t hbt, hct, harc, gd_t (inb_n (by omega) (by decide)), hce, (hXs.2.2.1 _ he).2.2.1, a1, Option.bind_some]
        exact ⟨by omega, _, rfl, nI_1 _, by omega, frV_t s3 a3, by rw [take_s htp]; exact a2⟩) fuS 0 (0, σ11) ⟨rfl, Nat.zero_le _, frV_r _ _, by rw [List.take_zero]; exact f2⟩ (Nat.zero_le _) (by rw [fuS_e]; omega)
    rw [u1, Option.bind_some]
    -- and the rest
    obtain ⟨fl1, fl2, fl3, fl4⟩ := (fol_least (u := endN G a (E.1.take i)) hTB (by
      have hnd2 := hnd
      rw [nds_p] at hnd2
      exact decide_eq_false (fun z => (List.nodup_append.mp hnd2).2.2 _ z _ (List.mem_singleton.mpr rfl) rfl))).1 hK
    have hpl := SW_len hW ha hleast.1.1
    rw [List.length_append, fl4] at hpl
    obtain ⟨σ13, v1, v2, v3⟩ := follow_e hW (RX_v (by omega) u2 X11) (w := w10) (by omega) hb (TX_v (by omega) u2 T11) hK u3 (by omega)
    rw [v1, Option.bind_some]
    generalize hp : E.1.take i ++ fol G (barO G (barI E i)) K c (c (endN G a (E.1.take i)) % 16) (endN G a (E.1.take i)) = p at *
    have f13 := frV_t u2 v3
    -- all that was before
    have k13 : ∀ k j, k ≠ w10 → k ≠ w10 + 1 → σ13.1 k j = σ8.1 k j := fun k j h1 h2 => (f13.1 k j h2 (Or.inl h1)).trans (f3 k j (Or.inl h1))
    have k13l : ∀ k j, k ≠ w10 → σ13.2.1 k j = σ8.2.1 k j := fun k j h1 => by rw [f13.2]; exact f4 k j (Or.inl h1)
    have R13 : Rel G σ13 τ := Rel_x R8 (fun k j h => k13 k j (by omega) (by omega)) (k13l 1 8 (by omega)) (k13l 27 4 (by omega)) (by rw [f13.2, f5])
    have hq13 : ∀ i, i < 31 → q i < 31 ∧ σ13.2.2 26 i = some (29 + 2 * q i) := fun i hi => by rw [f13.2, f5]; exact hq8 i hi
    have OA13 : ∀ {w : Nat} {F : Ent}, 24 ≤ w → w ≠ w10 → w + 1 ≠ w10 → w ≠ w10 + 1 → OA G σ w F → OA G σ13 w F := fun h0 h1 h2 h3 h => OA_c (OA8 h0 h) (fun j => k13 _ j h1 h3) (fun j => k13 _ j h2 (by omega)) (k13l _ 4 h1)
    have hold13 : ∀ j F, Es[j]? = some F → OA G σ13 (29 + 2 * q j) F := fun j F hj => by
      have hjl := (List.getElem?_eq_some_iff.mp hj).1
      have := hsame j hjl
      exact OA13 (by omega) (by omega) (by omega) (by omega) (hEs j F hj)
    have hx13 : OA G σ13 w10 (p, i, barI E i) := by
      refine ⟨v2, ?_, fun e he => ?_⟩
      · rw [f13.1 w10 3 (by omega) (Or.inr ⟨by omega, by omega⟩)]; exact f6
      · rw [f13.2, f7]; exact b2 e he
    have hp9 := SW_len hW ha hleast.1.1
    obtain ⟨σ14, k, t1, t2, t3, t4, t5, t6, t7, t8⟩ := takeIn_e (x := (p, i, barI E i)) hW hq13 hn hn2 (by rw [k13 25 4 (by omega) (by omega), k8 25 4 (by omega)]; exact c4) (by rw [k13 25 5 (by omega) (by omega), k8 25 5 (by omega)]; exact c5) (fun j F hj => ⟨(hold13 j F hj).1, by have := hlen F (List.mem_of_getElem? hj); omega⟩) (by rw [hw10]; exact hx13.1) (by show p.length ≤ 10; omega) hs (fun F hF => hnew p hleast.1 F hF)
    rw [t1, Option.bind_some]
    have OA14 : ∀ {w : Nat} {F : Ent}, 27 ≤ w → OA G σ13 w F → OA G σ14 w F := fun h0 h => OA_c h (fun j => t5 _ j (by omega)) (fun j => t5 _ j (by omega)) (by rw [t7])
    have hpi : ∀ j, j < 31 → piK k Es.length j < 31 := fun j hj => by
      have := piK_c k Es.length j
      omega
    have hpj : ∀ i j, piK k Es.length i = piK k Es.length j → i = j := fun i j h => by
      have h1 := piK_c k Es.length i
      have h2 := piK_c k Es.length j
      omega
    refine ⟨σ14, rfl, Or.inr ⟨p, k, fun j => q (piK k Es.length j), hleast, t2, t3, t4, ⟨?_, ?_, ?_, ?_, ?_, fun j hj => ⟨(hq _ (hpi j hj)).1, t8 j hj⟩, fun x y hx hy h => hpj x y (hinj _ _ (hpi x hx) (hpi y hy) h), fun j F hj => ?_⟩, ?_, fun j hj => by show q (piK k Es.length j) = q j; unfold piK; rw [if_pos hj]⟩⟩
    · -- the relation
      obtain ⟨_, X13, Y13, I13, h13, r13⟩ := R13
      refine ⟨hW, ?_, Y13, ?_, by rw [h13, t5 0 0 (by omega)], r13⟩
      · obtain ⟨x1, x2, x3, x4, x5, x6⟩ := X13
        have h0 : ∀ k j, k < 8 → σ14.1 k j = σ13.1 k j := fun k j hk => t5 k j (by omega)
        refine ⟨by rw [h0 _ _ (by decide)]; exact x1, by rw [h0 _ _ (by decide)]; exact x2, fun e he => ?_, fun v hv => by rw [h0 _ _ (by decide)]; exact x4 v hv, fun e => by rw [t7]; exact x5 e, fun v => by rw [h0 _ _ (by decide)]; exact x6 v⟩
        rw [h0 _ _ (by decide), h0 _ _ (by decide), h0 _ _ (by decide), h0 _ _ (by decide), h0 _ _ (by decide)]
        exact x3 e he
      · obtain ⟨⟨d', z1, z2, z3, z4, z5⟩, z6, z7, _, z9, z10, z11, z12⟩ := I13
        exact ⟨⟨d', z1, z2, by rw [t5 0 0 (by omega)]; exact z3, by rw [t5 12 0 (by omega)]; exact z4, by rw [t5 20 0 (by omega)]; exact z5⟩, by rw [t5 8 1 (by omega)]; exact z6, by rw [t5 16 1 (by omega)]; exact z7, ⟨fun j => q (piK k Es.length j), fun j hj => ⟨(hq _ (hpi j hj)).1, t8 j hj⟩, fun x y hx hy h => hpj x y (hinj _ _ (hpi x hx) (hpi y hy) h)⟩, by rw [t5 27 1 (by omega)]; exact z9, by rw [t5 27 2 (by omega)]; exact z10, by rw [t5 27 3 (by omega)]; exact z11, by rw [t7]; exact z12⟩
    · rw [t6, List.length_take, insE_len]
    · rw [t5 25 5 (by omega), k13 25 5 (by omega) (by omega), k8 25 5 (by omega)]; exact c5
    · rw [t5 25 6 (by omega), k13 25 6 (by omega) (by omega), k8 25 6 (by omega)]; exact c6
    · rw [t5 25 7 (by omega), k13 25 7 (by omega) (by omega), k8 25 7 (by omega)]; exact c7
    · rw [List.getElem?_take] at hj
      split at hj
      · have hjl := (List.getElem?_eq_some_iff.mp hj).1
        rw [insE_len] at hjl
        rcases insE_src t2 hj with ⟨y1, y2⟩ | ⟨j0, y1, y2⟩
        · show OA G σ14 (29 + 2 * q (piK k Es.length j)) F
          unfold piK
          rw [if_neg (by omega), if_pos y1, hw10, y2]
          exact OA14 (by omega) hx13
        · show OA G σ14 (29 + 2 * q (piK k Es.length j)) F
          have : piK k Es.length j = j0 := by
            unfold piK
            rcases y2 with ⟨y2, y3⟩ | ⟨y2, y3⟩
            · rw [if_pos y3, y2]
            · rw [if_neg (by omega), if_neg (by omega), if_pos (by omega), y2]; omega
          rw [this]
          exact OA14 (by omega) (hold13 j0 F y1)
      · cases hj
    · exact OA14 (by rcases hw1 with z | ⟨d, _, z⟩ <;> omega) (OA13 hw24 hne10.1 hne10.2.1 hne10.2.2 hO)
  · have hK := Bool.eq_false_iff.mpr hK
    rw [hK, if_pos bF]
    refine ⟨σ8, rfl, Or.inl ⟨⟨R8, by rw [k8 25 4 (by omega)]; exact c4, by rw [k8 25 5 (by omega)]; exact c5, by rw [k8 25 6 (by omega)]; exact c6, by rw [k8 25 7 (by omega)]; exact c7, hq8, hinj, fun j F hj => OA8 (by omega) (hEs j F hj)⟩, OA8 hw24 hO, g2 hK⟩⟩
