theorem chd {d a k : Nat} (hd1 : 1 ≤ d) (hd3 : d ≤ 3) (hk : 0 < k) : (k - 1) / d = a ↔ a * d + 1 ≤ k ∧ k < (a + 1) * d + 1 := by
  rcases (show d = 1 ∨ d = 2 ∨ d = 3 by omega) with rfl | rfl | rfl <;> omega
theorem child_e {b d sz a : Nat} {σ : mS} {r g : Nat → Nat} (hd1 : 1 ≤ d) (hd3 : d ≤ 3) (hd : σ.1 b 0 = nI d) (hM : hM_ b σ sz g a) (ha : a < sz) (hr : rkM b σ sz r g) :
    ∃ x, f_Wa_firstChild b σ (nI a) = some x ∧ ((x = -1 ∧ ∀ k, 0 < k → k < sz → (k - 1) / d ≠ a) ∨ ∃ c, x = nI c ∧ 0 < c ∧ c < sz ∧ (c - 1) / d = a ∧ ∀ k, 0 < k → k < sz → (k - 1) / d = a → k ≠ c → r (g c) < r (g k)) := by
  obtain ⟨m1, m2, m3, m4, m5⟩ := id hM
  unfold f_Wa_firstChild
  have had : a * d ≤ 30 := by
    have : a * d ≤ 10 * 3 := Nat.mul_le_mul (by omega) hd3
    omega
  have had2 : (a + 1) * d ≤ 33 := by
    have : (a + 1) * d ≤ 11 * 3 := Nat.mul_le_mul (by omega) hd3
    omega
  have hadd : (a + 1) * d = a * d + d := Nat.succ_mul a d
  simp only [nm, hd]
  have e1 : (nI a + 1) * nI d + 1 = nI ((a + 1) * d + 1) := by rw [nI_1, pk_mul, nI_1]
  have e2 : nI a * nI d + 1 = nI (a * d + 1) := by rw [pk_mul, nI_1]
  rw [e1, e2]
  obtain ⟨u, h1, h2⟩ := lpN_m (st := f_Wa_firstChild_L23 σ b (nI ((a + 1) * d + 1))) (fun t => ∃ k, t.2 = nI k ∧ a * d + 1 ≤ k ∧ k ≤ (a + 1) * d + 1 ∧ (k = a * d + 1 ∨ k ≤ sz) ∧ ((t.1 = -1 ∧ k = a * d + 1) ∨ ∃ c, t.1 = nI c ∧ a * d + 1 ≤ c ∧ c < k ∧ c < sz ∧ ∀ j, a * d + 1 ≤ j → j < k → j ≠ c → r (g c) < r (g j))) (fun u => (u.1 = -1 ∧ ∀ k, 0 < k → k < sz → (k - 1) / d ≠ a) ∨ ∃ c, u.1 = nI c ∧ 0 < c ∧ c < sz ∧ (c - 1) / d = a ∧ ∀ k, 0 < k → k < sz → (k - 1) / d = a → k ≠ c → r (g c) < r (g k)) (fun t => 100 - t.2.toNatClampNeg) (fun t ht => by
    obtain ⟨t1, t2⟩ := t
    obtain ⟨k, q1, q2, q3, q4, q5⟩ := ht
    dsimp only at q1 q5 ⊢
    subst q1
    unfold f_Wa_firstChild_L23
    dsimp only
    -- what an end here says
    have fin : ((a + 1) * d + 1 ≤ k ∨ sz ≤ k) → ((t1 = -1 ∧ ∀ k, 0 < k → k < sz → (k - 1) / d ≠ a) ∨ ∃ c, t1 = nI c ∧ 0 < c ∧ c < sz ∧ (c - 1) / d = a ∧ ∀ k, 0 < k → k < sz → (k - 1) / d = a → k ≠ c → r (g c) < r (g k)) := by
      intro he
      rcases q5 with ⟨p1, p2⟩ | ⟨c, p1, p2, p3, p4, p5⟩
      · left
        refine ⟨p1, fun j hj hjs hja => ?_⟩
        have := (chd hd1 hd3 hj).mp hja
        omega
      · right
        refine ⟨c, p1, by omega, p4, (chd hd1 hd3 (by omega)).mpr ⟨p2, by omega⟩, fun j hj hjs hja hne => p5 j ?_ ?_ hne⟩
        · exact ((chd hd1 hd3 hj).mp hja).1
        · have := (chd hd1 hd3 hj).mp hja
          omega
    by_cases c1 : (a + 1) * d + 1 ≤ k
    · left
      rw [if_pos (nI_le c1 (by omega))]
      exact ⟨_, rfl, fin (Or.inl c1)⟩
    · rw [if_neg (nI_ge (by omega) (by omega)), m1]
      by_cases c2 : sz ≤ k
      · left
        rw [if_pos (nI_le c2 (by omega))]
        exact ⟨_, rfl, fin (Or.inr c2)⟩
      · right
        rw [if_neg (nI_ge (by omega) (by omega))]
        rcases q5 with ⟨p1, p2⟩ | ⟨c, p1, p2, p3, p4, p5⟩
        · rw [p1, if_pos rfl]
          refine ⟨_, rfl, ⟨k + 1, nI_1 k, by omega, by omega, Or.inr (by omega), Or.inr ⟨k, rfl, q2, by omega, by omega, fun j h1 h2 h3 => by omega⟩⟩, ?_⟩
          dsimp only
          rw [nI_1]; simp only [nI_clamp (show k + 1 < 2 ^ 31 by omega), nI_clamp (show k < 2 ^ 31 by omega)]; omega
        · have hne : ¬ t1 = -1 := by
            rw [p1]; intro q
            have := congrArg Int32.toInt q
            rw [nI_toInt (by omega)] at this
            exact absurd this (by simp)
          have hka : k ≠ a := by
            have : a * 1 ≤ a * d := Nat.mul_le_mul_left a hd1
            omega
          have hca : c ≠ a := by
            have : a * 1 ≤ a * d := Nat.mul_le_mul_left a hd1
            omega
          have gk := m3 k (by omega)
          have gc := m3 c p4
          rw [if_neg hne, p1]
          simp only [inb_n (show k < 10 by omega) (by decide), inb_n (show c < 10 by omega) (by decide), gd_t rfl, nI_clamp (show k < 2 ^ 31 by omega), nI_clamp (show c < 2 ^ 31 by omega), (m5 k (by omega) hka).1, (m5 c p4 hca).1, inb_n gk (by decide), inb_n gc (by decide), nI_clamp (show g k < 2 ^ 31 by omega), nI_clamp (show g c < 2 ^ 31 by omega), (hr.1 k (by omega)).1, (hr.1 c p4).1]
          have rk := (hr.1 k (by omega)).2
          have rc := (hr.1 c p4).2
          have hcmp := cmpN (x := r (g k)) (y := r (g c)) (by omega) (by omega)
          have hdist : r (g k) ≠ r (g c) := by
            intro q
            have x1 := hr.2 k (by omega)
            have x2 := hr.2 c p4
            rw [q, x2] at x1
            have := m4 c k p4 (by omega) x1
            omega
          by_cases hlt : r (g k) < r (g c)
          · rw [if_neg (fun q => (hcmp.mp q) hlt)]
            refine ⟨_, rfl, ⟨k + 1, nI_1 k, by omega, by omega, Or.inr (by omega), Or.inr ⟨k, rfl, q2, by omega, by omega, fun j h1 h2 h3 => ?_⟩⟩, ?_⟩
            · by_cases hjc : j = c
              · rw [hjc]; exact hlt
              · exact Nat.lt_trans hlt (p5 j h1 (by omega) hjc)
            · dsimp only
              rw [nI_1]; simp only [nI_clamp (show k + 1 < 2 ^ 31 by omega), nI_clamp (show k < 2 ^ 31 by omega)]; omega
          · rw [if_pos (hcmp.mpr hlt)]
            refine ⟨_, rfl, ⟨k + 1, nI_1 k, by omega, by omega, Or.inr (by omega), Or.inr ⟨c, rfl, p2, by omega, p4, fun j h1 h2 h3 => ?_⟩⟩, ?_⟩
            · by_cases hjk : j = k
              · rw [hjk]; omega
              · exact p5 j h1 (by omega) h3
            · dsimp only
              rw [nI_1]; simp only [nI_clamp (show k + 1 < 2 ^ 31 by omega), nI_clamp (show k < 2 ^ 31 by omega)]; omega) fuS (-1, nI (a * d + 1)) ⟨a * d + 1, rfl, Nat.le_refl _, by omega, Or.inl rfl, Or.inl ⟨rfl, rfl⟩⟩ (by dsimp only; rw [fuS_e]; omega)
  rw [h1, Option.bind_some]
  exact ⟨_, rfl, h2⟩
theorem take_loop {b d sz n : Nat} {σ : mS} {r g : Nat → Nat} {a : Nat} (hd1 : 1 ≤ d) (hd3 : d ≤ 3) (hd : σ.1 b 0 = nI d) (hM : hM_ b σ sz g a) (ha : a < sz) (hu : dnI d sz a r g) (hn : g a = n) (hr : rkM b σ sz r g) :
    ∃ u, lpN (f_Wa_takeFirst_L41 b (nI n)) fuS (nI a, 0, σ) = some u ∧ ∃ a' g', u.1 = nI a' ∧ a' < sz ∧ hM_ b u.2.2 sz g' a' ∧ g' a' = n ∧ ordH d sz r g' ∧ rkM b u.2.2 sz r g' ∧ frW b σ u.2.2 ∧ u.2.2.2 = σ.2 ∧ (∀ m, (∃ i, i < sz ∧ g' i = m) ↔ ∃ i, i < sz ∧ g i = m) ∧ ∀ m, (∀ i, i < sz → g i ≠ m) → u.2.2.1 (b + 2) m = σ.1 (b + 2) m := by
  have hsz := hM.2.1
  refine lpN_m (st := f_Wa_takeFirst_L41 b (nI n)) (fun t => ∃ a' tn g', t.1 = nI a' ∧ t.2.1 = nI tn ∧ tn ≤ a' ∧ a' < sz ∧ hM_ b t.2.2 sz g' a' ∧ dnI d sz a' r g' ∧ g' a' = n ∧ rkM b t.2.2 sz r g' ∧ frW b σ t.2.2 ∧ t.2.2.2 = σ.2 ∧ (∀ m, (∃ i, i < sz ∧ g' i = m) ↔ ∃ i, i < sz ∧ g i = m) ∧ ∀ m, (∀ i, i < sz → g i ≠ m) → t.2.2.1 (b + 2) m = σ.1 (b + 2) m) _ (fun t => 100 - t.1.toNatClampNeg) (fun t ht => ?_) fuS (nI a, 0, σ) ⟨a, 0, g, rfl, rfl, by omega, ha, hM, hu, hn, hr, frW_r b σ, rfl, fun _ => Iff.rfl, fun _ _ => rfl⟩ (by dsimp only; rw [fuS_e]; omega)
  obtain ⟨t1, t2, t3⟩ := t
  obtain ⟨a', tn, g', e1, e2, hat, ha', hM', hu', hn', hr', hf, h2, hset, hpl⟩ := ht
  dsimp only at e1 e2 hM' hr' hf h2 hpl ⊢
  subst e1
  subst e2
  unfold f_Wa_takeFirst_L41
  dsimp only
  have hd' : t3.1 b 0 = nI d := by rw [hf.1 b 0 (by omega) (by omega) (Or.inr (by omega))]; exact hd
  rw [hM'.1, if_neg (nI_ge (by omega) (by omega))]
  obtain ⟨x, hx1, hx2⟩ := child_e hd1 hd3 hd' hM' ha' hr'
  rw [hx1, Option.bind_some]
  rcases hx2 with ⟨rfl, hno⟩ | ⟨c, rfl, hc0, hcs, hca, hmin⟩
  · left
    rw [if_pos rfl]
    exact ⟨_, rfl, a', g', rfl, ha', hM', hn', dn_end hu' (fun k hk hks hka => absurd hka (hno k hk hks)), hr', hf, h2, hset, hpl⟩
  · have hne : ¬ nI c = -1 := by
      intro q
      have := congrArg Int32.toInt q
      rw [nI_toInt (by omega)] at this
      exact absurd this (by simp)
    have hac : a' < c := by have := par_lt (d := d) hc0; omega
    have gc := hM'.2.2.1 c hcs
    have gn : n < 10 := by rw [← hn']; exact hM'.2.2.1 _ ha'
    have rc := hr'.1 c hcs
    have rn := hr'.1 a' ha'
    rw [hn'] at rn
    rw [if_neg hne]
    simp only [inb_n (show c < 10 by omega) (by decide), gd_t rfl, nI_clamp (show c < 2 ^ 31 by omega), (hM'.2.2.2.2 c hcs (by omega)).1, inb_n gc (by decide), inb_n gn (by decide), nI_clamp (show g' c < 2 ^ 31 by omega), nI_clamp (show n < 2 ^ 31 by omega), rc.1, rn.1]
    have hdist : r (g' c) ≠ r n := by
      intro q
      have x1 := hr'.2 c hcs
      have x2 := hr'.2 a' ha'
      rw [hn'] at x2
      rw [q, x2, ← hn'] at x1
      have := hM'.2.2.2.1 a' c ha' hcs x1
      omega
    have hcmp : (lg_cmp (lN (r (g' c))) (lN (r n)) ≤ 0) ↔ r (g' c) < r n := by
      unfold lg_cmp
      have l1 := pk_lLT (a := r n) (b := r (g' c)) (by omega) (by omega)
      have l2 := pk_lEQ (a := r (g' c)) (b := r n) (by omega) (by omega)
      by_cases q : lN (r (g' c)) > lN (r n)
      · rw [if_pos q]
        have := l1.mp q
        constructor
        · intro z; exact absurd z (by decide)
        · intro z; omega
      · rw [if_neg q, if_neg (fun z => hdist (l2.mp z))]
        have : ¬ r n < r (g' c) := fun z => q (l1.mpr z)
        constructor
        · intro _; omega
        · intro _; decide
    by_cases hlt : r (g' c) < r n
    · right
      rw [if_pos (hcmp.mpr hlt), seat_e gc (by omega), Option.bind_some]
      have hsw : ∀ i, swG g' a' c i = swG g' c a' i := by
        intro i
        unfold swG
        by_cases i1 : i = a' <;> by_cases i2 : i = c
        · omega
        · rw [if_pos i1, if_neg i2, if_pos i1]
        · rw [if_neg i1, if_pos i2, if_pos i2]
        · rw [if_neg i1, if_neg i2, if_neg i2, if_neg i1]
      have hsw2 : swG g' a' c = swG g' c a' := funext hsw
      refine ⟨_, rfl, ⟨c, tn + 1, swG g' a' c, rfl, by dsimp only; exact nI_1 tn, by omega, hcs, hM_mv hM' ha' hcs (by omega), ?_, ?_, rkM_sw hr' ha' hcs rfl, frW_t hf seat_fr, h2, fun m => (swG_in ha' hcs).trans (hset m), fun m hm => ?_⟩, ?_⟩
      · rw [hsw2]
        exact dn_go hu' hc0 hcs hca hmin (by rw [hn']; exact hlt)
      · unfold swG
        rw [if_neg (by omega), if_pos rfl]; exact hn'
      · dsimp only
        have hm2 : g' c ≠ m := by
          intro q
          obtain ⟨i, hi, e⟩ := (hset m).mp ⟨c, hcs, q⟩
          exact hm i hi e
        rw [sI_1, if_pos rfl, if_neg (fun q => hm2 q.symm), sI_1, if_neg (by omega)]
        exact hpl m hm
      · dsimp only
        rw [nI_clamp (by omega), nI_clamp (by omega)]
        omega
    · left
      rw [if_neg (fun q => hlt (hcmp.mp q))]
      refine ⟨_, rfl, a', g', rfl, ha', hM', hn', dn_end hu' (fun k hk hks hka => ?_), hr', hf, h2, hset, hpl⟩
      rw [hn']
      by_cases hkc : k = c
      · rw [hkc]; omega
      · have := hmin k hk hks hka hkc; omega
theorem take_e {b d : Nat} {σ : mS} {S : Nat → Bool} {r : Nat → Nat} (h : HP b σ d S r) : ((∀ n, S n = false) ∧ f_Wa_takeFirst b σ = some (-1, σ)) ∨ ∃ n σ', f_Wa_takeFirst b σ = some (nI n, σ') ∧ S n = true ∧ (∀ m, S m = true → m ≠ n → r n < r m) ∧ HP b σ' d (va_up S n false) r ∧ frW b σ σ' := by
  obtain ⟨hd1, hd3, hd, hneg, sz, g, hM, hr, ho, hS⟩ := h
  obtain ⟨m1, m2, m3, m4, m5⟩ := id hM
  unfold f_Wa_takeFirst
  rw [m1]
  by_cases c : sz = 0
  · subst c
    left
    refine ⟨fun n => ?_, by rw [if_pos nI_0]⟩
    cases q : S n with
    | false => rfl
    | true => obtain ⟨i, hi, _⟩ := (hS n).mp q; omega
  · right
    obtain ⟨k, rfl⟩ : ∃ k, sz = k + 1 := ⟨sz - 1, by omega⟩
    rw [if_neg (nI_ne0 (by omega) (by omega)), gd_t (by decide)]
    simp only [nm, show (0 : Int32).toNatClampNeg = 0 from rfl, (m5 0 (by omega) (by omega)).1, nI_pred]
    have e1 : (sI σ b 4 (nI k)).1 b 4 = nI k := by rw [sI_1, if_pos rfl, if_pos rfl]
    have e2 : (sI σ b 4 (nI k)).1 (b + 1) k = nI (g k) := by rw [sI_1, if_neg (by omega)]; exact (m5 k (by omega) (by omega)).1
    rw [e1, gd_t (inb_n (by omega) (by decide)), nI_clamp (by omega), e2]
    have hg0 := m3 0 (by omega)
    have hgk := m3 k (by omega)
    have hf0 : frW b σ (sI σ b 4 (nI k)) := ⟨fun k j q1 q2 q3 => by
      rw [sI_1]
      by_cases q : k = b
      · rw [if_pos q, if_neg (by omega)]
      · rw [if_neg q], fun _ _ _ => rfl, rfl⟩
    have hSn : S (g 0) = true := (hS _).mpr ⟨0, by omega, rfl⟩
    have hmin : ∀ m, S m = true → m ≠ g 0 → r (g 0) < r m := by
      intro m hm hne
      obtain ⟨i, hi, rfl⟩ := (hS m).mp hm
      rcases ord_min ho i hi with q | q
      · subst q; exact absurd rfl hne
      · exact q
    -- what is wanted behind the last seat
    have fin : ∀ (σ6 : mS) (g' : Nat → Nat), frW b σ σ6 → hM_ b σ6 k g' k → rkM b σ6 k r g' → ordH d k r g' → (∀ m, (∃ i, i < k ∧ g' i = m) ↔ ∃ i, 0 < i ∧ i < k + 1 ∧ g i = m) → (∀ m, m < 10 → S m = false → σ6.1 (b + 2) m = -1) → HP b (sI σ6 (b + 2) (g 0) (-1)) d (va_up S (g 0) false) r ∧ frW b σ (sI σ6 (b + 2) (g 0) (-1)) := by
      intro σ6 g' hf hM6 hr6 ho6 hset hn6
      have hg'0 : ∀ i, i < k → g' i ≠ g 0 := by
        intro i hi q
        obtain ⟨j, hj0, hj, e⟩ := (hset (g 0)).mp ⟨i, hi, q⟩
        have := m4 j 0 hj (by omega) e
        omega
      refine ⟨⟨hd1, hd3, ?_, fun m hm hSm => ?_, k, g', ⟨?_, by omega, hM6.2.2.1, hM6.2.2.2.1, fun i hi hx => ?_⟩, hr6, ho6, fun m => ?_⟩, ⟨fun a j q1 q2 q3 => ?_, hf.2.1, hf.2.2⟩⟩
      · rw [sI_1, if_neg (by omega), hf.1 b 0 (by omega) (by omega) (Or.inr (by omega))]; exact hd
      · rw [sI_1, if_pos rfl]
        by_cases q : m = g 0
        · rw [if_pos q]
        · rw [if_neg q]
          rw [va_up_ne _ _ q] at hSm
          exact hn6 m hm hSm
      · rw [sI_1, if_neg (by omega)]; exact hM6.1
      · obtain ⟨p1, p2⟩ := hM6.2.2.2.2 i hi hx
        constructor
        · rw [sI_1, if_neg (by omega)]; exact p1
        · rw [sI_1, if_pos rfl, if_neg (hg'0 i hi)]; exact p2
      · rw [hset m]
        by_cases q : m = g 0
        · rw [q, va_up_self]
          constructor
          · intro z; cases z
          · rintro ⟨j, hj0, hj, e⟩
            have := m4 j 0 hj (by omega) e
            omega
        · rw [va_up_ne _ _ q, hS m]
          constructor
          · rintro ⟨i, hi, e⟩
            refine ⟨i, ?_, hi, e⟩
            rcases Nat.eq_zero_or_pos i with z | z
            · subst z; exact absurd e.symm q
            · exact z
          · rintro ⟨i, _, hi, e⟩; exact ⟨i, hi, e⟩
      · rw [sI_1, if_neg q2]; exact hf.1 a j q1 q2 q3
    by_cases k0 : k = 0
    · subst k0
      -- the only one goes
      have hl : lpN (f_Wa_takeFirst_L41 b (nI (g 0))) fuS (0, 0, sI σ b 4 (nI 0)) = some (0, 0, sI σ b 4 (nI 0)) := by
        rw [fuS_e]
        show lpN (f_Wa_takeFirst_L41 b (nI (g 0))) (999 + 1) (0, 0, sI σ b 4 (nI 0)) = _
        rw [lpN]
        unfold f_Wa_takeFirst_L41
        dsimp only
        rw [e1, if_pos (by decide)]
      rw [hl, Option.bind_some]
      dsimp only
      rw [show (0 : Int32) = nI 0 from rfl, seat_e hg0 (by decide), Option.bind_some, gd_t (inb_n hg0 (by decide)), nI_clamp (by omega)]
      have h6 : ∀ m, m < 10 → S m = false → (sI (sI (sI σ b 4 (nI 0)) (b + 1) 0 (nI (g 0))) (b + 2) (g 0) (nI 0)).1 (b + 2) m = -1 := by
        intro m hm hSm
        have hne : m ≠ g 0 := fun q => by rw [q, hSn] at hSm; cases hSm
        rw [sI_1, if_pos rfl, if_neg hne, sI_1, if_neg (by omega), sI_1, if_neg (by omega)]
        exact hneg m hm hSm
      obtain ⟨f1, f2⟩ := fin (sI (sI (sI σ b 4 (nI 0)) (b + 1) 0 (nI (g 0))) (b + 2) (g 0) (nI 0)) (fun _ => 0) (frW_t hf0 seat_fr) ⟨by rw [sI_1, if_neg (by omega), sI_1, if_neg (by omega)]; exact e1, by omega, fun i hi => absurd hi (Nat.not_lt_zero _), fun i j hi => absurd hi (Nat.not_lt_zero _), fun i hi => absurd hi (Nat.not_lt_zero _)⟩ ⟨fun i hi => absurd hi (Nat.not_lt_zero _), fun i hi => absurd hi (Nat.not_lt_zero _)⟩ (fun i _ hi => absurd hi (Nat.not_lt_zero _)) (fun m => ⟨fun ⟨i, hi, _⟩ => absurd hi (Nat.not_lt_zero _), fun ⟨i, h0, hi, _⟩ => by omega⟩) h6
      exact ⟨g 0, _, rfl, hSn, hmin, f1, f2⟩
    · have hgi : ∀ i j, i < k → j < k → va_up g 0 (g k) i = va_up g 0 (g k) j → i = j := by
        intro i j hi hj e
        by_cases q1 : i = 0 <;> by_cases q2 : j = 0
        · omega
        · rw [q1, va_up_self, va_up_ne _ _ q2] at e
          have := m4 k j (by omega) (by omega) e; omega
        · rw [q2, va_up_self, va_up_ne _ _ q1] at e
          have := m4 i k (by omega) (by omega) e; omega
        · rw [va_up_ne _ _ q1, va_up_ne _ _ q2] at e
          exact m4 i j (by omega) (by omega) e
      have hM2 : hM_ b (sI σ b 4 (nI k)) k (va_up g 0 (g k)) 0 := by
        refine ⟨e1, by omega, fun i hi => ?_, hgi, fun i hi hne => ?_⟩
        · by_cases q : i = 0
          · rw [q, va_up_self]; exact hgk
          · rw [va_up_ne _ _ q]; exact m3 i (by omega)
        · rw [va_up_ne _ _ hne]
          obtain ⟨p1, p2⟩ := m5 i (by omega) (by omega)
          constructor
          · rw [sI_1, if_neg (by omega)]; exact p1
          · rw [sI_1, if_neg (by omega)]; exact p2
      have hr2 : rkM b (sI σ b 4 (nI k)) k r (va_up g 0 (g k)) := by
        refine ⟨fun i hi => ?_, fun i hi => ?_⟩
        · by_cases q : i = 0
          · rw [q, va_up_self]; exact hr.1 k (by omega)
          · rw [va_up_ne _ _ q]; exact hr.1 i (by omega)
        · by_cases q : i = 0
          · rw [q, va_up_self]; exact hr.2 k (by omega)
          · rw [va_up_ne _ _ q]; exact hr.2 i (by omega)
      have hdn : dnI d k 0 r (va_up g 0 (g k)) := by
        refine ⟨fun i hi his hne => ?_, fun h0 => absurd h0 (Nat.lt_irrefl _)⟩
        rw [va_up_ne _ _ (show i ≠ 0 by omega), va_up_ne _ _ hne]
        exact ho i hi (by omega)
      have hd2 : (sI σ b 4 (nI k)).1 b 0 = nI d := by rw [hf0.1 b 0 (by omega) (by omega) (Or.inr (by omega))]; exact hd
      obtain ⟨u, h1, a', g', p1, p2, p3, p4, p5, p6, p7, p8, p9, p10⟩ := take_loop (n := g k) hd1 hd3 hd2 hM2 (by omega) hdn (va_up_self _ _ _) hr2
      rw [show ((0 : Int32), (0 : Int32), sI σ b 4 (nI k)) = (nI 0, 0, sI σ b 4 (nI k)) from rfl, h1, Option.bind_some, p1, seat_e hgk (by have := p3.2.1; omega), Option.bind_some, gd_t (inb_n hg0 (by decide)), nI_clamp (by omega)]
      have hst := hM_st p3 p2 k
      rw [p4] at hst
      have hin : ∀ m, (∃ i, i < k ∧ va_up g 0 (g k) i = m) ↔ ∃ i, 0 < i ∧ i < k + 1 ∧ g i = m := by
        intro m
        constructor
        · rintro ⟨i, hi, e⟩
          by_cases q : i = 0
          · rw [q, va_up_self] at e; exact ⟨k, by omega, by omega, e⟩
          · rw [va_up_ne _ _ q] at e; exact ⟨i, by omega, by omega, e⟩
        · rintro ⟨i, h0, hi, e⟩
          by_cases q : i = k
          · exact ⟨0, by omega, by rw [va_up_self, ← q]; exact e⟩
          · exact ⟨i, by omega, by rw [va_up_ne _ _ (by omega)]; exact e⟩
      have h6 : ∀ m, m < 10 → S m = false → (sI (sI u.2.2 (b + 1) a' (nI (g k))) (b + 2) (g k) (nI a')).1 (b + 2) m = -1 := by
        intro m hm hSm
        have hnin : ∀ i, i < k + 1 → g i ≠ m := fun i hi q => by
          have := (hS m).mpr ⟨i, hi, q⟩
          rw [hSm] at this; cases this
        have hq : ∀ i, i < k → va_up g 0 (g k) i ≠ m := fun i hi q => by
          obtain ⟨j, _, hj, e⟩ := (hin m).mp ⟨i, hi, q⟩
          exact hnin j hj e
        rw [sI_1, if_pos rfl, if_neg (fun q => hnin k (by omega) q.symm), sI_1, if_neg (by omega), p10 m hq, sI_1, if_neg (by omega)]
        exact hneg m hm hSm
      obtain ⟨f1, f2⟩ := fin (sI (sI u.2.2 (b + 1) a' (nI (g k))) (b + 2) (g k) (nI a')) g' (frW_t (frW_t hf0 p7) seat_fr) hst p6 p5 (fun m => (p9 m).trans (hin m)) h6
      exact ⟨g 0, _, rfl, hSn, hmin, f1, f2⟩
