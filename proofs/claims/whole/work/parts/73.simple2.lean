theorem wysF_c {G G' : GT} {b : Nat} (h1 : gm G' = gm G) (h2 : gf G' = gf G) (h3 : gt G' = gt G) (h4 : gl G' = gl G) : ∀ f vs u, wysF G' b f vs u = wysF G b f vs u := by
  intro f
  induction f with
  | zero => intro vs u; rfl
  | succ f ih => intro vs u; simp only [wysF, h1, h2, h3, h4, ih]
theorem wyL_c {G G' : GT} (h5 : gw G' = gw G) : wyL G' = wyL G := by
  funext p
  simp only [wyL, h5]
theorem wyB_c {G G' : GT} (h5 : gw G' = gw G) : wyB G' = wyB G := by
  unfold wyB
  rw [wyL_c h5]
theorem insW_c {G G' : GT} (h5 : gw G' = gw G) : insW G' = insW G := by
  funext p l
  induction l with
  | nil => rfl
  | cons q l ih => simp only [insW, wyB_c h5, ih]
theorem rowW_c {G G' : GT} (a b : Nat) (h1 : gm G' = gm G) (h2 : gf G' = gf G) (h3 : gt G' = gt G) (h4 : gl G' = gl G) (h5 : gw G' = gw G) : rowW G' a b = rowW G a b := by
  unfold rowW wys
  rw [wysF_c h1 h2 h3 h4, insW_c h5]
theorem RowIs_c {R : List (List Nat)} {L : List Nat → Nat} {τ τ' : mS} (h : RowIs R L τ) (h0 : τ'.1 0 23 = τ.1 0 23) (h1 : ∀ k j, k = 17 ∨ k = 18 ∨ k = 19 → τ'.1 k j = τ.1 k j) : RowIs R L τ' := by
  obtain ⟨s1, s2, s3⟩ := h
  refine ⟨by rw [h0]; exact s1, s2, fun r p hp => ?_⟩
  obtain ⟨a1, a2, a3, a4, a5⟩ := s3 r p hp
  refine ⟨a1, a2, by rw [h1 17 _ (by omega)]; exact a3, by rw [h1 18 _ (by omega)]; exact a4, fun i e he => ?_⟩
  rw [h1 19 _ (by omega)]
  exact a5 i e he
theorem rowOK_c {G G' : GT} {τ τ' : mS} (h : rowOK G τ) (hN : gN G' = gN G) (h1 : gm G' = gm G) (h2 : gf G' = gf G) (h3 : gt G' = gt G) (h4 : gl G' = gl G) (h5 : gw G' = gw G) (k0 : ∀ j, j = 21 ∨ j = 22 ∨ j = 23 → τ'.1 0 j = τ.1 0 j) (k1 : ∀ k j, k = 17 ∨ k = 18 ∨ k = 19 → τ'.1 k j = τ.1 k j) : rowOK G' τ' := by
  rcases h with h | ⟨a, b, r1, r2, r3, r4, r5⟩
  · exact Or.inl (by rw [k0 21 (by omega)]; exact h)
  · refine Or.inr ⟨a, b, by rw [hN]; exact r1, by rw [hN]; exact r2, by rw [k0 21 (by omega)]; exact r3, by rw [k0 22 (by omega)]; exact r4, ?_⟩
    rw [rowW_c a b h1 h2 h3 h4 h5, wyL_c h5]
    exact RowIs_c r5 (k0 23 (by omega)) k1
theorem n10 : ¬ (1 : Int32) = 0 := by decide
section Simple2
variable {G : GT} {σ τ : mS}
theorem x_areNodes (hW : WG G) (h : RX G σ) (x y : Int32) : f_LP_areNodes σ x y = some (bI (inb x (gN G) && inb y (gN G))) := by
  unfold f_LP_areNodes
  rw [x_hasNode hW h, x_hasNode hW h]
  cases inb x (gN G) <;> cases inb y (gN G) <;> rfl
theorem x_isPair (hW : WG G) (h : RX G σ) (x y : Int32) : f_LP_isPair σ x y = some (bI (inb x (gN G) && inb y (gN G) && !decide (x = y))) := by
  unfold f_LP_isPair
  rw [x_areNodes hW h]
  by_cases e : x = y
  · cases inb x (gN G) <;> cases inb y (gN G) <;> simp [bI, e]
  · cases inb x (gN G) <;> cases inb y (gN G) <;> simp [bI, e]
theorem wgt {x : Int32} (h0 : ¬ x < 0) (h1 : x ≤ 1000000) : ∃ k, k ≤ 1000000 ∧ x = nI k := nI_of2 (M := 1000000) (n := 1000000) (by decide) h0 h1
theorem p_arc (R : Rel G σ τ) (x y z : Int32) : Ok2 (f_LP_arc σ x y z) (f_Mo_arc τ x y z) := by
  obtain ⟨hW, hX, hY, hI, hh, hr⟩ := id R
  unfold f_LP_arc f_Mo_arc
  rw [x_isPair hW hX, y_isNode hW hY, y_isNode hW hY]
  cases ex : inb x (gN G) with
  | false => exact ⟨-1, σ, τ, G, rfl, rfl, R⟩
  | true =>
  cases ey : inb y (gN G) with
  | false => exact ⟨-1, σ, τ, G, rfl, rfl, R⟩
  | true =>
  by_cases exy : x = y
  · refine ⟨-1, σ, τ, G, ?_, ?_, R⟩ <;> simp [exy, bI]
  · simp only [exy, decide_false, Bool.not_false, Bool.and_true, bI, if_true, Option.bind_some, if_false]
    simp only [n10, if_false]
    by_cases z0 : z < 0
    · rw [if_pos z0, if_pos z0]
      exact ⟨-2, σ, τ, G, rfl, rfl, R⟩
    · rw [if_neg z0, if_neg z0]
      by_cases z1 : z ≤ 1000000
      · rw [if_pos z1, if_pos z1]
        have hm := hW.2.1
        have hN := hW.1
        have e40 : (40 : Int32) = nI 40 := rfl
        by_cases c : gm G < 40
        · obtain ⟨x1, x2, x3, x4, x5, x6⟩ := hX
          obtain ⟨y1, y2, y3, y4⟩ := hY
          obtain ⟨u, hu, rfl⟩ := inb_e ex (by omega)
          obtain ⟨v0, hv0, rfl⟩ := inb_e ey (by omega)
          obtain ⟨k, hk, rfl⟩ := wgt z0 z1
          have huv : u ≠ v0 := fun q => exy (by rw [q])
          have hin : inb (nI (gm G)) 40 = true := inb_n c (by decide)
          have hcl : (nI (gm G)).toNatClampNeg = gm G := nI_clamp (by omega)
          rw [x2, if_pos (by rw [e40]; exact (nI_ltI (by omega) (by omega)).mpr c), y2, if_neg (by rw [e40]; exact fun q => absurd ((nI_eq (by omega) (by omega)).mp q) (by omega))]
          refine ⟨nI (gm G), sI (sJ (sI (sI (sI (sI (sI σ 2 (gm G) (nI u)) 3 (gm G) (nI v0)) 4 (gm G) (nI k)) 5 (gm G) 1) 6 (gm G) 1) 1 8 (σ.2.1 1 8 ||| (1 <<< ((nI (gm G)).toInt64 &&& 63)))) 1 7 (nI (gm G) + 1), sI (sI (sI (sI (sI (sI (sI (sI τ 1 (gm G) (nI u)) 2 (gm G) (nI v0)) 3 (gm G) (nI k)) 4 (gm G) 1) 5 (gm G) 1) 6 (gm G) 1) 0 2 (nI (gm G) + 1)) 0 21 (-1), (gN G, gm G + 1, va_up (gf G) (gm G) u, va_up (gt G) (gm G) v0, va_up (gw G) (gm G) k, va_up (ga G) (gm G) 1, va_up (gb G) (gm G) 1, va_up (gl G) (gm G) true, gs G, gr G), ?_, ?_, ?_⟩
          · unfold f_Gr_addArc
            simp only [nm, x2, hin, hcl, gd_t rfl]
            simp [sI_1, sJ_1, sI_2, x2]
          · unfold f_Mo_change
            simp only [nm, y2, hin, hcl, gd_t rfl, sI_1]
            simp [sI_1, y2, hin, hcl, gd_t rfl, isB, nI_1, nI_pred]
          · refine ⟨⟨hW.1, by show gm G + 1 ≤ 40; omega, fun e he => ?_, hW.2.2.2⟩, ⟨?_, ?_, fun e he => ?_, fun v hv => ?_, fun e => ?_, fun v => ?_⟩, ⟨?_, ?_, fun e he => ?_, fun v hv => ?_⟩, ?_, ?_, Or.inl ?_⟩
            · have he : e < gm G + 1 := he
              show va_up (gf G) (gm G) u e < gN G ∧ va_up (gt G) (gm G) v0 e < gN G ∧ va_up (gf G) (gm G) u e ≠ va_up (gt G) (gm G) v0 e ∧ va_up (gw G) (gm G) k e ≤ 1000000 ∧ va_up (ga G) (gm G) 1 e ≤ va_up (gb G) (gm G) 1 e ∧ 1 ≤ va_up (gb G) (gm G) 1 e ∧ va_up (gb G) (gm G) 1 e ≤ 9
              by_cases q : e = gm G
              · subst q; simp only [va_up_self]; exact ⟨hu, hv0, huv, hk, by decide, by decide, by decide⟩
              · simp only [va_up_ne _ _ q]; exact hW.2.2.1 e (by omega)
            · simpa [sI_1, sJ_1, gN] using x1
            · simp [sI_1]; exact nI_1 _
            · have he : e < gm G + 1 := he
              show _ = nI (va_up (gf G) (gm G) u e) ∧ _ = nI (va_up (gt G) (gm G) v0 e) ∧ _ = nI (va_up (gw G) (gm G) k e) ∧ _ = nI (va_up (ga G) (gm G) 1 e) ∧ _ = nI (va_up (gb G) (gm G) 1 e)
              by_cases q : e = gm G
              · subst q; simp only [va_up_self]; simp [sI_1, sJ_1]; exact rfl
              · simp only [va_up_ne _ _ q]; simpa [sI_1, sJ_1, q] using x3 e (by omega)
            · simpa [sI_1, sJ_1, gr] using x4 v hv
            · show b64 ((sJ (sI (sI (sI (sI (sI σ 2 (gm G) (nI u)) 3 (gm G) (nI v0)) 4 (gm G) (nI k)) 5 (gm G) 1) 6 (gm G) 1) 1 8 (σ.2.1 1 8 ||| (1 <<< ((nI (gm G)).toInt64 &&& 63)))).2.1 1 8) e = (decide (e < gm G + 1) && va_up (gl G) (gm G) true e)
              rw [sJ_2, if_pos rfl, if_pos rfl, b64_set _ (by omega), x5 e]
              by_cases q : e = gm G
              · subst q; simp [va_up_self]
              · rw [va_up_ne _ _ q]
                by_cases q2 : e < gm G
                · simp [q, q2, Nat.lt_succ_of_lt q2]
                · simp [q, q2]; omega
            · have e1 : (sI (sJ (sI (sI (sI (sI (sI σ 2 (gm G) (nI u)) 3 (gm G) (nI v0)) 4 (gm G) (nI k)) 5 (gm G) 1) 6 (gm G) 1) 1 8 (σ.2.1 1 8 ||| (1 <<< ((nI (gm G)).toInt64 &&& 63)))) 1 7 (nI (gm G) + 1)).1 1 9 = σ.1 1 9 := by simp [sI_1, sJ_1]
              rw [e1]; exact x6 v
            · simpa [sI_1, gN] using y1
            · simp [sI_1]; exact nI_1 _
            · have he : e < gm G + 1 := he
              show _ = nI (va_up (gf G) (gm G) u e) ∧ _ = nI (va_up (gt G) (gm G) v0 e) ∧ _ = nI (va_up (gw G) (gm G) k e) ∧ _ = nI (va_up (ga G) (gm G) 1 e) ∧ _ = nI (va_up (gb G) (gm G) 1 e) ∧ _ = bI (va_up (gl G) (gm G) true e)
              by_cases q : e = gm G
              · subst q; simp only [va_up_self]; simp [sI_1]; exact ⟨rfl, rfl⟩
              · simp only [va_up_ne _ _ q]; simpa [sI_1, q] using y3 e (by omega)
            · simpa [sI_1, gs, gr] using y4 v hv
            · refine IX_c hI (fun k j hk => ?_) ?_ rfl
              · simp only [sI_1, sJ_1]
                rw [if_neg (by omega), if_neg (by omega), if_neg (by omega), if_neg (by omega), if_neg (by omega), if_neg (by omega)]
              · rw [sI_2, sJ_2, if_neg (by decide)]; rfl
            · simpa [sI_1, sJ_1] using hh
            · simp [sI_1]
        · have h40 : gm G = 40 := by omega
          rw [hX.2.1, hY.2.1, h40, if_neg (by decide), if_pos (by decide)]
          exact ⟨-4, σ, τ, G, rfl, rfl, R⟩
      · rw [if_neg z1, if_neg z1]
        exact ⟨-2, σ, τ, G, rfl, rfl, R⟩
theorem p_rest (R : Rel G σ τ) (x z : Int32) : Ok2 (f_LP_rest σ x z) (f_Mo_rest τ x z) := by
  obtain ⟨hW, hX, hY, hI, hh, hr⟩ := id R
  have hN := hW.1
  unfold f_LP_rest f_Mo_rest
  rw [x_hasNode hW hX, y_isNode hW hY]
  cases ex : inb x (gN G) with
  | false => exact ⟨-1, σ, τ, G, rfl, rfl, R⟩
  | true =>
    simp only [bI, if_true, Option.bind_some]
    simp only [n10, if_false]
    by_cases z0 : z < 0
    · rw [if_pos z0, if_pos z0]
      exact ⟨-2, σ, τ, G, rfl, rfl, R⟩
    · rw [if_neg z0, if_neg z0]
      by_cases z1 : z ≤ 1000000
      · rw [if_pos z1, if_pos z1]
        obtain ⟨u, hu, rfl⟩ := inb_e ex (by omega)
        obtain ⟨k, hk, rfl⟩ := wgt z0 z1
        obtain ⟨x1, x2, x3, x4, x5, x6⟩ := hX
        obtain ⟨y1, y2, y3, y4⟩ := hY
        have hin : inb (nI u) 10 = true := inb_n (by omega) (by decide)
        have hcl : (nI u).toNatClampNeg = u := nI_clamp (by omega)
        refine ⟨nI (gr G u), sI σ 7 u (nI k), sI τ 8 u (nI k), (gN G, gm G, gf G, gt G, gw G, ga G, gb G, gl G, gs G, va_up (gr G) u k), ?_, ?_, ?_⟩
        · simp only [nm, hin, hcl, gd_t rfl, x4 u hu]
        · simp only [nm, hin, hcl, gd_t rfl, (y4 u hu).2]
        · refine ⟨⟨hW.1, hW.2.1, hW.2.2.1, fun v hv => ?_⟩, ⟨?_, ?_, fun e he => ?_, fun v hv => ?_, x5, x6⟩, ⟨?_, ?_, fun e he => ?_, fun v hv => ?_⟩, ?_, ?_, ?_⟩
          · show va_up (gr G) u k v ≤ 1000000
            by_cases q : v = u
            · subst q; rw [va_up_self]; exact hk
            · rw [va_up_ne _ _ q]; exact hW.2.2.2 v hv
          · simpa [sI_1, gN] using x1
          · simpa [sI_1, gm] using x2
          · simpa [sI_1, gf, gt, gw, ga, gb] using x3 e he
          · show _ = nI (va_up (gr G) u k v)
            by_cases q : v = u
            · subst q; rw [va_up_self]; simp [sI_1]
            · rw [va_up_ne _ _ q]; simpa [sI_1, q] using x4 v hv
          · simpa [sI_1, gN] using y1
          · simpa [sI_1, gm] using y2
          · simpa [sI_1, gf, gt, gw, ga, gb, gl] using y3 e he
          · show _ = bI (gs G v) ∧ _ = nI (va_up (gr G) u k v)
            by_cases q : v = u
            · subst q; rw [va_up_self]; exact ⟨by simpa [sI_1] using (y4 v hv).1, by simp [sI_1]⟩
            · rw [va_up_ne _ _ q]; simpa [sI_1, q] using y4 v hv
          · exact IX_c hI (fun k j hk => by rw [sI_1, if_neg (by omega)]) rfl rfl
          · simpa [sI_1] using hh
          · exact rowOK_c hr rfl rfl rfl rfl rfl rfl (fun j hj => by simp [sI_1]) (fun k j hk => by rw [sI_1, if_neg (by omega)])
      · rw [if_neg z1, if_neg z1]
        exact ⟨-2, σ, τ, G, rfl, rfl, R⟩
theorem p_share (R : Rel G σ τ) (x y z : Int32) : Ok2 (f_LP_share σ x y z) (f_Mo_share τ x y z) := by
  obtain ⟨hW, hX, hY, hI, hh, hr⟩ := id R
  have hm := hW.2.1
  unfold f_LP_share f_Mo_share
  rw [x_hasArc hW hX, y_isArc hW hY]
  cases ex : aIn G x with
  | false => exact ⟨-1, σ, τ, G, rfl, rfl, R⟩
  | true =>
    simp only [bI, if_true, Option.bind_some, n10, if_false]
    by_cases z0 : z < 1
    · rw [if_pos z0, if_pos z0]
      exact ⟨-2, σ, τ, G, rfl, rfl, R⟩
    · rw [if_neg z0, if_neg z0]
      by_cases z1 : 9 < z
      · rw [if_pos z1, if_pos z1]
        exact ⟨-2, σ, τ, G, rfl, rfl, R⟩
      · rw [if_neg z1, if_neg z1]
        by_cases y0 : y < 0
        · rw [if_pos y0, if_pos y0]
          exact ⟨-2, σ, τ, G, rfl, rfl, R⟩
        · rw [if_neg y0, if_neg y0]
          by_cases yz : y ≤ z
          · rw [if_pos yz, if_pos yz]
            have hx1 : inb x (gm G) = true := by
              unfold aIn at ex
              exact (Bool.and_eq_true_iff.mp ex).1
            obtain ⟨e0, he0, rfl⟩ := inb_e hx1 (by omega)
            have hz : ∃ kz, 1 ≤ kz ∧ kz ≤ 9 ∧ z = nI kz := by
              have h1 : ¬ z < 0 := fun q => z0 (by rw [Int32.lt_iff_toInt_lt] at q ⊢; exact Int.lt_trans q (by decide))
              have h2 : z ≤ 9 := by rw [Int32.le_iff_toInt_le]; rw [Int32.lt_iff_toInt_lt] at z1; exact Int.not_lt.mp z1
              obtain ⟨kz, hkz, rfl⟩ := nI_of2 (M := 9) (n := 9) (by decide) h1 h2
              refine ⟨kz, ?_, hkz, rfl⟩
              rcases Nat.eq_zero_or_pos kz with q | q
              · subst q; exact absurd (by decide) z0
              · exact q
            obtain ⟨kz, hz1, hz9, rfl⟩ := hz
            obtain ⟨ky, hky, rfl⟩ : ∃ ky, ky ≤ kz ∧ y = nI ky := nI_of2 (M := nI kz) (n := kz) (nI_toInt (by omega)) y0 yz
            obtain ⟨x1, x2, x3, x4, x5, x6⟩ := hX
            obtain ⟨y1, y2, y3, y4⟩ := hY
            have hin : inb (nI e0) 40 = true := inb_n (by omega) (by decide)
            have hcl : (nI e0).toNatClampNeg = e0 := nI_clamp (by omega)
            refine ⟨1, sI (sI σ 5 e0 (nI ky)) 6 e0 (nI kz), sI (sI τ 4 e0 (nI ky)) 5 e0 (nI kz), (gN G, gm G, gf G, gt G, gw G, va_up (ga G) e0 ky, va_up (gb G) e0 kz, gl G, gs G, gr G), ?_, ?_, ?_⟩
            · simp only [nm, hin, hcl, gd_t rfl]
            · simp only [nm, hin, hcl, gd_t rfl]
            · refine ⟨⟨hW.1, hW.2.1, fun e he => ?_, hW.2.2.2⟩, ⟨?_, ?_, fun e he => ?_, fun v hv => ?_, x5, ?_⟩, ⟨?_, ?_, fun e he => ?_, fun v hv => ?_⟩, ?_, ?_, ?_⟩
              · obtain ⟨a1, a2, a3, a4, a5, a6, a7⟩ := hW.2.2.1 e he
                show gf G e < gN G ∧ gt G e < gN G ∧ gf G e ≠ gt G e ∧ gw G e ≤ 1000000 ∧ va_up (ga G) e0 ky e ≤ va_up (gb G) e0 kz e ∧ 1 ≤ va_up (gb G) e0 kz e ∧ va_up (gb G) e0 kz e ≤ 9
                by_cases q : e = e0
                · subst q; simp only [va_up_self]; exact ⟨a1, a2, a3, a4, hky, hz1, hz9⟩
                · simp only [va_up_ne _ _ q]; exact ⟨a1, a2, a3, a4, a5, a6, a7⟩
              · simpa [sI_1, gN] using x1
              · simpa [sI_1, gm] using x2
              · show _ = nI (gf G e) ∧ _ = nI (gt G e) ∧ _ = nI (gw G e) ∧ _ = nI (va_up (ga G) e0 ky e) ∧ _ = nI (va_up (gb G) e0 kz e)
                have q3 := x3 e he
                by_cases q : e = e0
                · subst q; simp only [va_up_self]; exact ⟨by simpa [sI_1] using q3.1, by simpa [sI_1] using q3.2.1, by simpa [sI_1] using q3.2.2.1, by simp [sI_1], by simp [sI_1]⟩
                · simp only [va_up_ne _ _ q]; simpa [sI_1, q] using q3
              · simpa [sI_1, gr] using x4 v hv
              · intro v
                have e1 : (sI (sI σ 5 e0 (nI ky)) 6 e0 (nI kz)).1 1 9 = σ.1 1 9 := by simp [sI_1]
                rw [e1]; exact x6 v
              · simpa [sI_1, gN] using y1
              · simpa [sI_1, gm] using y2
              · show _ = nI (gf G e) ∧ _ = nI (gt G e) ∧ _ = nI (gw G e) ∧ _ = nI (va_up (ga G) e0 ky e) ∧ _ = nI (va_up (gb G) e0 kz e) ∧ _ = bI (gl G e)
                have q3 := y3 e he
                by_cases q : e = e0
                · subst q; simp only [va_up_self]; exact ⟨by simpa [sI_1] using q3.1, by simpa [sI_1] using q3.2.1, by simpa [sI_1] using q3.2.2.1, by simp [sI_1], by simp [sI_1], by simpa [sI_1] using q3.2.2.2.2.2⟩
                · simp only [va_up_ne _ _ q]; simpa [sI_1, q] using q3
              · simpa [sI_1, gs, gr] using y4 v hv
              · exact IX_c hI (fun k j hk => by rw [sI_1, if_neg (by omega), sI_1, if_neg (by omega)]) rfl rfl
              · simpa [sI_1] using hh
              · exact rowOK_c hr rfl rfl rfl rfl rfl rfl (fun j hj => by simp [sI_1]) (fun k j hk => by rw [sI_1, if_neg (by omega), sI_1, if_neg (by omega)])
          · rw [if_neg yz, if_neg yz]
            exact ⟨-2, σ, τ, G, rfl, rfl, R⟩
theorem p_source (R : Rel G σ τ) (x z : Int32) (hz : z = 0 ∨ z = 1) : Ok2 (f_LP_source σ x z) (f_Mo_source τ x z) := by
  obtain ⟨hW, hX, hY, hI, hh, hr⟩ := id R
  have hN := hW.1
  unfold f_LP_source f_Mo_source
  rw [x_hasNode hW hX, y_isNode hW hY]
  cases ex : inb x (gN G) with
  | false => exact ⟨-1, σ, τ, G, rfl, rfl, R⟩
  | true =>
    simp only [bI, if_true, Option.bind_some, n10, if_false]
    obtain ⟨u, hu, rfl⟩ := inb_e ex (by omega)
    obtain ⟨x1, x2, x3, x4, x5, x6⟩ := hX
    obtain ⟨y1, y2, y3, y4⟩ := hY
    have hin : inb (nI u) 10 = true := inb_n (by omega) (by decide)
    have hcl : (nI u).toNatClampNeg = u := nI_clamp (by omega)
    have hzb : isB z = true := decide_eq_true hz
    have hb : b32 (σ.1 1 9) u = gs G u := by rw [x6 u]; simp [hu]
    have ex1 : ∀ w : Int32, (∀ v, b32 w v = (decide (v < gN G) && va_up (gs G) u (decide (z = 1)) v)) → ∀ r : Int32, r = bI (gs G u) → Ok2 (some (r, sI σ 1 9 w)) (some (r, sI τ 7 u z)) := by
      intro w hw r hr1
      refine ⟨r, _, _, (gN G, gm G, gf G, gt G, gw G, ga G, gb G, gl G, va_up (gs G) u (decide (z = 1)), gr G), rfl, rfl, hW, ⟨?_, ?_, fun e he => ?_, fun v hv => ?_, x5, fun v => ?_⟩, ⟨?_, ?_, fun e he => ?_, fun v hv => ?_⟩, ?_, ?_, ?_⟩
      · simpa [sI_1, gN] using x1
      · simpa [sI_1, gm] using x2
      · simpa [sI_1, gf, gt, gw, ga, gb] using x3 e he
      · simpa [sI_1, gr] using x4 v hv
      · have e1 : (sI σ 1 9 w).1 1 9 = w := by simp [sI_1]
        rw [e1]; exact hw v
      · simpa [sI_1, gN] using y1
      · simpa [sI_1, gm] using y2
      · simpa [sI_1, gf, gt, gw, ga, gb, gl] using y3 e he
      · show _ = bI (va_up (gs G) u (decide (z = 1)) v) ∧ _ = nI (gr G v)
        by_cases q : v = u
        · subst q
          rw [va_up_self]
          refine ⟨?_, by simpa [sI_1] using (y4 v hv).2⟩
          rcases hz with rfl | rfl <;> simp [sI_1, bI]
        · rw [va_up_ne _ _ q]; simpa [sI_1, q] using y4 v hv
      · exact IX_c hI (fun k j hk => by rw [sI_1, if_neg (by omega)]) rfl rfl
      · simpa [sI_1] using hh
      · exact rowOK_c hr rfl rfl rfl rfl rfl rfl (fun j hj => by simp [sI_1]) (fun k j hk => by rw [sI_1, if_neg (by omega)])
    have e2 : (if σ.1 1 9 &&& (1 <<< (nI u &&& 31)) = 0 then f_LP_source_J34 σ z (1 <<< (nI u &&& 31)) 0 else f_LP_source_J34 σ z (1 <<< (nI u &&& 31)) 1) = f_LP_source_J34 σ z (1 <<< (nI u &&& 31)) (bI (gs G u)) := by
      have ht := b32_tb (σ.1 1 9) (k := u) (by omega)
      cases hg : gs G u with
      | true => rw [if_neg (fun q => by rw [ht, hb, hg] at q; cases q)]; rfl
      | false => rw [if_pos (ht.mpr (by rw [hb, hg]))]; rfl
    simp only [nm, hin, hcl, hzb, gd_t rfl, (y4 u hu).1]
    rw [e2]
    unfold f_LP_source_J34
    have e3 : (if bI (gs G u) = 0 then some ((0 : Int32), sI τ 7 u z) else some (1, sI τ 7 u z)) = some (bI (gs G u), sI τ 7 u z) := by cases gs G u <;> rfl
    rw [e3]
    rcases hz with rfl | rfl
    · rw [if_pos rfl]
      exact ex1 _ (fun v => by
        rw [b32_clr _ (by omega), x6 v]
        by_cases q : v = u
        · subst q; rw [va_up_self]; simp
        · rw [va_up_ne _ _ q]; simp [q]) _ rfl
    · rw [if_neg n10]
      exact ex1 _ (fun v => by
        rw [b32_set _ (by omega), x6 v]
        by_cases q : v = u
        · subst q; rw [va_up_self]; simp [hu]
        · rw [va_up_ne _ _ q]; simp [q]) _ rfl
end Simple2
