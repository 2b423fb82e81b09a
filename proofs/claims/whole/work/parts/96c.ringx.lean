-- ===== PURE: the class's ring =====
def rgO (G : GT) (e : Nat) : Nat → Bool := fun i => decide (i < gm G) && gl G i && decide (e < i)
/-- the rings, each told from its least arc, where that is below n -/
def RP (G : GT) (n : Nat) (p : List Nat) : Prop := ∃ e q, p = e :: q ∧ e < n ∧ e < gm G ∧ gl G e = true ∧ SW G (rgO G e) (gt G e) (gf G e) q
def LR (G : GT) (n : Nat) (r : List Nat) : Prop := (r = [] ∧ ∀ p, ¬ RP G n p) ∨ LeastOf G (RP G n) r
theorem RP_s {G : GT} {n : Nat} {p : List Nat} : RP G (n + 1) p ↔ RP G n p ∨ ∃ q, p = n :: q ∧ n < gm G ∧ gl G n = true ∧ SW G (rgO G n) (gt G n) (gf G n) q := by
  constructor
  · rintro ⟨e, q, h1, h2, h3, h4, h5⟩
    by_cases z : e = n
    · subst z; exact Or.inr ⟨q, h1, h3, h4, h5⟩
    · exact Or.inl ⟨e, q, h1, by omega, h3, h4, h5⟩
  · rintro (⟨e, q, h1, h2, h3, h4, h5⟩ | ⟨q, h1, h3, h4, h5⟩)
    · exact ⟨e, q, h1, by omega, h3, h4, h5⟩
    · exact ⟨n, q, h1, by omega, h3, h4, h5⟩
theorem LR_skip {G : GT} {n : Nat} {r : List Nat} (h : LR G n r) (hno : ¬ ∃ q, n < gm G ∧ gl G n = true ∧ SW G (rgO G n) (gt G n) (gf G n) q) : LR G (n + 1) r := by
  have e : ∀ p, RP G (n + 1) p ↔ RP G n p := fun p => RP_s.trans ⟨fun q => q.elim id (fun ⟨q, z⟩ => (hno ⟨q, z.2⟩).elim), Or.inl⟩
  rcases h with ⟨h1, h2⟩ | ⟨h1, h2⟩
  · left; exact ⟨h1, fun p hp => h2 p ((e p).mp hp)⟩
  · right; exact ⟨(e r).mpr h1, fun p hp => h2 p ((e p).mp hp)⟩
theorem LR_take {G : GT} {n : Nat} {r q0 : List Nat} (h : LR G n r) (hn : n < gm G) (hg : gl G n = true) (h0 : SW G (rgO G n) (gt G n) (gf G n) q0) (hmin : ∀ q, SW G (rgO G n) (gt G n) (gf G n) q → q = q0 ∨ wlt G q0 q) : LR G (n + 1) (if r = [] ∨ cst G (n :: q0) < cst G r then n :: q0 else r) := by
  have hin : RP G (n + 1) (n :: q0) := RP_s.mpr (Or.inr ⟨q0, rfl, hn, hg, h0⟩)
  have hnew : ∀ p, RP G (n + 1) p → RP G n p ∨ p = n :: q0 ∨ wlt G (n :: q0) p := by
    intro p hp
    rcases RP_s.mp hp with z | ⟨q, z1, _, _, z2⟩
    · exact Or.inl z
    · right
      rcases hmin q z2 with y | y
      · left; rw [z1, y]
      · right; rw [z1]; exact (wlt_app (r := [n])).mpr y
  rcases h with ⟨h1, h2⟩ | ⟨h1, h2⟩
  · rw [if_pos (Or.inl h1)]
    right
    refine ⟨hin, fun p hp => ?_⟩
    rcases hnew p hp with z | z | z
    · exact absurd z (h2 p)
    · exact Or.inl z
    · exact Or.inr z
  · obtain ⟨e, q, g1, g2, _⟩ := id h1
    have hr : r ≠ [] := by rw [g1]; exact List.cons_ne_nil _ _
    by_cases hc : cst G (n :: q0) < cst G r
    · rw [if_pos (Or.inr hc)]
      right
      refine ⟨hin, fun p hp => ?_⟩
      have hw : wlt G (n :: q0) r := Or.inl hc
      rcases hnew p hp with z | z | z
      · right
        rcases h2 p z with y | y
        · rw [y]; exact hw
        · exact wlt_tr hw y
      · exact Or.inl z
      · exact Or.inr z
    · rw [if_neg (fun z => z.elim hr hc)]
      right
      have hw : wlt G r (n :: q0) := by
        rcases Nat.lt_or_ge (cst G r) (cst G (n :: q0)) with z | z
        · exact Or.inl z
        · refine Or.inr ⟨by omega, ?_⟩
          rw [g1, List.cons_lt_cons_iff]
          left; exact g2
      refine ⟨RP_s.mpr (Or.inl h1), fun p hp => ?_⟩
      rcases hnew p hp with z | z | z
      · exact h2 p z
      · right; rw [z]; exact hw
      · right; exact wlt_tr hw z
theorem b64_m2 : ∀ j, j < 64 → b64 (-2) j = !decide (j = 0) := by decide +kernel
theorem rg_bits {G : GT} {σ : mS} {e : Nat} (hX : RX G σ) (he : e < 40) : ∀ i, i < 40 → b64 ((σ.2.1 1 8) &&& ((-2) <<< ((nI e).toInt64 &&& 63))) i = rgO G e i := by
  intro i hi
  rw [b64_and, hX.2.2.2.2.1 i, b64_shl _ (by omega), decide_eq_true (show i < 64 by omega), Bool.true_and]
  unfold rgO
  by_cases q : e ≤ i
  · rw [decide_eq_true q, Bool.true_and, b64_m2 _ (by omega)]
    by_cases z : e = i
    · subst z; simp
    · have z1 : ¬ i - e = 0 := by omega
      have z2 : e < i := by omega
      simp [z1, z2]
  · have q2 : ¬ e < i := by omega
    simp [q, q2]
def fr92 (σ σ' : mS) : Prop := (∀ k j, k ≠ 92 → k ≠ 93 → σ'.1 k j = σ.1 k j) ∧ (∀ k j, k ≠ 92 → σ'.2.1 k j = σ.2.1 k j) ∧ σ'.2.2 = σ.2.2
theorem fr92_v {σ σ' σ'' : mS} (h : fr92 σ σ') (k : frV 92 σ' σ'') : fr92 σ σ'' := ⟨fun a j q1 q2 => (k.1 a j q2 (Or.inl q1)).trans (h.1 a j q1 q2), fun a j q => by rw [k.2]; exact h.2.1 a j q, by rw [k.2]; exact h.2.2⟩
theorem fr92_R {G : GT} {σ σ' τ : mS} (R : Rel G σ τ) (f : fr92 σ σ') : Rel G σ' τ := Rel_x R (fun k j q => f.1 k j (by omega) (by omega)) (f.2.1 1 8 (by decide)) (f.2.1 27 4 (by decide)) (by rw [f.2.2])
theorem TX_92 {G : GT} {O s X K : Nat → Bool} {σ σ' : mS} {c : Nat → Nat} (hf : fr92 σ σ') (h : TX 16 G true O s X σ K c) : TX 16 G true O s X σ' K c := by
  obtain ⟨h1, h2, h3, h4, h5, h6⟩ := h
  refine ⟨h1, fun v => ?_, fun v hv => ?_, fun e he => ?_, ?_, ?_⟩
  · rw [hf.1 16 7 (by omega) (by omega)]; exact h2 v
  · obtain ⟨a1, a2, a3⟩ := h3 v hv
    exact ⟨a1, by rw [hf.1 (16 + 1) v (by omega) (by omega)]; exact a2, a3⟩
  · rw [hf.2.1 16 9 (by omega)]; exact h4 e he
  · rw [hf.1 16 1 (by omega) (by omega)]; exact h5
  · rw [hf.1 16 10 (by omega) (by omega)]; exact h6
theorem take_ring {G : GT} {σ τ : mS} {K : Nat → Bool} {c : Nat → Nat} {e : Nat} {r : List Nat} (R : Rel G σ τ) (he : e < gm G) (hg : gl G e = true) (h : TX 16 G true (rgO G e) (fun v => decide (v = gf G e)) (fun _ => false) σ K c) (hr : WO G σ 92 r) (hL : LR G e r) : ∃ σ' r', f_Rg_takeIfLess σ (nI e) = some σ' ∧ Rel G σ' τ ∧ WO G σ' 92 r' ∧ LR G (e + 1) r' := by
  obtain ⟨hW, hX, _⟩ := id R
  have hN := hW.1
  have hm := hW.2.1
  obtain ⟨gu, gv, gne, gwe, _⟩ := hW.2.2.1 e he
  have hTB := TX_TB gu h
  obtain ⟨fl1, fl2⟩ := fol_least (u := gt G e) hTB rfl
  have hbe : inb (nI e) 40 = true := inb_n (by omega) (by decide)
  have hce : (nI e).toNatClampNeg = e := nI_clamp (by omega)
  unfold f_Rg_takeIfLess
  rw [gd_t hbe, hce, (hX.2.2.1 e he).2.1, nm_e2, knows_e h.2.1 (by omega), Option.bind_some]
  by_cases hK : K (gt G e) = true
  · obtain ⟨s1, s2, s3, s4⟩ := fl1 hK
    obtain ⟨k1, k2, k3, k4⟩ := h.2.2.1 _ hK
    have k2 : σ.1 17 (gt G e) = nI (c (gt G e)) := k2
    have hcv : (nI (gt G e)).toNatClampNeg = gt G e := nI_clamp (by omega)
    have hmin : ∀ q, SW G (rgO G e) (gt G e) (gf G e) q → q = fol G (rgO G e) K c (c (gt G e) % 16) (gt G e) ∨ wlt G (fol G (rgO G e) K c (c (gt G e) % 16) (gt G e)) q := fun q hq => s2.2 q hq.1
    have hT := LR_take hL he hg s1 hmin
    have hcc : cst G (e :: fol G (rgO G e) K c (c (gt G e) % 16) (gt G e)) = gw G e * 16 + 1 + c (gt G e) := by rw [cst_c, s3]
    rw [hcc] at hT
    have hlen := SW_len hW gv s1
    rw [s4] at hlen
    rw [hK, if_neg bT, gd_t hbe, gd_t (inb_n (by omega) (by decide)), hcv, (hX.2.2.1 e he).2.2.1, k2, show (16 : Int32) = nI 16 from rfl, pk_mul, nI_1, nI_add, nm_e2, hr.1, hr.2.1]
    -- laying the new one out
    have hlay : ∃ σ', ((f_Wy_begin 92 σ 0 0).bind fun σ4 => gd (inb (nI e) 40) ((f_Wy_add 92 σ4 (nI e) (σ4.1 4 e)).bind fun σ5 => (f_Se_follow 16 σ5 (nI (gt G e)) 92).bind fun σ6 => some σ6)) = some σ' ∧ Rel G σ' τ ∧ WO G σ' 92 (e :: fol G (rgO G e) K c (c (gt G e) % 16) (gt G e)) := by
      obtain ⟨σ4, b1, b2, b3, b4, b5, _⟩ := beginW_e (G := G) (σ := σ) (w := 92) 0 0
      have f4 : fr92 σ σ4 := ⟨fun k j q1 _ => b3 k j (Or.inl q1), fun k j q => b4 k j (Or.inl q), b5⟩
      have R4 := fr92_R R f4
      have e4 : σ4.1 4 e = nI (gw G e) := (R4.2.1.2.2.1 e he).2.2.1
      obtain ⟨σ5, a1, a2, a3⟩ := add_e hW b2 (by decide) he
      have f5 := fr92_v f4 a3
      have R5 := fr92_R R f5
      have a2 : WO G σ5 92 [e] := a2
      obtain ⟨σ6, d1, d2, d3⟩ := follow_e hW R5.2.1 (w := 92) (by decide) gu (TX_92 f5 h) hK a2 (by simp; omega)
      rw [b1, Option.bind_some, gd_t hbe, e4, a1, Option.bind_some, d1, Option.bind_some]
      exact ⟨_, rfl, fr92_R R (fr92_v f5 d3), d2⟩
    have hrl : ∀ f ∈ r, f < gm G := hr.2.2.2
    by_cases hz : r = []
    · rw [if_pos (Or.inl hz)] at hT
      have hl0 : nI r.length = 0 := by rw [hz]; rfl
      rw [if_pos hl0]
      obtain ⟨σ', l1, l2, l3⟩ := hlay
      exact ⟨σ', _, l1, l2, l3, hT⟩
    · have hlr : r.length ≤ 10 := by
        rcases hL with ⟨z, _⟩ | ⟨⟨f, q, z1, z2, z3, z4, z5⟩, _⟩
        · exact absurd z hz
        · rw [z1, List.length_cons]
          have := SW_len hW (hW.2.2.1 f z3).2.1 z5
          omega
      have hl1 : r.length ≠ 0 := fun z => hz (List.length_eq_zero_iff.mp z)
      have hcr := cst_le hW r hrl
      rw [if_neg (show ¬ nI r.length = 0 from fun z => by have := (nI_eq (b := 0) (by omega) (by omega)).mp z; omega)]
      by_cases hle : cst G r ≤ gw G e * 16 + 1 + c (gt G e)
      · rw [if_neg (fun z => z.elim hz (fun z => by omega))] at hT
        rw [if_pos (nI_le hle (by omega))]
        exact ⟨σ, r, rfl, R, hr, hT⟩
      · rw [if_pos (Or.inr (by omega))] at hT
        rw [if_neg (nI_ge (by omega) (by omega))]
        obtain ⟨σ', l1, l2, l3⟩ := hlay
        exact ⟨σ', _, l1, l2, l3, hT⟩
  · have hK := Bool.eq_false_iff.mpr hK
    rw [hK, if_pos bF]
    refine ⟨σ, r, rfl, R, hr, LR_skip hL (fun ⟨q, _, _, z⟩ => fl2 hK q z.1)⟩
theorem x_ring {G : GT} {σ τ : mS} (R : Rel G σ τ) : ∃ σ' r, f_Rg_find σ = some σ' ∧ Rel G σ' τ ∧ WO G σ' 92 r ∧ LR G (gm G) r := by
  obtain ⟨hW, hX, _⟩ := id R
  have hN := hW.1
  have hm := hW.2.1
  unfold f_Rg_find
  obtain ⟨σ1, b1, b2, b3, b4, b5, _⟩ := beginW_e (G := G) (σ := σ) (w := 92) 0 0
  have R1 := fr92_R R ⟨fun k j q1 _ => b3 k j (Or.inl q1), fun k j q => b4 k j (Or.inl q), b5⟩
  rw [b1, Option.bind_some]
  obtain ⟨u, u1, r, u2, u3, u4⟩ := lpN_i (st := f_Rg_find_L11) (fun i t => t.1 = nI i ∧ ∃ r, Rel G t.2 τ ∧ WO G t.2 92 r ∧ LR G i r) (fun u => ∃ r, Rel G u.2 τ ∧ WO G u.2 92 r ∧ LR G (gm G) r) (gm G) (fun i t hi ht => by
    obtain ⟨ti, t⟩ := t
    obtain ⟨t1, r, t2, t3, t4⟩ := ht
    have t1 : ti = nI i := t1
    subst t1
    have t2 : Rel G t τ := t2
    have t3 : WO G t 92 r := t3
    unfold f_Rg_find_L11
    dsimp only
    rw [t2.2.1.2.1]
    by_cases hc : i = gm G
    · subst hc
      left
      rw [if_pos (nI_le (Nat.le_refl _) (by omega))]
      exact ⟨_, rfl, r, t2, t3, t4⟩
    · right
      have hi2 : i < gm G := by omega
      refine ⟨hi2, ?_⟩
      rw [if_neg (nI_ge hi2 (by omega)), x_hasArc hW t2.2.1, aIn_n hW hi2, Option.bind_some]
      cases hg : gl G i with
      | false =>
        rw [if_pos bF]
        exact ⟨_, rfl, nI_1 _, r, t2, t3, LR_skip t4 (fun ⟨q, _, z, _⟩ => by rw [hg] at z; cases z)⟩
      | true =>
        rw [if_neg bT]
        obtain ⟨⟨d, hd1, hd3, _, hd12, hd20⟩, h81, h161, _⟩ := id t2.2.2.2.1
        obtain ⟨gu, gv, _⟩ := hW.2.2.1 i hi2
        obtain ⟨s1, s2, s3, K, c, e1, e2, e3, e4, e5⟩ := one_e (b := 16) (ag := true) (O := rgO G i) (a := gf G i) hW t2.2.1 (Or.inr rfl) hd1 hd3 hd20 h161 _ 0 (rg_bits t2.2.1 (show i < 40 by omega)) gu (b32_0 _)
        have hci : (nI i).toNatClampNeg = i := nI_clamp (by omega)
        have hx0 : (fun v => b32 0 v) = fun _ => false := by funext v; exact b32_0 v
        rw [hx0] at e5
        have R3 : Rel G s3 τ := Rel_B (Or.inr rfl) t2 e4
        have hf1 : s1.1 2 i = nI (gf G i) := by
          have q1 : frB 16 t s1 := by
            obtain ⟨s1', p1, p2, _⟩ := counted_e (G := G) (b := 16) (σ := t) (Or.inr rfl) hd1 hd3 hd20 ((t.2.1 1 8) &&& ((-2) <<< ((nI i).toInt64 &&& 63))) 0
            rw [p1] at e1
            have := Option.some.inj e1
            rw [← this]; exact p2
          rw [q1.1 2 i (by omega)]
          exact (t2.2.1.2.2.1 i hi2).1
        have W3 : WO G s3 92 r := WO_c t3 (e4.1 92 1 (by omega)) (e4.1 92 2 (by omega)) (fun j => e4.1 93 j (by omega))
        obtain ⟨s4, r', g1, g2, g3, g4⟩ := take_ring R3 hi2 hg e5 W3 t4
        rw [e1, Option.bind_some, gd_t (inb_n (by omega) (by decide)), hci, hf1, e2, Option.bind_some, e3, Option.bind_some, g1, Option.bind_some]
        exact ⟨_, rfl, nI_1 _, r', g2, g3, g4⟩) fuS 0 (0, σ1) ⟨rfl, [], R1, b2, Or.inl ⟨rfl, fun p ⟨e, q, _, z, _⟩ => absurd z (Nat.not_lt_zero _)⟩⟩ (Nat.zero_le _) (by rw [fuS_e]; omega)
  rw [u1, Option.bind_some]
  exact ⟨_, r, rfl, u2, u3, u4⟩
