-- ===== PURE: how many ways =====
def sA (f : Nat → Int32) (z : Int32) : Nat → Int32
  | 0 => z
  | i + 1 => sA f z i + f i
theorem sA_c {f g : Nat → Int32} {z : Int32} : ∀ n, (∀ e, e < n → f e = g e) → sA f z n = sA g z n := by
  intro n
  induction n with
  | zero => intro _; rfl
  | succ n ih => intro h; rw [sA, sA, ih (fun e he => h e (by omega)), h n (by omega)]
theorem sA_0 {f : Nat → Int32} {z : Int32} : ∀ n, (∀ e, e < n → f e = 0) → sA f z n = z := by
  intro n
  induction n with
  | zero => intro _; rfl
  | succ n ih => intro h; rw [sA, ih (fun e he => h e (by omega)), h n (by omega), Int32.add_zero]
def z1 (c : Nat → Nat) (v : Nat) : Int32 := if c v = 0 then 1 else 0
/-- the ways of so many arcs to v -/
def wI (G : GT) (K : Nat → Bool) (c : Nat → Nat) : Nat → Nat → Int32
  | 0, v => z1 c v
  | h + 1, v => sA (fun e => if lbE G false (liveO G) K c e v = true then wI G K c h (gf G e) else 0) (z1 c v) (gm G)
def wT (G : GT) (K : Nat → Bool) (c H : Nat → Nat) (v : Nat) : Int32 := wI G K c (H v) v
def wF (G : GT) (K : Nat → Bool) (c H : Nat → Nat) (v : Nat) : Nat → Int32 := fun e => if lbE G false (liveO G) K c e v = true then wT G K c H (gf G e) else 0
theorem wT_e {G : GT} {K : Nat → Bool} {c F H : Nat → Nat} (hW : WG G) (hT : TT G K c F H) {v : Nat} (hv : v < gN G) (hK : K v = true) : wT G K c H v = sA (wF G K c H v) (z1 c v) (gm G) := by
  have lb := fun e he => TT_lb hW hT (e := e) he hv hK
  cases hh : H v with
  | zero =>
    rw [sA_0 (gm G) (fun e he => ?_), wT, hh, wI]
    unfold wF
    rw [if_neg (fun q => by have := ((lb e he).mp q).2.2.2.2; omega)]
  | succ h =>
    rw [wT, hh, wI]
    refine sA_c (gm G) (fun e he => ?_)
    unfold wF
    by_cases q : lbE G false (liveO G) K c e v = true
    · have h5 := ((lb e he).mp q).2.2.2.2
      rw [if_pos q, if_pos q, wT, show H (gf G e) = h by omega]
    · rw [if_neg q, if_neg q]
theorem c0_H {G : GT} {K : Nat → Bool} {c F H : Nat → Nat} (hT : TT G K c F H) {v : Nat} (hv : v < gN G) (hK : K v = true) : c v = 0 ↔ H v = 0 := by
  obtain ⟨a1, a2⟩ := (hT.2.2.1 v hv).2 hK
  constructor
  · intro h; omega
  · intro h
    rcases (hT.2.1.2.2 v hK).2.2 with ⟨_, b2, b3⟩ | ⟨e, _, _, _, _, _, b6⟩
    · omega
    · omega
/-- the one side's counting -/
theorem count_e {G : GT} {σ : mS} {K C : Nat → Bool} {c o F H : Nat → Nat} {k : Nat} (hW : WG G) (hX : RX G σ) (hTX : TX 8 G false (liveO G) (gs G) (fun _ => false) σ K c) (hk : k ≤ 10) (h6 : σ.1 8 6 = nI k) (ho : ordI 8 σ k K C (fun _ => false) c o) (hall : ∀ v, K v = true → C v = true) (hT : TT G K c F H) {v : Nat} (hv : v < gN G) :
    ∃ σ', f_Se_countWays 8 σ (nI v) = some (if K v = true then wT G K c H v else 0, σ') ∧ (∀ a j, a ≠ 11 → σ'.1 a j = σ.1 a j) ∧ σ'.2 = σ.2 := by
  have hN := hW.1
  have hm := hW.2.1
  unfold f_Se_countWays
  obtain ⟨u, p1, p2, p3, p4⟩ := lpN_i (st := f_Se_countWays_L2 8) (fun i t => t.1 = nI i ∧ (∀ a j, a ≠ 11 → t.2.1 a j = σ.1 a j) ∧ t.2.2 = σ.2 ∧ ∀ j, j < i → t.2.1 11 (o j) = wT G K c H (o j)) (fun u => (∀ a j, a ≠ 11 → u.2.1 a j = σ.1 a j) ∧ u.2.2 = σ.2 ∧ ∀ j, j < k → u.2.1 11 (o j) = wT G K c H (o j)) k (fun i t hi ht => by
    obtain ⟨t1, t2⟩ := t
    obtain ⟨e1, hf, hl, hw⟩ := ht
    dsimp only at e1 hf hl hw
    subst e1
    unfold f_Se_countWays_L2
    dsimp only
    rw [hf 8 6 (by omega), h6]
    by_cases hc : i = k
    · subst hc
      left
      rw [if_pos (nI_le (Nat.le_refl _) (by omega))]
      exact ⟨_, rfl, hf, hl, hw⟩
    · right
      have hi2 : i < k := by omega
      refine ⟨hi2, ?_⟩
      obtain ⟨o1, o2, o3, o4⟩ := ho.1 i hi2
      have o2 : σ.1 10 i = nI (o i) := o2
      obtain ⟨n1, n2, n3, n4⟩ := hTX.2.2.1 _ o3
      have n2 : σ.1 9 (o i) = nI (c (o i)) := n2
      have hX2 : RX G t2 := by
        obtain ⟨x1, x2, x3, x4, x5, x6⟩ := hX
        refine ⟨by rw [hf 1 6 (by omega)]; exact x1, by rw [hf 1 7 (by omega)]; exact x2, fun e he => ?_, fun v hv => by rw [hf 7 v (by omega)]; exact x4 v hv, fun e => by rw [hl]; exact x5 e, fun v => by rw [hf 1 9 (by omega)]; exact x6 v⟩
        rw [hf 2 e (by omega), hf 3 e (by omega), hf 4 e (by omega), hf 5 e (by omega), hf 6 e (by omega)]
        exact x3 e he
      have hTX2 : TX 8 G false (liveO G) (gs G) (fun _ => false) t2 K c := by
        obtain ⟨b1, b2, b3, b4, b5, b6⟩ := hTX
        refine ⟨b1, fun v => by rw [hf 8 7 (by omega)]; exact b2 v, fun v hv => by rw [hf 9 v (by omega)]; exact b3 v hv, fun e he => by rw [hl]; exact b4 e he, by rw [hf 8 1 (by omega)]; exact b5, by rw [hf 8 10 (by omega)]; exact b6⟩
      -- the sum
      have hsum : ∃ s', f_Se_countWays_J31 8 (nI i, t2) (nI (o i)) (z1 c (o i)) = some (.inl s') ∧ s'.1 = nI (i + 1) ∧ (∀ a j, a ≠ 11 → s'.2.1 a j = σ.1 a j) ∧ s'.2.2 = σ.2 ∧ ∀ j, j < i + 1 → s'.2.1 11 (o j) = wT G K c H (o j) := by
        unfold f_Se_countWays_J31
        obtain ⟨w, w1, w2⟩ := lpN_i (st := f_Se_countWays_L36 8 (nI i, t2) (nI (o i))) (fun e t => t = (sA (wF G K c H (o i)) (z1 c (o i)) e, nI e)) (fun w => w.1 = sA (wF G K c H (o i)) (z1 c (o i)) (gm G)) (gm G) (fun e t he ht => by
          subst ht
          unfold f_Se_countWays_L36
          dsimp only
          rw [hX2.2.1]
          by_cases hce : e = gm G
          · subst hce
            left
            rw [if_pos (nI_le (Nat.le_refl _) (by omega))]
            exact ⟨_, rfl, rfl⟩
          · right
            have he2 : e < gm G := by omega
            refine ⟨he2, ?_⟩
            rw [if_neg (nI_ge he2 (by omega)), leads_e hW hX2 hTX2 he2 n1 o3, Option.bind_some]
            cases hlb : lbE G false (liveO G) K c e (o i) with
            | false =>
              rw [if_pos bF, nm_e2]
              refine ⟨_, rfl, ?_⟩
              rw [sA, wF, hlb, if_neg (by decide), nI_1]
            | true =>
              obtain ⟨q1, q2, q3, q4, q5⟩ := (TT_lb hW hT he2 n1 o3).mp hlb
              obtain ⟨w1, w2, w3, w4, -⟩ := hW.2.2.1 e he2
              have hKu : K (gf G e) = true := (hT.2.2.1 _ w1).1.mpr q3
              obtain ⟨j, hj, ej⟩ := ho.2.2.1 _ hKu (hall _ hKu)
              have hlt : c (gf G e) < c (o i) := by
                have := hlb
                unfold lbE at this
                simp only [Bool.and_eq_true, decide_eq_true_eq] at this
                have h4 : c (gf G e) + (gw G e * 16 + 1) = c (o i) := this.2
                omega
              have hji : j < i := by
                rcases Nat.lt_trichotomy j i with q | q | q
                · exact q
                · rw [q] at ej; rw [ej] at hlt; omega
                · have := ho.2.2.2 i j q hj
                  rw [ej] at this; omega
              rw [if_neg bT, start_e hW hX2 hTX2.2.2.2.2.1 he2, Option.bind_some]
              have eg : gS G false e = gf G e := rfl
              rw [eg, gd_t (inb_n (by omega) (by decide)), nI_clamp (by omega), nm_e2]
              refine ⟨_, rfl, ?_⟩
              have hv11 := hw j hji
              rw [ej] at hv11
              have hv11 : t2.1 (8 + 3) (gf G e) = wT G K c H (gf G e) := hv11
              rw [sA, wF, hlb, if_pos rfl, hv11, nI_1]) fuS 0 (z1 c (o i), 0) rfl (Nat.zero_le _) (by rw [fuS_e]; omega)
        rw [w1, Option.bind_some, gd_t (inb_n (by omega) (by decide)), nm_e2, nI_clamp (by omega)]
        refine ⟨_, rfl, nI_1 i, fun a j ha => ?_, hl, fun j hj => ?_⟩
        · dsimp only
          rw [sI_1, if_neg ha]; exact hf a j ha
        · dsimp only
          rw [sI_1, if_pos rfl]
          by_cases q : j = i
          · rw [q, if_pos rfl, w2, wT_e hW hT n1 o3]
          · have hne : o j ≠ o i := fun z => q (ho.2.1 j i (by omega) hi2 z)
            rw [if_neg hne]; exact hw j (by omega)
      rw [if_neg (nI_ge hi2 (by omega)), gd_t (inb_n (by omega) (by decide)), nm_e2, nI_clamp (by omega)]
      have e10 : t2.1 (8 + 2) i = nI (o i) := by rw [hf 10 i (by omega)]; exact o2
      rw [e10, gd_t (inb_n (by omega) (by decide)), nI_clamp (by omega)]
      have e9 : t2.1 (8 + 1) (o i) = nI (c (o i)) := by rw [hf 9 _ (by omega)]; exact n2
      rw [e9]
      have e0 : (nI (c (o i)) = 0) ↔ c (o i) = 0 := by rw [show (0 : Int32) = nI 0 from rfl]; exact nI_eq (by omega) (by omega)
      by_cases q : c (o i) = 0
      · rw [if_pos (e0.mpr q)]
        have : z1 c (o i) = 1 := if_pos q
        rw [this] at hsum; exact hsum
      · rw [if_neg (fun z => q (e0.mp z))]
        have : z1 c (o i) = 0 := if_neg q
        rw [this] at hsum; exact hsum) fuS 0 (0, σ) ⟨rfl, fun _ _ _ => rfl, rfl, fun j hj => absurd hj (Nat.not_lt_zero _)⟩ (Nat.zero_le _) (by rw [fuS_e]; omega)
  rw [p1, Option.bind_some, knows_e (K := K) (fun v => by rw [p2 8 7 (by omega)]; exact hTX.2.1 v) (by omega), Option.bind_some]
  cases hKv : K v with
  | false =>
    rw [if_pos bF]
    exact ⟨u.2, rfl, p2, p3⟩
  | true =>
    obtain ⟨j, hj, ej⟩ := ho.2.2.1 v hKv (hall v hKv)
    have := p4 j hj
    rw [ej] at this
    have this : u.2.1 (8 + 3) v = wT G K c H v := this
    rw [if_neg bT, gd_t (inb_n (by omega) (by decide)), nI_clamp (by omega), this]
    exact ⟨u.2, rfl, p2, p3⟩
/-- the other side's: what has been counted ahead of level h and of arc i -/
def wL (G : GT) (K : Nat → Bool) (c F H : Nat → Nat) (τ : mS) (h i : Nat) : Prop := ∀ v, v < gN G → K v = true → (H v < h → τ.1 11 v = wT G K c H v) ∧ (H v = h → τ.1 11 v = sA (wF G K c H v) 0 i) ∧ (h < H v → τ.1 11 v = 0)
theorem level_e {G : GT} {τ : mS} {K : Nat → Bool} {c F H : Nat → Nat} {h : Nat} (hW : WG G) (hY : RY G τ) (hF : YF G τ F H) (hT : TT G K c F H) (h1 : 1 ≤ h) (h10 : h < 10) (hL : wL G K c F H τ h 0) :
    ∃ u, lpN (f_Mo_ways_L71 (nI h, τ)) fuB (0, τ) = some u ∧ (∀ a j, a ≠ 11 → u.2.1 a j = τ.1 a j) ∧ u.2.2 = τ.2 ∧ wL G K c F H u.2 (h + 1) 0 := by
  have hN := hW.1
  have hm := hW.2.1
  obtain ⟨u, p1, p2, p3, p4⟩ := lpN_i (st := f_Mo_ways_L71 (nI h, τ)) (fun i t => t.1 = nI i ∧ (∀ a j, a ≠ 11 → t.2.1 a j = τ.1 a j) ∧ t.2.2 = τ.2 ∧ wL G K c F H t.2 h i) (fun u => (∀ a j, a ≠ 11 → u.2.1 a j = τ.1 a j) ∧ u.2.2 = τ.2 ∧ wL G K c F H u.2 h (gm G)) (gm G) (fun i t hi ht => by
    obtain ⟨t1, t2⟩ := t
    obtain ⟨e1, hf, hl, hw⟩ := ht
    dsimp only at e1 hf hl hw
    subst e1
    unfold f_Mo_ways_L71
    dsimp only
    rw [hf 0 2 (by omega), hY.2.1]
    by_cases hc : i = gm G
    · subst hc
      left
      rw [if_pos (nI_le (Nat.le_refl _) (by omega))]
      exact ⟨_, rfl, hf, hl, hw⟩
    · right
      have hi2 : i < gm G := by omega
      refine ⟨hi2, ?_⟩
      obtain ⟨y1, y2, y3, y4, y5, y6⟩ := hY.2.2.1 i hi2
      obtain ⟨w1, w2, w3, w4, -⟩ := hW.2.2.1 i hi2
      obtain ⟨f1, f2⟩ := hF _ w1
      obtain ⟨g1, g2⟩ := hF _ w2
      have b1 := hT.1 _ w1
      have b2 := hT.1 _ w2
      have skip : (K (gt G i) = true → H (gt G i) = h → lbE G false (liveO G) K c i (gt G i) = false) → ∃ s', (some (Sum.inl (nI i + 1, t2)) : Option ((Int32 × mS) ⊕ (Int32 × mS))) = some (Sum.inl s') ∧ s'.1 = nI (i + 1) ∧ (∀ a j, a ≠ 11 → s'.2.1 a j = τ.1 a j) ∧ s'.2.2 = τ.2 ∧ wL G K c F H s'.2 h (i + 1) := by
        intro hno
        refine ⟨_, rfl, nI_1 i, hf, hl, fun v hv hK => ?_⟩
        obtain ⟨z1, z2, z3⟩ := hw v hv hK
        refine ⟨z1, fun q => ?_, z3⟩
        rw [sA, ← z2 q]
        have : wF G K c H v i = 0 := by
          unfold wF
          by_cases qv : v = gt G i
          · rw [qv, if_neg (by rw [hno (by rw [← qv]; exact hK) (by rw [← qv]; exact q)]; decide)]
          · rw [if_neg]
            intro z
            have := ((TT_lb hW hT hi2 hv hK).mp z).2.1
            exact qv this.symm
        rw [this, Int32.add_zero]
      rw [if_neg (nI_ge hi2 (by omega))]
      simp only [nm, inb_n (show i < 40 by omega) (by decide), gd_t rfl, nI_clamp (show i < 2 ^ 31 by omega), hf 1 i (by omega), hf 2 i (by omega), hf 3 i (by omega), hf 6 i (by omega), y1, y2, y3, y6, inb_n (show gf G i < 10 by omega) (by decide), inb_n (show gt G i < 10 by omega) (by decide), nI_clamp (show gf G i < 2 ^ 31 by omega), nI_clamp (show gt G i < 2 ^ 31 by omega), hf 9 _ (by omega : (9 : Nat) ≠ 11), hf 10 _ (by omega : (10 : Nat) ≠ 11), f1, f2, g1, g2, nI_add]
      cases hg : gl G i with
      | false => rw [if_pos bF]; exact skip (fun hK _ => by
          cases q : lbE G false (liveO G) K c i (gt G i) with
          | false => rfl
          | true => have := ((TT_lb hW hT hi2 w2 hK).mp q).1; rw [hg] at this; cases this)
      | true =>
        rw [if_neg bT]
        have e2 : ((1000000000 : Int32) ≤ nI (F (gf G i))) ↔ 1000000000 ≤ F (gf G i) := by rw [show (1000000000 : Int32) = nI 1000000000 from rfl]; exact nI_leI (by omega) (by omega)
        have no : ∀ P : Prop, (gl G i = true ∧ gt G i = gt G i ∧ F (gf G i) ≠ 1000000000 ∧ F (gf G i) + gw G i = F (gt G i) ∧ H (gf G i) + 1 = H (gt G i) → H (gt G i) = h → False) → (K (gt G i) = true → H (gt G i) = h → lbE G false (liveO G) K c i (gt G i) = false) := by
          intro P hP hK hh
          cases q : lbE G false (liveO G) K c i (gt G i) with
          | false => rfl
          | true => exact (hP ((TT_lb hW hT hi2 w2 hK).mp q) hh).elim
        by_cases h2 : F (gf G i) = 1000000000
        · rw [if_pos (e2.mpr (by omega))]; exact skip (no True (fun q _ => q.2.2.1 h2))
        · rw [if_neg (fun q => by have := e2.mp q; omega)]
          have hKu : K (gf G i) = true := (hT.2.2.1 _ w1).1.mpr h2
          have hFu := TT_F hT w1 hKu
          have e3 := nI_eq (a := F (gt G i)) (b := F (gf G i) + gw G i) (by omega) (by omega)
          by_cases h3 : F (gt G i) = F (gf G i) + gw G i
          · rw [if_pos (e3.mpr h3)]
            have hKv : K (gt G i) = true := (hT.2.2.1 _ w2).1.mpr (by omega)
            have e4 := nI_eq (a := H (gt G i)) (b := h) (by omega) (by omega)
            by_cases h4 : H (gt G i) = h
            · rw [if_pos (e4.mpr h4)]
              have eh : nI h - 1 = nI (h - 1) := by
                have := nI_pred (h - 1)
                rw [show h - 1 + 1 = h by omega] at this
                exact this
              rw [eh]
              have e5 := nI_eq (a := H (gf G i)) (b := h - 1) (by omega) (by omega)
              by_cases h5 : H (gf G i) = h - 1
              · rw [if_pos (e5.mpr h5)]
                have hlb := (TT_lb hW hT hi2 w2 hKv).mpr ⟨hg, rfl, h2, h3.symm, by omega⟩
                refine ⟨_, rfl, nI_1 i, fun a j ha => ?_, hl, fun v hv hK => ?_⟩
                · dsimp only
                  rw [sI_1, if_neg ha]; exact hf a j ha
                · obtain ⟨z1, z2, z3⟩ := hw v hv hK
                  dsimp only
                  rw [sI_1, if_pos rfl]
                  by_cases qv : v = gt G i
                  · rw [if_pos qv]
                    refine ⟨fun q => by rw [qv] at q; omega, fun q => ?_, fun q => by rw [qv] at q; omega⟩
                    rw [← qv, z2 q, sA, wF, qv, hlb, if_pos rfl, (hw _ w1 hKu).1 (by omega)]
                  · rw [if_neg qv]
                    refine ⟨z1, fun q => ?_, z3⟩
                    rw [z2 q, sA, wF, if_neg (fun z => qv ((TT_lb hW hT hi2 hv hK).mp z).2.1.symm), Int32.add_zero]
              · rw [if_neg (fun q => h5 (e5.mp q))]; exact skip (no True (fun q _ => by have := q.2.2.2.2; omega))
            · rw [if_neg (fun q => h4 (e4.mp q))]; exact skip (no True (fun _ q => h4 q))
          · rw [if_neg (fun q => h3 (e3.mp q))]; exact skip (no True (fun q _ => h3 q.2.2.2.1.symm))) fuB 0 (0, τ) ⟨rfl, fun _ _ _ => rfl, rfl, hL⟩ (Nat.zero_le _) (by rw [fuB_e]; omega)
  refine ⟨u, p1, p2, p3, fun v hv hK => ?_⟩
  obtain ⟨z1', z2, z3⟩ := p4 v hv hK
  refine ⟨fun q => ?_, fun q => ?_, fun q => z3 (by omega)⟩
  · by_cases hh : H v = h
    · rw [z2 hh, wT_e hW hT hv hK]
      have : z1 c v = 0 := if_neg (fun z => by have := (c0_H hT hv hK).mp z; omega)
      rw [this]
    · exact z1' (by omega)
  · rw [z3 (by omega)]; rfl
theorem p_ways {G : GT} {σ τ : mS} (R : Rel G σ τ) (x : Int32) : Ok2 (f_LP_ways σ x) (f_Mo_ways τ x) := by
  obtain ⟨hW, hX, hY, hI, hh, hr⟩ := id R
  have hN := hW.1
  have hm := hW.2.1
  unfold f_LP_ways f_Mo_ways
  rw [x_hasNode hW hX, y_isNode hW hY]
  cases ex : inb x (gN G) with
  | false => exact ⟨-1, σ, τ, G, rfl, rfl, R⟩
  | true =>
    obtain ⟨v, hv, rfl⟩ := inb_e ex (by omega)
    obtain ⟨σ', τ', K, C, c, k, o, F, H, a1, a2, a3, a4, a5, a6, a7, a8, a9, a10⟩ := trees2_e R
    have hY' := a3.2.2.1
    obtain ⟨σ2, s1, s2, s3⟩ := count_e hW a3.2.1 a4 a5 a6 a7 a8 a10 hv
    rw [Option.bind_some, Option.bind_some, if_neg bT, if_neg bT, a1, a2, Option.bind_some, Option.bind_some, s1, Option.bind_some]
    obtain ⟨u, u1, u2, u3, u4⟩ := lpN_i (st := f_Mo_ways_L16) (fun i t => t.1 = nI i ∧ (∀ a j, a ≠ 11 → t.2.1 a j = τ'.1 a j) ∧ t.2.2 = τ'.2 ∧ ∀ v, v < i → K v = true → t.2.1 11 v = if H v = 0 then 1 else 0) (fun t => (∀ a j, a ≠ 11 → t.2.1 a j = τ'.1 a j) ∧ t.2.2 = τ'.2 ∧ ∀ v, v < gN G → K v = true → t.2.1 11 v = if H v = 0 then 1 else 0) (gN G) (fun i t hi ht => by
      obtain ⟨t1, t2⟩ := t
      obtain ⟨e1, hf, hl, hw⟩ := ht
      dsimp only at e1 hf hl hw
      subst e1
      unfold f_Mo_ways_L16
      dsimp only
      rw [hf 0 1 (by omega), hY'.1]
      by_cases hc : i = gN G
      · subst hc
        left
        rw [if_pos (nI_le (Nat.le_refl _) (by omega))]
        exact ⟨_, rfl, hf, hl, hw⟩
      · right
        have hi2 : i < gN G := by omega
        refine ⟨hi2, ?_⟩
        obtain ⟨f1, f2⟩ := a9 i hi2
        obtain ⟨b1, b2⟩ := a10.1 i hi2
        have set : ∀ z : Int32, (K i = true → z = if H i = 0 then 1 else 0) → ∃ s', (some (Sum.inl (nI i + 1, sI t2 11 i z)) : Option ((Int32 × mS) ⊕ (Int32 × mS))) = some (Sum.inl s') ∧ s'.1 = nI (i + 1) ∧ (∀ a j, a ≠ 11 → s'.2.1 a j = τ'.1 a j) ∧ s'.2.2 = τ'.2 ∧ ∀ v, v < i + 1 → K v = true → s'.2.1 11 v = if H v = 0 then 1 else 0 := by
          intro z hz
          refine ⟨_, rfl, nI_1 i, fun a j ha => by dsimp only; rw [sI_1, if_neg ha]; exact hf a j ha, hl, fun v hv hK => ?_⟩
          dsimp only
          rw [sI_1, if_pos rfl]
          by_cases q : v = i
          · rw [if_pos q, q]; exact hz (by rw [← q]; exact hK)
          · rw [if_neg q]; exact hw v (by omega) hK
        rw [if_neg (nI_ge hi2 (by omega))]
        simp only [nm, inb_n (show i < 10 by omega) (by decide), gd_t rfl, nI_clamp (show i < 2 ^ 31 by omega), hf 9 i (by omega), hf 10 i (by omega), f1, f2]
        have e2 : ((1000000000 : Int32) ≤ nI (F i)) ↔ 1000000000 ≤ F i := by rw [show (1000000000 : Int32) = nI 1000000000 from rfl]; exact nI_leI (by omega) (by omega)
        have eH : (nI (H i) = 0) ↔ H i = 0 := by rw [show (0 : Int32) = nI 0 from rfl]; exact nI_eq (by omega) (by omega)
        by_cases h2 : 1000000000 ≤ F i
        · rw [if_pos (e2.mpr h2)]
          exact set 0 (fun q => by have := (a10.2.2.1 i hi2).1.mp q; omega)
        · rw [if_neg (fun q => h2 (e2.mp q))]
          by_cases h3 : H i = 0
          · rw [if_pos (eH.mpr h3)]; exact set 1 (fun _ => by rw [if_pos h3])
          · rw [if_neg (fun q => h3 (eH.mp q))]; exact set 0 (fun _ => by rw [if_neg h3])) fuB 0 (0, τ') ⟨rfl, fun _ _ _ => rfl, rfl, fun j hj => absurd hj (Nat.not_lt_zero _)⟩ (Nat.zero_le _) (by rw [fuB_e]; omega)
    rw [u1, Option.bind_some]
    have hL1 : wL G K c F H u.2 1 0 := by
      intro v hv hK
      refine ⟨fun q => ?_, fun q => ?_, fun q => ?_⟩
      · have h0 : H v = 0 := by omega
        rw [u4 v hv hK, if_pos h0, wT, h0, wI, z1, if_pos ((c0_H a10 hv hK).mpr h0)]
      · rw [u4 v hv hK, if_neg (by omega)]; rfl
      · rw [u4 v hv hK, if_neg (by omega)]
    obtain ⟨w, w1, w2, w3, w4⟩ := lpN_i (st := f_Mo_ways_L63) (fun i t => t.1 = nI (i + 1) ∧ (∀ a j, a ≠ 11 → t.2.1 a j = τ'.1 a j) ∧ t.2.2 = τ'.2 ∧ wL G K c F H t.2 (i + 1) 0) (fun t => (∀ a j, a ≠ 11 → t.2.1 a j = τ'.1 a j) ∧ t.2.2 = τ'.2 ∧ wL G K c F H t.2 10 0) 9 (fun i t hi ht => by
      obtain ⟨t1, t2⟩ := t
      obtain ⟨e1, hf, hl, hw⟩ := ht
      dsimp only at e1 hf hl hw
      subst e1
      unfold f_Mo_ways_L63
      dsimp only
      by_cases hc : i = 9
      · subst hc
        left
        rw [if_pos (by decide)]
        exact ⟨_, rfl, hf, hl, hw⟩
      · right
        have hi2 : i < 9 := by omega
        refine ⟨hi2, ?_⟩
        rw [if_neg (show ¬ (10 : Int32) ≤ nI (i + 1) from nI_ge (a := i + 1) (b := 10) (by omega) (by decide))]
        have hYt : RY G t2 := RY_c hY' (fun a j q => hf a j (by omega))
        have hFt : YF G t2 F H := fun v hv => by rw [hf 9 v (by omega), hf 10 v (by omega)]; exact a9 v hv
        obtain ⟨q, q1, q2, q3, q4⟩ := level_e hW hYt hFt a10 (show 1 ≤ i + 1 by omega) (by omega) hw
        rw [q1, Option.bind_some]
        exact ⟨_, rfl, nI_1 _, fun a j ha => (q2 a j ha).trans (hf a j ha), q3.trans hl, q4⟩) fuB 0 (1, u.2) ⟨rfl, u2, u3, hL1⟩ (Nat.zero_le _) (by rw [fuB_e]; omega)
    obtain ⟨f1, f2⟩ := a9 v hv
    obtain ⟨g1, g2⟩ := a10.1 v hv
    obtain ⟨k1, k2⟩ := a10.2.2.1 v hv
    rw [w1, Option.bind_some, gd_t (inb_n (by omega) (by decide)), nI_clamp (by omega), w2 9 v (by omega), f1, gd_t (inb_n (by omega) (by decide))]
    have eN : (nI (F v) = 1000000000) ↔ F v = 1000000000 := by rw [show (1000000000 : Int32) = nI 1000000000 from rfl]; exact nI_eq (by omega) (by omega)
    have hR : Rel G σ2 w.2 := Rel_y (Rel_x a3 (fun a j q => s2 a j (by omega)) (by rw [s3]) (by rw [s3]) (by rw [s3])) (fun a j q => w2 a j (by omega))
    cases hk : K v with
    | false =>
      have : F v = 1000000000 := Decidable.byContradiction fun q => by rw [k1.mpr q] at hk; cases hk
      rw [if_pos (eN.mpr this), if_neg (by decide)]
      exact ⟨0, σ2, w.2, G, rfl, rfl, hR⟩
    | true =>
      rw [if_neg (fun q => k1.mp hk (eN.mp q)), if_pos rfl, (w4 v hv hk).1 (by omega)]
      exact ⟨_, σ2, w.2, G, rfl, rfl, hR⟩
