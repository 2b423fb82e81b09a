-- ===== PURE: widest =====
def hWi (G : GT) (e y : Nat) : Nat := min y (gw G e + 1)
def enR (y : Nat) : Int32 := if y = 0 then -1 else nI (y - 1)
def enW (y : Nat) : Int32 := if y = 0 then -1 else if y = 1000000001 then 2147483647 else nI (y - 1)
theorem enR_t {y : Nat} (h : y ≤ 2000000000) : (enR y).toInt = (y : Int) - 1 := by
  unfold enR
  by_cases q : y = 0
  · rw [if_pos q, q]; rfl
  · rw [if_neg q, nI_toInt (by omega)]; omega
theorem enW_t {y : Nat} (h : y ≤ 1000000001) : (enW y).toInt = if y = 1000000001 then 2147483647 else (y : Int) - 1 := by
  unfold enW
  by_cases q : y = 0
  · rw [if_pos q, q]; rfl
  · rw [if_neg q]
    by_cases z : y = 1000000001
    · rw [if_pos z, if_pos z]; rfl
    · rw [if_neg z, if_neg z, nI_toInt (by omega)]; omega
theorem enR_lt {y z : Nat} (h : y ≤ 2000000000) (h' : z ≤ 2000000000) : enR y < enR z ↔ y < z := by
  rw [Int32.lt_iff_toInt_lt, enR_t h, enR_t h']; omega
theorem enR_le {y z : Nat} (h : y ≤ 2000000000) (h' : z ≤ 2000000000) : enR y ≤ enR z ↔ y ≤ z := by
  rw [Int32.le_iff_toInt_le, enR_t h, enR_t h']; omega
theorem enW_lt {y z : Nat} (h : y ≤ 1000000001) (h' : z ≤ 1000000001) : enW y < enW z ↔ y < z := by
  rw [Int32.lt_iff_toInt_lt, enW_t h, enW_t h']; split <;> split <;> omega
theorem enW_min {w y : Nat} (hw : w ≤ 1000000) (h : y ≤ 1000000001) : (if nI w < enW y then nI w else enW y) = enW (min y (w + 1)) := by
  have e1 : enW (w + 1) = nI w := by
    unfold enW; rw [if_neg (by omega), if_neg (by omega)]; rfl
  by_cases q : w + 1 < y
  · rw [if_pos (by rw [← e1, enW_lt (by omega) h]; exact q), Nat.min_eq_right (by omega), e1]
  · rw [if_neg (by rw [← e1, enW_lt (by omega) h]; exact q), Nat.min_eq_left (by omega)]
theorem enR_min {w y : Nat} (hw : w ≤ 1000000) (h : y ≤ 2000000000) : (nI w ≤ enR y → nI w = enR (min y (w + 1))) ∧ (¬ nI w ≤ enR y → enR y = enR (min y (w + 1))) := by
  have e1 : enR (w + 1) = nI w := by
    unfold enR; rw [if_neg (by omega)]; rfl
  rw [← e1, enR_le (by omega) h]
  exact ⟨fun q => by rw [Nat.min_eq_right (by omega)], fun q => by rw [Nat.min_eq_left (by omega)]⟩
theorem hWi_ok (G : GT) : hOK (hWi G) := fun e y => Nat.min_le_left _ _
def YBs (G : GT) (s : Nat) (S : BS) : Prop := S.1 s = 1000000001 ∧ ∀ v, v < gN G → v ≠ s → S.1 v ≤ 1000001
theorem YBs_le {G : GT} {s : Nat} {S : BS} (h : YBs G s S) {v : Nat} (hv : v < gN G) : S.1 v ≤ 1000000001 := by
  by_cases q : v = s
  · rw [q, h.1]; omega
  · have := h.2 v hv q; omega
theorem YBs_1 {G : GT} {s : Nat} {S : BS} (hW : WG G) (h : YBs G s S) {e : Nat} (he : e < gm G) : YBs G s (rl1 G (hWi G) S e) := by
  obtain ⟨hu, hv, hne, hw, _⟩ := hW.2.2.1 e he
  unfold rl1
  by_cases hc : rlC G (hWi G) S e = true
  · rw [if_pos hc]
    have hlt : S.1 (gt G e) < hWi G e (S.1 (gf G e)) := of_decide_eq_true (Bool.and_eq_true_iff.mp hc).2
    have hle : hWi G e (S.1 (gf G e)) ≤ gw G e + 1 := Nat.min_le_right _ _
    have hts : s ≠ gt G e := by
      intro q
      have := h.1
      rw [q] at this
      omega
    refine ⟨?_, fun v hv q => ?_⟩
    · show va_up S.1 _ _ s = _
      rw [va_up_ne _ _ hts]; exact h.1
    · show va_up S.1 _ _ v ≤ _
      by_cases z : v = gt G e
      · subst z; rw [va_up_self]; omega
      · rw [va_up_ne _ _ z]; exact h.2 v hv q
  · rw [if_neg hc]; exact h
def fr1 (c : Nat) (σ σ' : mS) : Prop := (∀ k j, k ≠ c → σ'.1 k j = σ.1 k j) ∧ σ'.2 = σ.2
def MX (G : GT) (s : Nat) (σ0 σ : mS) (S : BS) : Prop := fr1 95 σ0 σ ∧ YBs G s S ∧ ∀ v, v < gN G → σ.1 95 v = enW (S.1 v)
def MY (G : GT) (s : Nat) (σ0 σ : mS) (S : BS) : Prop := fr1 9 σ0 σ ∧ YBs G s S ∧ ∀ v, v < gN G → σ.1 9 v = enR (S.1 v)
theorem fr1_X {G : GT} {σ σ' : mS} (h : fr1 95 σ σ') (hX : RX G σ) : RX G σ' := by
  obtain ⟨x1, x2, x3, x4, x5, x6⟩ := hX
  have h0 := h.1
  refine ⟨by rw [h0 _ _ (by decide)]; exact x1, by rw [h0 _ _ (by decide)]; exact x2, fun e he => ?_, fun v hv => by rw [h0 _ _ (by decide)]; exact x4 v hv, fun e => by rw [h.2]; exact x5 e, fun v => by rw [h0 _ _ (by decide)]; exact x6 v⟩
  rw [h0 _ _ (by decide), h0 _ _ (by decide), h0 _ _ (by decide), h0 _ _ (by decide), h0 _ _ (by decide)]
  exact x3 e he
theorem wi_pass {G : GT} {s : Nat} {σ0 σ : mS} {S : BS} (hW : WG G) (hX : RX G σ0) (hM : MX G s σ0 σ S) : ∃ u, lpN f_Wi_spread_L46 fuS (0, σ) = some u ∧ MX G s σ0 u.2 (rlP G (hWi G) S (gm G)) := by
  have hm := hW.2.1
  have hN := hW.1
  refine lpN_i (st := f_Wi_spread_L46) (fun i t => t.1 = nI i ∧ MX G s σ0 t.2 (rlP G (hWi G) S i)) (fun u => MX G s σ0 u.2 (rlP G (hWi G) S (gm G))) (gm G) (fun i t hi ht => ?_) fuS 0 (0, σ) ⟨rfl, hM⟩ (Nat.zero_le _) (by rw [fuS_e]; omega)
  obtain ⟨ti, t⟩ := t
  obtain ⟨t1, hMt⟩ := ht
  have t1 : ti = nI i := t1
  subst t1
  have hMt : MX G s σ0 t (rlP G (hWi G) S i) := hMt
  obtain ⟨hf, hY, hv⟩ := id hMt
  have hXt := fr1_X hf hX
  unfold f_Wi_spread_L46
  dsimp only
  rw [hXt.2.1]
  by_cases hc : i = gm G
  · subst hc
    left
    rw [if_pos (nI_le (Nat.le_refl _) (by omega))]
    exact ⟨_, rfl, hMt⟩
  · right
    have hi2 : i < gm G := by omega
    refine ⟨hi2, ?_⟩
    obtain ⟨gu, gv, gne, gwe, _⟩ := hW.2.2.1 i hi2
    rw [if_neg (nI_ge hi2 (by omega)), x_hasArc hW hXt, aIn_n hW hi2, Option.bind_some]
    obtain ⟨c1, c2, c3, _⟩ := hXt.2.2.1 i hi2
    cases hg : gl G i with
    | false =>
      rw [if_pos bF]
      refine ⟨_, rfl, nI_1 _, ?_⟩
      show MX G s σ0 t (rl1 G (hWi G) (rlP G (hWi G) S i) i)
      rw [rl1, if_neg (by unfold rlC; rw [hg, Bool.false_and]; decide)]
      exact hMt
    | true =>
      have hci : (nI i).toNatClampNeg = i := nI_clamp (by omega)
      have hcu : (nI (gf G i)).toNatClampNeg = gf G i := nI_clamp (by omega)
      have hcv : (nI (gt G i)).toNatClampNeg = gt G i := nI_clamp (by omega)
      rw [if_neg bT, hci, c1, c2, c3, hcu, hcv, hv _ gu, hv _ gv]
      have hb1 : inb (nI i) 40 = true := inb_n (by omega) (by decide)
      have hb2 : inb (nI (gf G i)) 10 = true := inb_n (by omega) (by decide)
      have hb3 : inb (nI (gt G i)) 10 = true := inb_n (by omega) (by decide)
      rw [gd_t hb1, gd_t hb2, gd_t hb1, nm_e2, gd_t hb1, gd_t hb1, gd_t hb3, gd_t hb3, nm_e2]
      refine ⟨_, rfl, nI_1 _, ?_⟩
      rw [enW_min gwe (YBs_le hY gu)]
      generalize hT : rlP G (hWi G) S i = T at *
      have hmin : min (T.1 (gf G i)) (gw G i + 1) = hWi G i (T.1 (gf G i)) := rfl
      rw [hmin]
      show MX G s σ0 _ (rl1 G (hWi G) (rlP G (hWi G) S i) i)
      rw [hT]
      have hle : hWi G i (T.1 (gf G i)) ≤ 1000000001 := Nat.le_trans (hWi_ok G _ _) (YBs_le hY gu)
      refine ⟨⟨fun k j hk => ?_, ?_⟩, YBs_1 hW hY hi2, fun v hvv => ?_⟩
      · rw [sI_1, if_neg hk]; exact hf.1 k j hk
      · rw [sI_2]; exact hf.2
      · rw [sI_1, if_pos rfl]
        by_cases hcc : rlC G (hWi G) T i = true
        · have hlt : T.1 (gt G i) < hWi G i (T.1 (gf G i)) := of_decide_eq_true (Bool.and_eq_true_iff.mp hcc).2
          rw [rl1, if_pos hcc]
          show _ = enW (va_up T.1 _ _ v)
          rw [if_pos ((enW_lt (YBs_le hY gv) hle).mpr hlt)]
          by_cases q : v = gt G i
          · subst q; rw [if_pos rfl, va_up_self]
          · rw [if_neg q, va_up_ne _ _ q]; exact hv v hvv
        · have hlt : ¬ T.1 (gt G i) < hWi G i (T.1 (gf G i)) := by
            intro q; apply hcc; unfold rlC; rw [hg, decide_eq_true q]; rfl
          rw [rl1, if_neg hcc, if_neg (fun q => hlt ((enW_lt (YBs_le hY gv) hle).mp q))]
          by_cases q : v = gt G i
          · subst q; rw [if_pos rfl]
          · rw [if_neg q]; exact hv v hvv
def S0 (s y : Nat) : BS := (fun v => if v = s then y else 0, fun v => if v = s then [(s, y)] else [])
theorem INV_0 {G : GT} {s y : Nat} (hs : s < gN G) : INV G (S0 s y) := by
  intro v hv h0
  have h0 : 0 < if v = s then y else 0 := h0
  by_cases q : v = s
  · subst q
    show (if v = v then [(v, y)] else []).length ≠ 0 ∧ ((if v = v then [(v, y)] else []).map (fun t : Nat × Nat => t.1)).Nodup ∧ ∀ t ∈ (if v = v then [(v, y)] else []), t.1 < gN G ∧ (if v = v then y else 0) ≤ t.2 ∧ t.2 ≤ (if t.1 = v then y else 0)
    rw [if_pos rfl, if_pos rfl]
    refine ⟨by simp, by simp, fun t ht => ?_⟩
    have ht := List.mem_singleton.mp ht
    subst ht
    exact ⟨hs, Nat.le_refl _, by rw [if_pos rfl]; exact Nat.le_refl _⟩
  · rw [if_neg q] at h0; omega
theorem x_wide {G : GT} {σ : mS} {s : Nat} (hW : WG G) (hX : RX G σ) (hs : s < gN G) : ∃ σ', f_Wi_spread σ (nI s) = some σ' ∧ MX G s σ σ' (rlR G (hWi G) (S0 s 1000000001) (gN G - 1)) := by
  have hN := hW.1
  unfold f_Wi_spread
  obtain ⟨u, u1, u2, u3⟩ := lpN_i (st := f_Wi_spread_L2 (nI s)) (fun i t => t.1 = nI i ∧ fr1 95 σ t.2 ∧ ∀ v, v < i → t.2.1 95 v = enW ((S0 s 1000000001).1 v)) (fun u => fr1 95 σ u.2 ∧ ∀ v, v < 10 → u.2.1 95 v = enW ((S0 s 1000000001).1 v)) 10 (fun i t hi ht => by
    obtain ⟨ti, t⟩ := t
    obtain ⟨t1, t2, t3⟩ := ht
    have t1 : ti = nI i := t1
    subst t1
    unfold f_Wi_spread_L2
    dsimp only
    by_cases hc : i = 10
    · subst hc
      left
      rw [if_pos (by decide)]
      exact ⟨_, rfl, t2, t3⟩
    · right
      have hi2 : i < 10 := by omega
      refine ⟨hi2, ?_⟩
      have hci : (nI i).toNatClampNeg = i := nI_clamp (by omega)
      rw [if_neg (show ¬ (10 : Int32) ≤ nI i from nI_ge (a := i) (b := 10) hi2 (by decide)), gd_t (inb_n hi2 (by decide)), nm_e2, gd_t (inb_n hi2 (by decide)), nm_e2, hci]
      have key : ∀ y : Int32, y = enW ((S0 s 1000000001).1 i) → fr1 95 σ (sI t 95 i y) ∧ ∀ v, v < i + 1 → (sI t 95 i y).1 95 v = enW ((S0 s 1000000001).1 v) := by
        intro y hy
        refine ⟨⟨fun k j hk => by rw [sI_1, if_neg hk]; exact t2.1 k j hk, by rw [sI_2]; exact t2.2⟩, fun v hv => ?_⟩
        rw [sI_1, if_pos rfl]
        by_cases q : v = i
        · rw [if_pos q, hy, q]
        · rw [if_neg q]; exact t3 v (by omega)
      by_cases q : i = s
      · subst q
        rw [if_pos rfl]
        exact ⟨_, rfl, nI_1 _, key _ (by show _ = enW (if i = i then _ else _); rw [if_pos rfl]; rfl)⟩
      · rw [if_neg (fun z => q ((nI_eq (by omega) (by omega)).mp z))]
        exact ⟨_, rfl, nI_1 _, key _ (by show _ = enW (if i = s then _ else _); rw [if_neg q]; rfl)⟩) fuS 0 (0, σ) ⟨rfl, ⟨fun _ _ _ => rfl, rfl⟩, fun v hv => absurd hv (Nat.not_lt_zero _)⟩ (Nat.zero_le _) (by rw [fuS_e]; omega)
  rw [u1, Option.bind_some]
  have hM0 : MX G s σ u.2 (S0 s 1000000001) := ⟨u2, ⟨if_pos rfl, fun v hv q => by show (if v = s then _ else _) ≤ _; rw [if_neg q]; omega⟩, fun v hv => u3 v (by omega)⟩
  obtain ⟨w, w1, w2⟩ := lpN_i (st := f_Wi_spread_L33) (fun i t => t.1 = nI (i + 1) ∧ MX G s σ t.2 (rlR G (hWi G) (S0 s 1000000001) i)) (fun u => MX G s σ u.2 (rlR G (hWi G) (S0 s 1000000001) (gN G - 1))) (gN G - 1) (fun i t hi ht => by
    obtain ⟨ti, t⟩ := t
    obtain ⟨t1, t2⟩ := ht
    have t1 : ti = nI (i + 1) := t1
    subst t1
    have t2 : MX G s σ t (rlR G (hWi G) (S0 s 1000000001) i) := t2
    have hXt := fr1_X t2.1 hX
    unfold f_Wi_spread_L33
    dsimp only
    rw [hXt.1]
    by_cases hc : i = gN G - 1
    · left
      rw [if_pos (nI_le (by omega) (by omega))]
      exact ⟨_, rfl, by rw [← hc]; exact t2⟩
    · right
      refine ⟨by omega, ?_⟩
      rw [if_neg (nI_ge (by omega) (by omega))]
      obtain ⟨p, p1, p2⟩ := wi_pass hW hX t2
      rw [p1, Option.bind_some]
      exact ⟨_, rfl, nI_1 _, p2⟩) fuS 0 (1, u.2) ⟨rfl, hM0⟩ (Nat.zero_le _) (by rw [fuS_e]; omega)
  rw [w1, Option.bind_some]
  exact ⟨_, rfl, w2⟩
theorem fr1_Y {G : GT} {τ τ' : mS} (h : fr1 9 τ τ') (hY : RY G τ) : RY G τ' := RY_c hY (fun k j hk => h.1 k j (by omega))
theorem yw_pass {G : GT} {s : Nat} {τ0 τ : mS} {S : BS} (hW : WG G) (hY0 : RY G τ0) (hM : MY G s τ0 τ S) : ∃ u, lpN f_Mo_widest_L67 fuB (0, 0, τ) = some u ∧ u.1 = bI (chg G (hWi G) S (gm G)) ∧ MY G s τ0 u.2.2 (rlP G (hWi G) S (gm G)) := by
  have hm := hW.2.1
  have hN := hW.1
  refine lpN_i (st := f_Mo_widest_L67) (fun i t => t.1 = bI (chg G (hWi G) S i) ∧ t.2.1 = nI i ∧ MY G s τ0 t.2.2 (rlP G (hWi G) S i)) (fun u => u.1 = bI (chg G (hWi G) S (gm G)) ∧ MY G s τ0 u.2.2 (rlP G (hWi G) S (gm G))) (gm G) (fun i t hi ht => ?_) fuB 0 (0, 0, τ) ⟨rfl, rfl, hM⟩ (Nat.zero_le _) (by rw [fuB_e]; omega)
  obtain ⟨tf, ti, t⟩ := t
  obtain ⟨t0, t1, hMt⟩ := ht
  have t0 : tf = bI (chg G (hWi G) S i) := t0
  have t1 : ti = nI i := t1
  subst t0
  subst t1
  have hMt : MY G s τ0 t (rlP G (hWi G) S i) := hMt
  obtain ⟨hf, hY, hv⟩ := id hMt
  have hYt := fr1_Y hf hY0
  unfold f_Mo_widest_L67
  dsimp only
  rw [hYt.2.1]
  by_cases hc : i = gm G
  · subst hc
    left
    rw [if_pos (nI_le (Nat.le_refl _) (by omega))]
    exact ⟨_, rfl, rfl, hMt⟩
  · right
    have hi2 : i < gm G := by omega
    refine ⟨hi2, ?_⟩
    obtain ⟨gu, gv, gne, gwe, _⟩ := hW.2.2.1 i hi2
    obtain ⟨c1, c2, c3, _, _, c6⟩ := hYt.2.2.1 i hi2
    have hci : (nI i).toNatClampNeg = i := nI_clamp (by omega)
    have hcu : (nI (gf G i)).toNatClampNeg = gf G i := nI_clamp (by omega)
    have hcv : (nI (gt G i)).toNatClampNeg = gt G i := nI_clamp (by omega)
    have hb1 : inb (nI i) 40 = true := inb_n (by omega) (by decide)
    have hb2 : inb (nI (gf G i)) 10 = true := inb_n (by omega) (by decide)
    have hb3 : inb (nI (gt G i)) 10 = true := inb_n (by omega) (by decide)
    have hyu := YBs_le hY gu
    have hyv := YBs_le hY gv
    rw [if_neg (nI_ge hi2 (by omega)), hci, c1, c3, hcu, hv _ gu, gd_t hb1, gd_t hb2, gd_t hb1, gd_t hb1, gd_t hb1, gd_t hb2]
    have hj : ∀ j5 : Int32, j5 = enR (hWi G i ((rlP G (hWi G) S i).1 (gf G i))) → ∃ t', f_Mo_widest_J120 (bI (chg G (hWi G) S i), nI i, t) j5 = some (.inl t') ∧ t'.1 = bI (chg G (hWi G) S (i + 1)) ∧ t'.2.1 = nI (i + 1) ∧ MY G s τ0 t'.2.2 (rlP G (hWi G) S (i + 1)) := by
      intro j5 hj5
      subst hj5
      unfold f_Mo_widest_J120
      dsimp only
      rw [hci, c6, c2, hcv, hv _ gv, gd_t hb1]
      have hle : hWi G i ((rlP G (hWi G) S i).1 (gf G i)) ≤ 1000000001 := Nat.le_trans (hWi_ok G _ _) hyu
      have hskip : rlC G (hWi G) (rlP G (hWi G) S i) i = false → ∃ t', some (Sum.inl (bI (chg G (hWi G) S i), nI i + 1, t) : (Int32 × Int32 × mS) ⊕ (Int32 × Int32 × mS)) = some (.inl t') ∧ t'.1 = bI (chg G (hWi G) S (i + 1)) ∧ t'.2.1 = nI (i + 1) ∧ MY G s τ0 t'.2.2 (rlP G (hWi G) S (i + 1)) := by
        intro q
        refine ⟨_, rfl, ?_, nI_1 _, ?_⟩
        · rw [chg, q, Bool.or_false]
        · rw [rlP, rl1, if_neg (by rw [q]; decide)]; exact hMt
      cases hg : gl G i with
      | false =>
        rw [if_pos bF]
        exact hskip (by unfold rlC; rw [hg, Bool.false_and])
      | true =>
        rw [if_neg bT, gd_t hb1, gd_t hb3]
        by_cases hcc : rlC G (hWi G) (rlP G (hWi G) S i) i = true
        · have hlt : (rlP G (hWi G) S i).1 (gt G i) < hWi G i ((rlP G (hWi G) S i).1 (gf G i)) := of_decide_eq_true (Bool.and_eq_true_iff.mp hcc).2
          rw [if_neg (fun q => Nat.not_le.mpr hlt ((enR_le (by omega) (by omega)).mp q)), gd_t hb1, gd_t hb3, nm_e2]
          refine ⟨_, rfl, ?_, nI_1 _, ⟨fun k j hk => ?_, ?_⟩, YBs_1 hW hY hi2, fun v hvv => ?_⟩
          · rw [chg, hcc, Bool.or_true]; rfl
          · rw [sI_1, if_neg hk]; exact hf.1 k j hk
          · rw [sI_2]; exact hf.2
          · rw [sI_1, if_pos rfl, rlP, rl1, if_pos hcc]
            show _ = enR (va_up _ _ _ v)
            by_cases q : v = gt G i
            · subst q; rw [if_pos rfl, va_up_self]
            · rw [if_neg q, va_up_ne _ _ q]; exact hv v hvv
        · have hlt : ¬ (rlP G (hWi G) S i).1 (gt G i) < hWi G i ((rlP G (hWi G) S i).1 (gf G i)) := by
            intro q; apply hcc; unfold rlC; rw [hg, decide_eq_true q]; rfl
          rw [if_pos ((enR_le (by omega) (by omega)).mpr (by omega))]
          exact hskip (by simpa using hcc)
    by_cases q : nI (gw G i) ≤ enR ((rlP G (hWi G) S i).1 (gf G i))
    · rw [if_pos q]
      exact hj _ ((enR_min gwe (by omega)).1 q)
    · rw [if_neg q]
      exact hj _ ((enR_min gwe (by omega)).2 q)
theorem y_wide {G : GT} {τ : mS} {s : Nat} (hW : WG G) (hY : RY G τ) (hs : s < gN G) : ∃ u, ((lpN (f_Mo_widest_L25 (nI s)) fuB (0, τ)).bind fun u25 => lpN (f_Mo_widest_L58) fuB (1, u25.2)) = some u ∧ MY G s τ u.2 (rlR G (hWi G) (S0 s 1000000001) (gN G - 1)) := by
  have hN := hW.1
  obtain ⟨u, u1, u2, u3⟩ := lpN_i (st := f_Mo_widest_L25 (nI s)) (fun i t => t.1 = nI i ∧ fr1 9 τ t.2 ∧ ∀ v, v < i → t.2.1 9 v = enR ((S0 s 1000000001).1 v)) (fun u => fr1 9 τ u.2 ∧ ∀ v, v < gN G → u.2.1 9 v = enR ((S0 s 1000000001).1 v)) (gN G) (fun i t hi ht => by
    obtain ⟨ti, t⟩ := t
    obtain ⟨t1, t2, t3⟩ := ht
    have t1 : ti = nI i := t1
    subst t1
    have t2 : fr1 9 τ t := t2
    unfold f_Mo_widest_L25
    dsimp only
    rw [(fr1_Y t2 hY).1]
    by_cases hc : i = gN G
    · subst hc
      left
      rw [if_pos (nI_le (Nat.le_refl _) (by omega))]
      exact ⟨_, rfl, t2, t3⟩
    · right
      have hi2 : i < gN G := by omega
      refine ⟨hi2, ?_⟩
      have hci : (nI i).toNatClampNeg = i := nI_clamp (by omega)
      have hb : inb (nI i) 10 = true := inb_n (by omega) (by decide)
      rw [if_neg (nI_ge hi2 (by omega)), gd_t hb, nm_e2, gd_t hb, nm_e2, hci]
      have key : ∀ y : Int32, y = enR ((S0 s 1000000001).1 i) → fr1 9 τ (sI t 9 i y) ∧ ∀ v, v < i + 1 → (sI t 9 i y).1 9 v = enR ((S0 s 1000000001).1 v) := by
        intro y hy
        refine ⟨⟨fun k j hk => by rw [sI_1, if_neg hk]; exact t2.1 k j hk, by rw [sI_2]; exact t2.2⟩, fun v hv => ?_⟩
        rw [sI_1, if_pos rfl]
        by_cases q : v = i
        · rw [if_pos q, hy, q]
        · rw [if_neg q]; exact t3 v (by omega)
      by_cases q : i = s
      · subst q
        rw [if_pos rfl]
        exact ⟨_, rfl, nI_1 _, key _ (by show _ = enR (if i = i then _ else _); rw [if_pos rfl]; rfl)⟩
      · rw [if_neg (fun z => q ((nI_eq (by omega) (by omega)).mp z))]
        exact ⟨_, rfl, nI_1 _, key _ (by show _ = enR (if i = s then _ else _); rw [if_neg q]; rfl)⟩) fuB 0 (0, τ) ⟨rfl, ⟨fun _ _ _ => rfl, rfl⟩, fun v hv => absurd hv (Nat.not_lt_zero _)⟩ (Nat.zero_le _) (by rw [fuB_e]; omega)
  rw [u1, Option.bind_some]
  have hM0 : MY G s τ u.2 (S0 s 1000000001) := ⟨u2, ⟨if_pos rfl, fun v hv q => by show (if v = s then _ else _) ≤ _; rw [if_neg q]; omega⟩, fun v hv => u3 v hv⟩
  refine rounds_e (MY G s τ) hW (by omega) (INV_0 hs) (hWi_ok G) (fun t => rfl) (fun t T _ hM => ?_) hM0
  unfold f_Mo_widest_L58
  dsimp only
  rw [if_neg n10]
  obtain ⟨p, p1, p2, p3⟩ := yw_pass hW hY hM
  rw [p1, Option.bind_some, ← p2]
  exact ⟨_, rfl, p3⟩
theorem p_widest {G : GT} {σ τ : mS} (R : Rel G σ τ) (x y : Int32) : Ok2 (f_LP_widest σ x y) (f_Mo_widest τ x y) := by
  obtain ⟨hW, hX, hY, hI, hh, hr⟩ := id R
  have hN := hW.1
  unfold f_LP_widest f_Mo_widest
  rw [x_isPair hW hX, y_isNode hW hY, y_isNode hW hY, Option.bind_some, Option.bind_some, Option.bind_some]
  cases ex : inb x (gN G) with
  | false => exact ⟨-1, σ, τ, G, rfl, rfl, R⟩
  | true =>
    cases ey : inb y (gN G) with
    | false => exact ⟨-1, σ, τ, G, rfl, rfl, R⟩
    | true =>
      rw [if_neg bT, if_neg bT]
      by_cases q : x = y
      · rw [if_pos q, decide_eq_true q]
        exact ⟨-1, σ, τ, G, rfl, rfl, R⟩
      · rw [if_neg q, decide_eq_false q, show (true && true && !false) = true from rfl, if_neg bT]
        obtain ⟨a, ha, rfl⟩ := inb_e ex (by omega)
        obtain ⟨b, hb, rfl⟩ := inb_e ey (by omega)
        have hab : b ≠ a := fun z => q (by rw [z])
        obtain ⟨σ', s1, s2⟩ := x_wide hW hX ha
        obtain ⟨u, u1, u2⟩ := y_wide hW hY ha
        rw [s1, Option.bind_some]
        cases h25 : lpN (f_Mo_widest_L25 (nI a)) fuB (0, τ) with
        | none => rw [h25] at u1; exact absurd u1 (by simp)
        | some w =>
          rw [h25, Option.bind_some] at u1
          rw [Option.bind_some, u1, Option.bind_some]
          have hcb : (nI b).toNatClampNeg = b := nI_clamp (by omega)
          have hbb : inb (nI b) 10 = true := inb_n (by omega) (by decide)
          obtain ⟨f1, y1, v1⟩ := s2
          obtain ⟨f2, y2, v2⟩ := u2
          rw [gd_t hbb, gd_t hbb, gd_t hbb, gd_t hbb, hcb, v1 b hb, v2 b hb]
          generalize rlR G (hWi G) (S0 a 1000000001) (gN G - 1) = T at *
          have R' : Rel G σ' u.2 := Rel_y (Rel_x R (fun k j hk => f1.1 k j (by omega)) (by rw [f1.2]) (by rw [f1.2]) (by rw [f1.2])) (fun k j hk => f2.1 k j (by omega))
          have hle := y1.2 b hb hab
          by_cases z : T.1 b = 0
          · rw [z]
            exact ⟨-3, σ', u.2, G, rfl, rfl, R'⟩
          · have e1 : enW (T.1 b) = nI (T.1 b - 1) := by unfold enW; rw [if_neg z, if_neg (by omega)]
            have e2 : enR (T.1 b) = nI (T.1 b - 1) := by unfold enR; rw [if_neg z]
            rw [e1, e2, if_neg (nI_m1 (by omega)), if_pos (show (0 : Int32) ≤ nI (T.1 b - 1) from nI_le (a := 0) (Nat.zero_le _) (by omega))]
            exact ⟨_, σ', u.2, G, rfl, rfl, R'⟩
