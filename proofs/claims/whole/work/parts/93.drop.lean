-- ===== PURE: counting bits; drop =====
theorem lN_and (a b : Nat) : lN a &&& lN b = lN (a &&& b) := by
  apply Int64.toBitVec_inj.mp
  rw [Int64.toBitVec_and]
  show BitVec.ofNat 64 a &&& BitVec.ofNat 64 b = BitVec.ofNat 64 (a &&& b)
  rw [BitVec.ofNat_and]
theorem nI_and (a b : Nat) : nI a &&& nI b = nI (a &&& b) := by
  apply Int32.toBitVec_inj.mp
  rw [Int32.toBitVec_and]
  show BitVec.ofNat 32 a &&& BitVec.ofNat 32 b = BitVec.ofNat 32 (a &&& b)
  rw [BitVec.ofNat_and]
theorem lN_ushr {a : Nat} (k : Nat) (s : UInt64) (hs : (s.toBitVec % 64#64).toNat = k) (ha : a < 2 ^ 64) : ((lN a).toUInt64 >>> s).toInt64 = lN (a / 2 ^ k) := by
  apply Int64.toBitVec_inj.mp
  show ((lN a).toUInt64 >>> s).toBitVec = BitVec.ofNat 64 (a / 2 ^ k)
  rw [UInt64.toBitVec_shiftRight]
  show (BitVec.ofNat 64 a) >>> (s.toBitVec % 64#64) = _
  apply BitVec.eq_of_toNat_eq
  rw [BitVec.ushiftRight_eq', BitVec.toNat_ushiftRight, hs, BitVec.toNat_ofNat, BitVec.toNat_ofNat, Nat.mod_eq_of_lt ha, Nat.shiftRight_eq_div_pow, Nat.mod_eq_of_lt (Nat.lt_of_le_of_lt (Nat.div_le_self _ _) ha)]
theorem and8 {a b c d : Nat} (ha : a < 256) (hc : c < 256) : (a + 256 * b) &&& (c + 256 * d) = (a &&& c) + 256 * (b &&& d) := by
  have h1 := Nat.and_mod_two_pow (a := a + 256 * b) (b := c + 256 * d) (n := 8)
  have h2 := Nat.and_div_two_pow (a := a + 256 * b) (b := c + 256 * d) (n := 8)
  rw [show (2 : Nat) ^ 8 = 256 from rfl] at h1 h2
  rw [show (a + 256 * b) % 256 = a by omega, show (c + 256 * d) % 256 = c by omega] at h1
  rw [show (a + 256 * b) / 256 = b by omega, show (c + 256 * d) / 256 = d by omega] at h2
  omega
def mk8 (a : Nat) : Nat → Nat
  | 0 => 0
  | n + 1 => a + 256 * mk8 a n
def g81 (n N : Nat) : Nat := N - ((N / 2) &&& mk8 0x55 n)
def g82 (n N : Nat) : Nat := (N &&& mk8 0x33 n) + ((N / 4) &&& mk8 0x33 n)
def g83 (n N : Nat) : Nat := (N + N / 16) &&& mk8 0x0f n
theorem d81 : ∀ B, B < 256 → ∀ r, r < 2 → (B / 2 + 128 * r) &&& 0x55 = (B / 2) &&& 0x55 ∧ (B / 2) &&& 0x55 ≤ B := by decide +kernel
theorem d82 : ∀ B, B < 256 → ∀ r, r < 4 → (B / 4 + 64 * r) &&& 0x33 = (B / 4) &&& 0x33 := by decide +kernel
def by81 (B : Nat) : Nat := B - ((B / 2) &&& 0x55)
def by82 (B : Nat) : Nat := (B &&& 0x33) + ((B / 4) &&& 0x33)
def by8 (B : Nat) : Nat := by82 (by81 B) % 16 + by82 (by81 B) / 16
theorem d83 : ∀ B, B < 256 → by81 B < 256 ∧ by82 (by81 B) < 256 ∧ by82 (by81 B) % 16 ≤ 4 ∧ by82 (by81 B) / 16 ≤ 4 ∧ by8 B = sN (fun i => if Nat.testBit B i = true then 1 else 0) 8 ∧ by8 B ≤ 8 := by decide +kernel
theorem g81_s {n B R : Nat} (hB : B < 256) : g81 (n + 1) (B + 256 * R) = by81 B + 256 * g81 n R := by
  unfold g81 by81
  rw [show (B + 256 * R) / 2 = (B / 2 + 128 * (R % 2)) + 256 * (R / 2) by omega, mk8, and8 (by omega) (by decide), (d81 B hB (R % 2) (by omega)).1]
  have h1 := (d81 B hB 0 (by omega)).2
  have h2 : R / 2 &&& mk8 85 n ≤ R / 2 := Nat.and_le_left
  omega
theorem g82_s {n B R : Nat} (hB : B < 256) : g82 (n + 1) (B + 256 * R) = by82 B + 256 * g82 n R := by
  unfold g82 by82
  rw [show (B + 256 * R) / 4 = (B / 4 + 64 * (R % 4)) + 256 * (R / 4) by omega, mk8, and8 hB (by decide), and8 (by omega) (by decide), d82 B hB (R % 4) (by omega)]
  omega
theorem g83_s {n B R : Nat} (hB : B < 256) (h1 : B % 16 ≤ 4) (h2 : B / 16 ≤ 4) (h3 : R % 16 ≤ 4) : g83 (n + 1) (B + 256 * R) = (B % 16 + B / 16) + 256 * g83 n R := by
  unfold g83
  rw [show B + 256 * R + (B + 256 * R) / 16 = (B + B / 16 + 16 * (R % 16)) + 256 * (R + R / 16) by omega, mk8, and8 (by omega) (by decide), show (15 : Nat) = 2 ^ 4 - 1 from rfl, Nat.and_two_pow_sub_one_eq_mod]
  omega
theorem g8_low {n N : Nat} : g82 n (g81 n N) % 16 ≤ 4 := by
  cases n with
  | zero => unfold g82 g81 mk8; simp
  | succ n =>
    rw [show N = N % 256 + 256 * (N / 256) by omega, g81_s (by omega), g82_s (d83 _ (by omega)).1]
    have := (d83 (N % 256) (by omega)).2.2.1
    omega
theorem g8_s {n B R : Nat} (hB : B < 256) : g83 (n + 1) (g82 (n + 1) (g81 (n + 1) (B + 256 * R))) = by8 B + 256 * g83 n (g82 n (g81 n R)) := by
  obtain ⟨a1, a2, a3, a4, a5, a6⟩ := d83 B hB
  rw [g81_s hB, g82_s a1, g83_s a2 a3 a4 g8_low]
  rfl
theorem bit8 {N k : Nat} : by8 (N / 2 ^ k % 256) = sN (fun i => if Nat.testBit N (k + i) = true then 1 else 0) 8 := by
  rw [(d83 _ (by omega)).2.2.2.2.1]
  refine sN_c 8 (fun i hi => ?_)
  rw [show (256 : Nat) = 2 ^ 8 from rfl, Nat.testBit_mod_two_pow, Nat.testBit_div_two_pow, Nat.add_comm i k]
  simp [hi]
theorem sN_app (f : Nat → Nat) (n : Nat) : ∀ m, sN f (n + m) = sN f n + sN (fun i => f (n + i)) m := by
  intro m
  induction m with
  | zero => rfl
  | succ m ih => rw [← Nat.add_assoc, sN, ih, sN]; omega
theorem five8 {b0 b1 b2 b3 b4 : Nat} (h0 : b0 < 256) (h1 : b1 < 256) (h2 : b2 < 256) (h3 : b3 < 256) (h4 : b4 < 256) : g83 8 (g82 8 (g81 8 (b0 + 256 * (b1 + 256 * (b2 + 256 * (b3 + 256 * (b4 + 256 * 0))))))) = by8 b0 + 256 * (by8 b1 + 256 * (by8 b2 + 256 * (by8 b3 + 256 * by8 b4))) := by
  have z : g83 3 (g82 3 (g81 3 0)) = 0 := by decide
  rw [g8_s h0, g8_s h1, g8_s h2, g8_s h3, g8_s h4, z, Nat.mul_zero, Nat.add_zero]
theorem fin8 {s0 s1 s2 s3 s4 : Nat} (h0 : s0 ≤ 8) (h1 : s1 ≤ 8) (h2 : s2 ≤ 8) (h3 : s3 ≤ 8) (h4 : s4 ≤ 8) {v3 v4 v5 v6 : Nat} (e3 : v3 = s0 + 256 * (s1 + 256 * (s2 + 256 * (s3 + 256 * s4)))) (e4 : v4 = v3 + v3 / 2 ^ 8) (e5 : v5 = v4 + v4 / 2 ^ 16) (e6 : v6 = v5 + v5 / 2 ^ 32) : v6 % 128 = s0 + s1 + s2 + s3 + s4 ∧ v3 < 2 ^ 40 ∧ v4 < 2 ^ 41 ∧ v5 < 2 ^ 42 := by
  have a4 : v3 / 2 ^ 8 = s1 + 256 * (s2 + 256 * (s3 + 256 * s4)) := by omega
  have b4 : v4 = (s0 + s1) + 256 * (s1 + s2 + 256 * (s2 + s3 + 256 * (s3 + s4 + 256 * s4))) := by omega
  have a5 : v4 / 2 ^ 16 = s2 + s3 + 256 * (s3 + s4 + 256 * s4) := by omega
  have b5 : v5 = (s0 + s1 + s2 + s3) + 256 * (s1 + s2 + s3 + s4 + 256 * (s2 + s3 + s4 + 256 * (s3 + s4 + 256 * s4))) := by omega
  have a6 : v5 / 2 ^ 32 = s4 := by omega
  exact ⟨by omega, by omega, by omega, by omega⟩
theorem count_bits {N : Nat} (hN : N < 2 ^ 40) (σ : mS) : f_JL_bitCount σ (lN N) = some (nI (sN (fun i => if Nat.testBit N i = true then 1 else 0) 40)) := by
  have hg1 : g81 8 N ≤ N := Nat.sub_le _ _
  have hg2 : g82 8 (g81 8 N) ≤ 2 * N := by
    unfold g82
    have h1 : g81 8 N &&& mk8 0x33 8 ≤ g81 8 N := Nat.and_le_left
    have h2 : g81 8 N / 4 &&& mk8 0x33 8 ≤ g81 8 N / 4 := Nat.and_le_left
    omega
  have hs : g83 8 (g82 8 (g81 8 N)) = by8 (N / 2 ^ 0 % 256) + 256 * (by8 (N / 2 ^ 8 % 256) + 256 * (by8 (N / 2 ^ 16 % 256) + 256 * (by8 (N / 2 ^ 24 % 256) + 256 * by8 (N / 2 ^ 32 % 256)))) := by
    have e : N = N / 2 ^ 0 % 256 + 256 * (N / 2 ^ 8 % 256 + 256 * (N / 2 ^ 16 % 256 + 256 * (N / 2 ^ 24 % 256 + 256 * (N / 2 ^ 32 % 256 + 256 * 0)))) := by omega
    have f := five8 (b0 := N / 2 ^ 0 % 256) (b1 := N / 2 ^ 8 % 256) (b2 := N / 2 ^ 16 % 256) (b3 := N / 2 ^ 24 % 256) (b4 := N / 2 ^ 32 % 256) (by omega) (by omega) (by omega) (by omega) (by omega)
    rw [← e] at f
    exact f
  obtain ⟨r1, r2, r3, r4⟩ := fin8 (d83 _ (by omega)).2.2.2.2.2 (d83 _ (by omega)).2.2.2.2.2 (d83 _ (by omega)).2.2.2.2.2 (d83 _ (by omega)).2.2.2.2.2 (d83 _ (by omega)).2.2.2.2.2 hs rfl rfl rfl
  have hsum : sN (fun i => if Nat.testBit N i = true then 1 else 0) 40 = by8 (N / 2 ^ 0 % 256) + by8 (N / 2 ^ 8 % 256) + by8 (N / 2 ^ 16 % 256) + by8 (N / 2 ^ 24 % 256) + by8 (N / 2 ^ 32 % 256) := by
    rw [bit8, bit8, bit8, bit8, bit8, show (40 : Nat) = 32 + 8 from rfl, sN_app, show (32 : Nat) = 24 + 8 from rfl, sN_app, show (24 : Nat) = 16 + 8 from rfl, sN_app, show (16 : Nat) = 8 + 8 from rfl, sN_app]
    simp only [Nat.zero_add]
  have u1 : ∀ {a : Nat}, a < 2 ^ 64 → ((lN a).toUInt64 >>> ((1 : Int32).toInt64.toUInt64 &&& Int64.toUInt64 63)).toInt64 = lN (a / 2) := fun h => lN_ushr 1 _ (by decide) h
  have u2 : ∀ {a : Nat}, a < 2 ^ 64 → ((lN a).toUInt64 >>> ((2 : Int32).toInt64.toUInt64 &&& Int64.toUInt64 63)).toInt64 = lN (a / 4) := fun h => lN_ushr 2 _ (by decide) h
  have u4 : ∀ {a : Nat}, a < 2 ^ 64 → ((lN a).toUInt64 >>> ((4 : Int32).toInt64.toUInt64 &&& Int64.toUInt64 63)).toInt64 = lN (a / 16) := fun h => lN_ushr 4 _ (by decide) h
  have u8 : ∀ {a : Nat}, a < 2 ^ 64 → ((lN a).toUInt64 >>> ((8 : Int32).toInt64.toUInt64 &&& Int64.toUInt64 63)).toInt64 = lN (a / 2 ^ 8) := fun h => lN_ushr 8 _ (by decide) h
  have u16 : ∀ {a : Nat}, a < 2 ^ 64 → ((lN a).toUInt64 >>> ((16 : Int32).toInt64.toUInt64 &&& Int64.toUInt64 63)).toInt64 = lN (a / 2 ^ 16) := fun h => lN_ushr 16 _ (by decide) h
  have u32 : ∀ {a : Nat}, a < 2 ^ 64 → ((lN a).toUInt64 >>> ((32 : Int32).toInt64.toUInt64 &&& Int64.toUInt64 63)).toInt64 = lN (a / 2 ^ 32) := fun h => lN_ushr 32 _ (by decide) h
  unfold f_JL_bitCount
  simp only [nm]
  have e1 : lN N - (((lN N).toUInt64 >>> ((1 : Int32).toInt64.toUInt64 &&& Int64.toUInt64 63)).toInt64 &&& 6148914691236517205) = lN (g81 8 N) := by
    rw [u1 (by omega), show (6148914691236517205 : Int64) = lN (mk8 0x55 8) from rfl, lN_and, lN_sub (Nat.le_trans Nat.and_le_left (Nat.div_le_self _ _))]
    rfl
  have e2 : (lN (g81 8 N) &&& 3689348814741910323) + (((lN (g81 8 N)).toUInt64 >>> ((2 : Int32).toInt64.toUInt64 &&& Int64.toUInt64 63)).toInt64 &&& 3689348814741910323) = lN (g82 8 (g81 8 N)) := by
    rw [u2 (by omega), show (3689348814741910323 : Int64) = lN (mk8 0x33 8) from rfl, lN_and, lN_and, lN_add]
    rfl
  have e3 : (lN (g82 8 (g81 8 N)) + ((lN (g82 8 (g81 8 N))).toUInt64 >>> ((4 : Int32).toInt64.toUInt64 &&& Int64.toUInt64 63)).toInt64) &&& 1085102592571150095 = lN (g83 8 (g82 8 (g81 8 N))) := by
    rw [u4 (by omega), show (1085102592571150095 : Int64) = lN (mk8 0x0f 8) from rfl, lN_add, lN_and]
    rfl
  rw [e1, e2, e3, u8 (by omega), lN_add, u16 (by omega), lN_add, u32 (by omega), lN_add, lN_i, show (127 : Int32) = nI (2 ^ 7 - 1) from rfl, nI_and, Nat.and_two_pow_sub_one_eq_mod, hsum, ← r1]
theorem live_nat (x : Int64) : x = lN x.toBitVec.toNat ∧ ∀ i, Nat.testBit x.toBitVec.toNat i = b64 x i := by
  refine ⟨?_, fun i => ?_⟩
  · apply Int64.toBitVec_inj.mp
    show x.toBitVec = BitVec.ofNat 64 x.toBitVec.toNat
    rw [BitVec.ofNat_toNat, BitVec.setWidth_eq]
  · unfold b64; rw [BitVec.testBit_toNat]
theorem p_drop {G : GT} {σ τ : mS} (R : Rel G σ τ) (x : Int32) : Ok2 (f_LP_drop σ x) (f_Mo_drop τ x) := by
  obtain ⟨hW, hX, hY, hI, hh, hr⟩ := id R
  have hm := hW.2.1
  unfold f_LP_drop f_Mo_drop
  rw [x_hasArc hW hX, y_isArc hW hY]
  cases ex : aIn G x with
  | false => exact ⟨-1, σ, τ, G, rfl, rfl, R⟩
  | true =>
    have hx1 : inb x (gm G) = true := by
      unfold aIn at ex
      exact (Bool.and_eq_true_iff.mp ex).1
    obtain ⟨e0, he0, rfl⟩ := inb_e hx1 (by omega)
    obtain ⟨x1, x2, x3, x4, x5, x6⟩ := hX
    obtain ⟨y1, y2, y3, y4⟩ := hY
    have hcl : (nI e0).toNatClampNeg = e0 := nI_clamp (by omega)
    rw [Option.bind_some, Option.bind_some, if_neg bT, if_neg bT, gd_t (inb_n (by omega) (by decide)), gd_t (by decide), nm_e2, nm_e2, hcl]
    unfold f_Mo_change
    simp only [nm, Option.bind_some]
    generalize hlv : σ.2.1 1 8 &&& ((1 <<< ((nI e0).toInt64 &&& 63)) ^^^ (-1)) = lv
    have hbit : ∀ e, b64 lv e = (decide (e < gm G) && va_up (gl G) e0 false e) := by
      intro e
      rw [← hlv, b64_clr _ (by omega), x5 e]
      by_cases q : e = e0
      · subst q; rw [va_up_self]; simp
      · rw [va_up_ne _ _ q]; simp [q]
    have e8 : (sJ σ 1 8 lv).2.1 1 8 = lv := by rw [sJ_2, if_pos rfl, if_pos rfl]
    rw [e8]
    obtain ⟨n1, n2⟩ := live_nat lv
    have hlt : lv.toBitVec.toNat < 2 ^ 40 := by
      apply Nat.lt_pow_two_of_testBit
      intro i hi
      rw [n2, hbit]
      have : ¬ i < gm G := by omega
      simp [this]
    have hcount := count_bits hlt (sJ σ 1 8 lv)
    rw [← n1] at hcount
    rw [hcount, Option.bind_some]
    -- the same count, arc by arc
    have hsum : ∀ n, n ≤ 40 - gm G → sN (fun i => if Nat.testBit lv.toBitVec.toNat i = true then 1 else 0) (gm G + n) = sN (fun i => if va_up (gl G) e0 false i = true then 1 else 0) (gm G) := by
      intro n
      induction n with
      | zero =>
        intro _
        refine sN_c _ (fun i hi => ?_)
        have hi : i < gm G := hi
        rw [n2, hbit]
        simp [hi]
      | succ n ih =>
        intro hn
        rw [← Nat.add_assoc, sN, ih (by omega), n2, hbit]
        have : ¬ gm G + n < gm G := by omega
        simp [this]
    have h40 := hsum (40 - gm G) (Nat.le_refl _)
    rw [show gm G + (40 - gm G) = 40 by omega] at h40
    rw [h40]
    generalize hτ : sI (sI τ 6 e0 0) 0 21 (-1) = τ2
    have hY2 : RY (gN G, gm G, gf G, gt G, gw G, ga G, gb G, va_up (gl G) e0 false, gs G, gr G) τ2 := by
      subst hτ
      refine ⟨?_, ?_, fun e he => ?_, fun v hv => ?_⟩
      · simpa [sI_1, gN] using y1
      · simpa [sI_1, gm] using y2
      · show _ = nI (gf G e) ∧ _ = nI (gt G e) ∧ _ = nI (gw G e) ∧ _ = nI (ga G e) ∧ _ = nI (gb G e) ∧ _ = bI (va_up (gl G) e0 false e)
        have q3 := y3 e he
        by_cases q : e = e0
        · subst q; rw [va_up_self]
          exact ⟨by simpa [sI_1] using q3.1, by simpa [sI_1] using q3.2.1, by simpa [sI_1] using q3.2.2.1, by simpa [sI_1] using q3.2.2.2.1, by simpa [sI_1] using q3.2.2.2.2.1, by simp [sI_1, bI]⟩
        · rw [va_up_ne _ _ q]; simpa [sI_1, q] using q3
      · simpa [sI_1, gs, gr] using y4 v hv
    obtain ⟨u, u1, u2⟩ := lpN_i (st := f_Mo_drop_L25 τ2) (fun i t => t = (nI (sN (fun i => if va_up (gl G) e0 false i = true then 1 else 0) i), nI i)) (fun u => u.1 = nI (sN (fun i => if va_up (gl G) e0 false i = true then 1 else 0) (gm G))) (gm G) (fun i t hi ht => by
      subst ht
      unfold f_Mo_drop_L25
      dsimp only
      have e2 : τ2.1 0 2 = nI (gm G) := hY2.2.1
      rw [e2]
      by_cases hc : i = gm G
      · subst hc
        left
        rw [if_pos (nI_le (Nat.le_refl _) (by omega))]
        exact ⟨_, rfl, rfl⟩
      · right
        have hi2 : i < gm G := by omega
        refine ⟨hi2, ?_⟩
        have e6 : τ2.1 6 i = bI (va_up (gl G) e0 false i) := (hY2.2.2.1 i hi2).2.2.2.2.2
        rw [if_neg (nI_ge hi2 (by omega)), gd_t (inb_n (by omega) (by decide)), nI_clamp (by omega), e6]
        simp only [nm]
        cases hg : va_up (gl G) e0 false i with
        | false =>
          rw [if_pos bF]
          refine ⟨_, rfl, ?_⟩
          rw [sN, hg, if_neg (by decide), nI_1, Int32.add_zero]
          rfl
        | true =>
          rw [if_neg bT]
          refine ⟨_, rfl, ?_⟩
          rw [sN, hg, if_pos rfl, nI_1, nI_1]) fuB 0 (0, 0) rfl (Nat.zero_le _) (by rw [fuB_e]; omega)
    rw [u1, Option.bind_some, u2]
    refine ⟨_, _, _, (gN G, gm G, gf G, gt G, gw G, ga G, gb G, va_up (gl G) e0 false, gs G, gr G), rfl, rfl, hW, ⟨x1, x2, x3, x4, fun e => ?_, x6⟩, hY2, ?_, ?_, Or.inl ?_⟩
    · show b64 ((sJ σ 1 8 lv).2.1 1 8) e = _
      rw [e8]; exact hbit e
    · exact IX_c hI (fun k j hk => rfl) (by rw [sJ_2, if_neg (by decide)]) rfl
    · subst hτ; simpa [sI_1, sJ_1] using hh
    · subst hτ; simp [sI_1]
