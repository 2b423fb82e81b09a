-- ===== PURE: bits =====
def b64 (x : Int64) (i : Nat) : Bool := x.toBitVec.getLsbD i
def b32 (x : Int32) (i : Nat) : Bool := x.toBitVec.getLsbD i
theorem b64_ext {x y : Int64} (h : ∀ i, i < 64 → b64 x i = b64 y i) : x = y := by
  apply Int64.toBitVec_inj.mp
  apply BitVec.eq_of_getLsbD_eq
  intro i hi
  exact h i hi
theorem b32_ext {x y : Int32} (h : ∀ i, i < 32 → b32 x i = b32 y i) : x = y := by
  apply Int32.toBitVec_inj.mp
  apply BitVec.eq_of_getLsbD_eq
  intro i hi
  exact h i hi
theorem b64_and (x y : Int64) (i : Nat) : b64 (x &&& y) i = (b64 x i && b64 y i) := by simp [b64]
theorem b64_or (x y : Int64) (i : Nat) : b64 (x ||| y) i = (b64 x i || b64 y i) := by simp [b64]
theorem b64_xor (x y : Int64) (i : Nat) : b64 (x ^^^ y) i = (b64 x i ^^ b64 y i) := by simp [b64]
theorem b32_and (x y : Int32) (i : Nat) : b32 (x &&& y) i = (b32 x i && b32 y i) := by simp [b32]
theorem b32_or (x y : Int32) (i : Nat) : b32 (x ||| y) i = (b32 x i || b32 y i) := by simp [b32]
theorem b32_xor (x y : Int32) (i : Nat) : b32 (x ^^^ y) i = (b32 x i ^^ b32 y i) := by simp [b32]
theorem b64_0 (i : Nat) : b64 0 i = false := by simp [b64]
theorem b32_0 (i : Nat) : b32 0 i = false := by simp [b32]
theorem b64_big {x : Int64} {i : Nat} (h : 64 ≤ i) : b64 x i = false := BitVec.getLsbD_of_ge _ _ h
theorem b32_big {x : Int32} {i : Nat} (h : 32 ≤ i) : b32 x i = false := BitVec.getLsbD_of_ge _ _ h
theorem b64_m1 : ∀ i, i < 64 → b64 (-1) i = true := by decide +kernel
theorem b32_m1 : ∀ i, i < 32 → b32 (-1) i = true := by decide +kernel
theorem b64_1 (i : Nat) : b64 1 i = decide (i = 0) := by
  show (1#64).getLsbD i = _
  rw [BitVec.getLsbD_one]
  by_cases h : i = 0 <;> simp [h]
theorem b32_1 (i : Nat) : b32 1 i = decide (i = 0) := by
  show (1#32).getLsbD i = _
  rw [BitVec.getLsbD_one]
  by_cases h : i = 0 <;> simp [h]
theorem sh64 : ∀ k, k < 64 → (((nI k).toInt64 &&& 63).toBitVec.smod 64).toNat = k := by decide +kernel
theorem sh32 : ∀ k, k < 32 → ((nI k &&& 31).toBitVec.smod 32).toNat = k := by decide +kernel
theorem b64_shl (x : Int64) {k i : Nat} (hk : k < 64) : b64 (x <<< ((nI k).toInt64 &&& 63)) i = (decide (i < 64) && decide (k ≤ i) && b64 x (i - k)) := by
  unfold b64
  rw [Int64.toBitVec_shiftLeft]
  show (x.toBitVec <<< ((((nI k).toInt64 &&& 63).toBitVec.smod 64)).toNat).getLsbD i = _
  rw [sh64 k hk, BitVec.getLsbD_shiftLeft]
  by_cases h : k ≤ i
  · simp [h, Nat.not_lt.mpr h]
  · simp [h, Nat.lt_of_not_le h]
theorem b64_shr (x : Int64) {k i : Nat} (hk : k < 64) (hi : k + i < 64) : b64 (x >>> ((nI k).toInt64 &&& 63)) i = b64 x (k + i) := by
  unfold b64
  rw [Int64.toBitVec_shiftRight]
  show (x.toBitVec.sshiftRight ((((nI k).toInt64 &&& 63).toBitVec.smod 64)).toNat).getLsbD i = _
  rw [sh64 k hk, BitVec.getLsbD_sshiftRight]
  have h2 : ¬ 64 ≤ i := by omega
  simp [h2, hi]
theorem b32_shl (x : Int32) {k i : Nat} (hk : k < 32) : b32 (x <<< (nI k &&& 31)) i = (decide (i < 32) && decide (k ≤ i) && b32 x (i - k)) := by
  unfold b32
  rw [Int32.toBitVec_shiftLeft]
  show (x.toBitVec <<< (((nI k &&& 31).toBitVec.smod 32)).toNat).getLsbD i = _
  rw [sh32 k hk, BitVec.getLsbD_shiftLeft]
  by_cases h : k ≤ i
  · simp [h, Nat.not_lt.mpr h]
  · simp [h, Nat.lt_of_not_le h]
theorem b32_shr (x : Int32) {k i : Nat} (hk : k < 32) (hi : k + i < 32) : b32 (x >>> (nI k &&& 31)) i = b32 x (k + i) := by
  unfold b32
  rw [Int32.toBitVec_shiftRight]
  show (x.toBitVec.sshiftRight (((nI k &&& 31).toBitVec.smod 32)).toNat).getLsbD i = _
  rw [sh32 k hk, BitVec.getLsbD_sshiftRight]
  have h2 : ¬ 32 ≤ i := by omega
  simp [h2, hi]
/-- the test of a bit of a long -/
theorem b64_t (x : Int64) {k : Nat} (hk : k < 64) : (x >>> ((nI k).toInt64 &&& 63)) &&& 1 = 0 ↔ b64 x k = false := by
  constructor
  · intro h
    have h1 : b64 ((x >>> ((nI k).toInt64 &&& 63)) &&& 1) 0 = false := by rw [h]; exact b64_0 0
    rw [b64_and, b64_1, b64_shr x hk (by omega)] at h1
    simpa using h1
  · intro h
    apply b64_ext
    intro i hi
    rw [b64_and, b64_1, b64_0]
    by_cases h0 : i = 0
    · subst h0
      rw [b64_shr x hk (by omega)]
      simp [h]
    · simp [h0]
theorem b32_t (x : Int32) {k : Nat} (hk : k < 32) : (x >>> (nI k &&& 31)) &&& 1 = 0 ↔ b32 x k = false := by
  constructor
  · intro h
    have h1 : b32 ((x >>> (nI k &&& 31)) &&& 1) 0 = false := by rw [h]; exact b32_0 0
    rw [b32_and, b32_1, b32_shr x hk (by omega)] at h1
    simpa using h1
  · intro h
    apply b32_ext
    intro i hi
    rw [b32_and, b32_1, b32_0]
    by_cases h0 : i = 0
    · subst h0
      rw [b32_shr x hk (by omega)]
      simp [h]
    · simp [h0]
theorem b64_bit {k i : Nat} (hk : k < 64) : b64 (1 <<< ((nI k).toInt64 &&& 63)) i = decide (i = k) := by
  rw [b64_shl 1 hk, b64_1]
  by_cases h : i = k
  · subst h; simp [hk]
  · by_cases h2 : k ≤ i
    · have h3 : ¬ i - k = 0 := by omega
      simp [h, h3]
    · simp [h, h2]
theorem b32_bit {k i : Nat} (hk : k < 32) : b32 (1 <<< (nI k &&& 31)) i = decide (i = k) := by
  rw [b32_shl 1 hk, b32_1]
  by_cases h : i = k
  · subst h; simp [hk]
  · by_cases h2 : k ≤ i
    · have h3 : ¬ i - k = 0 := by omega
      simp [h, h3]
    · simp [h, h2]
theorem b32_tb (x : Int32) {k : Nat} (hk : k < 32) : x &&& (1 <<< (nI k &&& 31)) = 0 ↔ b32 x k = false := by
  constructor
  · intro h
    have h1 : b32 (x &&& (1 <<< (nI k &&& 31))) k = false := by rw [h]; exact b32_0 k
    rw [b32_and, b32_bit hk] at h1
    simpa using h1
  · intro h
    apply b32_ext
    intro i hi
    rw [b32_and, b32_bit hk, b32_0]
    by_cases h0 : i = k
    · subst h0; simp [h]
    · simp [h0]
theorem b64_set (x : Int64) {k i : Nat} (hk : k < 64) : b64 (x ||| (1 <<< ((nI k).toInt64 &&& 63))) i = (b64 x i || decide (i = k)) := by rw [b64_or, b64_bit hk]
theorem b64_clr (x : Int64) {k i : Nat} (hk : k < 64) : b64 (x &&& ((1 <<< ((nI k).toInt64 &&& 63)) ^^^ (-1))) i = (b64 x i && !decide (i = k)) := by
  rw [b64_and, b64_xor, b64_bit hk]
  by_cases hi : i < 64
  · rw [b64_m1 i hi]; by_cases h : i = k <;> simp [h]
  · rw [b64_big (by omega)]; simp
theorem b32_set (x : Int32) {k i : Nat} (hk : k < 32) : b32 (x ||| (1 <<< (nI k &&& 31))) i = (b32 x i || decide (i = k)) := by rw [b32_or, b32_bit hk]
theorem b32_clr (x : Int32) {k i : Nat} (hk : k < 32) : b32 (x &&& ((1 <<< (nI k &&& 31)) ^^^ (-1))) i = (b32 x i && !decide (i = k)) := by
  rw [b32_and, b32_xor, b32_bit hk]
  by_cases hi : i < 32
  · rw [b32_m1 i hi]; by_cases h : i = k <;> simp [h]
  · rw [b32_big (by omega)]; simp
theorem cmp0 (x : Int64) : lg_cmp x 0 = 0 ↔ x = 0 := by
  unfold lg_cmp
  by_cases h1 : x > 0
  · rw [if_pos h1]
    constructor
    · intro h; exact absurd h (by decide)
    · intro h; subst h; exact absurd h1 (by decide)
  · rw [if_neg h1]
    by_cases h2 : x = 0
    · rw [if_pos h2]; simp [h2]
    · rw [if_neg h2]
      constructor
      · intro h; exact absurd h (by decide)
      · intro h; exact absurd h h2
