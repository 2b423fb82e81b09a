/-- what a search leaves as it was -/
def frT (b : Nat) (σ σ' : mS) : Prop := (∀ k j, (k < b ∨ b + 8 ≤ k ∨ k = b + 3) → σ'.1 k j = σ.1 k j) ∧ (∀ j, j ≠ 6 → j ≠ 7 → j ≠ 8 → σ'.1 b j = σ.1 b j) ∧ σ'.1 (b + 4) 0 = σ.1 (b + 4) 0 ∧ (∀ k j, k ≠ b + 7 → σ'.2.1 k j = σ.2.1 k j) ∧ σ'.2.2 = σ.2.2
theorem frT_r (b : Nat) (σ : mS) : frT b σ σ := ⟨fun _ _ _ => rfl, fun _ _ _ _ => rfl, rfl, fun _ _ _ => rfl, rfl⟩
theorem frT_t {b : Nat} {σ σ' σ'' : mS} (h : frT b σ σ') (k : frT b σ' σ'') : frT b σ σ'' := ⟨fun a j q => (k.1 a j q).trans (h.1 a j q), fun j q1 q2 q3 => (k.2.1 j q1 q2 q3).trans (h.2.1 j q1 q2 q3), k.2.2.1.trans h.2.2.1, fun a j q => (k.2.2.2.1 a j q).trans (h.2.2.2.1 a j q), k.2.2.2.2.trans h.2.2.2.2⟩
theorem frO_T {b : Nat} {σ σ' : mS} (h : frO b σ σ') : frT b σ σ' := ⟨fun k j q => h.1 k j (by omega) (by omega) (by omega) (Or.inl (by omega)) (Or.inl (by omega)), fun j q1 q2 q3 => h.1 b j (by omega) (by omega) (by omega) (Or.inr q2) (Or.inl (by omega)), h.1 (b + 4) 0 (by omega) (by omega) (by omega) (Or.inl (by omega)) (Or.inr (by omega)), h.2.1, h.2.2⟩
theorem frT_X {b : Nat} {G : GT} {σ σ' : mS} (hb : sB b) (h : frT b σ σ') (hX : RX G σ) : RX G σ' := by
  have hb8 : b = 8 ∨ b = 16 := hb
  have e : ∀ k j, k < 8 → σ'.1 k j = σ.1 k j := fun k j hk => h.1 k j (by omega)
  obtain ⟨x1, x2, x3, x4, x5, x6⟩ := hX
  refine ⟨by rw [e 1 6 (by omega)]; exact x1, by rw [e 1 7 (by omega)]; exact x2, fun q hq => ?_, fun v hv => by rw [e 7 v (by omega)]; exact x4 v hv, fun q => by rw [h.2.2.2.1 1 8 (by omega)]; exact x5 q, fun v => by rw [e 1 9 (by omega)]; exact x6 v⟩
  rw [e 2 q (by omega), e 3 q (by omega), e 4 q (by omega), e 5 q (by omega), e 6 q (by omega)]
  exact x3 q hq
theorem settle_e {b d : Nat} {G : GT} {σ : mS} {K C : Nat → Bool} {c : Nat → Nat} {br ag : Bool} {O : Nat → Bool} {pa k : Nat} (hW : WG G) (hX : RX G σ) (hb : sB b) (h : SI b G σ d K C c br) (ha : σ.1 b 1 = bI ag) (hO : ∀ e, e < 40 → b64 (σ.2.1 b 9) e = O e) (hp : σ.1 b 10 = nI pa) (hpa : pa ≤ 1) (hk : σ.1 b 6 = nI k) (hk9 : k < 10) (hcB : ∀ v, K v = true → c v ≤ 16000001 * k) :
    ((∀ v, (K v && !C v) = false) ∧ f_Se_settleFirst b σ = some (-1, σ)) ∨ ∃ n σ', f_Se_settleFirst b σ = some (nI n, σ') ∧ K n = true ∧ C n = false ∧ (∀ m, K m = true → C m = false → m ≠ n → keyS G br c n * 10 + n < keyS G br c m * 10 + m) ∧ SI b G σ' d (relA G ag O pa (va_up C n true) n (gm G) (K, c)).1 (va_up C n true) (relA G ag O pa (va_up C n true) n (gm G) (K, c)).2 br ∧ σ'.1 b 6 = nI (k + 1) ∧ σ'.1 (b + 2) k = nI n ∧ (∀ j, j ≠ k → σ'.1 (b + 2) j = σ.1 (b + 2) j) ∧ frT b σ σ' := by
  have hN := hW.1
  have hb8 : b = 8 ∨ b = 16 := hb
  obtain ⟨hH, hkn, hcl, hnu, hbr⟩ := id h
  unfold f_Se_settleFirst
  rcases take_e hH with ⟨t1, t2⟩ | ⟨n, σ1, t1, t2, t3, t4, t5⟩
  · left
    refine ⟨t1, ?_⟩
    rw [t2, Option.bind_some]
    dsimp only
    rw [if_pos rfl]
  · right
    have hKn : K n = true := by
      have := t2
      simp only [Bool.and_eq_true] at this
      exact this.1
    have hCn : C n = false := by
      have := t2
      simp only [Bool.and_eq_true, Bool.not_eq_true'] at this
      exact this.2
    obtain ⟨hnN, hn1, hn2⟩ := hnu n hKn
    have hne : ¬ nI n = -1 := by
      intro q
      have := congrArg Int32.toInt q
      rw [nI_toInt (by omega)] at this
      exact absurd this (by simp)
    have er : ∀ a j, a ≠ b + 5 → a ≠ b + 6 → (a ≠ b + 4 ∨ j ≠ 4) → σ1.1 a j = σ.1 a j := fun a j q1 q2 q3 => t5.1 a j (by omega) (by omega) q3
    have e6 : σ1.1 b 6 = nI k := by rw [er b 6 (by omega) (by omega) (Or.inl (by omega))]; exact hk
    rw [t1, Option.bind_some]
    dsimp only
    rw [if_neg hne, e6, if_pos (by rw [show (10 : Int32) = nI 10 from rfl]; exact (nI_ltI (by omega) (by omega)).mpr hk9)]
    simp only [nm]
    have e62 : (sI σ1 b 8 (σ1.1 b 8 ||| 1 <<< (nI n &&& 31))).1 b 6 = nI k := by rw [sI_1, if_pos rfl, if_neg (by omega)]; exact e6
    rw [e62, gd_t (inb_n hk9 (by decide)), nI_clamp (by omega)]
    have e63 : (sI (sI σ1 b 8 (σ1.1 b 8 ||| 1 <<< (nI n &&& 31))) (b + 2) k (nI n)).1 b 6 = nI k := by rw [sI_1, if_neg (by omega)]; exact e62
    rw [e63, nI_1]
    generalize hσ4 : sI (sI (sI σ1 b 8 (σ1.1 b 8 ||| 1 <<< (nI n &&& 31))) (b + 2) k (nI n)) b 6 (nI (k + 1)) = σ4
    have r4 : ∀ a j, (a ≠ b ∨ j ≠ 8 ∧ j ≠ 6) → (a ≠ b + 2) → σ4.1 a j = σ1.1 a j := by
      intro a j q1 q2
      subst hσ4
      rw [sI_1]
      by_cases q : a = b
      · rw [if_pos q, if_neg (by omega), sI_1, if_neg q2, sI_1, if_pos q, if_neg (by omega)]
      · rw [if_neg q, sI_1, if_neg q2, sI_1, if_neg q]
    have h48 : σ4.1 b 8 = σ.1 b 8 ||| 1 <<< (nI n &&& 31) := by
      subst hσ4
      rw [sI_1, if_pos rfl, if_neg (by omega), sI_1, if_neg (by omega), sI_1, if_pos rfl, if_pos rfl, er b 8 (by omega) (by omega) (Or.inl (by omega))]
    have h46 : σ4.1 b 6 = nI (k + 1) := by
      subst hσ4
      rw [sI_1, if_pos rfl, if_pos rfl]
    have h4o : ∀ j, σ4.1 (b + 2) j = if j = k then nI n else σ.1 (b + 2) j := by
      intro j
      subst hσ4
      rw [sI_1, if_neg (by omega), sI_1, if_pos rfl]
      by_cases q : j = k
      · rw [if_pos q, if_pos q]
      · rw [if_neg q, if_neg q, sI_1, if_neg (by omega), er (b + 2) j (by omega) (by omega) (Or.inl (by omega))]
    have h4l : σ4.2 = σ1.2 := by subst hσ4; rfl
    have f4 : frT b σ σ4 := by
      refine ⟨fun a j q => ?_, fun j q1 q2 q3 => ?_, ?_, fun a j q => ?_, ?_⟩
      · rw [r4 a j (Or.inl (by omega)) (by omega), er a j (by omega) (by omega) (Or.inl (by omega))]
      · rw [r4 b j (Or.inr ⟨q3, q1⟩) (by omega), er b j (by omega) (by omega) (Or.inl (by omega))]
      · rw [r4 (b + 4) 0 (Or.inl (by omega)) (by omega), er (b + 4) 0 (by omega) (by omega) (Or.inr (by omega))]
      · rw [h4l]; exact t5.2.1 a j (by omega)
      · rw [h4l]; exact t5.2.2
    have hX4 : RX G σ4 := frT_X hb f4 hX
    have hS4 : SI b G σ4 d K (va_up C n true) c br := by
      refine ⟨HP_c (HP_f t4 (fun a j q => r4 a j (Or.inl (by omega)) (by omega)) (fun j => by rw [h4l])) (fun m => ?_) (fun _ _ => rfl), fun v => ?_, fun v hv => ?_, fun v hv => ?_, ?_⟩
      · by_cases q : m = n
        · subst q; simp [va_up_self]
        · simp [va_up_ne _ _ q]
      · rw [r4 b 7 (Or.inr ⟨by omega, by omega⟩) (by omega), er b 7 (by omega) (by omega) (Or.inl (by omega))]; exact hkn v
      · rw [h48, b32_set _ (by omega), hcl v hv]
        by_cases q : v = n
        · subst q; rw [va_up_self]; simp
        · rw [va_up_ne _ _ q]; simp [q]
      · rw [r4 (b + 1) v (Or.inl (by omega)) (by omega), er (b + 1) v (by omega) (by omega) (Or.inl (by omega))]; exact hnu v hv
      · rw [r4 b 11 (Or.inr ⟨by omega, by omega⟩) (by omega), er b 11 (by omega) (by omega) (Or.inl (by omega))]; exact hbr
    have hmul : 16000001 * k ≤ 160000000 := by omega
    obtain ⟨u, p1, p2, p3⟩ := settle_loop (o := σ1) (O := O) hW hX4 hb hS4 (by rw [f4.2.1 1 (by omega) (by omega) (by omega)]; exact ha) (fun e he => by rw [f4.2.2.2.1 b 9 (by omega)]; exact hO e he) (by rw [f4.2.1 10 (by omega) (by omega) (by omega)]; exact hp) hpa hKn (va_up_self _ _ _) hmul (hcB n hKn) (fun v hv => Nat.le_trans (hcB v hv) (Nat.le_add_right _ _))
    rw [p1, Option.bind_some]
    refine ⟨n, u.2, rfl, hKn, hCn, fun m hm1 hm2 hm3 => t3 m (by simp [hm1, hm2]) hm3, p3, ?_, ?_, fun j hj => ?_, frT_t f4 (frO_T p2)⟩
    · rw [p2.1 b 6 (by omega) (by omega) (by omega) (Or.inr (by omega)) (Or.inl (by omega))]; exact h46
    · rw [p2.1 (b + 2) k (by omega) (by omega) (by omega) (Or.inl (by omega)) (Or.inl (by omega)), h4o k, if_pos rfl]
    · rw [p2.1 (b + 2) j (by omega) (by omega) (by omega) (Or.inl (by omega)) (Or.inl (by omega)), h4o j, if_neg hj]
/-- a search that begins: nothing is known -/
def frB (b : Nat) (σ σ' : mS) : Prop := (∀ k j, (k < b ∨ b + 8 ≤ k ∨ k = b + 3) → σ'.1 k j = σ.1 k j) ∧ σ'.1 b 1 = σ.1 b 1 ∧ σ'.1 (b + 4) 0 = σ.1 (b + 4) 0 ∧ (∀ k j, k < b ∨ b + 8 ≤ k → σ'.2.1 k j = σ.2.1 k j) ∧ σ'.2.2 = σ.2.2
theorem frT_B {b : Nat} {σ σ' : mS} (h : frT b σ σ') : frB b σ σ' := ⟨h.1, h.2.1 1 (by omega) (by omega) (by omega), h.2.2.1, fun k j q => h.2.2.2.1 k j (by omega), h.2.2.2.2⟩
theorem frB_t {b : Nat} {σ σ' σ'' : mS} (h : frB b σ σ') (k : frB b σ' σ'') : frB b σ σ'' := ⟨fun a j q => (k.1 a j q).trans (h.1 a j q), k.2.1.trans h.2.1, k.2.2.1.trans h.2.2.1, fun a j q => (k.2.2.2.1 a j q).trans (h.2.2.2.1 a j q), k.2.2.2.2.trans h.2.2.2.2⟩
theorem frB_X {b : Nat} {G : GT} {σ σ' : mS} (hb : sB b) (h : frB b σ σ') (hX : RX G σ) : RX G σ' := by
  have hb8 : b = 8 ∨ b = 16 := hb
  have e : ∀ k j, k < 8 → σ'.1 k j = σ.1 k j := fun k j hk => h.1 k j (by omega)
  obtain ⟨x1, x2, x3, x4, x5, x6⟩ := hX
  refine ⟨by rw [e 1 6 (by omega)]; exact x1, by rw [e 1 7 (by omega)]; exact x2, fun q hq => ?_, fun v hv => by rw [e 7 v (by omega)]; exact x4 v hv, fun q => by rw [h.2.2.2.1 1 8 (by omega)]; exact x5 q, fun v => by rw [e 1 9 (by omega)]; exact x6 v⟩
  rw [e 2 q (by omega), e 3 q (by omega), e 4 q (by omega), e 5 q (by omega), e 6 q (by omega)]
  exact x3 q hq
theorem frB_I {b : Nat} {σ σ' : mS} (hb : sB b) (h : frB b σ σ') (hI : IX σ) : IX σ' := by
  have hb8 : b = 8 ∨ b = 16 := hb
  refine IX_c hI (fun k j q => ?_) (h.2.2.2.1 27 4 (by omega)) (by rw [h.2.2.2.2])
  rcases hb8 with rfl | rfl
  · rcases q with q | ⟨q1, q2⟩ | ⟨q1, q2⟩ | ⟨q1, q2⟩ | ⟨q1, q2⟩ | q
    · exact h.1 k j (by omega)
    · rw [q1, q2]; exact h.2.2.1
    · exact h.1 k j (by omega)
    · rw [q1, q2]; exact h.2.1
    · exact h.1 k j (by omega)
    · exact h.1 k j (by omega)
  · rcases q with q | ⟨q1, q2⟩ | ⟨q1, q2⟩ | ⟨q1, q2⟩ | ⟨q1, q2⟩ | q
    · exact h.1 k j (by omega)
    · exact h.1 k j (by omega)
    · rw [q1, q2]; exact h.2.2.1
    · exact h.1 k j (by omega)
    · rw [q1, q2]; exact h.2.1
    · exact h.1 k j (by omega)
theorem begin_e {b d : Nat} {G : GT} {σ : mS} (hb : sB b) (hd1 : 1 ≤ d) (hd3 : d ≤ 3) (hd : σ.1 (b + 4) 0 = nI d) (x1 : Int64) (x3 : Int32) :
    ∃ σ', f_Se_begin b σ x1 x3 = some σ' ∧ frB b σ σ' ∧ (∀ (σ'' : mS) (br : Bool) (c : Nat → Nat), (∀ a j, (a ≠ b ∨ j ≠ 10 ∧ j ≠ 11) → σ''.1 a j = σ'.1 a j) → σ''.2 = σ'.2 → σ''.1 b 11 = bI br → SI b G σ'' d (fun _ => false) (fun v => b32 x3 v) c br) ∧ σ'.2.1 b 9 = x1 ∧ σ'.1 b 6 = 0 := by
  have hb8 : b = 8 ∨ b = 16 := hb
  unfold f_Se_begin
  obtain ⟨σ1, p1, p2, p3⟩ := empty_e (b := b + 4) hd1 hd3 hd (fun _ => 0)
  rw [p1, Option.bind_some]
  simp only [nm]
  generalize hσ : sJ (sI (sI (sI σ1 b 6 0) b 7 0) b 8 x3) b 9 x1 = σ5
  have r5 : ∀ a j, (a ≠ b ∨ j ≠ 6 ∧ j ≠ 7 ∧ j ≠ 8) → σ5.1 a j = σ1.1 a j := by
    intro a j q
    subst hσ
    rw [sJ_1, sI_1]
    by_cases q2 : a = b
    · rw [if_pos q2, if_neg (by omega), sI_1, if_pos q2, if_neg (by omega), sI_1, if_pos q2, if_neg (by omega)]
    · rw [if_neg q2, sI_1, if_neg q2, sI_1, if_neg q2]
  have er : ∀ a j, a ≠ b + 5 → a ≠ b + 6 → (a ≠ b + 4 ∨ j ≠ 4) → σ1.1 a j = σ.1 a j := fun a j q1 q2 q3 => p3.1 a j (by omega) (by omega) q3
  refine ⟨σ5, rfl, ⟨fun a j q => ?_, ?_, ?_, fun a j q => ?_, ?_⟩, fun σ'' br c g1 g2 hbr => ⟨?_, fun v => ?_, fun v hv => ?_, fun v hv => (by cases hv), hbr⟩, ?_, ?_⟩
  · rw [r5 a j (Or.inl (by omega)), er a j (by omega) (by omega) (Or.inl (by omega))]
  · rw [r5 b 1 (Or.inr ⟨by omega, by omega, by omega⟩), er b 1 (by omega) (by omega) (Or.inl (by omega))]
  · rw [r5 (b + 4) 0 (Or.inl (by omega)), er (b + 4) 0 (by omega) (by omega) (Or.inr (by omega))]
  · subst hσ
    rw [sJ_2, if_neg (by omega)]
    exact p3.2.1 a j (by omega)
  · subst hσ; exact p3.2.2
  · have := HP_f (σ' := σ'') p2 (fun a j q => (g1 a j (Or.inl (by omega))).trans (r5 a j (Or.inl (by omega)))) (fun j => by rw [g2]; subst hσ; rw [sJ_2, if_neg (by omega)]; rfl)
    exact HP_c this (fun _ => rfl) (fun _ hn => by cases hn)
  · rw [g1 b 7 (Or.inr ⟨by omega, by omega⟩)]
    subst hσ
    rw [sJ_1, sI_1, if_pos rfl, if_neg (by omega), sI_1, if_pos rfl, if_pos rfl]
    exact b32_0 v
  · rw [g1 b 8 (Or.inr ⟨by omega, by omega⟩)]
    subst hσ
    rw [sJ_1, sI_1, if_pos rfl, if_pos rfl]
  · subst hσ; rw [sJ_2, if_pos rfl, if_pos rfl]
  · subst hσ
    rw [sJ_1, sI_1, if_pos rfl, if_neg (by omega), sI_1, if_pos rfl, if_neg (by omega), sI_1, if_pos rfl, if_pos rfl]
