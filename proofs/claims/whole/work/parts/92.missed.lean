-- ===== PURE: a counted search from one node; the arc that is missed most =====
theorem lpN_2 {S X S' X' : Type} {st : S → Option (S ⊕ X)} {st' : S' → Option (S' ⊕ X')} (I : Nat → S → S' → Prop) (Q : X → X' → Prop) (e : Nat) (hs : ∀ i s s', i ≤ e → I i s s' → (∃ x x', st s = some (.inr x) ∧ st' s' = some (.inr x') ∧ Q x x') ∨ (i < e ∧ ∃ t t', st s = some (.inl t) ∧ st' s' = some (.inl t') ∧ I (i + 1) t t')) : ∀ n n' i s s', I i s s' → i ≤ e → e - i < n → e - i < n' → ∃ x x', lpN st n s = some x ∧ lpN st' n' s' = some x' ∧ Q x x' := by
  intro n
  induction n with
  | zero => intro n' i s s' _ _ h; omega
  | succ n ih =>
    intro n' i s s' hI hi hn hn'
    cases n' with
    | zero => omega
    | succ n' =>
      rcases hs i s s' hi hI with ⟨x, x', h1, h2, h3⟩ | ⟨h0, t, t', h1, h2, h3⟩
      · exact ⟨x, x', by rw [lpN, h1], by rw [lpN, h2], h3⟩
      · obtain ⟨x, x', h4, h5, h6⟩ := ih n' (i + 1) t t' h3 (by omega) (by omega) (by omega)
        exact ⟨x, x', by rw [lpN, h1]; exact h4, by rw [lpN, h2]; exact h5, h6⟩
theorem one_e {b d : Nat} {G : GT} {σ : mS} {ag : Bool} {O : Nat → Bool} {a : Nat} (hW : WG G) (hX : RX G σ) (hb : sB b) (hd1 : 1 ≤ d) (hd3 : d ≤ 3) (hd : σ.1 (b + 4) 0 = nI d) (hag : σ.1 b 1 = bI ag) (x1 : Int64) (x3 : Int32) (hO : ∀ e, e < 40 → b64 x1 e = O e) (ha : a < gN G) (hXa : b32 x3 a = false) :
    ∃ σ1 σ2 σ' K c, f_Se_beginCounted b σ x1 x3 = some σ1 ∧ f_Se_offer b σ1 (nI a) 0 = some σ2 ∧ f_Se_settleAll b σ2 = some σ' ∧ frB b σ σ' ∧ TX b G ag O (fun v => decide (v = a)) (fun v => b32 x3 v) σ' K c := by
  have hN := hW.1
  have hm := hW.2.1
  have hb8 : b = 8 ∨ b = 16 := hb
  obtain ⟨σ1, p1, p2, p3, p4, p5, p6⟩ := counted_e (G := G) hb hd1 hd3 hd x1 x3
  have hX1 : RX G σ1 := frB_X hb p2 hX
  obtain ⟨σ2, r1, r2, r3⟩ := offer_e (v := a) (x := 0) hW hX1 hb (p3 (fun _ => 0)) ha (by omega)
  have r1 : f_Se_offer b σ1 (nI a) 0 = some σ2 := r1
  have hno : noO (fun _ => false) (fun v => b32 x3 v) (fun _ => 0) a 0 = false := by
    unfold noO; simp [hXa]
  rw [hno, if_neg (by decide)] at r3
  have hcc : va_up (fun _ : Nat => (0 : Nat)) a 0 = fun _ => 0 := by
    funext v
    by_cases q : v = a
    · rw [q, va_up_self]
    · rw [va_up_ne _ _ q]
  rw [hcc] at r3
  have hK : ∀ v, va_up (fun _ => false) a true v = true ↔ v = a := by
    intro v
    by_cases q : v = a
    · rw [q, va_up_self]; simp
    · rw [va_up_ne _ _ q]; simp [q]
  have hD : DI G ag O (fun v => decide (v = a)) (fun v => b32 x3 v) 0 (va_up (fun _ => false) a true) (fun v => b32 x3 v) (fun _ => 0) := by
    refine ⟨fun v hv hs _ => ⟨(hK v).mpr (of_decide_eq_true hs), rfl⟩, fun v h => ⟨h, ?_⟩, fun v h => Or.inl h, fun e _ _ h1 h2 => ?_, fun v hv => ?_, fun u v h1 h2 => ?_, fun v _ => ⟨0, 0, rfl, Nat.le_refl _, Nat.zero_le _⟩⟩
    · cases q : va_up (fun _ => false) a true v with
      | false => rfl
      | true =>
        have h : b32 x3 v = true := h
        rw [(hK v).mp q, hXa] at h; cases h
    · have h2 : b32 x3 (gS G ag e) = true := h2
      rw [(hK _).mp h1, hXa] at h2; cases h2
    · have e := (hK v).mp hv
      rw [e]
      exact ⟨ha, hXa, Or.inl ⟨decide_eq_true rfl, rfl⟩⟩
    · have h2 : b32 x3 u = true := h2
      rw [(hK u).mp h1, hXa] at h2; cases h2
  have hX2 : RX G σ2 := frO_X hb r2 hX1
  have hO2 : ∀ e, e < 40 → b64 (σ2.2.1 b 9) e = O e := fun e he => by rw [r2.2.1 b 9 (by omega), p4]; exact hO e he
  have ha2 : σ2.1 b 1 = bI ag := by rw [r2.1 b 1 (by omega) (by omega) (by omega) (Or.inr (by omega)) (Or.inl (by omega)), p2.2.1]; exact hag
  have hp2 : σ2.1 b 10 = nI 1 := by rw [r2.1 b 10 (by omega) (by omega) (by omega) (Or.inr (by omega)) (Or.inl (by omega))]; exact p6
  have h62 : σ2.1 b 6 = 0 := by rw [r2.1 b 6 (by omega) (by omega) (by omega) (Or.inr (by omega)) (Or.inl (by omega))]; exact p5
  obtain ⟨σ', K', C', c', k, o, s1, s2, s3, s4, s5, s6, s7, s8⟩ := all_e (ag := ag) (O := O) (s := fun v => decide (v = a)) (X := fun v => b32 x3 v) hW hX2 hb r3 ha2 hO2 hp2 h62 hD (fun v h => by
    cases q : va_up (fun _ => false) a true v with
    | false => rfl
    | true =>
        have h : b32 x3 v = true := h
        rw [(hK v).mp q, hXa] at h; cases h)
  refine ⟨σ1, σ2, σ', K', c', p1, r1, s1, frB_t (frB_t p2 (frO_B r2)) (frT_B s8), DI_BP s2 s4 s5, s3.2.1, fun v hv => ?_, fun e he => by rw [s8.2.2.2.1 b 9 (by omega)]; exact hO2 e he, by rw [s8.2.1 1 (by omega) (by omega) (by omega)]; exact ha2, by rw [s8.2.1 10 (by omega) (by omega) (by omega)]; exact hp2⟩
  obtain ⟨q1, q2, q3⟩ := s3.2.2.2.1 v hv
  obtain ⟨len, hp', b1, b2, b3⟩ := s4.2.2.2.2.2.2 v hv
  exact ⟨q1, q2, q3, by omega⟩
/-- a length, or what stands for none, on the one side -/
def eN (L : Nat) : Nat := if L = 1000000000 then 2147483647 else L
theorem eN_lt {L : Nat} (h : L ≤ 1000000000) : eN L < 2 ^ 31 := by unfold eN; split <;> omega
theorem eN_le {L M : Nat} (h : L ≤ 1000000000) (h' : M ≤ 1000000000) : eN L ≤ eN M ↔ L ≤ M := by
  unfold eN
  split <;> split <;> omega
theorem x_without {G : GT} {σ : mS} {O : Nat → Bool} {a v : Nat} (hW : WG G) (hX : RX G σ) (hI : IX σ) (x3 : Int64) (hO : ∀ e, e < 40 → b64 (σ.2.1 1 8 &&& (x3 ^^^ (-1))) e = O e) (ha : a < gN G) (hv : v < gN G) :
    ∃ (σ' : mS) (K : Nat → Bool) (c : Nat → Nat), f_LP_lengthWithout σ (nI a) (nI v) x3 = some (if K v = true then nI (c v / 16) else 2147483647, σ') ∧ frB 8 σ σ' ∧ BP G false O (fun v => decide (v = a)) (fun _ => false) K (fun v => c v / 16) (fun v => c v % 16) ∧ ∀ v, K v = true → c v ≤ 200000000 := by
  have hN := hW.1
  obtain ⟨⟨d, d1, d2, d3, d4, d5⟩, i1, i2, i3⟩ := hI
  obtain ⟨σ1, σ2, σ', K, c, p1, p2, p3, p4, p5⟩ := one_e (ag := false) hW hX sB_8 d1 d2 d4 i1 (σ.2.1 1 8 &&& (x3 ^^^ (-1))) 0 hO ha (b32_0 a)
  have hC0 : (fun v => b32 0 v) = fun _ => false := funext fun v => b32_0 v
  rw [hC0] at p5
  unfold f_LP_lengthWithout
  rw [p1, Option.bind_some, p2, Option.bind_some, p3, Option.bind_some, knows_e p5.2.1 (by omega), Option.bind_some]
  refine ⟨σ', K, c, ?_, p4, p5.1, fun v hv => (p5.2.2.1 v hv).2.2.1⟩
  cases hk : K v with
  | false => rw [if_pos bF, if_neg (by decide)]
  | true =>
    obtain ⟨c1, c2, c3, c4⟩ := p5.2.2.1 v hk
    have c2 : σ'.1 9 v = nI (c v) := c2
    rw [if_neg bT, if_pos rfl, gd_t (inb_n (by omega) (by decide)), gd_t (by decide), nI_clamp (by omega), c2, show (16 : Int32) = nI 16 from rfl, pk_div (by omega) (by omega) (by omega)]
theorem y_without {G : GT} {τ : mS} {O : Nat → Bool} {a v : Nat} (hW : WG G) (hY : RY G τ) (x : Int32) (hO : ∀ e, e < gm G → O e = (gl G e && !decide (nI e = x))) (ha : a < gN G) (hv : v < gN G) :
    ∃ (τ' : mS) (F H : Nat → Nat), f_Mo_lengthWithout τ (nI a) (nI v) x = some (nI (F v), τ') ∧ frR τ τ' ∧ (∀ v, v < gN G → F v ≤ 1000000000) ∧ BP G false O (fun v => decide (v = a)) (fun _ => false) (fun v => decide (v < gN G) && !decide (F v = 1000000000)) F H := by
  have hN := hW.1
  unfold f_Mo_lengthWithout
  obtain ⟨u, p1, p2, p3⟩ := lpN_i (st := f_Mo_lengthWithout_L3 (nI a)) (fun i t => t.1 = nI i ∧ frR τ t.2 ∧ ∀ v, v < i → t.2.1 9 v = nI (if v = a then 0 else 1000000000) ∧ t.2.1 10 v = nI 0) (fun u => frR τ u.2 ∧ ∀ v, v < gN G → u.2.1 9 v = nI (if v = a then 0 else 1000000000) ∧ u.2.1 10 v = nI 0) (gN G) (fun i t hi ht => by
    obtain ⟨t1, t2⟩ := t
    obtain ⟨e1, hf, hv⟩ := ht
    dsimp only at e1 hf hv
    subst e1
    have hY' := frR_Y hf hY
    unfold f_Mo_lengthWithout_L3
    dsimp only
    rw [hY'.1]
    by_cases hc : i = gN G
    · subst hc
      left
      rw [if_pos (nI_le (Nat.le_refl _) (by omega))]
      exact ⟨_, rfl, hf, hv⟩
    · right
      have hi2 : i < gN G := by omega
      refine ⟨hi2, ?_⟩
      rw [if_neg (nI_ge hi2 (by omega))]
      have both : ∀ x : Nat, (if i = a then 0 else 1000000000) = x → ∃ s', f_Mo_lengthWithout_J30 (nI i, t2) (nI x) = some (.inl s') ∧ s'.1 = nI (i + 1) ∧ frR τ s'.2 ∧ ∀ v, v < i + 1 → s'.2.1 9 v = nI (if v = a then 0 else 1000000000) ∧ s'.2.1 10 v = nI 0 := by
        intro x hx
        unfold f_Mo_lengthWithout_J30
        simp only [nm, inb_n (show i < 10 by omega) (by decide), gd_t rfl, nI_clamp (show i < 2 ^ 31 by omega)]
        refine ⟨_, rfl, nI_1 i, frR_t hf ⟨fun k j q1 q2 => ?_, rfl⟩, fun v hvi => ?_⟩
        · dsimp only
          rw [sI_1, if_neg q2, sI_1, if_neg q1]
        · dsimp only
          by_cases q : v = i
          · subst q
            rw [hx]
            exact ⟨by rw [sI_1, if_neg (by omega), sI_1, if_pos rfl, if_pos rfl], by rw [sI_1, if_pos rfl, if_pos rfl]; rfl⟩
          · obtain ⟨h1, h2⟩ := hv v (by omega)
            exact ⟨by rw [sI_1, if_neg (by omega), sI_1, if_pos rfl, if_neg q]; exact h1, by rw [sI_1, if_pos rfl, if_neg q, sI_1, if_neg (by omega)]; exact h2⟩
      have ea := nI_eq (a := i) (b := a) (by omega) (by omega)
      by_cases q : i = a
      · rw [if_pos (ea.mpr q)]; exact both 0 (by rw [if_pos q])
      · rw [if_neg (fun z => q (ea.mp z))]; exact both 1000000000 (by rw [if_neg q])) fuB 0 (0, τ) ⟨rfl, frR_r τ, fun v hv => absurd hv (Nat.not_lt_zero _)⟩ (Nat.zero_le _) (by rw [fuB_e]; omega)
  rw [p1, Option.bind_some]
  have hJ : RJ G O (fun v => decide (v = a)) (fun v => if v = a then 0 else 1000000000) (fun _ => 0) := by
    have hsv : ∀ v, (if v = a then 0 else 1000000000) ≠ 1000000000 → v = a := by
      intro v h
      by_cases q : v = a
      · exact q
      · rw [if_neg q] at h; exact absurd rfl h
    refine ⟨fun v hv => ⟨?_, fun _ => rfl, fun h => ⟨by dsimp only; rw [if_pos (of_decide_eq_true h)], rfl⟩, fun h => by simp [hsv v h]⟩, fun v hv h => ⟨[(v, 0, 0)], rfl, by simp, fun t ht => ?_⟩, fun v hv h => Or.inl ⟨decide_eq_true (hsv v h), by simp [hsv v h], rfl⟩⟩
    · dsimp only; split <;> omega
    · rw [List.mem_singleton] at ht
      subst ht
      dsimp only
      rw [if_pos (hsv v h)]
      exact ⟨hv, Or.inr ⟨rfl, Nat.le_refl _⟩, Or.inr ⟨rfl, Nat.le_refl _⟩⟩
  obtain ⟨τ', q1, q2, F', H', q3, q4, q5⟩ := relax_e (x1 := x) hW (frR_Y p2 hY) hO hJ (fun v hv => p3 v hv)
  rw [q1, Option.bind_some, gd_t (inb_n (by omega) (by decide)), nI_clamp (by omega), (q3 v hv).1]
  exact ⟨τ', F', H', rfl, frR_t p2 q2, fun v hv => (q4.1 v hv).1, RJ_BP hW q4 q5⟩
theorem BP_O {G : GT} {ag : Bool} {O O' s X K : Nat → Bool} {L H : Nat → Nat} (h : BP G ag O s X K L H) (hO : ∀ e, e < gm G → O' e = O e) : BP G ag O' s X K L H := by
  obtain ⟨h1, h2, h3⟩ := h
  refine ⟨h1, fun e he ho => h2 e he (by rw [← hO e he]; exact ho), fun v hv => ?_⟩
  obtain ⟨a1, a2, a3⟩ := h3 v hv
  refine ⟨a1, a2, ?_⟩
  rcases a3 with a3 | ⟨e, b1, b2, b3⟩
  · exact Or.inl a3
  · exact Or.inr ⟨e, b1, by rw [hO e b1]; exact b2, b3⟩
theorem without_e {G : GT} {σ τ : mS} {O : Nat → Bool} {a v : Nat} (R : Rel G σ τ) (x3 : Int64) (x : Int32) (hO : ∀ e, e < 40 → b64 (σ.2.1 1 8 &&& (x3 ^^^ (-1))) e = O e) (hO' : ∀ e, e < gm G → O e = (gl G e && !decide (nI e = x))) (ha : a < gN G) (hv : v < gN G) :
    ∃ σ' τ' L, f_LP_lengthWithout σ (nI a) (nI v) x3 = some (nI (eN L), σ') ∧ f_Mo_lengthWithout τ (nI a) (nI v) x = some (nI L, τ') ∧ Rel G σ' τ' ∧ L ≤ 1000000000 := by
  obtain ⟨hW, hX, hY, hI, hh, hr⟩ := id R
  obtain ⟨σ', K, c, p1, p2, p3, p4⟩ := x_without hW hX hI x3 hO ha hv
  obtain ⟨τ', F, H, q1, q2, q3, q4⟩ := y_without hW hY x hO' ha hv
  obtain ⟨u1, u2⟩ := BP_u p3 q4 v
  refine ⟨σ', τ', F v, ?_, q1, Rel_R (Rel_B sB_8 R p2) q2, q3 v hv⟩
  rw [p1]
  cases hk : K v with
  | false =>
    rw [hk] at u1
    have : F v = 1000000000 := by
      have := u1.symm
      simpa [hv] using this
    rw [if_neg (by decide), this]
    rfl
  | true =>
    obtain ⟨w1, w2⟩ := u2 hk
    have := p4 v hk
    have w1 : c v / 16 = F v := w1
    rw [if_pos rfl, w1, eN, if_neg (by omega)]
theorem p_missed {G : GT} {σ τ : mS} (R : Rel G σ τ) (x y : Int32) : Ok2 (f_LP_missed σ x y) (f_Mo_missed τ x y) := by
  obtain ⟨hW, hX, hY, hI, hh, hr⟩ := id R
  have hN := hW.1
  have hm := hW.2.1
  unfold f_LP_missed f_Mo_missed
  rw [x_isPair hW hX, y_isNode hW hY, y_isNode hW hY]
  cases ex : inb x (gN G) with
  | false => exact ⟨-1, σ, τ, G, rfl, rfl, R⟩
  | true =>
  cases ey : inb y (gN G) with
  | false => exact ⟨-1, σ, τ, G, rfl, rfl, R⟩
  | true =>
  by_cases exy : x = y
  · refine ⟨-1, σ, τ, G, ?_, ?_, R⟩ <;> simp [exy, bI]
  · simp only [exy, decide_false, Bool.not_false, Bool.and_true, Option.bind_some, if_false]
    rw [if_neg bT, if_neg bT, if_neg bT]
    obtain ⟨a, ha, rfl⟩ := inb_e ex (by omega)
    obtain ⟨v, hv, rfl⟩ := inb_e ey (by omega)
    have live1 : ∀ σ : mS, RX G σ → ∀ e, e < 40 → b64 (σ.2.1 1 8 &&& (0 ^^^ (-1))) e = liveO G e := fun σ hX e he => by
      rw [b64_and, b64_xor, b64_0, b64_m1 e (by omega), hX.2.2.2.2.1 e]; simp [liveO]
    have live2 : ∀ e, e < gm G → liveO G e = (gl G e && !decide (nI e = -1)) := fun e he => by
      have : ¬ nI e = -1 := nI_m1 (by omega)
      simp [liveO, he, this]
    obtain ⟨σ1, τ1, L0, p1, p2, p3, p4⟩ := without_e R 0 (-1) (live1 σ hX) live2 ha hv
    rw [p1, p2, Option.bind_some, Option.bind_some]
    by_cases hL0 : L0 = 1000000000
    · -- nothing leads there at all
      subst hL0
      have eY : lpN (f_Mo_missed_L41 (nI a) (nI v) (nI 1000000000, τ1)) fuB (-3, nI 1000000000, 0, τ1) = some (-3, nI 1000000000, 0, τ1) := by
        rw [show fuB = (10 ^ 40 - 1) + 1 from rfl, lpN]
        unfold f_Mo_missed_L41
        dsimp only
        rw [p3.2.2.1.2.1, if_pos (show (1000000000 : Int32) ≤ nI 1000000000 by decide)]
        by_cases q : nI (gm G) ≤ (0 : Int32)
        · rw [if_pos q]
        · rw [if_neg q]
      have eX : ∃ u, lpN (f_LP_missed_L26 (nI a) (nI v)) fuS (nI (eN 1000000000), -3, 0, σ1) = some u ∧ u.2.1 = -3 ∧ frB 8 σ1 u.2.2.2 := by
        refine lpN_i (st := f_LP_missed_L26 (nI a) (nI v)) (fun i t => t.1 = nI 2147483647 ∧ t.2.1 = -3 ∧ t.2.2.1 = nI i ∧ frB 8 σ1 t.2.2.2) _ (gm G) (fun i t hi ht => ?_) fuS 0 _ ⟨rfl, rfl, rfl, ⟨fun _ _ _ => rfl, rfl, rfl, fun _ _ _ => rfl, rfl⟩⟩ (Nat.zero_le _) (by rw [fuS_e]; omega)
        obtain ⟨t1, t2, t3, t4⟩ := t
        obtain ⟨e1, e2, e3, hf⟩ := ht
        dsimp only at e1 e2 e3 hf
        subst e1
        subst e2
        subst e3
        have hX' : RX G t4 := frB_X sB_8 hf p3.2.1
        have hI' : IX t4 := frB_I sB_8 hf p3.2.2.2.1
        unfold f_LP_missed_L26
        dsimp only
        rw [hX'.2.1]
        by_cases hc : i = gm G
        · subst hc
          left
          rw [if_pos (nI_le (Nat.le_refl _) (by omega))]
          exact ⟨_, rfl, rfl, hf⟩
        · right
          have hi2 : i < gm G := by omega
          refine ⟨hi2, ?_⟩
          have hJ : ∀ (j : Int32) (σ5 : mS), frB 8 t4 σ5 → ∃ s', f_LP_missed_J64 (nI 2147483647, -3, nI i, t4) j σ5 = some (.inl s') ∧ s'.1 = nI 2147483647 ∧ s'.2.1 = -3 ∧ s'.2.2.1 = nI (i + 1) ∧ frB 8 σ1 s'.2.2.2 := by
            intro j σ5 h5
            unfold f_LP_missed_J64
            dsimp only
            rw [if_pos (show j ≤ nI 2147483647 by
              rw [Int32.le_iff_toInt_le, nI_toInt (by omega)]
              have := Int32.toInt_lt j
              omega)]
            exact ⟨_, rfl, rfl, rfl, nI_1 i, frB_t hf h5⟩
          rw [if_neg (nI_ge hi2 (by omega)), x_hasArc hW hX', aIn_n hW hi2, Option.bind_some]
          cases hg : gl G i with
          | false => rw [if_pos bF]; exact hJ _ _ ⟨fun _ _ _ => rfl, rfl, rfl, fun _ _ _ => rfl, rfl⟩
          | true =>
            rw [if_neg bT]
            obtain ⟨σ', K, c, r1, r2, r3⟩ := x_without (O := fun e => b64 (t4.2.1 1 8 &&& ((1 <<< ((nI i).toInt64 &&& 63)) ^^^ (-1))) e) hW hX' hI' (1 <<< ((nI i).toInt64 &&& 63)) (fun _ _ => rfl) ha hv
            rw [r1, Option.bind_some]
            exact hJ _ _ r2
      obtain ⟨u, u1, u2, u3⟩ := eX
      rw [eY, u1, Option.bind_some, Option.bind_some, u2]
      exact ⟨-3, u.2.2.2, τ1, G, rfl, rfl, Rel_B sB_8 p3 u3⟩
    · have hL0' : L0 < 1000000000 := by omega
      obtain ⟨u, w, u1, u2, u3, u4⟩ := lpN_2 (st := f_LP_missed_L26 (nI a) (nI v)) (st' := f_Mo_missed_L41 (nI a) (nI v) (nI L0, τ1)) (fun i t s => t.2.1 = s.1 ∧ t.2.2.1 = nI i ∧ s.2.2.1 = nI i ∧ Rel G t.2.2.2 s.2.2.2 ∧ ∃ M, M ≤ 1000000000 ∧ L0 ≤ M ∧ t.1 = nI (eN M) ∧ s.2.1 = nI M) (fun t s => t.2.1 = s.1 ∧ Rel G t.2.2.2 s.2.2.2) (gm G) (fun i t s hi ht => by
        obtain ⟨t1, t2, t3, t4⟩ := t
        obtain ⟨s1, s2, s3, s4⟩ := s
        obtain ⟨e1, e2, e3, hR, M, M1, M2, e4, e5⟩ := ht
        dsimp only at e1 e2 e3 e4 e5 hR
        subst e1
        subst e2
        subst e3
        subst e4
        subst e5
        obtain ⟨-, hX', hY', hI', -, -⟩ := id hR
        unfold f_LP_missed_L26 f_Mo_missed_L41
        dsimp only
        rw [hX'.2.1, hY'.2.1]
        by_cases hc : i = gm G
        · subst hc
          left
          rw [if_pos (nI_le (Nat.le_refl _) (by omega)), if_pos (nI_le (Nat.le_refl _) (by omega))]
          exact ⟨_, _, rfl, rfl, rfl, hR⟩
        · right
          have hi2 : i < gm G := by omega
          refine ⟨hi2, ?_⟩
          have e0 : ¬ (1000000000 : Int32) ≤ nI L0 := by
            rw [show (1000000000 : Int32) = nI 1000000000 from rfl]
            exact nI_ge hL0' (by omega)
          rw [if_neg (nI_ge hi2 (by omega)), if_neg (nI_ge hi2 (by omega)), if_neg e0, x_hasArc hW hX', aIn_n hW hi2, Option.bind_some, gd_t (inb_n (by omega) (by decide)), nI_clamp (by omega), (hY'.2.2.1 i hi2).2.2.2.2.2]
          cases hg : gl G i with
          | false =>
            rw [if_pos bF, if_pos bF]
            unfold f_LP_missed_J64 f_Mo_missed_J78
            dsimp only
            rw [if_pos (show (-1 : Int32) ≤ nI (eN M) by
              rw [Int32.le_iff_toInt_le, nI_toInt (eN_lt M1)]
              show (-1 : Int) ≤ _
              omega), if_pos (nI_le M2 (by omega))]
            exact ⟨_, _, rfl, rfl, rfl, nI_1 i, nI_1 i, hR, M, M1, M2, rfl, rfl⟩
          | true =>
            rw [if_neg bT, if_neg bT]
            obtain ⟨σ', τ', L, r1, r2, r3, r4⟩ := without_e (O := fun e => liveO G e && !decide (e = i)) hR (1 <<< ((nI i).toInt64 &&& 63)) (nI i) (fun e he => by rw [b64_clr _ (by omega), hX'.2.2.2.2.1 e]; rfl) (fun e he => by
              have : (nI e = nI i) ↔ e = i := nI_eq (by omega) (by omega)
              simp [liveO, he, this]) ha hv
            rw [r1, r2, Option.bind_some, Option.bind_some]
            unfold f_LP_missed_J64 f_Mo_missed_J78
            dsimp only
            have c1 := nI_leI (a := eN L) (b := eN M) (eN_lt r4) (eN_lt M1)
            rw [eN_le r4 M1] at c1
            have c2 := nI_leI (a := L) (b := M) (by omega) (by omega)
            by_cases q : L ≤ M
            · rw [if_pos (c1.mpr q), if_pos (c2.mpr q)]
              exact ⟨_, _, rfl, rfl, rfl, nI_1 i, nI_1 i, r3, M, M1, M2, rfl, rfl⟩
            · rw [if_neg (fun z => q (c1.mp z)), if_neg (fun z => q (c2.mp z))]
              exact ⟨_, _, rfl, rfl, rfl, nI_1 i, nI_1 i, r3, L, r4, by omega, rfl, rfl⟩) fuS fuB 0 (nI (eN L0), -3, 0, σ1) (-3, nI L0, 0, τ1) ⟨rfl, rfl, rfl, p3, L0, p4, Nat.le_refl _, rfl, rfl⟩ (Nat.zero_le _) (by rw [fuS_e]; omega) (by rw [fuB_e]; omega)
      rw [u1, u2, Option.bind_some, Option.bind_some, u3]
      exact ⟨_, _, _, G, rfl, rfl, u4⟩
