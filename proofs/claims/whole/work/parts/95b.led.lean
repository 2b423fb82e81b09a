-- ===== PURE: led, ledTo =====
def PS (b : Nat) (G : GT) (σ : mS) (d : Nat) (ag : Bool) (k : Nat) (K C : Nat → Bool) (c : Nat → Nat) (br : Bool) : Prop := SI b G σ d K C c br ∧ σ.1 b 1 = bI ag ∧ (∀ e, e < 40 → b64 (σ.2.1 b 9) e = liveO G e) ∧ σ.1 b 10 = nI 0 ∧ σ.1 b 6 = nI k ∧ PB G k K C c
theorem plain_e {b d : Nat} {G : GT} {σ : mS} {ag br : Bool} {a : Nat} (hW : WG G) (hX : RX G σ) (hb : sB b) (hd1 : 1 ≤ d) (hd3 : d ≤ 3) (hd : σ.1 (b + 4) 0 = nI d) (hag : σ.1 b 1 = bI ag) (ha : a < gN G) :
    ∃ σ1 σ2, f_Se_beginPlain b σ (bI br) = some σ1 ∧ f_Se_offer b σ1 (nI a) 0 = some σ2 ∧ frB b σ σ2 ∧ PS b G σ2 d ag 0 (va_up (fun _ => false) a true) (fun _ => false) (fun _ => 0) br := by
  have hN := hW.1
  have hb8 : b = 8 ∨ b = 16 := hb
  obtain ⟨σ1, p1, p2, p3, p4, p5⟩ := begin_e (G := G) hb hd1 hd3 hd (σ.2.1 1 8) 0
  unfold f_Se_beginPlain
  rw [p1, Option.bind_some]
  simp only [nm]
  rw [gd_t bI_b]
  generalize hσ : sI (sI σ1 b 10 0) b 11 (bI br) = σ3
  have r3 : ∀ a j, (a ≠ b ∨ j ≠ 10 ∧ j ≠ 11) → σ3.1 a j = σ1.1 a j := by
    intro a j q
    subst hσ
    rw [sI_1]
    by_cases q2 : a = b
    · rw [if_pos q2, if_neg (by omega), sI_1, if_pos q2, if_neg (by omega)]
    · rw [if_neg q2, sI_1, if_neg q2]
  have r4 : σ3.2 = σ1.2 := by subst hσ; rfl
  have r11 : σ3.1 b 11 = bI br := by subst hσ; rw [sI_1, if_pos rfl, if_pos rfl]
  have r10 : σ3.1 b 10 = nI 0 := by subst hσ; rw [sI_1, if_pos rfl, if_neg (by decide), sI_1, if_pos rfl, if_pos rfl]; rfl
  have hSI := p3 σ3 br (fun _ => 0) r3 r4 r11
  have fB : frB b σ σ3 := by
    refine ⟨fun k j q => ?_, ?_, ?_, fun k j q => ?_, ?_⟩
    · rw [r3 k j (by omega)]; exact p2.1 k j q
    · rw [r3 b 1 (by omega)]; exact p2.2.1
    · rw [r3 (b + 4) 0 (by omega)]; exact p2.2.2.1
    · rw [r4]; exact p2.2.2.2.1 k j q
    · rw [r4]; exact p2.2.2.2.2
  have hX3 := frB_X hb fB hX
  obtain ⟨σ2, o1, o2, o3⟩ := offer_e (v := a) (x := 0) hW hX3 hb hSI ha (by omega)
  have o1 : f_Se_offer b σ3 (nI a) 0 = some σ2 := o1
  have hno : noO (fun _ => false) (fun v => b32 0 v) (fun _ => 0) a 0 = false := by
    unfold noO; simp [b32_0]
  rw [hno, if_neg (by decide)] at o3
  have hcc : va_up (fun _ : Nat => (0 : Nat)) a 0 = fun _ => 0 := by
    funext v
    by_cases q : v = a
    · rw [q, va_up_self]
    · rw [va_up_ne _ _ q]
  have hc0 : (fun v => b32 0 v) = fun _ => false := by funext v; exact b32_0 v
  rw [hcc, hc0] at o3
  refine ⟨σ3, σ2, rfl, o1, frB_t fB (frO_B o2), o3, ?_, fun e he => ?_, ?_, ?_, fun v hv => ?_, by omega, ?_⟩
  · rw [o2.1 b 1 (by omega) (by omega) (by omega) (Or.inr (by omega)) (Or.inl (by omega)), fB.2.1]; exact hag
  · rw [o2.2.1 b 9 (by omega), r4, p4]; exact hX.2.2.2.2.1 e
  · rw [o2.1 b 10 (by omega) (by omega) (by omega) (Or.inr (by omega)) (Or.inl (by omega))]; exact r10
  · rw [o2.1 b 6 (by omega) (by omega) (by omega) (Or.inr (by omega)) (Or.inl (by omega)), r3 b 6 (by omega)]; exact p5
  · by_cases q : v = a
    · subst q; exact ⟨ha, Nat.le_refl _, rfl⟩
    · rw [va_up_ne _ _ q] at hv; cases hv
  · rfl
theorem psettle_e {b d : Nat} {G : GT} {σ : mS} {ag br : Bool} {k : Nat} {K C : Nat → Bool} {c : Nat → Nat} (hW : WG G) (hX : RX G σ) (hb : sB b) (h : PS b G σ d ag k K C c br) {m : Nat} (hm : wtg K C m = true) :
    ∃ n σ', f_Se_settleFirst b σ = some (nI n, σ') ∧ K n = true ∧ C n = false ∧ (∀ m, K m = true → C m = false → m ≠ n → keyS G br c n * 10 + n < keyS G br c m * 10 + m) ∧ PS b G σ' d ag (k + 1) (relA G ag (liveO G) 0 (va_up C n true) n (gm G) (K, c)).1 (va_up C n true) (relA G ag (liveO G) 0 (va_up C n true) n (gm G) (K, c)).2 br ∧ frT b σ σ' := by
  have hb8 : b = 8 ∨ b = 16 := hb
  obtain ⟨h1, h2, h3, h4, h5, h6⟩ := h
  obtain ⟨m1, m2⟩ := Bool.and_eq_true_iff.mp hm
  have m2 : C m = false := by simpa using m2
  have hk := PB_lt hW h6 m1 m2
  rcases settle_e hW hX hb h1 h2 h3 h4 (by omega) h5 hk (fun v hv => (h6.1 v hv).2.1) with ⟨q, _⟩ | ⟨n, σ', s1, s2, s3, s4, s5, s6, s7, s8, s9⟩
  · exact absurd (q m) (by rw [show (K m && !C m) = wtg K C m from rfl, hm]; decide)
  · refine ⟨n, σ', s1, s2, s3, s4, ⟨s5, ?_, fun e he => ?_, ?_, s6, PB_step hW h6 s2 s3⟩, s9⟩
    · rw [s9.2.1 1 (by omega) (by omega) (by omega)]; exact h2
    · rw [s9.2.2.2.1 b 9 (by omega)]; exact h3 e he
    · rw [s9.2.1 10 (by omega) (by omega) (by omega)]; exact h4
theorem lpN_3 {S X S' X' : Type} {st : S → Option (S ⊕ X)} {st' : S' → Option (S' ⊕ X')} (I : Nat → S → S' → Prop) (Q : X → X' → Prop) (e : Nat) (hs : ∀ i s s', i ≤ e → I i s s' → (∃ x x', st s = some (.inr x) ∧ st' s' = some (.inr x') ∧ Q x x') ∨ (∃ t x x', st s = some (.inl t) ∧ st t = some (.inr x) ∧ st' s' = some (.inr x') ∧ Q x x') ∨ (i < e ∧ ∃ t t', st s = some (.inl t) ∧ st' s' = some (.inl t') ∧ I (i + 1) t t')) : ∀ n n' i s s', I i s s' → i ≤ e → e - i + 1 < n → e - i < n' → ∃ x x', lpN st n s = some x ∧ lpN st' n' s' = some x' ∧ Q x x' := by
  intro n
  induction n with
  | zero => intro n' i s s' _ _ h; omega
  | succ n ih =>
    intro n' i s s' hI hi hn hn'
    cases n' with
    | zero => omega
    | succ n' =>
      rcases hs i s s' hi hI with ⟨x, x', h1, h2, h3⟩ | ⟨t, x, x', h1, h2, h3, h4⟩ | ⟨hlt, t, t', h1, h2, h3⟩
      · exact ⟨x, x', by rw [lpN, h1], by rw [lpN, h2], h3⟩
      · cases n with
        | zero => omega
        | succ n => exact ⟨x, x', by rw [lpN, h1]; show lpN st (n + 1) t = _; rw [lpN, h2], by rw [lpN, h3], h4⟩
      · obtain ⟨x, x', h4, h5, h6⟩ := ih n' (i + 1) t t' h3 (by omega) (by omega) (by omega)
        exact ⟨x, x', by rw [lpN, h1]; exact h4, by rw [lpN, h2]; exact h5, h6⟩
def ldQ (G : GT) (σ0 τ0 : mS) (g : Nat) (σ τ : mS) (r : Int32) : Prop := frB 8 σ0 σ ∧ frY 0 τ0 τ ∧ ∃ (k : Nat) (K : Nat → Bool) (c : Nat → Nat), σ.1 8 6 = nI k ∧ r = nI k ∧ f_Se_knows 8 σ (nI g) = some (bI (K g)) ∧ (K g = true → σ.1 9 g = nI (c g) ∧ c g ≤ 200000000) ∧ τ.1 12 g = nI (fY K c g)
theorem ldQ_i {G : GT} {σ0 τ0 σ τ : mS} {g d k : Nat} {ag br : Bool} {K C C' : Nat → Bool} {c : Nat → Nat} {K' : Nat → Bool} {c' : Nat → Nat} (hW : WG G) (hg : g < gN G) (h1 : frB 8 σ0 σ) (h2 : frY 0 τ0 τ) (h3 : PS 8 G σ d ag k K C c br) (h4 : YS 0 G τ K' C' c') (hK : K' g = K g) (hc : c' g = c g) : ldQ G σ0 τ0 g σ τ (nI k) := by
  have hN := hW.1
  refine ⟨h1, h2, k, K, c, h3.2.2.2.2.1, rfl, knows_e h3.1.2.1 (by omega), fun q => (h3.1.2.2.2.1 g q).2, ?_⟩
  have := (h4 g hg).1
  rw [show 10 * 0 + g = g by omega] at this
  rw [this]
  unfold fY
  rw [hK, hc]
theorem led_e {G : GT} {σ τ : mS} {a g : Nat} (R : Rel G σ τ) (ha : a < gN G) (hg : g < gN G) : ∃ σ' τ' r, f_Se_goLed 8 σ (nI a) (nI g) = some σ' ∧ f_Mo_search τ (nI a) (nI g) = some (r, τ') ∧ ldQ G σ τ g σ' τ' r := by
  obtain ⟨hW, hX, hY, hI, hh, hr⟩ := id R
  have hN := hW.1
  obtain ⟨⟨d, hd1, hd3, _, hd12, hd20⟩, h81, h161, _⟩ := id hI
  obtain ⟨σ1, σ2, p1, p2, p3, p4⟩ := plain_e (br := true) (ag := false) hW hX (Or.inl rfl) hd1 hd3 hd12 h81 ha
  obtain ⟨τ1, q1, q2, q3⟩ := y_begin (τ := τ) (sd := 0) hW (by omega) ha
  have p1 : f_Se_beginPlain 8 σ 1 = some σ1 := p1
  have q1 : f_Mo_beginSearch τ 0 (nI a) = some τ1 := q1
  unfold f_Se_goLed f_Mo_search
  rw [p1, Option.bind_some, p2, Option.bind_some, q1, Option.bind_some]
  have hY1 := frY_Y q2 hY
  -- what is the next, told by the other side
  have nx : ∀ {τ : mS} {k : Nat} {K C : Nat → Bool} {c : Nat → Nat}, RY G τ → PB G k K C c → YS 0 G τ K C c → ∃ v, f_Mo_leastOf τ 0 1 = some v ∧ ((v = -1 ∧ ∀ v, v < gN G → wtg K C v = false) ∨ ∃ n, v = nI n ∧ LO G true K C c (gN G) n) := by
    intro τ k K C c hY hB hS
    rcases y_least (sd := 0) true hW hY (by omega) hB hS with ⟨e1, e2⟩ | ⟨n, e1, e2⟩
    · exact ⟨_, e1, Or.inl ⟨rfl, e2⟩⟩
    · exact ⟨_, e1, Or.inr ⟨n, rfl, e2⟩⟩
  obtain ⟨v, v1, v2⟩ := nx hY1 p4.2.2.2.2.2 q3
  rw [v1, Option.bind_some]
  obtain ⟨x, x', x1, x2, x3⟩ := lpN_3 (st := f_Se_goLed_L16 8 (nI g)) (st' := f_Mo_search_L16 (nI g)) (fun i s s' => s.2.1 = nI i ∧ s.1 ≠ nI g ∧ frB 8 σ s.2.2 ∧ frY 0 τ s'.2.2 ∧ s'.1 = nI i ∧ ∃ (K C : Nat → Bool) (c : Nat → Nat), PS 8 G s.2.2 d false i K C c true ∧ YS 0 G s'.2.2 K C c ∧ ((s'.2.1 = -1 ∧ ∀ v, v < gN G → wtg K C v = false) ∨ ∃ n, s'.2.1 = nI n ∧ LO G true K C c (gN G) n)) (fun x x' => ∃ r τ', Sum.elim (fun e16 : Int32 × Int32 × mS => some (e16.1, e16.2.2)) (fun y16 : Int32 × mS => some y16) x' = some (r, τ') ∧ ldQ G σ τ g x.2.2 τ' r) 10 (fun i s s' hi hs => by
    obtain ⟨sl, sti, s⟩ := s
    obtain ⟨sc, sn, s'⟩ := s'
    obtain ⟨t1, t2, t3, t4, t5, K, C, c, t6, t7, t8⟩ := hs
    have t1 : sti = nI i := t1
    have t5 : sc = nI i := t5
    subst t1
    subst t5
    have t2 : sl ≠ nI g := t2
    have t3 : frB 8 σ s := t3
    have t4 : frY 0 τ s' := t4
    have t6 : PS 8 G s d false i K C c true := t6
    have t7 : YS 0 G s' K C c := t7
    have hXs := frB_X (Or.inl rfl) t3 hX
    have hYs := frY_Y t4 hY
    obtain ⟨ov, ov1, ov2⟩ := isOver_e t6.1
    unfold f_Se_goLed_L16 f_Mo_search_L16
    dsimp only
    rcases t8 with ⟨t8, t9⟩ | ⟨n, t8, t9⟩
    · have t8 : sn = -1 := t8
      subst t8
      left
      have hov : ov = true := ov2.mpr (fun v hv => by
        have h1 := t9 v (t6.2.2.2.2.2.1 v hv).1
        unfold wtg at h1
        rw [hv] at h1
        simpa using h1)
      have hend : (if (10 : Int32) ≤ nI i then some (Sum.inr (sl, nI i, s) : (Int32 × Int32 × mS) ⊕ (Int32 × Int32 × mS)) else if sl = nI g then some (Sum.inr (sl, nI i, s)) else (f_Se_isOver 8 s).bind fun v3 => if v3 = 0 then (f_Se_settleFirst 8 s).bind fun o4 => some (Sum.inl (o4.1, nI i + 1, o4.2)) else some (Sum.inr (sl, nI i, s))) = some (Sum.inr (sl, nI i, s)) := by
        by_cases z : (10 : Int32) ≤ nI i
        · rw [if_pos z]
        · rw [if_neg z, if_neg t2, ov1, hov, Option.bind_some, if_neg bT]
      refine ⟨_, _, hend, rfl, nI i, s', rfl, ldQ_i hW hg t3 t4 t6 t7 rfl rfl⟩
    · have t8 : sn = nI n := t8
      subst t8
      right
      obtain ⟨l1, l2, l3⟩ := id t9
      obtain ⟨w1, w2⟩ := Bool.and_eq_true_iff.mp l2
      have w2 : C n = false := by simpa using w2
      have hi10 := PB_lt hW t6.2.2.2.2.2 w1 w2
      have hov : ov = false := by
        cases z : ov with
        | false => rfl
        | true => have := ov2.mp z n w1; rw [w2] at this; cases this
      obtain ⟨n', s2, e1, e2, e3, e4, e5, e6⟩ := psettle_e hW hXs (Or.inl rfl) t6 l2
      have hnn : n' = n := LO_one hW t9 e2 e3 (t6.2.2.2.2.2.1 n' e2).1 e4
      subst hnn
      obtain ⟨y2, f1, f2, f3⟩ := y_settle (sd := 0) hW (by omega) l1 t7
      have f1 : f_Mo_settle s' 0 (nI n') = some y2 := f1
      have hstep : (if (10 : Int32) ≤ nI i then some (Sum.inr (sl, nI i, s) : (Int32 × Int32 × mS) ⊕ (Int32 × Int32 × mS)) else if sl = nI g then some (Sum.inr (sl, nI i, s)) else (f_Se_isOver 8 s).bind fun v3 => if v3 = 0 then (f_Se_settleFirst 8 s).bind fun o4 => some (Sum.inl (o4.1, nI i + 1, o4.2)) else some (Sum.inr (sl, nI i, s))) = some (Sum.inl (nI n', nI (i + 1), s2)) := by
        rw [if_neg (show ¬ (10 : Int32) ≤ nI i from nI_ge (a := i) (b := 10) hi10 (by decide)), if_neg t2, ov1, hov, Option.bind_some, if_pos bF, e1, Option.bind_some, nI_1]
      have hn0 : ¬ nI n' < 0 := fun z => by have := (nI_ltI (b := 0) (by omega) (by omega)).mp z; omega
      have hfr := frB_t t3 (frT_B e6)
      rw [hstep, if_neg hn0, f1, Option.bind_some]
      by_cases hng : n' = g
      · subst hng
        left
        refine ⟨_, (nI n', nI (i + 1), s2), _, rfl, ?_, by rw [if_pos rfl], nI (i + 1), y2, by rw [← nI_1]; rfl, ?_⟩
        · dsimp only
          by_cases z : (10 : Int32) ≤ nI (i + 1)
          · rw [if_pos z]
          · rw [if_neg z, if_pos rfl]
        · have hrc := relA_C (G := G) (ag := false) (O := liveO G) (pa := 0) (n := n') (K, c) (va_up_self C n' true) (gm G)
          exact ldQ_i hW hg hfr (frY_t t4 f2) e5 f3 hrc.2.symm hrc.1.symm
      · right
        rw [if_neg (fun z => hng ((nI_eq (by omega) (by omega)).mp z))]
        obtain ⟨y3, g1, g2, g3⟩ := y_spread (sd := 0) (ag := false) (k := i) hW (frY_Y f2 hYs) (by omega) rfl w1 (va_up_self C n' true) (by omega) (fun v hv => t6.2.2.2.2.2.1 v hv) f3
        have g1 : f_Mo_spread y2 0 (nI n') = some y3 := g1
        have hfy := frY_t (frY_t t4 f2) g2
        obtain ⟨nv, h1, h2⟩ := nx (frY_Y hfy hY) e5.2.2.2.2.2 g3
        rw [g1, Option.bind_some, h1, Option.bind_some]
        exact ⟨by omega, _, _, rfl, rfl, rfl, fun z => hng ((nI_eq (by omega) (by omega)).mp z), hfr, hfy, nI_1 _, _, _, _, e5, g3, h2⟩) fuS fuB 0 (-1, 0, σ2) (0, v, τ1) ⟨rfl, fun z => nI_m1 (k := g) (by omega) z.symm, p3, q2, rfl, _, _, _, p4, q3, v2⟩ (by omega) (by rw [fuS_e]; omega) (by rw [fuB_e]; omega)
  rw [x1, x2, Option.bind_some, Option.bind_some]
  obtain ⟨r, τ', y1, y2⟩ := x3
  rw [y1]
  exact ⟨_, _, _, rfl, rfl, y2⟩
theorem ldQ_R {G : GT} {σ0 τ0 σ τ : mS} {g : Nat} {r : Int32} (R : Rel G σ0 τ0) (h : ldQ G σ0 τ0 g σ τ r) : Rel G σ τ := Rel_y (Rel_B (Or.inl rfl) R h.1) (fun k j q => h.2.1.1 k j (Or.inl (by omega)))
theorem p_led {G : GT} {σ τ : mS} (R : Rel G σ τ) (x y : Int32) : Ok2 (f_LP_led σ x y) (f_Mo_led τ x y) := by
  obtain ⟨hW, hX, hY, hI, hh, hr⟩ := id R
  have hN := hW.1
  unfold f_LP_led f_Mo_led
  rw [x_areNodes hW hX, y_isNode hW hY, y_isNode hW hY, Option.bind_some, Option.bind_some, Option.bind_some]
  cases ex : inb x (gN G) with
  | false => exact ⟨-1, σ, τ, G, rfl, rfl, R⟩
  | true =>
    cases ey : inb y (gN G) with
    | false => exact ⟨-1, σ, τ, G, rfl, rfl, R⟩
    | true =>
      obtain ⟨a, ha, rfl⟩ := inb_e ex (by omega)
      obtain ⟨b, hb, rfl⟩ := inb_e ey (by omega)
      obtain ⟨σ', τ', r, e1, e2, e3⟩ := led_e R ha hb
      rw [if_neg bT, if_neg bT, show (true && true) = true from rfl, if_neg bT, e1, e2, Option.bind_some, Option.bind_some]
      obtain ⟨k, K, c, k1, k2, _⟩ := e3.2.2
      exact ⟨_, _, _, G, rfl, by rw [k1, ← k2], ldQ_R R e3⟩
theorem p_ledTo {G : GT} {σ τ : mS} (R : Rel G σ τ) (x y : Int32) : Ok2 (f_LP_ledTo σ x y) (f_Mo_ledTo τ x y) := by
  obtain ⟨hW, hX, hY, hI, hh, hr⟩ := id R
  have hN := hW.1
  unfold f_LP_ledTo f_Mo_ledTo
  rw [x_areNodes hW hX, y_isNode hW hY, y_isNode hW hY, Option.bind_some, Option.bind_some, Option.bind_some]
  cases ex : inb x (gN G) with
  | false => exact ⟨-1, σ, τ, G, rfl, rfl, R⟩
  | true =>
    cases ey : inb y (gN G) with
    | false => exact ⟨-1, σ, τ, G, rfl, rfl, R⟩
    | true =>
      obtain ⟨a, ha, rfl⟩ := inb_e ex (by omega)
      obtain ⟨b, hb, rfl⟩ := inb_e ey (by omega)
      obtain ⟨σ', τ', r, e1, e2, e3⟩ := led_e R ha hb
      rw [if_neg bT, if_neg bT, show (true && true) = true from rfl, if_neg bT, e1, e2, Option.bind_some, Option.bind_some]
      obtain ⟨k, K, c, k1, k2, k3, k4, k5⟩ := e3.2.2
      have hcb : (nI b).toNatClampNeg = b := nI_clamp (by omega)
      dsimp only
      rw [k3, Option.bind_some, gd_t (inb_n (k := b) (n := 20) (by omega) (by decide)), gd_t (inb_n (k := b) (n := 20) (by omega) (by decide)), gd_t (inb_n (k := b) (n := 10) (by omega) (by decide)), gd_t (by decide), hcb, k5]
      by_cases q : K b = true
      · obtain ⟨k6, k7⟩ := k4 q
        rw [q, if_neg bT, k6, show (16 : Int32) = nI 16 from rfl, pk_div (by omega) (by decide) (by decide)]
        unfold fY
        rw [if_pos q, if_neg (show ¬ nI (c b / 16) = 1000000000 from fun z => by have := (nI_eq (b := 1000000000) (by omega) (by omega)).mp z; omega)]
        exact ⟨_, _, _, G, rfl, rfl, ldQ_R R e3⟩
      · rw [Bool.eq_false_iff.mpr q, if_pos bF]
        unfold fY
        rw [if_neg q, if_pos (by rfl)]
        exact ⟨_, _, _, G, rfl, rfl, ldQ_R R e3⟩
