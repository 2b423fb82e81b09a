-- ===== PURE: what least lengths and fewest arcs are, and that they are one =====
def lexL (a b x y : Nat) : Prop := a < x ∨ a = x ∧ b ≤ y
/-- lengths L and arcs H of least ways from s, over the arcs O, without the nodes X -/
def BP (G : GT) (ag : Bool) (O s X K : Nat → Bool) (L H : Nat → Nat) : Prop :=
  (∀ v, v < gN G → s v = true → X v = false → K v = true ∧ L v = 0 ∧ H v = 0) ∧
  (∀ e, e < gm G → O e = true → K (gS G ag e) = true → X (gE G ag e) = false → K (gE G ag e) = true ∧ lexL (L (gE G ag e)) (H (gE G ag e)) (L (gS G ag e) + gw G e) (H (gS G ag e) + 1)) ∧
  ∀ v, K v = true → v < gN G ∧ X v = false ∧ ((s v = true ∧ L v = 0 ∧ H v = 0) ∨ ∃ e, e < gm G ∧ O e = true ∧ gE G ag e = v ∧ K (gS G ag e) = true ∧ L v = L (gS G ag e) + gw G e ∧ H v = H (gS G ag e) + 1)
theorem BP_le {G : GT} {ag : Bool} {O s X K K' : Nat → Bool} {L H L' H' : Nat → Nat} (h : BP G ag O s X K L H) (h' : BP G ag O s X K' L' H') : ∀ n v, H' v = n → K' v = true → K v = true ∧ lexL (L v) (H v) (L' v) (H' v) := by
  intro n
  induction n with
  | zero =>
    intro v hn hv
    obtain ⟨a1, a2, a3⟩ := h'.2.2 v hv
    rcases a3 with ⟨b1, b2, b3⟩ | ⟨e, b1, b2, b3, b4, b5, b6⟩
    · obtain ⟨c1, c2, c3⟩ := h.1 v a1 b1 a2
      exact ⟨c1, by rw [c2, c3, b2, b3]; exact Or.inr ⟨rfl, Nat.le_refl _⟩⟩
    · omega
  | succ n ih =>
    intro v hn hv
    obtain ⟨a1, a2, a3⟩ := h'.2.2 v hv
    rcases a3 with ⟨b1, b2, b3⟩ | ⟨e, b1, b2, b3, b4, b5, b6⟩
    · omega
    · obtain ⟨c1, c2⟩ := ih (gS G ag e) (by omega) b4
      obtain ⟨d1, d2⟩ := h.2.1 e b1 b2 c1 (by rw [b3]; exact a2)
      rw [b3] at d1 d2
      refine ⟨d1, ?_⟩
      unfold lexL at *
      omega
theorem BP_u {G : GT} {ag : Bool} {O s X K K' : Nat → Bool} {L H L' H' : Nat → Nat} (h : BP G ag O s X K L H) (h' : BP G ag O s X K' L' H') (v : Nat) : K v = K' v ∧ (K v = true → L v = L' v ∧ H v = H' v) := by
  have key : ∀ v, K v = true → K' v = true ∧ L v = L' v ∧ H v = H' v := by
    intro v hv
    obtain ⟨a1, a2⟩ := BP_le h' h _ v rfl hv
    obtain ⟨b1, b2⟩ := BP_le h h' _ v rfl a1
    unfold lexL at *
    exact ⟨a1, by omega, by omega⟩
  refine ⟨?_, fun hv => (key v hv).2⟩
  cases q : K v with
  | true => rw [(key v q).1]
  | false =>
    cases q' : K' v with
    | false => rfl
    | true =>
      have := (BP_le h h' _ v rfl q').1
      rw [q] at this; cases this
/-- a counted search that is over has them -/
theorem DI_BP {G : GT} {ag : Bool} {O s X : Nat → Bool} {k : Nat} {K C : Nat → Bool} {c : Nat → Nat} (hk : k ≤ 10) (h : DI G ag O s X k K C c) (hall : ∀ v, K v = true → C v = true) : BP G ag O s X K (fun v => c v / 16) (fun v => c v % 16) := by
  obtain ⟨h1, h2, h7, h3, h4, h5, h6⟩ := h
  refine ⟨fun v hv hs hx => ?_, fun e he hO hK hX => ?_, fun v hv => ?_⟩
  · obtain ⟨a1, a2⟩ := h1 v hv hs hx
    exact ⟨a1, by dsimp only; rw [a2], by dsimp only; rw [a2]⟩
  · obtain ⟨a1, a2⟩ := h3 e he hO hK (hall _ hK) hX
    refine ⟨a1, ?_⟩
    obtain ⟨l1, p1, b1, b2, b3⟩ := h6 _ a1
    obtain ⟨l2, p2, d1, d2, d3⟩ := h6 _ hK
    unfold lexL
    dsimp only
    omega
  · obtain ⟨a1, a2, a3⟩ := h4 v hv
    refine ⟨a1, a2, ?_⟩
    rcases a3 with ⟨b1, b2⟩ | ⟨e, b1, b2, b3, b4, b5, b6⟩
    · exact Or.inl ⟨b1, by dsimp only; rw [b2], by dsimp only; rw [b2]⟩
    · obtain ⟨l2, p2, d1, d2, d3⟩ := h6 _ b4
      exact Or.inr ⟨e, b1, b2, b3, b4, by dsimp only; omega, by dsimp only; omega⟩
/-- the tree of the sources, as the one side has it -/
def TX (b : Nat) (G : GT) (ag : Bool) (O s X : Nat → Bool) (σ : mS) (K : Nat → Bool) (c : Nat → Nat) : Prop := BP G ag O s X K (fun v => c v / 16) (fun v => c v % 16) ∧ (∀ v, b32 (σ.1 b 7) v = K v) ∧ (∀ v, K v = true → v < gN G ∧ σ.1 (b + 1) v = nI (c v) ∧ c v ≤ 200000000 ∧ c v % 16 ≤ 10) ∧ (∀ e, e < 40 → b64 (σ.2.1 b 9) e = O e) ∧ σ.1 b 1 = bI ag ∧ σ.1 b 10 = nI 1
theorem counted_e {b d : Nat} {G : GT} {σ : mS} (hb : sB b) (hd1 : 1 ≤ d) (hd3 : d ≤ 3) (hd : σ.1 (b + 4) 0 = nI d) (x1 : Int64) (x3 : Int32) :
    ∃ σ', f_Se_beginCounted b σ x1 x3 = some σ' ∧ frB b σ σ' ∧ (∀ c, SI b G σ' d (fun _ => false) (fun v => b32 x3 v) c false) ∧ σ'.2.1 b 9 = x1 ∧ σ'.1 b 6 = 0 ∧ σ'.1 b 10 = nI 1 := by
  have hb8 : b = 8 ∨ b = 16 := hb
  obtain ⟨σ1, p1, p2, p3, p4, p5⟩ := begin_e (G := G) hb hd1 hd3 hd x1 x3
  unfold f_Se_beginCounted
  rw [p1, Option.bind_some]
  simp only [nm]
  rw [gd_t (by decide)]
  generalize hσ : sI (sI σ1 b 10 1) b 11 0 = σ3
  have r3 : ∀ a j, (a ≠ b ∨ j ≠ 10 ∧ j ≠ 11) → σ3.1 a j = σ1.1 a j := by
    intro a j q
    subst hσ
    rw [sI_1]
    by_cases q2 : a = b
    · rw [if_pos q2, if_neg (by omega), sI_1, if_pos q2, if_neg (by omega)]
    · rw [if_neg q2, sI_1, if_neg q2]
  have h11 : σ3.1 b 11 = 0 := by subst hσ; rw [sI_1, if_pos rfl, if_pos rfl]
  have h10 : σ3.1 b 10 = nI 1 := by subst hσ; rw [sI_1, if_pos rfl, if_neg (by omega), sI_1, if_pos rfl, if_pos rfl]; rfl
  have h2 : σ3.2 = σ1.2 := by subst hσ; rfl
  have hf : frB b σ1 σ3 := ⟨fun a j q => r3 a j (Or.inl (by omega)), r3 b 1 (Or.inr ⟨by omega, by omega⟩), r3 (b + 4) 0 (Or.inl (by omega)), fun a j _ => by rw [h2], by rw [h2]⟩
  refine ⟨σ3, rfl, frB_t p2 hf, fun c => p3 σ3 false c r3 h2 h11, by rw [h2]; exact p4, by rw [r3 b 6 (Or.inr ⟨by omega, by omega⟩)]; exact p5, h10⟩
