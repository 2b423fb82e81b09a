-- ===== PURE: a search: offers =====
theorem HP_c {b d : Nat} {σ : mS} {S S' : Nat → Bool} {r r' : Nat → Nat} (h : HP b σ d S r) (h1 : ∀ n, S' n = S n) (h2 : ∀ n, S n = true → r' n = r n) : HP b σ d S' r' := by
  obtain ⟨a1, a2, a3, a4, sz, g, hM, hr, ho, hS⟩ := h
  have hin : ∀ i, i < sz → r' (g i) = r (g i) := fun i hi => h2 _ ((hS _).mpr ⟨i, hi, rfl⟩)
  refine ⟨a1, a2, a3, fun n hn hs => a4 n hn (by rw [← h1]; exact hs), sz, g, hM, ⟨fun i hi => by rw [hin i hi]; exact hr.1 i hi, fun i hi => by rw [hin i hi]; exact hr.2 i hi⟩, fun i hi his => ?_, fun n => by rw [h1]; exact hS n⟩
  have hp := par_lt (d := d) hi
  rw [hin i his, hin _ (by omega)]
  exact ho i hi his
theorem HP_f {b d : Nat} {σ σ' : mS} {S : Nat → Bool} {r : Nat → Nat} (h : HP b σ d S r) (h1 : ∀ k j, k = b ∨ k = b + 1 ∨ k = b + 2 → σ'.1 k j = σ.1 k j) (h2 : ∀ j, σ'.2.1 (b + 3) j = σ.2.1 (b + 3) j) : HP b σ' d S r := by
  obtain ⟨a1, a2, a3, a4, sz, g, hM, hr, ho, hS⟩ := h
  obtain ⟨m1, m2, m3, m4, m5⟩ := hM
  exact ⟨a1, a2, by rw [h1 b 0 (by omega)]; exact a3, fun n hn hs => by rw [h1 (b + 2) n (by omega)]; exact a4 n hn hs, sz, g, ⟨by rw [h1 b 4 (by omega)]; exact m1, m2, m3, m4, fun i hi hx => ⟨by rw [h1 (b + 1) i (by omega)]; exact (m5 i hi hx).1, by rw [h1 (b + 2) (g i) (by omega)]; exact (m5 i hi hx).2⟩⟩, ⟨fun i hi => by rw [h2]; exact hr.1 i hi, hr.2⟩, ho, hS⟩
def keyS (G : GT) (br : Bool) (c : Nat → Nat) (n : Nat) : Nat := c n + (if br = true then gr G n * 16 else 0)
/-- a search as it stands: known, closed, numbers -/
def SI (b : Nat) (G : GT) (σ : mS) (d : Nat) (K C : Nat → Bool) (c : Nat → Nat) (br : Bool) : Prop := HP (b + 4) σ d (fun n => K n && !C n) (fun n => keyS G br c n * 10 + n) ∧ (∀ v, b32 (σ.1 b 7) v = K v) ∧ (∀ v, v < 10 → b32 (σ.1 b 8) v = C v) ∧ (∀ v, K v = true → v < gN G ∧ σ.1 (b + 1) v = nI (c v) ∧ c v ≤ 200000000) ∧ σ.1 b 11 = bI br
def frO (b : Nat) (σ σ' : mS) : Prop := (∀ k j, k ≠ b + 1 → k ≠ b + 5 → k ≠ b + 6 → (k ≠ b ∨ j ≠ 7) → (k ≠ b + 4 ∨ j ≠ 4) → σ'.1 k j = σ.1 k j) ∧ (∀ k j, k ≠ b + 7 → σ'.2.1 k j = σ.2.1 k j) ∧ σ'.2.2 = σ.2.2
theorem frO_r (b : Nat) (σ : mS) : frO b σ σ := ⟨fun _ _ _ _ _ _ _ => rfl, fun _ _ _ => rfl, rfl⟩
theorem frO_t {b : Nat} {σ σ' σ'' : mS} (h : frO b σ σ') (k : frO b σ' σ'') : frO b σ σ'' := ⟨fun a j h1 h2 h3 h4 h5 => (k.1 a j h1 h2 h3 h4 h5).trans (h.1 a j h1 h2 h3 h4 h5), fun a j h1 => (k.2.1 a j h1).trans (h.2.1 a j h1), k.2.2.trans h.2.2⟩
theorem frO_X {b : Nat} {G : GT} {σ σ' : mS} (hb : sB b) (h : frO b σ σ') (hX : RX G σ) : RX G σ' := by
  have hb8 : b = 8 ∨ b = 16 := hb
  have e : ∀ k j, k < 8 → σ'.1 k j = σ.1 k j := fun k j hk => h.1 k j (by omega) (by omega) (by omega) (Or.inl (by omega)) (Or.inl (by omega))
  obtain ⟨x1, x2, x3, x4, x5, x6⟩ := hX
  refine ⟨by rw [e 1 6 (by omega)]; exact x1, by rw [e 1 7 (by omega)]; exact x2, fun q hq => ?_, fun v hv => by rw [e 7 v (by omega)]; exact x4 v hv, fun q => by rw [h.2.1 1 8 (by omega)]; exact x5 q, fun v => by rw [e 1 9 (by omega)]; exact x6 v⟩
  rw [e 2 q (by omega), e 3 q (by omega), e 4 q (by omega), e 5 q (by omega), e 6 q (by omega)]
  exact x3 q hq
/-- an offer is refused -/
def noO (K C : Nat → Bool) (c : Nat → Nat) (v x : Nat) : Bool := C v || (K v && decide (c v ≤ x))
theorem offer_e {b d : Nat} {G : GT} {σ : mS} {K C : Nat → Bool} {c : Nat → Nat} {br : Bool} (hW : WG G) (hX : RX G σ) (hb : sB b) (h : SI b G σ d K C c br) {v x : Nat} (hv : v < gN G) (hx : x ≤ 200000000) :
    ∃ σ', f_Se_offer b σ (nI v) (nI x) = some σ' ∧ frO b σ σ' ∧ (if noO K C c v x = true then σ' = σ else SI b G σ' d (va_up K v true) C (va_up c v x) br) := by
  have hN := hW.1
  have hb8 : b = 8 ∨ b = 16 := hb
  obtain ⟨hH, hk, hc, hn, hbr⟩ := id h
  -- what an accepted offer does
  have acc : noO K C c v x = false → ∃ σ', (nm (sI σ b 7 ((σ.1 b 7) ||| (1 <<< (nI v &&& 31)))) fun σ2 =>
      gd (inb (nI v) 10) ((nm (sI σ2 ((b + 1)) (nI v).toNatClampNeg (nI x)) fun σ3 =>
      if (σ3.1 b 11) = 0 then (
      (f_Wa_put ((b + 4)) σ3 (nI v) (nI x)).bind fun σ4 =>
      some σ4) else (
      gd (inb (nI v) 10) (
      (f_Wa_put ((b + 4)) σ3 (nI v) ((nI x) + ((σ3.1 7 (nI v).toNatClampNeg) * 16))).bind fun σ5 =>
      some σ5))))) = some σ' ∧ frO b σ σ' ∧ SI b G σ' d (va_up K v true) C (va_up c v x) br := by
    intro hno
    have hCv : C v = false := by
      cases q : C v with
      | false => rfl
      | true => rw [noO, q] at hno; cases hno
    have hle : K v = true → x < c v := by
      intro q
      rw [noO, hCv, q] at hno
      simpa using hno
    simp only [nm, inb_n (show v < 10 by omega) (by decide), gd_t rfl, nI_clamp (show v < 2 ^ 31 by omega)]
    generalize hσ3 : sI (sI σ b 7 (σ.1 b 7 ||| 1 <<< (nI v &&& 31))) (b + 1) v (nI x) = σ3
    have f3 : frO b σ σ3 := by
      subst hσ3
      refine ⟨fun k j q1 q2 q3 q4 q5 => ?_, fun _ _ _ => rfl, rfl⟩
      rw [sI_1, if_neg q1, sI_1]
      by_cases q : k = b
      · rw [if_pos q, if_neg (by omega)]
      · rw [if_neg q]
    have h3H : HP (b + 4) σ3 d (fun n => K n && !C n) (fun n => keyS G br c n * 10 + n) := by
      refine HP_f hH (fun k j hk => ?_) (fun j => ?_)
      · subst hσ3
        rw [sI_1, if_neg (by omega), sI_1, if_neg (by omega)]
      · subst hσ3; rfl
    have hput : ∃ σ', (if (σ3.1 b 11) = 0 then ((f_Wa_put ((b + 4)) σ3 (nI v) (nI x)).bind fun σ4 => some σ4) else ((f_Wa_put ((b + 4)) σ3 (nI v) ((nI x) + ((σ3.1 7 v) * 16))).bind fun σ5 => some σ5)) = some σ' ∧ HP (b + 4) σ' d (va_up (fun n => K n && !C n) v true) (va_up (fun n => keyS G br c n * 10 + n) v (keyS G br (va_up c v x) v * 10 + v)) ∧ frW (b + 4) σ3 σ' := by
      have e11 : σ3.1 b 11 = bI br := by rw [f3.1 b 11 (by omega) (by omega) (by omega) (Or.inr (by omega)) (Or.inl (by omega))]; exact hbr
      have hgr := hW.2.2.2 v hv
      have e7 : σ3.1 7 v = nI (gr G v) := by
        rw [f3.1 7 v (by omega) (by omega) (by omega) (Or.inl (by omega)) (Or.inl (by omega))]; exact hX.2.2.2.1 v hv
      have hkey : ∀ br' : Bool, br' = br → (fun n => K n && !C n) v = true → keyS G br' (va_up c v x) v * 10 + v ≤ (fun n => keyS G br c n * 10 + n) v := by
        intro br' e hS
        subst e
        have hK : K v = true := by
          simp only [Bool.and_eq_true] at hS; exact hS.1
        have := hle hK
        show keyS G br' (va_up c v x) v * 10 + v ≤ keyS G br' c v * 10 + v
        unfold keyS
        rw [va_up_self]
        omega
      rw [e11]
      cases hbb : br with
      | false =>
        rw [if_pos bF]
        have ek : keyS G false (va_up c v x) v = x := by unfold keyS; rw [va_up_self]; simp
        obtain ⟨σ', p1, p2, p3⟩ := put_e (n := v) (key := x) h3H (by omega) (by omega) (fun q => by rw [← ek]; exact hkey false hbb.symm q)
        rw [p1, Option.bind_some]
        refine ⟨σ', rfl, ?_, p3⟩
        rw [ek]
        rw [hbb] at p2
        exact p2
      | true =>
        rw [if_neg bT, e7, show (16 : Int32) = nI 16 from rfl, pk_mul, nI_add]
        have ek : keyS G true (va_up c v x) v = x + gr G v * 16 := by unfold keyS; rw [va_up_self]; simp
        obtain ⟨σ', p1, p2, p3⟩ := put_e (n := v) (key := x + gr G v * 16) h3H (by omega) (by omega) (fun q => by rw [← ek]; exact hkey true hbb.symm q)
        rw [p1, Option.bind_some]
        refine ⟨σ', rfl, ?_, p3⟩
        rw [ek]
        rw [hbb] at p2
        exact p2
    obtain ⟨σ', p1, p2, p3⟩ := hput
    have e7c : σ3.1 7 (nI v).toNatClampNeg = σ3.1 7 v := by rw [nI_clamp (by omega)]
    refine ⟨σ', p1, ?_, ?_⟩
    · refine ⟨fun k j q1 q2 q3 q4 q5 => ?_, fun k j q => ?_, p3.2.2.trans f3.2.2⟩
      · rw [p3.1 k j (by omega) (by omega) (by omega)]; exact f3.1 k j q1 q2 q3 q4 q5
      · rw [p3.2.1 k j (by omega)]; exact f3.2.1 k j q
    · have er : ∀ k j, k ≠ b + 4 → k ≠ b + 5 → k ≠ b + 6 → σ'.1 k j = σ3.1 k j := fun k j q1 q2 q3 => p3.1 k j (by omega) (by omega) (Or.inl q1)
      refine ⟨HP_c p2 (fun n => ?_) (fun n hn => ?_), fun u => ?_, fun u hu => ?_, fun u hu => ?_, ?_⟩
      · by_cases q : n = v
        · subst q; simp [va_up_self, hCv]
        · simp [va_up_ne _ _ q]
      · by_cases q : n = v
        · subst q; rw [va_up_self]
        · rw [va_up_ne (fun n => keyS G br c n * 10 + n) _ q]
          unfold keyS
          rw [va_up_ne _ _ q]
      · rw [er b 7 (by omega) (by omega) (by omega)]
        subst hσ3
        rw [sI_1, if_neg (by omega), sI_1, if_pos rfl, if_pos rfl, b32_set _ (by omega), hk u]
        by_cases q : u = v
        · subst q; rw [va_up_self]; simp
        · rw [va_up_ne _ _ q]; simp [q]
      · rw [er b 8 (by omega) (by omega) (by omega)]
        subst hσ3
        rw [sI_1, if_neg (by omega), sI_1, if_pos rfl, if_neg (by omega)]
        exact hc u hu
      · rw [er (b + 1) u (by omega) (by omega) (by omega)]
        subst hσ3
        rw [sI_1, if_pos rfl]
        by_cases q : u = v
        · subst q; rw [if_pos rfl, va_up_self]; exact ⟨hv, rfl, hx⟩
        · rw [if_neg q, va_up_ne _ _ q, sI_1, if_neg (by omega)]
          rw [va_up_ne _ _ q] at hu
          exact hn u hu
      · rw [er b 11 (by omega) (by omega) (by omega)]
        subst hσ3
        rw [sI_1, if_neg (by omega), sI_1, if_pos rfl, if_neg (by omega)]
        exact hbr
  unfold f_Se_offer
  rw [nm_e2]
  have tC := b32_tb (σ.1 b 8) (k := v) (by omega)
  have tK := b32_tb (σ.1 b 7) (k := v) (by omega)
  rw [hc v (by omega)] at tC
  rw [hk v] at tK
  cases hCv : C v with
  | true =>
    rw [if_neg (fun q => by rw [tC, hCv] at q; cases q)]
    exact ⟨σ, rfl, frO_r b σ, by rw [if_pos (by rw [noO, hCv]; rfl)]⟩
  | false =>
    rw [if_pos (tC.mpr hCv)]
    cases hKv : K v with
    | false =>
      rw [if_pos (tK.mpr hKv)]
      have hno : noO K C c v x = false := by rw [noO, hCv, hKv]; rfl
      obtain ⟨σ', p1, p2, p3⟩ := acc hno
      exact ⟨σ', p1, p2, by rw [if_neg (by rw [hno]; decide)]; exact p3⟩
    | true =>
      obtain ⟨n1, n2, n3⟩ := hn v hKv
      rw [if_neg (fun q => by rw [tK, hKv] at q; cases q), gd_t (inb_n (by omega) (by decide)), nI_clamp (by omega), n2]
      have el := nI_ltI (a := x) (b := c v) (by omega) (by omega)
      by_cases hlt : x < c v
      · rw [if_pos (el.mpr hlt)]
        have hno : noO K C c v x = false := by rw [noO, hCv, hKv]; simp [hlt]
        obtain ⟨σ', p1, p2, p3⟩ := acc hno
        rw [nI_clamp (by omega)] at p1
        exact ⟨σ', p1, p2, by rw [if_neg (by rw [hno]; decide)]; exact p3⟩
      · rw [if_neg (fun q => hlt (el.mp q))]
        exact ⟨σ, rfl, frO_r b σ, by rw [if_pos (by rw [noO, hCv, hKv]; simp; omega)]⟩
