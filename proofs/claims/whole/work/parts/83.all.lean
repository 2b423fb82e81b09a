theorem isOver_e {b d : Nat} {G : GT} {σ : mS} {K C : Nat → Bool} {c : Nat → Nat} {br : Bool} (h : SI b G σ d K C c br) : ∃ x : Bool, f_Se_isOver b σ = some (bI x) ∧ (x = true ↔ ∀ v, K v = true → C v = true) := by
  obtain ⟨x, p1, p2⟩ := isEmpty_e h.1
  refine ⟨x, ?_, p2.trans ⟨fun q v hv => ?_, fun q v => ?_⟩⟩
  · unfold f_Se_isOver
    rw [p1, Option.bind_some, gd_t bI_b]
  · have := q v
    rw [hv] at this
    simpa using this
  · cases hK : K v with
    | false => rfl
    | true => rw [q v hK]; rfl
/-- the row in which nodes were settled -/
def ordI (b : Nat) (σ : mS) (k : Nat) (K C X : Nat → Bool) (c o : Nat → Nat) : Prop := (∀ i, i < k → o i < 10 ∧ σ.1 (b + 2) i = nI (o i) ∧ K (o i) = true ∧ C (o i) = true) ∧ (∀ i j, i < k → j < k → o i = o j → i = j) ∧ (∀ v, K v = true → C v = true → ∃ i, i < k ∧ o i = v) ∧ ∀ i j, i < j → j < k → c (o i) ≤ c (o j)
theorem all_e {b d : Nat} {G : GT} {σ : mS} {K C O s X : Nat → Bool} {c : Nat → Nat} {ag : Bool} (hW : WG G) (hX : RX G σ) (hb : sB b) (h : SI b G σ d K C c false) (ha : σ.1 b 1 = bI ag) (hO : ∀ e, e < 40 → b64 (σ.2.1 b 9) e = O e) (hp : σ.1 b 10 = nI 1) (hk : σ.1 b 6 = 0) (hD : DI G ag O s X 0 K C c) (h0 : ∀ v, C v = true → K v = false) :
    ∃ σ' K' C' c' k o, f_Se_settleAll b σ = some σ' ∧ k ≤ 10 ∧ SI b G σ' d K' C' c' false ∧ DI G ag O s X k K' C' c' ∧ (∀ v, K' v = true → C' v = true) ∧ σ'.1 b 6 = nI k ∧ ordI b σ' k K' C' X c' o ∧ frT b σ σ' := by
  have hN := hW.1
  unfold f_Se_settleAll
  obtain ⟨u, q1, K', C', c', k, o, q2, q3, q4, q5, q6, q7, q8⟩ := lpN_i (st := f_Se_settleAll_L2 b) (fun i t => t.1 = nI i ∧ ∃ K' C' c' o, SI b G t.2 d K' C' c' false ∧ DI G ag O s X i K' C' c' ∧ t.2.1 b 6 = nI i ∧ ordI b t.2 i K' C' X c' o ∧ frT b σ t.2) (fun u => ∃ K' C' c' k o, k ≤ 10 ∧ SI b G u.2 d K' C' c' false ∧ DI G ag O s X k K' C' c' ∧ (∀ v, K' v = true → C' v = true) ∧ u.2.1 b 6 = nI k ∧ ordI b u.2 k K' C' X c' o ∧ frT b σ u.2) 10 (fun i t hi ht => by
    obtain ⟨t1, t2⟩ := t
    obtain ⟨e1, K', C', c', o, hS, hD', h6, ho, hf⟩ := ht
    dsimp only at e1 hS h6 ho hf
    subst e1
    unfold f_Se_settleAll_L2
    dsimp only
    by_cases hc : i = 10
    · subst hc
      left
      rw [if_pos (by decide)]
      refine ⟨_, rfl, K', C', c', 10, o, by omega, hS, hD', fun v hv => ?_, h6, ho, hf⟩
      have hv10 : v < 10 := by have := (hD'.2.2.2.2.1 v hv).1; omega
      obtain ⟨j, hj, e⟩ := inj_onto 10 o (fun j hj => (ho.1 j hj).1) ho.2.1 v hv10
      rw [← e]; exact (ho.1 j hj).2.2.2
    · have hi2 : i < 10 := by omega
      rw [if_neg (show ¬ (10 : Int32) ≤ nI i from nI_ge (a := i) (b := 10) hi2 (by decide))]
      obtain ⟨x, p1, p2⟩ := isOver_e hS
      rw [p1, Option.bind_some]
      cases hx : x with
      | true =>
        left
        rw [if_neg bT]
        exact ⟨_, rfl, K', C', c', i, o, by omega, hS, hD', p2.mp hx, h6, ho, hf⟩
      | false =>
        right
        refine ⟨hi2, ?_⟩
        rw [if_pos bF]
        have hX2 : RX G t2 := frT_X hb hf hX
        have hcB : ∀ v, K' v = true → c' v ≤ 16000001 * i := by
          intro v hv
          obtain ⟨len, hp', a1, a2, a3⟩ := hD'.2.2.2.2.2.2 v hv
          omega
        rcases settle_e (ag := ag) (O := O) (pa := 1) hW hX2 hb hS (by rw [hf.2.1 1 (by omega) (by omega) (by omega)]; exact ha) (fun e he => by rw [hf.2.2.2.1 b 9 (by omega)]; exact hO e he) (by rw [hf.2.1 10 (by omega) (by omega) (by omega)]; exact hp) (by omega) h6 hi2 hcB with ⟨r1, r2⟩ | ⟨n, σ', r1, r2, r3, r4, r5, r6, r7, r8, r9⟩
        · exfalso
          have : x = true := p2.mpr (fun v hv => by
            have := r1 v
            rw [hv] at this
            simpa using this)
          rw [hx] at this; cases this
        · rw [r1, Option.bind_some]
          have hmin : ∀ m, K' m = true → C' m = false → c' n ≤ c' m := by
            intro m hm1 hm2
            by_cases q : m = n
            · rw [q]; exact Nat.le_refl _
            · have := r4 m hm1 hm2 q
              unfold keyS at this
              simp only [Bool.false_eq_true, if_false, Nat.add_zero] at this
              have h1 : n < 10 := by have := (hD'.2.2.2.2.1 n r2).1; omega
              have h2 : m < 10 := by have := (hD'.2.2.2.2.1 m hm1).1; omega
              omega
          have hDn := DI_step hW hD' r2 r3 hmin
          have hn10 : n < 10 := by have := (hD'.2.2.2.2.1 n r2).1; omega
          have hCn' : va_up C' n true n = true := va_up_self _ _ _
          have hclo : ∀ v, va_up C' n true v = true → (relA G ag O 1 (va_up C' n true) n (gm G) (K', c')).2 v = c' v ∧ (relA G ag O 1 (va_up C' n true) n (gm G) (K', c')).1 v = K' v := fun v hv => relA_C (K', c') hv (gm G)
          have hoC : ∀ j, j < i → va_up C' n true (o j) = true := by
            intro j hj
            by_cases q : o j = n
            · rw [q]; exact hCn'
            · rw [va_up_ne _ _ q]; exact (ho.1 j hj).2.2.2
          have hon : ∀ j, j < i → o j ≠ n := fun j hj q => by
            have := (ho.1 j hj).2.2.2
            rw [q, r3] at this; cases this
          refine ⟨_, rfl, nI_1 i, _, _, _, va_up o i n, r5, hDn, r6, ⟨fun j hj => ?_, fun j1 j2 hj1 hj2 e => ?_, fun v hv1 hv2 => ?_, fun j1 j2 hj hj2 => ?_⟩, frT_t hf r9⟩
          · by_cases q : j = i
            · rw [q, va_up_self]
              exact ⟨hn10, r7, by rw [(hclo n hCn').2]; exact r2, hCn'⟩
            · rw [va_up_ne _ _ q]
              obtain ⟨a1, a2, a3, a4⟩ := ho.1 j (by omega)
              exact ⟨a1, by dsimp only; rw [r8 j q]; exact a2, by rw [(hclo _ (hoC j (by omega))).2]; exact a3, hoC j (by omega)⟩
          · by_cases q1 : j1 = i <;> by_cases q2 : j2 = i
            · omega
            · rw [q1, va_up_self, va_up_ne _ _ q2] at e
              exact absurd e.symm (hon j2 (by omega))
            · rw [q2, va_up_self, va_up_ne _ _ q1] at e
              exact absurd e (hon j1 (by omega))
            · rw [va_up_ne _ _ q1, va_up_ne _ _ q2] at e
              exact ho.2.1 j1 j2 (by omega) (by omega) e
          · rw [(hclo v hv2).2] at hv1
            by_cases q : v = n
            · exact ⟨i, by omega, by rw [va_up_self]; exact q.symm⟩
            · rw [va_up_ne _ _ q] at hv2
              obtain ⟨j, hj, e⟩ := ho.2.2.1 v hv1 hv2
              exact ⟨j, by omega, by rw [va_up_ne _ _ (by omega)]; exact e⟩
          · rw [va_up_ne o n (show j1 ≠ i by omega), (hclo _ (hoC j1 (by omega))).1]
            by_cases q : j2 = i
            · rw [q, va_up_self, (hclo n hCn').1]
              obtain ⟨a1, a2, a3, a4⟩ := ho.1 j1 (by omega)
              exact hD'.2.2.2.2.2.1 _ n a3 a4 r2 r3
            · rw [va_up_ne _ _ q, (hclo _ (hoC j2 (by omega))).1]
              exact ho.2.2.2 j1 j2 hj (by omega)) fuS 0 (0, σ) ⟨rfl, K, C, c, fun _ => 0, h, hD, hk, ⟨fun i hi => absurd hi (Nat.not_lt_zero _), fun i j hi => absurd hi (Nat.not_lt_zero _), fun v hv1 hv2 => (by rw [h0 v hv2] at hv1; cases hv1), fun i j _ hj => absurd hj (Nat.not_lt_zero _)⟩, frT_r b σ⟩ (Nat.zero_le _) (by rw [fuS_e]; omega)
  rw [q1, Option.bind_some]
  exact ⟨_, K', C', c', k, o, rfl, q2, q3, q4, q5, q6, q7, q8⟩
