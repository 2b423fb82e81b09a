-- ===== PURE: the other side's ways, one after the other =====
theorem lpN_w {S X : Type} {st : S → Option (S ⊕ X)} (I : Nat → S → Prop) (Q : X → Prop) (hs : ∀ k s, I k s → (∃ x, st s = some (.inr x) ∧ Q x) ∨ ∃ s' k', st s = some (.inl s') ∧ k' < k ∧ I k' s') : ∀ n k s, I k s → k < n → ∃ x, lpN st n s = some x ∧ Q x := by
  intro n
  induction n with
  | zero => intro k s _ h; omega
  | succ n ih =>
    intro k s hI hn
    rcases hs k s hI with ⟨x, h1, h2⟩ | ⟨s', k', h1, h2, h3⟩
    · exact ⟨x, by rw [lpN, h1], h2⟩
    · obtain ⟨x, h4, h5⟩ := ih k' s' h3 (by omega)
      exact ⟨x, by rw [lpN, h1]; exact h4, h5⟩
theorem nI_subr (a b : Nat) : nI (a + b) - nI b = nI a := by rw [← nI_add]; exact Int32.add_sub_cancel _ _
/-- the simple ways on from u to b over the arcs O, in the order of their arcs -/
def wyO (G : GT) (O : Nat → Bool) (b : Nat) : Nat → List Nat → Nat → List (List Nat)
  | 0, _, u => if u = b then [[]] else []
  | f + 1, vs, u => if u = b then [[]] else (List.range (gm G)).flatMap fun e => if O e = true ∧ gf G e = u ∧ gt G e ∉ vs then (wyO G O b f (gt G e :: vs) (gt G e)).map (e :: ·) else []
theorem wyO_F {G : GT} {b : Nat} : ∀ f vs u, wysF G b f vs u = wyO G (gl G) b f vs u := by
  intro f
  induction f with
  | zero => intro vs u; rfl
  | succ f ih =>
    intro vs u
    rw [wysF, wyO]
    simp only [ih]
def topN (G : GT) (a : Nat) : List Nat → Nat
  | [] => a
  | e :: _ => gt G e
def vsR (G : GT) (a : Nat) : List Nat → List Nat
  | [] => [a]
  | e :: rp => gt G e :: vsR G a rp
abbrev canG (G : GT) (O : Nat → Bool) (a : Nat) (rp : List Nat) (e : Nat) : Prop := O e = true ∧ gf G e = topN G a rp ∧ gt G e ∉ vsR G a rp
def extF (G : GT) (O : Nat → Bool) (a b : Nat) (rp : List Nat) (e : Nat) : List (List Nat) := if canG G O a rp e then (wyO G O b (9 - rp.length) (gt G e :: vsR G a rp) (gt G e)).map (fun q => rp.reverse ++ e :: q) else []
def extW (G : GT) (O : Nat → Bool) (a b : Nat) (rp : List Nat) (i : Nat) : List (List Nat) := ((List.range (gm G)).drop i).flatMap (extF G O a b rp)
def remW (G : GT) (O : Nat → Bool) (a b : Nat) : List Nat → Nat → List (List Nat)
  | [], i => extW G O a b [] i
  | e :: rp, i => extW G O a b (e :: rp) i ++ remW G O a b rp (e + 1)
theorem ext_end {G : GT} {O : Nat → Bool} {a b : Nat} {rp : List Nat} {i : Nat} (h : gm G ≤ i) : extW G O a b rp i = [] := by
  unfold extW
  rw [List.drop_eq_nil_of_le (by simpa using h)]; rfl
theorem ext_s {G : GT} {O : Nat → Bool} {a b : Nat} {rp : List Nat} {i : Nat} (h : i < gm G) : extW G O a b rp i = extF G O a b rp i ++ extW G O a b rp (i + 1) := by
  unfold extW
  rw [List.drop_eq_getElem_cons (by simpa using h), List.flatMap_cons, List.getElem_range]
theorem ext_skip {G : GT} {O : Nat → Bool} {a b : Nat} {rp : List Nat} : ∀ n i, i + n ≤ gm G → (∀ j, i ≤ j → j < i + n → ¬ canG G O a rp j) → extW G O a b rp i = extW G O a b rp (i + n) := by
  intro n
  induction n with
  | zero => intro i _ _; rfl
  | succ n ih =>
    intro i hi h
    rw [ext_s (by omega), extF, if_neg (h i (Nat.le_refl _) (by omega)), List.nil_append, ih (i + 1) (by omega) (fun j h1 h2 => h j (by omega) (by omega))]
    congr 1; omega
theorem rem_e {G : GT} {O : Nat → Bool} {a b : Nat} {rp : List Nat} {i j : Nat} (h : extW G O a b rp i = extW G O a b rp j) : remW G O a b rp i = remW G O a b rp j := by
  cases rp with
  | nil => exact h
  | cons e rp => rw [remW, remW, h]
theorem rem_s {G : GT} {O : Nat → Bool} {a b : Nat} {rp : List Nat} {i : Nat} (h : i < gm G) : remW G O a b rp i = extF G O a b rp i ++ remW G O a b rp (i + 1) := by
  cases rp with
  | nil => exact ext_s h
  | cons e rp => rw [remW, remW, ext_s h, List.append_assoc]
/-- what is on the way so far keeps -/
def VP (G : GT) (O : Nat → Bool) (a : Nat) : List Nat → Prop
  | [] => True
  | e :: rp => e < gm G ∧ canG G O a rp e ∧ VP G O a rp
theorem vs_len {G : GT} {a : Nat} : ∀ rp : List Nat, (vsR G a rp).length = rp.length + 1 := by
  intro rp
  induction rp with
  | nil => rfl
  | cons e rp ih => rw [vsR, List.length_cons, ih, List.length_cons]
theorem vs_ok {G : GT} {O : Nat → Bool} {a : Nat} (hW : WG G) (ha : a < gN G) : ∀ rp : List Nat, VP G O a rp → (vsR G a rp).Nodup ∧ ∀ v ∈ vsR G a rp, v < gN G := by
  intro rp
  induction rp with
  | nil => intro _; exact ⟨by simp [vsR], fun v hv => by
      have q : v = a := List.mem_singleton.mp hv
      rw [q]; exact ha⟩
  | cons e rp ih =>
    intro h
    obtain ⟨h1, h2, h3⟩ := h
    obtain ⟨i1, i2⟩ := ih h3
    refine ⟨List.nodup_cons.mpr ⟨h2.2.2, i1⟩, fun v hv => ?_⟩
    rcases List.mem_cons.mp hv with q | q
    · rw [q]; exact (hW.2.2.1 e h1).2.1
    · exact i2 v q
theorem VP_len {G : GT} {O : Nat → Bool} {a : Nat} {rp : List Nat} (hW : WG G) (ha : a < gN G) (h : VP G O a rp) : rp.length ≤ 9 := by
  obtain ⟨h1, h2⟩ := vs_ok hW ha rp h
  have := nodup_len (n := gN G) h1 h2
  rw [vs_len] at this
  have := hW.1
  omega
theorem ext_0 {G : GT} {O : Nat → Bool} {a b e : Nat} {rp : List Nat} (hb : gt G e ≠ b) (hl : rp.length ≤ 8) (hc : canG G O a rp e) : extF G O a b rp e = extW G O a b (e :: rp) 0 := by
  unfold extF
  rw [if_pos hc, show 9 - rp.length = (8 - rp.length) + 1 by omega, wyO, if_neg hb]
  unfold extW
  rw [List.drop_zero, List.map_flatMap]
  congr 1
  funext f
  unfold extF
  by_cases q : canG G O a (e :: rp) f
  · rw [if_pos q]
    have q2 : O f = true ∧ gf G f = gt G e ∧ gt G f ∉ gt G e :: vsR G a rp := q
    rw [if_pos q2, List.map_map, List.length_cons, show 9 - (rp.length + 1) = 8 - rp.length by omega]
    show List.map _ _ = List.map _ (wyO G O b (8 - rp.length) (gt G f :: gt G e :: vsR G a rp) (gt G f))
    congr 1
    funext q
    simp
  · rw [if_neg q]
    have q2 : ¬ (O f = true ∧ gf G f = gt G e ∧ gt G f ∉ gt G e :: vsR G a rp) := q
    rw [if_neg q2]; rfl
theorem rem_push {G : GT} {O : Nat → Bool} {a b e : Nat} {rp : List Nat} (he : e < gm G) (hb : gt G e ≠ b) (hl : rp.length ≤ 8) (hc : canG G O a rp e) : remW G O a b rp e = remW G O a b (e :: rp) 0 := by
  rw [rem_s he, ext_0 hb hl hc, remW]
theorem rem_hit {G : GT} {O : Nat → Bool} {a b e : Nat} {rp : List Nat} (he : e < gm G) (hb : gt G e = b) (hc : canG G O a rp e) : remW G O a b rp e = (e :: rp).reverse :: remW G O a b rp (e + 1) := by
  rw [rem_s he, extF, if_pos hc]
  have : ∀ f vs, wyO G O b f vs (gt G e) = [[]] := by
    intro f vs
    cases f with
    | zero => rw [wyO, if_pos hb]
    | succ f => rw [wyO, if_pos hb]
  rw [this]
  simp
/-- how much may still be tried -/
def muW : List Nat → Nat → Nat
  | [], i => (41 - i) * 64 ^ 10
  | e :: rp, i => (41 - i) * 64 ^ (9 - rp.length) + muW rp (e + 1)
theorem mu_le : ∀ (rp : List Nat) (i : Nat), muW rp i ≤ 41 * 64 ^ 10 * (rp.length + 1) := by
  intro rp
  induction rp with
  | nil => intro i; rw [muW, List.length_nil]; have := Nat.mul_le_mul_right (64 ^ 10) (Nat.sub_le 41 i); omega
  | cons e rp ih =>
    intro i
    rw [muW, List.length_cons, Nat.mul_add _ (rp.length + 1) 1, Nat.mul_one]
    have h1 := ih (e + 1)
    have h2 : (41 - i) * 64 ^ (9 - rp.length) ≤ 41 * 64 ^ 10 := Nat.mul_le_mul (Nat.sub_le _ _) (Nat.pow_le_pow_right (by decide) (by omega))
    omega
theorem mu_push {rp : List Nat} {i e : Nat} (h1 : i ≤ e) (h2 : e < 40) (hl : rp.length ≤ 8) : muW (e :: rp) 0 < muW rp i := by
  have key : 41 * 64 ^ (9 - rp.length) + muW rp (e + 1) < muW rp i := by
    cases rp with
    | nil =>
      rw [muW, muW]
      have : (41 - i) * 64 ^ 10 = (41 - (e + 1)) * 64 ^ 10 + (e + 1 - i) * 64 ^ 10 := by rw [← Nat.add_mul]; congr 1; omega
      have h3 : 1 * 64 ^ 10 ≤ (e + 1 - i) * 64 ^ 10 := Nat.mul_le_mul_right _ (by omega)
      simp only [List.length_nil] at *
      omega
    | cons f rp =>
      rw [List.length_cons] at hl
      rw [muW, muW, List.length_cons]
      have : (41 - i) * 64 ^ (9 - rp.length) = (41 - (e + 1)) * 64 ^ (9 - rp.length) + (e + 1 - i) * 64 ^ (9 - rp.length) := by rw [← Nat.add_mul]; congr 1; omega
      have h3 : 1 * 64 ^ (9 - rp.length) ≤ (e + 1 - i) * 64 ^ (9 - rp.length) := Nat.mul_le_mul_right _ (by omega)
      have h4 : 64 ^ (9 - rp.length) = 64 * 64 ^ (9 - (rp.length + 1)) := by rw [show 9 - rp.length = (9 - (rp.length + 1)) + 1 by omega, Nat.pow_succ, Nat.mul_comm]
      have h5 : 0 < 64 ^ (9 - (rp.length + 1)) := Nat.pow_pos (by decide)
      omega
  rw [muW]; exact key
theorem mu_pop {rp : List Nat} {i e : Nat} (h : i ≤ 40) : muW rp (e + 1) < muW (e :: rp) i := by
  rw [muW]
  have : 0 < (41 - i) * 64 ^ (9 - rp.length) := Nat.mul_pos (by omega) (Nat.pow_pos (by decide))
  omega
/-- how the other side holds the way so far -/
def StK (G : GT) (a : Nat) (τ : mS) : List Nat → Prop
  | [] => τ.1 16 0 = nI a
  | e :: rp => τ.1 14 rp.length = nI e ∧ τ.1 15 rp.length = nI e ∧ τ.1 16 (rp.length + 1) = nI (gt G e) ∧ StK G a τ rp
def DS (G : GT) (a : Nat) (τ : mS) (rp : List Nat) (i : Nat) : Prop := τ.1 0 19 = nI rp.length ∧ τ.1 0 20 = nI (wyL G rp) ∧ StK G a τ rp ∧ τ.1 15 rp.length + 1 = nI i
theorem StK_c {G : GT} {a : Nat} {τ τ' : mS} : ∀ rp : List Nat, (∀ k j, (k = 14 ∨ k = 15) ∧ j < rp.length ∨ k = 16 ∧ j ≤ rp.length → τ'.1 k j = τ.1 k j) → StK G a τ rp → StK G a τ' rp := by
  intro rp
  induction rp with
  | nil => intro h q; unfold StK at *; rw [h 16 0 (by simp)]; exact q
  | cons e rp ih =>
    intro h q
    rw [List.length_cons] at h
    obtain ⟨q1, q2, q3, q4⟩ := q
    exact ⟨by rw [h 14 _ (by omega)]; exact q1, by rw [h 15 _ (by omega)]; exact q2, by rw [h 16 _ (by omega)]; exact q3, ih (fun k j z => h k j (by omega)) q4⟩
theorem StK_nd {G : GT} {O : Nat → Bool} {a : Nat} {τ : mS} (hW : WG G) (ha : a < gN G) : ∀ rp : List Nat, VP G O a rp → StK G a τ rp → ∃ (nd : Nat → Nat), (∀ t, t ≤ rp.length → τ.1 16 t = nI (nd t) ∧ nd t < gN G) ∧ (∀ v, v ∈ vsR G a rp ↔ ∃ t, t ≤ rp.length ∧ nd t = v) ∧ nd rp.length = topN G a rp := by
  intro rp
  induction rp with
  | nil =>
    intro _ h
    refine ⟨fun _ => a, fun t ht => ?_, fun v => ?_, rfl⟩
    · have : t = 0 := by simpa using ht
      rw [this]; exact ⟨h, ha⟩
    · rw [vsR, List.mem_singleton]
      exact ⟨fun q => ⟨0, Nat.le_refl _, q.symm⟩, fun ⟨_, _, q⟩ => q.symm⟩
  | cons e rp ih =>
    intro hv h
    obtain ⟨v1, v2, v3⟩ := hv
    obtain ⟨h1, h2, h3, h4⟩ := h
    obtain ⟨nd, n1, n2, n3⟩ := ih v3 h4
    refine ⟨va_up nd (rp.length + 1) (gt G e), fun t ht => ?_, fun v => ?_, by rw [List.length_cons, va_up_self]; rfl⟩
    · rw [List.length_cons] at ht
      by_cases q : t = rp.length + 1
      · rw [q, va_up_self]; exact ⟨h3, (hW.2.2.1 e v1).2.1⟩
      · rw [va_up_ne _ _ q]; exact n1 t (by omega)
    · rw [vsR, List.mem_cons, n2, List.length_cons]
      constructor
      · rintro (q | ⟨t, t1, t2⟩)
        · exact ⟨rp.length + 1, Nat.le_refl _, by rw [va_up_self]; exact q.symm⟩
        · exact ⟨t, by omega, by rw [va_up_ne _ _ (by omega)]; exact t2⟩
      · rintro ⟨t, t1, t2⟩
        by_cases q : t = rp.length + 1
        · rw [q, va_up_self] at t2; exact Or.inl t2.symm
        · rw [va_up_ne _ _ q] at t2; exact Or.inr ⟨t, by omega, t2⟩
theorem can_e {G : GT} {O : Nat → Bool} {a e i : Nat} {τ : mS} {rp : List Nat} {x3 y : Int32} (hW : WG G) (hY : RY G τ) (ha : a < gN G) (hO : ∀ e, e < gm G → O e = (gl G e && !decide (nI e ≤ x3))) (hV : VP G O a rp) (hD : DS G a τ rp i) (he : e < gm G) : f_Mo_canGo τ (nI e) x3 y = some (bI (decide (canG G O a rp e))) := by
  have hN := hW.1
  have hm := hW.2.1
  have hl := VP_len hW ha hV
  obtain ⟨gu, gv, gne, _⟩ := hW.2.2.1 e he
  obtain ⟨c1, c2, c3, _, _, c6⟩ := hY.2.2.1 e he
  obtain ⟨nd, n1, n2, n3⟩ := StK_nd hW ha rp hV hD.2.2.1
  have hbe : inb (nI e) 40 = true := inb_n (by omega) (by decide)
  have hce : (nI e).toNatClampNeg = e := nI_clamp (by omega)
  have hcl : (nI rp.length).toNatClampNeg = rp.length := nI_clamp (by omega)
  have hno : ¬ canG G O a rp e → bI (decide (canG G O a rp e)) = 0 := fun q => by rw [decide_eq_false q]; rfl
  unfold f_Mo_canGo
  rw [gd_t hbe, gd_t hbe, hce, c6, c1, hD.1, gd_t (inb_n (by omega) (by decide)), hcl, (n1 _ (Nat.le_refl _)).1, n3]
  cases hg : gl G e with
  | false =>
    rw [if_pos bF, hno (fun q => by have := q.1; rw [hO e he, hg] at this; cases this)]
  | true =>
    rw [if_neg bT]
    by_cases hx : nI e ≤ x3
    · rw [if_pos hx, hno (fun q => by have := q.1; rw [hO e he, decide_eq_true hx] at this; simp at this)]
    · rw [if_neg hx]
      have hOe : O e = true := by rw [hO e he, hg, decide_eq_false hx]; rfl
      have htop : topN G a rp < gN G := by rw [← n3]; exact (n1 _ (Nat.le_refl _)).2
      by_cases hf : gf G e = topN G a rp
      · rw [if_pos (by rw [hf])]
        obtain ⟨u, u1, u2⟩ := lpN_i (st := f_Mo_canGo_L37 τ (nI e)) (fun t s => s = nI t ∧ ∀ j, j < t → nd j ≠ gt G e) (fun u => Sum.elim (fun _ : Int32 => some (1 : Int32)) (fun y37 : Int32 => some y37) u = some (bI (decide (canG G O a rp e)))) (rp.length + 1) (fun t s ht hs => by
          obtain ⟨s1, s2⟩ := hs
          subst s1
          unfold f_Mo_canGo_L37
          rw [hD.1]
          by_cases q : t = rp.length + 1
          · left
            rw [if_pos ((nI_ltI (by omega) (by omega)).mpr (by omega))]
            refine ⟨_, rfl, ?_⟩
            have hcan : canG G O a rp e := ⟨hOe, hf, fun z => by obtain ⟨t', z1, z2⟩ := (n2 _).mp z; exact s2 t' (by omega) z2⟩
            rw [decide_eq_true hcan]; rfl
          · have hct : (nI t).toNatClampNeg = t := nI_clamp (by omega)
            rw [if_neg (fun z => by have := (nI_ltI (by omega) (by omega)).mp z; omega), gd_t (inb_n (by omega) (by decide)), gd_t hbe, hce, hct, c2, (n1 t (by omega)).1]
            have hnt := (n1 t (by omega)).2
            by_cases z : nd t = gt G e
            · left
              rw [if_pos (by rw [z])]
              refine ⟨_, rfl, ?_⟩
              rw [hno (fun w => w.2.2 ((n2 _).mpr ⟨t, by omega, z⟩))]; rfl
            · right
              rw [if_neg (fun w => z ((nI_eq (by omega) (by omega)).mp w))]
              refine ⟨by omega, _, rfl, nI_1 _, fun j hj => ?_⟩
              by_cases y : j = t
              · rw [y]; exact z
              · exact s2 j (by omega)) fuB 0 0 ⟨rfl, fun j hj => absurd hj (Nat.not_lt_zero _)⟩ (Nat.zero_le _) (by rw [fuB_e]; omega)
        rw [u1, Option.bind_some, u2]
      · rw [if_neg (fun w => hf ((nI_eq (by omega) (by omega)).mp w)), hno (fun w => hf w.2.1)]
theorem first_arc {G : GT} {O : Nat → Bool} {a i : Nat} {τ : mS} {rp : List Nat} {x3 y : Int32} (hW : WG G) (hY : RY G τ) (ha : a < gN G) (hO : ∀ e, e < gm G → O e = (gl G e && !decide (nI e ≤ x3))) (hV : VP G O a rp) (hD : DS G a τ rp i) (hi : i ≤ gm G) : ∃ e, lpN (f_Mo_nextWay_L60 y x3 τ) fuB (nI i) = some (nI e) ∧ i ≤ e ∧ e ≤ gm G ∧ (∀ j, i ≤ j → j < e → ¬ canG G O a rp j) ∧ (e < gm G → canG G O a rp e) := by
  have hm := hW.2.1
  obtain ⟨u, u1, e, u2, u3⟩ := lpN_i (st := f_Mo_nextWay_L60 y x3 τ) (fun t s => s = nI t ∧ i ≤ t ∧ ∀ j, i ≤ j → j < t → ¬ canG G O a rp j) (fun u => ∃ e, u = nI e ∧ i ≤ e ∧ e ≤ gm G ∧ (∀ j, i ≤ j → j < e → ¬ canG G O a rp j) ∧ (e < gm G → canG G O a rp e)) (gm G) (fun t s ht hs => by
    obtain ⟨s1, s2, s3⟩ := hs
    subst s1
    unfold f_Mo_nextWay_L60
    rw [hY.2.1]
    by_cases q : t = gm G
    · left
      rw [if_pos (nI_le (by omega) (by omega))]
      exact ⟨_, rfl, t, rfl, s2, ht, s3, fun z => by omega⟩
    · rw [if_neg (nI_ge (by omega) (by omega)), can_e hW hY ha hO hV hD (by omega), Option.bind_some]
      by_cases z : canG G O a rp t
      · left
        rw [decide_eq_true z, if_neg bT]
        exact ⟨_, rfl, t, rfl, s2, ht, s3, fun _ => z⟩
      · right
        rw [decide_eq_false z, if_pos bF]
        refine ⟨by omega, _, rfl, nI_1 _, by omega, fun j h1 h2 => ?_⟩
        by_cases y : j = t
        · rw [y]; exact z
        · exact s3 j h1 (by omega)) fuB i (nI i) ⟨rfl, Nat.le_refl _, fun j h1 h2 => by omega⟩ hi (by rw [fuB_e]; omega)
  exact ⟨e, by rw [u1, u2], u3⟩
def frN (τ τ' : mS) : Prop := (∀ k j, (k = 0 ∧ j ≠ 19 ∧ j ≠ 20 ∨ k ≠ 0 ∧ k ≠ 14 ∧ k ≠ 15 ∧ k ≠ 16) → τ'.1 k j = τ.1 k j) ∧ τ'.2 = τ.2
theorem frN_r (τ : mS) : frN τ τ := ⟨fun _ _ _ => rfl, rfl⟩
theorem frN_t {a b c : mS} (h : frN a b) (k : frN b c) : frN a c := ⟨fun x j q => (k.1 x j q).trans (h.1 x j q), k.2.trans h.2⟩
theorem frN_Y {G : GT} {τ τ' : mS} (h : frN τ τ') (hY : RY G τ) : RY G τ' := RY_c hY (fun k j q => h.1 k j (by omega))
theorem frN_s {τ τ' : mS} (h : frN τ τ') {k j : Nat} {v : Int32} (hk : k = 0 ∧ (j = 19 ∨ j = 20) ∨ k = 14 ∨ k = 15 ∨ k = 16) : frN τ (sI τ' k j v) := by
  refine ⟨fun a i q => ?_, h.2⟩
  rw [sI_1]
  by_cases q1 : a = k
  · by_cases q2 : i = j
    · exfalso; omega
    · rw [if_pos q1, if_neg q2]; exact h.1 a i q
  · rw [if_neg q1]; exact h.1 a i q
theorem wyL_c1 {G : GT} {e : Nat} {p : List Nat} : wyL G (e :: p) = wyL G p + gw G e := by
  unfold wyL; rw [List.map_cons, List.sum_cons, Nat.add_comm]
/-- one step back -/
theorem back_e {G : GT} {O : Nat → Bool} {a e i : Nat} {τ : mS} {rp : List Nat} (hW : WG G) (hY : RY G τ) (ha : a < gN G) (hV : VP G O a (e :: rp)) (h1 : τ.1 0 19 = nI (e :: rp).length) (h2 : τ.1 0 20 = nI (wyL G (e :: rp))) (h3 : StK G a τ (e :: rp)) : ∃ τ', f_Mo_back τ = some (1, τ') ∧ DS G a τ' rp (e + 1) ∧ frN τ τ' := by
  have hl := VP_len hW ha hV
  have hm := hW.2.1
  obtain ⟨v1, v2, v3⟩ := hV
  rw [List.length_cons] at hl h1
  unfold f_Mo_back
  rw [h1, if_neg (show ¬ nI (rp.length + 1) = 0 from fun z => by have := (nI_eq (b := 0) (by omega) (by omega)).mp z; omega), nI_pred, nm_e2]
  have e19 : (sI τ 0 19 (nI rp.length)).1 0 19 = nI rp.length := by rw [sI_1, if_pos rfl, if_pos rfl]
  have hcl : (nI rp.length).toNatClampNeg = rp.length := nI_clamp (by omega)
  have hce : (nI e).toNatClampNeg = e := nI_clamp (by omega)
  obtain ⟨s1, s2, s3, s4⟩ := h3
  have e14 : (sI τ 0 19 (nI rp.length)).1 14 rp.length = nI e := by rw [sI_1, if_neg (by decide)]; exact s1
  have e3 : (sI τ 0 19 (nI rp.length)).1 3 e = nI (gw G e) := by rw [sI_1, if_neg (by decide)]; exact (hY.2.2.1 e v1).2.2.1
  have e20 : (sI τ 0 19 (nI rp.length)).1 0 20 = nI (wyL G rp + gw G e) := by rw [sI_1, if_pos rfl, if_neg (by decide), h2, wyL_c1]
  rw [e19, gd_t (inb_n (by omega) (by decide)), hcl, e14, gd_t (inb_n (by omega) (by decide)), hce, e3, e20, nI_subr, nm_e2]
  refine ⟨_, rfl, ⟨?_, ?_, ?_, ?_⟩, frN_s (frN_s (frN_r _) (Or.inl ⟨rfl, Or.inl rfl⟩)) (Or.inl ⟨rfl, Or.inr rfl⟩)⟩
  · rw [sI_1, if_pos rfl, if_neg (by decide)]; exact e19
  · rw [sI_1, if_pos rfl, if_pos rfl]
  · exact StK_c rp (fun k j q => by rw [sI_1, if_neg (by omega), sI_1, if_neg (by omega)]) s4
  · rw [sI_1, if_neg (by decide), sI_1, if_neg (by decide), s2, nI_1]
/-- a way has been come to, and what is left -/
def EN (G : GT) (O : Nat → Bool) (a b : Nat) (τ : mS) (w : List Nat) (L : List (List Nat)) : Prop := ∃ e rp, w = (e :: rp).reverse ∧ VP G O a (e :: rp) ∧ gt G e = b ∧ b ∉ vsR G a rp ∧ τ.1 0 19 = nI (e :: rp).length ∧ τ.1 0 20 = nI (wyL G (e :: rp)) ∧ StK G a τ (e :: rp) ∧ L = remW G O a b rp (e + 1)
def NXt (G : GT) (O : Nat → Bool) (a b : Nat) (τ : mS) (L : List (List Nat)) (x : Option (Int32 × mS)) : Prop := (L = [] ∧ ∃ τ', x = some (0, τ') ∧ frN τ τ') ∨ ∃ w L' τ', L = w :: L' ∧ x = some (1, τ') ∧ frN τ τ' ∧ EN G O a b τ' w L'
theorem j47_e {G : GT} {O : Nat → Bool} {a b i : Nat} {τ : mS} {rp : List Nat} {x3 : Int32} (hW : WG G) (hY : RY G τ) (ha : a < gN G) (hb : b < gN G) (hO : ∀ e, e < gm G → O e = (gl G e && !decide (nI e ≤ x3))) (hV : VP G O a rp) (hD : DS G a τ rp i) (hi : i ≤ gm G) (ht : b ∉ vsR G a rp) : NXt G O a b τ (remW G O a b rp i) (f_Mo_nextWay_J47 (nI b) x3 τ) := by
  have hN := hW.1
  have hm := hW.2.1
  unfold f_Mo_nextWay_J47
  obtain ⟨u, u1, u2⟩ := lpN_w (st := f_Mo_nextWay_L47 (nI b) x3) (fun k t => ∃ rp' i', k = muW rp' i' ∧ VP G O a rp' ∧ DS G a t rp' i' ∧ i' ≤ gm G ∧ b ∉ vsR G a rp' ∧ frN τ t ∧ remW G O a b rp' i' = remW G O a b rp i) (fun u => NXt G O a b τ (remW G O a b rp i) (Sum.elim (fun e47 : mS => some ((1 : Int32), e47)) (fun y47 : Int32 × mS => some y47) u)) (fun k t hk => by
    obtain ⟨rp', i', k1, k2, k3, k4, k5, k6, k7⟩ := hk
    have hYt := frN_Y k6 hY
    have hl := VP_len hW ha k2
    have hcl : (nI rp'.length).toNatClampNeg = rp'.length := nI_clamp (by omega)
    obtain ⟨d1, d2, d3, d4⟩ := id k3
    obtain ⟨e, e1, e2, e3, e4, e5⟩ := first_arc (y := nI b) hW hYt ha hO k2 k3 k4
    have hskip : remW G O a b rp' i' = remW G O a b rp' e := rem_e (by
      have := ext_skip (G := G) (O := O) (a := a) (b := b) (rp := rp') (e - i') i' (by omega) (fun j h1 h2 => e4 j h1 (by omega))
      rw [this]; congr 1; omega)
    unfold f_Mo_nextWay_L47
    rw [d1, gd_t (inb_n (by omega) (by decide)), hcl, nm_e2, d4, e1, Option.bind_some, gd_t (inb_n (by omega) (by decide)), nm_e2]
    generalize hτ4 : sI t 15 rp'.length (nI e) = τ4
    have f4 : frN τ τ4 := by rw [← hτ4]; exact frN_s k6 (Or.inr (Or.inr (Or.inl rfl)))
    have hY4 := frN_Y f4 hY
    have n2 : τ4.1 0 2 = nI (gm G) := hY4.2.1
    have n19 : τ4.1 0 19 = nI rp'.length := by rw [← hτ4, sI_1, if_neg (by decide)]; exact d1
    have n20 : τ4.1 0 20 = nI (wyL G rp') := by rw [← hτ4, sI_1, if_neg (by decide)]; exact d2
    have st4 : StK G a τ4 rp' := StK_c rp' (fun k j q => by
      rw [← hτ4, sI_1]
      by_cases z : k = 15
      · rw [if_pos z, if_neg (by omega)]
      · rw [if_neg z]) d3
    rw [n2]
    by_cases he : e = gm G
    · rw [if_pos (by rw [he])]
      have hext : remW G O a b rp' e = match rp' with | [] => [] | f :: rq => remW G O a b rq (f + 1) := by
        cases rp' with
        | nil => exact ext_end (by omega)
        | cons f rq => rw [remW, ext_end (by omega), List.nil_append]
      cases hrp : rp' with
      | nil =>
        left
        subst hrp
        have n19 : τ4.1 0 19 = 0 := n19
        unfold f_Mo_back
        rw [n19, if_pos rfl, Option.bind_some, if_pos rfl]
        refine ⟨_, rfl, Or.inl ⟨?_, τ4, rfl, f4⟩⟩
        rw [← k7, hskip, hext]
      | cons f rq =>
        right
        subst hrp
        obtain ⟨τ5, b1, b2, b3⟩ := back_e (i := 0) hW hY4 ha k2 n19 n20 st4
        rw [b1, Option.bind_some, if_neg n10]
        have hf : f < gm G := k2.1
        have hne : b ∉ vsR G a rq := fun z => k5 (List.mem_cons_of_mem _ z)
        exact ⟨τ5, muW rq (f + 1), rfl, by rw [k1]; exact mu_pop (by omega), rq, f + 1, rfl, k2.2.2, b2, by omega, hne, frN_t f4 b3, by rw [← k7, hskip, hext]⟩
    · have he2 : e < gm G := by omega
      have hcan := e5 he2
      have hV2 : VP G O a (e :: rp') := ⟨he2, hcan, k2⟩
      have hl2 := VP_len hW ha hV2
      rw [List.length_cons] at hl2
      obtain ⟨gu, gv, gne, _⟩ := hW.2.2.1 e he2
      rw [if_neg (fun z => he ((nI_eq (by omega) (by omega)).mp z)), n19, gd_t (inb_n (by omega) (by decide)), hcl, nm_e2]
      have hbe : inb (nI e) 40 = true := inb_n (by omega) (by decide)
      have hce : (nI e).toNatClampNeg = e := nI_clamp (by omega)
      generalize hτ5 : sI τ4 14 rp'.length (nI e) = τ5
      have f5 : frN τ τ5 := by rw [← hτ5]; exact frN_s f4 (Or.inr (Or.inl rfl))
      have hY5 := frN_Y f5 hY
      have m19 : τ5.1 0 19 = nI rp'.length := by rw [← hτ5, sI_1, if_neg (by decide)]; exact n19
      have m20 : τ5.1 0 20 = nI (wyL G rp') := by rw [← hτ5, sI_1, if_neg (by decide)]; exact n20
      rw [gd_t hbe, hce, (hY5.2.2.1 e he2).2.2.1, m20, nI_add, nm_e2]
      generalize hτ6 : sI τ5 0 20 (nI (wyL G rp' + gw G e)) = τ6
      have f6 : frN τ τ6 := by rw [← hτ6]; exact frN_s f5 (Or.inl ⟨rfl, Or.inr rfl⟩)
      have o19 : τ6.1 0 19 = nI rp'.length := by rw [← hτ6, sI_1, if_pos rfl, if_neg (by decide)]; exact m19
      rw [o19, nI_1, nm_e2]
      generalize hτ7 : sI τ6 0 19 (nI (rp'.length + 1)) = τ7
      have f7 : frN τ τ7 := by rw [← hτ7]; exact frN_s f6 (Or.inl ⟨rfl, Or.inl rfl⟩)
      have hY7 := frN_Y f7 hY
      have p19 : τ7.1 0 19 = nI (rp'.length + 1) := by rw [← hτ7, sI_1, if_pos rfl, if_pos rfl]
      have hcl2 : (nI (rp'.length + 1)).toNatClampNeg = rp'.length + 1 := nI_clamp (by omega)
      rw [gd_t hbe, p19, gd_t (inb_n (by omega) (by decide)), hcl2, (hY7.2.2.1 e he2).2.1, nm_e2]
      generalize hτ8 : sI τ7 16 (rp'.length + 1) (nI (gt G e)) = τ8
      have f8 : frN τ τ8 := by rw [← hτ8]; exact frN_s f7 (Or.inr (Or.inr (Or.inr rfl)))
      have q19 : τ8.1 0 19 = nI (rp'.length + 1) := by rw [← hτ8, sI_1, if_neg (by decide)]; exact p19
      rw [q19, gd_t (inb_n (by omega) (by decide)), hcl2, nm_e2]
      generalize hτ9 : sI τ8 15 (rp'.length + 1) (-1) = τ9
      have f9 : frN τ τ9 := by rw [← hτ9]; exact frN_s f8 (Or.inr (Or.inr (Or.inl rfl)))
      have hY9 := frN_Y f9 hY
      have r19 : τ9.1 0 19 = nI (rp'.length + 1) := by rw [← hτ9, sI_1, if_neg (by decide)]; exact q19
      have r20 : τ9.1 0 20 = nI (wyL G (e :: rp')) := by
        rw [← hτ9, sI_1, if_neg (by decide), ← hτ8, sI_1, if_neg (by decide), ← hτ7, sI_1, if_pos rfl, if_neg (by decide), ← hτ6, sI_1, if_pos rfl, if_pos rfl, wyL_c1]
      have r15 : τ9.1 15 (rp'.length + 1) + 1 = nI 0 := by rw [← hτ9, sI_1, if_pos rfl, if_pos rfl]; rfl
      have st9 : StK G a τ9 (e :: rp') := by
        refine ⟨?_, ?_, ?_, ?_⟩
        · rw [← hτ9, sI_1, if_neg (by decide), ← hτ8, sI_1, if_neg (by decide), ← hτ7, sI_1, if_neg (by decide), ← hτ6, sI_1, if_neg (by decide), ← hτ5, sI_1, if_pos rfl, if_pos rfl]
        · rw [← hτ9, sI_1, if_pos rfl, if_neg (by omega), ← hτ8, sI_1, if_neg (by decide), ← hτ7, sI_1, if_neg (by decide), ← hτ6, sI_1, if_neg (by decide), ← hτ5, sI_1, if_neg (by decide), ← hτ4, sI_1, if_pos rfl, if_pos rfl]
        · rw [← hτ9, sI_1, if_neg (by decide), ← hτ8, sI_1, if_pos rfl, if_pos rfl]
        · refine StK_c rp' (fun k j q => ?_) st4
          rw [← hτ9, sI_1]
          have a1 : (if k = 15 then if j = rp'.length + 1 then (-1 : Int32) else τ8.1 k j else τ8.1 k j) = τ8.1 k j := by
            by_cases z : k = 15
            · rw [if_pos z, if_neg (by omega)]
            · rw [if_neg z]
          rw [a1, ← hτ8, sI_1]
          have a2 : (if k = 16 then if j = rp'.length + 1 then nI (gt G e) else τ7.1 k j else τ7.1 k j) = τ7.1 k j := by
            by_cases z : k = 16
            · rw [if_pos z, if_neg (by omega)]
            · rw [if_neg z]
          rw [a2, ← hτ7, sI_1, if_neg (by omega), ← hτ6, sI_1, if_neg (by omega), ← hτ5, sI_1]
          by_cases z : k = 14
          · rw [if_pos z, if_neg (by omega)]
          · rw [if_neg z]
      rw [gd_t hbe, (hY9.2.2.1 e he2).2.1]
      by_cases hhit : gt G e = b
      · left
        rw [if_pos (by rw [hhit])]
        refine ⟨_, rfl, Or.inr ⟨(e :: rp').reverse, remW G O a b rp' (e + 1), τ9, ?_, rfl, f9, e, rp', rfl, hV2, hhit, k5, by rw [List.length_cons]; exact r19, r20, st9, rfl⟩⟩
        rw [← k7, hskip, rem_hit he2 hhit hcan]
      · right
        rw [if_neg (fun z => hhit ((nI_eq (by omega) (by omega)).mp z))]
        exact ⟨τ9, muW (e :: rp') 0, rfl, by rw [k1]; exact mu_push e2 (by omega) (by omega), e :: rp', 0, rfl, hV2, ⟨by rw [List.length_cons]; exact r19, r20, st9, by rw [List.length_cons]; exact r15⟩, Nat.zero_le _, fun z => (List.mem_cons.mp z).elim (fun z => hhit z.symm) k5, f9, by rw [← k7, hskip, rem_push he2 hhit (by omega) hcan]⟩) fuB (muW rp i) τ ⟨rp, i, rfl, hV, hD, hi, ht, frN_r _, rfl⟩ (by
      have h1 := mu_le rp i
      have h2 := VP_len hW ha hV
      have h3 : 41 * 64 ^ 10 * (rp.length + 1) ≤ 41 * 64 ^ 10 * 10 := Nat.mul_le_mul_left _ (by omega)
      rw [fuB_e]
      omega)
  rw [u1, Option.bind_some]
  exact u2
theorem next_e {G : GT} {O : Nat → Bool} {a b : Nat} {τ : mS} {w : List Nat} {L : List (List Nat)} {x3 : Int32} (hW : WG G) (hY : RY G τ) (ha : a < gN G) (hb : b < gN G) (hO : ∀ e, e < gm G → O e = (gl G e && !decide (nI e ≤ x3))) (h : EN G O a b τ w L) : NXt G O a b τ L (f_Mo_nextWay τ (nI a) (nI b) x3) := by
  obtain ⟨e, rp, h1, h2, h3, h4, h5, h6, h7, h8⟩ := h
  have hl := VP_len hW ha h2
  unfold f_Mo_nextWay
  rw [h5, if_pos (show (0 : Int32) ≤ nI (e :: rp).length from nI_le (a := 0) (Nat.zero_le _) (by omega))]
  obtain ⟨τ1, b1, b2, b3⟩ := back_e (i := 0) hW hY ha h2 h5 h6 h7
  rw [b1, Option.bind_some, if_neg n10, h8]
  rcases j47_e hW (frN_Y b3 hY) ha hb hO h2.2.2 b2 h2.1 h4 with ⟨q1, τ', q2, q3⟩ | ⟨w', L', τ', q1, q2, q3, q4⟩
  · exact Or.inl ⟨q1, τ', q2, frN_t b3 q3⟩
  · exact Or.inr ⟨w', L', τ', q1, q2, frN_t b3 q3, q4⟩
theorem start_w {G : GT} {O : Nat → Bool} {a b : Nat} {τ : mS} {x3 : Int32} (hW : WG G) (hY : RY G τ) (ha : a < gN G) (hb : b < gN G) (hO : ∀ e, e < gm G → O e = (gl G e && !decide (nI e ≤ x3))) (h : τ.1 0 19 = -1) : (a ≠ b → NXt G O a b τ (wyO G O b 10 [a] a) (f_Mo_nextWay τ (nI a) (nI b) x3)) ∧ (a = b → ∃ τ', f_Mo_nextWay τ (nI a) (nI b) x3 = some (1, τ') ∧ frN τ τ' ∧ τ'.1 0 19 = 0 ∧ τ'.1 0 20 = 0) := by
  have hN := hW.1
  unfold f_Mo_nextWay
  rw [h, if_neg (by decide), nm_e2, nm_e2, gd_t (by decide), nm_e2, gd_t (by decide), nm_e2]
  generalize hτ : sI (sI (sI (sI τ 0 19 0) 0 20 0) 16 (0 : Int32).toNatClampNeg (nI a)) 15 (0 : Int32).toNatClampNeg (-1) = τ1
  have f1 : frN τ τ1 := by
    rw [← hτ]
    exact frN_s (frN_s (frN_s (frN_s (frN_r _) (Or.inl ⟨rfl, Or.inl rfl⟩)) (Or.inl ⟨rfl, Or.inr rfl⟩)) (Or.inr (Or.inr (Or.inr rfl)))) (Or.inr (Or.inr (Or.inl rfl)))
  have c0 : (0 : Int32).toNatClampNeg = 0 := by decide
  have d19 : τ1.1 0 19 = 0 := by rw [← hτ]; simp [sI_1]
  have d20 : τ1.1 0 20 = 0 := by rw [← hτ]; simp [sI_1]
  have d16 : τ1.1 16 0 = nI a := by rw [← hτ, c0]; simp [sI_1]
  have d15 : τ1.1 15 0 = -1 := by rw [← hτ, c0]; simp [sI_1]
  refine ⟨fun hab => ?_, fun hab => ?_⟩
  · rw [if_neg (fun z => hab ((nI_eq (by omega) (by omega)).mp z))]
    have hD : DS G a τ1 [] 0 := ⟨d19, d20, d16, by rw [List.length_nil, d15]; rfl⟩
    have hw : wyO G O b 10 [a] a = remW G O a b [] 0 := by
      rw [show (10 : Nat) = 9 + 1 from rfl, wyO, if_neg hab, remW]
      unfold extW
      rw [List.drop_zero]
      congr 1
    rw [hw]
    have hnb : b ∉ vsR G a [] := fun z => hab (List.mem_singleton.mp z).symm
    rcases j47_e (O := O) (rp := []) hW (frN_Y f1 hY) ha hb hO trivial hD (Nat.zero_le _) hnb with ⟨q1, τ', q2, q3⟩ | ⟨w', L', τ', q1, q2, q3, q4⟩
    · exact Or.inl ⟨q1, τ', q2, frN_t f1 q3⟩
    · exact Or.inr ⟨w', L', τ', q1, q2, frN_t f1 q3, q4⟩
  · rw [if_pos (by rw [hab])]
    exact ⟨τ1, rfl, f1, d19, d20⟩
/-- the way that is held -/
def CW (G : GT) (τ : mS) (w : List Nat) : Prop := τ.1 0 19 = nI w.length ∧ τ.1 0 20 = nI (wyL G w) ∧ ∀ j e, w[j]? = some e → τ.1 14 j = nI e
theorem wyL_r {G : GT} {p : List Nat} : wyL G p.reverse = wyL G p := by
  unfold wyL; rw [List.map_reverse, List.sum_reverse]
theorem StK_w {G : GT} {a : Nat} {τ : mS} : ∀ rp : List Nat, StK G a τ rp → ∀ j e, rp.reverse[j]? = some e → τ.1 14 j = nI e := by
  intro rp
  induction rp with
  | nil => intro _ j e h; simp at h
  | cons f rp ih =>
    intro h j e he
    obtain ⟨h1, h2, h3, h4⟩ := h
    rw [List.reverse_cons] at he
    rcases Nat.lt_or_ge j rp.length with z | z
    · rw [List.getElem?_append_left (by simpa using z)] at he
      exact ih h4 j e he
    · rw [List.getElem?_append_right (by simpa using z), List.length_reverse] at he
      by_cases q : j = rp.length
      · subst q
        simp at he
        rw [← he]; exact h1
      · have : ([f] : List Nat)[j - rp.length]? = none := List.getElem?_eq_none (by simp; omega)
        rw [this] at he; cases he
theorem EN_CW {G : GT} {O : Nat → Bool} {a b : Nat} {τ : mS} {w : List Nat} {L : List (List Nat)} (h : EN G O a b τ w L) : CW G τ w := by
  obtain ⟨e, rp, h1, h2, h3, h4, h5, h6, h7, h8⟩ := h
  subst h1
  exact ⟨by rw [List.length_reverse]; exact h5, by rw [wyL_r]; exact h6, StK_w _ h7⟩
theorem EN_c {G : GT} {O : Nat → Bool} {a b : Nat} {τ τ' : mS} {w : List Nat} {L : List (List Nat)} (h : EN G O a b τ w L) (hf : ∀ k j, k = 0 ∧ (j = 19 ∨ j = 20) ∨ k = 14 ∨ k = 15 ∨ k = 16 → τ'.1 k j = τ.1 k j) : EN G O a b τ' w L := by
  obtain ⟨e, rp, h1, h2, h3, h4, h5, h6, h7, h8⟩ := h
  exact ⟨e, rp, h1, h2, h3, h4, by rw [hf 0 19 (by omega)]; exact h5, by rw [hf 0 20 (by omega)]; exact h6, StK_c _ (fun k j q => hf k j (by omega)) h7, h8⟩
/-- what stands in the list of ways -/
theorem wyO_m {G : GT} {O : Nat → Bool} {b : Nat} : ∀ (f : Nat) (vs : List Nat) (u : Nat) (p : List Nat), b ∉ vs ∨ u = b → (p ∈ wyO G O b f vs u ↔ p.length ≤ f ∧ WP G O (fun _ => false) b u p ∧ (p.map (gt G)).Nodup ∧ (∀ v ∈ p.map (gt G), v ∉ vs) ∧ (u = b → p = [])) := by
  intro f
  induction f with
  | zero =>
    intro vs u p _
    rw [wyO]
    by_cases q : u = b
    · rw [if_pos q, List.mem_singleton]
      constructor
      · intro h; subst h; exact ⟨Nat.le_refl _, q, by simp, by simp, fun _ => rfl⟩
      · intro h; exact h.2.2.2.2 q
    · rw [if_neg q]
      constructor
      · intro h; simp at h
      · intro h
        have h0 : p = [] := List.length_eq_zero_iff.mp (by omega)
        rw [h0] at h
        exact absurd h.2.1 q
  | succ f ih =>
    intro vs u p hvs
    rw [wyO]
    by_cases q : u = b
    · rw [if_pos q, List.mem_singleton]
      constructor
      · intro h; subst h; exact ⟨Nat.zero_le _, q, by simp, by simp, fun _ => rfl⟩
      · intro h; exact h.2.2.2.2 q
    · rw [if_neg q, List.mem_flatMap]
      have hb : b ∉ vs := hvs.resolve_right q
      constructor
      · rintro ⟨e, e1, e2⟩
        split at e2
        · rename_i hc
          obtain ⟨p', p1, p2⟩ := List.mem_map.mp e2
          subst p2
          have hcase : b ∉ gt G e :: vs ∨ gt G e = b := by
            by_cases z : gt G e = b
            · exact Or.inr z
            · left; intro w; rcases List.mem_cons.mp w with w | w
              · exact z w.symm
              · exact hb w
          obtain ⟨i1, i2, i3, i4, i5⟩ := (ih _ _ p' hcase).mp p1
          refine ⟨by rw [List.length_cons]; omega, ⟨List.mem_range.mp e1, hc.1, hc.2.1, rfl, i2⟩, ?_, ?_, fun z => absurd z q⟩
          · rw [List.map_cons, List.nodup_cons]
            exact ⟨fun z => i4 _ z (List.mem_cons_self ..), i3⟩
          · intro v hv
            rw [List.map_cons] at hv
            rcases List.mem_cons.mp hv with z | z
            · rw [z]; exact hc.2.2
            · exact fun w => i4 v z (List.mem_cons_of_mem _ w)
        · cases e2
      · rintro ⟨h1, h2, h3, h4, h5⟩
        cases p with
        | nil => exact absurd h2 q
        | cons e p' =>
          obtain ⟨w1, w2, w3, _, w5⟩ := h2
          rw [List.map_cons, List.nodup_cons] at h3
          have hev := h4 (gt G e) (by simp)
          refine ⟨e, List.mem_range.mpr w1, ?_⟩
          rw [if_pos ⟨w2, w3, hev⟩]
          refine List.mem_map.mpr ⟨p', ?_, rfl⟩
          have hcase : b ∉ gt G e :: vs ∨ gt G e = b := by
            by_cases z : gt G e = b
            · exact Or.inr z
            · left; intro w; rcases List.mem_cons.mp w with w | w
              · exact z w.symm
              · exact hb w
          refine (ih _ _ p' hcase).mpr ⟨by rw [List.length_cons] at h1; omega, w5, h3.2, fun v hv w => ?_, fun z => ?_⟩
          · rcases List.mem_cons.mp w with w | w
            · rw [w] at hv; exact h3.1 hv
            · exact h4 v (by simp only [List.map_cons]; exact List.mem_cons_of_mem _ hv) w
          · cases p' with
            | nil => rfl
            | cons f q' =>
              exfalso
              -- the end of the way is b once more
              have hend : ∀ (r : List Nat) (u : Nat), r ≠ [] → WP G O (fun _ => false) b u r → b ∈ r.map (gt G) := by
                intro r
                induction r with
                | nil => intro u h _; exact absurd rfl h
                | cons g r ihr =>
                  intro u _ hw
                  cases r with
                  | nil =>
                    have : gt G g = b := hw.2.2.2.2
                    rw [List.map_cons, this]; exact List.mem_cons_self ..
                  | cons g' r' =>
                    rw [List.map_cons]
                    exact List.mem_cons_of_mem _ (ihr _ (List.cons_ne_nil _ _) hw.2.2.2.2)
              exact h3.1 (by rw [z]; exact hend _ _ (List.cons_ne_nil _ _) w5)
theorem wyO_SW {G : GT} {O : Nat → Bool} {a b : Nat} (hW : WG G) (ha : a < gN G) (p : List Nat) : p ∈ wyO G O b 10 [a] a ↔ SW G O a b p := by
  have hcase : b ∉ [a] ∨ a = b := by
    by_cases z : a = b
    · exact Or.inr z
    · left; intro w; exact z (List.mem_singleton.mp w).symm
  rw [wyO_m 10 [a] a p hcase]
  unfold SW nds
  rw [List.nodup_cons]
  constructor
  · rintro ⟨h1, h2, h3, h4, h5⟩
    exact ⟨h2, fun z => h4 a z (List.mem_singleton.mpr rfl), h3⟩
  · rintro ⟨h2, h4, h3⟩
    have hl := SW_len hW ha (show SW G O a b p from ⟨h2, List.nodup_cons.mpr ⟨h4, h3⟩⟩)
    refine ⟨by omega, h2, h3, fun v hv w => by rw [List.mem_singleton.mp w] at hv; exact h4 hv, fun z => ?_⟩
    cases p with
    | nil => rfl
    | cons e p =>
      exfalso
      have hend : ∀ (r : List Nat) (u : Nat), r ≠ [] → WP G O (fun _ => false) b u r → b ∈ r.map (gt G) := by
        intro r
        induction r with
        | nil => intro u h _; exact absurd rfl h
        | cons g r ihr =>
          intro u _ hw
          cases r with
          | nil =>
            have : gt G g = b := hw.2.2.2.2
            rw [List.map_cons, this]; exact List.mem_cons_self ..
          | cons g' r' =>
            rw [List.map_cons]
            exact List.mem_cons_of_mem _ (ihr _ (List.cons_ne_nil _ _) hw.2.2.2.2)
      exact h4 (by rw [z]; exact hend _ _ (List.cons_ne_nil _ _) h2)
