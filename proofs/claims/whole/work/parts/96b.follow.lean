-- ===== PURE: ways laid out by the class =====
def WO (G : GT) (σ : mS) (w : Nat) (p : List Nat) : Prop := σ.1 w 1 = nI p.length ∧ σ.1 w 2 = nI (cst G p) ∧ (∀ j e, p[j]? = some e → σ.1 (w + 1) j = nI e) ∧ ∀ e ∈ p, e < gm G
def frV (w : Nat) (σ σ' : mS) : Prop := (∀ k j, k ≠ w + 1 → (k ≠ w ∨ j ≠ 1 ∧ j ≠ 2) → σ'.1 k j = σ.1 k j) ∧ σ'.2 = σ.2
theorem frV_r (w : Nat) (σ : mS) : frV w σ σ := ⟨fun _ _ _ _ => rfl, rfl⟩
theorem frV_t {w : Nat} {a b c : mS} (h : frV w a b) (k : frV w b c) : frV w a c := ⟨fun x j q1 q2 => (k.1 x j q1 q2).trans (h.1 x j q1 q2), k.2.trans h.2⟩
theorem WO_c {G : GT} {σ σ' : mS} {w : Nat} {p : List Nat} (h : WO G σ w p) (h1 : σ'.1 w 1 = σ.1 w 1) (h2 : σ'.1 w 2 = σ.1 w 2) (h3 : ∀ j, σ'.1 (w + 1) j = σ.1 (w + 1) j) : WO G σ' w p := by
  refine ⟨by rw [h1]; exact h.1, by rw [h2]; exact h.2.1, fun j e he => by rw [h3]; exact h.2.2.1 j e he, h.2.2.2⟩
theorem add_e {G : GT} {σ : mS} {w : Nat} {p : List Nat} {e : Nat} (hW : WG G) (h : WO G σ w p) (hl : p.length < 10) (he : e < gm G) : ∃ σ', f_Wy_add w σ (nI e) (nI (gw G e)) = some σ' ∧ WO G σ' w (p ++ [e]) ∧ frV w σ σ' := by
  obtain ⟨h1, h2, h3, h4⟩ := h
  unfold f_Wy_add
  have hcl : (nI p.length).toNatClampNeg = p.length := nI_clamp (by omega)
  rw [h1, if_neg (show ¬ (10 : Int32) ≤ nI p.length from nI_ge (b := 10) hl (by decide)), gd_t (inb_n hl (by decide)), nm_e2, nm_e2, nm_e2, hcl]
  refine ⟨_, rfl, ⟨?_, ?_, fun j f hf => ?_, fun f hf => ?_⟩, fun k j q1 q2 => ?_, rfl⟩
  · rw [sI_1, if_pos rfl, if_neg (by decide), sI_1, if_pos rfl, if_pos rfl, sI_1, if_neg (by omega), h1, nI_1, List.length_append]; rfl
  · rw [sI_1, if_pos rfl, if_pos rfl, sI_1, if_pos rfl, if_neg (by decide), sI_1, if_neg (by omega), h2, show (16 : Int32) = nI 16 from rfl, pk_mul, nI_1, nI_add, cst_a]
    show _ = nI (cst G p + (gw G e * 16 + 1 + 0))
    rfl
  · rw [sI_1, if_neg (by omega), sI_1, if_neg (by omega), sI_1, if_pos rfl]
    by_cases q : j = p.length
    · subst q
      rw [if_pos rfl]
      simp at hf
      rw [hf]
    · rw [if_neg q]
      rcases Nat.lt_or_ge j p.length with z | z
      · rw [List.getElem?_append_left z] at hf
        exact h3 j f hf
      · rw [List.getElem?_append_right z] at hf
        have : ([e] : List Nat)[j - p.length]? = none := List.getElem?_eq_none (by simp; omega)
        rw [this] at hf; cases hf
  · rcases List.mem_append.mp hf with q | q
    · exact h4 f q
    · rw [List.mem_singleton.mp q]; exact he
  · by_cases z : k = w
    · rw [sI_1, if_pos z, if_neg (by omega), sI_1, if_pos z, if_neg (by omega), sI_1, if_neg q1]
    · rw [sI_1, if_neg z, sI_1, if_neg z, sI_1, if_neg q1]
theorem beginW_e {G : GT} {σ : mS} {w : Nat} (x1 : Int32) (x2 : Int64) : ∃ σ', f_Wy_begin w σ x1 x2 = some σ' ∧ WO G σ' w [] ∧ (∀ k j, (k ≠ w ∨ j = 0 ∨ 4 ≤ j) → σ'.1 k j = σ.1 k j) ∧ (∀ k j, (k ≠ w ∨ j ≠ 4) → σ'.2.1 k j = σ.2.1 k j) ∧ σ'.2.2 = σ.2.2 ∧ σ'.1 w 3 = x1 ∧ σ'.2.1 w 4 = x2 := by
  unfold f_Wy_begin
  simp only [nm]
  refine ⟨_, rfl, ⟨?_, ?_, fun j e h => by simp at h, fun e h => by simp at h⟩, fun k j q => ?_, fun k j q => ?_, rfl, ?_, ?_⟩
  · simp [sJ_1, sI_1]; rfl
  · simp [sJ_1, sI_1]; rfl
  · rw [sJ_1, sI_1, sI_1, sI_1]
    by_cases z : k = w
    · rw [if_pos z, if_neg (by omega), if_pos z, if_neg (by omega), if_pos z, if_neg (by omega)]
    · rw [if_neg z, if_neg z, if_neg z]
  · rw [sJ_2]
    by_cases z : k = w
    · rw [if_pos z, if_neg (by omega)]; rfl
    · rw [if_neg z]; rfl
  · simp [sJ_1, sI_1]
  · simp [sJ_2]
theorem TX_v {w : Nat} {G : GT} {O s X K : Nat → Bool} {σ σ' : mS} {c : Nat → Nat} (hw : 24 ≤ w) (hf : frV w σ σ') (h : TX 16 G true O s X σ K c) : TX 16 G true O s X σ' K c := by
  obtain ⟨h1, h2, h3, h4, h5, h6⟩ := h
  refine ⟨h1, fun v => ?_, fun v hv => ?_, fun e he => ?_, ?_, ?_⟩
  · rw [hf.1 16 7 (by omega) (by omega)]; exact h2 v
  · obtain ⟨a1, a2, a3⟩ := h3 v hv
    exact ⟨a1, by rw [hf.1 (16 + 1) v (by omega) (by omega)]; exact a2, a3⟩
  · rw [hf.2]; exact h4 e he
  · rw [hf.1 16 1 (by omega) (by omega)]; exact h5
  · rw [hf.1 16 10 (by omega) (by omega)]; exact h6
theorem RX_v {w : Nat} {G : GT} {σ σ' : mS} (hw : 24 ≤ w) (hf : frV w σ σ') (hX : RX G σ) : RX G σ' := by
  obtain ⟨x1, x2, x3, x4, x5, x6⟩ := hX
  have h0 : ∀ k j, k < 8 → σ'.1 k j = σ.1 k j := fun k j hk => hf.1 k j (by omega) (by omega)
  refine ⟨by rw [h0 _ _ (by decide)]; exact x1, by rw [h0 _ _ (by decide)]; exact x2, fun e he => ?_, fun v hv => by rw [h0 _ _ (by decide)]; exact x4 v hv, fun e => by rw [hf.2]; exact x5 e, fun v => by rw [h0 _ _ (by decide)]; exact x6 v⟩
  rw [h0 _ _ (by decide), h0 _ _ (by decide), h0 _ _ (by decide), h0 _ _ (by decide), h0 _ _ (by decide)]
  exact x3 e he
theorem follow_e {G : GT} {O X K : Nat → Bool} {σ : mS} {c : Nat → Nat} {b u w : Nat} {p : List Nat} (hW : WG G) (hX : RX G σ) (hw : 24 ≤ w) (hb : b < gN G) (h : TX 16 G true O (fun v => decide (v = b)) X σ K c) (hK : K u = true) (hp : WO G σ w p) (hl : p.length + c u % 16 ≤ 10) :
    ∃ σ', f_Se_follow 16 σ (nI u) w = some σ' ∧ WO G σ' w (p ++ fol G O K c (c u % 16) u) ∧ frV w σ σ' := by
  have hN := hW.1
  have hm := hW.2.1
  have hTB := TX_TB hb h
  obtain ⟨a1, a2, a3, a4⟩ := h.2.2.1 u hK
  have a2 : σ.1 17 u = nI (c u) := a2
  unfold f_Se_follow
  have hcu : (nI u).toNatClampNeg = u := nI_clamp (by omega)
  rw [gd_t (inb_n (by omega) (by decide)), gd_t (by decide), hcu, show ((16 : Nat) + 1) = 17 from rfl, a2, show (16 : Int32) = nI 16 from rfl, pk_rem (by omega) (by decide) (by decide), nm_e2]
  obtain ⟨x, x1, x2⟩ := lpN_i (st := f_Se_follow_L16 16 w (nI (c u % 16))) (fun i t => t.2.1 = nI i ∧ frV w σ t.2.2 ∧ ∃ (q : List Nat) (v : Nat), t.1 = nI v ∧ K v = true ∧ c v % 16 = c u % 16 - i ∧ WO G t.2.2 w (p ++ q) ∧ q.length = i ∧ q ++ fol G O K c (c v % 16) v = fol G O K c (c u % 16) u) (fun x => ∃ y, x = Sum.inl y ∧ frV w σ y.2.2 ∧ WO G y.2.2 w (p ++ fol G O K c (c u % 16) u)) (c u % 16) (fun i t hi ht => by
    obtain ⟨tv, ti, t⟩ := t
    obtain ⟨t1, t2, q, v, t3, t4, t5, t6, t7, t8⟩ := ht
    have t1 : ti = nI i := t1
    have t3 : tv = nI v := t3
    subst t1
    subst t3
    have t2 : frV w σ t := t2
    have t6 : WO G t w (p ++ q) := t6
    unfold f_Se_follow_L16
    dsimp only
    by_cases hc : i = c u % 16
    · left
      rw [if_pos (nI_le (by omega) (by omega))]
      refine ⟨_, rfl, _, rfl, t2, ?_⟩
      have e0 : c v % 16 = 0 := by omega
      rw [e0] at t8
      have t8 : q ++ [] = _ := t8
      rw [List.append_nil] at t8
      rw [← t8]; exact t6
    · right
      refine ⟨by omega, ?_⟩
      rw [if_neg (nI_ge (by omega) (by omega))]
      have hTt := TX_v hw t2 h
      have hXt := RX_v hw t2 hX
      have hv := (hTB.2.2 v t4).1
      obtain ⟨_, _, _, z4⟩ := hTB.2.2 v t4
      rcases z4 with ⟨_, z4⟩ | ⟨f, f1, f2, f3, f4, f5, f6⟩
      · rw [z4] at t5; omega
      · have hlb : lbE G true O K c f v = true := lbE_t.mpr ⟨f3, f2, f4, f6.symm⟩
        rcases last_e hW hXt hTt hv t4 with ⟨_, l2⟩ | ⟨e, l1, l2, l3, l4⟩
        · rw [l2 f f1] at hlb; cases hlb
        · have hbA := bA_e l1 l3 l4
          obtain ⟨m1, m2, m3, m4⟩ := lbE_t.mp l3
          have hce : (nI e).toNatClampNeg = e := nI_clamp (by omega)
          have hh := (hTB.2.2 _ m3).2.2.1
          have hn : c v % 16 = c (gt G e) % 16 + 1 := by omega
          rw [l2, Option.bind_some, if_neg (nI_m1 (by omega)), gd_t (inb_n (by omega) (by decide)), hce, (hXt.2.2.1 e l1).2.2.1]
          obtain ⟨σ2, g1, g2, g3⟩ := add_e hW t6 (by rw [List.length_append]; omega) l1
          rw [g1, Option.bind_some]
          have hfr := frV_t t2 g3
          have hX2 := RX_v hw hfr hX
          have hag : σ2.1 16 1 = bI true := (TX_v hw hfr h).2.2.2.2.1
          rw [start_e hW hX2 hag l1, Option.bind_some]
          refine ⟨_, rfl, nI_1 _, hfr, q ++ [e], gt G e, rfl, m3, by omega, by rw [← List.append_assoc]; exact g2, by rw [List.length_append, t7]; rfl, ?_⟩
          rw [← t8, hn, fol, hbA, List.append_assoc]; rfl) fuS 0 (nI u, 0, σ) ⟨rfl, frV_r _ _, [], u, rfl, hK, by omega, by rw [List.append_nil]; exact hp, rfl, rfl⟩ (Nat.zero_le _) (by rw [fuS_e]; omega)
  rw [x1, Option.bind_some]
  obtain ⟨y, y1, y2, y3⟩ := x2
  rw [y1]
  exact ⟨_, rfl, y3, y2⟩
