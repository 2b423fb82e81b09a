-- ===== PURE: ways as lists of arcs, and the least of them =====
def cst (G : GT) (p : List Nat) : Nat := (p.map (fun e => gw G e * 16 + 1)).sum
theorem cst_e {G : GT} : ∀ p : List Nat, cst G p = 16 * wyL G p + p.length := by
  intro p
  induction p with
  | nil => rfl
  | cons e p ih =>
    unfold cst wyL at *
    rw [List.map_cons, List.sum_cons, ih, List.map_cons, List.sum_cons, List.length_cons]
    omega
theorem cst_c {G : GT} {e : Nat} {p : List Nat} : cst G (e :: p) = gw G e * 16 + 1 + cst G p := by
  unfold cst; rw [List.map_cons, List.sum_cons]
theorem cst_a {G : GT} {p q : List Nat} : cst G (p ++ q) = cst G p + cst G q := by
  unfold cst; rw [List.map_append, List.sum_append]
abbrev wlt (G : GT) (p q : List Nat) : Prop := cst G p < cst G q ∨ cst G p = cst G q ∧ p < q
theorem wlt_irr {G : GT} {p : List Nat} : ¬ wlt G p p := by
  intro h
  rcases h with h | h
  · omega
  · exact List.lt_irrefl p h.2
theorem wlt_tr {G : GT} {p q r : List Nat} (h : wlt G p q) (k : wlt G q r) : wlt G p r := by
  unfold wlt at *
  rcases h with h | h <;> rcases k with k | k
  · left; omega
  · left; omega
  · left; omega
  · right; exact ⟨by omega, List.lt_trans h.2 k.2⟩
theorem wlt_tot {G : GT} (p q : List Nat) : wlt G p q ∨ p = q ∨ wlt G q p := by
  unfold wlt
  rcases Nat.lt_trichotomy (cst G p) (cst G q) with h | h | h
  · left; left; exact h
  · by_cases h1 : p < q
    · left; right; exact ⟨h, h1⟩
    · by_cases h2 : q < p
      · right; right; right; exact ⟨h.symm, h2⟩
      · right; left
        exact List.le_antisymm (List.not_lt.mp h2) (List.not_lt.mp h1)
  · right; right; left; exact h
theorem wlt_as {G : GT} {p q : List Nat} (h : wlt G p q) (k : wlt G q p) : False := wlt_irr (wlt_tr h k)
theorem wlt_app {G : GT} {r p q : List Nat} : wlt G (r ++ p) (r ++ q) ↔ wlt G p q := by
  unfold wlt
  rw [cst_a, cst_a]
  have : r ++ p < r ++ q ↔ p < q := by
    induction r with
    | nil => rfl
    | cons a r ih => rw [List.cons_append, List.cons_append, List.cons_lt_cons_iff]; simp [ih]
  rw [this]
  constructor
  · intro h; rcases h with h | h
    · left; omega
    · right; exact ⟨by omega, h.2⟩
  · intro h; rcases h with h | h
    · left; omega
    · right; exact ⟨by omega, h.2⟩
/-- a walk on from u to b, over the arcs O, without the nodes X -/
def WP (G : GT) (O X : Nat → Bool) (b : Nat) : Nat → List Nat → Prop
  | u, [] => u = b
  | u, e :: q => e < gm G ∧ O e = true ∧ gf G e = u ∧ X (gt G e) = false ∧ WP G O X b (gt G e) q
/-- the nodes of a walk -/
def nds (G : GT) (u : Nat) (p : List Nat) : List Nat := u :: p.map (gt G)
/-- the facts of a search against the arcs, to b -/
def TB (G : GT) (O X : Nat → Bool) (b : Nat) (K : Nat → Bool) (c : Nat → Nat) : Prop :=
  (X b = false → K b = true ∧ c b = 0) ∧
  (∀ e, e < gm G → O e = true → K (gt G e) = true → X (gf G e) = false → K (gf G e) = true ∧ c (gf G e) ≤ c (gt G e) + (gw G e * 16 + 1)) ∧
  (∀ v, K v = true → v < gN G ∧ X v = false ∧ c v % 16 ≤ 10 ∧ ((v = b ∧ c v = 0) ∨ ∃ e, e < gm G ∧ O e = true ∧ gf G e = v ∧ K (gt G e) = true ∧ c v % 16 = c (gt G e) % 16 + 1 ∧ c v = c (gt G e) + (gw G e * 16 + 1)))
theorem TX_TB {G : GT} {O X K : Nat → Bool} {b bb : Nat} {σ : mS} {c : Nat → Nat} (hb : b < gN G) (h : TX bb G true O (fun v => decide (v = b)) X σ K c) : TB G O X b K c := by
  obtain ⟨⟨h1, h2, h3⟩, _, h5, _⟩ := h
  refine ⟨fun q => ?_, fun e he ho hk hx => ?_, fun v hv => ?_⟩
  · obtain ⟨a1, a2, a3⟩ := h1 b hb (decide_eq_true rfl) q
    have a2 : c b / 16 = 0 := a2
    have a3 : c b % 16 = 0 := a3
    exact ⟨a1, by omega⟩
  · obtain ⟨a1, a2⟩ := h2 e he ho hk hx
    have a1 : K (gf G e) = true := a1
    have a2 : lexL (c (gf G e) / 16) (c (gf G e) % 16) (c (gt G e) / 16 + gw G e) (c (gt G e) % 16 + 1) := a2
    have b1 := (h5 _ a1).2.2.2
    have b2 := (h5 _ hk).2.2.2
    refine ⟨a1, ?_⟩
    have b2 : c (gt G e) % 16 ≤ 10 := b2
    rcases a2 with a2 | a2 <;> omega
  · obtain ⟨a1, a2, a3⟩ := h3 v hv
    refine ⟨a1, a2, (h5 v hv).2.2.2, ?_⟩
    rcases a3 with ⟨b1, b2, b3⟩ | ⟨e, b1, b2, b3, b4, b5, b6⟩
    · left
      have b2 : c v / 16 = 0 := b2
      have b3 : c v % 16 = 0 := b3
      exact ⟨of_decide_eq_true b1, by omega⟩
    · right
      have b5 : c v / 16 = c (gt G e) / 16 + gw G e := b5
      have b6 : c v % 16 = c (gt G e) % 16 + 1 := b6
      exact ⟨e, b1, b2, b3, b4, b6, by omega⟩
theorem walk_ge {G : GT} {O X K : Nat → Bool} {b : Nat} {c : Nat → Nat} (h : TB G O X b K c) : ∀ (q : List Nat) (u : Nat), X u = false → WP G O X b u q → K u = true ∧ c u ≤ cst G q := by
  intro q
  induction q with
  | nil =>
    intro u hx hw
    have hw : u = b := hw
    subst hw
    obtain ⟨a1, a2⟩ := h.1 hx
    exact ⟨a1, by omega⟩
  | cons e q ih =>
    intro u hx hw
    obtain ⟨w1, w2, w3, w4, w5⟩ := hw
    subst w3
    obtain ⟨a1, a2⟩ := ih _ w4 w5
    obtain ⟨b1, b2⟩ := h.2.1 e w1 w2 a1 hx
    exact ⟨b1, by rw [cst_c]; omega⟩
/-- the arc that is followed -/
def bA (G : GT) (O K : Nat → Bool) (c : Nat → Nat) (u : Nat) : Nat := ((List.range (gm G)).find? fun e => lbE G true O K c e u).getD 0
def fol (G : GT) (O K : Nat → Bool) (c : Nat → Nat) : Nat → Nat → List Nat
  | 0, _ => []
  | n + 1, u => bA G O K c u :: fol G O K c n (gt G (bA G O K c u))
theorem bA_e {G : GT} {O K : Nat → Bool} {c : Nat → Nat} {v e : Nat} (he : e < gm G) (h1 : lbE G true O K c e v = true) (h2 : ∀ j, j < e → lbE G true O K c j v = false) : bA G O K c v = e := by
  unfold bA
  have : (List.range (gm G)).find? (fun e => lbE G true O K c e v) = some e := by
    rw [List.find?_range_eq_some]
    exact ⟨h1, List.mem_range.mpr he, fun j hj => by simp [h2 j hj]⟩
  rw [this]; rfl
theorem lbE_t {G : GT} {O K : Nat → Bool} {c : Nat → Nat} {e v : Nat} : lbE G true O K c e v = true ↔ gf G e = v ∧ O e = true ∧ K (gt G e) = true ∧ c (gt G e) + (gw G e * 16 + 1) = c v := by
  unfold lbE gE gS
  simp only [if_true, Bool.and_eq_true, decide_eq_true_eq, and_assoc]
theorem bA_s {G : GT} {O K : Nat → Bool} {c : Nat → Nat} {v e : Nat} (he : e < gm G) (h1 : lbE G true O K c e v = true) : bA G O K c v ≤ e ∧ bA G O K c v < gm G ∧ lbE G true O K c (bA G O K c v) v = true ∧ ∀ j, j < bA G O K c v → lbE G true O K c j v = false := by
  obtain ⟨k, ⟨k1, k2⟩, k3⟩ := pk_least (fun k => k < gm G ∧ lbE G true O K c k v = true) ⟨e, he, h1⟩
  have k4 : ∀ j, j < k → lbE G true O K c j v = false := fun j hj => by
    have := k3 j hj
    cases z : lbE G true O K c j v with
    | false => rfl
    | true => exact absurd ⟨by omega, z⟩ this
  have hb := bA_e k1 k2 k4
  rw [hb]
  refine ⟨?_, k1, k2, k4⟩
  rcases Nat.lt_or_ge e k with q | q
  · rw [k4 e q] at h1; cases h1
  · exact q
theorem fol_w {G : GT} {O X K : Nat → Bool} {b : Nat} {c : Nat → Nat} (h : TB G O X b K c) : ∀ (n u : Nat), K u = true → c u % 16 = n → WP G O X b u (fol G O K c n u) ∧ cst G (fol G O K c n u) = c u ∧ (fol G O K c n u).length = n ∧ (nds G u (fol G O K c n u)).Nodup ∧ ∀ v ∈ nds G u (fol G O K c n u), v < gN G ∧ c v ≤ c u ∧ X v = false := by
  intro n
  induction n with
  | zero =>
    intro u hK hn
    obtain ⟨a1, a2, a3, a4⟩ := h.2.2 u hK
    rcases a4 with ⟨b1, b2⟩ | ⟨e, _, _, _, _, b5, _⟩
    · refine ⟨b1, by rw [b2]; rfl, rfl, by simp [nds, fol], fun v hv => ?_⟩
      have hv : v = u := by simpa [nds, fol] using hv
      subst hv; exact ⟨a1, Nat.le_refl _, a2⟩
    · omega
  | succ n ih =>
    intro u hK hn
    obtain ⟨a1, a2, a3, a4⟩ := h.2.2 u hK
    rcases a4 with ⟨b1, b2⟩ | ⟨e, e1, e2, e3, e4, e5, e6⟩
    · omega
    · obtain ⟨_, s1, s2, s3⟩ := bA_s e1 (lbE_t.mpr ⟨e3, e2, e4, e6.symm⟩)
      obtain ⟨l1, l2, l3, l4⟩ := lbE_t.mp s2
      rw [fol]
      generalize bA G O K c u = f at *
      have hx := (h.2.2 _ l3).2.1
      have hh := (h.2.2 _ l3).2.2.1
      obtain ⟨i1, i2, i3, i4, i5⟩ := ih (gt G f) l3 (by omega)
      refine ⟨⟨s1, l2, l1, hx, i1⟩, by rw [cst_c, i2]; omega, by rw [List.length_cons, i3], ?_, fun v hv => ?_⟩
      · show (u :: (gt G f :: (fol G O K c n (gt G f)).map (gt G))).Nodup
        rw [List.nodup_cons]
        refine ⟨fun q => ?_, i4⟩
        have := (i5 u q).2.1
        omega
      · have hv : v ∈ u :: nds G (gt G f) (fol G O K c n (gt G f)) := hv
        rcases List.mem_cons.mp hv with q | q
        · subst q; exact ⟨a1, Nat.le_refl _, a2⟩
        · obtain ⟨j1, j2, j3⟩ := i5 v q
          exact ⟨j1, by omega, j3⟩
theorem fol_min {G : GT} {O X K : Nat → Bool} {b : Nat} {c : Nat → Nat} (h : TB G O X b K c) : ∀ (q : List Nat) (u : Nat), X u = false → WP G O X b u q → cst G q = c u → q = fol G O K c (c u % 16) u ∨ fol G O K c (c u % 16) u < q := by
  intro q
  induction q with
  | nil =>
    intro u hx hw hc
    left
    rw [← hc]; rfl
  | cons e q ih =>
    intro u hx hw hc
    obtain ⟨w1, w2, w3, w4, w5⟩ := hw
    subst w3
    obtain ⟨a1, a2⟩ := walk_ge h q _ w4 w5
    obtain ⟨b1, b2⟩ := h.2.1 e w1 w2 a1 hx
    rw [cst_c] at hc
    have hq : cst G q = c (gt G e) := by omega
    have hlb : lbE G true O K c e (gf G e) = true := lbE_t.mpr ⟨rfl, w2, a1, by omega⟩
    obtain ⟨s0, s1, s2, s3⟩ := bA_s w1 hlb
    obtain ⟨l1, l2, l3, l4⟩ := lbE_t.mp s2
    have hh := (h.2.2 _ l3).2.2.1
    have hh2 := (h.2.2 _ b1).2.2.1
    have hu : c (gf G e) % 16 = c (gt G (bA G O K c (gf G e))) % 16 + 1 := by omega
    rw [hu, fol]
    by_cases z : bA G O K c (gf G e) = e
    · rw [z] at hu ⊢
      have hu2 : c (gt G e) % 16 = c (gf G e) % 16 - 1 := by omega
      rcases ih _ w4 w5 hq with i | i
      · left
        rw [← i]
      · right
        rw [List.cons_lt_cons_iff]
        right; exact ⟨rfl, i⟩
    · right
      rw [List.cons_lt_cons_iff]
      left; omega
/-- a simple way -/
def SW (G : GT) (O : Nat → Bool) (a b : Nat) (p : List Nat) : Prop := WP G O (fun _ => false) b a p ∧ (nds G a p).Nodup
theorem WP_mono {G : GT} {O O' X X' : Nat → Bool} {b : Nat} : ∀ (p : List Nat) (u : Nat), (∀ e ∈ p, O e = true → O' e = true) → (∀ e ∈ p, X (gt G e) = false → X' (gt G e) = false) → WP G O X b u p → WP G O' X' b u p := by
  intro p
  induction p with
  | nil => intro u _ _ h; exact h
  | cons e p ih =>
    intro u h1 h2 h
    obtain ⟨w1, w2, w3, w4, w5⟩ := h
    exact ⟨w1, h1 e (by simp) w2, w3, h2 e (by simp) w4, ih _ (fun e he => h1 e (by simp [he])) (fun e he => h2 e (by simp [he])) w5⟩
theorem WP_lt {G : GT} {O X : Nat → Bool} {b : Nat} : ∀ (p : List Nat) (u : Nat), WP G O X b u p → ∀ e ∈ p, e < gm G ∧ O e = true ∧ X (gt G e) = false := by
  intro p
  induction p with
  | nil => intro u _ e he; cases he
  | cons f p ih =>
    intro u h e he
    obtain ⟨w1, w2, w3, w4, w5⟩ := h
    rcases List.mem_cons.mp he with q | q
    · subst q; exact ⟨w1, w2, w4⟩
    · exact ih _ w5 e q
theorem SW_len {G : GT} {O : Nat → Bool} {a b : Nat} {p : List Nat} (hW : WG G) (ha : a < gN G) (h : SW G O a b p) : p.length ≤ 9 := by
  have hN := hW.1
  have := nodup_len (n := gN G) h.2 (fun x hx => by
    unfold nds at hx
    rcases List.mem_cons.mp hx with q | q
    · rw [q]; exact ha
    · obtain ⟨e, he, rfl⟩ := List.mem_map.mp q
      exact (hW.2.2.1 e (WP_lt p a h.1 e he).1).2.1)
  unfold nds at this
  rw [List.length_cons, List.length_map] at this
  omega
theorem cst_le {G : GT} (hW : WG G) : ∀ p : List Nat, (∀ e ∈ p, e < gm G) → cst G p ≤ 16000001 * p.length := by
  intro p
  induction p with
  | nil => intro _; exact Nat.zero_le _
  | cons e p ih =>
    intro h
    have h1 := ih (fun e he => h e (by simp [he]))
    have h2 := (hW.2.2.1 e (h e (by simp))).2.2.2.1
    rw [cst_c, List.length_cons]
    omega
/-- the least of a set of ways -/
def LeastOf (G : GT) (P : List Nat → Prop) (r : List Nat) : Prop := P r ∧ ∀ p, P p → p = r ∨ wlt G r p
theorem LeastOf_u {G : GT} {P : List Nat → Prop} {r r' : List Nat} (h : LeastOf G P r) (h' : LeastOf G P r') : r = r' := by
  rcases h.2 r' h'.1 with q | q
  · exact q.symm
  · rcases h'.2 r h.1 with z | z
    · exact z
    · exact (wlt_as q z).elim
/-- what is followed is the least -/
theorem fol_least {G : GT} {O X K : Nat → Bool} {b u : Nat} {c : Nat → Nat} (h : TB G O X b K c) (hx : X u = false) : (K u = true → SW G O u b (fol G O K c (c u % 16) u) ∧ LeastOf G (fun q => WP G O X b u q) (fol G O K c (c u % 16) u) ∧ cst G (fol G O K c (c u % 16) u) = c u ∧ (fol G O K c (c u % 16) u).length = c u % 16) ∧ (K u = false → ∀ q, ¬ WP G O X b u q) := by
  refine ⟨fun hK => ?_, fun hK q hq => ?_⟩
  · obtain ⟨f1, f2, f3, f4, f5⟩ := fol_w h (c u % 16) u hK rfl
    refine ⟨⟨WP_mono _ _ (fun _ _ h => h) (fun _ _ _ => rfl) f1, f4⟩, ⟨f1, fun q hq => ?_⟩, f2, f3⟩
    obtain ⟨_, g2⟩ := walk_ge h q u hx hq
    unfold wlt
    rw [f2]
    rcases Nat.lt_or_ge (c u) (cst G q) with z | z
    · right; left; exact z
    · have hc : cst G q = c u := by omega
      rcases fol_min h q u hx hq hc with z | z
      · left; exact z
      · right; right; exact ⟨hc.symm, z⟩
  · obtain ⟨g1, _⟩ := walk_ge h q u hx hq
    rw [hK] at g1; cases g1
