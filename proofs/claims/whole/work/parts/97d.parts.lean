-- ===== PURE: the ways in parts =====
def endN (G : GT) : Nat → List Nat → Nat
  | u, [] => u
  | _, e :: q => endN G (gt G e) q
def psd (G : GT) : Nat → List Nat → List Nat
  | _, [] => []
  | u, e :: q => u :: psd G (gt G e) q
theorem endN_a {G : GT} : ∀ (p q : List Nat) (u : Nat), endN G u (p ++ q) = endN G (endN G u p) q := by
  intro p
  induction p with
  | nil => intro q u; rfl
  | cons e p ih => intro q u; exact ih q (gt G e)
theorem psd_a {G : GT} : ∀ (p q : List Nat) (u : Nat), psd G u (p ++ q) = psd G u p ++ psd G (endN G u p) q := by
  intro p
  induction p with
  | nil => intro q u; rfl
  | cons e p ih => intro q u; show u :: psd G (gt G e) (p ++ q) = u :: psd G (gt G e) p ++ _; rw [ih]; rfl
theorem nds_p {G : GT} : ∀ (p : List Nat) (u : Nat), nds G u p = psd G u p ++ [endN G u p] := by
  intro p
  induction p with
  | nil => intro u; rfl
  | cons e p ih =>
    intro u
    show u :: nds G (gt G e) p = u :: (psd G (gt G e) p ++ [endN G (gt G e) p])
    rw [ih]
theorem nds_a {G : GT} (p q : List Nat) (u : Nat) : nds G u (p ++ q) = psd G u p ++ nds G (endN G u p) q := by
  have h1 := nds_p (G := G) (p ++ q) u
  rw [psd_a, endN_a] at h1
  rw [h1, nds_p q, List.append_assoc]
theorem WP_a {G : GT} {O X : Nat → Bool} {b : Nat} : ∀ (p q : List Nat) (u : Nat), WP G O X b u (p ++ q) ↔ WP G O X (endN G u p) u p ∧ WP G O X b (endN G u p) q := by
  intro p
  induction p with
  | nil => intro q u; exact ⟨fun h => ⟨rfl, h⟩, fun h => h.2⟩
  | cons e p ih =>
    intro q u
    show (e < gm G ∧ O e = true ∧ gf G e = u ∧ X (gt G e) = false ∧ WP G O X b (gt G e) (p ++ q)) ↔ (e < gm G ∧ O e = true ∧ gf G e = u ∧ X (gt G e) = false ∧ WP G O X (endN G (gt G e) p) (gt G e) p) ∧ WP G O X b (endN G (gt G e) p) q
    rw [ih]
    constructor
    · rintro ⟨h1, h2, h3, h4, h5, h6⟩; exact ⟨⟨h1, h2, h3, h4, h5⟩, h6⟩
    · rintro ⟨⟨h1, h2, h3, h4, h5⟩, h6⟩; exact ⟨h1, h2, h3, h4, h5, h6⟩
theorem WP_end {G : GT} {O X : Nat → Bool} {b : Nat} : ∀ (p : List Nat) (u : Nat), WP G O X b u p → endN G u p = b := by
  intro p
  induction p with
  | nil => intro u h; exact h
  | cons e p ih => intro u h; exact ih _ h.2.2.2.2
theorem end_in {G : GT} : ∀ (p : List Nat) (u : Nat), endN G u p ∈ nds G u p := by
  intro p u
  rw [nds_p]; simp
theorem end_map {G : GT} : ∀ (p : List Nat) (u : Nat), p ≠ [] → endN G u p ∈ p.map (gt G) := by
  intro p
  cases p with
  | nil => intro u h; exact absurd rfl h
  | cons e p => intro u _; exact end_in p (gt G e)
theorem SW_pre {G : GT} {O : Nat → Bool} {a b : Nat} {p q : List Nat} (hp : SW G O a b p) (hq : SW G O a b q) (h : q.take p.length = p) : q = p := by
  have e : q = p ++ q.drop p.length := by conv => lhs; rw [← List.take_append_drop p.length q, h]
  generalize q.drop p.length = r at e
  subst e
  cases hr : r with
  | nil => rw [List.append_nil]
  | cons f r' =>
    exfalso
    have hne : r ≠ [] := by rw [hr]; exact List.cons_ne_nil _ _
    have h1 := WP_end p a hp.1
    have h2 := WP_end _ a hq.1
    rw [endN_a, h1] at h2
    have h3 := hq.2
    rw [nds_p, psd_a, endN_a, h1, h2] at h3
    have h4 : b ∈ psd G b r := by rw [hr]; exact List.mem_cons_self ..
    rw [List.nodup_append] at h3
    exact h3.2.2 b (List.mem_append_right _ h4) b (List.mem_singleton.mpr rfl) rfl
theorem WP_gf {G : GT} {O X : Nat → Bool} {b : Nat} : ∀ (p : List Nat) (u : Nat), WP G O X b u p → ∀ e ∈ p, gf G e ∈ psd G u p := by
  intro p
  induction p with
  | nil => intro u _ e he; cases he
  | cons f p ih =>
    intro u h e he
    rcases List.mem_cons.mp he with z | z
    · rw [z, h.2.2.1]; exact List.mem_cons_self ..
    · exact List.mem_cons_of_mem _ (ih _ h.2.2.2.2 e z)
/-- a part: the ways that share the first i arcs with p, and go on otherwise than by bar -/
def Pt (G : GT) (a b : Nat) (p : List Nat) (i : Nat) (bar : Nat → Bool) (q : List Nat) : Prop := SW G (gl G) a b q ∧ q.take i = p.take i ∧ ∀ e, q[i]? = some e → bar e = false
def barO (G : GT) (bar : Nat → Bool) : Nat → Bool := fun e => decide (e < gm G) && gl G e && !bar e
/-- the least of a part is what a search from its place finds -/
theorem part_e {G : GT} {a b i : Nat} {p : List Nat} {bar K : Nat → Bool} {c : Nat → Nat} (hi : i ≤ p.length) (hpre : WP G (gl G) (fun _ => false) (endN G a (p.take i)) a (p.take i)) (hnd : (nds G a (p.take i)).Nodup) (hbar : ∀ e, bar e = true → gf G e = endN G a (p.take i)) (hTB : TB G (barO G bar) (fun v => decide (v ∈ psd G a (p.take i))) b K c) :
    (K (endN G a (p.take i)) = true → LeastOf G (Pt G a b p i bar) (p.take i ++ fol G (barO G bar) K c (c (endN G a (p.take i)) % 16) (endN G a (p.take i)))) ∧ (K (endN G a (p.take i)) = false → ∀ q, ¬ Pt G a b p i bar q) := by
  generalize hu : endN G a (p.take i) = u at *
  generalize hpr : p.take i = pre at *
  have hlen : pre.length = i := by rw [← hpr, List.length_take]; omega
  have hXu : decide (u ∈ psd G a pre) = false := by
    rw [nds_p, hu] at hnd
    exact decide_eq_false (fun z => (List.nodup_append.mp hnd).2.2 u z u (List.mem_singleton.mpr rfl) rfl)
  have hpnd : (psd G a pre).Nodup := by rw [nds_p] at hnd; exact (List.nodup_append.mp hnd).1
  obtain ⟨f1, f2⟩ := fol_least (u := u) hTB hXu
  -- what a way of the part is behind its place
  have hdec : ∀ q, Pt G a b p i bar q → ∃ q2, q = pre ++ q2 ∧ WP G (barO G bar) (fun v => decide (v ∈ psd G a pre)) b u q2 := by
    intro q ⟨h1, h2, h3⟩
    rw [hpr] at h2
    have e : q = pre ++ q.drop i := by conv => lhs; rw [← List.take_append_drop i q, h2]
    refine ⟨q.drop i, e, ?_⟩
    generalize hq2 : q.drop i = q2 at e
    subst e
    obtain ⟨w1, w2⟩ := (WP_a pre q2 a).mp h1.1
    rw [hu] at w2
    have hn := h1.2
    rw [nds_a, hu] at hn
    obtain ⟨n1, n2, n3⟩ := List.nodup_append.mp hn
    refine WP_mono q2 u (fun e he hl => ?_) (fun e he _ => ?_) w2
    · have hlt := (WP_lt q2 u w2 e he).1
      have hb : bar e = false := by
        cases hbe : bar e with
        | false => rfl
        | true =>
          exfalso
          have hg := hbar e hbe
          cases q2 with
          | nil => cases he
          | cons f r =>
            rcases List.mem_cons.mp he with z | z
            · have := h3 f (by rw [List.getElem?_append_right (by omega), hlen, Nat.sub_self]; rfl)
              rw [← z, hbe] at this; cases this
            · have hr := WP_gf r _ w2.2.2.2.2 e z
              rw [hg] at hr
              have n2' : (u :: nds G (gt G f) r).Nodup := n2
              rw [List.nodup_cons, nds_p] at n2'
              exact n2'.1 (List.mem_append_left _ hr)
      unfold barO
      rw [decide_eq_true hlt, hl, hb]; rfl
    · refine decide_eq_false (fun z => ?_)
      have hm : gt G e ∈ nds G u q2 := by
        unfold nds; exact List.mem_cons_of_mem _ (List.mem_map.mpr ⟨e, he, rfl⟩)
      exact n3 _ z _ hm rfl
  refine ⟨fun hK => ?_, fun hK q hq => ?_⟩
  · obtain ⟨s1, s2, s3, s4⟩ := f1 hK
    generalize fol G (barO G bar) K c (c u % 16) u = f at *
    refine ⟨⟨⟨?_, ?_⟩, ?_, fun e he => ?_⟩, fun q hq => ?_⟩
    · rw [WP_a, hu]
      exact ⟨hpre, WP_mono f u (fun e _ h => by unfold barO at h; exact (Bool.and_eq_true_iff.mp (Bool.and_eq_true_iff.mp h).1).2) (fun _ _ _ => rfl) s1.1⟩
    · rw [nds_a, hu]
      refine List.nodup_append.mpr ⟨hpnd, s1.2, fun v hv w hw hvw => ?_⟩
      subst hvw
      rcases List.mem_cons.mp (show v ∈ u :: f.map (gt G) from hw) with z | z
      · rw [z] at hv; exact absurd hv (of_decide_eq_false hXu)
      · obtain ⟨e, he, hz⟩ := List.mem_map.mp z
        have := (WP_lt f u s2.1 e he).2.2
        rw [hz] at this
        exact absurd hv (of_decide_eq_false this)
    · rw [hpr, List.take_left' hlen]
    · rw [List.getElem?_append_right (by omega)] at he
      have := (WP_lt f u s2.1 e (List.mem_of_getElem? he)).2.1
      unfold barO at this
      simpa using (Bool.and_eq_true_iff.mp this).2
    · obtain ⟨q2, e1, e2⟩ := hdec q hq
      rcases s2.2 q2 e2 with z | z
      · left; rw [e1, z]
      · right; rw [e1]; exact wlt_app.mpr z
  · obtain ⟨q2, _, e2⟩ := hdec q hq
    exact f2 hK q2 e2
abbrev Ent : Type := List Nat × Nat × (Nat → Bool)
def EOK (G : GT) (a b : Nat) (E : Ent) : Prop := LeastOf G (Pt G a b E.1 E.2.1 E.2.2) E.1 ∧ (∀ e, E.2.2 e = true → gf G e = endN G a (E.1.take E.2.1)) ∧ E.2.1 ≤ E.1.length
def insE (Es : List Ent) (k : Nat) (x : Ent) : List Ent := Es.take k ++ x :: Es.drop k
theorem insE_m {Es : List Ent} {k : Nat} {x E : Ent} : E ∈ insE Es k x ↔ E ∈ Es ∨ E = x := by
  unfold insE
  rw [List.mem_append, List.mem_cons]
  have e : E ∈ Es ↔ E ∈ Es.take k ∨ E ∈ Es.drop k := by
    conv => lhs; rw [← List.take_append_drop k Es]
    rw [List.mem_append]
  rw [e]
  constructor
  · rintro (h | h | h)
    · exact Or.inl (Or.inl h)
    · exact Or.inr h
    · exact Or.inl (Or.inr h)
  · rintro ((h | h) | h)
    · exact Or.inl h
    · exact Or.inr (Or.inr h)
    · exact Or.inr (Or.inl h)
theorem insE_len {Es : List Ent} {k : Nat} {x : Ent} : (insE Es k x).length = Es.length + 1 := by
  unfold insE
  rw [List.length_append, List.length_cons, List.length_take, List.length_drop]; omega
def sortE (G : GT) (Es : List Ent) : Prop := Es.Pairwise (fun E F => wlt G E.1 F.1)
theorem insE_s {G : GT} {Es : List Ent} {k : Nat} {x : Ent} (hR : sortE G Es) (h1 : ∀ p ∈ Es.take k, wlt G p.1 x.1) (h2 : ∀ p ∈ Es.drop k, wlt G x.1 p.1) : sortE G (insE Es k x) := by
  unfold insE sortE at *
  have hR' := hR
  rw [← List.take_append_drop k Es, List.pairwise_append] at hR'
  rw [List.pairwise_append, List.pairwise_cons]
  refine ⟨hR'.1, ⟨h2, hR'.2.1⟩, fun p hp q hq => ?_⟩
  rcases List.mem_cons.mp hq with z | z
  · rw [z]; exact h1 p hp
  · exact hR'.2.2 p hp q z
def RI (G : GT) (a b : Nat) (Es : List Ent) (d n : Nat) (Ex : List Nat → Prop) : Prop := Es.length ≤ n ∧ sortE G Es ∧ (∀ E ∈ Es, EOK G a b E) ∧ ∀ q, SW G (gl G) a b q → (∃ j E, j < d ∧ Es[j]? = some E ∧ q = E.1) ∨ (∃ j E, d ≤ j ∧ Es[j]? = some E ∧ Pt G a b E.1 E.2.1 E.2.2 q) ∨ (Es.length = n ∧ ∀ E ∈ Es, wlt G E.1 q) ∨ Ex q
theorem RI_ins {G : GT} {a b d n k : Nat} {Es : List Ent} {x : Ent} {Ex Ex' : List Nat → Prop} (h : RI G a b Es d n Ex) (hx : EOK G a b x) (hd : d ≤ k) (hk : k ≤ Es.length) (hn : d < n) (h1 : ∀ p ∈ Es.take k, wlt G p.1 x.1) (h2 : ∀ p ∈ Es.drop k, wlt G x.1 p.1) (he : ∀ q, Ex q → Ex' q ∨ Pt G a b x.1 x.2.1 x.2.2 q) : RI G a b ((insE Es k x).take n) d n Ex' := by
  obtain ⟨a1, a2, a3, a4⟩ := h
  have hs := insE_s a2 h1 h2
  have hs' := hs
  unfold sortE at hs'
  rw [← List.take_append_drop n (insE Es k x), List.pairwise_append] at hs'
  have hok : ∀ E ∈ insE Es k x, EOK G a b E := fun E hE => (insE_m.mp hE).elim (a3 E) (fun z => by rw [z]; exact hx)
  refine ⟨by rw [List.length_take]; omega, hs'.1, fun E hE => hok E (List.mem_of_mem_take hE), fun q hq => ?_⟩
  -- a part that stands in the longer row
  have hin : ∀ E, E ∈ insE Es k x → (∀ j, (insE Es k x)[j]? = some E → d ≤ j) → Pt G a b E.1 E.2.1 E.2.2 q → (∃ j E, d ≤ j ∧ ((insE Es k x).take n)[j]? = some E ∧ Pt G a b E.1 E.2.1 E.2.2 q) ∨ (((insE Es k x).take n).length = n ∧ ∀ E ∈ (insE Es k x).take n, wlt G E.1 q) := by
    intro E hE hj hP
    obtain ⟨j, hj1, hj2⟩ := List.getElem_of_mem hE
    have hjd := hj j (by rw [List.getElem?_eq_getElem hj1, hj2])
    by_cases hjn : j < n
    · left
      exact ⟨j, E, hjd, by rw [List.getElem?_take, if_pos hjn, List.getElem?_eq_getElem hj1, hj2], hP⟩
    · right
      have hEd : E ∈ (insE Es k x).drop n := by
        rw [List.mem_iff_getElem?]
        exact ⟨j - n, by rw [List.getElem?_drop, show n + (j - n) = j by omega, List.getElem?_eq_getElem hj1, hj2]⟩
      refine ⟨by rw [List.length_take]; omega, fun F hF => ?_⟩
      have hFE := hs'.2.2 F hF E hEd
      rcases (hok E hE).1.2 q hP with z | z
      · rw [z]; exact hFE
      · exact wlt_tr hFE z
  -- where an old one has gone
  have hold : ∀ j, j < k → (insE Es k x)[j]? = Es[j]? := by
    intro j hj
    unfold insE
    rw [List.getElem?_append_left (by rw [List.length_take]; omega), List.getElem?_take, if_pos hj]
  have hold2 : ∀ j, k ≤ j → (insE Es k x)[j + 1]? = Es[j]? := by
    intro j hj
    unfold insE
    have htl : (Es.take k).length = k := by rw [List.length_take]; omega
    rw [List.getElem?_append_right (by omega), htl, show j + 1 - k = (j - k) + 1 by omega, List.getElem?_cons_succ, List.getElem?_drop, show k + (j - k) = j by omega]
  have hnewAt : (insE Es k x)[k]? = some x := by
    unfold insE
    have htl : (Es.take k).length = k := by rw [List.length_take]; omega
    rw [List.getElem?_append_right (by omega), htl, Nat.sub_self]; rfl
  have huniq : ∀ (i j : Nat) (E : Ent), (insE Es k x)[i]? = some E → (insE Es k x)[j]? = some E → i = j := by
    intro i j E hi hj
    obtain ⟨i1, i2⟩ := List.getElem?_eq_some_iff.mp hi
    obtain ⟨j1, j2⟩ := List.getElem?_eq_some_iff.mp hj
    rcases Nat.lt_trichotomy i j with z | z | z
    · have := List.pairwise_iff_getElem.mp hs i j i1 j1 z
      rw [i2, j2] at this; exact (wlt_irr this).elim
    · exact z
    · have := List.pairwise_iff_getElem.mp hs j i j1 i1 z
      rw [i2, j2] at this; exact (wlt_irr this).elim
  rcases a4 q hq with ⟨j, E, j1, j2, j3⟩ | ⟨j, E, j1, j2, j3⟩ | ⟨z1, z2⟩ | z
  · left
    exact ⟨j, E, j1, by rw [List.getElem?_take, if_pos (by omega), hold j (by omega)]; exact j2, j3⟩
  · right
    have hat : ∃ i, d ≤ i ∧ (insE Es k x)[i]? = some E := by
      by_cases z : j < k
      · exact ⟨j, j1, by rw [hold j z]; exact j2⟩
      · exact ⟨j + 1, by omega, by rw [hold2 j (by omega)]; exact j2⟩
    obtain ⟨i, i1, i2⟩ := hat
    rcases hin E (List.mem_of_getElem? i2) (fun j' hj' => by rw [huniq j' i E hj' i2]; exact i1) j3 with w | w
    · exact Or.inl w
    · exact Or.inr (Or.inl w)
  · right; right; left
    refine ⟨by rw [List.length_take, insE_len]; omega, fun F hF => ?_⟩
    rcases insE_m.mp (List.mem_of_mem_take hF) with y | y
    · exact z2 F y
    · have hd1 : ((insE Es k x).drop n).length = 1 := by rw [List.length_drop, insE_len]; omega
      obtain ⟨l, hl⟩ := List.length_eq_one_iff.mp hd1
      have hlm : l ∈ (insE Es k x).drop n := by rw [hl]; exact List.mem_singleton.mpr rfl
      have hpl := hs'.2.2 F hF l hlm
      rcases insE_m.mp (List.mem_of_mem_drop hlm) with v | v
      · exact wlt_tr hpl (z2 l v)
      · rw [y, v] at hpl; exact (wlt_irr hpl).elim
  · rcases he q z with w | w
    · exact Or.inr (Or.inr (Or.inr w))
    · right
      rcases hin x (List.mem_of_getElem? hnewAt) (fun j' hj' => by rw [huniq j' k x hj' hnewAt]; exact hd) w with y | y
      · exact Or.inl y
      · exact Or.inr (Or.inl y)
def restP (G : GT) (a b : Nat) (E : Ent) (i : Nat) (q : List Nat) : Prop := Pt G a b E.1 E.2.1 E.2.2 q ∧ q.take i = E.1.take i ∧ q ≠ E.1
def barI (E : Ent) (i : Nat) : Nat → Bool := fun e => (decide (i = E.2.1) && E.2.2 e) || decide (E.1[i]? = some e)
/-- expanding a way: what is left falls into the part at i, or is left for later -/
theorem rest_s {G : GT} {a b i : Nat} {E : Ent} (hE : EOK G a b E) (hi : E.2.1 ≤ i) (hi2 : i < E.1.length) : ∀ q, restP G a b E i q → restP G a b E (i + 1) q ∨ Pt G a b E.1 i (barI E i) q := by
  intro q ⟨h1, h2, h3⟩
  by_cases z : q[i]? = E.1[i]?
  · left
    refine ⟨h1, ?_, h3⟩
    rw [List.take_add_one, List.take_add_one, h2, z]
  · right
    refine ⟨h1.1, h2, fun e he => ?_⟩
    unfold barI
    rw [Bool.or_eq_false_iff]
    refine ⟨?_, decide_eq_false (fun w => z (by rw [he, w]))⟩
    by_cases y : i = E.2.1
    · rw [h1.2.2 e (by rw [← y]; exact he), Bool.and_false]
    · rw [decide_eq_false y]; rfl
theorem rest_0 {G : GT} {a b d n : Nat} {Es : List Ent} {E : Ent} (h : RI G a b Es d n (fun _ => False)) (hE : Es[d]? = some E) : RI G a b Es (d + 1) n (restP G a b E E.2.1) := by
  refine ⟨h.1, h.2.1, h.2.2.1, fun q hq => ?_⟩
  rcases h.2.2.2 q hq with ⟨j, F, j1, j2, j3⟩ | ⟨j, F, j1, j2, j3⟩ | z | z
  · exact Or.inl ⟨j, F, by omega, j2, j3⟩
  · by_cases y : j = d
    · subst y
      rw [hE] at j2
      have := Option.some.inj j2
      subst this
      by_cases w : q = E.1
      · exact Or.inl ⟨j, E, by omega, hE, w⟩
      · exact Or.inr (Or.inr (Or.inr ⟨j3, j3.2.1, w⟩))
    · exact Or.inr (Or.inl ⟨j, F, by omega, j2, j3⟩)
  · exact Or.inr (Or.inr (Or.inl z))
  · exact z.elim
theorem rest_e {G : GT} {a b d n : Nat} {Es : List Ent} {E : Ent} (h : RI G a b Es d n (restP G a b E E.1.length)) (hE : EOK G a b E) : RI G a b Es d n (fun _ => False) := by
  refine ⟨h.1, h.2.1, h.2.2.1, fun q hq => ?_⟩
  rcases h.2.2.2 q hq with z | z | z | ⟨z1, z2, z3⟩
  · exact Or.inl z
  · exact Or.inr (Or.inl z)
  · exact Or.inr (Or.inr (Or.inl z))
  · rw [List.take_length] at z2
    exact absurd (SW_pre hE.1.1.1 z1.1 z2) z3
theorem RI_end {G : GT} {a b d n : Nat} {Es : List Ent} (h : RI G a b Es d n (fun _ => False)) (hd : Es.length ≤ d ∨ n ≤ d + 1) : LRow G (SW G (gl G) a b) (Es.map (fun E => E.1)) n := by
  obtain ⟨h1, h2, h3, h4⟩ := h
  refine ⟨List.pairwise_map.mpr h2, fun p hp => ?_, by rw [List.length_map]; exact h1, fun q hq => ?_⟩
  · obtain ⟨E, e1, e2⟩ := List.mem_map.mp hp
    rw [← e2]; exact (h3 E e1).1.1.1
  · rcases h4 q hq with ⟨j, F, j1, j2, j3⟩ | ⟨j, F, j1, j2, j3⟩ | ⟨z1, z2⟩ | z
    · left; rw [j3]; exact List.mem_map.mpr ⟨F, List.mem_of_getElem? j2, rfl⟩
    · obtain ⟨g1, g2⟩ := List.getElem?_eq_some_iff.mp j2
      rcases (h3 F (List.mem_of_getElem? j2)).1.2 q j3 with z | z
      · left; rw [z]; exact List.mem_map.mpr ⟨F, List.mem_of_getElem? j2, rfl⟩
      · right
        refine ⟨by rw [List.length_map]; omega, fun p hp => ?_⟩
        obtain ⟨E, e1, e2⟩ := List.mem_map.mp hp
        obtain ⟨i, i1, i2⟩ := List.getElem_of_mem e1
        rw [← e2]
        by_cases y : i = j
        · subst y
          rw [i2] at g2; rw [g2]; exact z
        · have := List.pairwise_iff_getElem.mp h2 i j i1 g1 (by omega)
          rw [i2, g2] at this
          exact wlt_tr this z
    · right
      refine ⟨by rw [List.length_map]; exact z1, fun p hp => ?_⟩
      obtain ⟨E, e1, e2⟩ := List.mem_map.mp hp
      rw [← e2]; exact z2 E e1
    · exact z.elim
