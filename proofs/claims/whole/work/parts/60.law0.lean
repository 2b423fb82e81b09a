-- ===== TWO MEMORIES side by side: the one side's, the other's =====
section TwoP
variable {D : va_G} {cl : List vw_C} {w1 w2 : va_W} {H : Heap} {A : Nat → Prop}
theorem ap_l {k : Nat} {q : Nat × va_E} (hk : w1[k]? = some q) : (w1 ++ w2)[k]? = some q := by
  rw [List.getElem?_append_left (List.getElem?_eq_some_iff.mp hk).1]
  exact hk
theorem ap_r {k : Nat} {q : Nat × va_E} (hk : w2[k]? = some q) : (w1 ++ w2)[w1.length + k]? = some q := by
  rw [List.getElem?_append_right (Nat.le_add_right _ _), Nat.add_sub_cancel_left]
  exact hk
theorem vP_l (h : va_P D cl (w1 ++ w2) H) : va_P D cl w1 H := fun k q hk => h k q (ap_l hk)
theorem vP_r (h : va_P D cl (w1 ++ w2) H) : va_P D cl w2 H := fun _ q hk => h _ q (ap_r hk)
theorem vD_l (h : va_D A (w1 ++ w2)) : va_D A w1 := ⟨fun i j p q hi hj he => h.1 i j p q (ap_l hi) (ap_l hj) he, fun k q hk => h.2 k q (ap_l hk)⟩
theorem vD_r (h : va_D A (w1 ++ w2)) : va_D A w2 := ⟨fun i j p q hi hj he => by
  have := h.1 _ _ p q (ap_r hi) (ap_r hj) he
  omega, fun _ q hk => h.2 _ q (ap_r hk)⟩
theorem vD_x (h : va_D A (w1 ++ w2)) {i j : Nat} {p q : Nat × va_E} (hi : w1[i]? = some p) (hj : w2[j]? = some q) : p.1 ≠ q.1 := by
  intro he
  have h1 := h.1 _ _ p q (ap_l hi) (ap_r hj) he
  have h2 := (List.getElem?_eq_some_iff.mp hi).1
  omega
end TwoP
def m2 (D : va_G) (cl : List vw_C) (tys : List (Nat × FieldType)) (A : Nat → Prop) (s : State) (n1 : Nat) (tb1 : Nat → mK) (ad1 : Nat → Nat) (σ1 : mS) (n2 : Nat) (tb2 : Nat → mK) (ad2 : Nat → Nat) (σ2 : mS) (H : Heap) (locs : List Loc) : Prop :=
  va_K D cl tys s ∧ va_P D cl (wd n1 tb1 ad1 σ1 ++ wd n2 tb2 ad2 σ2) H ∧ va_D A (wd n1 tb1 ad1 σ1 ++ wd n2 tb2 ad2 σ2) ∧ va_S A s.heap H locs
section Two
variable {p : Program} {l : Launch} {e : Env} {R : Room} {s : State} {m : MethodId} {args : Array Value} {below : List Frame} {meth : Method} {c : Code} {H H1 : Heap} {locs locs1 : List Loc} {cells slots : Nat} {Q : State → Prop}
variable {cc : ByteArray} {pc nL : Nat} {ls : Array Slot} {rest st : List Value} {D : va_G} {cl : List vw_C} {tys : List (Nat × FieldType)} {Ts : List Cond} {own : String} {n n1 n2 : Nat} {tb tb1 tb2 : Nat → mK} {ad ad1 ad2 : Nat → Nat} {σ σ1 σ2 τ : mS} {A : Nat → Prop}
variable {β : Type} {r : β} {y : MethodName} {bytes : ByteArray} {maxL na index ci k N : Nat} {ret : Option FieldType} {ws : List Cond} {rm : Room} {Qc : Array Value → State → Outcome → State → Prop} {C : String} {As : List Value} {T : u_T} {ty : Nat → FieldType} {ts : List Nat} {a : Array Value}
theorem m2_1 (M : m2 D cl tys A s n1 tb1 ad1 σ1 n2 tb2 ad2 σ2 H locs) : mM D cl tys A s n1 tb1 ad1 σ1 H locs := ⟨M.1, vP_l M.2.1, vD_l M.2.2.1, M.2.2.2⟩
theorem m2_2 (M : m2 D cl tys A s n1 tb1 ad1 σ1 n2 tb2 ad2 σ2 H locs) : mM D cl tys A s n2 tb2 ad2 σ2 H locs := ⟨M.1, vP_r M.2.1, vD_r M.2.2.1, M.2.2.2⟩
theorem m2_j1 (M : m2 D cl tys A s n1 tb1 ad1 σ1 n2 tb2 ad2 σ2 H locs) (hA : ∀ q, s.heap.size ≤ q → A q) (hP : va_P D cl (wd n1 tb1 ad1 τ) H1) (hD : va_D (mA n1 ad1 H.size) (wd n1 tb1 ad1 τ)) (hk : ∀ q, q < H.size → ¬ mA n1 ad1 H.size q → H1[q]? = H[q]?) (hS : va_S A s.heap H1 locs1) : m2 D cl tys A s n1 tb1 ad1 τ n2 tb2 ad2 σ2 H1 locs1 := by
  refine ⟨M.1, va_P.app hP (fun k q hq => ?_), va_D.app (hD.weaken fun _ _ _ h => m_inA (m2_1 M) hA _ h) (vD_r M.2.2.1) (fun i j x z hi hj => ?_), hS⟩
  · have h1 := vP_r M.2.1 k q hq
    refine h1.kept (hk q.1 h1.lt (fun hm => ?_))
    rcases hm with ⟨j, hj, he⟩ | hm
    · exact vD_x M.2.2.1 (wd_get hj rfl) hq he.symm
    · exact absurd h1.lt (Nat.not_lt.mpr hm)
  · obtain ⟨hi2, hx⟩ := wd_of hi
    subst hx
    exact vD_x (p := (ad1 i, mE ad1 σ1 i (tb1 i))) M.2.2.1 (wd_get hi2 rfl) hj
theorem m2_j2 (M : m2 D cl tys A s n1 tb1 ad1 σ1 n2 tb2 ad2 σ2 H locs) (hA : ∀ q, s.heap.size ≤ q → A q) (hP : va_P D cl (wd n2 tb2 ad2 τ) H1) (hD : va_D (mA n2 ad2 H.size) (wd n2 tb2 ad2 τ)) (hk : ∀ q, q < H.size → ¬ mA n2 ad2 H.size q → H1[q]? = H[q]?) (hS : va_S A s.heap H1 locs1) : m2 D cl tys A s n1 tb1 ad1 σ1 n2 tb2 ad2 τ H1 locs1 := by
  refine ⟨M.1, va_P.app (fun k q hq => ?_) hP, va_D.app (vD_l M.2.2.1) (hD.weaken fun _ _ _ h => m_inA (m2_2 M) hA _ h) (fun i j x z hi hj => ?_), hS⟩
  · have h1 := vP_l M.2.1 k q hq
    refine h1.kept (hk q.1 h1.lt (fun hm => ?_))
    rcases hm with ⟨j, hj, he⟩ | hm
    · exact vD_x M.2.2.1 hq (wd_get hj rfl) he
    · exact absurd h1.lt (Nat.not_lt.mpr hm)
  · obtain ⟨hj2, hx⟩ := wd_of hj
    subst hx
    exact vD_x (q := (ad2 j, mE ad2 σ2 j (tb2 j))) M.2.2.1 hi (wd_get hj2 rfl)
theorem m_rVA (S : CallFix p m c cc nL s args Ts own) (M : mM D cl tys A s n tb ad σ H locs) (hl : ls.size = nL) (cw : CallW R s args own C index y bytes maxL ret ws rm 0 0 na) (hC : mC Ts cl ci C T N ty) (hk : k < n) (ht : tb k = .inr (ci, ts)) (hM : Met l y ws rm (va_Pc (.ref (ad k) :: As) (mPre D cl tys n tb ad σ H.size)) Qc 0 0 (mA n ad H.size)) (hn : As.length = na) (hst : st = As.reverse ++ .ref (ad k) :: rest) (hrm : (rest.map fun v => v.category).sum ≤ 8) (hdg : decode cc pc = .ok (.invokevirtual index, 3)) (hcs : cells ≤ R.cells ∧ slots ≤ R.slots) :
    va_Run p l e R s m args below meth c H locs cells slots 0 0 (F0 m pc ls st) rest (Qc (Value.ref (ad k) :: As).toArray) (mA n ad H.size) :=
  va_runV S hM cw ⟨mPre_blind, va_recv M.1 M.2.1 hC.2.1 (wd_get hk ht), fun U hU hW => ⟨rfl, by rw [hU], by rw [hU]; exact M.2.1, va_K.moved hW.alike M.1, M.2.2.1.weaken (fun _ _ _ _ => trivial)⟩⟩ rfl hn hl hst (lv_room hrm) hdg hcs
theorem m2_x1 {x : Option (Int32 × mS)} {f : Int32 × mS → Option β} (h : x.bind f = some r) (hr : ∀ o, x = some o → va_Run p l e R s m args below meth c H locs cells slots 0 0 (F0 m pc ls st) rest (mQi D cl tys n1 tb1 ad1 o H.size a) (mA n1 ad1 H.size)) (M : m2 D cl tys A s n1 tb1 ad1 σ1 n2 tb2 ad2 σ2 H locs) (hA : ∀ q, s.heap.size ≤ q → A q)
    (kk : ∀ (o : Int32 × mS) (H1 : Heap) (locs1 : List Loc), f o = some r → m2 D cl tys A s n1 tb1 ad1 o.2 n2 tb2 ad2 σ2 H1 locs1 → W p l e R s m args below meth c H1 locs1 cells slots Q (F0 m (pc + 3) ls (.int o.1 :: rest))) : W p l e R s m args below meth c H locs cells slots Q (F0 m pc ls st) := by
  obtain ⟨o, ho, hf⟩ := Option.bind_eq_some_iff.mp h
  refine va_calli (hr o ho) M.2.2.2 (fun q _ h => m_inA (m2_1 M) hA q h) (fun q h => m_inA (m2_1 M) hA q h) (fun r u t H1 locs1 ht hvm hw hB hz hk hS => ?_)
  have hw : r = o.1 := hw
  subst hw
  exact kk o H1 locs1 hf (m2_j1 M hA (by rw [← ht]; exact hB.1) hB.2.2 hk hS)
theorem m2_x2 {x : Option (Int32 × mS)} {f : Int32 × mS → Option β} (h : x.bind f = some r) (hr : ∀ o, x = some o → va_Run p l e R s m args below meth c H locs cells slots 0 0 (F0 m pc ls st) rest (mQi D cl tys n2 tb2 ad2 o H.size a) (mA n2 ad2 H.size)) (M : m2 D cl tys A s n1 tb1 ad1 σ1 n2 tb2 ad2 σ2 H locs) (hA : ∀ q, s.heap.size ≤ q → A q)
    (kk : ∀ (o : Int32 × mS) (H1 : Heap) (locs1 : List Loc), f o = some r → m2 D cl tys A s n1 tb1 ad1 σ1 n2 tb2 ad2 o.2 H1 locs1 → W p l e R s m args below meth c H1 locs1 cells slots Q (F0 m (pc + 3) ls (.int o.1 :: rest))) : W p l e R s m args below meth c H locs cells slots Q (F0 m pc ls st) := by
  obtain ⟨o, ho, hf⟩ := Option.bind_eq_some_iff.mp h
  refine va_calli (hr o ho) M.2.2.2 (fun q _ h => m_inA (m2_2 M) hA q h) (fun q h => m_inA (m2_2 M) hA q h) (fun r u t H1 locs1 ht hvm hw hB hz hk hS => ?_)
  have hw : r = o.1 := hw
  subst hw
  exact kk o H1 locs1 hf (m2_j2 M hA (by rw [← ht]; exact hB.1) hB.2.2 hk hS)
theorem m2_p1 {x : Option Int32} {f : Int32 → Option β} (h : x.bind f = some r) (hr : ∀ o, x = some o → va_Run p l e R s m args below meth c H locs cells slots 0 0 (F0 m pc ls st) rest (mQi D cl tys n1 tb1 ad1 (o, σ1) H.size a) (mA n1 ad1 H.size)) (M : m2 D cl tys A s n1 tb1 ad1 σ1 n2 tb2 ad2 σ2 H locs) (hA : ∀ q, s.heap.size ≤ q → A q)
    (kk : ∀ (o : Int32) (H1 : Heap) (locs1 : List Loc), f o = some r → m2 D cl tys A s n1 tb1 ad1 σ1 n2 tb2 ad2 σ2 H1 locs1 → W p l e R s m args below meth c H1 locs1 cells slots Q (F0 m (pc + 3) ls (.int o :: rest))) : W p l e R s m args below meth c H locs cells slots Q (F0 m pc ls st) := by
  obtain ⟨o, ho, hf⟩ := Option.bind_eq_some_iff.mp h
  refine va_calli (hr o ho) M.2.2.2 (fun q _ h => m_inA (m2_1 M) hA q h) (fun q h => m_inA (m2_1 M) hA q h) (fun r u t H1 locs1 ht hvm hw hB hz hk hS => ?_)
  have hw : r = o := hw
  subst hw
  exact kk r H1 locs1 hf (m2_j1 M hA (by rw [← ht]; exact hB.1) hB.2.2 hk hS)
theorem m2_p2 {x : Option Int32} {f : Int32 → Option β} (h : x.bind f = some r) (hr : ∀ o, x = some o → va_Run p l e R s m args below meth c H locs cells slots 0 0 (F0 m pc ls st) rest (mQi D cl tys n2 tb2 ad2 (o, σ2) H.size a) (mA n2 ad2 H.size)) (M : m2 D cl tys A s n1 tb1 ad1 σ1 n2 tb2 ad2 σ2 H locs) (hA : ∀ q, s.heap.size ≤ q → A q)
    (kk : ∀ (o : Int32) (H1 : Heap) (locs1 : List Loc), f o = some r → m2 D cl tys A s n1 tb1 ad1 σ1 n2 tb2 ad2 σ2 H1 locs1 → W p l e R s m args below meth c H1 locs1 cells slots Q (F0 m (pc + 3) ls (.int o :: rest))) : W p l e R s m args below meth c H locs cells slots Q (F0 m pc ls st) := by
  obtain ⟨o, ho, hf⟩ := Option.bind_eq_some_iff.mp h
  refine va_calli (hr o ho) M.2.2.2 (fun q _ h => m_inA (m2_2 M) hA q h) (fun q h => m_inA (m2_2 M) hA q h) (fun r u t H1 locs1 ht hvm hw hB hz hk hS => ?_)
  have hw : r = o := hw
  subst hw
  exact kk r H1 locs1 hf (m2_j2 M hA (by rw [← ht]; exact hB.1) hB.2.2 hk hS)
end Two
