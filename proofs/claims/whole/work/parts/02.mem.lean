-- ===== TYPED MEMORY: components 0, 1, .. at the addresses ad 0, ad 1, ..; kinds in tb; contents in σ =====
/-- a kind: an array (0 ints, 1 longs, 2 references; its length; its class), or an object (its class's number, its slots: 0 int, 1 long, 2 a reference that may change, t + 3 the component t for good) -/
abbrev mK : Type := (Nat × Nat × Nat) ⊕ (Nat × List Nat)
abbrev mS : Type := (Nat → Nat → Int32) × (Nat → Nat → Int64) × (Nat → Nat → Option Nat)
def mV (ad : Nat → Nat) (σ : mS) (k j : Nat) (t : Nat) : Value := match t with
  | 0 => .int (σ.1 k j)
  | 1 => .long (σ.2.1 k j)
  | 2 => va_rf ((σ.2.2 k j).map ad)
  | t + 3 => .ref (ad t)
def mE (ad : Nat → Nat) (σ : mS) (k : Nat) (K : mK) : va_E := match K with
  | .inl (0, n, cA) => .inl (cA, n, .inl (σ.1 k))
  | .inl (1, n, cA) => .inl (cA, n, .inr (.inl (σ.2.1 k)))
  | .inl (_ + 2, n, cA) => .inl (cA, n, .inr (.inr (.inr (.inr (fun x => (σ.2.2 k x).map ad)))))
  | .inr (ci, ts) => .inr (ci, ts.mapIdx (fun j t => mV ad σ k j t))
def wd (n : Nat) (tb : Nat → mK) (ad : Nat → Nat) (σ : mS) : va_W := (List.range n).map (fun k => (ad k, mE ad σ k (tb k)))
theorem wd_get {n k : Nat} {tb : Nat → mK} {ad : Nat → Nat} {σ : mS} {K : mK} (h : k < n) (ht : tb k = K) : (wd n tb ad σ)[k]? = some (ad k, mE ad σ k K) := by
  subst ht
  simp [wd, List.getElem?_map, List.getElem?_range h]
theorem wd_of {n k : Nat} {tb : Nat → mK} {ad : Nat → Nat} {σ : mS} {q : Nat × va_E} (h : (wd n tb ad σ)[k]? = some q) : k < n ∧ q = (ad k, mE ad σ k (tb k)) := by
  by_cases hk : k < n
  · rw [wd_get hk rfl] at h
    exact ⟨hk, (Option.some.inj h).symm⟩
  · simp [wd, List.getElem?_map, hk] at h
def up2 {α : Type} (f : Nat → Nat → α) (k j : Nat) (v : α) : Nat → Nat → α := fun a b => if a = k then (if b = j then v else f a b) else f a b
theorem up2_o {α : Type} {f : Nat → Nat → α} {k j i : Nat} {v : α} (h : i ≠ k) : up2 f k j v i = f i := by
  funext b
  simp [up2, h]
theorem up2_s {α : Type} {f : Nat → Nat → α} {k j : Nat} {v : α} : up2 f k j v k = fun b => if b = j then v else f k b := by
  funext b
  simp [up2]
def sI (σ : mS) (k j : Nat) (v : Int32) : mS := (up2 σ.1 k j v, σ.2)
def sJ (σ : mS) (k j : Nat) (v : Int64) : mS := (σ.1, up2 σ.2.1 k j v, σ.2.2)
def sQ (σ : mS) (k j : Nat) (v : Option Nat) : mS := (σ.1, σ.2.1, up2 σ.2.2 k j v)
theorem mV_c {ad : Nat → Nat} {σ σ' : mS} {k j t : Nat} (h1 : σ'.1 k = σ.1 k) (h2 : σ'.2.1 k = σ.2.1 k) (h3 : σ'.2.2 k = σ.2.2 k) : mV ad σ' k j t = mV ad σ k j t := by
  unfold mV
  rw [h1, h2, h3]
theorem mE_c {ad : Nat → Nat} {σ σ' : mS} {k : Nat} {K : mK} (h1 : σ'.1 k = σ.1 k) (h2 : σ'.2.1 k = σ.2.1 k) (h3 : σ'.2.2 k = σ.2.2 k) : mE ad σ' k K = mE ad σ k K := by
  unfold mE
  simp only [h1, h2, h3, mV_c h1 h2 h3]
theorem wd_set {n k : Nat} {tb : Nat → mK} {ad : Nat → Nat} {σ σ' : mS} {K : mK} (hk : k < n) (ht : tb k = K) (h : ∀ i, i ≠ k → σ'.1 i = σ.1 i ∧ σ'.2.1 i = σ.2.1 i ∧ σ'.2.2 i = σ.2.2 i) : (wd n tb ad σ).set k (ad k, mE ad σ' k K) = wd n tb ad σ' := by
  subst ht
  apply List.ext_getElem?
  intro i
  by_cases hi : i = k
  · subst hi
    rw [List.getElem?_set_self (by simp [wd]; exact hk), wd_get hk rfl]
  · rw [List.getElem?_set_ne (Ne.symm hi)]
    by_cases hn : i < n
    · rw [wd_get hn rfl, wd_get hn rfl, mE_c (h i hi).1 (h i hi).2.1 (h i hi).2.2]
    · simp [wd, List.getElem?_map, hn]
/-- the memory as it stands in a method: the tables, the cells, apart and in A, nothing else written -/
def mM (D : va_G) (cl : List vw_C) (tys : List (Nat × FieldType)) (A : Nat → Prop) (s : State) (n : Nat) (tb : Nat → mK) (ad : Nat → Nat) (σ : mS) (H : Heap) (locs : List Loc) : Prop :=
  va_K D cl tys s ∧ va_P D cl (wd n tb ad σ) H ∧ va_D A (wd n tb ad σ) ∧ va_S A s.heap H locs
-- ===== PURE WORDS of the decompiled methods =====
def gd {α : Type} (b : Bool) (x : Option α) : Option α := match b with
  | true => x
  | false => none
theorem gd_s {α : Type} {b : Bool} {x : Option α} {r : α} (h : gd b x = some r) : b = true ∧ x = some r := by
  cases b with
  | true => exact ⟨rfl, h⟩
  | false => exact absurd h (by simp [gd])
def nm {α β : Type} (v : α) (f : α → Option β) : Option β := f v
def inb (i : Int32) (n : Nat) : Bool := decide (0 ≤ i.toInt ∧ i.toInt < n)
theorem inb_in {i : Int32} {n : Nat} (h : inb i n = true) : vp_in i n := vp_in_iff.mpr (of_decide_eq_true h)
def isB (v : Int32) : Bool := decide (v = 0 ∨ v = 1)
def isN (v : Int32) : Bool := decide (¬ v = 0)
def isNl (v : Int64) : Bool := decide (¬ v = 0)
def lpN {S X : Type} (st : S → Option (S ⊕ X)) : Nat → S → Option X
  | 0, _ => none
  | k + 1, s => match st s with
    | none => none
    | some (.inl s') => lpN st k s'
    | some (.inr x) => some x
theorem lpN_W {S X : Type} {st : S → Option (S ⊕ X)} (P : S → Prop) (Qx : X → Prop) (hs : ∀ s o, st s = some o → Sum.elim P Qx o → P s) : ∀ (n : Nat) (s : S) (x : X), lpN st n s = some x → Qx x → P s := by
  intro n
  induction n with
  | zero => intro s x h _; exact absurd h (by simp [lpN])
  | succ k ih =>
    intro s x h hq
    cases e : st s with
    | none => rw [lpN, e] at h; exact absurd h (by simp)
    | some o =>
      cases o with
      | inl s' =>
        rw [lpN, e] at h
        exact hs s _ e (ih s' x h hq)
      | inr x' =>
        rw [lpN, e] at h
        have hx : x' = x := Option.some.inj h
        subst hx
        exact hs s _ e hq
-- ===== contracts over the memory =====
def mPre (D : va_G) (cl : List vw_C) (tys : List (Nat × FieldType)) (n : Nat) (tb : Nat → mK) (ad : Nat → Nat) (σ : mS) (sz : Nat) : State → Prop := fun U => U.heap.size = sz ∧ va_P D cl (wd n tb ad σ) U.heap ∧ va_K D cl tys U ∧ va_D (fun _ => True) (wd n tb ad σ)
def mA (n : Nat) (ad : Nat → Nat) (sz : Nat) : Nat → Prop := fun q => (∃ k, k < n ∧ q = ad k) ∨ sz ≤ q
def mB (D : va_G) (cl : List vw_C) (tys : List (Nat × FieldType)) (A : Nat → Prop) (n : Nat) (tb : Nat → mK) (ad : Nat → Nat) (σ : mS) : State → Prop := fun t => va_P D cl (wd n tb ad σ) t.heap ∧ va_K D cl tys t ∧ va_D A (wd n tb ad σ)
def mQi (D : va_G) (cl : List vw_C) (tys : List (Nat × FieldType)) (n : Nat) (tb : Nat → mK) (ad : Nat → Nat) (o : Int32 × mS) (sz : Nat) : Array Value → State → Outcome → State → Prop := va_Qi (fun r (_ : Unit) => r = o.1) (fun _ => mB D cl tys (mA n ad sz) n tb ad o.2) (mA n ad sz)
def mQl (D : va_G) (cl : List vw_C) (tys : List (Nat × FieldType)) (n : Nat) (tb : Nat → mK) (ad : Nat → Nat) (o : Int64 × mS) (sz : Nat) : Array Value → State → Outcome → State → Prop := va_Ql (fun r (_ : Unit) => r = o.1) (fun _ => mB D cl tys (mA n ad sz) n tb ad o.2) (mA n ad sz)
def mQv (D : va_G) (cl : List vw_C) (tys : List (Nat × FieldType)) (n : Nat) (tb : Nat → mK) (ad : Nat → Nat) (o : mS) (sz : Nat) : Array Value → State → Outcome → State → Prop := va_Qv (fun (_ : Unit) => True) (fun _ => mB D cl tys (mA n ad sz) n tb ad o) (mA n ad sz)
def mCi (l : Launch) (y : MethodName) (ws : List Cond) (rm : Room) (D : va_G) (cl : List vw_C) (tys : List (Nat × FieldType)) (n : Nat) (tb : Nat → mK) (ad : Nat → Nat) (σ : mS) (av : List Value) (o : Int32 × mS) : Prop :=
  ∀ sz, Met l y ws rm (va_Pc av (mPre D cl tys n tb ad σ sz)) (mQi D cl tys n tb ad o sz) 0 0 (mA n ad sz)
def mCl (l : Launch) (y : MethodName) (ws : List Cond) (rm : Room) (D : va_G) (cl : List vw_C) (tys : List (Nat × FieldType)) (n : Nat) (tb : Nat → mK) (ad : Nat → Nat) (σ : mS) (av : List Value) (o : Int64 × mS) : Prop :=
  ∀ sz, Met l y ws rm (va_Pc av (mPre D cl tys n tb ad σ sz)) (mQl D cl tys n tb ad o sz) 0 0 (mA n ad sz)
def mCv (l : Launch) (y : MethodName) (ws : List Cond) (rm : Room) (D : va_G) (cl : List vw_C) (tys : List (Nat × FieldType)) (n : Nat) (tb : Nat → mK) (ad : Nat → Nat) (σ : mS) (av : List Value) (o : mS) : Prop :=
  ∀ sz, Met l y ws rm (va_Pc av (mPre D cl tys n tb ad σ sz)) (mQv D cl tys n tb ad o sz) 0 0 (mA n ad sz)
theorem mPre_blind {D : va_G} {cl : List vw_C} {tys : List (Nat × FieldType)} {n : Nat} {tb : Nat → mK} {ad : Nat → Nat} {σ : mS} {sz : Nat} {av : List Value} : FrameBlind (va_Pc av (mPre D cl tys n tb ad σ sz)) := by
  intro a U g mk q
  obtain ⟨q0, q1, qP, qK, qD⟩ := q
  exact ⟨q0, q1, qP, va_K.moved (u := U) (U := U.calling g mk a) (Vm.Alike.refl U.vm) qK, qD⟩
theorem mA_up {n : Nat} {ad : Nat → Nat} {a b : Nat} (h : a ≤ b) {q : Nat} (hq : mA n ad b q) : mA n ad a q := by
  rcases hq with hq | hq
  · exact Or.inl hq
  · exact Or.inr (Nat.le_trans h hq)
theorem mD_self {A : Nat → Prop} {n : Nat} {tb : Nat → mK} {ad : Nat → Nat} {σ : mS} {sz : Nat} (h : va_D A (wd n tb ad σ)) : va_D (mA n ad sz) (wd n tb ad σ) := by
  refine ⟨h.1, fun k q hk => ?_⟩
  obtain ⟨hl, rfl⟩ := wd_of hk
  exact Or.inl ⟨k, hl, rfl⟩
/-- the words of a class: its fields' tables, its number, its types, its names apart -/
def mC (Ts : List Cond) (cl : List vw_C) (ci : Nat) (C : String) (T : u_T) (N : Nat) (ty : Nat → FieldType) : Prop :=
  (∀ w ∈ u_ws C T N, w ∈ Ts) ∧ cl[ci]? = some (C, T, N) ∧ (∀ k, k < N → parseFieldDescriptor (T k).2.2.1 = some (ty k)) ∧ ∀ a, a < N → ∀ b, b < N → a ≠ b → (T a).2.1 ≠ (T b).2.1
section MR
variable {p : Program} {l : Launch} {e : Env} {R : Room} {s : State} {m : MethodId} {args : Array Value} {below : List Frame} {meth : Method} {c : Code} {H : Heap} {locs : List Loc} {cells slots : Nat} {Q : State → Prop}
variable {cc : ByteArray} {pc nL : Nat} {ls : Array Slot} {rest : List Value} {D : va_G} {cl : List vw_C} {A : Nat → Prop} {tys : List (Nat × FieldType)} {Ts : List Cond} {own : String} {n : Nat} {tb : Nat → mK} {ad : Nat → Nat} {σ : mS}
variable {β : Type} {r : β}
-- naming what lies on top
theorem m_ni {v : Int32} {f : Int32 → Option β} (h : nm v f = some r) (kk : ∀ y : Int32, f y = some r → W p l e R s m args below meth c H locs cells slots Q (F0 m pc ls (.int y :: rest))) : W p l e R s m args below meth c H locs cells slots Q (F0 m pc ls (.int v :: rest)) := kk v h
theorem m_nl {v : Int64} {f : Int64 → Option β} (h : nm v f = some r) (kk : ∀ y : Int64, f y = some r → W p l e R s m args below meth c H locs cells slots Q (F0 m pc ls (.long y :: rest))) : W p l e R s m args below meth c H locs cells slots Q (F0 m pc ls (.long v :: rest)) := kk v h
-- reading fields
theorem m_gi {ref C : String} {T : u_T} {N ci index k j : Nat} {ty : Nat → FieldType} {ts : List Nat} (S : CallFix p m c cc nL s args Ts own) (M : mM D cl tys A s n tb ad σ H locs) (hC : mC Ts cl ci C T N ty) (hk : k < n) (ht : tb k = .inr (ci, ts)) (hj : j < N) (h0 : ts[j]? = some 0) (hlink : Cond.fieldLink own index ref (T j).2.1 (T j).2.2.1 ∈ Ts) (hr : (T j).1 = ref) (hdg : decode cc pc = .ok (.getfield index, 3))
    (kk : W p l e R s m args below meth c H locs cells slots Q (F0 m (pc + 3) ls (.int (σ.1 k j) :: rest))) : W p l e R s m args below meth c H locs cells slots Q (F0 m pc ls (.ref (ad k) :: rest)) :=
  va_get S.1 S.2.1 S.2.2.2.2 hC.1 S.2.2.2.1 M.1 M.2.1 k (wd_get hk ht) hC.2.1 j hj (S.2.2.2.2 _ hlink) (fun x hx => by rw [← hr]; exact hx) (v := .int (σ.1 k j)) (by simp [List.getElem?_mapIdx, h0, mV]) hdg kk
theorem m_gl {ref C : String} {T : u_T} {N ci index k j : Nat} {ty : Nat → FieldType} {ts : List Nat} (S : CallFix p m c cc nL s args Ts own) (M : mM D cl tys A s n tb ad σ H locs) (hC : mC Ts cl ci C T N ty) (hk : k < n) (ht : tb k = .inr (ci, ts)) (hj : j < N) (h0 : ts[j]? = some 1) (hlink : Cond.fieldLink own index ref (T j).2.1 (T j).2.2.1 ∈ Ts) (hr : (T j).1 = ref) (hdg : decode cc pc = .ok (.getfield index, 3))
    (kk : W p l e R s m args below meth c H locs cells slots Q (F0 m (pc + 3) ls (.long (σ.2.1 k j) :: rest))) : W p l e R s m args below meth c H locs cells slots Q (F0 m pc ls (.ref (ad k) :: rest)) :=
  va_get S.1 S.2.1 S.2.2.2.2 hC.1 S.2.2.2.1 M.1 M.2.1 k (wd_get hk ht) hC.2.1 j hj (S.2.2.2.2 _ hlink) (fun x hx => by rw [← hr]; exact hx) (v := .long (σ.2.1 k j)) (by simp [List.getElem?_mapIdx, h0, mV]) hdg kk
theorem m_gs {ref C : String} {T : u_T} {N ci index k j t : Nat} {ty : Nat → FieldType} {ts : List Nat} (S : CallFix p m c cc nL s args Ts own) (M : mM D cl tys A s n tb ad σ H locs) (hC : mC Ts cl ci C T N ty) (hk : k < n) (ht : tb k = .inr (ci, ts)) (hj : j < N) (h0 : ts[j]? = some (t + 3)) (hlink : Cond.fieldLink own index ref (T j).2.1 (T j).2.2.1 ∈ Ts) (hr : (T j).1 = ref) (hdg : decode cc pc = .ok (.getfield index, 3))
    (kk : W p l e R s m args below meth c H locs cells slots Q (F0 m (pc + 3) ls (.ref (ad t) :: rest))) : W p l e R s m args below meth c H locs cells slots Q (F0 m pc ls (.ref (ad k) :: rest)) :=
  va_get S.1 S.2.1 S.2.2.2.2 hC.1 S.2.2.2.1 M.1 M.2.1 k (wd_get hk ht) hC.2.1 j hj (S.2.2.2.2 _ hlink) (fun x hx => by rw [← hr]; exact hx) (v := .ref (ad t)) (by simp [List.getElem?_mapIdx, h0, mV]) hdg kk
-- the same of a nest mate's private field
theorem m_giN {ref C host : String} {T : u_T} {N ci index k j : Nat} {ty : Nat → FieldType} {ts : List Nat} (S : CallFix p m c cc nL s args Ts own) (M : mM D cl tys A s n tb ad σ H locs) (hC : mC Ts cl ci C T N ty) (hk : k < n) (ht : tb k = .inr (ci, ts)) (hj : j < N) (h0 : ts[j]? = some 0) (hlink : Cond.fieldLinkNest own index ref (T j).2.1 (T j).2.2.1 host ∈ Ts) (hr : (T j).1 = ref) (hdg : decode cc pc = .ok (.getfield index, 3))
    (kk : W p l e R s m args below meth c H locs cells slots Q (F0 m (pc + 3) ls (.int (σ.1 k j) :: rest))) : W p l e R s m args below meth c H locs cells slots Q (F0 m pc ls (.ref (ad k) :: rest)) :=
  va_getN S.1 S.2.1 S.2.2.2.2 hC.1 S.2.2.2.1 M.1 M.2.1 k (wd_get hk ht) hC.2.1 j hj (S.2.2.2.2 _ hlink) (fun x hx => by rw [← hr]; exact hx) (v := .int (σ.1 k j)) (by simp [List.getElem?_mapIdx, h0, mV]) hdg kk
-- writing fields
theorem m_obj {ci k j : Nat} {ts : List Nat} {σ' : mS} {v : Value} (h1 : ∀ i t, ts[i]? = some t → i ≠ j → mV ad σ' k i t = mV ad σ k i t) (h2 : ∀ t, ts[j]? = some t → mV ad σ' k j t = v) : mE ad σ' k (.inr (ci, ts)) = .inr (ci, (ts.mapIdx (fun j t => mV ad σ k j t)).set j v) := by
  have e : ts.mapIdx (fun j t => mV ad σ' k j t) = (ts.mapIdx (fun j t => mV ad σ k j t)).set j v := by
    apply List.ext_getElem?
    intro i
    by_cases hi : i = j
    · subst hi
      by_cases hl : i < ts.length
      · rw [List.getElem?_set_self (by simpa using hl)]
        simp [List.getElem?_mapIdx, List.getElem?_eq_getElem hl, h2 _ (List.getElem?_eq_getElem hl)]
      · simp [List.getElem?_mapIdx, List.getElem?_eq_none (Nat.not_lt.mp hl)]
        omega
    · rw [List.getElem?_set_ne (Ne.symm hi)]
      by_cases hl : i < ts.length
      · simp [List.getElem?_mapIdx, List.getElem?_eq_getElem hl, h1 i _ (List.getElem?_eq_getElem hl) hi]
      · simp [List.getElem?_mapIdx, List.getElem?_eq_none (Nat.not_lt.mp hl)]
  show (Sum.inr (ci, ts.mapIdx (fun j t => mV ad σ' k j t)) : va_E) = _
  rw [e]
theorem m_objI {ci k j : Nat} {ts : List Nat} {v : Int32} (h0 : ts[j]? = some 0) : mE ad (sI σ k j v) k (.inr (ci, ts)) = .inr (ci, (ts.mapIdx (fun j t => mV ad σ k j t)).set j (.int v)) := by
  refine m_obj (fun i t _ hi => ?_) (fun t ht => ?_)
  · match t with
    | 0 => simp [mV, sI, up2, hi]
    | 1 => rfl
    | 2 => rfl
    | t + 3 => rfl
  · have : t = 0 := Option.some.inj (ht.symm.trans h0)
    subst this
    simp [mV, sI, up2]
theorem m_objJ {ci k j : Nat} {ts : List Nat} {v : Int64} (h0 : ts[j]? = some 1) : mE ad (sJ σ k j v) k (.inr (ci, ts)) = .inr (ci, (ts.mapIdx (fun j t => mV ad σ k j t)).set j (.long v)) := by
  refine m_obj (fun i t _ hi => ?_) (fun t ht => ?_)
  · match t with
    | 0 => rfl
    | 1 => simp [mV, sJ, up2, hi]
    | 2 => rfl
    | t + 3 => rfl
  · have : t = 1 := Option.some.inj (ht.symm.trans h0)
    subst this
    simp [mV, sJ, up2]
theorem sI_o {k j : Nat} {v : Int32} : ∀ i, i ≠ k → (sI σ k j v).1 i = σ.1 i ∧ (sI σ k j v).2.1 i = σ.2.1 i ∧ (sI σ k j v).2.2 i = σ.2.2 i := fun _ hi => ⟨up2_o hi, rfl, rfl⟩
theorem sJ_o {k j : Nat} {v : Int64} : ∀ i, i ≠ k → (sJ σ k j v).1 i = σ.1 i ∧ (sJ σ k j v).2.1 i = σ.2.1 i ∧ (sJ σ k j v).2.2 i = σ.2.2 i := fun _ hi => ⟨rfl, up2_o hi, rfl⟩
theorem sQ_o {k j : Nat} {v : Option Nat} : ∀ i, i ≠ k → (sQ σ k j v).1 i = σ.1 i ∧ (sQ σ k j v).2.1 i = σ.2.1 i ∧ (sQ σ k j v).2.2 i = σ.2.2 i := fun _ hi => ⟨rfl, rfl, up2_o hi⟩
theorem m_pi0 {ref C : String} {T : u_T} {N ci index k j : Nat} {ty : Nat → FieldType} {ts : List Nat} {v : Int32} {f : mS → Option β} (S : CallFix p m c cc nL s args Ts own) (M : mM D cl tys A s n tb ad σ H locs) (hC : mC Ts cl ci C T N ty) (hk : k < n) (ht : tb k = .inr (ci, ts)) (hj : j < N) (h0 : ts[j]? = some 0) (hlink : Cond.fieldLink own index ref (T j).2.1 (T j).2.2.1 ∈ Ts) (hr : (T j).1 = ref) (hfin : (T j).2.2.2 = false) (hn : narrow (ty j) (.int v) = .int v) (hf : fits (ty j) (.int v) = true) (hdg : decode cc pc = .ok (.putfield index, 3)) (h : nm (sI σ k j v) f = some r)
    (kk : ∀ (σ1 : mS) (H1 : Heap) (locs1 : List Loc), f σ1 = some r → mM D cl tys A s n tb ad σ1 H1 locs1 → W p l e R s m args below meth c H1 locs1 cells slots Q (F0 m (pc + 3) ls rest)) : W p l e R s m args below meth c H locs cells slots Q (F0 m pc ls (.int v :: .ref (ad k) :: rest)) := by
  have hl : j < (ts.mapIdx (fun j t => mV ad σ k j t)).length := by
    simpa using (List.getElem?_eq_some_iff.mp h0).1
  refine va_put S.1 S.2.1 S.2.2.2.2 hC.1 ty hC.2.2.1 hC.2.2.2 S.2.2.2.1 M.1 M.2.1 M.2.2.1 M.2.2.2 k (wd_get hk ht) hC.2.1 j hj (S.2.2.2.2 _ hlink) (fun x hx => by rw [← hr]; exact hx) hfin (hC.2.2.1 j hj) hn hf hl hdg (fun H1 locs1 hP hD hS => ?_)
  rw [← m_objI h0, wd_set hk ht sI_o] at hP hD
  exact kk _ H1 locs1 h ⟨M.1, hP, hD, hS⟩
theorem m_pi {ref C : String} {T : u_T} {N ci index k j : Nat} {ty : Nat → FieldType} {ts : List Nat} {v : Int32} {f : mS → Option β} (S : CallFix p m c cc nL s args Ts own) (M : mM D cl tys A s n tb ad σ H locs) (hC : mC Ts cl ci C T N ty) (hk : k < n) (ht : tb k = .inr (ci, ts)) (hj : j < N) (h0 : ts[j]? = some 0) (hlink : Cond.fieldLink own index ref (T j).2.1 (T j).2.2.1 ∈ Ts) (hr : (T j).1 = ref) (hfin : (T j).2.2.2 = false) (hty : ty j = .int) (hdg : decode cc pc = .ok (.putfield index, 3)) (h : nm (sI σ k j v) f = some r)
    (kk : ∀ (σ1 : mS) (H1 : Heap) (locs1 : List Loc), f σ1 = some r → mM D cl tys A s n tb ad σ1 H1 locs1 → W p l e R s m args below meth c H1 locs1 cells slots Q (F0 m (pc + 3) ls rest)) : W p l e R s m args below meth c H locs cells slots Q (F0 m pc ls (.int v :: .ref (ad k) :: rest)) :=
  m_pi0 S M hC hk ht hj h0 hlink hr hfin (by rw [hty]; rfl) (by rw [hty]; rfl) hdg h kk
theorem m_pz {ref C : String} {T : u_T} {N ci index k j : Nat} {ty : Nat → FieldType} {ts : List Nat} {v : Int32} {f : mS → Option β} (S : CallFix p m c cc nL s args Ts own) (M : mM D cl tys A s n tb ad σ H locs) (hC : mC Ts cl ci C T N ty) (hk : k < n) (ht : tb k = .inr (ci, ts)) (hj : j < N) (h0 : ts[j]? = some 0) (hlink : Cond.fieldLink own index ref (T j).2.1 (T j).2.2.1 ∈ Ts) (hr : (T j).1 = ref) (hfin : (T j).2.2.2 = false) (hty : ty j = .boolean) (hdg : decode cc pc = .ok (.putfield index, 3)) (h : gd (isB v) (nm (sI σ k j v) f) = some r)
    (kk : ∀ (σ1 : mS) (H1 : Heap) (locs1 : List Loc), f σ1 = some r → mM D cl tys A s n tb ad σ1 H1 locs1 → W p l e R s m args below meth c H1 locs1 cells slots Q (F0 m (pc + 3) ls rest)) : W p l e R s m args below meth c H locs cells slots Q (F0 m pc ls (.int v :: .ref (ad k) :: rest)) := by
  obtain ⟨hb, h⟩ := gd_s h
  have hv : v = 0 ∨ v = 1 := of_decide_eq_true hb
  refine m_pi0 S M hC hk ht hj h0 hlink hr hfin ?_ ?_ hdg h kk
  · rw [hty]; rcases hv with rfl | rfl <;> rfl
  · rw [hty]; rcases hv with rfl | rfl <;> rfl
theorem m_pl {ref C : String} {T : u_T} {N ci index k j : Nat} {ty : Nat → FieldType} {ts : List Nat} {v : Int64} {f : mS → Option β} (S : CallFix p m c cc nL s args Ts own) (M : mM D cl tys A s n tb ad σ H locs) (hC : mC Ts cl ci C T N ty) (hk : k < n) (ht : tb k = .inr (ci, ts)) (hj : j < N) (h0 : ts[j]? = some 1) (hlink : Cond.fieldLink own index ref (T j).2.1 (T j).2.2.1 ∈ Ts) (hr : (T j).1 = ref) (hfin : (T j).2.2.2 = false) (hty : ty j = .long) (hdg : decode cc pc = .ok (.putfield index, 3)) (h : nm (sJ σ k j v) f = some r)
    (kk : ∀ (σ1 : mS) (H1 : Heap) (locs1 : List Loc), f σ1 = some r → mM D cl tys A s n tb ad σ1 H1 locs1 → W p l e R s m args below meth c H1 locs1 cells slots Q (F0 m (pc + 3) ls rest)) : W p l e R s m args below meth c H locs cells slots Q (F0 m pc ls (.long v :: .ref (ad k) :: rest)) := by
  have hl : j < (ts.mapIdx (fun j t => mV ad σ k j t)).length := by
    simpa using (List.getElem?_eq_some_iff.mp h0).1
  refine va_put S.1 S.2.1 S.2.2.2.2 hC.1 ty hC.2.2.1 hC.2.2.2 S.2.2.2.1 M.1 M.2.1 M.2.2.1 M.2.2.2 k (wd_get hk ht) hC.2.1 j hj (S.2.2.2.2 _ hlink) (fun x hx => by rw [← hr]; exact hx) hfin (hC.2.2.1 j hj) (by rw [hty]; rfl) (by rw [hty]; rfl) hl hdg (fun H1 locs1 hP hD hS => ?_)
  rw [← m_objJ h0, wd_set hk ht sJ_o] at hP hD
  exact kk _ H1 locs1 h ⟨M.1, hP, hD, hS⟩
-- arrays
theorem m_ial {k N cA t0 : Nat} {i : Int32} {x : Option β} (S : CallFix p m c cc nL s args Ts own) (M : mM D cl tys A s n tb ad σ H locs) (hk : k < n) (ht : tb k = .inl (0, N, cA)) (hty : tys[t0]? = some (cA, .int)) (h : gd (inb i N) x = some r) (hdg : decode cc pc = .ok (.iaload, 1))
    (kk : x = some r → W p l e R s m args below meth c H locs cells slots Q (F0 m (pc + 1) ls (.int (σ.1 k i.toNatClampNeg) :: rest))) : W p l e R s m args below meth c H locs cells slots Q (F0 m pc ls (.int i :: .ref (ad k) :: rest)) := by
  obtain ⟨hb, h⟩ := gd_s h
  exact va_iald S.1 S.2.1 M.1 M.2.1 k t0 (wd_get hk ht) hty (inb_in hb) hdg (kk h)
theorem m_lal {k N cA t0 : Nat} {i : Int32} {x : Option β} (S : CallFix p m c cc nL s args Ts own) (M : mM D cl tys A s n tb ad σ H locs) (hk : k < n) (ht : tb k = .inl (1, N, cA)) (hty : tys[t0]? = some (cA, .long)) (h : gd (inb i N) x = some r) (hdg : decode cc pc = .ok (.laload, 1))
    (kk : x = some r → W p l e R s m args below meth c H locs cells slots Q (F0 m (pc + 1) ls (.long (σ.2.1 k i.toNatClampNeg) :: rest))) : W p l e R s m args below meth c H locs cells slots Q (F0 m pc ls (.int i :: .ref (ad k) :: rest)) := by
  obtain ⟨hb, h⟩ := gd_s h
  exact va_lald S.1 S.2.1 M.1 M.2.1 k t0 (wd_get hk ht) hty (inb_in hb) hdg (kk h)
theorem m_ias {k N cA t0 : Nat} {i v : Int32} {f : mS → Option β} (S : CallFix p m c cc nL s args Ts own) (M : mM D cl tys A s n tb ad σ H locs) (hk : k < n) (ht : tb k = .inl (0, N, cA)) (hty : tys[t0]? = some (cA, .int)) (h : gd (inb i N) (nm (sI σ k i.toNatClampNeg v) f) = some r) (hdg : decode cc pc = .ok (.iastore, 1))
    (kk : ∀ (σ1 : mS) (H1 : Heap) (locs1 : List Loc), f σ1 = some r → mM D cl tys A s n tb ad σ1 H1 locs1 → W p l e R s m args below meth c H1 locs1 cells slots Q (F0 m (pc + 1) ls rest)) : W p l e R s m args below meth c H locs cells slots Q (F0 m pc ls (.int v :: .int i :: .ref (ad k) :: rest)) := by
  obtain ⟨hb, h⟩ := gd_s h
  have ew : (.inl (cA, N, .inl (upd (σ.1 k) i.toNatClampNeg v)) : va_E) = mE ad (sI σ k i.toNatClampNeg v) k (.inl (0, N, cA)) := by
    show _ = (Sum.inl (cA, N, .inl (up2 σ.1 k i.toNatClampNeg v k)) : va_E)
    rw [up2_s]
    rfl
  refine va_iast S.1 S.2.1 M.1 M.2.1 M.2.2.1 M.2.2.2 k t0 (wd_get hk ht) hty (inb_in hb) hdg (fun H1 locs1 hP hD hS => ?_)
  rw [ew, wd_set hk ht sI_o] at hP hD
  exact kk _ H1 locs1 h ⟨M.1, hP, hD, hS⟩
theorem m_las {k N cA t0 : Nat} {i : Int32} {v : Int64} {f : mS → Option β} (S : CallFix p m c cc nL s args Ts own) (M : mM D cl tys A s n tb ad σ H locs) (hk : k < n) (ht : tb k = .inl (1, N, cA)) (hty : tys[t0]? = some (cA, .long)) (h : gd (inb i N) (nm (sJ σ k i.toNatClampNeg v) f) = some r) (hdg : decode cc pc = .ok (.lastore, 1))
    (kk : ∀ (σ1 : mS) (H1 : Heap) (locs1 : List Loc), f σ1 = some r → mM D cl tys A s n tb ad σ1 H1 locs1 → W p l e R s m args below meth c H1 locs1 cells slots Q (F0 m (pc + 1) ls rest)) : W p l e R s m args below meth c H locs cells slots Q (F0 m pc ls (.long v :: .int i :: .ref (ad k) :: rest)) := by
  obtain ⟨hb, h⟩ := gd_s h
  have ew : (.inl (cA, N, .inr (.inl (vp_updL (σ.2.1 k) i.toNatClampNeg v))) : va_E) = mE ad (sJ σ k i.toNatClampNeg v) k (.inl (1, N, cA)) := by
    show _ = (Sum.inl (cA, N, .inr (.inl (up2 σ.2.1 k i.toNatClampNeg v k))) : va_E)
    rw [up2_s]
    rfl
  refine va_last S.1 S.2.1 M.1 M.2.1 M.2.2.1 M.2.2.2 k t0 (wd_get hk ht) hty (inb_in hb) hdg (fun H1 locs1 hP hD hS => ?_)
  rw [ew, wd_set hk ht sJ_o] at hP hD
  exact kk _ H1 locs1 h ⟨M.1, hP, hD, hS⟩
theorem m_alen {k N cA t0 tg : Nat} {ft : FieldType} (S : CallFix p m c cc nL s args Ts own) (M : mM D cl tys A s n tb ad σ H locs) (hk : k < n) (ht : tb k = .inl (tg, N, cA)) (hty : tys[t0]? = some (cA, ft)) (hdg : decode cc pc = .ok (.arraylength, 1))
    (kk : W p l e R s m args below meth c H locs cells slots Q (F0 m (pc + 1) ls (.int (Int32.ofNat N) :: rest))) : W p l e R s m args below meth c H locs cells slots Q (F0 m pc ls (.ref (ad k) :: rest)) := by
  match tg, ht with
  | 0, ht => exact va_alen S.1 S.2.1 M.1 M.2.1 k t0 (wd_get hk ht) hty rfl hdg kk
  | 1, ht => exact va_alen S.1 S.2.1 M.1 M.2.1 k t0 (wd_get hk ht) hty rfl hdg kk
  | _ + 2, ht => exact va_alen S.1 S.2.1 M.1 M.2.1 k t0 (wd_get hk ht) hty rfl hdg kk
-- branches: the pure word decides
theorem m_ifeq {x : Int32} {off : Int} {tgt : Nat} {a b : Option β} (S : CallFix p m c cc nL s args Ts own) (hdg : decode cc pc = .ok (.ifCond .eq off, 3)) (ht : (pc : Int) + off = (tgt : Int)) (h : (if x = 0 then a else b) = some r) (kt : a = some r → W p l e R s m args below meth c H locs cells slots Q (F0 m tgt ls rest)) (kf : b = some r → W p l e R s m args below meth c H locs cells slots Q (F0 m (pc + 3) ls rest)) : W p l e R s m args below meth c H locs cells slots Q (F0 m pc ls (.int x :: rest)) :=
  lv_if_eq S.1 S.2.1 hdg ht (fun q => kt (by rwa [if_pos q] at h)) (fun q => kf (by rwa [if_neg q] at h))
theorem m_ifne {x : Int32} {off : Int} {tgt : Nat} {a b : Option β} (S : CallFix p m c cc nL s args Ts own) (hdg : decode cc pc = .ok (.ifCond .ne off, 3)) (ht : (pc : Int) + off = (tgt : Int)) (h : (if x = 0 then b else a) = some r) (kt : a = some r → W p l e R s m args below meth c H locs cells slots Q (F0 m tgt ls rest)) (kf : b = some r → W p l e R s m args below meth c H locs cells slots Q (F0 m (pc + 3) ls rest)) : W p l e R s m args below meth c H locs cells slots Q (F0 m pc ls (.int x :: rest)) :=
  lv_if_ne S.1 S.2.1 hdg ht (fun q => kt (by rwa [if_neg q] at h)) (fun q => kf (by rwa [if_pos q] at h))
theorem m_iflt {x : Int32} {off : Int} {tgt : Nat} {a b : Option β} (S : CallFix p m c cc nL s args Ts own) (hdg : decode cc pc = .ok (.ifCond .lt off, 3)) (ht : (pc : Int) + off = (tgt : Int)) (h : (if x < 0 then a else b) = some r) (kt : a = some r → W p l e R s m args below meth c H locs cells slots Q (F0 m tgt ls rest)) (kf : b = some r → W p l e R s m args below meth c H locs cells slots Q (F0 m (pc + 3) ls rest)) : W p l e R s m args below meth c H locs cells slots Q (F0 m pc ls (.int x :: rest)) :=
  lv_if_lt S.1 S.2.1 hdg ht (fun q => kt (by rwa [if_pos q] at h)) (fun q => kf (by rwa [if_neg q] at h))
theorem m_ifge {x : Int32} {off : Int} {tgt : Nat} {a b : Option β} (S : CallFix p m c cc nL s args Ts own) (hdg : decode cc pc = .ok (.ifCond .ge off, 3)) (ht : (pc : Int) + off = (tgt : Int)) (h : (if 0 ≤ x then a else b) = some r) (kt : a = some r → W p l e R s m args below meth c H locs cells slots Q (F0 m tgt ls rest)) (kf : b = some r → W p l e R s m args below meth c H locs cells slots Q (F0 m (pc + 3) ls rest)) : W p l e R s m args below meth c H locs cells slots Q (F0 m pc ls (.int x :: rest)) :=
  lv_if_ge S.1 S.2.1 hdg ht (fun q => kt (by rwa [if_pos q] at h)) (fun q => kf (by rwa [if_neg q] at h))
theorem m_ifgt {x : Int32} {off : Int} {tgt : Nat} {a b : Option β} (S : CallFix p m c cc nL s args Ts own) (hdg : decode cc pc = .ok (.ifCond .gt off, 3)) (ht : (pc : Int) + off = (tgt : Int)) (h : (if 0 < x then a else b) = some r) (kt : a = some r → W p l e R s m args below meth c H locs cells slots Q (F0 m tgt ls rest)) (kf : b = some r → W p l e R s m args below meth c H locs cells slots Q (F0 m (pc + 3) ls rest)) : W p l e R s m args below meth c H locs cells slots Q (F0 m pc ls (.int x :: rest)) :=
  lv_if_gt S.1 S.2.1 hdg ht (fun q => kt (by rwa [if_pos q] at h)) (fun q => kf (by rwa [if_neg q] at h))
theorem m_ifle {x : Int32} {off : Int} {tgt : Nat} {a b : Option β} (S : CallFix p m c cc nL s args Ts own) (hdg : decode cc pc = .ok (.ifCond .le off, 3)) (ht : (pc : Int) + off = (tgt : Int)) (h : (if x ≤ 0 then a else b) = some r) (kt : a = some r → W p l e R s m args below meth c H locs cells slots Q (F0 m tgt ls rest)) (kf : b = some r → W p l e R s m args below meth c H locs cells slots Q (F0 m (pc + 3) ls rest)) : W p l e R s m args below meth c H locs cells slots Q (F0 m pc ls (.int x :: rest)) :=
  lv_if_le S.1 S.2.1 hdg ht (fun q => kt (by rwa [if_pos q] at h)) (fun q => kf (by rwa [if_neg q] at h))
theorem m_ieq {x y : Int32} {off : Int} {tgt : Nat} {a b : Option β} (S : CallFix p m c cc nL s args Ts own) (hdg : decode cc pc = .ok (.if_icmp .eq off, 3)) (ht : (pc : Int) + off = (tgt : Int)) (h : (if x = y then a else b) = some r) (kt : a = some r → W p l e R s m args below meth c H locs cells slots Q (F0 m tgt ls rest)) (kf : b = some r → W p l e R s m args below meth c H locs cells slots Q (F0 m (pc + 3) ls rest)) : W p l e R s m args below meth c H locs cells slots Q (F0 m pc ls (.int y :: .int x :: rest)) :=
  lv_icmp_eq S.1 S.2.1 hdg ht (fun q => kt (by rwa [if_pos q] at h)) (fun q => kf (by rwa [if_neg q] at h))
theorem m_ine {x y : Int32} {off : Int} {tgt : Nat} {a b : Option β} (S : CallFix p m c cc nL s args Ts own) (hdg : decode cc pc = .ok (.if_icmp .ne off, 3)) (ht : (pc : Int) + off = (tgt : Int)) (h : (if x = y then b else a) = some r) (kt : a = some r → W p l e R s m args below meth c H locs cells slots Q (F0 m tgt ls rest)) (kf : b = some r → W p l e R s m args below meth c H locs cells slots Q (F0 m (pc + 3) ls rest)) : W p l e R s m args below meth c H locs cells slots Q (F0 m pc ls (.int y :: .int x :: rest)) :=
  lv_icmp_ne S.1 S.2.1 hdg ht (fun q => kt (by rwa [if_neg q] at h)) (fun q => kf (by rwa [if_pos q] at h))
theorem m_ilt {x y : Int32} {off : Int} {tgt : Nat} {a b : Option β} (S : CallFix p m c cc nL s args Ts own) (hdg : decode cc pc = .ok (.if_icmp .lt off, 3)) (ht : (pc : Int) + off = (tgt : Int)) (h : (if x < y then a else b) = some r) (kt : a = some r → W p l e R s m args below meth c H locs cells slots Q (F0 m tgt ls rest)) (kf : b = some r → W p l e R s m args below meth c H locs cells slots Q (F0 m (pc + 3) ls rest)) : W p l e R s m args below meth c H locs cells slots Q (F0 m pc ls (.int y :: .int x :: rest)) :=
  lv_icmp_lt S.1 S.2.1 hdg ht (fun q => kt (by rwa [if_pos q] at h)) (fun q => kf (by rwa [if_neg q] at h))
theorem m_ige {x y : Int32} {off : Int} {tgt : Nat} {a b : Option β} (S : CallFix p m c cc nL s args Ts own) (hdg : decode cc pc = .ok (.if_icmp .ge off, 3)) (ht : (pc : Int) + off = (tgt : Int)) (h : (if y ≤ x then a else b) = some r) (kt : a = some r → W p l e R s m args below meth c H locs cells slots Q (F0 m tgt ls rest)) (kf : b = some r → W p l e R s m args below meth c H locs cells slots Q (F0 m (pc + 3) ls rest)) : W p l e R s m args below meth c H locs cells slots Q (F0 m pc ls (.int y :: .int x :: rest)) :=
  lv_icmp_ge S.1 S.2.1 hdg ht (fun q => kt (by rwa [if_pos q] at h)) (fun q => kf (by rwa [if_neg q] at h))
theorem m_igt {x y : Int32} {off : Int} {tgt : Nat} {a b : Option β} (S : CallFix p m c cc nL s args Ts own) (hdg : decode cc pc = .ok (.if_icmp .gt off, 3)) (ht : (pc : Int) + off = (tgt : Int)) (h : (if y < x then a else b) = some r) (kt : a = some r → W p l e R s m args below meth c H locs cells slots Q (F0 m tgt ls rest)) (kf : b = some r → W p l e R s m args below meth c H locs cells slots Q (F0 m (pc + 3) ls rest)) : W p l e R s m args below meth c H locs cells slots Q (F0 m pc ls (.int y :: .int x :: rest)) :=
  lv_icmp_gt S.1 S.2.1 hdg ht (fun q => kt (by rwa [if_pos q] at h)) (fun q => kf (by rwa [if_neg q] at h))
theorem m_ile {x y : Int32} {off : Int} {tgt : Nat} {a b : Option β} (S : CallFix p m c cc nL s args Ts own) (hdg : decode cc pc = .ok (.if_icmp .le off, 3)) (ht : (pc : Int) + off = (tgt : Int)) (h : (if x ≤ y then a else b) = some r) (kt : a = some r → W p l e R s m args below meth c H locs cells slots Q (F0 m tgt ls rest)) (kf : b = some r → W p l e R s m args below meth c H locs cells slots Q (F0 m (pc + 3) ls rest)) : W p l e R s m args below meth c H locs cells slots Q (F0 m pc ls (.int y :: .int x :: rest)) :=
  lv_icmp_le S.1 S.2.1 hdg ht (fun q => kt (by rwa [if_pos q] at h)) (fun q => kf (by rwa [if_neg q] at h))
theorem m_idiv {x y : Int32} {a : Option β} (S : CallFix p m c cc nL s args Ts own) (hdg : decode cc pc = .ok (.idiv, 1)) (h : gd (isN y) a = some r) (kk : a = some r → W p l e R s m args below meth c H locs cells slots Q (F0 m (pc + 1) ls (.int (x / y) :: rest))) : W p l e R s m args below meth c H locs cells slots Q (F0 m pc ls (.int y :: .int x :: rest)) :=
  lv_idiv S.1 S.2.1 hdg (of_decide_eq_true (gd_s h).1) (kk (gd_s h).2)
theorem m_irem {x y : Int32} {a : Option β} (S : CallFix p m c cc nL s args Ts own) (hdg : decode cc pc = .ok (.irem, 1)) (h : gd (isN y) a = some r) (kk : a = some r → W p l e R s m args below meth c H locs cells slots Q (F0 m (pc + 1) ls (.int (x - x / y * y) :: rest))) : W p l e R s m args below meth c H locs cells slots Q (F0 m pc ls (.int y :: .int x :: rest)) :=
  lv_irem S.1 S.2.1 hdg (of_decide_eq_true (gd_s h).1) (kk (gd_s h).2)
theorem m_ldiv {x y : Int64} {a : Option β} (S : CallFix p m c cc nL s args Ts own) (hdg : decode cc pc = .ok (.ldiv, 1)) (h : gd (isNl y) a = some r) (kk : a = some r → W p l e R s m args below meth c H locs cells slots Q (F0 m (pc + 1) ls (.long (x / y) :: rest))) : W p l e R s m args below meth c H locs cells slots Q (F0 m pc ls (.long y :: .long x :: rest)) :=
  lv_ldiv S.1 S.2.1 hdg (of_decide_eq_true (gd_s h).1) (kk (gd_s h).2)
theorem m_lrem {x y : Int64} {a : Option β} (S : CallFix p m c cc nL s args Ts own) (hdg : decode cc pc = .ok (.lrem, 1)) (h : gd (isNl y) a = some r) (kk : a = some r → W p l e R s m args below meth c H locs cells slots Q (F0 m (pc + 1) ls (.long (x - x / y * y) :: rest))) : W p l e R s m args below meth c H locs cells slots Q (F0 m pc ls (.long y :: .long x :: rest)) :=
  lv_lrem S.1 S.2.1 hdg (of_decide_eq_true (gd_s h).1) (kk (gd_s h).2)
end MR
