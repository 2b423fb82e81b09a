-- ===== MAKING: the memory grows; kinds are fixed ahead (tb), references of objects are of the kind that may change =====
def mI (n : Nat) (σ : mS) : Prop := (∀ k j y, k < n → σ.2.2 k j = some y → y < n) ∧ ∀ k, n ≤ k → σ.1 k = (fun _ => 0) ∧ σ.2.1 k = (fun _ => 0) ∧ σ.2.2 k = fun _ => none
theorem mI_up {n : Nat} {σ : mS} (h : mI n σ) : mI (n + 1) σ := by
  refine ⟨fun k j y hk hy => ?_, fun k hk => h.2 k (by omega)⟩
  by_cases hkn : k < n
  · exact Nat.lt_succ_of_lt (h.1 k j y hkn hy)
  · have h2 := (h.2 k (by omega)).2.2
    rw [h2] at hy
    cases hy
theorem mI_sI {n k j : Nat} {v : Int32} {σ : mS} (h : mI n σ) (hk : k < n) : mI n (sI σ k j v) := ⟨h.1, fun i hi => ⟨(up2_o (by omega)).trans (h.2 i hi).1, (h.2 i hi).2⟩⟩
theorem mI_sQ {n k j y : Nat} {σ : mS} (h : mI n σ) (hk : k < n) (hy : y < n) : mI n (sQ σ k j (some y)) := by
  refine ⟨fun a b z ha hz => ?_, fun i hi => ⟨(h.2 i hi).1, (h.2 i hi).2.1, (up2_o (by omega)).trans (h.2 i hi).2.2⟩⟩
  have hz : up2 σ.2.2 k j (some y) a b = some z := hz
  unfold up2 at hz
  by_cases h1 : a = k
  · rw [if_pos h1] at hz
    by_cases h2 : b = j
    · rw [if_pos h2] at hz
      cases hz
      exact hy
    · rw [if_neg h2] at hz
      exact h.1 a b z ha hz
  · rw [if_neg h1] at hz
    exact h.1 a b z ha hz
def mDy (K : mK) : Prop := ∀ ci ts, K = .inr (ci, ts) → ∀ t ∈ ts, t < 3
theorem mV_ad {ad ad' : Nat → Nat} {σ : mS} {k j t : Nat} (h1 : ∀ j y, σ.2.2 k j = some y → ad' y = ad y) (ht : t < 3) : mV ad' σ k j t = mV ad σ k j t := by
  match t, ht with
  | 0, _ => rfl
  | 1, _ => rfl
  | 2, _ =>
    show va_rf ((σ.2.2 k j).map ad') = va_rf ((σ.2.2 k j).map ad)
    cases hq : σ.2.2 k j with
    | none => rfl
    | some y => simp [h1 j y hq]
theorem mE_ad {ad ad' : Nat → Nat} {σ : mS} {k : Nat} {K : mK} (h1 : ∀ j y, σ.2.2 k j = some y → ad' y = ad y) (h2 : mDy K) : mE ad' σ k K = mE ad σ k K := by
  match K, h2 with
  | .inl (0, n, cA), _ => rfl
  | .inl (1, n, cA), _ => rfl
  | .inl (_ + 2, n, cA), _ =>
    show (Sum.inl (cA, n, .inr (.inr (.inr (.inr (fun x => (σ.2.2 k x).map ad'))))) : va_E) = Sum.inl (cA, n, .inr (.inr (.inr (.inr (fun x => (σ.2.2 k x).map ad)))))
    have e : (fun x => (σ.2.2 k x).map ad') = fun x => (σ.2.2 k x).map ad := by
      funext x
      cases hq : σ.2.2 k x with
      | none => rfl
      | some y => simp [h1 x y hq]
    rw [e]
  | .inr (ci, ts), h2 =>
    show (Sum.inr (ci, ts.mapIdx (fun j t => mV ad' σ k j t)) : va_E) = Sum.inr (ci, ts.mapIdx (fun j t => mV ad σ k j t))
    have e : ts.mapIdx (fun j t => mV ad' σ k j t) = ts.mapIdx (fun j t => mV ad σ k j t) := by
      apply List.ext_getElem?
      intro i
      rw [List.getElem?_mapIdx, List.getElem?_mapIdx]
      cases hi : ts[i]? with
      | none => rfl
      | some t => simp [mV_ad h1 (h2 ci ts rfl t (List.mem_of_getElem? hi))]
    rw [e]
theorem wd_push {n : Nat} {tb : Nat → mK} {ad ad' : Nat → Nat} {σ : mS} (hI : mI n σ) (hT : ∀ k, mDy (tb k)) (ha : ∀ k, k < n → ad' k = ad k) : wd (n + 1) tb ad' σ = wd n tb ad σ ++ [(ad' n, mE ad' σ n (tb n))] := by
  unfold wd
  rw [List.range_succ, List.map_append]
  congr 1
  apply List.map_congr_left
  intro k hk
  have hk : k < n := List.mem_range.mp hk
  rw [ha k hk, mE_ad (fun j y hy => ha y (hI.1 k j y hk hy)) (hT k)]
def mV0 (t : Nat) : Value := match t with
  | 0 => .int 0
  | 1 => .long 0
  | _ => .null
theorem mE_0 {n : Nat} {ad : Nat → Nat} {σ : mS} {ci : Nat} {ts : List Nat} (hI : mI n σ) (hT : mDy (.inr (ci, ts))) : mE ad σ n (.inr (ci, ts)) = .inr (ci, ts.map mV0) := by
  show (Sum.inr (ci, ts.mapIdx (fun j t => mV ad σ n j t)) : va_E) = _
  have e : ts.mapIdx (fun j t => mV ad σ n j t) = ts.map mV0 := by
    apply List.ext_getElem?
    intro i
    rw [List.getElem?_mapIdx, List.getElem?_map]
    cases hi : ts[i]? with
    | none => rfl
    | some t =>
      have ht := hT ci ts rfl t (List.mem_of_getElem? hi)
      obtain ⟨z1, z2, z3⟩ := hI.2 n (Nat.le_refl n)
      match t, ht with
      | 0, _ => simp [mV, mV0, z1]
      | 1, _ => simp [mV, mV0, z2]
      | 2, _ => simp [mV, mV0, z3, va_rf]
  rw [e]
theorem m_objQ {ad : Nat → Nat} {σ : mS} {ci k j y : Nat} {ts : List Nat} (h0 : ts[j]? = some 2) : mE ad (sQ σ k j (some y)) k (.inr (ci, ts)) = .inr (ci, (ts.mapIdx (fun j t => mV ad σ k j t)).set j (.ref (ad y))) := by
  refine m_obj (fun i t _ hi => ?_) (fun t ht => ?_)
  · match t with
    | 0 => rfl
    | 1 => rfl
    | 2 => simp [mV, sQ, up2, hi]
    | t + 3 => rfl
  · have : t = 2 := Option.some.inj (ht.symm.trans h0)
    subst this
    simp [mV, sQ, up2, va_rf]
/-- words that ride in a maker's start: links of makers of nest mates, the array of ways -/
def nW (U : State) : Prop := va_Nw (.methodLinkNest "LeastPaths" 26 ⟨"LeastPaths$Graph", "<init>", "()V"⟩ "LeastPaths") U ∧ va_Nw (.methodLinkNest "LeastPaths$Row" 17 ⟨"LeastPaths$Way", "<init>", "()V"⟩ "LeastPaths") U ∧ va_Nw (.methodLinkNest "LeastPaths$Rings" 11 ⟨"LeastPaths$Way", "<init>", "()V"⟩ "LeastPaths") U ∧ va_AO "LeastPaths$Way" U
theorem nW_w {s U : State} (hW : s.WarmedH U.vm) (h : nW s) : nW U := ⟨va_Nw.warmM hW h.1, va_Nw.warmM hW h.2.1, va_Nw.warmM hW h.2.2.1, va_AO.moved hW.alike h.2.2.2⟩
def mPreN (D : va_G) (cl : List vw_C) (tys : List (Nat × FieldType)) (n : Nat) (tb : Nat → mK) (ad : Nat → Nat) (σ : mS) (sz : Nat) : State → Prop := fun U => mPre D cl tys n tb ad σ sz U ∧ nW U
theorem mPreN_blind {D : va_G} {cl : List vw_C} {tys : List (Nat × FieldType)} {n : Nat} {tb : Nat → mK} {ad : Nat → Nat} {σ : mS} {sz : Nat} {av : List Value} : FrameBlind (va_Pc av (mPreN D cl tys n tb ad σ sz)) := by
  intro a U g mk q
  obtain ⟨q0, ⟨q1, qP, qK, qD⟩, w1, w2, w3, w4⟩ := q
  exact ⟨q0, ⟨q1, qP, va_K.moved (u := U) (U := U.calling g mk a) (Vm.Alike.refl U.vm) qK, qD⟩, va_Nw.same rfl (u := U) rfl w1, va_Nw.same rfl (u := U) rfl w2, va_Nw.same rfl (u := U) rfl w3, va_AO.moved (u := U) (U := U.calling g mk a) (Vm.Alike.refl U.vm) w4⟩
section MN
variable {p : Program} {l : Launch} {e : Env} {R : Room} {s : State} {m : MethodId} {args : Array Value} {below : List Frame} {meth : Method} {c : Code} {H : Heap} {locs : List Loc} {cells slots : Nat} {Q : State → Prop}
variable {cc : ByteArray} {pc nL : Nat} {ls : Array Slot} {rest st : List Value} {D : va_G} {cl : List vw_C} {A : Nat → Prop} {tys : List (Nat × FieldType)} {Ts : List Cond} {own : String} {n : Nat} {tb : Nat → mK} {ad : Nat → Nat} {σ : mS}
theorem m_new {C : String} {T : u_T} {N ci index : Nat} {ty : Nat → FieldType} {ts : List Nat} (S : CallFix p m c cc nL s args Ts own) (M : mM D cl tys A s n tb ad σ H locs) (hI : mI n σ) (hT : ∀ k, mDy (tb k)) (hA : ∀ q, s.heap.size ≤ q → A q) (hC : mC Ts cl ci C T N ty) (ht : tb n = .inr (ci, ts)) (h1 : Cond.classLink own index C ∈ Ts) (h2 : Cond.instantiable C N ∈ Ts) (h3 : Cond.initialized C ∈ Ts) (hd : ∀ j, j < N → defaultValue (ty j) = vp_V (ts.map mV0) j) (hc : cells + 1 ≤ R.cells) (hs : slots + N ≤ R.slots) (hdg : decode cc pc = .ok (.new index, 3))
    (kk : ∀ (q : Nat) (ad1 : Nat → Nat) (H1 : Heap), (∀ k, k < n → ad1 k = ad k) → ad1 n = q → mM D cl tys A s (n + 1) tb ad1 σ H1 locs → W p l e R s m args below meth c H1 locs (cells + 1) (slots + N) Q (F0 m (pc + 3) ls (.ref q :: rest))) : W p l e R s m args below meth c H locs cells slots Q (F0 m pc ls rest) := by
  refine va_new S.1 S.2.1 S.2.2.2.2 hC.1 ty hC.2.2.1 S.2.2.2.1 (S.2.2.2.2 _ h1) (S.2.2.2.2 _ h2) (S.2.2.2.2 _ h3) M.1 M.2.1 M.2.2.1 M.2.2.2 hA hC.2.1 hd hc hs hdg (fun q H1 hP hD hS => ?_)
  have hag : ∀ k, k < n → va_up ad n q k = ad k := fun k hk => va_up_ne _ _ (by omega)
  have hn : va_up ad n q n = q := va_up_self _ _ _
  have ew := wd_push (ad' := va_up ad n q) hI hT hag
  rw [ht, mE_0 hI (fun ci' ts' h => hT n ci' ts' (by rw [ht]; exact h)), hn] at ew
  rw [← ew] at hP hD
  exact kk q _ H1 hag hn ⟨M.1, hP, hD, hS⟩
theorem m_newa {atype : ArrayType} {ft : FieldType} {k0 N tg cA : Nat} {nn : Int32} (S : CallFix p m c cc nL s args Ts own) (M : mM D cl tys A s n tb ad σ H locs) (hI : mI n σ) (hT : ∀ k, mDy (tb k)) (hA : ∀ q, s.heap.size ≤ q → A q) (harr : Cond.arrayClass (newarray.typeOf atype) ∈ Ts) (hty : newarray.typeOf atype = ft) (ht : tb n = .inl (tg, N, cA)) (hk : tys[k0]? = some (cA, ft)) (hob : ∀ C, ft ≠ .object C) (he : ∀ cB : Nat, vp_cell cB (if tg = 0 then (N, .inl (fun _ => 0)) else (N, .inr (.inl (fun _ => 0)))) = arrV cB N (fun _ => defaultValue ft)) (htg : tg < 2) (hn0 : ¬ nn < 0) (hN : nn.toNatClampNeg = N) (hby : N * componentBytes ft ≤ 536870912) (hc : cells + 1 ≤ R.cells) (hs : slots + N ≤ R.slots) (hdg : decode cc pc = .ok (.newarray atype, 2))
    (kk : ∀ (q : Nat) (ad1 : Nat → Nat) (H1 : Heap), (∀ k, k < n → ad1 k = ad k) → ad1 n = q → mM D cl tys A s (n + 1) tb ad1 σ H1 locs → W p l e R s m args below meth c H1 locs (cells + 1) (slots + N) Q (F0 m (pc + 2) ls (.ref q :: rest))) : W p l e R s m args below meth c H locs cells slots Q (F0 m pc ls (.int nn :: rest)) := by
  refine va_newa S.1 S.2.1 (S.2.2.2.2 _ harr) hty M.1 M.2.1 M.2.2.1 M.2.2.2 hA he hn0 hN hby hc hs hdg (fun q cB H1 hK hP hD hS => ?_)
  have hcB : cB = cA := by
    have a1 := (M.1.2 k0 _ hk).2
    have a2 := (hK.2 tys.length (cB, ft) (by simp)).2
    cases ft with
    | object C => exact absurd rfl (hob C)
    | _ => exact Option.some.inj (a2.symm.trans a1)
  subst hcB
  have hag : ∀ k, k < n → va_up ad n q k = ad k := fun k hk => va_up_ne _ _ (by omega)
  have hn : va_up ad n q n = q := va_up_self _ _ _
  have ew := wd_push (ad' := va_up ad n q) hI hT hag
  obtain ⟨z1, z2, z3⟩ := hI.2 n (Nat.le_refl n)
  have e0 : mE (va_up ad n q) σ n (.inl (tg, N, cB)) = .inl (cB, if tg = 0 then (N, .inl (fun _ => 0)) else (N, .inr (.inl (fun _ => 0)))) := by
    match tg, htg with
    | 0, _ => simp [mE, z1]
    | 1, _ => simp [mE, z2]
  rw [ht, e0, hn] at ew
  rw [← ew] at hP hD
  exact kk q _ H1 hag hn ⟨M.1, hP, hD, hS⟩
theorem m_newq {C : String} {index k0 N cA : Nat} {nn : Int32} (S : CallFix p m c cc nL s args Ts own) (M : mM D cl tys A s n tb ad σ H locs) (hI : mI n σ) (hT : ∀ k, mDy (tb k)) (hA : ∀ q, s.heap.size ≤ q → A q) (h1 : Cond.classLink own index C ∈ Ts) (h2 : va_AO C s) (ht : tb n = .inl (2, N, cA)) (hk : tys[k0]? = some (cA, .object C)) (hn0 : ¬ nn < 0) (hN : nn.toNatClampNeg = N) (hby : N * 4 ≤ 536870912) (hc : cells + 1 ≤ R.cells) (hs : slots + N ≤ R.slots) (hdg : decode cc pc = .ok (.anewarray index, 3))
    (kk : ∀ (q : Nat) (ad1 : Nat → Nat) (H1 : Heap), (∀ k, k < n → ad1 k = ad k) → ad1 n = q → mM D cl tys A s (n + 1) tb ad1 σ H1 locs → W p l e R s m args below meth c H1 locs (cells + 1) (slots + N) Q (F0 m (pc + 3) ls (.ref q :: rest))) : W p l e R s m args below meth c H locs cells slots Q (F0 m pc ls (.int nn :: rest)) := by
  refine va_newq S.1 S.2.1 S.2.2.2.1 (S.2.2.2.2 _ h1) h2 M.1 M.2.1 M.2.2.1 M.2.2.2 hA hn0 hN hby hc hs hdg (fun q cB H1 hK hP hD hS => ?_)
  have hcB : cB = cA := by
    obtain ⟨_, _, -, -, -, a1⟩ := (M.1.2 k0 _ hk).2
    obtain ⟨_, _, -, -, -, a2⟩ := (hK.2 tys.length (cB, .object C) (by simp)).2
    exact Option.some.inj (a2.symm.trans a1)
  subst hcB
  have hag : ∀ k, k < n → va_up ad n q k = ad k := fun k hk => va_up_ne _ _ (by omega)
  have hn : va_up ad n q n = q := va_up_self _ _ _
  have ew := wd_push (ad' := va_up ad n q) hI hT hag
  obtain ⟨z1, z2, z3⟩ := hI.2 n (Nat.le_refl n)
  have e0 : mE (va_up ad n q) σ n (.inl (2, N, cB)) = .inl (cB, N, .inr (.inr (.inr (.inr (fun _ => none))))) := by
    simp [mE, z3]
  rw [ht, e0, hn] at ew
  rw [← ew] at hP hD
  exact kk q _ H1 hag hn ⟨M.1, hP, hD, hS⟩
/-- an int into a field, in a maker -/
theorem m_nI {C : String} {T : u_T} {N ci index k j a : Nat} {ty : Nat → FieldType} {ts : List Nat} {v : Int32} (S : CallFix p m c cc nL s args Ts own) (M : mM D cl tys A s n tb ad σ H locs) (hC : mC Ts cl ci C T N ty) (hak : ad k = a) (hk : k < n) (ht : tb k = .inr (ci, ts)) (hj : j < N) (h0 : ts[j]? = some 0) (hlink : Cond.fieldLink own index own (T j).2.1 (T j).2.2.1 ∈ Ts) (hr : (T j).1 = own) (hin : meth.name = "<init>") (hn : narrow (ty j) (.int v) = .int v) (hf : fits (ty j) (.int v) = true) (hdg : decode cc pc = .ok (.putfield index, 3))
    (kk : ∀ (H1 : Heap) (locs1 : List Loc), mM D cl tys A s n tb ad (sI σ k j v) H1 locs1 → W p l e R s m args below meth c H1 locs1 cells slots Q (F0 m (pc + 3) ls rest)) : W p l e R s m args below meth c H locs cells slots Q (F0 m pc ls (.int v :: .ref a :: rest)) := by
  subst hak
  have hl : j < (ts.mapIdx (fun j t => mV ad σ k j t)).length := by
    simpa using (List.getElem?_eq_some_iff.mp h0).1
  by_cases hfin : (T j).2.2.2 = true
  · refine va_putF S.1 S.2.1 S.2.2.2.2 hC.1 ty hC.2.2.1 hC.2.2.2 S.2.2.2.1 M.1 M.2.1 M.2.2.1 M.2.2.2 k (wd_get hk ht) hC.2.1 j hj (S.2.2.2.2 _ hlink) (fun x hx => by rw [← hr]; exact hx) hfin hin hr (hC.2.2.1 j hj) hn hf hl hdg (fun H1 locs1 hP hD hS => ?_)
    rw [← m_objI h0, wd_set hk ht sI_o] at hP hD
    exact kk H1 locs1 ⟨M.1, hP, hD, hS⟩
  · refine va_put S.1 S.2.1 S.2.2.2.2 hC.1 ty hC.2.2.1 hC.2.2.2 S.2.2.2.1 M.1 M.2.1 M.2.2.1 M.2.2.2 k (wd_get hk ht) hC.2.1 j hj (S.2.2.2.2 _ hlink) (fun x hx => by rw [← hr]; exact hx) (by simpa using hfin) (hC.2.2.1 j hj) hn hf hl hdg (fun H1 locs1 hP hD hS => ?_)
    rw [← m_objI h0, wd_set hk ht sI_o] at hP hD
    exact kk H1 locs1 ⟨M.1, hP, hD, hS⟩
/-- a reference into a final field, in a maker -/
theorem m_nQ {C : String} {T : u_T} {N ci index k j a y b : Nat} {ty : Nat → FieldType} {ts : List Nat} (S : CallFix p m c cc nL s args Ts own) (M : mM D cl tys A s n tb ad σ H locs) (hC : mC Ts cl ci C T N ty) (hak : ad k = a) (hay : ad y = b) (hk : k < n) (ht : tb k = .inr (ci, ts)) (hj : j < N) (h0 : ts[j]? = some 2) (hlink : Cond.fieldLink own index own (T j).2.1 (T j).2.2.1 ∈ Ts) (hr : (T j).1 = own) (hfin : (T j).2.2.2 = true) (hin : meth.name = "<init>") (hn : narrow (ty j) (.ref b) = .ref b) (hf : fits (ty j) (.ref b) = true) (hdg : decode cc pc = .ok (.putfield index, 3))
    (kk : ∀ (H1 : Heap) (locs1 : List Loc), mM D cl tys A s n tb ad (sQ σ k j (some y)) H1 locs1 → W p l e R s m args below meth c H1 locs1 cells slots Q (F0 m (pc + 3) ls rest)) : W p l e R s m args below meth c H locs cells slots Q (F0 m pc ls (.ref b :: .ref a :: rest)) := by
  subst hak
  subst hay
  have hl : j < (ts.mapIdx (fun j t => mV ad σ k j t)).length := by
    simpa using (List.getElem?_eq_some_iff.mp h0).1
  refine va_putF S.1 S.2.1 S.2.2.2.2 hC.1 ty hC.2.2.1 hC.2.2.2 S.2.2.2.1 M.1 M.2.1 M.2.2.1 M.2.2.2 k (wd_get hk ht) hC.2.1 j hj (S.2.2.2.2 _ hlink) (fun x hx => by rw [← hr]; exact hx) hfin hin hr (hC.2.2.1 j hj) hn hf hl hdg (fun H1 locs1 hP hD hS => ?_)
  rw [← m_objQ h0, wd_set hk ht sQ_o] at hP hD
  exact kk H1 locs1 ⟨M.1, hP, hD, hS⟩
end MN
-- ===== contracts of makers =====
def mQn (D : va_G) (cl : List vw_C) (tys : List (Nat × FieldType)) (tb : Nat → mK) (n : Nat) (ad : Nat → Nat) (n' : Nat) (σ' : mS) (sz : Nat) : Array Value → State → Outcome → State → Prop := va_Qv (fun ad' : Nat → Nat => ∀ k, k < n → ad' k = ad k) (fun ad' => mB D cl tys (mA n ad sz) n' tb ad' σ') (mA n ad sz)
def mCn (l : Launch) (y : MethodName) (ws : List Cond) (rm : Room) (D : va_G) (cl : List vw_C) (tys : List (Nat × FieldType)) (tb : Nat → mK) (n : Nat) (ad : Nat → Nat) (σ : mS) (av : List Value) (n' : Nat) (σ' : mS) (mc ms : Nat) : Prop :=
  ∀ sz, Met l y ws rm (va_Pc av (mPreN D cl tys n tb ad σ sz)) (mQn D cl tys tb n ad n' σ' sz) mc ms (mA n ad sz)
section MNC
variable {p : Program} {l : Launch} {e : Env} {R : Room} {s : State} {m : MethodId} {args : Array Value} {below : List Frame} {meth : Method} {c : Code} {H : Heap} {locs : List Loc} {cells slots : Nat} {Q : State → Prop}
variable {cc : ByteArray} {pc nL : Nat} {ls : Array Slot} {rest st : List Value} {D : va_G} {cl : List vw_C} {A : Nat → Prop} {tys : List (Nat × FieldType)} {Ts : List Cond} {own host : String} {n n' mc ms : Nat} {tb : Nat → mK} {ad : Nat → Nat} {σ σ' : mS}
variable {y : MethodName} {bytes : ByteArray} {maxL na index b : Nat} {ws : List Cond} {rm : Room} {As : List Value} {a : Array Value}
theorem m_rI (S : CallFix p m c cc nL s args Ts own) (N : nW s) (M : mM D cl tys A s n tb ad σ H locs) (hl : ls.size = nL) (cw : CallB R s args own index y bytes maxL none ws rm mc ms na ∧ y.name = "<init>" ∧ (Cond.instanceMethod y).before args s = true) (hM : mCn l y ws rm D cl tys tb n ad σ (.ref b :: As) n' σ' mc ms) (hn : As.length = na) (hst : st = As.reverse ++ .ref b :: rest) (hrm : (rest.map fun v => v.category).sum ≤ 8) (hdg : decode cc pc = .ok (.invokespecial index, 3)) (hcs : cells + mc ≤ R.cells ∧ slots + ms ≤ R.slots) :
    va_Run p l e R s m args below meth c H locs cells slots mc ms (F0 m pc ls st) rest (mQn D cl tys tb n ad n' σ' H.size (Value.ref b :: As).toArray) (mA n ad H.size) :=
  va_runI S (hM H.size) cw ⟨mPreN_blind, fun U hU hW => ⟨rfl, ⟨by rw [hU], by rw [hU]; exact M.2.1, va_K.moved hW.alike M.1, M.2.2.1.weaken (fun _ _ _ _ => trivial)⟩, nW_w hW N⟩⟩ rfl hn hl hst (lv_room hrm) hdg hcs
theorem m_rIN (S : CallFix p m c cc nL s args Ts own) (N : nW s) (M : mM D cl tys A s n tb ad σ H locs) (hl : ls.size = nL) (cw : va_CN R s args own index y host bytes maxL none ws rm mc ms na ∧ y.name = "<init>" ∧ (Cond.instanceMethod y).before args s = true) (hM : mCn l y ws rm D cl tys tb n ad σ (.ref b :: As) n' σ' mc ms) (hn : As.length = na) (hst : st = As.reverse ++ .ref b :: rest) (hrm : (rest.map fun v => v.category).sum ≤ 8) (hdg : decode cc pc = .ok (.invokespecial index, 3)) (hcs : cells + mc ≤ R.cells ∧ slots + ms ≤ R.slots) :
    va_Run p l e R s m args below meth c H locs cells slots mc ms (F0 m pc ls st) rest (mQn D cl tys tb n ad n' σ' H.size (Value.ref b :: As).toArray) (mA n ad H.size) :=
  va_runIN S (hM H.size) cw ⟨mPreN_blind, fun U hU hW => ⟨rfl, ⟨by rw [hU], by rw [hU]; exact M.2.1, va_K.moved hW.alike M.1, M.2.2.1.weaken (fun _ _ _ _ => trivial)⟩, nW_w hW N⟩⟩ rfl hn hl hst (lv_room hrm) hdg hcs
theorem m_inA (M : mM D cl tys A s n tb ad σ H locs) (hA : ∀ q, s.heap.size ≤ q → A q) : ∀ q, mA n ad H.size q → A q := by
  intro q hq
  rcases hq with ⟨k, hk, rfl⟩ | hq
  · exact M.2.2.1.2 k _ (wd_get hk rfl)
  · exact hA q (Nat.le_trans M.2.2.2.1 hq)
theorem m_xn (hr : va_Run p l e R s m args below meth c H locs cells slots mc ms (F0 m pc ls st) rest (mQn D cl tys tb n ad n' σ' H.size a) (mA n ad H.size)) (M : mM D cl tys A s n tb ad σ H locs) (hA : ∀ q, s.heap.size ≤ q → A q)
    (kk : ∀ (ad1 : Nat → Nat) (H1 : Heap) (locs1 : List Loc), (∀ k, k < n → ad1 k = ad k) → mM D cl tys A s n' tb ad1 σ' H1 locs1 → W p l e R s m args below meth c H1 locs1 (cells + mc) (slots + ms) Q (F0 m (pc + 3) ls rest)) : W p l e R s m args below meth c H locs cells slots Q (F0 m pc ls st) := by
  refine va_callv hr M.2.2.2 (fun q _ h => m_inA M hA q h) (fun q h => m_inA M hA q h) (fun u t H1 locs1 ht hvm hw hB hz hk hS => ?_)
  exact kk u H1 locs1 hw ⟨M.1, by rw [← ht]; exact hB.1, hB.2.2.weaken (fun _ _ _ h => m_inA M hA _ h), hS⟩
theorem m_ofN {tl : List Cond} {av : List Value} {ret : Option FieldType} {Qc : Nat → Array Value → State → Outcome → State → Prop} (hy : plainName y.cls = true) (hlen : (lg_sl av).length ≤ maxL)
    (body : ∀ (p : Program) (e : Env) (s : State) (m : MethodId) (args : Array Value) (below : List Frame) (meth : Method) (c : Code) (ls : Array Slot), CallFix p m c cc maxL s args tl y.cls → meth.sig.returnType = ret → meth.locks = false → meth.name = y.name → lv_has ls maxL (lv_args 0 av) → nW s → mM D cl tys (mA n ad s.heap.size) s n tb ad σ s.heap [] →
      W p l e rm s m args below meth c s.heap [] 0 0 (MQ below (Qc s.heap.size) args s mc ms (mA n ad s.heap.size)) (F0 m 0 ls [])) (sz : Nat) :
    Met l y (.code y cc maxL ret :: tl) rm (va_Pc av (mPreN D cl tys n tb ad σ sz)) (Qc sz) mc ms (mA n ad sz) := by
  refine Met.ofW (cc := cc) (maxL := maxL) (ret := ret) hy rfl ?_
  intro p e s m args below meth c s₁ B hml hv
  obtain ⟨rfl, ⟨hsz, hP, hK, hD0⟩, hN⟩ := hv
  subst hsz
  have hts := atoms_spec (ws := .code y cc maxL ret :: tl) B.pre
  have hl := lv_entry av (n := maxL) hlen
  rw [lg_entry_eq]
  generalize (lg_sl av ++ List.replicate (maxL - (lg_sl av).length) Slot.unset).toArray = ls at hl ⊢
  exact body p e s m _ below meth c ls ⟨B.exec, B.bytes, hml, findClass_of_methodNamed B.named, fun w h => hts w (List.mem_cons_of_mem _ h)⟩ B.returns B.notSynchronized (name_of_methodNamed B.named B.method).1 hl hN ⟨hK, hP, mD_self hD0, va_S.rf⟩
theorem m_nret {ad0 : Nat → Nat} {n0 : Nat} (S : CallFix p m c cc nL s args Ts own) (hr : meth.sig.returnType = none) (hlk : meth.locks = false) (hag : ∀ k, k < n0 → ad k = ad0 k) (M : mM D cl tys (mA n0 ad0 s.heap.size) s n tb ad σ H locs) (hdg : decode cc pc = .ok (.return_, 1)) :
    W p l e R s m args below meth c H locs cells slots (MQ below (mQn D cl tys tb n0 ad0 n σ s.heap.size) args s cells slots (mA n0 ad0 s.heap.size)) (F0 m pc ls []) :=
  W.vret S.1 S.2.1 hr (fun t ht hW => ⟨⟨ad, rfl, hag, by rw [ht]; exact M.2.1, va_K.moved hW.alike M.1, M.2.2.1⟩, M.2.2.2.F ht⟩) M.2.2.2.2.2 hdg hlk
end MNC
section CWI
variable {R : Room} {s : State} {args : Array Value} {own host : String} {index maxL n mc ms : Nat} {y : MethodName} {bytes : ByteArray} {rm : Room}
theorem cwGI (hts : ∀ w ∈ tlG, w.before args s = true) (h1 : Cond.methodLink own index y ∈ tlG) (h2 : Cond.instanceMethod y ∈ tlG) (h4 : Cond.initialized y.cls ∈ tlG) (h5 : Cond.code y bytes maxL none ∈ tlG) (hy : y.name = "<init>")
    (hd : y.cls ≠ "java/lang/invoke/MethodHandle" ∧ y.cls ≠ "java/lang/invoke/VarHandle" ∧ (parseMethodDescriptor y.desc).map (fun d => d.parameters.length) = some n) (hR : rm.frames + 1 ≤ R.frames ∧ 8 + (maxL + 11) + rm.locals ≤ R.locals) (hc : rm.cells = mc := by rfl) (hs : rm.slots = ms := by rfl) :
    CallB R s args own index y bytes maxL none (Cond.code y bytes maxL none :: tlG) rm mc ms n ∧ y.name = "<init>" ∧ (Cond.instanceMethod y).before args s = true :=
  cwI n hts (tl_good fun w hw => (List.mem_cons.mp hw).elim (fun e => by rw [e]; exact h5) id) rfl hc hs (hts _ h4) (hts _ h1) (hts _ h2) hy hd hR
theorem cwGN (hts : ∀ w ∈ tlG, w.before args s = true) (h1 : va_Nw (.methodLinkNest own index y host) s) (h2 : Cond.instanceMethod y ∈ tlG) (h4 : Cond.initialized y.cls ∈ tlG) (h5 : Cond.code y bytes maxL none ∈ tlG) (hy : y.name = "<init>")
    (hd : y.cls ≠ "java/lang/invoke/MethodHandle" ∧ y.cls ≠ "java/lang/invoke/VarHandle" ∧ (parseMethodDescriptor y.desc).map (fun d => d.parameters.length) = some n) (hR : rm.frames + 1 ≤ R.frames ∧ 8 + (maxL + 11) + rm.locals ≤ R.locals) (hc : rm.cells = mc := by rfl) (hs : rm.slots = ms := by rfl) :
    va_CN R s args own index y host bytes maxL none (Cond.code y bytes maxL none :: tlG) rm mc ms n ∧ y.name = "<init>" ∧ (Cond.instanceMethod y).before args s = true :=
  ⟨va_cnB n hts (tl_good fun w hw => (List.mem_cons.mp hw).elim (fun e => by rw [e]; exact h5) id) rfl hc hs h1 (hts _ h4) hd hR, hy, hts _ h2⟩
end CWI
