-- ===== CALLS over the typed memory: a callee gets the whole memory and gives it back =====
theorem lpN_W1 {S X : Type} {st : S → Option (S ⊕ X)} (P : S → Prop) (Qx : X → Prop) (hs : ∀ s o, st s = some o → (∀ s', o = .inl s' → P s') → (∀ x, o = .inr x → Qx x) → P s) (n : Nat) (s : S) (x : X) (h : lpN st n s = some x) (hq : Qx x) : P s :=
  lpN_W P Qx (fun s o h k => hs s o h (fun s' e => by subst e; exact k) (fun x e => by subst e; exact k)) n s x h hq
section MCall
variable {p : Program} {l : Launch} {e : Env} {R : Room} {s : State} {m : MethodId} {args : Array Value} {below : List Frame} {meth : Method} {c : Code} {H : Heap} {locs : List Loc} {cells slots : Nat} {Q : State → Prop}
variable {cc : ByteArray} {pc nL : Nat} {ls : Array Slot} {rest st : List Value} {D : va_G} {cl : List vw_C} {tys : List (Nat × FieldType)} {Ts : List Cond} {own : String} {n : Nat} {tb : Nat → mK} {ad : Nat → Nat} {σ : mS}
variable {β : Type} {r : β} {y : MethodName} {bytes : ByteArray} {maxL na index ci k N : Nat} {ret : Option FieldType} {ws : List Cond} {rm : Room} {Qc : Array Value → State → Outcome → State → Prop} {C host : String} {As : List Value} {T : u_T} {ty : Nat → FieldType} {ts : List Nat} {a : Array Value}
theorem m_rV (S : CallFix p m c cc nL s args Ts own) (M : mM D cl tys (mA n ad s.heap.size) s n tb ad σ H locs) (hl : ls.size = nL) (cw : CallW R s args own C index y bytes maxL ret ws rm 0 0 na) (hC : mC Ts cl ci C T N ty) (hk : k < n) (ht : tb k = .inr (ci, ts)) (hM : Met l y ws rm (va_Pc (.ref (ad k) :: As) (mPre D cl tys n tb ad σ H.size)) Qc 0 0 (mA n ad H.size)) (hn : As.length = na) (hst : st = As.reverse ++ .ref (ad k) :: rest) (hrm : (rest.map fun v => v.category).sum ≤ 8) (hdg : decode cc pc = .ok (.invokevirtual index, 3)) (hcs : cells ≤ R.cells ∧ slots ≤ R.slots) :
    va_Run p l e R s m args below meth c H locs cells slots 0 0 (F0 m pc ls st) rest (Qc (Value.ref (ad k) :: As).toArray) (mA n ad H.size) :=
  va_runV S hM cw ⟨mPre_blind, va_recv M.1 M.2.1 hC.2.1 (wd_get hk ht), fun U hU hW => ⟨rfl, by rw [hU], by rw [hU]; exact M.2.1, va_K.moved hW.alike M.1, M.2.2.1.weaken (fun _ _ _ _ => trivial)⟩⟩ rfl hn hl hst (lv_room hrm) hdg hcs
theorem m_rVN (S : CallFix p m c cc nL s args Ts own) (M : mM D cl tys (mA n ad s.heap.size) s n tb ad σ H locs) (hl : ls.size = nL) (cw : va_CN R s args own index y host bytes maxL ret ws rm 0 0 na ∧ (Cond.instanceMethod y).before args s = true ∧ (Cond.selects C y y).before args s = true) (hC : mC Ts cl ci C T N ty) (hk : k < n) (ht : tb k = .inr (ci, ts)) (hM : Met l y ws rm (va_Pc (.ref (ad k) :: As) (mPre D cl tys n tb ad σ H.size)) Qc 0 0 (mA n ad H.size)) (hn : As.length = na) (hst : st = As.reverse ++ .ref (ad k) :: rest) (hrm : (rest.map fun v => v.category).sum ≤ 8) (hdg : decode cc pc = .ok (.invokevirtual index, 3)) (hcs : cells ≤ R.cells ∧ slots ≤ R.slots) :
    va_Run p l e R s m args below meth c H locs cells slots 0 0 (F0 m pc ls st) rest (Qc (Value.ref (ad k) :: As).toArray) (mA n ad H.size) :=
  va_runVN S hM cw ⟨mPre_blind, va_recv M.1 M.2.1 hC.2.1 (wd_get hk ht), fun U hU hW => ⟨rfl, by rw [hU], by rw [hU]; exact M.2.1, va_K.moved hW.alike M.1, M.2.2.1.weaken (fun _ _ _ _ => trivial)⟩⟩ rfl hn hl hst (lv_room hrm) hdg hcs
theorem m_rS (S : CallFix p m c cc nL s args Ts own) (M : mM D cl tys (mA n ad s.heap.size) s n tb ad σ H locs) (hl : ls.size = nL) (cw : CallB R s args own index y bytes maxL ret ws rm 0 0 na ∧ (Cond.static y).before args s = true) (hM : Met l y ws rm (va_Pc As (mPre D cl tys n tb ad σ H.size)) Qc 0 0 (mA n ad H.size)) (hn : As.length = na) (hst : st = As.reverse ++ rest) (hrm : (rest.map fun v => v.category).sum ≤ 8) (hdg : decode cc pc = .ok (.invokestatic index, 3)) (hcs : cells ≤ R.cells ∧ slots ≤ R.slots) :
    va_Run p l e R s m args below meth c H locs cells slots 0 0 (F0 m pc ls st) rest (Qc As.toArray) (mA n ad H.size) :=
  va_runS S hM cw ⟨mPre_blind, fun U hU hW => ⟨rfl, by rw [hU], by rw [hU]; exact M.2.1, va_K.moved hW.alike M.1, M.2.2.1.weaken (fun _ _ _ _ => trivial)⟩⟩ rfl hn hl hst (lv_room hrm) hdg hcs
theorem m_rSN (S : CallFix p m c cc nL s args Ts own) (M : mM D cl tys (mA n ad s.heap.size) s n tb ad σ H locs) (hl : ls.size = nL) (cw : va_CN R s args own index y host bytes maxL ret ws rm 0 0 na ∧ (Cond.static y).before args s = true ∧ True) (hM : Met l y ws rm (va_Pc As (mPre D cl tys n tb ad σ H.size)) Qc 0 0 (mA n ad H.size)) (hn : As.length = na) (hst : st = As.reverse ++ rest) (hrm : (rest.map fun v => v.category).sum ≤ 8) (hdg : decode cc pc = .ok (.invokestatic index, 3)) (hcs : cells ≤ R.cells ∧ slots ≤ R.slots) :
    va_Run p l e R s m args below meth c H locs cells slots 0 0 (F0 m pc ls st) rest (Qc As.toArray) (mA n ad H.size) :=
  va_runSN S hM cw ⟨mPre_blind, fun U hU hW => ⟨rfl, by rw [hU], by rw [hU]; exact M.2.1, va_K.moved hW.alike M.1, M.2.2.1.weaken (fun _ _ _ _ => trivial)⟩⟩ rfl hn hl hst (lv_room hrm) hdg hcs
/-- a call that answers an int and may change the memory -/
theorem m_xi {x : Option (Int32 × mS)} {f : Int32 × mS → Option β} (h : x.bind f = some r) (hr : ∀ o, x = some o → va_Run p l e R s m args below meth c H locs cells slots 0 0 (F0 m pc ls st) rest (mQi D cl tys n tb ad o H.size a) (mA n ad H.size)) (M : mM D cl tys (mA n ad s.heap.size) s n tb ad σ H locs)
    (kk : ∀ (o : Int32 × mS) (H1 : Heap) (locs1 : List Loc), f o = some r → mM D cl tys (mA n ad s.heap.size) s n tb ad o.2 H1 locs1 → W p l e R s m args below meth c H1 locs1 cells slots Q (F0 m (pc + 3) ls (.int o.1 :: rest))) : W p l e R s m args below meth c H locs cells slots Q (F0 m pc ls st) := by
  obtain ⟨o, ho, hf⟩ := Option.bind_eq_some_iff.mp h
  refine va_calli (hr o ho) M.2.2.2 (fun q _ h => mA_up M.2.2.2.1 h) (fun q h => mA_up M.2.2.2.1 h) (fun r u t H1 locs1 ht hvm hw hB hz hk hS => ?_)
  have hw : r = o.1 := hw
  subst hw
  exact kk o H1 locs1 hf ⟨M.1, by rw [← ht]; exact hB.1, hB.2.2.weaken (fun _ _ _ h => mA_up M.2.2.2.1 h), hS⟩
/-- a call that answers an int and changes nothing -/
theorem m_xip {x : Option Int32} {f : Int32 → Option β} (h : x.bind f = some r) (hr : ∀ o, x = some o → va_Run p l e R s m args below meth c H locs cells slots 0 0 (F0 m pc ls st) rest (mQi D cl tys n tb ad (o, σ) H.size a) (mA n ad H.size)) (M : mM D cl tys (mA n ad s.heap.size) s n tb ad σ H locs)
    (kk : ∀ (o : Int32) (H1 : Heap) (locs1 : List Loc), f o = some r → mM D cl tys (mA n ad s.heap.size) s n tb ad σ H1 locs1 → W p l e R s m args below meth c H1 locs1 cells slots Q (F0 m (pc + 3) ls (.int o :: rest))) : W p l e R s m args below meth c H locs cells slots Q (F0 m pc ls st) := by
  obtain ⟨o, ho, hf⟩ := Option.bind_eq_some_iff.mp h
  refine va_calli (hr o ho) M.2.2.2 (fun q _ h => mA_up M.2.2.2.1 h) (fun q h => mA_up M.2.2.2.1 h) (fun r u t H1 locs1 ht hvm hw hB hz hk hS => ?_)
  have hw : r = o := hw
  subst hw
  exact kk r H1 locs1 hf ⟨M.1, by rw [← ht]; exact hB.1, hB.2.2.weaken (fun _ _ _ h => mA_up M.2.2.2.1 h), hS⟩
theorem m_xlp {x : Option Int64} {f : Int64 → Option β} (h : x.bind f = some r) (hr : ∀ o, x = some o → va_Run p l e R s m args below meth c H locs cells slots 0 0 (F0 m pc ls st) rest (mQl D cl tys n tb ad (o, σ) H.size a) (mA n ad H.size)) (M : mM D cl tys (mA n ad s.heap.size) s n tb ad σ H locs)
    (kk : ∀ (o : Int64) (H1 : Heap) (locs1 : List Loc), f o = some r → mM D cl tys (mA n ad s.heap.size) s n tb ad σ H1 locs1 → W p l e R s m args below meth c H1 locs1 cells slots Q (F0 m (pc + 3) ls (.long o :: rest))) : W p l e R s m args below meth c H locs cells slots Q (F0 m pc ls st) := by
  obtain ⟨o, ho, hf⟩ := Option.bind_eq_some_iff.mp h
  refine va_calll (hr o ho) M.2.2.2 (fun q _ h => mA_up M.2.2.2.1 h) (fun q h => mA_up M.2.2.2.1 h) (fun r u t H1 locs1 ht hvm hw hB hz hk hS => ?_)
  have hw : r = o := hw
  subst hw
  exact kk r H1 locs1 hf ⟨M.1, by rw [← ht]; exact hB.1, hB.2.2.weaken (fun _ _ _ h => mA_up M.2.2.2.1 h), hS⟩
theorem m_xl {x : Option (Int64 × mS)} {f : Int64 × mS → Option β} (h : x.bind f = some r) (hr : ∀ o, x = some o → va_Run p l e R s m args below meth c H locs cells slots 0 0 (F0 m pc ls st) rest (mQl D cl tys n tb ad o H.size a) (mA n ad H.size)) (M : mM D cl tys (mA n ad s.heap.size) s n tb ad σ H locs)
    (kk : ∀ (o : Int64 × mS) (H1 : Heap) (locs1 : List Loc), f o = some r → mM D cl tys (mA n ad s.heap.size) s n tb ad o.2 H1 locs1 → W p l e R s m args below meth c H1 locs1 cells slots Q (F0 m (pc + 3) ls (.long o.1 :: rest))) : W p l e R s m args below meth c H locs cells slots Q (F0 m pc ls st) := by
  obtain ⟨o, ho, hf⟩ := Option.bind_eq_some_iff.mp h
  refine va_calll (hr o ho) M.2.2.2 (fun q _ h => mA_up M.2.2.2.1 h) (fun q h => mA_up M.2.2.2.1 h) (fun r u t H1 locs1 ht hvm hw hB hz hk hS => ?_)
  have hw : r = o.1 := hw
  subst hw
  exact kk o H1 locs1 hf ⟨M.1, by rw [← ht]; exact hB.1, hB.2.2.weaken (fun _ _ _ h => mA_up M.2.2.2.1 h), hS⟩
theorem m_xv {x : Option mS} {f : mS → Option β} (h : x.bind f = some r) (hr : ∀ o, x = some o → va_Run p l e R s m args below meth c H locs cells slots 0 0 (F0 m pc ls st) rest (mQv D cl tys n tb ad o H.size a) (mA n ad H.size)) (M : mM D cl tys (mA n ad s.heap.size) s n tb ad σ H locs)
    (kk : ∀ (o : mS) (H1 : Heap) (locs1 : List Loc), f o = some r → mM D cl tys (mA n ad s.heap.size) s n tb ad o H1 locs1 → W p l e R s m args below meth c H1 locs1 cells slots Q (F0 m (pc + 3) ls rest)) : W p l e R s m args below meth c H locs cells slots Q (F0 m pc ls st) := by
  obtain ⟨o, ho, hf⟩ := Option.bind_eq_some_iff.mp h
  refine va_callv (hr o ho) M.2.2.2 (fun q _ h => mA_up M.2.2.2.1 h) (fun q h => mA_up M.2.2.2.1 h) (fun u t H1 locs1 ht hvm hw hB hz hk hS => ?_)
  exact kk o H1 locs1 hf ⟨M.1, by rw [← ht]; exact hB.1, hB.2.2.weaken (fun _ _ _ h => mA_up M.2.2.2.1 h), hS⟩
end MCall
-- ===== a contract out of a walk =====
section MOf
variable {l : Launch} {y : MethodName} {tl : List Cond} {rm : Room} {D : va_G} {cl : List vw_C} {tys : List (Nat × FieldType)} {n : Nat} {tb : Nat → mK} {ad : Nat → Nat} {σ : mS} {av : List Value} {cc : ByteArray} {maxL : Nat}
/-- what the walk of a body starts from -/
theorem m_of {ret : Option FieldType} {Qc : Nat → Array Value → State → Outcome → State → Prop} (hy : plainName y.cls = true) (hlen : (lg_sl av).length ≤ maxL)
    (body : ∀ (p : Program) (e : Env) (s : State) (m : MethodId) (args : Array Value) (below : List Frame) (meth : Method) (c : Code) (ls : Array Slot), CallFix p m c cc maxL s args tl y.cls → meth.sig.returnType = ret → meth.locks = false → meth.name = y.name → lv_has ls maxL (lv_args 0 av) → mM D cl tys (mA n ad s.heap.size) s n tb ad σ s.heap [] →
      W p l e rm s m args below meth c s.heap [] 0 0 (MQ below (Qc s.heap.size) args s 0 0 (mA n ad s.heap.size)) (F0 m 0 ls [])) (sz : Nat) :
    Met l y (.code y cc maxL ret :: tl) rm (va_Pc av (mPre D cl tys n tb ad σ sz)) (Qc sz) 0 0 (mA n ad sz) := by
  refine Met.ofW (cc := cc) (maxL := maxL) (ret := ret) hy rfl ?_
  intro p e s m args below meth c s₁ B hml hv
  obtain ⟨rfl, hsz, hP, hK, hD0⟩ := hv
  subst hsz
  have hts := atoms_spec (ws := .code y cc maxL ret :: tl) B.pre
  have hl := lv_entry av (n := maxL) hlen
  rw [lg_entry_eq]
  generalize (lg_sl av ++ List.replicate (maxL - (lg_sl av).length) Slot.unset).toArray = ls at hl ⊢
  exact body p e s m _ below meth c ls ⟨B.exec, B.bytes, hml, findClass_of_methodNamed B.named, fun w h => hts w (List.mem_cons_of_mem _ h)⟩ B.returns B.notSynchronized (name_of_methodNamed B.named B.method).1 hl ⟨hK, hP, mD_self hD0, va_S.rf⟩
end MOf
section MRet
variable {p : Program} {l : Launch} {e : Env} {R : Room} {s : State} {m : MethodId} {args : Array Value} {below : List Frame} {meth : Method} {c : Code} {H : Heap} {locs : List Loc}
variable {cc : ByteArray} {pc nL : Nat} {ls : Array Slot} {D : va_G} {cl : List vw_C} {tys : List (Nat × FieldType)} {Ts : List Cond} {own : String} {n : Nat} {tb : Nat → mK} {ad : Nat → Nat} {σ : mS}
theorem m_iret {v : Int32} {o : Int32 × mS} (S : CallFix p m c cc nL s args Ts own) (hr : meth.sig.returnType = some .int) (hlk : meth.locks = false) (M : mM D cl tys (mA n ad s.heap.size) s n tb ad σ H locs) (h : (v, σ) = o) (hdg : decode cc pc = .ok (.ireturn, 1)) :
    W p l e R s m args below meth c H locs 0 0 (MQ below (mQi D cl tys n tb ad o s.heap.size) args s 0 0 (mA n ad s.heap.size)) (F0 m pc ls [.int v]) := by
  subst h
  exact W.iret S.1 S.2.1 hr (fun t ht hW => ⟨⟨v, (), rfl, rfl, by rw [ht]; exact M.2.1, va_K.moved hW.alike M.1, M.2.2.1⟩, M.2.2.2.F ht⟩) M.2.2.2.2.2 hdg hlk
theorem m_zret {v : Int32} {o : Int32 × mS} (S : CallFix p m c cc nL s args Ts own) (hr : meth.sig.returnType = some .boolean) (hlk : meth.locks = false) (M : mM D cl tys (mA n ad s.heap.size) s n tb ad σ H locs) (h : (v, σ) = o) (hb : isB v = true) (hdg : decode cc pc = .ok (.ireturn, 1)) :
    W p l e R s m args below meth c H locs 0 0 (MQ below (mQi D cl tys n tb ad o s.heap.size) args s 0 0 (mA n ad s.heap.size)) (F0 m pc ls [.int v]) := by
  subst h
  have hv : v = 0 ∨ v = 1 := of_decide_eq_true hb
  exact W.zret S.1 S.2.1 hr (by rcases hv with rfl | rfl <;> rfl) (fun t ht hW => ⟨⟨v, (), rfl, rfl, by rw [ht]; exact M.2.1, va_K.moved hW.alike M.1, M.2.2.1⟩, M.2.2.2.F ht⟩) M.2.2.2.2.2 hdg hlk
theorem m_lret {v : Int64} {o : Int64 × mS} (S : CallFix p m c cc nL s args Ts own) (hr : meth.sig.returnType = some .long) (hlk : meth.locks = false) (M : mM D cl tys (mA n ad s.heap.size) s n tb ad σ H locs) (h : (v, σ) = o) (hdg : decode cc pc = .ok (.lreturn, 1)) :
    W p l e R s m args below meth c H locs 0 0 (MQ below (mQl D cl tys n tb ad o s.heap.size) args s 0 0 (mA n ad s.heap.size)) (F0 m pc ls [.long v]) := by
  subst h
  exact W.lret S.1 S.2.1 hr (fun t ht hW => ⟨⟨v, (), rfl, rfl, by rw [ht]; exact M.2.1, va_K.moved hW.alike M.1, M.2.2.1⟩, M.2.2.2.F ht⟩) M.2.2.2.2.2 hdg hlk
theorem m_vret {o : mS} (S : CallFix p m c cc nL s args Ts own) (hr : meth.sig.returnType = none) (hlk : meth.locks = false) (M : mM D cl tys (mA n ad s.heap.size) s n tb ad σ H locs) (h : σ = o) (hdg : decode cc pc = .ok (.return_, 1)) :
    W p l e R s m args below meth c H locs 0 0 (MQ below (mQv D cl tys n tb ad o s.heap.size) args s 0 0 (mA n ad s.heap.size)) (F0 m pc ls []) := by
  subst h
  exact W.vret S.1 S.2.1 hr (fun t ht hW => ⟨⟨(), rfl, trivial, by rw [ht]; exact M.2.1, va_K.moved hW.alike M.1, M.2.2.1⟩, M.2.2.2.F ht⟩) M.2.2.2.2.2 hdg hlk
end MRet
theorem lpN_W2 {S X Y : Type} {st : S → Option (S ⊕ (X ⊕ Y))} (P : S → Prop) (Qe : X → Prop) (Qr : Y → Prop) (hs : ∀ s o, st s = some o → (∀ s', o = .inl s' → P s') → (∀ x, o = .inr (.inl x) → Qe x) → (∀ y, o = .inr (.inr y) → Qr y) → P s) (n : Nat) (s : S) (x : X ⊕ Y) (h : lpN st n s = some x) (he : ∀ q, x = .inl q → Qe q) (hr : ∀ q, x = .inr q → Qr q) : P s :=
  lpN_W1 P (fun x => (∀ q, x = .inl q → Qe q) ∧ ∀ q, x = .inr q → Qr q) (fun s o h k1 k2 => hs s o h k1 (fun x e => (k2 _ e).1 x rfl) (fun y e => (k2 _ e).2 y rfl)) n s x h ⟨he, hr⟩
/-- how often a loop may go round: of the one side, of the other -/
def fuS : Nat := 1000
def fuB : Nat := 10 ^ 40
