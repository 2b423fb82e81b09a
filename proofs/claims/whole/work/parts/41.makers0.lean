def tbC (cA : Nat → Nat) : Nat → mK := fun k => match k with
  | 0 => .inr (0, [0, 2, 2, 2, 2, 2, 2, 2, 2])
  | 1 => .inr (2, [2, 2, 2, 2, 2, 2, 0, 0, 1, 0])
  | 2 => .inl (0, 40, cA 0)
  | 3 => .inl (0, 40, cA 0)
  | 4 => .inl (0, 40, cA 0)
  | 5 => .inl (0, 40, cA 0)
  | 6 => .inl (0, 40, cA 0)
  | 7 => .inl (0, 10, cA 0)
  | 8 => .inr (5, [2, 0, 2, 2, 2, 2, 0, 0, 0, 1, 0, 0])
  | 9 => .inl (0, 10, cA 0)
  | 10 => .inl (0, 10, cA 0)
  | 11 => .inl (0, 10, cA 0)
  | 12 => .inr (7, [0, 2, 2, 2, 0])
  | 13 => .inl (0, 10, cA 0)
  | 14 => .inl (0, 10, cA 0)
  | 15 => .inl (1, 10, cA 1)
  | 16 => .inr (5, [2, 0, 2, 2, 2, 2, 0, 0, 0, 1, 0, 0])
  | 17 => .inl (0, 10, cA 0)
  | 18 => .inl (0, 10, cA 0)
  | 19 => .inl (0, 10, cA 0)
  | 20 => .inr (7, [0, 2, 2, 2, 0])
  | 21 => .inl (0, 10, cA 0)
  | 22 => .inl (0, 10, cA 0)
  | 23 => .inl (1, 10, cA 1)
  | 24 => .inr (1, [2, 2, 0])
  | 25 => .inr (4, [2, 2, 2, 2, 0, 0, 0, 0])
  | 26 => .inl (2, 31, cA 3)
  | 91 => .inr (3, [2, 2, 2])
  | 92 => .inr (8, [2, 0, 0, 0, 1])
  | 93 => .inl (0, 10, cA 0)
  | 94 => .inr (9, [2, 2])
  | 95 => .inl (0, 10, cA 0)
  | 96 => .inr (6, [2, 2, 2])
  | 97 => .inl (1, 10, cA 1)
  | 98 => .inl (1, 10, cA 1)
  | 99 => .inr (10, [0, 0, 0, 2, 2, 2, 2, 2, 2, 2, 2, 2, 2, 2, 2, 2, 2, 2, 2, 0, 0, 0, 0, 0, 2, 2, 2, 2, 2, 0, 0, 2])
  | 100 => .inl (0, 40, cA 0)
  | 101 => .inl (0, 40, cA 0)
  | 102 => .inl (0, 40, cA 0)
  | 103 => .inl (0, 40, cA 0)
  | 104 => .inl (0, 40, cA 0)
  | 105 => .inl (0, 40, cA 2)
  | 106 => .inl (0, 10, cA 2)
  | 107 => .inl (0, 10, cA 0)
  | 108 => .inl (0, 10, cA 0)
  | 109 => .inl (0, 10, cA 0)
  | 110 => .inl (0, 10, cA 0)
  | 111 => .inl (0, 20, cA 0)
  | 112 => .inl (0, 20, cA 2)
  | 113 => .inl (0, 12, cA 0)
  | 114 => .inl (0, 12, cA 0)
  | 115 => .inl (0, 12, cA 0)
  | 116 => .inl (0, 31, cA 0)
  | 117 => .inl (0, 31, cA 0)
  | 118 => .inl (0, 310, cA 0)
  | 119 => .inl (1, 10, cA 1)
  | 120 => .inl (1, 10, cA 1)
  | 121 => .inl (0, 12, cA 0)
  | k => if k % 2 = 1 then .inr (8, [2, 0, 0, 0, 1]) else .inl (0, 10, cA 0)
theorem tC_dy (cA : Nat → Nat) : ∀ k, mDy (tbC cA k) := by
  intro k ci ts h t ht
  unfold tbC at h
  split at h <;> first | (cases h; done) | (cases h; simp at ht; omega) | (split at h <;> first | (cases h; done) | (cases h; simp at ht; omega))
theorem tC_S0 {cA : Nat → Nat} {b : Nat} (h : sB b) : tbC cA (b) = .inr (5, [2, 0, 2, 2, 2, 2, 0, 0, 0, 1, 0, 0]) := by rcases h with rfl | rfl <;> rfl
theorem tC_S1 {cA : Nat → Nat} {b : Nat} (h : sB b) : tbC cA (b + 1) = .inl (0, 10, cA 0) := by rcases h with rfl | rfl <;> rfl
theorem tC_S2 {cA : Nat → Nat} {b : Nat} (h : sB b) : tbC cA (b + 2) = .inl (0, 10, cA 0) := by rcases h with rfl | rfl <;> rfl
theorem tC_S3 {cA : Nat → Nat} {b : Nat} (h : sB b) : tbC cA (b + 3) = .inl (0, 10, cA 0) := by rcases h with rfl | rfl <;> rfl
theorem tC_S4 {cA : Nat → Nat} {b : Nat} (h : sB b) : tbC cA (b + 4) = .inr (7, [0, 2, 2, 2, 0]) := by rcases h with rfl | rfl <;> rfl
theorem tC_W0 {cA : Nat → Nat} {b : Nat} (h : wB b) : tbC cA (b) = .inr (7, [0, 2, 2, 2, 0]) := by rcases h with rfl | rfl <;> rfl
theorem tC_W1 {cA : Nat → Nat} {b : Nat} (h : wB b) : tbC cA (b + 1) = .inl (0, 10, cA 0) := by rcases h with rfl | rfl <;> rfl
theorem tC_W2 {cA : Nat → Nat} {b : Nat} (h : wB b) : tbC cA (b + 2) = .inl (0, 10, cA 0) := by rcases h with rfl | rfl <;> rfl
theorem tC_W3 {cA : Nat → Nat} {b : Nat} (h : wB b) : tbC cA (b + 3) = .inl (1, 10, cA 1) := by rcases h with rfl | rfl <;> rfl
theorem tC_Y0 {cA : Nat → Nat} {w : Nat} (h : wy w = true) : tbC cA w = .inr (8, [2, 0, 0, 0, 1]) := by
  rcases wy_cases h with rfl | rfl | rfl | rfl | rfl | rfl | rfl | rfl | rfl | rfl | rfl | rfl | rfl | rfl | rfl | rfl | rfl | rfl | rfl | rfl | rfl | rfl | rfl | rfl | rfl | rfl | rfl | rfl | rfl | rfl | rfl | rfl | rfl <;> rfl
theorem tC_Y1 {cA : Nat → Nat} {w : Nat} (h : wy w = true) : tbC cA (w + 1) = .inl (0, 10, cA 0) := by
  rcases wy_cases h with rfl | rfl | rfl | rfl | rfl | rfl | rfl | rfl | rfl | rfl | rfl | rfl | rfl | rfl | rfl | rfl | rfl | rfl | rfl | rfl | rfl | rfl | rfl | rfl | rfl | rfl | rfl | rfl | rfl | rfl | rfl | rfl | rfl <;> rfl
section MN3
variable {p : Program} {l : Launch} {e : Env} {R : Room} {s : State} {m : MethodId} {args : Array Value} {below : List Frame} {meth : Method} {c : Code} {H : Heap} {locs : List Loc} {cells slots : Nat} {Q : State → Prop}
variable {cc : ByteArray} {pc nL : Nat} {ls : Array Slot} {rest st : List Value} {D : va_G} {cl : List vw_C} {A : Nat → Prop} {tys : List (Nat × FieldType)} {Ts : List Cond} {own : String} {n : Nat} {tb : Nat → mK} {ad : Nat → Nat} {σ : mS}
theorem m_giA {ref C : String} {T : u_T} {N ci index k j a : Nat} {ty : Nat → FieldType} {ts : List Nat} {v : Int32} (S : CallFix p m c cc nL s args Ts own) (M : mM D cl tys A s n tb ad σ H locs) (hC : mC Ts cl ci C T N ty) (hak : ad k = a) (hk : k < n) (ht : tb k = .inr (ci, ts)) (hj : j < N) (h0 : ts[j]? = some 0) (hlink : Cond.fieldLink own index ref (T j).2.1 (T j).2.2.1 ∈ Ts) (hr : (T j).1 = ref) (hv : σ.1 k j = v) (hdg : decode cc pc = .ok (.getfield index, 3))
    (kk : W p l e R s m args below meth c H locs cells slots Q (F0 m (pc + 3) ls (.int v :: rest))) : W p l e R s m args below meth c H locs cells slots Q (F0 m pc ls (.ref a :: rest)) := by
  subst hak
  subst hv
  exact m_gi S M hC hk ht hj h0 hlink hr hdg kk
theorem m_gq {ref C : String} {T : u_T} {N ci index k j y a : Nat} {ty : Nat → FieldType} {ts : List Nat} (S : CallFix p m c cc nL s args Ts own) (M : mM D cl tys A s n tb ad σ H locs) (hC : mC Ts cl ci C T N ty) (hak : ad k = a) (hk : k < n) (ht : tb k = .inr (ci, ts)) (hj : j < N) (h0 : ts[j]? = some 2) (hlink : Cond.fieldLink own index ref (T j).2.1 (T j).2.2.1 ∈ Ts) (hr : (T j).1 = ref) (hq : σ.2.2 k j = some y) (hdg : decode cc pc = .ok (.getfield index, 3))
    (kk : W p l e R s m args below meth c H locs cells slots Q (F0 m (pc + 3) ls (.ref (ad y) :: rest))) : W p l e R s m args below meth c H locs cells slots Q (F0 m pc ls (.ref a :: rest)) := by
  subst hak
  exact va_get S.1 S.2.1 S.2.2.2.2 hC.1 S.2.2.2.1 M.1 M.2.1 k (wd_get hk ht) hC.2.1 j hj (S.2.2.2.2 _ hlink) (fun x hx => by rw [← hr]; exact hx) (v := .ref (ad y)) (by simp [List.getElem?_mapIdx, h0, mV, hq, va_rf]) hdg kk
end MN3
theorem nz_n {x : Int32} (h : x = 0 ∨ x = 1) : narrow .boolean (.int x) = .int x := by rcases h with rfl | rfl <;> rfl
theorem nz_f {x : Int32} (h : x = 0 ∨ x = 1) : fits .boolean (.int x) = true := by rcases h with rfl | rfl <;> rfl
set_option maxRecDepth 100000 in
theorem kc_0 : Cond.methodLink "LeastPaths$Graph" 3 ⟨"java/lang/Object", "<init>", "()V"⟩ ∈ tlG := tl_at 33 rfl rfl
set_option maxRecDepth 100000 in
theorem kc_1 : Cond.instanceMethod ⟨"java/lang/Object", "<init>", "()V"⟩ ∈ tlG := tl_at 20 rfl rfl
set_option maxRecDepth 100000 in
theorem kc_2 : Cond.code ⟨"java/lang/Object", "<init>", "()V"⟩ object_method_1_code 1 (Option.none : Option Jvm.ClassFile.FieldType) ∈ tlG := tl_at 21 rfl rfl
set_option maxRecDepth 100000 in
theorem kc_3 : Cond.fieldLink "LeastPaths$Graph" 9 "LeastPaths$Graph" "from" "[I" ∈ tlG := tl_at 34 rfl rfl
set_option maxRecDepth 100000 in
theorem kc_4 : Cond.fieldLink "LeastPaths$Graph" 15 "LeastPaths$Graph" "to" "[I" ∈ tlG := tl_at 40 rfl rfl
set_option maxRecDepth 100000 in
theorem kc_5 : Cond.fieldLink "LeastPaths$Graph" 18 "LeastPaths$Graph" "weight" "[I" ∈ tlG := tl_at 46 rfl rfl
set_option maxRecDepth 100000 in
theorem kc_6 : Cond.fieldLink "LeastPaths$Graph" 21 "LeastPaths$Graph" "above" "[I" ∈ tlG := tl_at 51 rfl rfl
set_option maxRecDepth 100000 in
theorem kc_7 : Cond.fieldLink "LeastPaths$Graph" 24 "LeastPaths$Graph" "below" "[I" ∈ tlG := tl_at 54 rfl rfl
set_option maxRecDepth 100000 in
theorem kc_8 : Cond.fieldLink "LeastPaths$Graph" 27 "LeastPaths$Graph" "rest" "[I" ∈ tlG := tl_at 57 rfl rfl
set_option maxRecDepth 100000 in
theorem kc_9 : Cond.methodLink "LeastPaths$Waiting" 3 ⟨"java/lang/Object", "<init>", "()V"⟩ ∈ tlG := tl_at 109 rfl rfl
set_option maxRecDepth 100000 in
theorem kc_10 : Cond.fieldLink "LeastPaths$Waiting" 9 "LeastPaths$Waiting" "nodeAt" "[I" ∈ tlG := tl_at 112 rfl rfl
set_option maxRecDepth 100000 in
theorem kc_11 : Cond.fieldLink "LeastPaths$Waiting" 15 "LeastPaths$Waiting" "placeOf" "[I" ∈ tlG := tl_at 113 rfl rfl
set_option maxRecDepth 100000 in
theorem kc_12 : Cond.fieldLink "LeastPaths$Waiting" 18 "LeastPaths$Waiting" "rankOf" "[J" ∈ tlG := tl_at 114 rfl rfl
set_option maxRecDepth 100000 in
theorem kc_13 : Cond.methodLink "LeastPaths$Waiting" 22 ⟨"java/lang/Math", "max", "(II)I"⟩ ∈ tlG := tl_at 110 rfl rfl
set_option maxRecDepth 100000 in
theorem kc_14 : Cond.static ⟨"java/lang/Math", "max", "(II)I"⟩ ∈ tlG := tl_at 23 rfl rfl
set_option maxRecDepth 100000 in
theorem kc_15 : Cond.initialized "java/lang/Math" ∈ tlG := tl_at 2 rfl rfl
set_option maxRecDepth 100000 in
theorem kc_16 : Cond.code ⟨"java/lang/Math", "max", "(II)I"⟩ prog_14_method_65_code 2 (Option.some Jvm.ClassFile.FieldType.int) ∈ tlG := tl_at 24 rfl rfl
set_option maxRecDepth 100000 in
theorem kc_17 : Cond.fieldLink "LeastPaths$Waiting" 28 "LeastPaths$Waiting" "children" "I" ∈ tlG := tl_at 111 rfl rfl
set_option maxRecDepth 100000 in
theorem kc_18 : Cond.methodLink "LeastPaths$Way" 3 ⟨"java/lang/Object", "<init>", "()V"⟩ ∈ tlG := tl_at 199 rfl rfl
set_option maxRecDepth 100000 in
theorem kc_19 : Cond.fieldLink "LeastPaths$Way" 9 "LeastPaths$Way" "arcs" "[I" ∈ tlG := tl_at 200 rfl rfl
set_option maxRecDepth 100000 in
theorem kc_20 : Cond.methodLink "LeastPaths$Search" 3 ⟨"java/lang/Object", "<init>", "()V"⟩ ∈ tlG := tl_at 103 rfl rfl
set_option maxRecDepth 100000 in
theorem kc_21 : Cond.fieldLink "LeastPaths$Search" 9 "LeastPaths$Search" "number" "[I" ∈ tlG := tl_at 131 rfl rfl
set_option maxRecDepth 100000 in
theorem kc_22 : Cond.fieldLink "LeastPaths$Search" 15 "LeastPaths$Search" "order" "[I" ∈ tlG := tl_at 135 rfl rfl
set_option maxRecDepth 100000 in
theorem kc_23 : Cond.fieldLink "LeastPaths$Search" 18 "LeastPaths$Search" "waysTo" "[I" ∈ tlG := tl_at 136 rfl rfl
set_option maxRecDepth 100000 in
theorem kc_24 : Cond.fieldLink "LeastPaths$Search" 21 "LeastPaths$Search" "graph" "LLeastPaths$Graph;" ∈ tlG := tl_at 128 rfl rfl
set_option maxRecDepth 100000 in
theorem kc_25 : Cond.fieldLink "LeastPaths$Search" 25 "LeastPaths$Search" "against" "Z" ∈ tlG := tl_at 129 rfl rfl
set_option maxRecDepth 100000 in
theorem kc_26 : Cond.classLink "LeastPaths$Search" 29 "LeastPaths$Waiting" ∈ tlG := tl_at 104 rfl rfl
set_option maxRecDepth 100000 in
theorem kc_27 : Cond.initialized "LeastPaths$Waiting" ∈ tlG := tl_at 5 rfl rfl
set_option maxRecDepth 100000 in
theorem kc_28 : Cond.methodLink "LeastPaths$Search" 31 ⟨"LeastPaths$Waiting", "<init>", "(I)V"⟩ ∈ tlG := tl_at 106 rfl rfl
set_option maxRecDepth 100000 in
theorem kc_29 : Cond.instanceMethod ⟨"LeastPaths$Waiting", "<init>", "(I)V"⟩ ∈ tlG := tl_at 107 rfl rfl
set_option maxRecDepth 100000 in
theorem kc_30 : Cond.code ⟨"LeastPaths$Waiting", "<init>", "(I)V"⟩ prog_8_method_1_code 2 (Option.none : Option Jvm.ClassFile.FieldType) ∈ tlG := tl_at 108 rfl rfl
set_option maxRecDepth 100000 in
theorem kc_31 : Cond.fieldLink "LeastPaths$Search" 34 "LeastPaths$Search" "waiting" "LLeastPaths$Waiting;" ∈ tlG := tl_at 130 rfl rfl
set_option maxRecDepth 100000 in
theorem kc_32 : Cond.methodLink "LeastPaths$BothSides" 3 ⟨"java/lang/Object", "<init>", "()V"⟩ ∈ tlG := tl_at 175 rfl rfl
set_option maxRecDepth 100000 in
theorem kc_33 : Cond.fieldLink "LeastPaths$BothSides" 9 "LeastPaths$BothSides" "ahead" "LLeastPaths$Search;" ∈ tlG := tl_at 176 rfl rfl
set_option maxRecDepth 100000 in
theorem kc_34 : Cond.fieldLink "LeastPaths$BothSides" 15 "LeastPaths$BothSides" "back" "LLeastPaths$Search;" ∈ tlG := tl_at 177 rfl rfl
set_option maxRecDepth 100000 in
theorem kc_35 : Cond.methodLink "LeastPaths$Rings" 3 ⟨"java/lang/Object", "<init>", "()V"⟩ ∈ tlG := tl_at 256 rfl rfl
set_option maxRecDepth 100000 in
theorem kc_36 : Cond.classLink "LeastPaths$Rings" 9 "LeastPaths$Way" ∈ tlG := tl_at 257 rfl rfl
set_option maxRecDepth 100000 in
theorem kc_37 : Cond.initialized "LeastPaths$Way" ∈ tlG := tl_at 8 rfl rfl
set_option maxRecDepth 100000 in
theorem kc_38 : Cond.instanceMethod ⟨"LeastPaths$Way", "<init>", "()V"⟩ ∈ tlG := tl_at 197 rfl rfl
set_option maxRecDepth 100000 in
theorem kc_39 : Cond.code ⟨"LeastPaths$Way", "<init>", "()V"⟩ prog_9_method_1_code 1 (Option.none : Option Jvm.ClassFile.FieldType) ∈ tlG := tl_at 198 rfl rfl
set_option maxRecDepth 100000 in
theorem kc_40 : Cond.fieldLink "LeastPaths$Rings" 12 "LeastPaths$Rings" "least" "LLeastPaths$Way;" ∈ tlG := tl_at 261 rfl rfl
set_option maxRecDepth 100000 in
theorem kc_41 : Cond.fieldLink "LeastPaths$Rings" 18 "LeastPaths$Rings" "graph" "LLeastPaths$Graph;" ∈ tlG := tl_at 259 rfl rfl
set_option maxRecDepth 100000 in
theorem kc_42 : Cond.fieldLink "LeastPaths$Rings" 22 "LeastPaths$Rings" "back" "LLeastPaths$Search;" ∈ tlG := tl_at 260 rfl rfl
set_option maxRecDepth 100000 in
theorem kc_43 : Cond.methodLink "LeastPaths$Widths" 3 ⟨"java/lang/Object", "<init>", "()V"⟩ ∈ tlG := tl_at 275 rfl rfl
set_option maxRecDepth 100000 in
theorem kc_44 : Cond.fieldLink "LeastPaths$Widths" 9 "LeastPaths$Widths" "width" "[I" ∈ tlG := tl_at 277 rfl rfl
set_option maxRecDepth 100000 in
theorem kc_45 : Cond.fieldLink "LeastPaths$Widths" 15 "LeastPaths$Widths" "graph" "LLeastPaths$Graph;" ∈ tlG := tl_at 276 rfl rfl
set_option maxRecDepth 100000 in
theorem kc_46 : Cond.methodLink "LeastPaths$Trusts" 3 ⟨"java/lang/Object", "<init>", "()V"⟩ ∈ tlG := tl_at 289 rfl rfl
set_option maxRecDepth 100000 in
theorem kc_47 : Cond.fieldLink "LeastPaths$Trusts" 9 "LeastPaths$Trusts" "above" "[J" ∈ tlG := tl_at 291 rfl rfl
set_option maxRecDepth 100000 in
theorem kc_48 : Cond.fieldLink "LeastPaths$Trusts" 15 "LeastPaths$Trusts" "below" "[J" ∈ tlG := tl_at 292 rfl rfl
set_option maxRecDepth 100000 in
theorem kc_49 : Cond.fieldLink "LeastPaths$Trusts" 18 "LeastPaths$Trusts" "graph" "LLeastPaths$Graph;" ∈ tlG := tl_at 290 rfl rfl
set_option maxRecDepth 100000 in
theorem kc_50 : Cond.methodLink "LeastPaths$Row" 3 ⟨"java/lang/Object", "<init>", "()V"⟩ ∈ tlG := tl_at 192 rfl rfl
set_option maxRecDepth 100000 in
theorem kc_51 : Cond.classLink "LeastPaths$Row" 9 "LeastPaths$Way" ∈ tlG := tl_at 193 rfl rfl
set_option maxRecDepth 100000 in
theorem kc_52 : Cond.fieldLink "LeastPaths$Row" 11 "LeastPaths$Row" "ways" "[LLeastPaths$Way;" ∈ tlG := tl_at 226 rfl rfl
set_option maxRecDepth 100000 in
theorem kc_53 : Cond.fieldLink "LeastPaths$Row" 18 "LeastPaths$Row" "nothing" "LLeastPaths$Way;" ∈ tlG := tl_at 228 rfl rfl
set_option maxRecDepth 100000 in
theorem kc_54 : Cond.fieldLink "LeastPaths$Row" 22 "LeastPaths$Row" "graph" "LLeastPaths$Graph;" ∈ tlG := tl_at 224 rfl rfl
set_option maxRecDepth 100000 in
theorem kc_55 : Cond.fieldLink "LeastPaths$Row" 26 "LeastPaths$Row" "back" "LLeastPaths$Search;" ∈ tlG := tl_at 225 rfl rfl
set_option maxRecDepth 100000 in
theorem kc_56 : Cond.methodLink "LeastPaths" 3 ⟨"java/lang/Object", "<init>", "()V"⟩ ∈ tlG := tl_at 19 rfl rfl
set_option maxRecDepth 100000 in
theorem kc_57 : Cond.methodLink "LeastPaths" 11 ⟨"java/lang/Math", "max", "(II)I"⟩ ∈ tlG := tl_at 22 rfl rfl
set_option maxRecDepth 100000 in
theorem kc_58 : Cond.methodLink "LeastPaths" 17 ⟨"java/lang/Math", "min", "(II)I"⟩ ∈ tlG := tl_at 25 rfl rfl
set_option maxRecDepth 100000 in
theorem kc_59 : Cond.static ⟨"java/lang/Math", "min", "(II)I"⟩ ∈ tlG := tl_at 26 rfl rfl
set_option maxRecDepth 100000 in
theorem kc_60 : Cond.code ⟨"java/lang/Math", "min", "(II)I"⟩ prog_14_method_69_code 2 (Option.some Jvm.ClassFile.FieldType.int) ∈ tlG := tl_at 27 rfl rfl
set_option maxRecDepth 100000 in
theorem kc_61 : Cond.fieldLink "LeastPaths" 20 "LeastPaths" "heap" "I" ∈ tlG := tl_at 300 rfl rfl
set_option maxRecDepth 100000 in
theorem kc_62 : Cond.classLink "LeastPaths" 24 "LeastPaths$Graph" ∈ tlG := tl_at 28 rfl rfl
set_option maxRecDepth 100000 in
theorem kc_63 : Cond.initialized "LeastPaths$Graph" ∈ tlG := tl_at 3 rfl rfl
set_option maxRecDepth 100000 in
theorem kc_64 : Cond.instanceMethod ⟨"LeastPaths$Graph", "<init>", "()V"⟩ ∈ tlG := tl_at 31 rfl rfl
set_option maxRecDepth 100000 in
theorem kc_65 : Cond.code ⟨"LeastPaths$Graph", "<init>", "()V"⟩ prog_3_method_1_code 1 (Option.none : Option Jvm.ClassFile.FieldType) ∈ tlG := tl_at 32 rfl rfl
set_option maxRecDepth 100000 in
theorem kc_66 : Cond.fieldLink "LeastPaths" 27 "LeastPaths" "graph" "LLeastPaths$Graph;" ∈ tlG := tl_at 301 rfl rfl
set_option maxRecDepth 100000 in
theorem kc_67 : Cond.classLink "LeastPaths" 31 "LeastPaths$Search" ∈ tlG := tl_at 98 rfl rfl
set_option maxRecDepth 100000 in
theorem kc_68 : Cond.initialized "LeastPaths$Search" ∈ tlG := tl_at 4 rfl rfl
set_option maxRecDepth 100000 in
theorem kc_69 : Cond.methodLink "LeastPaths" 33 ⟨"LeastPaths$Search", "<init>", "(LLeastPaths$Graph;ZI)V"⟩ ∈ tlG := tl_at 100 rfl rfl
set_option maxRecDepth 100000 in
theorem kc_70 : Cond.instanceMethod ⟨"LeastPaths$Search", "<init>", "(LLeastPaths$Graph;ZI)V"⟩ ∈ tlG := tl_at 101 rfl rfl
set_option maxRecDepth 100000 in
theorem kc_71 : Cond.code ⟨"LeastPaths$Search", "<init>", "(LLeastPaths$Graph;ZI)V"⟩ prog_6_method_1_code 4 (Option.none : Option Jvm.ClassFile.FieldType) ∈ tlG := tl_at 102 rfl rfl
set_option maxRecDepth 100000 in
theorem kc_72 : Cond.fieldLink "LeastPaths" 36 "LeastPaths" "ahead" "LLeastPaths$Search;" ∈ tlG := tl_at 302 rfl rfl
set_option maxRecDepth 100000 in
theorem kc_73 : Cond.fieldLink "LeastPaths" 40 "LeastPaths" "back" "LLeastPaths$Search;" ∈ tlG := tl_at 303 rfl rfl
set_option maxRecDepth 100000 in
theorem kc_74 : Cond.classLink "LeastPaths" 43 "LeastPaths$BothSides" ∈ tlG := tl_at 170 rfl rfl
set_option maxRecDepth 100000 in
theorem kc_75 : Cond.initialized "LeastPaths$BothSides" ∈ tlG := tl_at 6 rfl rfl
set_option maxRecDepth 100000 in
theorem kc_76 : Cond.methodLink "LeastPaths" 45 ⟨"LeastPaths$BothSides", "<init>", "(LLeastPaths$Search;LLeastPaths$Search;)V"⟩ ∈ tlG := tl_at 172 rfl rfl
set_option maxRecDepth 100000 in
theorem kc_77 : Cond.instanceMethod ⟨"LeastPaths$BothSides", "<init>", "(LLeastPaths$Search;LLeastPaths$Search;)V"⟩ ∈ tlG := tl_at 173 rfl rfl
set_option maxRecDepth 100000 in
theorem kc_78 : Cond.code ⟨"LeastPaths$BothSides", "<init>", "(LLeastPaths$Search;LLeastPaths$Search;)V"⟩ prog_2_method_1_code 3 (Option.none : Option Jvm.ClassFile.FieldType) ∈ tlG := tl_at 174 rfl rfl
set_option maxRecDepth 100000 in
theorem kc_79 : Cond.fieldLink "LeastPaths" 48 "LeastPaths" "sides" "LLeastPaths$BothSides;" ∈ tlG := tl_at 304 rfl rfl
set_option maxRecDepth 100000 in
theorem kc_80 : Cond.classLink "LeastPaths" 52 "LeastPaths$Row" ∈ tlG := tl_at 187 rfl rfl
set_option maxRecDepth 100000 in
theorem kc_81 : Cond.initialized "LeastPaths$Row" ∈ tlG := tl_at 7 rfl rfl
set_option maxRecDepth 100000 in
theorem kc_82 : Cond.methodLink "LeastPaths" 54 ⟨"LeastPaths$Row", "<init>", "(LLeastPaths$Graph;LLeastPaths$Search;)V"⟩ ∈ tlG := tl_at 189 rfl rfl
set_option maxRecDepth 100000 in
theorem kc_83 : Cond.instanceMethod ⟨"LeastPaths$Row", "<init>", "(LLeastPaths$Graph;LLeastPaths$Search;)V"⟩ ∈ tlG := tl_at 190 rfl rfl
set_option maxRecDepth 100000 in
theorem kc_84 : Cond.code ⟨"LeastPaths$Row", "<init>", "(LLeastPaths$Graph;LLeastPaths$Search;)V"⟩ prog_5_method_1_code 4 (Option.none : Option Jvm.ClassFile.FieldType) ∈ tlG := tl_at 191 rfl rfl
set_option maxRecDepth 100000 in
theorem kc_85 : Cond.fieldLink "LeastPaths" 57 "LeastPaths" "row" "LLeastPaths$Row;" ∈ tlG := tl_at 305 rfl rfl
set_option maxRecDepth 100000 in
theorem kc_86 : Cond.classLink "LeastPaths" 61 "LeastPaths$Rings" ∈ tlG := tl_at 251 rfl rfl
set_option maxRecDepth 100000 in
theorem kc_87 : Cond.initialized "LeastPaths$Rings" ∈ tlG := tl_at 9 rfl rfl
set_option maxRecDepth 100000 in
theorem kc_88 : Cond.methodLink "LeastPaths" 63 ⟨"LeastPaths$Rings", "<init>", "(LLeastPaths$Graph;LLeastPaths$Search;)V"⟩ ∈ tlG := tl_at 253 rfl rfl
set_option maxRecDepth 100000 in
theorem kc_89 : Cond.instanceMethod ⟨"LeastPaths$Rings", "<init>", "(LLeastPaths$Graph;LLeastPaths$Search;)V"⟩ ∈ tlG := tl_at 254 rfl rfl
set_option maxRecDepth 100000 in
theorem kc_90 : Cond.code ⟨"LeastPaths$Rings", "<init>", "(LLeastPaths$Graph;LLeastPaths$Search;)V"⟩ prog_4_method_1_code 3 (Option.none : Option Jvm.ClassFile.FieldType) ∈ tlG := tl_at 255 rfl rfl
set_option maxRecDepth 100000 in
theorem kc_91 : Cond.fieldLink "LeastPaths" 64 "LeastPaths" "rings" "LLeastPaths$Rings;" ∈ tlG := tl_at 306 rfl rfl
set_option maxRecDepth 100000 in
theorem kc_92 : Cond.classLink "LeastPaths" 68 "LeastPaths$Widths" ∈ tlG := tl_at 270 rfl rfl
set_option maxRecDepth 100000 in
theorem kc_93 : Cond.initialized "LeastPaths$Widths" ∈ tlG := tl_at 10 rfl rfl
set_option maxRecDepth 100000 in
theorem kc_94 : Cond.methodLink "LeastPaths" 70 ⟨"LeastPaths$Widths", "<init>", "(LLeastPaths$Graph;)V"⟩ ∈ tlG := tl_at 272 rfl rfl
set_option maxRecDepth 100000 in
theorem kc_95 : Cond.instanceMethod ⟨"LeastPaths$Widths", "<init>", "(LLeastPaths$Graph;)V"⟩ ∈ tlG := tl_at 273 rfl rfl
set_option maxRecDepth 100000 in
theorem kc_96 : Cond.code ⟨"LeastPaths$Widths", "<init>", "(LLeastPaths$Graph;)V"⟩ prog_10_method_1_code 2 (Option.none : Option Jvm.ClassFile.FieldType) ∈ tlG := tl_at 274 rfl rfl
set_option maxRecDepth 100000 in
theorem kc_97 : Cond.fieldLink "LeastPaths" 73 "LeastPaths" "widths" "LLeastPaths$Widths;" ∈ tlG := tl_at 307 rfl rfl
set_option maxRecDepth 100000 in
theorem kc_98 : Cond.classLink "LeastPaths" 77 "LeastPaths$Trusts" ∈ tlG := tl_at 284 rfl rfl
set_option maxRecDepth 100000 in
theorem kc_99 : Cond.initialized "LeastPaths$Trusts" ∈ tlG := tl_at 11 rfl rfl
set_option maxRecDepth 100000 in
theorem kc_100 : Cond.methodLink "LeastPaths" 79 ⟨"LeastPaths$Trusts", "<init>", "(LLeastPaths$Graph;)V"⟩ ∈ tlG := tl_at 286 rfl rfl
set_option maxRecDepth 100000 in
theorem kc_101 : Cond.instanceMethod ⟨"LeastPaths$Trusts", "<init>", "(LLeastPaths$Graph;)V"⟩ ∈ tlG := tl_at 287 rfl rfl
set_option maxRecDepth 100000 in
theorem kc_102 : Cond.code ⟨"LeastPaths$Trusts", "<init>", "(LLeastPaths$Graph;)V"⟩ prog_7_method_1_code 2 (Option.none : Option Jvm.ClassFile.FieldType) ∈ tlG := tl_at 288 rfl rfl
set_option maxRecDepth 100000 in
theorem kc_103 : Cond.fieldLink "LeastPaths" 80 "LeastPaths" "trusts" "LLeastPaths$Trusts;" ∈ tlG := tl_at 308 rfl rfl
set_option maxRecDepth 100000 in
theorem kc_104 : Cond.methodLink "LeastPathsModel" 1 ⟨"java/lang/Object", "<init>", "()V"⟩ ∈ tlG := tl_at 695 rfl rfl
set_option maxRecDepth 100000 in
theorem kc_105 : Cond.fieldLink "LeastPathsModel" 7 "LeastPathsModel" "from" "[I" ∈ tlG := tl_at 699 rfl rfl
set_option maxRecDepth 100000 in
theorem kc_106 : Cond.fieldLink "LeastPathsModel" 13 "LeastPathsModel" "to" "[I" ∈ tlG := tl_at 700 rfl rfl
set_option maxRecDepth 100000 in
theorem kc_107 : Cond.fieldLink "LeastPathsModel" 16 "LeastPathsModel" "weight" "[I" ∈ tlG := tl_at 701 rfl rfl
set_option maxRecDepth 100000 in
theorem kc_108 : Cond.fieldLink "LeastPathsModel" 19 "LeastPathsModel" "above" "[I" ∈ tlG := tl_at 702 rfl rfl
set_option maxRecDepth 100000 in
theorem kc_109 : Cond.fieldLink "LeastPathsModel" 22 "LeastPathsModel" "below" "[I" ∈ tlG := tl_at 703 rfl rfl
set_option maxRecDepth 100000 in
theorem kc_110 : Cond.fieldLink "LeastPathsModel" 25 "LeastPathsModel" "alive" "[Z" ∈ tlG := tl_at 704 rfl rfl
set_option maxRecDepth 100000 in
theorem kc_111 : Cond.fieldLink "LeastPathsModel" 29 "LeastPathsModel" "isSource" "[Z" ∈ tlG := tl_at 705 rfl rfl
set_option maxRecDepth 100000 in
theorem kc_112 : Cond.fieldLink "LeastPathsModel" 32 "LeastPathsModel" "rests" "[I" ∈ tlG := tl_at 706 rfl rfl
set_option maxRecDepth 100000 in
theorem kc_113 : Cond.fieldLink "LeastPathsModel" 35 "LeastPathsModel" "far" "[I" ∈ tlG := tl_at 707 rfl rfl
set_option maxRecDepth 100000 in
theorem kc_114 : Cond.fieldLink "LeastPathsModel" 38 "LeastPathsModel" "hop" "[I" ∈ tlG := tl_at 708 rfl rfl
set_option maxRecDepth 100000 in
theorem kc_115 : Cond.fieldLink "LeastPathsModel" 41 "LeastPathsModel" "many" "[I" ∈ tlG := tl_at 709 rfl rfl
set_option maxRecDepth 100000 in
theorem kc_116 : Cond.fieldLink "LeastPathsModel" 44 "LeastPathsModel" "number" "[I" ∈ tlG := tl_at 710 rfl rfl
set_option maxRecDepth 100000 in
theorem kc_117 : Cond.fieldLink "LeastPathsModel" 47 "LeastPathsModel" "settled" "[Z" ∈ tlG := tl_at 711 rfl rfl
set_option maxRecDepth 100000 in
theorem kc_118 : Cond.fieldLink "LeastPathsModel" 50 "LeastPathsModel" "path" "[I" ∈ tlG := tl_at 712 rfl rfl
set_option maxRecDepth 100000 in
theorem kc_119 : Cond.fieldLink "LeastPathsModel" 53 "LeastPathsModel" "tried" "[I" ∈ tlG := tl_at 713 rfl rfl
set_option maxRecDepth 100000 in
theorem kc_120 : Cond.fieldLink "LeastPathsModel" 56 "LeastPathsModel" "place" "[I" ∈ tlG := tl_at 714 rfl rfl
set_option maxRecDepth 100000 in
theorem kc_121 : Cond.fieldLink "LeastPathsModel" 59 "LeastPathsModel" "rowFrom" "I" ∈ tlG := tl_at 717 rfl rfl
set_option maxRecDepth 100000 in
theorem kc_122 : Cond.fieldLink "LeastPathsModel" 63 "LeastPathsModel" "rowLength" "[I" ∈ tlG := tl_at 720 rfl rfl
set_option maxRecDepth 100000 in
theorem kc_123 : Cond.fieldLink "LeastPathsModel" 66 "LeastPathsModel" "rowSize" "[I" ∈ tlG := tl_at 721 rfl rfl
set_option maxRecDepth 100000 in
theorem kc_124 : Cond.fieldLink "LeastPathsModel" 69 "LeastPathsModel" "rowArcs" "[I" ∈ tlG := tl_at 722 rfl rfl
set_option maxRecDepth 100000 in
theorem kc_125 : Cond.fieldLink "LeastPathsModel" 72 "LeastPathsModel" "over" "[J" ∈ tlG := tl_at 723 rfl rfl
set_option maxRecDepth 100000 in
theorem kc_126 : Cond.fieldLink "LeastPathsModel" 76 "LeastPathsModel" "under" "[J" ∈ tlG := tl_at 724 rfl rfl
set_option maxRecDepth 100000 in
theorem kc_127 : Cond.fieldLink "LeastPathsModel" 79 "LeastPathsModel" "ringPath" "[I" ∈ tlG := tl_at 727 rfl rfl
set_option maxRecDepth 100000 in
theorem kc_128 : Cond.fieldLink "LeastPathsModel" 82 "LeastPathsModel" "heap" "I" ∈ tlG := tl_at 696 rfl rfl
set_option maxRecDepth 100000 in
theorem ka_int : Cond.arrayClass .int ∈ tlG := tl_at 97 rfl rfl
set_option maxRecDepth 100000 in
theorem ka_long : Cond.arrayClass .long ∈ tlG := tl_at 127 rfl rfl
set_option maxRecDepth 100000 in
theorem kn_Wa : Cond.instantiable "LeastPaths$Waiting" 5 ∈ tlG := tl_at 105 rfl rfl
set_option maxRecDepth 100000 in
theorem kd_Wa : ∀ j, j < 5 → defaultValue (ty_Wa j) = vp_V (List.map mV0 [0, 2, 2, 2, 0]) j := by
  intro j hj
  match j, hj with
  | 0, _ => rfl
  | 1, _ => rfl
  | 2, _ => rfl
  | 3, _ => rfl
  | 4, _ => rfl
  | k + 5, h => omega
set_option maxRecDepth 100000 in
theorem kn_Wy : Cond.instantiable "LeastPaths$Way" 5 ∈ tlG := tl_at 195 rfl rfl
set_option maxRecDepth 100000 in
theorem kd_Wy : ∀ j, j < 5 → defaultValue (ty_Wy j) = vp_V (List.map mV0 [2, 0, 0, 0, 1]) j := by
  intro j hj
  match j, hj with
  | 0, _ => rfl
  | 1, _ => rfl
  | 2, _ => rfl
  | 3, _ => rfl
  | 4, _ => rfl
  | k + 5, h => omega
set_option maxRecDepth 100000 in
theorem kn_Gr : Cond.instantiable "LeastPaths$Graph" 10 ∈ tlG := tl_at 29 rfl rfl
set_option maxRecDepth 100000 in
theorem kd_Gr : ∀ j, j < 10 → defaultValue (ty_Gr j) = vp_V (List.map mV0 [2, 2, 2, 2, 2, 2, 0, 0, 1, 0]) j := by
  intro j hj
  match j, hj with
  | 0, _ => rfl
  | 1, _ => rfl
  | 2, _ => rfl
  | 3, _ => rfl
  | 4, _ => rfl
  | 5, _ => rfl
  | 6, _ => rfl
  | 7, _ => rfl
  | 8, _ => rfl
  | 9, _ => rfl
  | k + 10, h => omega
set_option maxRecDepth 100000 in
theorem kn_Se : Cond.instantiable "LeastPaths$Search" 12 ∈ tlG := tl_at 99 rfl rfl
set_option maxRecDepth 100000 in
theorem kd_Se : ∀ j, j < 12 → defaultValue (ty_Se j) = vp_V (List.map mV0 [2, 0, 2, 2, 2, 2, 0, 0, 0, 1, 0, 0]) j := by
  intro j hj
  match j, hj with
  | 0, _ => rfl
  | 1, _ => rfl
  | 2, _ => rfl
  | 3, _ => rfl
  | 4, _ => rfl
  | 5, _ => rfl
  | 6, _ => rfl
  | 7, _ => rfl
  | 8, _ => rfl
  | 9, _ => rfl
  | 10, _ => rfl
  | 11, _ => rfl
  | k + 12, h => omega
set_option maxRecDepth 100000 in
theorem kn_BS : Cond.instantiable "LeastPaths$BothSides" 3 ∈ tlG := tl_at 171 rfl rfl
set_option maxRecDepth 100000 in
theorem kd_BS : ∀ j, j < 3 → defaultValue (ty_BS j) = vp_V (List.map mV0 [2, 2, 0]) j := by
  intro j hj
  match j, hj with
  | 0, _ => rfl
  | 1, _ => rfl
  | 2, _ => rfl
  | k + 3, h => omega
set_option maxRecDepth 100000 in
theorem kn_Rw : Cond.instantiable "LeastPaths$Row" 8 ∈ tlG := tl_at 188 rfl rfl
set_option maxRecDepth 100000 in
theorem kd_Rw : ∀ j, j < 8 → defaultValue (ty_Rw j) = vp_V (List.map mV0 [2, 2, 2, 2, 0, 0, 0, 0]) j := by
  intro j hj
  match j, hj with
  | 0, _ => rfl
  | 1, _ => rfl
  | 2, _ => rfl
  | 3, _ => rfl
  | 4, _ => rfl
  | 5, _ => rfl
  | 6, _ => rfl
  | 7, _ => rfl
  | k + 8, h => omega
set_option maxRecDepth 100000 in
theorem kn_Rg : Cond.instantiable "LeastPaths$Rings" 3 ∈ tlG := tl_at 252 rfl rfl
set_option maxRecDepth 100000 in
theorem kd_Rg : ∀ j, j < 3 → defaultValue (ty_Rg j) = vp_V (List.map mV0 [2, 2, 2]) j := by
  intro j hj
  match j, hj with
  | 0, _ => rfl
  | 1, _ => rfl
  | 2, _ => rfl
  | k + 3, h => omega
set_option maxRecDepth 100000 in
theorem kn_Wi : Cond.instantiable "LeastPaths$Widths" 2 ∈ tlG := tl_at 271 rfl rfl
set_option maxRecDepth 100000 in
theorem kd_Wi : ∀ j, j < 2 → defaultValue (ty_Wi j) = vp_V (List.map mV0 [2, 2]) j := by
  intro j hj
  match j, hj with
  | 0, _ => rfl
  | 1, _ => rfl
  | k + 2, h => omega
set_option maxRecDepth 100000 in
theorem kn_Tr : Cond.instantiable "LeastPaths$Trusts" 3 ∈ tlG := tl_at 285 rfl rfl
set_option maxRecDepth 100000 in
theorem kd_Tr : ∀ j, j < 3 → defaultValue (ty_Tr j) = vp_V (List.map mV0 [2, 2, 2]) j := by
  intro j hj
  match j, hj with
  | 0, _ => rfl
  | 1, _ => rfl
  | 2, _ => rfl
  | k + 3, h => omega
set_option maxRecDepth 100000 in
theorem ka_boolean : Cond.arrayClass .boolean ∈ tlG := tl_at 793 rfl rfl
