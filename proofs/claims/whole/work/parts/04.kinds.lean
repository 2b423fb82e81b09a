-- ===== words: the tables' good ones =====
def tlG : List Cond := lw_tbl.filter goodWord
theorem tl_at {w : Cond} (i : Nat) (h : tables_1[i]? = some w) (hg : goodWord w = true) : w ∈ tlG := List.mem_filter.mpr ⟨List.mem_append_right _ (List.mem_of_getElem? h), hg⟩
theorem tl_sel {y : MethodName} {n : Nat} (i : Nat) (h : lw_privs[i]? = some (y, n)) : Cond.selects y.cls y y ∈ tlG := List.mem_filter.mpr ⟨List.mem_append_left _ (List.mem_map.mpr ⟨(y, n), List.mem_of_getElem? h, rfl⟩), rfl⟩
theorem tl_good {ws : List Cond} (h : ∀ w ∈ ws, w ∈ tlG) : GoodIn tlG ws := fun w hw => ⟨h w hw, good_of_word (List.mem_filter.mp (h w hw)).2⟩
section CWG
variable {R : Room} {s : State} {args : Array Value} {own C : String} {index maxL n : Nat} {y : MethodName} {bytes : ByteArray} {ret : Option FieldType} {rm : Room}
theorem cwG (hts : ∀ w ∈ tlG, w.before args s = true) (h1 : Cond.methodLink own index y ∈ tlG) (h2 : Cond.instanceMethod y ∈ tlG) (h3 : Cond.selects C y y ∈ tlG) (h4 : Cond.initialized C ∈ tlG) (h5 : Cond.code y bytes maxL ret ∈ tlG)
    (hd : y.cls = C ∧ y.cls ≠ "java/lang/invoke/MethodHandle" ∧ y.cls ≠ "java/lang/invoke/VarHandle" ∧ (parseMethodDescriptor y.desc).map (fun d => d.parameters.length) = some n) (hR : rm.frames + 1 ≤ R.frames ∧ 8 + (maxL + 11) + rm.locals ≤ R.locals) (hc : rm.cells = 0 := by rfl) (hs : rm.slots = 0 := by rfl) :
    CallW R s args own C index y bytes maxL ret (Cond.code y bytes maxL ret :: tlG) rm 0 0 n := by
  refine cwV n hts (tl_good fun w hw => ?_) rfl hc hs hd hR
  simp only [wsV, List.cons_append, List.nil_append, List.mem_cons] at hw
  rcases hw with rfl | rfl | rfl | rfl | rfl | hw <;> first | exact h1 | exact h2 | exact h3 | exact h4 | exact h5 | exact hw
theorem cwGS (hts : ∀ w ∈ tlG, w.before args s = true) (h1 : Cond.methodLink own index y ∈ tlG) (h2 : Cond.static y ∈ tlG) (h4 : Cond.initialized y.cls ∈ tlG) (h5 : Cond.code y bytes maxL ret ∈ tlG)
    (hd : y.cls ≠ "java/lang/invoke/MethodHandle" ∧ y.cls ≠ "java/lang/invoke/VarHandle" ∧ (parseMethodDescriptor y.desc).map (fun d => d.parameters.length) = some n) (hR : rm.frames + 1 ≤ R.frames ∧ 8 + (maxL + 11) + rm.locals ≤ R.locals) (hc : rm.cells = 0 := by rfl) (hs : rm.slots = 0 := by rfl) :
    CallB R s args own index y bytes maxL ret (Cond.code y bytes maxL ret :: tlG) rm 0 0 n ∧ (Cond.static y).before args s = true := by
  refine va_cwS n hts (tl_good fun w hw => ?_) rfl hc hs hd hR
  simp only [va_wsS, List.cons_append, List.nil_append, List.mem_cons] at hw
  rcases hw with rfl | rfl | rfl | rfl | hw <;> first | exact h1 | exact h2 | exact h4 | exact h5 | exact hw
end CWG
def T_LP : u_T := fun k => match k with
  | 0 => ("LeastPaths", "heap", "I", true)
  | 1 => ("LeastPaths", "graph", "LLeastPaths$Graph;", true)
  | 2 => ("LeastPaths", "ahead", "LLeastPaths$Search;", true)
  | 3 => ("LeastPaths", "back", "LLeastPaths$Search;", true)
  | 4 => ("LeastPaths", "sides", "LLeastPaths$BothSides;", true)
  | 5 => ("LeastPaths", "row", "LLeastPaths$Row;", true)
  | 6 => ("LeastPaths", "rings", "LLeastPaths$Rings;", true)
  | 7 => ("LeastPaths", "widths", "LLeastPaths$Widths;", true)
  | _ => ("LeastPaths", "trusts", "LLeastPaths$Trusts;", true)
def ty_LP : Nat → FieldType := fun k => match k with
  | 0 => .int
  | 1 => (.object "LeastPaths$Graph")
  | 2 => (.object "LeastPaths$Search")
  | 3 => (.object "LeastPaths$Search")
  | 4 => (.object "LeastPaths$BothSides")
  | 5 => (.object "LeastPaths$Row")
  | 6 => (.object "LeastPaths$Rings")
  | 7 => (.object "LeastPaths$Widths")
  | _ => (.object "LeastPaths$Trusts")
def T_BS : u_T := fun k => match k with
  | 0 => ("LeastPaths$BothSides", "ahead", "LLeastPaths$Search;", true)
  | 1 => ("LeastPaths$BothSides", "back", "LLeastPaths$Search;", true)
  | _ => ("LeastPaths$BothSides", "best", "I", false)
def ty_BS : Nat → FieldType := fun k => match k with
  | 0 => (.object "LeastPaths$Search")
  | 1 => (.object "LeastPaths$Search")
  | _ => .int
def T_Gr : u_T := fun k => match k with
  | 0 => ("LeastPaths$Graph", "from", "[I", true)
  | 1 => ("LeastPaths$Graph", "to", "[I", true)
  | 2 => ("LeastPaths$Graph", "weight", "[I", true)
  | 3 => ("LeastPaths$Graph", "above", "[I", true)
  | 4 => ("LeastPaths$Graph", "below", "[I", true)
  | 5 => ("LeastPaths$Graph", "rest", "[I", true)
  | 6 => ("LeastPaths$Graph", "nodes", "I", false)
  | 7 => ("LeastPaths$Graph", "arcs", "I", false)
  | 8 => ("LeastPaths$Graph", "live", "J", false)
  | _ => ("LeastPaths$Graph", "sources", "I", false)
def ty_Gr : Nat → FieldType := fun k => match k with
  | 0 => (.array .int)
  | 1 => (.array .int)
  | 2 => (.array .int)
  | 3 => (.array .int)
  | 4 => (.array .int)
  | 5 => (.array .int)
  | 6 => .int
  | 7 => .int
  | 8 => .long
  | _ => .int
def T_Rg : u_T := fun k => match k with
  | 0 => ("LeastPaths$Rings", "graph", "LLeastPaths$Graph;", true)
  | 1 => ("LeastPaths$Rings", "back", "LLeastPaths$Search;", true)
  | _ => ("LeastPaths$Rings", "least", "LLeastPaths$Way;", true)
def ty_Rg : Nat → FieldType := fun k => match k with
  | 0 => (.object "LeastPaths$Graph")
  | 1 => (.object "LeastPaths$Search")
  | _ => (.object "LeastPaths$Way")
def T_Rw : u_T := fun k => match k with
  | 0 => ("LeastPaths$Row", "graph", "LLeastPaths$Graph;", true)
  | 1 => ("LeastPaths$Row", "back", "LLeastPaths$Search;", true)
  | 2 => ("LeastPaths$Row", "ways", "[LLeastPaths$Way;", true)
  | 3 => ("LeastPaths$Row", "nothing", "LLeastPaths$Way;", true)
  | 4 => ("LeastPaths$Row", "size", "I", false)
  | 5 => ("LeastPaths$Row", "room", "I", false)
  | 6 => ("LeastPaths$Row", "start", "I", false)
  | _ => ("LeastPaths$Row", "goal", "I", false)
def ty_Rw : Nat → FieldType := fun k => match k with
  | 0 => (.object "LeastPaths$Graph")
  | 1 => (.object "LeastPaths$Search")
  | 2 => (.array (.object "LeastPaths$Way"))
  | 3 => (.object "LeastPaths$Way")
  | 4 => .int
  | 5 => .int
  | 6 => .int
  | _ => .int
def T_Se : u_T := fun k => match k with
  | 0 => ("LeastPaths$Search", "graph", "LLeastPaths$Graph;", true)
  | 1 => ("LeastPaths$Search", "against", "Z", true)
  | 2 => ("LeastPaths$Search", "waiting", "LLeastPaths$Waiting;", true)
  | 3 => ("LeastPaths$Search", "number", "[I", true)
  | 4 => ("LeastPaths$Search", "order", "[I", true)
  | 5 => ("LeastPaths$Search", "waysTo", "[I", true)
  | 6 => ("LeastPaths$Search", "settled", "I", false)
  | 7 => ("LeastPaths$Search", "known", "I", false)
  | 8 => ("LeastPaths$Search", "closed", "I", false)
  | 9 => ("LeastPaths$Search", "open", "J", false)
  | 10 => ("LeastPaths$Search", "perArc", "I", false)
  | _ => ("LeastPaths$Search", "byRests", "Z", false)
def ty_Se : Nat → FieldType := fun k => match k with
  | 0 => (.object "LeastPaths$Graph")
  | 1 => .boolean
  | 2 => (.object "LeastPaths$Waiting")
  | 3 => (.array .int)
  | 4 => (.array .int)
  | 5 => (.array .int)
  | 6 => .int
  | 7 => .int
  | 8 => .int
  | 9 => .long
  | 10 => .int
  | _ => .boolean
def T_Tr : u_T := fun k => match k with
  | 0 => ("LeastPaths$Trusts", "graph", "LLeastPaths$Graph;", true)
  | 1 => ("LeastPaths$Trusts", "above", "[J", true)
  | _ => ("LeastPaths$Trusts", "below", "[J", true)
def ty_Tr : Nat → FieldType := fun k => match k with
  | 0 => (.object "LeastPaths$Graph")
  | 1 => (.array .long)
  | _ => (.array .long)
def T_Wa : u_T := fun k => match k with
  | 0 => ("LeastPaths$Waiting", "children", "I", true)
  | 1 => ("LeastPaths$Waiting", "nodeAt", "[I", true)
  | 2 => ("LeastPaths$Waiting", "placeOf", "[I", true)
  | 3 => ("LeastPaths$Waiting", "rankOf", "[J", true)
  | _ => ("LeastPaths$Waiting", "size", "I", false)
def ty_Wa : Nat → FieldType := fun k => match k with
  | 0 => .int
  | 1 => (.array .int)
  | 2 => (.array .int)
  | 3 => (.array .long)
  | _ => .int
def T_Wy : u_T := fun k => match k with
  | 0 => ("LeastPaths$Way", "arcs", "[I", true)
  | 1 => ("LeastPaths$Way", "count", "I", false)
  | 2 => ("LeastPaths$Way", "number", "I", false)
  | 3 => ("LeastPaths$Way", "split", "I", false)
  | _ => ("LeastPaths$Way", "barred", "J", false)
def ty_Wy : Nat → FieldType := fun k => match k with
  | 0 => (.array .int)
  | 1 => .int
  | 2 => .int
  | 3 => .int
  | _ => .long
def T_Wi : u_T := fun k => match k with
  | 0 => ("LeastPaths$Widths", "graph", "LLeastPaths$Graph;", true)
  | _ => ("LeastPaths$Widths", "width", "[I", true)
def ty_Wi : Nat → FieldType := fun k => match k with
  | 0 => (.object "LeastPaths$Graph")
  | _ => (.array .int)
def T_Mo : u_T := fun k => match k with
  | 0 => ("LeastPathsModel", "heap", "I", true)
  | 1 => ("LeastPathsModel", "nodes", "I", false)
  | 2 => ("LeastPathsModel", "arcs", "I", false)
  | 3 => ("LeastPathsModel", "from", "[I", true)
  | 4 => ("LeastPathsModel", "to", "[I", true)
  | 5 => ("LeastPathsModel", "weight", "[I", true)
  | 6 => ("LeastPathsModel", "above", "[I", true)
  | 7 => ("LeastPathsModel", "below", "[I", true)
  | 8 => ("LeastPathsModel", "alive", "[Z", true)
  | 9 => ("LeastPathsModel", "isSource", "[Z", true)
  | 10 => ("LeastPathsModel", "rests", "[I", true)
  | 11 => ("LeastPathsModel", "far", "[I", true)
  | 12 => ("LeastPathsModel", "hop", "[I", true)
  | 13 => ("LeastPathsModel", "many", "[I", true)
  | 14 => ("LeastPathsModel", "number", "[I", true)
  | 15 => ("LeastPathsModel", "settled", "[Z", true)
  | 16 => ("LeastPathsModel", "path", "[I", true)
  | 17 => ("LeastPathsModel", "tried", "[I", true)
  | 18 => ("LeastPathsModel", "place", "[I", true)
  | 19 => ("LeastPathsModel", "size", "I", false)
  | 20 => ("LeastPathsModel", "length", "I", false)
  | 21 => ("LeastPathsModel", "rowFrom", "I", false)
  | 22 => ("LeastPathsModel", "rowTo", "I", false)
  | 23 => ("LeastPathsModel", "rows", "I", false)
  | 24 => ("LeastPathsModel", "rowLength", "[I", true)
  | 25 => ("LeastPathsModel", "rowSize", "[I", true)
  | 26 => ("LeastPathsModel", "rowArcs", "[I", true)
  | 27 => ("LeastPathsModel", "over", "[J", true)
  | 28 => ("LeastPathsModel", "under", "[J", true)
  | 29 => ("LeastPathsModel", "ringLength", "I", false)
  | 30 => ("LeastPathsModel", "ringSize", "I", false)
  | _ => ("LeastPathsModel", "ringPath", "[I", true)
def ty_Mo : Nat → FieldType := fun k => match k with
  | 0 => .int
  | 1 => .int
  | 2 => .int
  | 3 => (.array .int)
  | 4 => (.array .int)
  | 5 => (.array .int)
  | 6 => (.array .int)
  | 7 => (.array .int)
  | 8 => (.array .boolean)
  | 9 => (.array .boolean)
  | 10 => (.array .int)
  | 11 => (.array .int)
  | 12 => (.array .int)
  | 13 => (.array .int)
  | 14 => (.array .int)
  | 15 => (.array .boolean)
  | 16 => (.array .int)
  | 17 => (.array .int)
  | 18 => (.array .int)
  | 19 => .int
  | 20 => .int
  | 21 => .int
  | 22 => .int
  | 23 => .int
  | 24 => (.array .int)
  | 25 => (.array .int)
  | 26 => (.array .int)
  | 27 => (.array .long)
  | 28 => (.array .long)
  | 29 => .int
  | 30 => .int
  | _ => (.array .int)
def clX : List vw_C := [("LeastPaths", T_LP, 9), ("LeastPaths$BothSides", T_BS, 3), ("LeastPaths$Graph", T_Gr, 10), ("LeastPaths$Rings", T_Rg, 3), ("LeastPaths$Row", T_Rw, 8), ("LeastPaths$Search", T_Se, 12), ("LeastPaths$Trusts", T_Tr, 3), ("LeastPaths$Waiting", T_Wa, 5), ("LeastPaths$Way", T_Wy, 5), ("LeastPaths$Widths", T_Wi, 2), ("LeastPathsModel", T_Mo, 32)]
theorem ok_LP : mC tlG clX 0 "LeastPaths" T_LP 9 ty_LP := ⟨by decide +kernel, rfl, by decide +kernel, by decide +kernel⟩
theorem ok_BS : mC tlG clX 1 "LeastPaths$BothSides" T_BS 3 ty_BS := ⟨by decide +kernel, rfl, by decide +kernel, by decide +kernel⟩
theorem ok_Gr : mC tlG clX 2 "LeastPaths$Graph" T_Gr 10 ty_Gr := ⟨by decide +kernel, rfl, by decide +kernel, by decide +kernel⟩
theorem ok_Rg : mC tlG clX 3 "LeastPaths$Rings" T_Rg 3 ty_Rg := ⟨by decide +kernel, rfl, by decide +kernel, by decide +kernel⟩
theorem ok_Rw : mC tlG clX 4 "LeastPaths$Row" T_Rw 8 ty_Rw := ⟨by decide +kernel, rfl, by decide +kernel, by decide +kernel⟩
theorem ok_Se : mC tlG clX 5 "LeastPaths$Search" T_Se 12 ty_Se := ⟨by decide +kernel, rfl, by decide +kernel, by decide +kernel⟩
theorem ok_Tr : mC tlG clX 6 "LeastPaths$Trusts" T_Tr 3 ty_Tr := ⟨by decide +kernel, rfl, by decide +kernel, by decide +kernel⟩
theorem ok_Wa : mC tlG clX 7 "LeastPaths$Waiting" T_Wa 5 ty_Wa := ⟨by decide +kernel, rfl, by decide +kernel, by decide +kernel⟩
theorem ok_Wy : mC tlG clX 8 "LeastPaths$Way" T_Wy 5 ty_Wy := ⟨by decide +kernel, rfl, by decide +kernel, by decide +kernel⟩
theorem ok_Wi : mC tlG clX 9 "LeastPaths$Widths" T_Wi 2 ty_Wi := ⟨by decide +kernel, rfl, by decide +kernel, by decide +kernel⟩
theorem ok_Mo : mC tlG clX 10 "LeastPathsModel" T_Mo 32 ty_Mo := ⟨by decide +kernel, rfl, by decide +kernel, by decide +kernel⟩
def tbX (cA : Nat → Nat) : Nat → mK := fun k => match k with
  | 0 => .inr (0, [0, 1 + 3, 8 + 3, 16 + 3, 24 + 3, 25 + 3, 91 + 3, 94 + 3, 96 + 3])
  | 1 => .inr (2, [2 + 3, 3 + 3, 4 + 3, 5 + 3, 6 + 3, 7 + 3, 0, 0, 1, 0])
  | 2 => .inl (0, 40, cA 0)
  | 3 => .inl (0, 40, cA 0)
  | 4 => .inl (0, 40, cA 0)
  | 5 => .inl (0, 40, cA 0)
  | 6 => .inl (0, 40, cA 0)
  | 7 => .inl (0, 10, cA 0)
  | 8 => .inr (5, [1 + 3, 0, 12 + 3, 9 + 3, 10 + 3, 11 + 3, 0, 0, 0, 1, 0, 0])
  | 9 => .inl (0, 10, cA 0)
  | 10 => .inl (0, 10, cA 0)
  | 11 => .inl (0, 10, cA 0)
  | 12 => .inr (7, [0, 13 + 3, 14 + 3, 15 + 3, 0])
  | 13 => .inl (0, 10, cA 0)
  | 14 => .inl (0, 10, cA 0)
  | 15 => .inl (1, 10, cA 1)
  | 16 => .inr (5, [1 + 3, 0, 20 + 3, 17 + 3, 18 + 3, 19 + 3, 0, 0, 0, 1, 0, 0])
  | 17 => .inl (0, 10, cA 0)
  | 18 => .inl (0, 10, cA 0)
  | 19 => .inl (0, 10, cA 0)
  | 20 => .inr (7, [0, 21 + 3, 22 + 3, 23 + 3, 0])
  | 21 => .inl (0, 10, cA 0)
  | 22 => .inl (0, 10, cA 0)
  | 23 => .inl (1, 10, cA 1)
  | 24 => .inr (1, [8 + 3, 16 + 3, 0])
  | 25 => .inr (4, [1 + 3, 16 + 3, 26 + 3, 27 + 3, 0, 0, 0, 0])
  | 26 => .inl (2, 31, cA 3)
  | 91 => .inr (3, [1 + 3, 16 + 3, 92 + 3])
  | 92 => .inr (8, [93 + 3, 0, 0, 0, 1])
  | 93 => .inl (0, 10, cA 0)
  | 94 => .inr (9, [1 + 3, 95 + 3])
  | 95 => .inl (0, 10, cA 0)
  | 96 => .inr (6, [1 + 3, 97 + 3, 98 + 3])
  | 97 => .inl (1, 10, cA 1)
  | 98 => .inl (1, 10, cA 1)
  | k => if k % 2 = 1 then .inr (8, [k + 1 + 3, 0, 0, 0, 1]) else .inl (0, 10, cA 0)
def tbY (cA : Nat → Nat) : Nat → mK := fun k => match k with
  | 0 => .inr (10, [0, 0, 0, 1 + 3, 2 + 3, 3 + 3, 4 + 3, 5 + 3, 6 + 3, 7 + 3, 8 + 3, 9 + 3, 10 + 3, 11 + 3, 12 + 3, 13 + 3, 14 + 3, 15 + 3, 16 + 3, 0, 0, 0, 0, 0, 17 + 3, 18 + 3, 19 + 3, 20 + 3, 21 + 3, 0, 0, 22 + 3])
  | 1 => .inl (0, 40, cA 0)
  | 2 => .inl (0, 40, cA 0)
  | 3 => .inl (0, 40, cA 0)
  | 4 => .inl (0, 40, cA 0)
  | 5 => .inl (0, 40, cA 0)
  | 6 => .inl (0, 40, cA 2)
  | 7 => .inl (0, 10, cA 2)
  | 8 => .inl (0, 10, cA 0)
  | 9 => .inl (0, 10, cA 0)
  | 10 => .inl (0, 10, cA 0)
  | 11 => .inl (0, 10, cA 0)
  | 12 => .inl (0, 20, cA 0)
  | 13 => .inl (0, 20, cA 2)
  | 14 => .inl (0, 12, cA 0)
  | 15 => .inl (0, 12, cA 0)
  | 16 => .inl (0, 12, cA 0)
  | 17 => .inl (0, 31, cA 0)
  | 18 => .inl (0, 31, cA 0)
  | 19 => .inl (0, 310, cA 0)
  | 20 => .inl (1, 10, cA 1)
  | 21 => .inl (1, 10, cA 1)
  | 22 => .inl (0, 12, cA 0)
  | _ => .inl (0, 0, cA 0)
def tyK (cA : Nat → Nat) : List (Nat × FieldType) := [(cA 0, .int), (cA 1, .long), (cA 2, .boolean), (cA 3, .object "LeastPaths$Way")]
-- the two searches, the two heaps, the ways
def sB (b : Nat) : Prop := b = 8 ∨ b = 16
def wB (b : Nat) : Prop := b = 12 ∨ b = 20
def wy (w : Nat) : Bool := decide (w = 27 ∨ w = 92 ∨ (29 ≤ w ∧ w < 91 ∧ w % 2 = 1))
theorem sB_8 : sB 8 := Or.inl rfl
theorem sB_16 : sB 16 := Or.inr rfl
theorem wB_12 : wB 12 := Or.inl rfl
theorem wB_20 : wB 20 := Or.inr rfl
theorem sB_w {b : Nat} (h : sB b) : wB (b + 4) := by rcases h with rfl | rfl; exact wB_12; exact wB_20
theorem wy_27 : wy 27 = true := by decide
theorem wy_92 : wy 92 = true := by decide
theorem lt_S0 {b : Nat} (h : sB b) : b < 99 := by rcases h with rfl | rfl <;> decide
theorem lt_S1 {b : Nat} (h : sB b) : b + 1 < 99 := by rcases h with rfl | rfl <;> decide
theorem lt_S2 {b : Nat} (h : sB b) : b + 2 < 99 := by rcases h with rfl | rfl <;> decide
theorem lt_S3 {b : Nat} (h : sB b) : b + 3 < 99 := by rcases h with rfl | rfl <;> decide
theorem lt_W0 {b : Nat} (h : wB b) : b < 99 := by rcases h with rfl | rfl <;> decide
theorem lt_W1 {b : Nat} (h : wB b) : b + 1 < 99 := by rcases h with rfl | rfl <;> decide
theorem lt_W2 {b : Nat} (h : wB b) : b + 2 < 99 := by rcases h with rfl | rfl <;> decide
theorem lt_W3 {b : Nat} (h : wB b) : b + 3 < 99 := by rcases h with rfl | rfl <;> decide
theorem tb_S0 {cA : Nat → Nat} {b : Nat} (h : sB b) : tbX cA b = .inr (5, [1 + 3, 0, b + 4 + 3, b + 1 + 3, b + 2 + 3, b + 3 + 3, 0, 0, 0, 1, 0, 0]) := by rcases h with rfl | rfl <;> rfl
theorem tb_S1 {cA : Nat → Nat} {b : Nat} (h : sB b) : tbX cA (b + 1) = .inl (0, 10, cA 0) := by rcases h with rfl | rfl <;> rfl
theorem tb_S2 {cA : Nat → Nat} {b : Nat} (h : sB b) : tbX cA (b + 2) = .inl (0, 10, cA 0) := by rcases h with rfl | rfl <;> rfl
theorem tb_S3 {cA : Nat → Nat} {b : Nat} (h : sB b) : tbX cA (b + 3) = .inl (0, 10, cA 0) := by rcases h with rfl | rfl <;> rfl
theorem tb_W0 {cA : Nat → Nat} {b : Nat} (h : wB b) : tbX cA b = .inr (7, [0, b + 1 + 3, b + 2 + 3, b + 3 + 3, 0]) := by rcases h with rfl | rfl <;> rfl
theorem tb_W1 {cA : Nat → Nat} {b : Nat} (h : wB b) : tbX cA (b + 1) = .inl (0, 10, cA 0) := by rcases h with rfl | rfl <;> rfl
theorem tb_W2 {cA : Nat → Nat} {b : Nat} (h : wB b) : tbX cA (b + 2) = .inl (0, 10, cA 0) := by rcases h with rfl | rfl <;> rfl
theorem tb_W3 {cA : Nat → Nat} {b : Nat} (h : wB b) : tbX cA (b + 3) = .inl (1, 10, cA 1) := by rcases h with rfl | rfl <;> rfl
theorem wy_cases {w : Nat} (h : wy w = true) : w = 27 ∨ w = 92 ∨ w = 29 ∨ w = 31 ∨ w = 33 ∨ w = 35 ∨ w = 37 ∨ w = 39 ∨ w = 41 ∨ w = 43 ∨ w = 45 ∨ w = 47 ∨ w = 49 ∨ w = 51 ∨ w = 53 ∨ w = 55 ∨ w = 57 ∨ w = 59 ∨ w = 61 ∨ w = 63 ∨ w = 65 ∨ w = 67 ∨ w = 69 ∨ w = 71 ∨ w = 73 ∨ w = 75 ∨ w = 77 ∨ w = 79 ∨ w = 81 ∨ w = 83 ∨ w = 85 ∨ w = 87 ∨ w = 89 := by
  have := of_decide_eq_true h
  omega
theorem lt_Y0 {w : Nat} (h : wy w = true) : w < 99 := by
  have := of_decide_eq_true h
  omega
theorem lt_Y1 {w : Nat} (h : wy w = true) : w + 1 < 99 := by
  have := of_decide_eq_true h
  omega
theorem tb_Y0 {cA : Nat → Nat} {w : Nat} (h : wy w = true) : tbX cA w = .inr (8, [w + 1 + 3, 0, 0, 0, 1]) := by
  rcases wy_cases h with rfl | rfl | rfl | rfl | rfl | rfl | rfl | rfl | rfl | rfl | rfl | rfl | rfl | rfl | rfl | rfl | rfl | rfl | rfl | rfl | rfl | rfl | rfl | rfl | rfl | rfl | rfl | rfl | rfl | rfl | rfl | rfl | rfl <;> rfl
theorem tb_Y1 {cA : Nat → Nat} {w : Nat} (h : wy w = true) : tbX cA (w + 1) = .inl (0, 10, cA 0) := by
  rcases wy_cases h with rfl | rfl | rfl | rfl | rfl | rfl | rfl | rfl | rfl | rfl | rfl | rfl | rfl | rfl | rfl | rfl | rfl | rfl | rfl | rfl | rfl | rfl | rfl | rfl | rfl | rfl | rfl | rfl | rfl | rfl | rfl | rfl | rfl <;> rfl
section MR2
variable {p : Program} {l : Launch} {e : Env} {R : Room} {s : State} {m : MethodId} {args : Array Value} {below : List Frame} {meth : Method} {c : Code} {H : Heap} {locs : List Loc} {cells slots : Nat} {Q : State → Prop}
variable {cc : ByteArray} {pc nL : Nat} {ls : Array Slot} {rest : List Value} {D : va_G} {cl : List vw_C} {A : Nat → Prop} {tys : List (Nat × FieldType)} {Ts : List Cond} {own : String} {n : Nat} {tb : Nat → mK} {ad : Nat → Nat} {σ : mS}
variable {β : Type} {r : β}
theorem m_zal {k N cA t0 : Nat} {i : Int32} {x : Option β} (S : CallFix p m c cc nL s args Ts own) (M : mM D cl tys A s n tb ad σ H locs) (hk : k < n) (ht : tb k = .inl (0, N, cA)) (hty : tys[t0]? = some (cA, .boolean)) (h : gd (inb i N) x = some r) (hdg : decode cc pc = .ok (.baload, 1))
    (kk : x = some r → W p l e R s m args below meth c H locs cells slots Q (F0 m (pc + 1) ls (.int (σ.1 k i.toNatClampNeg) :: rest))) : W p l e R s m args below meth c H locs cells slots Q (F0 m pc ls (.int i :: .ref (ad k) :: rest)) := by
  obtain ⟨hb, h⟩ := gd_s h
  exact va_zald S.1 S.2.1 M.1 M.2.1 k t0 (wd_get hk ht) hty (inb_in hb) hdg (kk h)
theorem m_zas {k N cA t0 : Nat} {i v : Int32} {f : mS → Option β} (S : CallFix p m c cc nL s args Ts own) (M : mM D cl tys A s n tb ad σ H locs) (hk : k < n) (ht : tb k = .inl (0, N, cA)) (hty : tys[t0]? = some (cA, .boolean)) (h : gd (inb i N) (gd (isB v) (nm (sI σ k i.toNatClampNeg v) f)) = some r) (hdg : decode cc pc = .ok (.bastore, 1))
    (kk : ∀ (σ1 : mS) (H1 : Heap) (locs1 : List Loc), f σ1 = some r → mM D cl tys A s n tb ad σ1 H1 locs1 → W p l e R s m args below meth c H1 locs1 cells slots Q (F0 m (pc + 1) ls rest)) : W p l e R s m args below meth c H locs cells slots Q (F0 m pc ls (.int v :: .int i :: .ref (ad k) :: rest)) := by
  obtain ⟨hb, h⟩ := gd_s h
  obtain ⟨hv, h⟩ := gd_s h
  have hv : v = 0 ∨ v = 1 := of_decide_eq_true hv
  have hv : vp_nar .boolean v = v := by rcases hv with rfl | rfl <;> rfl
  have ew : (.inl (cA, N, .inl (upd (σ.1 k) i.toNatClampNeg v)) : va_E) = mE ad (sI σ k i.toNatClampNeg v) k (.inl (0, N, cA)) := by
    show _ = (Sum.inl (cA, N, .inl (up2 σ.1 k i.toNatClampNeg v k)) : va_E)
    rw [up2_s]
    rfl
  refine va_zast S.1 S.2.1 M.1 M.2.1 M.2.2.1 M.2.2.2 k t0 (wd_get hk ht) hty (inb_in hb) hdg (fun H1 locs1 hP hD hS => ?_)
  rw [hv, ew, wd_set hk ht sI_o] at hP hD
  exact kk _ H1 locs1 h ⟨M.1, hP, hD, hS⟩
theorem m_aalW {k N cA t0 : Nat} {C : String} {i : Int32} {f : Nat → Option β} (S : CallFix p m c cc nL s args Ts own) (M : mM D cl tys A s n tb ad σ H locs) (hk : k < n) (ht : tb k = .inl (2, N, cA)) (hty : tys[t0]? = some (cA, .object C)) (h : gd (inb i N) ((σ.2.2 k i.toNatClampNeg).bind fun w => gd (wy w) (f w)) = some r) (hdg : decode cc pc = .ok (.aaload, 1))
    (kk : ∀ w : Nat, wy w = true → f w = some r → W p l e R s m args below meth c H locs cells slots Q (F0 m (pc + 1) ls (.ref (ad w) :: rest))) : W p l e R s m args below meth c H locs cells slots Q (F0 m pc ls (.int i :: .ref (ad k) :: rest)) := by
  obtain ⟨hb, h⟩ := gd_s h
  obtain ⟨w, hw, h⟩ := Option.bind_eq_some_iff.mp h
  obtain ⟨hy, h⟩ := gd_s h
  refine va_aldq S.1 S.2.1 M.1 M.2.1 k t0 (wd_get hk ht) hty (inb_in hb) hdg ?_
  show W p l e R s m args below meth c H locs cells slots Q (F0 m (pc + 1) ls (va_rf ((σ.2.2 k i.toNatClampNeg).map ad) :: rest))
  rw [hw]
  exact kk w hy h
theorem m_aas {k k2 N cA t0 ci Nn : Nat} {C : String} {T : u_T} {ty : Nat → FieldType} {ts : List Nat} {i : Int32} {f : mS → Option β} (S : CallFix p m c cc nL s args Ts own) (M : mM D cl tys A s n tb ad σ H locs) (hC : mC Ts cl ci C T Nn ty) (hk : k < n) (ht : tb k = .inl (2, N, cA)) (hty : tys[t0]? = some (cA, .object C)) (hk2 : k2 < n) (ht2 : tb k2 = .inr (ci, ts)) (h : gd (inb i N) (nm (sQ σ k i.toNatClampNeg (some k2)) f) = some r) (hdg : decode cc pc = .ok (.aastore, 1))
    (kk : ∀ (σ1 : mS) (H1 : Heap) (locs1 : List Loc), f σ1 = some r → mM D cl tys A s n tb ad σ1 H1 locs1 → W p l e R s m args below meth c H1 locs1 cells slots Q (F0 m (pc + 1) ls rest)) : W p l e R s m args below meth c H locs cells slots Q (F0 m pc ls (.ref (ad k2) :: .int i :: .ref (ad k) :: rest)) := by
  obtain ⟨hb, h⟩ := gd_s h
  have ef : va_up (fun x => (σ.2.2 k x).map ad) i.toNatClampNeg (some (ad k2)) = fun x => ((up2 σ.2.2 k i.toNatClampNeg (some k2)) k x).map ad := by
    funext x
    by_cases hx : x = i.toNatClampNeg
    · simp [va_up, up2, hx]
    · simp [va_up, up2, hx]
  have ew : (.inl (cA, N, .inr (.inr (.inr (.inr (va_up (fun x => (σ.2.2 k x).map ad) i.toNatClampNeg (some (ad k2))))))) : va_E) = mE ad (sQ σ k i.toNatClampNeg (some k2)) k (.inl (2, N, cA)) := by
    rw [ef]
    rfl
  refine va_astq S.1 S.2.1 M.1 M.2.1 M.2.2.1 M.2.2.2 k t0 k2 ci (r := (C, T, Nn)) (wd_get hk ht) hty (wd_get hk2 ht2) hC.2.1 (inb_in hb) hdg (fun H1 locs1 hP hD hS => ?_)
  rw [ew, wd_set hk ht sQ_o] at hP hD
  exact kk _ H1 locs1 h ⟨M.1, hP, hD, hS⟩
end MR2
