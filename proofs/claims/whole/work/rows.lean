section
-- ===== PART A: goes FIRST, ahead of the names: the tables' words, and 'selects' of the private methods out of them =====
/-- a private method of a class that the tables say can be made, by its rows of tables_1 -/
def lw_okq (q : MethodName × Nat) : Prop := (q.1.cls ≠ "java/lang/invoke/MethodHandle" ∧ q.1.cls ≠ "java/lang/invoke/VarHandle") ∧ Cond.instantiable q.1.cls q.2 ∈ tables_1 ∧ Cond.privateMethod q.1 ∈ tables_1 ∧ Cond.instanceMethod q.1 ∈ tables_1
theorem lw_p0 : lw_okq (⟨"LeastPaths", "isPair", "(II)Z"⟩, 9) := ⟨⟨by decide +kernel, by decide +kernel⟩, List.mem_of_getElem? (i := 15) (by decide +kernel), List.mem_of_getElem? (i := 345) (by decide +kernel), List.mem_of_getElem? (i := 346) (by decide +kernel)⟩
theorem lw_p1 : lw_okq (⟨"LeastPaths", "areNodes", "(II)Z"⟩, 9) := ⟨⟨by decide +kernel, by decide +kernel⟩, List.mem_of_getElem? (i := 15) (by decide +kernel), List.mem_of_getElem? (i := 349) (by decide +kernel), List.mem_of_getElem? (i := 350) (by decide +kernel)⟩
theorem lw_p2 : lw_okq (⟨"LeastPaths", "growTree", "()V"⟩, 9) := ⟨⟨by decide +kernel, by decide +kernel⟩, List.mem_of_getElem? (i := 15) (by decide +kernel), List.mem_of_getElem? (i := 397) (by decide +kernel), List.mem_of_getElem? (i := 398) (by decide +kernel)⟩
theorem lw_p3 : lw_okq (⟨"LeastPaths$Search", "begin", "(JI)V"⟩, 12) := ⟨⟨by decide +kernel, by decide +kernel⟩, List.mem_of_getElem? (i := 99) (by decide +kernel), List.mem_of_getElem? (i := 405) (by decide +kernel), List.mem_of_getElem? (i := 406) (by decide +kernel)⟩
theorem lw_p4 : lw_okq (⟨"LeastPaths$Waiting", "seat", "(II)V"⟩, 5) := ⟨⟨by decide +kernel, by decide +kernel⟩, List.mem_of_getElem? (i := 105) (by decide +kernel), List.mem_of_getElem? (i := 422) (by decide +kernel), List.mem_of_getElem? (i := 423) (by decide +kernel)⟩
theorem lw_p5 : lw_okq (⟨"LeastPaths$Waiting", "firstChild", "(I)I"⟩, 5) := ⟨⟨by decide +kernel, by decide +kernel⟩, List.mem_of_getElem? (i := 105) (by decide +kernel), List.mem_of_getElem? (i := 446) (by decide +kernel), List.mem_of_getElem? (i := 447) (by decide +kernel)⟩
theorem lw_p6 : lw_okq (⟨"LeastPaths$Search", "startOf", "(I)I"⟩, 12) := ⟨⟨by decide +kernel, by decide +kernel⟩, List.mem_of_getElem? (i := 99) (by decide +kernel), List.mem_of_getElem? (i := 450) (by decide +kernel), List.mem_of_getElem? (i := 451) (by decide +kernel)⟩
theorem lw_p7 : lw_okq (⟨"LeastPaths$Search", "isOpen", "(I)Z"⟩, 12) := ⟨⟨by decide +kernel, by decide +kernel⟩, List.mem_of_getElem? (i := 99) (by decide +kernel), List.mem_of_getElem? (i := 454) (by decide +kernel), List.mem_of_getElem? (i := 455) (by decide +kernel)⟩
theorem lw_p8 : lw_okq (⟨"LeastPaths$Search", "endOf", "(I)I"⟩, 12) := ⟨⟨by decide +kernel, by decide +kernel⟩, List.mem_of_getElem? (i := 99) (by decide +kernel), List.mem_of_getElem? (i := 458) (by decide +kernel), List.mem_of_getElem? (i := 459) (by decide +kernel)⟩
theorem lw_p9 : lw_okq (⟨"LeastPaths$Search", "costOf", "(I)I"⟩, 12) := ⟨⟨by decide +kernel, by decide +kernel⟩, List.mem_of_getElem? (i := 99) (by decide +kernel), List.mem_of_getElem? (i := 462) (by decide +kernel), List.mem_of_getElem? (i := 463) (by decide +kernel)⟩
theorem lw_p10 : lw_okq (⟨"LeastPaths$Search", "leadsBest", "(II)Z"⟩, 12) := ⟨⟨by decide +kernel, by decide +kernel⟩, List.mem_of_getElem? (i := 99) (by decide +kernel), List.mem_of_getElem? (i := 483) (by decide +kernel), List.mem_of_getElem? (i := 484) (by decide +kernel)⟩
theorem lw_p11 : lw_okq (⟨"LeastPaths", "treeArc", "(II)I"⟩, 9) := ⟨⟨by decide +kernel, by decide +kernel⟩, List.mem_of_getElem? (i := 15) (by decide +kernel), List.mem_of_getElem? (i := 500) (by decide +kernel), List.mem_of_getElem? (i := 501) (by decide +kernel)⟩
theorem lw_p12 : lw_okq (⟨"LeastPaths$BothSides", "seekBest", "()V"⟩, 3) := ⟨⟨by decide +kernel, by decide +kernel⟩, List.mem_of_getElem? (i := 171) (by decide +kernel), List.mem_of_getElem? (i := 543) (by decide +kernel), List.mem_of_getElem? (i := 544) (by decide +kernel)⟩
theorem lw_p13 : lw_okq (⟨"LeastPaths$BothSides", "goesOn", "()Z"⟩, 3) := ⟨⟨by decide +kernel, by decide +kernel⟩, List.mem_of_getElem? (i := 171) (by decide +kernel), List.mem_of_getElem? (i := 550) (by decide +kernel), List.mem_of_getElem? (i := 551) (by decide +kernel)⟩
theorem lw_p14 : lw_okq (⟨"LeastPaths$Row", "branch", "(LLeastPaths$Way;I)V"⟩, 8) := ⟨⟨by decide +kernel, by decide +kernel⟩, List.mem_of_getElem? (i := 188) (by decide +kernel), List.mem_of_getElem? (i := 579) (by decide +kernel), List.mem_of_getElem? (i := 580) (by decide +kernel)⟩
theorem lw_p15 : lw_okq (⟨"LeastPaths$Row", "takeIn", "()V"⟩, 8) := ⟨⟨by decide +kernel, by decide +kernel⟩, List.mem_of_getElem? (i := 188) (by decide +kernel), List.mem_of_getElem? (i := 602) (by decide +kernel), List.mem_of_getElem? (i := 603) (by decide +kernel)⟩
def lw_privs_1 : List (MethodName × Nat) := [(⟨"LeastPaths", "isPair", "(II)Z"⟩, 9), (⟨"LeastPaths", "areNodes", "(II)Z"⟩, 9), (⟨"LeastPaths", "growTree", "()V"⟩, 9), (⟨"LeastPaths$Search", "begin", "(JI)V"⟩, 12), (⟨"LeastPaths$Waiting", "seat", "(II)V"⟩, 5), (⟨"LeastPaths$Waiting", "firstChild", "(I)I"⟩, 5), (⟨"LeastPaths$Search", "startOf", "(I)I"⟩, 12), (⟨"LeastPaths$Search", "isOpen", "(I)Z"⟩, 12), (⟨"LeastPaths$Search", "endOf", "(I)I"⟩, 12), (⟨"LeastPaths$Search", "costOf", "(I)I"⟩, 12), (⟨"LeastPaths$Search", "leadsBest", "(II)Z"⟩, 12), (⟨"LeastPaths", "treeArc", "(II)I"⟩, 9), (⟨"LeastPaths$BothSides", "seekBest", "()V"⟩, 3), (⟨"LeastPaths$BothSides", "goesOn", "()Z"⟩, 3), (⟨"LeastPaths$Row", "branch", "(LLeastPaths$Way;I)V"⟩, 8), (⟨"LeastPaths$Row", "takeIn", "()V"⟩, 8)]
theorem lw_r1 : ∀ q ∈ lw_privs_1, lw_okq q := List.forall_mem_cons.mpr ⟨lw_p0, List.forall_mem_cons.mpr ⟨lw_p1, List.forall_mem_cons.mpr ⟨lw_p2, List.forall_mem_cons.mpr ⟨lw_p3, List.forall_mem_cons.mpr ⟨lw_p4, List.forall_mem_cons.mpr ⟨lw_p5, List.forall_mem_cons.mpr ⟨lw_p6, List.forall_mem_cons.mpr ⟨lw_p7, List.forall_mem_cons.mpr ⟨lw_p8, List.forall_mem_cons.mpr ⟨lw_p9, List.forall_mem_cons.mpr ⟨lw_p10, List.forall_mem_cons.mpr ⟨lw_p11, List.forall_mem_cons.mpr ⟨lw_p12, List.forall_mem_cons.mpr ⟨lw_p13, List.forall_mem_cons.mpr ⟨lw_p14, List.forall_mem_cons.mpr ⟨lw_p15, fun _ h => absurd h List.not_mem_nil⟩⟩⟩⟩⟩⟩⟩⟩⟩⟩⟩⟩⟩⟩⟩⟩
theorem lw_p16 : lw_okq (⟨"LeastPaths$Trusts", "pass", "(I)V"⟩, 3) := ⟨⟨by decide +kernel, by decide +kernel⟩, List.mem_of_getElem? (i := 285) (by decide +kernel), List.mem_of_getElem? (i := 643) (by decide +kernel), List.mem_of_getElem? (i := 644) (by decide +kernel)⟩
theorem lw_p17 : lw_okq (⟨"LeastPaths$Rings", "takeIfLess", "(I)V"⟩, 3) := ⟨⟨by decide +kernel, by decide +kernel⟩, List.mem_of_getElem? (i := 252) (by decide +kernel), List.mem_of_getElem? (i := 669) (by decide +kernel), List.mem_of_getElem? (i := 670) (by decide +kernel)⟩
theorem lw_p18 : lw_okq (⟨"LeastPaths", "lengthWithout", "(IIJ)I"⟩, 9) := ⟨⟨by decide +kernel, by decide +kernel⟩, List.mem_of_getElem? (i := 15) (by decide +kernel), List.mem_of_getElem? (i := 684) (by decide +kernel), List.mem_of_getElem? (i := 685) (by decide +kernel)⟩
theorem lw_p19 : lw_okq (⟨"LeastPathsModel", "change", "()V"⟩, 32) := ⟨⟨by decide +kernel, by decide +kernel⟩, List.mem_of_getElem? (i := 691) (by decide +kernel), List.mem_of_getElem? (i := 803) (by decide +kernel), List.mem_of_getElem? (i := 804) (by decide +kernel)⟩
theorem lw_p20 : lw_okq (⟨"LeastPathsModel", "isNode", "(I)Z"⟩, 32) := ⟨⟨by decide +kernel, by decide +kernel⟩, List.mem_of_getElem? (i := 691) (by decide +kernel), List.mem_of_getElem? (i := 811) (by decide +kernel), List.mem_of_getElem? (i := 812) (by decide +kernel)⟩
theorem lw_p21 : lw_okq (⟨"LeastPathsModel", "isArc", "(I)Z"⟩, 32) := ⟨⟨by decide +kernel, by decide +kernel⟩, List.mem_of_getElem? (i := 691) (by decide +kernel), List.mem_of_getElem? (i := 820) (by decide +kernel), List.mem_of_getElem? (i := 821) (by decide +kernel)⟩
theorem lw_p22 : lw_okq (⟨"LeastPathsModel", "findFar", "()V"⟩, 32) := ⟨⟨by decide +kernel, by decide +kernel⟩, List.mem_of_getElem? (i := 691) (by decide +kernel), List.mem_of_getElem? (i := 844) (by decide +kernel), List.mem_of_getElem? (i := 845) (by decide +kernel)⟩
theorem lw_p23 : lw_okq (⟨"LeastPathsModel", "relax", "(I)V"⟩, 32) := ⟨⟨by decide +kernel, by decide +kernel⟩, List.mem_of_getElem? (i := 691) (by decide +kernel), List.mem_of_getElem? (i := 849) (by decide +kernel), List.mem_of_getElem? (i := 850) (by decide +kernel)⟩
theorem lw_p24 : lw_okq (⟨"LeastPathsModel", "stepOf", "(I)I"⟩, 32) := ⟨⟨by decide +kernel, by decide +kernel⟩, List.mem_of_getElem? (i := 691) (by decide +kernel), List.mem_of_getElem? (i := 861) (by decide +kernel), List.mem_of_getElem? (i := 862) (by decide +kernel)⟩
theorem lw_p25 : lw_okq (⟨"LeastPathsModel", "search", "(II)I"⟩, 32) := ⟨⟨by decide +kernel, by decide +kernel⟩, List.mem_of_getElem? (i := 691) (by decide +kernel), List.mem_of_getElem? (i := 885) (by decide +kernel), List.mem_of_getElem? (i := 886) (by decide +kernel)⟩
theorem lw_p26 : lw_okq (⟨"LeastPathsModel", "beginSearch", "(II)V"⟩, 32) := ⟨⟨by decide +kernel, by decide +kernel⟩, List.mem_of_getElem? (i := 691) (by decide +kernel), List.mem_of_getElem? (i := 889) (by decide +kernel), List.mem_of_getElem? (i := 890) (by decide +kernel)⟩
theorem lw_p27 : lw_okq (⟨"LeastPathsModel", "leastOf", "(IZ)I"⟩, 32) := ⟨⟨by decide +kernel, by decide +kernel⟩, List.mem_of_getElem? (i := 691) (by decide +kernel), List.mem_of_getElem? (i := 893) (by decide +kernel), List.mem_of_getElem? (i := 894) (by decide +kernel)⟩
theorem lw_p28 : lw_okq (⟨"LeastPathsModel", "settle", "(II)V"⟩, 32) := ⟨⟨by decide +kernel, by decide +kernel⟩, List.mem_of_getElem? (i := 691) (by decide +kernel), List.mem_of_getElem? (i := 897) (by decide +kernel), List.mem_of_getElem? (i := 898) (by decide +kernel)⟩
theorem lw_p29 : lw_okq (⟨"LeastPathsModel", "spread", "(II)V"⟩, 32) := ⟨⟨by decide +kernel, by decide +kernel⟩, List.mem_of_getElem? (i := 691) (by decide +kernel), List.mem_of_getElem? (i := 901) (by decide +kernel), List.mem_of_getElem? (i := 902) (by decide +kernel)⟩
theorem lw_p30 : lw_okq (⟨"LeastPathsModel", "searchBoth", "(II)I"⟩, 32) := ⟨⟨by decide +kernel, by decide +kernel⟩, List.mem_of_getElem? (i := 691) (by decide +kernel), List.mem_of_getElem? (i := 913) (by decide +kernel), List.mem_of_getElem? (i := 914) (by decide +kernel)⟩
theorem lw_p31 : lw_okq (⟨"LeastPathsModel", "best", "()I"⟩, 32) := ⟨⟨by decide +kernel, by decide +kernel⟩, List.mem_of_getElem? (i := 691) (by decide +kernel), List.mem_of_getElem? (i := 917) (by decide +kernel), List.mem_of_getElem? (i := 918) (by decide +kernel)⟩
def lw_privs_2 : List (MethodName × Nat) := [(⟨"LeastPaths$Trusts", "pass", "(I)V"⟩, 3), (⟨"LeastPaths$Rings", "takeIfLess", "(I)V"⟩, 3), (⟨"LeastPaths", "lengthWithout", "(IIJ)I"⟩, 9), (⟨"LeastPathsModel", "change", "()V"⟩, 32), (⟨"LeastPathsModel", "isNode", "(I)Z"⟩, 32), (⟨"LeastPathsModel", "isArc", "(I)Z"⟩, 32), (⟨"LeastPathsModel", "findFar", "()V"⟩, 32), (⟨"LeastPathsModel", "relax", "(I)V"⟩, 32), (⟨"LeastPathsModel", "stepOf", "(I)I"⟩, 32), (⟨"LeastPathsModel", "search", "(II)I"⟩, 32), (⟨"LeastPathsModel", "beginSearch", "(II)V"⟩, 32), (⟨"LeastPathsModel", "leastOf", "(IZ)I"⟩, 32), (⟨"LeastPathsModel", "settle", "(II)V"⟩, 32), (⟨"LeastPathsModel", "spread", "(II)V"⟩, 32), (⟨"LeastPathsModel", "searchBoth", "(II)I"⟩, 32), (⟨"LeastPathsModel", "best", "()I"⟩, 32)]
theorem lw_r2 : ∀ q ∈ lw_privs_2, lw_okq q := List.forall_mem_cons.mpr ⟨lw_p16, List.forall_mem_cons.mpr ⟨lw_p17, List.forall_mem_cons.mpr ⟨lw_p18, List.forall_mem_cons.mpr ⟨lw_p19, List.forall_mem_cons.mpr ⟨lw_p20, List.forall_mem_cons.mpr ⟨lw_p21, List.forall_mem_cons.mpr ⟨lw_p22, List.forall_mem_cons.mpr ⟨lw_p23, List.forall_mem_cons.mpr ⟨lw_p24, List.forall_mem_cons.mpr ⟨lw_p25, List.forall_mem_cons.mpr ⟨lw_p26, List.forall_mem_cons.mpr ⟨lw_p27, List.forall_mem_cons.mpr ⟨lw_p28, List.forall_mem_cons.mpr ⟨lw_p29, List.forall_mem_cons.mpr ⟨lw_p30, List.forall_mem_cons.mpr ⟨lw_p31, fun _ h => absurd h List.not_mem_nil⟩⟩⟩⟩⟩⟩⟩⟩⟩⟩⟩⟩⟩⟩⟩⟩
theorem lw_p32 : lw_okq (⟨"LeastPathsModel", "findRow", "(II)V"⟩, 32) := ⟨⟨by decide +kernel, by decide +kernel⟩, List.mem_of_getElem? (i := 691) (by decide +kernel), List.mem_of_getElem? (i := 929) (by decide +kernel), List.mem_of_getElem? (i := 930) (by decide +kernel)⟩
theorem lw_p33 : lw_okq (⟨"LeastPathsModel", "nextWay", "(III)Z"⟩, 32) := ⟨⟨by decide +kernel, by decide +kernel⟩, List.mem_of_getElem? (i := 691) (by decide +kernel), List.mem_of_getElem? (i := 933) (by decide +kernel), List.mem_of_getElem? (i := 934) (by decide +kernel)⟩
theorem lw_p34 : lw_okq (⟨"LeastPathsModel", "back", "()Z"⟩, 32) := ⟨⟨by decide +kernel, by decide +kernel⟩, List.mem_of_getElem? (i := 691) (by decide +kernel), List.mem_of_getElem? (i := 937) (by decide +kernel), List.mem_of_getElem? (i := 938) (by decide +kernel)⟩
theorem lw_p35 : lw_okq (⟨"LeastPathsModel", "canGo", "(III)Z"⟩, 32) := ⟨⟨by decide +kernel, by decide +kernel⟩, List.mem_of_getElem? (i := 691) (by decide +kernel), List.mem_of_getElem? (i := 941) (by decide +kernel), List.mem_of_getElem? (i := 942) (by decide +kernel)⟩
theorem lw_p36 : lw_okq (⟨"LeastPathsModel", "keep", "()V"⟩, 32) := ⟨⟨by decide +kernel, by decide +kernel⟩, List.mem_of_getElem? (i := 691) (by decide +kernel), List.mem_of_getElem? (i := 945) (by decide +kernel), List.mem_of_getElem? (i := 946) (by decide +kernel)⟩
theorem lw_p37 : lw_okq (⟨"LeastPathsModel", "isAhead", "(I)Z"⟩, 32) := ⟨⟨by decide +kernel, by decide +kernel⟩, List.mem_of_getElem? (i := 691) (by decide +kernel), List.mem_of_getElem? (i := 949) (by decide +kernel), List.mem_of_getElem? (i := 950) (by decide +kernel)⟩
theorem lw_p38 : lw_okq (⟨"LeastPathsModel", "findRing", "()V"⟩, 32) := ⟨⟨by decide +kernel, by decide +kernel⟩, List.mem_of_getElem? (i := 691) (by decide +kernel), List.mem_of_getElem? (i := 974) (by decide +kernel), List.mem_of_getElem? (i := 975) (by decide +kernel)⟩
theorem lw_p39 : lw_okq (⟨"LeastPathsModel", "isBetterRing", "(I)Z"⟩, 32) := ⟨⟨by decide +kernel, by decide +kernel⟩, List.mem_of_getElem? (i := 691) (by decide +kernel), List.mem_of_getElem? (i := 978) (by decide +kernel), List.mem_of_getElem? (i := 979) (by decide +kernel)⟩
theorem lw_p40 : lw_okq (⟨"LeastPathsModel", "lengthWithout", "(III)I"⟩, 32) := ⟨⟨by decide +kernel, by decide +kernel⟩, List.mem_of_getElem? (i := 691) (by decide +kernel), List.mem_of_getElem? (i := 990) (by decide +kernel), List.mem_of_getElem? (i := 991) (by decide +kernel)⟩
def lw_privs_3 : List (MethodName × Nat) := [(⟨"LeastPathsModel", "findRow", "(II)V"⟩, 32), (⟨"LeastPathsModel", "nextWay", "(III)Z"⟩, 32), (⟨"LeastPathsModel", "back", "()Z"⟩, 32), (⟨"LeastPathsModel", "canGo", "(III)Z"⟩, 32), (⟨"LeastPathsModel", "keep", "()V"⟩, 32), (⟨"LeastPathsModel", "isAhead", "(I)Z"⟩, 32), (⟨"LeastPathsModel", "findRing", "()V"⟩, 32), (⟨"LeastPathsModel", "isBetterRing", "(I)Z"⟩, 32), (⟨"LeastPathsModel", "lengthWithout", "(III)I"⟩, 32)]
theorem lw_r3 : ∀ q ∈ lw_privs_3, lw_okq q := List.forall_mem_cons.mpr ⟨lw_p32, List.forall_mem_cons.mpr ⟨lw_p33, List.forall_mem_cons.mpr ⟨lw_p34, List.forall_mem_cons.mpr ⟨lw_p35, List.forall_mem_cons.mpr ⟨lw_p36, List.forall_mem_cons.mpr ⟨lw_p37, List.forall_mem_cons.mpr ⟨lw_p38, List.forall_mem_cons.mpr ⟨lw_p39, List.forall_mem_cons.mpr ⟨lw_p40, fun _ h => absurd h List.not_mem_nil⟩⟩⟩⟩⟩⟩⟩⟩⟩
def lw_privs : List (MethodName × Nat) := lw_privs_1 ++ (lw_privs_2 ++ (lw_privs_3))
def lw_tbl : List Cond := k2_sels lw_privs ++ tables_1
theorem lw_privs_ok : ∀ q ∈ lw_privs, lw_okq q := by
  show ∀ q ∈ lw_privs_1 ++ (lw_privs_2 ++ (lw_privs_3)), lw_okq q
  exact List.forall_mem_append.mpr ⟨lw_r1, List.forall_mem_append.mpr ⟨lw_r2, lw_r3⟩⟩
end
section
-- ===== TYPED MEMORY: components 0, 1, .. at the addresses ad 0, ad 1, ..; kinds in tb; contents in σ =====
/-- a kind: an array (0 ints, 1 longs, 2 references; its length; its class), or an object (its class's number, its slots: 0 int, 1 long, 2 a reference that may change, t + 3 the component t for good) -/
abbrev mK : Type := (Nat × Nat × Nat) ⊕ (Nat × List Nat)
abbrev mS : Type := (Nat → Nat → Int32) × (Nat → Nat → Int64) × (Nat → Nat → Option Nat)
def mV (ad : Nat → Nat) (σ : mS) (k j : Nat) (t : Nat) : Value := match t with
  | 0 => .int (σ.1 k j)
  | 1 => .long (σ.2.1 k j)
  | 2 => va_rf ((σ.2.2 k j).map ad)
  | t + 3 => .ref (ad t)
def mE (ad : Nat → Nat) (σ : mS) (k : Nat) (K : mK) : va_E := match K with
  | .inl (0, n, cA) => .inl (cA, n, .inl (σ.1 k))
  | .inl (1, n, cA) => .inl (cA, n, .inr (.inl (σ.2.1 k)))
  | .inl (_ + 2, n, cA) => .inl (cA, n, .inr (.inr (.inr (.inr (fun x => (σ.2.2 k x).map ad)))))
  | .inr (ci, ts) => .inr (ci, ts.mapIdx (fun j t => mV ad σ k j t))
def wd (n : Nat) (tb : Nat → mK) (ad : Nat → Nat) (σ : mS) : va_W := (List.range n).map (fun k => (ad k, mE ad σ k (tb k)))
theorem wd_get {n k : Nat} {tb : Nat → mK} {ad : Nat → Nat} {σ : mS} {K : mK} (h : k < n) (ht : tb k = K) : (wd n tb ad σ)[k]? = some (ad k, mE ad σ k K) := by
  subst ht
  simp [wd, List.getElem?_map, List.getElem?_range h]
theorem wd_of {n k : Nat} {tb : Nat → mK} {ad : Nat → Nat} {σ : mS} {q : Nat × va_E} (h : (wd n tb ad σ)[k]? = some q) : k < n ∧ q = (ad k, mE ad σ k (tb k)) := by
  by_cases hk : k < n
  · rw [wd_get hk rfl] at h
    exact ⟨hk, (Option.some.inj h).symm⟩
  · simp [wd, List.getElem?_map, hk] at h
def up2 {α : Type} (f : Nat → Nat → α) (k j : Nat) (v : α) : Nat → Nat → α := fun a b => if a = k then (if b = j then v else f a b) else f a b
theorem up2_o {α : Type} {f : Nat → Nat → α} {k j i : Nat} {v : α} (h : i ≠ k) : up2 f k j v i = f i := by
  funext b
  simp [up2, h]
theorem up2_s {α : Type} {f : Nat → Nat → α} {k j : Nat} {v : α} : up2 f k j v k = fun b => if b = j then v else f k b := by
  funext b
  simp [up2]
def sI (σ : mS) (k j : Nat) (v : Int32) : mS := (up2 σ.1 k j v, σ.2)
def sJ (σ : mS) (k j : Nat) (v : Int64) : mS := (σ.1, up2 σ.2.1 k j v, σ.2.2)
def sQ (σ : mS) (k j : Nat) (v : Option Nat) : mS := (σ.1, σ.2.1, up2 σ.2.2 k j v)
theorem mV_c {ad : Nat → Nat} {σ σ' : mS} {k j t : Nat} (h1 : σ'.1 k = σ.1 k) (h2 : σ'.2.1 k = σ.2.1 k) (h3 : σ'.2.2 k = σ.2.2 k) : mV ad σ' k j t = mV ad σ k j t := by
  unfold mV
  rw [h1, h2, h3]
theorem mE_c {ad : Nat → Nat} {σ σ' : mS} {k : Nat} {K : mK} (h1 : σ'.1 k = σ.1 k) (h2 : σ'.2.1 k = σ.2.1 k) (h3 : σ'.2.2 k = σ.2.2 k) : mE ad σ' k K = mE ad σ k K := by
  unfold mE
  simp only [h1, h2, h3, mV_c h1 h2 h3]
theorem wd_set {n k : Nat} {tb : Nat → mK} {ad : Nat → Nat} {σ σ' : mS} {K : mK} (hk : k < n) (ht : tb k = K) (h : ∀ i, i ≠ k → σ'.1 i = σ.1 i ∧ σ'.2.1 i = σ.2.1 i ∧ σ'.2.2 i = σ.2.2 i) : (wd n tb ad σ).set k (ad k, mE ad σ' k K) = wd n tb ad σ' := by
  subst ht
  apply List.ext_getElem?
  intro i
  by_cases hi : i = k
  · subst hi
    rw [List.getElem?_set_self (by simp [wd]; exact hk), wd_get hk rfl]
  · rw [List.getElem?_set_ne (Ne.symm hi)]
    by_cases hn : i < n
    · rw [wd_get hn rfl, wd_get hn rfl, mE_c (h i hi).1 (h i hi).2.1 (h i hi).2.2]
    · simp [wd, List.getElem?_map, hn]
/-- the memory as it stands in a method: the tables, the cells, apart and in A, nothing else written -/
def mM (D : va_G) (cl : List vw_C) (tys : List (Nat × FieldType)) (A : Nat → Prop) (s : State) (n : Nat) (tb : Nat → mK) (ad : Nat → Nat) (σ : mS) (H : Heap) (locs : List Loc) : Prop :=
  va_K D cl tys s ∧ va_P D cl (wd n tb ad σ) H ∧ va_D A (wd n tb ad σ) ∧ va_S A s.heap H locs
-- ===== PURE WORDS of the decompiled methods =====
def gd {α : Type} (b : Bool) (x : Option α) : Option α := match b with
  | true => x
  | false => none
theorem gd_s {α : Type} {b : Bool} {x : Option α} {r : α} (h : gd b x = some r) : b = true ∧ x = some r := by
  cases b with
  | true => exact ⟨rfl, h⟩
  | false => exact absurd h (by simp [gd])
def nm {α β : Type} (v : α) (f : α → Option β) : Option β := f v
def inb (i : Int32) (n : Nat) : Bool := decide (0 ≤ i.toInt ∧ i.toInt < n)
theorem inb_in {i : Int32} {n : Nat} (h : inb i n = true) : vp_in i n := vp_in_iff.mpr (of_decide_eq_true h)
def isB (v : Int32) : Bool := decide (v = 0 ∨ v = 1)
def isN (v : Int32) : Bool := decide (¬ v = 0)
def isNl (v : Int64) : Bool := decide (¬ v = 0)
def lpN {S X : Type} (st : S → Option (S ⊕ X)) : Nat → S → Option X
  | 0, _ => none
  | k + 1, s => match st s with
    | none => none
    | some (.inl s') => lpN st k s'
    | some (.inr x) => some x
theorem lpN_W {S X : Type} {st : S → Option (S ⊕ X)} (P : S → Prop) (Qx : X → Prop) (hs : ∀ s o, st s = some o → Sum.elim P Qx o → P s) : ∀ (n : Nat) (s : S) (x : X), lpN st n s = some x → Qx x → P s := by
  intro n
  induction n with
  | zero => intro s x h _; exact absurd h (by simp [lpN])
  | succ k ih =>
    intro s x h hq
    cases e : st s with
    | none => rw [lpN, e] at h; exact absurd h (by simp)
    | some o =>
      cases o with
      | inl s' =>
        rw [lpN, e] at h
        exact hs s _ e (ih s' x h hq)
      | inr x' =>
        rw [lpN, e] at h
        have hx : x' = x := Option.some.inj h
        subst hx
        exact hs s _ e hq
-- ===== contracts over the memory =====
def mPre (D : va_G) (cl : List vw_C) (tys : List (Nat × FieldType)) (n : Nat) (tb : Nat → mK) (ad : Nat → Nat) (σ : mS) (sz : Nat) : State → Prop := fun U => U.heap.size = sz ∧ va_P D cl (wd n tb ad σ) U.heap ∧ va_K D cl tys U ∧ va_D (fun _ => True) (wd n tb ad σ)
def mA (n : Nat) (ad : Nat → Nat) (sz : Nat) : Nat → Prop := fun q => (∃ k, k < n ∧ q = ad k) ∨ sz ≤ q
def mB (D : va_G) (cl : List vw_C) (tys : List (Nat × FieldType)) (A : Nat → Prop) (n : Nat) (tb : Nat → mK) (ad : Nat → Nat) (σ : mS) : State → Prop := fun t => va_P D cl (wd n tb ad σ) t.heap ∧ va_K D cl tys t ∧ va_D A (wd n tb ad σ)
def mQi (D : va_G) (cl : List vw_C) (tys : List (Nat × FieldType)) (n : Nat) (tb : Nat → mK) (ad : Nat → Nat) (o : Int32 × mS) (sz : Nat) : Array Value → State → Outcome → State → Prop := va_Qi (fun r (_ : Unit) => r = o.1) (fun _ => mB D cl tys (mA n ad sz) n tb ad o.2) (mA n ad sz)
def mQl (D : va_G) (cl : List vw_C) (tys : List (Nat × FieldType)) (n : Nat) (tb : Nat → mK) (ad : Nat → Nat) (o : Int64 × mS) (sz : Nat) : Array Value → State → Outcome → State → Prop := va_Ql (fun r (_ : Unit) => r = o.1) (fun _ => mB D cl tys (mA n ad sz) n tb ad o.2) (mA n ad sz)
def mQv (D : va_G) (cl : List vw_C) (tys : List (Nat × FieldType)) (n : Nat) (tb : Nat → mK) (ad : Nat → Nat) (o : mS) (sz : Nat) : Array Value → State → Outcome → State → Prop := va_Qv (fun (_ : Unit) => True) (fun _ => mB D cl tys (mA n ad sz) n tb ad o) (mA n ad sz)
def mCi (l : Launch) (y : MethodName) (ws : List Cond) (rm : Room) (D : va_G) (cl : List vw_C) (tys : List (Nat × FieldType)) (n : Nat) (tb : Nat → mK) (ad : Nat → Nat) (σ : mS) (av : List Value) (o : Int32 × mS) : Prop :=
  ∀ sz, Met l y ws rm (va_Pc av (mPre D cl tys n tb ad σ sz)) (mQi D cl tys n tb ad o sz) 0 0 (mA n ad sz)
def mCl (l : Launch) (y : MethodName) (ws : List Cond) (rm : Room) (D : va_G) (cl : List vw_C) (tys : List (Nat × FieldType)) (n : Nat) (tb : Nat → mK) (ad : Nat → Nat) (σ : mS) (av : List Value) (o : Int64 × mS) : Prop :=
  ∀ sz, Met l y ws rm (va_Pc av (mPre D cl tys n tb ad σ sz)) (mQl D cl tys n tb ad o sz) 0 0 (mA n ad sz)
def mCv (l : Launch) (y : MethodName) (ws : List Cond) (rm : Room) (D : va_G) (cl : List vw_C) (tys : List (Nat × FieldType)) (n : Nat) (tb : Nat → mK) (ad : Nat → Nat) (σ : mS) (av : List Value) (o : mS) : Prop :=
  ∀ sz, Met l y ws rm (va_Pc av (mPre D cl tys n tb ad σ sz)) (mQv D cl tys n tb ad o sz) 0 0 (mA n ad sz)
theorem mPre_blind {D : va_G} {cl : List vw_C} {tys : List (Nat × FieldType)} {n : Nat} {tb : Nat → mK} {ad : Nat → Nat} {σ : mS} {sz : Nat} {av : List Value} : FrameBlind (va_Pc av (mPre D cl tys n tb ad σ sz)) := by
  intro a U g mk q
  obtain ⟨q0, q1, qP, qK, qD⟩ := q
  exact ⟨q0, q1, qP, va_K.moved (u := U) (U := U.calling g mk a) (Vm.Alike.refl U.vm) qK, qD⟩
theorem mA_up {n : Nat} {ad : Nat → Nat} {a b : Nat} (h : a ≤ b) {q : Nat} (hq : mA n ad b q) : mA n ad a q := by
  rcases hq with hq | hq
  · exact Or.inl hq
  · exact Or.inr (Nat.le_trans h hq)
theorem mD_self {A : Nat → Prop} {n : Nat} {tb : Nat → mK} {ad : Nat → Nat} {σ : mS} {sz : Nat} (h : va_D A (wd n tb ad σ)) : va_D (mA n ad sz) (wd n tb ad σ) := by
  refine ⟨h.1, fun k q hk => ?_⟩
  obtain ⟨hl, rfl⟩ := wd_of hk
  exact Or.inl ⟨k, hl, rfl⟩
/-- the words of a class: its fields' tables, its number, its types, its names apart -/
def mC (Ts : List Cond) (cl : List vw_C) (ci : Nat) (C : String) (T : u_T) (N : Nat) (ty : Nat → FieldType) : Prop :=
  (∀ w ∈ u_ws C T N, w ∈ Ts) ∧ cl[ci]? = some (C, T, N) ∧ (∀ k, k < N → parseFieldDescriptor (T k).2.2.1 = some (ty k)) ∧ ∀ a, a < N → ∀ b, b < N → a ≠ b → (T a).2.1 ≠ (T b).2.1
section MR
variable {p : Program} {l : Launch} {e : Env} {R : Room} {s : State} {m : MethodId} {args : Array Value} {below : List Frame} {meth : Method} {c : Code} {H : Heap} {locs : List Loc} {cells slots : Nat} {Q : State → Prop}
variable {cc : ByteArray} {pc nL : Nat} {ls : Array Slot} {rest : List Value} {D : va_G} {cl : List vw_C} {A : Nat → Prop} {tys : List (Nat × FieldType)} {Ts : List Cond} {own : String} {n : Nat} {tb : Nat → mK} {ad : Nat → Nat} {σ : mS}
variable {β : Type} {r : β}
-- naming what lies on top
theorem m_ni {v : Int32} {f : Int32 → Option β} (h : nm v f = some r) (kk : ∀ y : Int32, f y = some r → W p l e R s m args below meth c H locs cells slots Q (F0 m pc ls (.int y :: rest))) : W p l e R s m args below meth c H locs cells slots Q (F0 m pc ls (.int v :: rest)) := kk v h
theorem m_nl {v : Int64} {f : Int64 → Option β} (h : nm v f = some r) (kk : ∀ y : Int64, f y = some r → W p l e R s m args below meth c H locs cells slots Q (F0 m pc ls (.long y :: rest))) : W p l e R s m args below meth c H locs cells slots Q (F0 m pc ls (.long v :: rest)) := kk v h
-- reading fields
theorem m_gi {ref C : String} {T : u_T} {N ci index k j : Nat} {ty : Nat → FieldType} {ts : List Nat} (S : CallFix p m c cc nL s args Ts own) (M : mM D cl tys A s n tb ad σ H locs) (hC : mC Ts cl ci C T N ty) (hk : k < n) (ht : tb k = .inr (ci, ts)) (hj : j < N) (h0 : ts[j]? = some 0) (hlink : Cond.fieldLink own index ref (T j).2.1 (T j).2.2.1 ∈ Ts) (hr : (T j).1 = ref) (hdg : decode cc pc = .ok (.getfield index, 3))
    (kk : W p l e R s m args below meth c H locs cells slots Q (F0 m (pc + 3) ls (.int (σ.1 k j) :: rest))) : W p l e R s m args below meth c H locs cells slots Q (F0 m pc ls (.ref (ad k) :: rest)) :=
  va_get S.1 S.2.1 S.2.2.2.2 hC.1 S.2.2.2.1 M.1 M.2.1 k (wd_get hk ht) hC.2.1 j hj (S.2.2.2.2 _ hlink) (fun x hx => by rw [← hr]; exact hx) (v := .int (σ.1 k j)) (by simp [List.getElem?_mapIdx, h0, mV]) hdg kk
theorem m_gl {ref C : String} {T : u_T} {N ci index k j : Nat} {ty : Nat → FieldType} {ts : List Nat} (S : CallFix p m c cc nL s args Ts own) (M : mM D cl tys A s n tb ad σ H locs) (hC : mC Ts cl ci C T N ty) (hk : k < n) (ht : tb k = .inr (ci, ts)) (hj : j < N) (h0 : ts[j]? = some 1) (hlink : Cond.fieldLink own index ref (T j).2.1 (T j).2.2.1 ∈ Ts) (hr : (T j).1 = ref) (hdg : decode cc pc = .ok (.getfield index, 3))
    (kk : W p l e R s m args below meth c H locs cells slots Q (F0 m (pc + 3) ls (.long (σ.2.1 k j) :: rest))) : W p l e R s m args below meth c H locs cells slots Q (F0 m pc ls (.ref (ad k) :: rest)) :=
  va_get S.1 S.2.1 S.2.2.2.2 hC.1 S.2.2.2.1 M.1 M.2.1 k (wd_get hk ht) hC.2.1 j hj (S.2.2.2.2 _ hlink) (fun x hx => by rw [← hr]; exact hx) (v := .long (σ.2.1 k j)) (by simp [List.getElem?_mapIdx, h0, mV]) hdg kk
theorem m_gs {ref C : String} {T : u_T} {N ci index k j t : Nat} {ty : Nat → FieldType} {ts : List Nat} (S : CallFix p m c cc nL s args Ts own) (M : mM D cl tys A s n tb ad σ H locs) (hC : mC Ts cl ci C T N ty) (hk : k < n) (ht : tb k = .inr (ci, ts)) (hj : j < N) (h0 : ts[j]? = some (t + 3)) (hlink : Cond.fieldLink own index ref (T j).2.1 (T j).2.2.1 ∈ Ts) (hr : (T j).1 = ref) (hdg : decode cc pc = .ok (.getfield index, 3))
    (kk : W p l e R s m args below meth c H locs cells slots Q (F0 m (pc + 3) ls (.ref (ad t) :: rest))) : W p l e R s m args below meth c H locs cells slots Q (F0 m pc ls (.ref (ad k) :: rest)) :=
  va_get S.1 S.2.1 S.2.2.2.2 hC.1 S.2.2.2.1 M.1 M.2.1 k (wd_get hk ht) hC.2.1 j hj (S.2.2.2.2 _ hlink) (fun x hx => by rw [← hr]; exact hx) (v := .ref (ad t)) (by simp [List.getElem?_mapIdx, h0, mV]) hdg kk
-- the same of a nest mate's private field
theorem m_giN {ref C host : String} {T : u_T} {N ci index k j : Nat} {ty : Nat → FieldType} {ts : List Nat} (S : CallFix p m c cc nL s args Ts own) (M : mM D cl tys A s n tb ad σ H locs) (hC : mC Ts cl ci C T N ty) (hk : k < n) (ht : tb k = .inr (ci, ts)) (hj : j < N) (h0 : ts[j]? = some 0) (hlink : Cond.fieldLinkNest own index ref (T j).2.1 (T j).2.2.1 host ∈ Ts) (hr : (T j).1 = ref) (hdg : decode cc pc = .ok (.getfield index, 3))
    (kk : W p l e R s m args below meth c H locs cells slots Q (F0 m (pc + 3) ls (.int (σ.1 k j) :: rest))) : W p l e R s m args below meth c H locs cells slots Q (F0 m pc ls (.ref (ad k) :: rest)) :=
  va_getN S.1 S.2.1 S.2.2.2.2 hC.1 S.2.2.2.1 M.1 M.2.1 k (wd_get hk ht) hC.2.1 j hj (S.2.2.2.2 _ hlink) (fun x hx => by rw [← hr]; exact hx) (v := .int (σ.1 k j)) (by simp [List.getElem?_mapIdx, h0, mV]) hdg kk
-- writing fields
theorem m_obj {ci k j : Nat} {ts : List Nat} {σ' : mS} {v : Value} (h1 : ∀ i t, ts[i]? = some t → i ≠ j → mV ad σ' k i t = mV ad σ k i t) (h2 : ∀ t, ts[j]? = some t → mV ad σ' k j t = v) : mE ad σ' k (.inr (ci, ts)) = .inr (ci, (ts.mapIdx (fun j t => mV ad σ k j t)).set j v) := by
  have e : ts.mapIdx (fun j t => mV ad σ' k j t) = (ts.mapIdx (fun j t => mV ad σ k j t)).set j v := by
    apply List.ext_getElem?
    intro i
    by_cases hi : i = j
    · subst hi
      by_cases hl : i < ts.length
      · rw [List.getElem?_set_self (by simpa using hl)]
        simp [List.getElem?_mapIdx, List.getElem?_eq_getElem hl, h2 _ (List.getElem?_eq_getElem hl)]
      · simp [List.getElem?_mapIdx, List.getElem?_eq_none (Nat.not_lt.mp hl)]
        omega
    · rw [List.getElem?_set_ne (Ne.symm hi)]
      by_cases hl : i < ts.length
      · simp [List.getElem?_mapIdx, List.getElem?_eq_getElem hl, h1 i _ (List.getElem?_eq_getElem hl) hi]
      · simp [List.getElem?_mapIdx, List.getElem?_eq_none (Nat.not_lt.mp hl)]
  show (Sum.inr (ci, ts.mapIdx (fun j t => mV ad σ' k j t)) : va_E) = _
  rw [e]
theorem m_objI {ci k j : Nat} {ts : List Nat} {v : Int32} (h0 : ts[j]? = some 0) : mE ad (sI σ k j v) k (.inr (ci, ts)) = .inr (ci, (ts.mapIdx (fun j t => mV ad σ k j t)).set j (.int v)) := by
  refine m_obj (fun i t _ hi => ?_) (fun t ht => ?_)
  · match t with
    | 0 => simp [mV, sI, up2, hi]
    | 1 => rfl
    | 2 => rfl
    | t + 3 => rfl
  · have : t = 0 := Option.some.inj (ht.symm.trans h0)
    subst this
    simp [mV, sI, up2]
theorem m_objJ {ci k j : Nat} {ts : List Nat} {v : Int64} (h0 : ts[j]? = some 1) : mE ad (sJ σ k j v) k (.inr (ci, ts)) = .inr (ci, (ts.mapIdx (fun j t => mV ad σ k j t)).set j (.long v)) := by
  refine m_obj (fun i t _ hi => ?_) (fun t ht => ?_)
  · match t with
    | 0 => rfl
    | 1 => simp [mV, sJ, up2, hi]
    | 2 => rfl
    | t + 3 => rfl
  · have : t = 1 := Option.some.inj (ht.symm.trans h0)
    subst this
    simp [mV, sJ, up2]
theorem sI_o {k j : Nat} {v : Int32} : ∀ i, i ≠ k → (sI σ k j v).1 i = σ.1 i ∧ (sI σ k j v).2.1 i = σ.2.1 i ∧ (sI σ k j v).2.2 i = σ.2.2 i := fun _ hi => ⟨up2_o hi, rfl, rfl⟩
theorem sJ_o {k j : Nat} {v : Int64} : ∀ i, i ≠ k → (sJ σ k j v).1 i = σ.1 i ∧ (sJ σ k j v).2.1 i = σ.2.1 i ∧ (sJ σ k j v).2.2 i = σ.2.2 i := fun _ hi => ⟨rfl, up2_o hi, rfl⟩
theorem sQ_o {k j : Nat} {v : Option Nat} : ∀ i, i ≠ k → (sQ σ k j v).1 i = σ.1 i ∧ (sQ σ k j v).2.1 i = σ.2.1 i ∧ (sQ σ k j v).2.2 i = σ.2.2 i := fun _ hi => ⟨rfl, rfl, up2_o hi⟩
theorem m_pi0 {ref C : String} {T : u_T} {N ci index k j : Nat} {ty : Nat → FieldType} {ts : List Nat} {v : Int32} {f : mS → Option β} (S : CallFix p m c cc nL s args Ts own) (M : mM D cl tys A s n tb ad σ H locs) (hC : mC Ts cl ci C T N ty) (hk : k < n) (ht : tb k = .inr (ci, ts)) (hj : j < N) (h0 : ts[j]? = some 0) (hlink : Cond.fieldLink own index ref (T j).2.1 (T j).2.2.1 ∈ Ts) (hr : (T j).1 = ref) (hfin : (T j).2.2.2 = false) (hn : narrow (ty j) (.int v) = .int v) (hf : fits (ty j) (.int v) = true) (hdg : decode cc pc = .ok (.putfield index, 3)) (h : nm (sI σ k j v) f = some r)
    (kk : ∀ (σ1 : mS) (H1 : Heap) (locs1 : List Loc), f σ1 = some r → mM D cl tys A s n tb ad σ1 H1 locs1 → W p l e R s m args below meth c H1 locs1 cells slots Q (F0 m (pc + 3) ls rest)) : W p l e R s m args below meth c H locs cells slots Q (F0 m pc ls (.int v :: .ref (ad k) :: rest)) := by
  have hl : j < (ts.mapIdx (fun j t => mV ad σ k j t)).length := by
    simpa using (List.getElem?_eq_some_iff.mp h0).1
  refine va_put S.1 S.2.1 S.2.2.2.2 hC.1 ty hC.2.2.1 hC.2.2.2 S.2.2.2.1 M.1 M.2.1 M.2.2.1 M.2.2.2 k (wd_get hk ht) hC.2.1 j hj (S.2.2.2.2 _ hlink) (fun x hx => by rw [← hr]; exact hx) hfin (hC.2.2.1 j hj) hn hf hl hdg (fun H1 locs1 hP hD hS => ?_)
  rw [← m_objI h0, wd_set hk ht sI_o] at hP hD
  exact kk _ H1 locs1 h ⟨M.1, hP, hD, hS⟩
theorem m_pi {ref C : String} {T : u_T} {N ci index k j : Nat} {ty : Nat → FieldType} {ts : List Nat} {v : Int32} {f : mS → Option β} (S : CallFix p m c cc nL s args Ts own) (M : mM D cl tys A s n tb ad σ H locs) (hC : mC Ts cl ci C T N ty) (hk : k < n) (ht : tb k = .inr (ci, ts)) (hj : j < N) (h0 : ts[j]? = some 0) (hlink : Cond.fieldLink own index ref (T j).2.1 (T j).2.2.1 ∈ Ts) (hr : (T j).1 = ref) (hfin : (T j).2.2.2 = false) (hty : ty j = .int) (hdg : decode cc pc = .ok (.putfield index, 3)) (h : nm (sI σ k j v) f = some r)
    (kk : ∀ (σ1 : mS) (H1 : Heap) (locs1 : List Loc), f σ1 = some r → mM D cl tys A s n tb ad σ1 H1 locs1 → W p l e R s m args below meth c H1 locs1 cells slots Q (F0 m (pc + 3) ls rest)) : W p l e R s m args below meth c H locs cells slots Q (F0 m pc ls (.int v :: .ref (ad k) :: rest)) :=
  m_pi0 S M hC hk ht hj h0 hlink hr hfin (by rw [hty]; rfl) (by rw [hty]; rfl) hdg h kk
theorem m_pz {ref C : String} {T : u_T} {N ci index k j : Nat} {ty : Nat → FieldType} {ts : List Nat} {v : Int32} {f : mS → Option β} (S : CallFix p m c cc nL s args Ts own) (M : mM D cl tys A s n tb ad σ H locs) (hC : mC Ts cl ci C T N ty) (hk : k < n) (ht : tb k = .inr (ci, ts)) (hj : j < N) (h0 : ts[j]? = some 0) (hlink : Cond.fieldLink own index ref (T j).2.1 (T j).2.2.1 ∈ Ts) (hr : (T j).1 = ref) (hfin : (T j).2.2.2 = false) (hty : ty j = .boolean) (hdg : decode cc pc = .ok (.putfield index, 3)) (h : gd (isB v) (nm (sI σ k j v) f) = some r)
    (kk : ∀ (σ1 : mS) (H1 : Heap) (locs1 : List Loc), f σ1 = some r → mM D cl tys A s n tb ad σ1 H1 locs1 → W p l e R s m args below meth c H1 locs1 cells slots Q (F0 m (pc + 3) ls rest)) : W p l e R s m args below meth c H locs cells slots Q (F0 m pc ls (.int v :: .ref (ad k) :: rest)) := by
  obtain ⟨hb, h⟩ := gd_s h
  have hv : v = 0 ∨ v = 1 := of_decide_eq_true hb
  refine m_pi0 S M hC hk ht hj h0 hlink hr hfin ?_ ?_ hdg h kk
  · rw [hty]; rcases hv with rfl | rfl <;> rfl
  · rw [hty]; rcases hv with rfl | rfl <;> rfl
theorem m_pl {ref C : String} {T : u_T} {N ci index k j : Nat} {ty : Nat → FieldType} {ts : List Nat} {v : Int64} {f : mS → Option β} (S : CallFix p m c cc nL s args Ts own) (M : mM D cl tys A s n tb ad σ H locs) (hC : mC Ts cl ci C T N ty) (hk : k < n) (ht : tb k = .inr (ci, ts)) (hj : j < N) (h0 : ts[j]? = some 1) (hlink : Cond.fieldLink own index ref (T j).2.1 (T j).2.2.1 ∈ Ts) (hr : (T j).1 = ref) (hfin : (T j).2.2.2 = false) (hty : ty j = .long) (hdg : decode cc pc = .ok (.putfield index, 3)) (h : nm (sJ σ k j v) f = some r)
    (kk : ∀ (σ1 : mS) (H1 : Heap) (locs1 : List Loc), f σ1 = some r → mM D cl tys A s n tb ad σ1 H1 locs1 → W p l e R s m args below meth c H1 locs1 cells slots Q (F0 m (pc + 3) ls rest)) : W p l e R s m args below meth c H locs cells slots Q (F0 m pc ls (.long v :: .ref (ad k) :: rest)) := by
  have hl : j < (ts.mapIdx (fun j t => mV ad σ k j t)).length := by
    simpa using (List.getElem?_eq_some_iff.mp h0).1
  refine va_put S.1 S.2.1 S.2.2.2.2 hC.1 ty hC.2.2.1 hC.2.2.2 S.2.2.2.1 M.1 M.2.1 M.2.2.1 M.2.2.2 k (wd_get hk ht) hC.2.1 j hj (S.2.2.2.2 _ hlink) (fun x hx => by rw [← hr]; exact hx) hfin (hC.2.2.1 j hj) (by rw [hty]; rfl) (by rw [hty]; rfl) hl hdg (fun H1 locs1 hP hD hS => ?_)
  rw [← m_objJ h0, wd_set hk ht sJ_o] at hP hD
  exact kk _ H1 locs1 h ⟨M.1, hP, hD, hS⟩
-- arrays
theorem m_ial {k N cA t0 : Nat} {i : Int32} {x : Option β} (S : CallFix p m c cc nL s args Ts own) (M : mM D cl tys A s n tb ad σ H locs) (hk : k < n) (ht : tb k = .inl (0, N, cA)) (hty : tys[t0]? = some (cA, .int)) (h : gd (inb i N) x = some r) (hdg : decode cc pc = .ok (.iaload, 1))
    (kk : x = some r → W p l e R s m args below meth c H locs cells slots Q (F0 m (pc + 1) ls (.int (σ.1 k i.toNatClampNeg) :: rest))) : W p l e R s m args below meth c H locs cells slots Q (F0 m pc ls (.int i :: .ref (ad k) :: rest)) := by
  obtain ⟨hb, h⟩ := gd_s h
  exact va_iald S.1 S.2.1 M.1 M.2.1 k t0 (wd_get hk ht) hty (inb_in hb) hdg (kk h)
theorem m_lal {k N cA t0 : Nat} {i : Int32} {x : Option β} (S : CallFix p m c cc nL s args Ts own) (M : mM D cl tys A s n tb ad σ H locs) (hk : k < n) (ht : tb k = .inl (1, N, cA)) (hty : tys[t0]? = some (cA, .long)) (h : gd (inb i N) x = some r) (hdg : decode cc pc = .ok (.laload, 1))
    (kk : x = some r → W p l e R s m args below meth c H locs cells slots Q (F0 m (pc + 1) ls (.long (σ.2.1 k i.toNatClampNeg) :: rest))) : W p l e R s m args below meth c H locs cells slots Q (F0 m pc ls (.int i :: .ref (ad k) :: rest)) := by
  obtain ⟨hb, h⟩ := gd_s h
  exact va_lald S.1 S.2.1 M.1 M.2.1 k t0 (wd_get hk ht) hty (inb_in hb) hdg (kk h)
theorem m_ias {k N cA t0 : Nat} {i v : Int32} {f : mS → Option β} (S : CallFix p m c cc nL s args Ts own) (M : mM D cl tys A s n tb ad σ H locs) (hk : k < n) (ht : tb k = .inl (0, N, cA)) (hty : tys[t0]? = some (cA, .int)) (h : gd (inb i N) (nm (sI σ k i.toNatClampNeg v) f) = some r) (hdg : decode cc pc = .ok (.iastore, 1))
    (kk : ∀ (σ1 : mS) (H1 : Heap) (locs1 : List Loc), f σ1 = some r → mM D cl tys A s n tb ad σ1 H1 locs1 → W p l e R s m args below meth c H1 locs1 cells slots Q (F0 m (pc + 1) ls rest)) : W p l e R s m args below meth c H locs cells slots Q (F0 m pc ls (.int v :: .int i :: .ref (ad k) :: rest)) := by
  obtain ⟨hb, h⟩ := gd_s h
  have ew : (.inl (cA, N, .inl (upd (σ.1 k) i.toNatClampNeg v)) : va_E) = mE ad (sI σ k i.toNatClampNeg v) k (.inl (0, N, cA)) := by
    show _ = (Sum.inl (cA, N, .inl (up2 σ.1 k i.toNatClampNeg v k)) : va_E)
    rw [up2_s]
    rfl
  refine va_iast S.1 S.2.1 M.1 M.2.1 M.2.2.1 M.2.2.2 k t0 (wd_get hk ht) hty (inb_in hb) hdg (fun H1 locs1 hP hD hS => ?_)
  rw [ew, wd_set hk ht sI_o] at hP hD
  exact kk _ H1 locs1 h ⟨M.1, hP, hD, hS⟩
theorem m_las {k N cA t0 : Nat} {i : Int32} {v : Int64} {f : mS → Option β} (S : CallFix p m c cc nL s args Ts own) (M : mM D cl tys A s n tb ad σ H locs) (hk : k < n) (ht : tb k = .inl (1, N, cA)) (hty : tys[t0]? = some (cA, .long)) (h : gd (inb i N) (nm (sJ σ k i.toNatClampNeg v) f) = some r) (hdg : decode cc pc = .ok (.lastore, 1))
    (kk : ∀ (σ1 : mS) (H1 : Heap) (locs1 : List Loc), f σ1 = some r → mM D cl tys A s n tb ad σ1 H1 locs1 → W p l e R s m args below meth c H1 locs1 cells slots Q (F0 m (pc + 1) ls rest)) : W p l e R s m args below meth c H locs cells slots Q (F0 m pc ls (.long v :: .int i :: .ref (ad k) :: rest)) := by
  obtain ⟨hb, h⟩ := gd_s h
  have ew : (.inl (cA, N, .inr (.inl (vp_updL (σ.2.1 k) i.toNatClampNeg v))) : va_E) = mE ad (sJ σ k i.toNatClampNeg v) k (.inl (1, N, cA)) := by
    show _ = (Sum.inl (cA, N, .inr (.inl (up2 σ.2.1 k i.toNatClampNeg v k))) : va_E)
    rw [up2_s]
    rfl
  refine va_last S.1 S.2.1 M.1 M.2.1 M.2.2.1 M.2.2.2 k t0 (wd_get hk ht) hty (inb_in hb) hdg (fun H1 locs1 hP hD hS => ?_)
  rw [ew, wd_set hk ht sJ_o] at hP hD
  exact kk _ H1 locs1 h ⟨M.1, hP, hD, hS⟩
theorem m_alen {k N cA t0 tg : Nat} {ft : FieldType} (S : CallFix p m c cc nL s args Ts own) (M : mM D cl tys A s n tb ad σ H locs) (hk : k < n) (ht : tb k = .inl (tg, N, cA)) (hty : tys[t0]? = some (cA, ft)) (hdg : decode cc pc = .ok (.arraylength, 1))
    (kk : W p l e R s m args below meth c H locs cells slots Q (F0 m (pc + 1) ls (.int (Int32.ofNat N) :: rest))) : W p l e R s m args below meth c H locs cells slots Q (F0 m pc ls (.ref (ad k) :: rest)) := by
  match tg, ht with
  | 0, ht => exact va_alen S.1 S.2.1 M.1 M.2.1 k t0 (wd_get hk ht) hty rfl hdg kk
  | 1, ht => exact va_alen S.1 S.2.1 M.1 M.2.1 k t0 (wd_get hk ht) hty rfl hdg kk
  | _ + 2, ht => exact va_alen S.1 S.2.1 M.1 M.2.1 k t0 (wd_get hk ht) hty rfl hdg kk
-- branches: the pure word decides
theorem m_ifeq {x : Int32} {off : Int} {tgt : Nat} {a b : Option β} (S : CallFix p m c cc nL s args Ts own) (hdg : decode cc pc = .ok (.ifCond .eq off, 3)) (ht : (pc : Int) + off = (tgt : Int)) (h : (if x = 0 then a else b) = some r) (kt : a = some r → W p l e R s m args below meth c H locs cells slots Q (F0 m tgt ls rest)) (kf : b = some r → W p l e R s m args below meth c H locs cells slots Q (F0 m (pc + 3) ls rest)) : W p l e R s m args below meth c H locs cells slots Q (F0 m pc ls (.int x :: rest)) :=
  lv_if_eq S.1 S.2.1 hdg ht (fun q => kt (by rwa [if_pos q] at h)) (fun q => kf (by rwa [if_neg q] at h))
theorem m_ifne {x : Int32} {off : Int} {tgt : Nat} {a b : Option β} (S : CallFix p m c cc nL s args Ts own) (hdg : decode cc pc = .ok (.ifCond .ne off, 3)) (ht : (pc : Int) + off = (tgt : Int)) (h : (if x = 0 then b else a) = some r) (kt : a = some r → W p l e R s m args below meth c H locs cells slots Q (F0 m tgt ls rest)) (kf : b = some r → W p l e R s m args below meth c H locs cells slots Q (F0 m (pc + 3) ls rest)) : W p l e R s m args below meth c H locs cells slots Q (F0 m pc ls (.int x :: rest)) :=
  lv_if_ne S.1 S.2.1 hdg ht (fun q => kt (by rwa [if_neg q] at h)) (fun q => kf (by rwa [if_pos q] at h))
theorem m_iflt {x : Int32} {off : Int} {tgt : Nat} {a b : Option β} (S : CallFix p m c cc nL s args Ts own) (hdg : decode cc pc = .ok (.ifCond .lt off, 3)) (ht : (pc : Int) + off = (tgt : Int)) (h : (if x < 0 then a else b) = some r) (kt : a = some r → W p l e R s m args below meth c H locs cells slots Q (F0 m tgt ls rest)) (kf : b = some r → W p l e R s m args below meth c H locs cells slots Q (F0 m (pc + 3) ls rest)) : W p l e R s m args below meth c H locs cells slots Q (F0 m pc ls (.int x :: rest)) :=
  lv_if_lt S.1 S.2.1 hdg ht (fun q => kt (by rwa [if_pos q] at h)) (fun q => kf (by rwa [if_neg q] at h))
theorem m_ifge {x : Int32} {off : Int} {tgt : Nat} {a b : Option β} (S : CallFix p m c cc nL s args Ts own) (hdg : decode cc pc = .ok (.ifCond .ge off, 3)) (ht : (pc : Int) + off = (tgt : Int)) (h : (if 0 ≤ x then a else b) = some r) (kt : a = some r → W p l e R s m args below meth c H locs cells slots Q (F0 m tgt ls rest)) (kf : b = some r → W p l e R s m args below meth c H locs cells slots Q (F0 m (pc + 3) ls rest)) : W p l e R s m args below meth c H locs cells slots Q (F0 m pc ls (.int x :: rest)) :=
  lv_if_ge S.1 S.2.1 hdg ht (fun q => kt (by rwa [if_pos q] at h)) (fun q => kf (by rwa [if_neg q] at h))
theorem m_ifgt {x : Int32} {off : Int} {tgt : Nat} {a b : Option β} (S : CallFix p m c cc nL s args Ts own) (hdg : decode cc pc = .ok (.ifCond .gt off, 3)) (ht : (pc : Int) + off = (tgt : Int)) (h : (if 0 < x then a else b) = some r) (kt : a = some r → W p l e R s m args below meth c H locs cells slots Q (F0 m tgt ls rest)) (kf : b = some r → W p l e R s m args below meth c H locs cells slots Q (F0 m (pc + 3) ls rest)) : W p l e R s m args below meth c H locs cells slots Q (F0 m pc ls (.int x :: rest)) :=
  lv_if_gt S.1 S.2.1 hdg ht (fun q => kt (by rwa [if_pos q] at h)) (fun q => kf (by rwa [if_neg q] at h))
theorem m_ifle {x : Int32} {off : Int} {tgt : Nat} {a b : Option β} (S : CallFix p m c cc nL s args Ts own) (hdg : decode cc pc = .ok (.ifCond .le off, 3)) (ht : (pc : Int) + off = (tgt : Int)) (h : (if x ≤ 0 then a else b) = some r) (kt : a = some r → W p l e R s m args below meth c H locs cells slots Q (F0 m tgt ls rest)) (kf : b = some r → W p l e R s m args below meth c H locs cells slots Q (F0 m (pc + 3) ls rest)) : W p l e R s m args below meth c H locs cells slots Q (F0 m pc ls (.int x :: rest)) :=
  lv_if_le S.1 S.2.1 hdg ht (fun q => kt (by rwa [if_pos q] at h)) (fun q => kf (by rwa [if_neg q] at h))
theorem m_ieq {x y : Int32} {off : Int} {tgt : Nat} {a b : Option β} (S : CallFix p m c cc nL s args Ts own) (hdg : decode cc pc = .ok (.if_icmp .eq off, 3)) (ht : (pc : Int) + off = (tgt : Int)) (h : (if x = y then a else b) = some r) (kt : a = some r → W p l e R s m args below meth c H locs cells slots Q (F0 m tgt ls rest)) (kf : b = some r → W p l e R s m args below meth c H locs cells slots Q (F0 m (pc + 3) ls rest)) : W p l e R s m args below meth c H locs cells slots Q (F0 m pc ls (.int y :: .int x :: rest)) :=
  lv_icmp_eq S.1 S.2.1 hdg ht (fun q => kt (by rwa [if_pos q] at h)) (fun q => kf (by rwa [if_neg q] at h))
theorem m_ine {x y : Int32} {off : Int} {tgt : Nat} {a b : Option β} (S : CallFix p m c cc nL s args Ts own) (hdg : decode cc pc = .ok (.if_icmp .ne off, 3)) (ht : (pc : Int) + off = (tgt : Int)) (h : (if x = y then b else a) = some r) (kt : a = some r → W p l e R s m args below meth c H locs cells slots Q (F0 m tgt ls rest)) (kf : b = some r → W p l e R s m args below meth c H locs cells slots Q (F0 m (pc + 3) ls rest)) : W p l e R s m args below meth c H locs cells slots Q (F0 m pc ls (.int y :: .int x :: rest)) :=
  lv_icmp_ne S.1 S.2.1 hdg ht (fun q => kt (by rwa [if_neg q] at h)) (fun q => kf (by rwa [if_pos q] at h))
theorem m_ilt {x y : Int32} {off : Int} {tgt : Nat} {a b : Option β} (S : CallFix p m c cc nL s args Ts own) (hdg : decode cc pc = .ok (.if_icmp .lt off, 3)) (ht : (pc : Int) + off = (tgt : Int)) (h : (if x < y then a else b) = some r) (kt : a = some r → W p l e R s m args below meth c H locs cells slots Q (F0 m tgt ls rest)) (kf : b = some r → W p l e R s m args below meth c H locs cells slots Q (F0 m (pc + 3) ls rest)) : W p l e R s m args below meth c H locs cells slots Q (F0 m pc ls (.int y :: .int x :: rest)) :=
  lv_icmp_lt S.1 S.2.1 hdg ht (fun q => kt (by rwa [if_pos q] at h)) (fun q => kf (by rwa [if_neg q] at h))
theorem m_ige {x y : Int32} {off : Int} {tgt : Nat} {a b : Option β} (S : CallFix p m c cc nL s args Ts own) (hdg : decode cc pc = .ok (.if_icmp .ge off, 3)) (ht : (pc : Int) + off = (tgt : Int)) (h : (if y ≤ x then a else b) = some r) (kt : a = some r → W p l e R s m args below meth c H locs cells slots Q (F0 m tgt ls rest)) (kf : b = some r → W p l e R s m args below meth c H locs cells slots Q (F0 m (pc + 3) ls rest)) : W p l e R s m args below meth c H locs cells slots Q (F0 m pc ls (.int y :: .int x :: rest)) :=
  lv_icmp_ge S.1 S.2.1 hdg ht (fun q => kt (by rwa [if_pos q] at h)) (fun q => kf (by rwa [if_neg q] at h))
theorem m_igt {x y : Int32} {off : Int} {tgt : Nat} {a b : Option β} (S : CallFix p m c cc nL s args Ts own) (hdg : decode cc pc = .ok (.if_icmp .gt off, 3)) (ht : (pc : Int) + off = (tgt : Int)) (h : (if y < x then a else b) = some r) (kt : a = some r → W p l e R s m args below meth c H locs cells slots Q (F0 m tgt ls rest)) (kf : b = some r → W p l e R s m args below meth c H locs cells slots Q (F0 m (pc + 3) ls rest)) : W p l e R s m args below meth c H locs cells slots Q (F0 m pc ls (.int y :: .int x :: rest)) :=
  lv_icmp_gt S.1 S.2.1 hdg ht (fun q => kt (by rwa [if_pos q] at h)) (fun q => kf (by rwa [if_neg q] at h))
theorem m_ile {x y : Int32} {off : Int} {tgt : Nat} {a b : Option β} (S : CallFix p m c cc nL s args Ts own) (hdg : decode cc pc = .ok (.if_icmp .le off, 3)) (ht : (pc : Int) + off = (tgt : Int)) (h : (if x ≤ y then a else b) = some r) (kt : a = some r → W p l e R s m args below meth c H locs cells slots Q (F0 m tgt ls rest)) (kf : b = some r → W p l e R s m args below meth c H locs cells slots Q (F0 m (pc + 3) ls rest)) : W p l e R s m args below meth c H locs cells slots Q (F0 m pc ls (.int y :: .int x :: rest)) :=
  lv_icmp_le S.1 S.2.1 hdg ht (fun q => kt (by rwa [if_pos q] at h)) (fun q => kf (by rwa [if_neg q] at h))
theorem m_idiv {x y : Int32} {a : Option β} (S : CallFix p m c cc nL s args Ts own) (hdg : decode cc pc = .ok (.idiv, 1)) (h : gd (isN y) a = some r) (kk : a = some r → W p l e R s m args below meth c H locs cells slots Q (F0 m (pc + 1) ls (.int (x / y) :: rest))) : W p l e R s m args below meth c H locs cells slots Q (F0 m pc ls (.int y :: .int x :: rest)) :=
  lv_idiv S.1 S.2.1 hdg (of_decide_eq_true (gd_s h).1) (kk (gd_s h).2)
theorem m_irem {x y : Int32} {a : Option β} (S : CallFix p m c cc nL s args Ts own) (hdg : decode cc pc = .ok (.irem, 1)) (h : gd (isN y) a = some r) (kk : a = some r → W p l e R s m args below meth c H locs cells slots Q (F0 m (pc + 1) ls (.int (x - x / y * y) :: rest))) : W p l e R s m args below meth c H locs cells slots Q (F0 m pc ls (.int y :: .int x :: rest)) :=
  lv_irem S.1 S.2.1 hdg (of_decide_eq_true (gd_s h).1) (kk (gd_s h).2)
theorem m_ldiv {x y : Int64} {a : Option β} (S : CallFix p m c cc nL s args Ts own) (hdg : decode cc pc = .ok (.ldiv, 1)) (h : gd (isNl y) a = some r) (kk : a = some r → W p l e R s m args below meth c H locs cells slots Q (F0 m (pc + 1) ls (.long (x / y) :: rest))) : W p l e R s m args below meth c H locs cells slots Q (F0 m pc ls (.long y :: .long x :: rest)) :=
  lv_ldiv S.1 S.2.1 hdg (of_decide_eq_true (gd_s h).1) (kk (gd_s h).2)
theorem m_lrem {x y : Int64} {a : Option β} (S : CallFix p m c cc nL s args Ts own) (hdg : decode cc pc = .ok (.lrem, 1)) (h : gd (isNl y) a = some r) (kk : a = some r → W p l e R s m args below meth c H locs cells slots Q (F0 m (pc + 1) ls (.long (x - x / y * y) :: rest))) : W p l e R s m args below meth c H locs cells slots Q (F0 m pc ls (.long y :: .long x :: rest)) :=
  lv_lrem S.1 S.2.1 hdg (of_decide_eq_true (gd_s h).1) (kk (gd_s h).2)
end MR
end
section
-- ===== CALLS over the typed memory: a callee gets the whole memory and gives it back =====
theorem lpN_W1 {S X : Type} {st : S → Option (S ⊕ X)} (P : S → Prop) (Qx : X → Prop) (hs : ∀ s o, st s = some o → (∀ s', o = .inl s' → P s') → (∀ x, o = .inr x → Qx x) → P s) (n : Nat) (s : S) (x : X) (h : lpN st n s = some x) (hq : Qx x) : P s :=
  lpN_W P Qx (fun s o h k => hs s o h (fun s' e => by subst e; exact k) (fun x e => by subst e; exact k)) n s x h hq
section MCall
variable {p : Program} {l : Launch} {e : Env} {R : Room} {s : State} {m : MethodId} {args : Array Value} {below : List Frame} {meth : Method} {c : Code} {H : Heap} {locs : List Loc} {cells slots : Nat} {Q : State → Prop}
variable {cc : ByteArray} {pc nL : Nat} {ls : Array Slot} {rest st : List Value} {D : va_G} {cl : List vw_C} {tys : List (Nat × FieldType)} {Ts : List Cond} {own : String} {n : Nat} {tb : Nat → mK} {ad : Nat → Nat} {σ : mS}
variable {β : Type} {r : β} {y : MethodName} {bytes : ByteArray} {maxL na index ci k N : Nat} {ret : Option FieldType} {ws : List Cond} {rm : Room} {Qc : Array Value → State → Outcome → State → Prop} {C host : String} {As : List Value} {T : u_T} {ty : Nat → FieldType} {ts : List Nat} {a : Array Value}
theorem m_rV (S : CallFix p m c cc nL s args Ts own) (M : mM D cl tys (mA n ad s.heap.size) s n tb ad σ H locs) (hl : ls.size = nL) (cw : CallW R s args own C index y bytes maxL ret ws rm 0 0 na) (hC : mC Ts cl ci C T N ty) (hk : k < n) (ht : tb k = .inr (ci, ts)) (hM : Met l y ws rm (va_Pc (.ref (ad k) :: As) (mPre D cl tys n tb ad σ H.size)) Qc 0 0 (mA n ad H.size)) (hn : As.length = na) (hst : st = As.reverse ++ .ref (ad k) :: rest) (hrm : (rest.map fun v => v.category).sum ≤ 8) (hdg : decode cc pc = .ok (.invokevirtual index, 3)) (hcs : cells ≤ R.cells ∧ slots ≤ R.slots) :
    va_Run p l e R s m args below meth c H locs cells slots 0 0 (F0 m pc ls st) rest (Qc (Value.ref (ad k) :: As).toArray) (mA n ad H.size) :=
  va_runV S hM cw ⟨mPre_blind, va_recv M.1 M.2.1 hC.2.1 (wd_get hk ht), fun U hU hW => ⟨rfl, by rw [hU], by rw [hU]; exact M.2.1, va_K.moved hW.alike M.1, M.2.2.1.weaken (fun _ _ _ _ => trivial)⟩⟩ rfl hn hl hst (lv_room hrm) hdg hcs
theorem m_rVN (S : CallFix p m c cc nL s args Ts own) (M : mM D cl tys (mA n ad s.heap.size) s n tb ad σ H locs) (hl : ls.size = nL) (cw : va_CN R s args own index y host bytes maxL ret ws rm 0 0 na ∧ (Cond.instanceMethod y).before args s = true ∧ (Cond.selects C y y).before args s = true) (hC : mC Ts cl ci C T N ty) (hk : k < n) (ht : tb k = .inr (ci, ts)) (hM : Met l y ws rm (va_Pc (.ref (ad k) :: As) (mPre D cl tys n tb ad σ H.size)) Qc 0 0 (mA n ad H.size)) (hn : As.length = na) (hst : st = As.reverse ++ .ref (ad k) :: rest) (hrm : (rest.map fun v => v.category).sum ≤ 8) (hdg : decode cc pc = .ok (.invokevirtual index, 3)) (hcs : cells ≤ R.cells ∧ slots ≤ R.slots) :
    va_Run p l e R s m args below meth c H locs cells slots 0 0 (F0 m pc ls st) rest (Qc (Value.ref (ad k) :: As).toArray) (mA n ad H.size) :=
  va_runVN S hM cw ⟨mPre_blind, va_recv M.1 M.2.1 hC.2.1 (wd_get hk ht), fun U hU hW => ⟨rfl, by rw [hU], by rw [hU]; exact M.2.1, va_K.moved hW.alike M.1, M.2.2.1.weaken (fun _ _ _ _ => trivial)⟩⟩ rfl hn hl hst (lv_room hrm) hdg hcs
theorem m_rS (S : CallFix p m c cc nL s args Ts own) (M : mM D cl tys (mA n ad s.heap.size) s n tb ad σ H locs) (hl : ls.size = nL) (cw : CallB R s args own index y bytes maxL ret ws rm 0 0 na ∧ (Cond.static y).before args s = true) (hM : Met l y ws rm (va_Pc As (mPre D cl tys n tb ad σ H.size)) Qc 0 0 (mA n ad H.size)) (hn : As.length = na) (hst : st = As.reverse ++ rest) (hrm : (rest.map fun v => v.category).sum ≤ 8) (hdg : decode cc pc = .ok (.invokestatic index, 3)) (hcs : cells ≤ R.cells ∧ slots ≤ R.slots) :
    va_Run p l e R s m args below meth c H locs cells slots 0 0 (F0 m pc ls st) rest (Qc As.toArray) (mA n ad H.size) :=
  va_runS S hM cw ⟨mPre_blind, fun U hU hW => ⟨rfl, by rw [hU], by rw [hU]; exact M.2.1, va_K.moved hW.alike M.1, M.2.2.1.weaken (fun _ _ _ _ => trivial)⟩⟩ rfl hn hl hst (lv_room hrm) hdg hcs
theorem m_rSN (S : CallFix p m c cc nL s args Ts own) (M : mM D cl tys (mA n ad s.heap.size) s n tb ad σ H locs) (hl : ls.size = nL) (cw : va_CN R s args own index y host bytes maxL ret ws rm 0 0 na ∧ (Cond.static y).before args s = true ∧ True) (hM : Met l y ws rm (va_Pc As (mPre D cl tys n tb ad σ H.size)) Qc 0 0 (mA n ad H.size)) (hn : As.length = na) (hst : st = As.reverse ++ rest) (hrm : (rest.map fun v => v.category).sum ≤ 8) (hdg : decode cc pc = .ok (.invokestatic index, 3)) (hcs : cells ≤ R.cells ∧ slots ≤ R.slots) :
    va_Run p l e R s m args below meth c H locs cells slots 0 0 (F0 m pc ls st) rest (Qc As.toArray) (mA n ad H.size) :=
  va_runSN S hM cw ⟨mPre_blind, fun U hU hW => ⟨rfl, by rw [hU], by rw [hU]; exact M.2.1, va_K.moved hW.alike M.1, M.2.2.1.weaken (fun _ _ _ _ => trivial)⟩⟩ rfl hn hl hst (lv_room hrm) hdg hcs
/-- a call that answers an int and may change the memory -/
theorem m_xi {x : Option (Int32 × mS)} {f : Int32 × mS → Option β} (h : x.bind f = some r) (hr : ∀ o, x = some o → va_Run p l e R s m args below meth c H locs cells slots 0 0 (F0 m pc ls st) rest (mQi D cl tys n tb ad o H.size a) (mA n ad H.size)) (M : mM D cl tys (mA n ad s.heap.size) s n tb ad σ H locs)
    (kk : ∀ (o : Int32 × mS) (H1 : Heap) (locs1 : List Loc), f o = some r → mM D cl tys (mA n ad s.heap.size) s n tb ad o.2 H1 locs1 → W p l e R s m args below meth c H1 locs1 cells slots Q (F0 m (pc + 3) ls (.int o.1 :: rest))) : W p l e R s m args below meth c H locs cells slots Q (F0 m pc ls st) := by
  obtain ⟨o, ho, hf⟩ := Option.bind_eq_some_iff.mp h
  refine va_calli (hr o ho) M.2.2.2 (fun q _ h => mA_up M.2.2.2.1 h) (fun q h => mA_up M.2.2.2.1 h) (fun r u t H1 locs1 ht hvm hw hB hz hk hS => ?_)
  have hw : r = o.1 := hw
  subst hw
  exact kk o H1 locs1 hf ⟨M.1, by rw [← ht]; exact hB.1, hB.2.2.weaken (fun _ _ _ h => mA_up M.2.2.2.1 h), hS⟩
/-- a call that answers an int and changes nothing -/
theorem m_xip {x : Option Int32} {f : Int32 → Option β} (h : x.bind f = some r) (hr : ∀ o, x = some o → va_Run p l e R s m args below meth c H locs cells slots 0 0 (F0 m pc ls st) rest (mQi D cl tys n tb ad (o, σ) H.size a) (mA n ad H.size)) (M : mM D cl tys (mA n ad s.heap.size) s n tb ad σ H locs)
    (kk : ∀ (o : Int32) (H1 : Heap) (locs1 : List Loc), f o = some r → mM D cl tys (mA n ad s.heap.size) s n tb ad σ H1 locs1 → W p l e R s m args below meth c H1 locs1 cells slots Q (F0 m (pc + 3) ls (.int o :: rest))) : W p l e R s m args below meth c H locs cells slots Q (F0 m pc ls st) := by
  obtain ⟨o, ho, hf⟩ := Option.bind_eq_some_iff.mp h
  refine va_calli (hr o ho) M.2.2.2 (fun q _ h => mA_up M.2.2.2.1 h) (fun q h => mA_up M.2.2.2.1 h) (fun r u t H1 locs1 ht hvm hw hB hz hk hS => ?_)
  have hw : r = o := hw
  subst hw
  exact kk r H1 locs1 hf ⟨M.1, by rw [← ht]; exact hB.1, hB.2.2.weaken (fun _ _ _ h => mA_up M.2.2.2.1 h), hS⟩
theorem m_xlp {x : Option Int64} {f : Int64 → Option β} (h : x.bind f = some r) (hr : ∀ o, x = some o → va_Run p l e R s m args below meth c H locs cells slots 0 0 (F0 m pc ls st) rest (mQl D cl tys n tb ad (o, σ) H.size a) (mA n ad H.size)) (M : mM D cl tys (mA n ad s.heap.size) s n tb ad σ H locs)
    (kk : ∀ (o : Int64) (H1 : Heap) (locs1 : List Loc), f o = some r → mM D cl tys (mA n ad s.heap.size) s n tb ad σ H1 locs1 → W p l e R s m args below meth c H1 locs1 cells slots Q (F0 m (pc + 3) ls (.long o :: rest))) : W p l e R s m args below meth c H locs cells slots Q (F0 m pc ls st) := by
  obtain ⟨o, ho, hf⟩ := Option.bind_eq_some_iff.mp h
  refine va_calll (hr o ho) M.2.2.2 (fun q _ h => mA_up M.2.2.2.1 h) (fun q h => mA_up M.2.2.2.1 h) (fun r u t H1 locs1 ht hvm hw hB hz hk hS => ?_)
  have hw : r = o := hw
  subst hw
  exact kk r H1 locs1 hf ⟨M.1, by rw [← ht]; exact hB.1, hB.2.2.weaken (fun _ _ _ h => mA_up M.2.2.2.1 h), hS⟩
theorem m_xl {x : Option (Int64 × mS)} {f : Int64 × mS → Option β} (h : x.bind f = some r) (hr : ∀ o, x = some o → va_Run p l e R s m args below meth c H locs cells slots 0 0 (F0 m pc ls st) rest (mQl D cl tys n tb ad o H.size a) (mA n ad H.size)) (M : mM D cl tys (mA n ad s.heap.size) s n tb ad σ H locs)
    (kk : ∀ (o : Int64 × mS) (H1 : Heap) (locs1 : List Loc), f o = some r → mM D cl tys (mA n ad s.heap.size) s n tb ad o.2 H1 locs1 → W p l e R s m args below meth c H1 locs1 cells slots Q (F0 m (pc + 3) ls (.long o.1 :: rest))) : W p l e R s m args below meth c H locs cells slots Q (F0 m pc ls st) := by
  obtain ⟨o, ho, hf⟩ := Option.bind_eq_some_iff.mp h
  refine va_calll (hr o ho) M.2.2.2 (fun q _ h => mA_up M.2.2.2.1 h) (fun q h => mA_up M.2.2.2.1 h) (fun r u t H1 locs1 ht hvm hw hB hz hk hS => ?_)
  have hw : r = o.1 := hw
  subst hw
  exact kk o H1 locs1 hf ⟨M.1, by rw [← ht]; exact hB.1, hB.2.2.weaken (fun _ _ _ h => mA_up M.2.2.2.1 h), hS⟩
theorem m_xv {x : Option mS} {f : mS → Option β} (h : x.bind f = some r) (hr : ∀ o, x = some o → va_Run p l e R s m args below meth c H locs cells slots 0 0 (F0 m pc ls st) rest (mQv D cl tys n tb ad o H.size a) (mA n ad H.size)) (M : mM D cl tys (mA n ad s.heap.size) s n tb ad σ H locs)
    (kk : ∀ (o : mS) (H1 : Heap) (locs1 : List Loc), f o = some r → mM D cl tys (mA n ad s.heap.size) s n tb ad o H1 locs1 → W p l e R s m args below meth c H1 locs1 cells slots Q (F0 m (pc + 3) ls rest)) : W p l e R s m args below meth c H locs cells slots Q (F0 m pc ls st) := by
  obtain ⟨o, ho, hf⟩ := Option.bind_eq_some_iff.mp h
  refine va_callv (hr o ho) M.2.2.2 (fun q _ h => mA_up M.2.2.2.1 h) (fun q h => mA_up M.2.2.2.1 h) (fun u t H1 locs1 ht hvm hw hB hz hk hS => ?_)
  exact kk o H1 locs1 hf ⟨M.1, by rw [← ht]; exact hB.1, hB.2.2.weaken (fun _ _ _ h => mA_up M.2.2.2.1 h), hS⟩
end MCall
-- ===== a contract out of a walk =====
section MOf
variable {l : Launch} {y : MethodName} {tl : List Cond} {rm : Room} {D : va_G} {cl : List vw_C} {tys : List (Nat × FieldType)} {n : Nat} {tb : Nat → mK} {ad : Nat → Nat} {σ : mS} {av : List Value} {cc : ByteArray} {maxL : Nat}
/-- what the walk of a body starts from -/
theorem m_of {ret : Option FieldType} {Qc : Nat → Array Value → State → Outcome → State → Prop} (hy : plainName y.cls = true) (hlen : (lg_sl av).length ≤ maxL)
    (body : ∀ (p : Program) (e : Env) (s : State) (m : MethodId) (args : Array Value) (below : List Frame) (meth : Method) (c : Code) (ls : Array Slot), CallFix p m c cc maxL s args tl y.cls → meth.sig.returnType = ret → meth.locks = false → meth.name = y.name → lv_has ls maxL (lv_args 0 av) → mM D cl tys (mA n ad s.heap.size) s n tb ad σ s.heap [] →
      W p l e rm s m args below meth c s.heap [] 0 0 (MQ below (Qc s.heap.size) args s 0 0 (mA n ad s.heap.size)) (F0 m 0 ls [])) (sz : Nat) :
    Met l y (.code y cc maxL ret :: tl) rm (va_Pc av (mPre D cl tys n tb ad σ sz)) (Qc sz) 0 0 (mA n ad sz) := by
  refine Met.ofW (cc := cc) (maxL := maxL) (ret := ret) hy rfl ?_
  intro p e s m args below meth c s₁ B hml hv
  obtain ⟨rfl, hsz, hP, hK, hD0⟩ := hv
  subst hsz
  have hts := atoms_spec (ws := .code y cc maxL ret :: tl) B.pre
  have hl := lv_entry av (n := maxL) hlen
  rw [lg_entry_eq]
  generalize (lg_sl av ++ List.replicate (maxL - (lg_sl av).length) Slot.unset).toArray = ls at hl ⊢
  exact body p e s m _ below meth c ls ⟨B.exec, B.bytes, hml, findClass_of_methodNamed B.named, fun w h => hts w (List.mem_cons_of_mem _ h)⟩ B.returns B.notSynchronized (name_of_methodNamed B.named B.method).1 hl ⟨hK, hP, mD_self hD0, va_S.rf⟩
end MOf
section MRet
variable {p : Program} {l : Launch} {e : Env} {R : Room} {s : State} {m : MethodId} {args : Array Value} {below : List Frame} {meth : Method} {c : Code} {H : Heap} {locs : List Loc}
variable {cc : ByteArray} {pc nL : Nat} {ls : Array Slot} {D : va_G} {cl : List vw_C} {tys : List (Nat × FieldType)} {Ts : List Cond} {own : String} {n : Nat} {tb : Nat → mK} {ad : Nat → Nat} {σ : mS}
theorem m_iret {v : Int32} {o : Int32 × mS} (S : CallFix p m c cc nL s args Ts own) (hr : meth.sig.returnType = some .int) (hlk : meth.locks = false) (M : mM D cl tys (mA n ad s.heap.size) s n tb ad σ H locs) (h : (v, σ) = o) (hdg : decode cc pc = .ok (.ireturn, 1)) :
    W p l e R s m args below meth c H locs 0 0 (MQ below (mQi D cl tys n tb ad o s.heap.size) args s 0 0 (mA n ad s.heap.size)) (F0 m pc ls [.int v]) := by
  subst h
  exact W.iret S.1 S.2.1 hr (fun t ht hW => ⟨⟨v, (), rfl, rfl, by rw [ht]; exact M.2.1, va_K.moved hW.alike M.1, M.2.2.1⟩, M.2.2.2.F ht⟩) M.2.2.2.2.2 hdg hlk
theorem m_zret {v : Int32} {o : Int32 × mS} (S : CallFix p m c cc nL s args Ts own) (hr : meth.sig.returnType = some .boolean) (hlk : meth.locks = false) (M : mM D cl tys (mA n ad s.heap.size) s n tb ad σ H locs) (h : (v, σ) = o) (hb : isB v = true) (hdg : decode cc pc = .ok (.ireturn, 1)) :
    W p l e R s m args below meth c H locs 0 0 (MQ below (mQi D cl tys n tb ad o s.heap.size) args s 0 0 (mA n ad s.heap.size)) (F0 m pc ls [.int v]) := by
  subst h
  have hv : v = 0 ∨ v = 1 := of_decide_eq_true hb
  exact W.zret S.1 S.2.1 hr (by rcases hv with rfl | rfl <;> rfl) (fun t ht hW => ⟨⟨v, (), rfl, rfl, by rw [ht]; exact M.2.1, va_K.moved hW.alike M.1, M.2.2.1⟩, M.2.2.2.F ht⟩) M.2.2.2.2.2 hdg hlk
theorem m_lret {v : Int64} {o : Int64 × mS} (S : CallFix p m c cc nL s args Ts own) (hr : meth.sig.returnType = some .long) (hlk : meth.locks = false) (M : mM D cl tys (mA n ad s.heap.size) s n tb ad σ H locs) (h : (v, σ) = o) (hdg : decode cc pc = .ok (.lreturn, 1)) :
    W p l e R s m args below meth c H locs 0 0 (MQ below (mQl D cl tys n tb ad o s.heap.size) args s 0 0 (mA n ad s.heap.size)) (F0 m pc ls [.long v]) := by
  subst h
  exact W.lret S.1 S.2.1 hr (fun t ht hW => ⟨⟨v, (), rfl, rfl, by rw [ht]; exact M.2.1, va_K.moved hW.alike M.1, M.2.2.1⟩, M.2.2.2.F ht⟩) M.2.2.2.2.2 hdg hlk
theorem m_vret {o : mS} (S : CallFix p m c cc nL s args Ts own) (hr : meth.sig.returnType = none) (hlk : meth.locks = false) (M : mM D cl tys (mA n ad s.heap.size) s n tb ad σ H locs) (h : σ = o) (hdg : decode cc pc = .ok (.return_, 1)) :
    W p l e R s m args below meth c H locs 0 0 (MQ below (mQv D cl tys n tb ad o s.heap.size) args s 0 0 (mA n ad s.heap.size)) (F0 m pc ls []) := by
  subst h
  exact W.vret S.1 S.2.1 hr (fun t ht hW => ⟨⟨(), rfl, trivial, by rw [ht]; exact M.2.1, va_K.moved hW.alike M.1, M.2.2.1⟩, M.2.2.2.F ht⟩) M.2.2.2.2.2 hdg hlk
end MRet
theorem lpN_W2 {S X Y : Type} {st : S → Option (S ⊕ (X ⊕ Y))} (P : S → Prop) (Qe : X → Prop) (Qr : Y → Prop) (hs : ∀ s o, st s = some o → (∀ s', o = .inl s' → P s') → (∀ x, o = .inr (.inl x) → Qe x) → (∀ y, o = .inr (.inr y) → Qr y) → P s) (n : Nat) (s : S) (x : X ⊕ Y) (h : lpN st n s = some x) (he : ∀ q, x = .inl q → Qe q) (hr : ∀ q, x = .inr q → Qr q) : P s :=
  lpN_W1 P (fun x => (∀ q, x = .inl q → Qe q) ∧ ∀ q, x = .inr q → Qr q) (fun s o h k1 k2 => hs s o h k1 (fun x e => (k2 _ e).1 x rfl) (fun y e => (k2 _ e).2 y rfl)) n s x h ⟨he, hr⟩
end
section
-- ===== words: the tables' good ones =====
def tlG : List Cond := lw_tbl.filter goodWord
theorem tl_at {w : Cond} (i : Nat) (h : tables_1[i]? = some w) (hg : goodWord w = true) : w ∈ tlG := List.mem_filter.mpr ⟨List.mem_append_right _ (List.mem_of_getElem? h), hg⟩
theorem tl_sel {y : MethodName} {n : Nat} (i : Nat) (h : lw_privs[i]? = some (y, n)) : Cond.selects y.cls y y ∈ tlG := List.mem_filter.mpr ⟨List.mem_append_left _ (List.mem_map.mpr ⟨(y, n), List.mem_of_getElem? h, rfl⟩), rfl⟩
theorem tl_good {ws : List Cond} (h : ∀ w ∈ ws, w ∈ tlG) : GoodIn tlG ws := fun w hw => ⟨h w hw, good_of_word (List.mem_filter.mp (h w hw)).2⟩
section CWG
variable {R : Room} {s : State} {args : Array Value} {own C : String} {index maxL n : Nat} {y : MethodName} {bytes : ByteArray} {ret : Option FieldType} {rm : Room}
theorem cwG (hts : ∀ w ∈ tlG, w.before args s = true) (h1 : Cond.methodLink own index y ∈ tlG) (h2 : Cond.instanceMethod y ∈ tlG) (h3 : Cond.selects C y y ∈ tlG) (h4 : Cond.initialized C ∈ tlG) (h5 : Cond.code y bytes maxL ret ∈ tlG)
    (hd : y.cls = C ∧ y.cls ≠ "java/lang/invoke/MethodHandle" ∧ y.cls ≠ "java/lang/invoke/VarHandle" ∧ (parseMethodDescriptor y.desc).map (fun d => d.parameters.length) = some n) (hR : rm.frames + 1 ≤ R.frames ∧ 8 + (maxL + 11) + rm.locals ≤ R.locals) (hc : rm.cells = 0 := by rfl) (hs : rm.slots = 0 := by rfl) :
    CallW R s args own C index y bytes maxL ret (Cond.code y bytes maxL ret :: tlG) rm 0 0 n := by
  refine cwV n hts (tl_good fun w hw => ?_) rfl hc hs hd hR
  simp only [wsV, List.cons_append, List.nil_append, List.mem_cons] at hw
  rcases hw with rfl | rfl | rfl | rfl | rfl | hw <;> first | exact h1 | exact h2 | exact h3 | exact h4 | exact h5 | exact hw
theorem cwGS (hts : ∀ w ∈ tlG, w.before args s = true) (h1 : Cond.methodLink own index y ∈ tlG) (h2 : Cond.static y ∈ tlG) (h4 : Cond.initialized y.cls ∈ tlG) (h5 : Cond.code y bytes maxL ret ∈ tlG)
    (hd : y.cls ≠ "java/lang/invoke/MethodHandle" ∧ y.cls ≠ "java/lang/invoke/VarHandle" ∧ (parseMethodDescriptor y.desc).map (fun d => d.parameters.length) = some n) (hR : rm.frames + 1 ≤ R.frames ∧ 8 + (maxL + 11) + rm.locals ≤ R.locals) (hc : rm.cells = 0 := by rfl) (hs : rm.slots = 0 := by rfl) :
    CallB R s args own index y bytes maxL ret (Cond.code y bytes maxL ret :: tlG) rm 0 0 n ∧ (Cond.static y).before args s = true := by
  refine va_cwS n hts (tl_good fun w hw => ?_) rfl hc hs hd hR
  simp only [va_wsS, List.cons_append, List.nil_append, List.mem_cons] at hw
  rcases hw with rfl | rfl | rfl | rfl | hw <;> first | exact h1 | exact h2 | exact h4 | exact h5 | exact hw
end CWG
def T_LP : u_T := fun k => match k with
  | 0 => ("LeastPaths", "heap", "I", true)
  | 1 => ("LeastPaths", "graph", "LLeastPaths$Graph;", true)
  | 2 => ("LeastPaths", "ahead", "LLeastPaths$Search;", true)
  | 3 => ("LeastPaths", "back", "LLeastPaths$Search;", true)
  | 4 => ("LeastPaths", "sides", "LLeastPaths$BothSides;", true)
  | 5 => ("LeastPaths", "row", "LLeastPaths$Row;", true)
  | 6 => ("LeastPaths", "rings", "LLeastPaths$Rings;", true)
  | 7 => ("LeastPaths", "widths", "LLeastPaths$Widths;", true)
  | _ => ("LeastPaths", "trusts", "LLeastPaths$Trusts;", true)
def ty_LP : Nat → FieldType := fun k => match k with
  | 0 => .int
  | 1 => (.object "LeastPaths$Graph")
  | 2 => (.object "LeastPaths$Search")
  | 3 => (.object "LeastPaths$Search")
  | 4 => (.object "LeastPaths$BothSides")
  | 5 => (.object "LeastPaths$Row")
  | 6 => (.object "LeastPaths$Rings")
  | 7 => (.object "LeastPaths$Widths")
  | _ => (.object "LeastPaths$Trusts")
def T_BS : u_T := fun k => match k with
  | 0 => ("LeastPaths$BothSides", "ahead", "LLeastPaths$Search;", true)
  | 1 => ("LeastPaths$BothSides", "back", "LLeastPaths$Search;", true)
  | _ => ("LeastPaths$BothSides", "best", "I", false)
def ty_BS : Nat → FieldType := fun k => match k with
  | 0 => (.object "LeastPaths$Search")
  | 1 => (.object "LeastPaths$Search")
  | _ => .int
def T_Gr : u_T := fun k => match k with
  | 0 => ("LeastPaths$Graph", "from", "[I", true)
  | 1 => ("LeastPaths$Graph", "to", "[I", true)
  | 2 => ("LeastPaths$Graph", "weight", "[I", true)
  | 3 => ("LeastPaths$Graph", "above", "[I", true)
  | 4 => ("LeastPaths$Graph", "below", "[I", true)
  | 5 => ("LeastPaths$Graph", "rest", "[I", true)
  | 6 => ("LeastPaths$Graph", "nodes", "I", false)
  | 7 => ("LeastPaths$Graph", "arcs", "I", false)
  | 8 => ("LeastPaths$Graph", "live", "J", false)
  | _ => ("LeastPaths$Graph", "sources", "I", false)
def ty_Gr : Nat → FieldType := fun k => match k with
  | 0 => (.array .int)
  | 1 => (.array .int)
  | 2 => (.array .int)
  | 3 => (.array .int)
  | 4 => (.array .int)
  | 5 => (.array .int)
  | 6 => .int
  | 7 => .int
  | 8 => .long
  | _ => .int
def T_Rg : u_T := fun k => match k with
  | 0 => ("LeastPaths$Rings", "graph", "LLeastPaths$Graph;", true)
  | 1 => ("LeastPaths$Rings", "back", "LLeastPaths$Search;", true)
  | _ => ("LeastPaths$Rings", "least", "LLeastPaths$Way;", true)
def ty_Rg : Nat → FieldType := fun k => match k with
  | 0 => (.object "LeastPaths$Graph")
  | 1 => (.object "LeastPaths$Search")
  | _ => (.object "LeastPaths$Way")
def T_Rw : u_T := fun k => match k with
  | 0 => ("LeastPaths$Row", "graph", "LLeastPaths$Graph;", true)
  | 1 => ("LeastPaths$Row", "back", "LLeastPaths$Search;", true)
  | 2 => ("LeastPaths$Row", "ways", "[LLeastPaths$Way;", true)
  | 3 => ("LeastPaths$Row", "nothing", "LLeastPaths$Way;", true)
  | 4 => ("LeastPaths$Row", "size", "I", false)
  | 5 => ("LeastPaths$Row", "room", "I", false)
  | 6 => ("LeastPaths$Row", "start", "I", false)
  | _ => ("LeastPaths$Row", "goal", "I", false)
def ty_Rw : Nat → FieldType := fun k => match k with
  | 0 => (.object "LeastPaths$Graph")
  | 1 => (.object "LeastPaths$Search")
  | 2 => (.array (.object "LeastPaths$Way"))
  | 3 => (.object "LeastPaths$Way")
  | 4 => .int
  | 5 => .int
  | 6 => .int
  | _ => .int
def T_Se : u_T := fun k => match k with
  | 0 => ("LeastPaths$Search", "graph", "LLeastPaths$Graph;", true)
  | 1 => ("LeastPaths$Search", "against", "Z", true)
  | 2 => ("LeastPaths$Search", "waiting", "LLeastPaths$Waiting;", true)
  | 3 => ("LeastPaths$Search", "number", "[I", true)
  | 4 => ("LeastPaths$Search", "order", "[I", true)
  | 5 => ("LeastPaths$Search", "waysTo", "[I", true)
  | 6 => ("LeastPaths$Search", "settled", "I", false)
  | 7 => ("LeastPaths$Search", "known", "I", false)
  | 8 => ("LeastPaths$Search", "closed", "I", false)
  | 9 => ("LeastPaths$Search", "open", "J", false)
  | 10 => ("LeastPaths$Search", "perArc", "I", false)
  | _ => ("LeastPaths$Search", "byRests", "Z", false)
def ty_Se : Nat → FieldType := fun k => match k with
  | 0 => (.object "LeastPaths$Graph")
  | 1 => .boolean
  | 2 => (.object "LeastPaths$Waiting")
  | 3 => (.array .int)
  | 4 => (.array .int)
  | 5 => (.array .int)
  | 6 => .int
  | 7 => .int
  | 8 => .int
  | 9 => .long
  | 10 => .int
  | _ => .boolean
def T_Tr : u_T := fun k => match k with
  | 0 => ("LeastPaths$Trusts", "graph", "LLeastPaths$Graph;", true)
  | 1 => ("LeastPaths$Trusts", "above", "[J", true)
  | _ => ("LeastPaths$Trusts", "below", "[J", true)
def ty_Tr : Nat → FieldType := fun k => match k with
  | 0 => (.object "LeastPaths$Graph")
  | 1 => (.array .long)
  | _ => (.array .long)
def T_Wa : u_T := fun k => match k with
  | 0 => ("LeastPaths$Waiting", "children", "I", true)
  | 1 => ("LeastPaths$Waiting", "nodeAt", "[I", true)
  | 2 => ("LeastPaths$Waiting", "placeOf", "[I", true)
  | 3 => ("LeastPaths$Waiting", "rankOf", "[J", true)
  | _ => ("LeastPaths$Waiting", "size", "I", false)
def ty_Wa : Nat → FieldType := fun k => match k with
  | 0 => .int
  | 1 => (.array .int)
  | 2 => (.array .int)
  | 3 => (.array .long)
  | _ => .int
def T_Wy : u_T := fun k => match k with
  | 0 => ("LeastPaths$Way", "arcs", "[I", true)
  | 1 => ("LeastPaths$Way", "count", "I", false)
  | 2 => ("LeastPaths$Way", "number", "I", false)
  | 3 => ("LeastPaths$Way", "split", "I", false)
  | _ => ("LeastPaths$Way", "barred", "J", false)
def ty_Wy : Nat → FieldType := fun k => match k with
  | 0 => (.array .int)
  | 1 => .int
  | 2 => .int
  | 3 => .int
  | _ => .long
def T_Wi : u_T := fun k => match k with
  | 0 => ("LeastPaths$Widths", "graph", "LLeastPaths$Graph;", true)
  | _ => ("LeastPaths$Widths", "width", "[I", true)
def ty_Wi : Nat → FieldType := fun k => match k with
  | 0 => (.object "LeastPaths$Graph")
  | _ => (.array .int)
def T_Mo : u_T := fun k => match k with
  | 0 => ("LeastPathsModel", "heap", "I", true)
  | 1 => ("LeastPathsModel", "nodes", "I", false)
  | 2 => ("LeastPathsModel", "arcs", "I", false)
  | 3 => ("LeastPathsModel", "from", "[I", true)
  | 4 => ("LeastPathsModel", "to", "[I", true)
  | 5 => ("LeastPathsModel", "weight", "[I", true)
  | 6 => ("LeastPathsModel", "above", "[I", true)
  | 7 => ("LeastPathsModel", "below", "[I", true)
  | 8 => ("LeastPathsModel", "alive", "[Z", true)
  | 9 => ("LeastPathsModel", "isSource", "[Z", true)
  | 10 => ("LeastPathsModel", "rests", "[I", true)
  | 11 => ("LeastPathsModel", "far", "[I", true)
  | 12 => ("LeastPathsModel", "hop", "[I", true)
  | 13 => ("LeastPathsModel", "many", "[I", true)
  | 14 => ("LeastPathsModel", "number", "[I", true)
  | 15 => ("LeastPathsModel", "settled", "[Z", true)
  | 16 => ("LeastPathsModel", "path", "[I", true)
  | 17 => ("LeastPathsModel", "tried", "[I", true)
  | 18 => ("LeastPathsModel", "place", "[I", true)
  | 19 => ("LeastPathsModel", "size", "I", false)
  | 20 => ("LeastPathsModel", "length", "I", false)
  | 21 => ("LeastPathsModel", "rowFrom", "I", false)
  | 22 => ("LeastPathsModel", "rowTo", "I", false)
  | 23 => ("LeastPathsModel", "rows", "I", false)
  | 24 => ("LeastPathsModel", "rowLength", "[I", true)
  | 25 => ("LeastPathsModel", "rowSize", "[I", true)
  | 26 => ("LeastPathsModel", "rowArcs", "[I", true)
  | 27 => ("LeastPathsModel", "over", "[J", true)
  | 28 => ("LeastPathsModel", "under", "[J", true)
  | 29 => ("LeastPathsModel", "ringLength", "I", false)
  | 30 => ("LeastPathsModel", "ringSize", "I", false)
  | _ => ("LeastPathsModel", "ringPath", "[I", true)
def ty_Mo : Nat → FieldType := fun k => match k with
  | 0 => .int
  | 1 => .int
  | 2 => .int
  | 3 => (.array .int)
  | 4 => (.array .int)
  | 5 => (.array .int)
  | 6 => (.array .int)
  | 7 => (.array .int)
  | 8 => (.array .boolean)
  | 9 => (.array .boolean)
  | 10 => (.array .int)
  | 11 => (.array .int)
  | 12 => (.array .int)
  | 13 => (.array .int)
  | 14 => (.array .int)
  | 15 => (.array .boolean)
  | 16 => (.array .int)
  | 17 => (.array .int)
  | 18 => (.array .int)
  | 19 => .int
  | 20 => .int
  | 21 => .int
  | 22 => .int
  | 23 => .int
  | 24 => (.array .int)
  | 25 => (.array .int)
  | 26 => (.array .int)
  | 27 => (.array .long)
  | 28 => (.array .long)
  | 29 => .int
  | 30 => .int
  | _ => (.array .int)
def clX : List vw_C := [("LeastPaths", T_LP, 9), ("LeastPaths$BothSides", T_BS, 3), ("LeastPaths$Graph", T_Gr, 10), ("LeastPaths$Rings", T_Rg, 3), ("LeastPaths$Row", T_Rw, 8), ("LeastPaths$Search", T_Se, 12), ("LeastPaths$Trusts", T_Tr, 3), ("LeastPaths$Waiting", T_Wa, 5), ("LeastPaths$Way", T_Wy, 5), ("LeastPaths$Widths", T_Wi, 2), ("LeastPathsModel", T_Mo, 32)]
theorem ok_LP : mC tlG clX 0 "LeastPaths" T_LP 9 ty_LP := ⟨by decide +kernel, rfl, by decide +kernel, by decide +kernel⟩
theorem ok_BS : mC tlG clX 1 "LeastPaths$BothSides" T_BS 3 ty_BS := ⟨by decide +kernel, rfl, by decide +kernel, by decide +kernel⟩
theorem ok_Gr : mC tlG clX 2 "LeastPaths$Graph" T_Gr 10 ty_Gr := ⟨by decide +kernel, rfl, by decide +kernel, by decide +kernel⟩
theorem ok_Rg : mC tlG clX 3 "LeastPaths$Rings" T_Rg 3 ty_Rg := ⟨by decide +kernel, rfl, by decide +kernel, by decide +kernel⟩
theorem ok_Rw : mC tlG clX 4 "LeastPaths$Row" T_Rw 8 ty_Rw := ⟨by decide +kernel, rfl, by decide +kernel, by decide +kernel⟩
theorem ok_Se : mC tlG clX 5 "LeastPaths$Search" T_Se 12 ty_Se := ⟨by decide +kernel, rfl, by decide +kernel, by decide +kernel⟩
theorem ok_Tr : mC tlG clX 6 "LeastPaths$Trusts" T_Tr 3 ty_Tr := ⟨by decide +kernel, rfl, by decide +kernel, by decide +kernel⟩
theorem ok_Wa : mC tlG clX 7 "LeastPaths$Waiting" T_Wa 5 ty_Wa := ⟨by decide +kernel, rfl, by decide +kernel, by decide +kernel⟩
theorem ok_Wy : mC tlG clX 8 "LeastPaths$Way" T_Wy 5 ty_Wy := ⟨by decide +kernel, rfl, by decide +kernel, by decide +kernel⟩
theorem ok_Wi : mC tlG clX 9 "LeastPaths$Widths" T_Wi 2 ty_Wi := ⟨by decide +kernel, rfl, by decide +kernel, by decide +kernel⟩
theorem ok_Mo : mC tlG clX 10 "LeastPathsModel" T_Mo 32 ty_Mo := ⟨by decide +kernel, rfl, by decide +kernel, by decide +kernel⟩
def tbX (cA : Nat → Nat) : Nat → mK := fun k => match k with
  | 0 => .inr (0, [0, 1 + 3, 8 + 3, 16 + 3, 24 + 3, 25 + 3, 91 + 3, 94 + 3, 96 + 3])
  | 1 => .inr (2, [2 + 3, 3 + 3, 4 + 3, 5 + 3, 6 + 3, 7 + 3, 0, 0, 1, 0])
  | 2 => .inl (0, 40, cA 0)
  | 3 => .inl (0, 40, cA 0)
  | 4 => .inl (0, 40, cA 0)
  | 5 => .inl (0, 40, cA 0)
  | 6 => .inl (0, 40, cA 0)
  | 7 => .inl (0, 10, cA 0)
  | 8 => .inr (5, [1 + 3, 0, 12 + 3, 9 + 3, 10 + 3, 11 + 3, 0, 0, 0, 1, 0, 0])
  | 9 => .inl (0, 10, cA 0)
  | 10 => .inl (0, 10, cA 0)
  | 11 => .inl (0, 10, cA 0)
  | 12 => .inr (7, [0, 13 + 3, 14 + 3, 15 + 3, 0])
  | 13 => .inl (0, 10, cA 0)
  | 14 => .inl (0, 10, cA 0)
  | 15 => .inl (1, 10, cA 1)
  | 16 => .inr (5, [1 + 3, 0, 20 + 3, 17 + 3, 18 + 3, 19 + 3, 0, 0, 0, 1, 0, 0])
  | 17 => .inl (0, 10, cA 0)
  | 18 => .inl (0, 10, cA 0)
  | 19 => .inl (0, 10, cA 0)
  | 20 => .inr (7, [0, 21 + 3, 22 + 3, 23 + 3, 0])
  | 21 => .inl (0, 10, cA 0)
  | 22 => .inl (0, 10, cA 0)
  | 23 => .inl (1, 10, cA 1)
  | 24 => .inr (1, [8 + 3, 16 + 3, 0])
  | 25 => .inr (4, [1 + 3, 16 + 3, 26 + 3, 27 + 3, 0, 0, 0, 0])
  | 26 => .inl (2, 31, cA 3)
  | 91 => .inr (3, [1 + 3, 16 + 3, 92 + 3])
  | 92 => .inr (8, [93 + 3, 0, 0, 0, 1])
  | 93 => .inl (0, 10, cA 0)
  | 94 => .inr (9, [1 + 3, 95 + 3])
  | 95 => .inl (0, 10, cA 0)
  | 96 => .inr (6, [1 + 3, 97 + 3, 98 + 3])
  | 97 => .inl (1, 10, cA 1)
  | 98 => .inl (1, 10, cA 1)
  | k => if k % 2 = 1 then .inr (8, [k + 1 + 3, 0, 0, 0, 1]) else .inl (0, 10, cA 0)
def tbY (cA : Nat → Nat) : Nat → mK := fun k => match k with
  | 0 => .inr (10, [0, 0, 0, 1 + 3, 2 + 3, 3 + 3, 4 + 3, 5 + 3, 6 + 3, 7 + 3, 8 + 3, 9 + 3, 10 + 3, 11 + 3, 12 + 3, 13 + 3, 14 + 3, 15 + 3, 16 + 3, 0, 0, 0, 0, 0, 17 + 3, 18 + 3, 19 + 3, 20 + 3, 21 + 3, 0, 0, 22 + 3])
  | 1 => .inl (0, 40, cA 0)
  | 2 => .inl (0, 40, cA 0)
  | 3 => .inl (0, 40, cA 0)
  | 4 => .inl (0, 40, cA 0)
  | 5 => .inl (0, 40, cA 0)
  | 6 => .inl (0, 40, cA 2)
  | 7 => .inl (0, 10, cA 2)
  | 8 => .inl (0, 10, cA 0)
  | 9 => .inl (0, 10, cA 0)
  | 10 => .inl (0, 10, cA 0)
  | 11 => .inl (0, 10, cA 0)
  | 12 => .inl (0, 20, cA 0)
  | 13 => .inl (0, 20, cA 2)
  | 14 => .inl (0, 12, cA 0)
  | 15 => .inl (0, 12, cA 0)
  | 16 => .inl (0, 12, cA 0)
  | 17 => .inl (0, 31, cA 0)
  | 18 => .inl (0, 31, cA 0)
  | 19 => .inl (0, 310, cA 0)
  | 20 => .inl (1, 10, cA 1)
  | 21 => .inl (1, 10, cA 1)
  | 22 => .inl (0, 12, cA 0)
  | _ => .inl (0, 0, cA 0)
def tyK (cA : Nat → Nat) : List (Nat × FieldType) := [(cA 0, .int), (cA 1, .long), (cA 2, .boolean), (cA 3, .object "LeastPaths$Way")]
-- the two searches, the two heaps, the ways
def sB (b : Nat) : Prop := b = 8 ∨ b = 16
def wB (b : Nat) : Prop := b = 12 ∨ b = 20
def wy (w : Nat) : Bool := decide (w = 27 ∨ w = 92 ∨ (29 ≤ w ∧ w < 91 ∧ w % 2 = 1))
theorem sB_8 : sB 8 := Or.inl rfl
theorem sB_16 : sB 16 := Or.inr rfl
theorem wB_12 : wB 12 := Or.inl rfl
theorem wB_20 : wB 20 := Or.inr rfl
theorem sB_w {b : Nat} (h : sB b) : wB (b + 4) := by rcases h with rfl | rfl; exact wB_12; exact wB_20
theorem wy_27 : wy 27 = true := by decide
theorem wy_92 : wy 92 = true := by decide
theorem lt_S0 {b : Nat} (h : sB b) : b < 99 := by rcases h with rfl | rfl <;> decide
theorem lt_S1 {b : Nat} (h : sB b) : b + 1 < 99 := by rcases h with rfl | rfl <;> decide
theorem lt_S2 {b : Nat} (h : sB b) : b + 2 < 99 := by rcases h with rfl | rfl <;> decide
theorem lt_S3 {b : Nat} (h : sB b) : b + 3 < 99 := by rcases h with rfl | rfl <;> decide
theorem lt_W0 {b : Nat} (h : wB b) : b < 99 := by rcases h with rfl | rfl <;> decide
theorem lt_W1 {b : Nat} (h : wB b) : b + 1 < 99 := by rcases h with rfl | rfl <;> decide
theorem lt_W2 {b : Nat} (h : wB b) : b + 2 < 99 := by rcases h with rfl | rfl <;> decide
theorem lt_W3 {b : Nat} (h : wB b) : b + 3 < 99 := by rcases h with rfl | rfl <;> decide
theorem tb_S0 {cA : Nat → Nat} {b : Nat} (h : sB b) : tbX cA b = .inr (5, [1 + 3, 0, b + 4 + 3, b + 1 + 3, b + 2 + 3, b + 3 + 3, 0, 0, 0, 1, 0, 0]) := by rcases h with rfl | rfl <;> rfl
theorem tb_S1 {cA : Nat → Nat} {b : Nat} (h : sB b) : tbX cA (b + 1) = .inl (0, 10, cA 0) := by rcases h with rfl | rfl <;> rfl
theorem tb_S2 {cA : Nat → Nat} {b : Nat} (h : sB b) : tbX cA (b + 2) = .inl (0, 10, cA 0) := by rcases h with rfl | rfl <;> rfl
theorem tb_S3 {cA : Nat → Nat} {b : Nat} (h : sB b) : tbX cA (b + 3) = .inl (0, 10, cA 0) := by rcases h with rfl | rfl <;> rfl
theorem tb_W0 {cA : Nat → Nat} {b : Nat} (h : wB b) : tbX cA b = .inr (7, [0, b + 1 + 3, b + 2 + 3, b + 3 + 3, 0]) := by rcases h with rfl | rfl <;> rfl
theorem tb_W1 {cA : Nat → Nat} {b : Nat} (h : wB b) : tbX cA (b + 1) = .inl (0, 10, cA 0) := by rcases h with rfl | rfl <;> rfl
theorem tb_W2 {cA : Nat → Nat} {b : Nat} (h : wB b) : tbX cA (b + 2) = .inl (0, 10, cA 0) := by rcases h with rfl | rfl <;> rfl
theorem tb_W3 {cA : Nat → Nat} {b : Nat} (h : wB b) : tbX cA (b + 3) = .inl (1, 10, cA 1) := by rcases h with rfl | rfl <;> rfl
theorem wy_cases {w : Nat} (h : wy w = true) : w = 27 ∨ w = 92 ∨ w = 29 ∨ w = 31 ∨ w = 33 ∨ w = 35 ∨ w = 37 ∨ w = 39 ∨ w = 41 ∨ w = 43 ∨ w = 45 ∨ w = 47 ∨ w = 49 ∨ w = 51 ∨ w = 53 ∨ w = 55 ∨ w = 57 ∨ w = 59 ∨ w = 61 ∨ w = 63 ∨ w = 65 ∨ w = 67 ∨ w = 69 ∨ w = 71 ∨ w = 73 ∨ w = 75 ∨ w = 77 ∨ w = 79 ∨ w = 81 ∨ w = 83 ∨ w = 85 ∨ w = 87 ∨ w = 89 := by
  have := of_decide_eq_true h
  omega
theorem lt_Y0 {w : Nat} (h : wy w = true) : w < 99 := by
  have := of_decide_eq_true h
  omega
theorem lt_Y1 {w : Nat} (h : wy w = true) : w + 1 < 99 := by
  have := of_decide_eq_true h
  omega
theorem tb_Y0 {cA : Nat → Nat} {w : Nat} (h : wy w = true) : tbX cA w = .inr (8, [w + 1 + 3, 0, 0, 0, 1]) := by
  rcases wy_cases h with rfl | rfl | rfl | rfl | rfl | rfl | rfl | rfl | rfl | rfl | rfl | rfl | rfl | rfl | rfl | rfl | rfl | rfl | rfl | rfl | rfl | rfl | rfl | rfl | rfl | rfl | rfl | rfl | rfl | rfl | rfl | rfl | rfl <;> rfl
theorem tb_Y1 {cA : Nat → Nat} {w : Nat} (h : wy w = true) : tbX cA (w + 1) = .inl (0, 10, cA 0) := by
  rcases wy_cases h with rfl | rfl | rfl | rfl | rfl | rfl | rfl | rfl | rfl | rfl | rfl | rfl | rfl | rfl | rfl | rfl | rfl | rfl | rfl | rfl | rfl | rfl | rfl | rfl | rfl | rfl | rfl | rfl | rfl | rfl | rfl | rfl | rfl <;> rfl
section MR2
variable {p : Program} {l : Launch} {e : Env} {R : Room} {s : State} {m : MethodId} {args : Array Value} {below : List Frame} {meth : Method} {c : Code} {H : Heap} {locs : List Loc} {cells slots : Nat} {Q : State → Prop}
variable {cc : ByteArray} {pc nL : Nat} {ls : Array Slot} {rest : List Value} {D : va_G} {cl : List vw_C} {A : Nat → Prop} {tys : List (Nat × FieldType)} {Ts : List Cond} {own : String} {n : Nat} {tb : Nat → mK} {ad : Nat → Nat} {σ : mS}
variable {β : Type} {r : β}
theorem m_zal {k N cA t0 : Nat} {i : Int32} {x : Option β} (S : CallFix p m c cc nL s args Ts own) (M : mM D cl tys A s n tb ad σ H locs) (hk : k < n) (ht : tb k = .inl (0, N, cA)) (hty : tys[t0]? = some (cA, .boolean)) (h : gd (inb i N) x = some r) (hdg : decode cc pc = .ok (.baload, 1))
    (kk : x = some r → W p l e R s m args below meth c H locs cells slots Q (F0 m (pc + 1) ls (.int (σ.1 k i.toNatClampNeg) :: rest))) : W p l e R s m args below meth c H locs cells slots Q (F0 m pc ls (.int i :: .ref (ad k) :: rest)) := by
  obtain ⟨hb, h⟩ := gd_s h
  exact va_zald S.1 S.2.1 M.1 M.2.1 k t0 (wd_get hk ht) hty (inb_in hb) hdg (kk h)
theorem m_zas {k N cA t0 : Nat} {i v : Int32} {f : mS → Option β} (S : CallFix p m c cc nL s args Ts own) (M : mM D cl tys A s n tb ad σ H locs) (hk : k < n) (ht : tb k = .inl (0, N, cA)) (hty : tys[t0]? = some (cA, .boolean)) (h : gd (inb i N) (gd (isB v) (nm (sI σ k i.toNatClampNeg v) f)) = some r) (hdg : decode cc pc = .ok (.bastore, 1))
    (kk : ∀ (σ1 : mS) (H1 : Heap) (locs1 : List Loc), f σ1 = some r → mM D cl tys A s n tb ad σ1 H1 locs1 → W p l e R s m args below meth c H1 locs1 cells slots Q (F0 m (pc + 1) ls rest)) : W p l e R s m args below meth c H locs cells slots Q (F0 m pc ls (.int v :: .int i :: .ref (ad k) :: rest)) := by
  obtain ⟨hb, h⟩ := gd_s h
  obtain ⟨hv, h⟩ := gd_s h
  have hv : v = 0 ∨ v = 1 := of_decide_eq_true hv
  have hv : vp_nar .boolean v = v := by rcases hv with rfl | rfl <;> rfl
  have ew : (.inl (cA, N, .inl (upd (σ.1 k) i.toNatClampNeg v)) : va_E) = mE ad (sI σ k i.toNatClampNeg v) k (.inl (0, N, cA)) := by
    show _ = (Sum.inl (cA, N, .inl (up2 σ.1 k i.toNatClampNeg v k)) : va_E)
    rw [up2_s]
    rfl
  refine va_zast S.1 S.2.1 M.1 M.2.1 M.2.2.1 M.2.2.2 k t0 (wd_get hk ht) hty (inb_in hb) hdg (fun H1 locs1 hP hD hS => ?_)
  rw [hv, ew, wd_set hk ht sI_o] at hP hD
  exact kk _ H1 locs1 h ⟨M.1, hP, hD, hS⟩
theorem m_aalW {k N cA t0 : Nat} {C : String} {i : Int32} {f : Nat → Option β} (S : CallFix p m c cc nL s args Ts own) (M : mM D cl tys A s n tb ad σ H locs) (hk : k < n) (ht : tb k = .inl (2, N, cA)) (hty : tys[t0]? = some (cA, .object C)) (h : gd (inb i N) ((σ.2.2 k i.toNatClampNeg).bind fun w => gd (wy w) (f w)) = some r) (hdg : decode cc pc = .ok (.aaload, 1))
    (kk : ∀ w : Nat, wy w = true → f w = some r → W p l e R s m args below meth c H locs cells slots Q (F0 m (pc + 1) ls (.ref (ad w) :: rest))) : W p l e R s m args below meth c H locs cells slots Q (F0 m pc ls (.int i :: .ref (ad k) :: rest)) := by
  obtain ⟨hb, h⟩ := gd_s h
  obtain ⟨w, hw, h⟩ := Option.bind_eq_some_iff.mp h
  obtain ⟨hy, h⟩ := gd_s h
  refine va_aldq S.1 S.2.1 M.1 M.2.1 k t0 (wd_get hk ht) hty (inb_in hb) hdg ?_
  show W p l e R s m args below meth c H locs cells slots Q (F0 m (pc + 1) ls (va_rf ((σ.2.2 k i.toNatClampNeg).map ad) :: rest))
  rw [hw]
  exact kk w hy h
theorem m_aas {k k2 N cA t0 ci Nn : Nat} {C : String} {T : u_T} {ty : Nat → FieldType} {ts : List Nat} {i : Int32} {f : mS → Option β} (S : CallFix p m c cc nL s args Ts own) (M : mM D cl tys A s n tb ad σ H locs) (hC : mC Ts cl ci C T Nn ty) (hk : k < n) (ht : tb k = .inl (2, N, cA)) (hty : tys[t0]? = some (cA, .object C)) (hk2 : k2 < n) (ht2 : tb k2 = .inr (ci, ts)) (h : gd (inb i N) (nm (sQ σ k i.toNatClampNeg (some k2)) f) = some r) (hdg : decode cc pc = .ok (.aastore, 1))
    (kk : ∀ (σ1 : mS) (H1 : Heap) (locs1 : List Loc), f σ1 = some r → mM D cl tys A s n tb ad σ1 H1 locs1 → W p l e R s m args below meth c H1 locs1 cells slots Q (F0 m (pc + 1) ls rest)) : W p l e R s m args below meth c H locs cells slots Q (F0 m pc ls (.ref (ad k2) :: .int i :: .ref (ad k) :: rest)) := by
  obtain ⟨hb, h⟩ := gd_s h
  have ef : va_up (fun x => (σ.2.2 k x).map ad) i.toNatClampNeg (some (ad k2)) = fun x => ((up2 σ.2.2 k i.toNatClampNeg (some k2)) k x).map ad := by
    funext x
    by_cases hx : x = i.toNatClampNeg
    · simp [va_up, up2, hx]
    · simp [va_up, up2, hx]
  have ew : (.inl (cA, N, .inr (.inr (.inr (.inr (va_up (fun x => (σ.2.2 k x).map ad) i.toNatClampNeg (some (ad k2))))))) : va_E) = mE ad (sQ σ k i.toNatClampNeg (some k2)) k (.inl (2, N, cA)) := by
    rw [ef]
    rfl
  refine va_astq S.1 S.2.1 M.1 M.2.1 M.2.2.1 M.2.2.2 k t0 k2 ci (r := (C, T, Nn)) (wd_get hk ht) hty (wd_get hk2 ht2) hC.2.1 (inb_in hb) hdg (fun H1 locs1 hP hD hS => ?_)
  rw [ew, wd_set hk ht sQ_o] at hP hD
  exact kk _ H1 locs1 h ⟨M.1, hP, hD, hS⟩
end MR2
end
section
set_option maxRecDepth 100000 in
theorem kw_0 : Cond.constantLong "java/lang/Long" 314 6148914691236517205 ∈ tlG := tl_at 377 rfl rfl
set_option maxRecDepth 100000 in
theorem kw_1 : Cond.constantLong "java/lang/Long" 316 3689348814741910323 ∈ tlG := tl_at 378 rfl rfl
set_option maxRecDepth 100000 in
theorem kw_2 : Cond.constantLong "java/lang/Long" 318 1085102592571150095 ∈ tlG := tl_at 379 rfl rfl
set_option maxRecDepth 100000 in
theorem kw_3 : Cond.fieldLink "LeastPaths$Graph" 30 "LeastPaths$Graph" "nodes" "I" ∈ tlG := tl_at 60 rfl rfl
set_option maxRecDepth 100000 in
theorem kw_4 : Cond.fieldLink "LeastPaths$Graph" 34 "LeastPaths$Graph" "arcs" "I" ∈ tlG := tl_at 66 rfl rfl
set_option maxRecDepth 100000 in
theorem kw_5 : Cond.fieldLink "LeastPaths$Graph" 37 "LeastPaths$Graph" "live" "J" ∈ tlG := tl_at 72 rfl rfl
set_option maxRecDepth 100000 in
theorem kw_6 : Cond.fieldLink "LeastPaths$Graph" 27 "LeastPaths$Graph" "rest" "[I" ∈ tlG := tl_at 57 rfl rfl
set_option maxRecDepth 100000 in
theorem kw_7 : Cond.fieldLink "LeastPaths$Graph" 9 "LeastPaths$Graph" "from" "[I" ∈ tlG := tl_at 34 rfl rfl
set_option maxRecDepth 100000 in
theorem kw_8 : Cond.fieldLink "LeastPaths$Graph" 15 "LeastPaths$Graph" "to" "[I" ∈ tlG := tl_at 40 rfl rfl
set_option maxRecDepth 100000 in
theorem kw_9 : Cond.fieldLink "LeastPaths$Graph" 18 "LeastPaths$Graph" "weight" "[I" ∈ tlG := tl_at 46 rfl rfl
set_option maxRecDepth 100000 in
theorem kw_10 : Cond.fieldLink "LeastPaths$Graph" 21 "LeastPaths$Graph" "above" "[I" ∈ tlG := tl_at 51 rfl rfl
set_option maxRecDepth 100000 in
theorem kw_11 : Cond.fieldLink "LeastPaths$Graph" 24 "LeastPaths$Graph" "below" "[I" ∈ tlG := tl_at 54 rfl rfl
set_option maxRecDepth 100000 in
theorem kw_12 : Cond.methodLink "LeastPaths$Graph" 41 ⟨"LeastPaths$Graph", "hasArc", "(I)Z"⟩ ∈ tlG := tl_at 515 rfl rfl
set_option maxRecDepth 100000 in
theorem kw_13 : Cond.instanceMethod ⟨"LeastPaths$Graph", "hasArc", "(I)Z"⟩ ∈ tlG := tl_at 366 rfl rfl
set_option maxRecDepth 100000 in
theorem kw_14 : Cond.selects "LeastPaths$Graph" ⟨"LeastPaths$Graph", "hasArc", "(I)Z"⟩ ⟨"LeastPaths$Graph", "hasArc", "(I)Z"⟩ ∈ tlG := tl_at 367 rfl rfl
set_option maxRecDepth 100000 in
theorem kw_15 : Cond.initialized "LeastPaths$Graph" ∈ tlG := tl_at 3 rfl rfl
set_option maxRecDepth 100000 in
theorem kw_16 : Cond.code ⟨"LeastPaths$Graph", "hasArc", "(I)Z"⟩ prog_3_method_3_code 2 (Option.some Jvm.ClassFile.FieldType.boolean) ∈ tlG := tl_at 368 rfl rfl
set_option maxRecDepth 100000 in
theorem kw_17 : Cond.fieldLink "LeastPaths$Waiting" 32 "LeastPaths$Waiting" "size" "I" ∈ tlG := tl_at 115 rfl rfl
set_option maxRecDepth 100000 in
theorem kw_18 : Cond.fieldLink "LeastPaths$Waiting" 15 "LeastPaths$Waiting" "placeOf" "[I" ∈ tlG := tl_at 113 rfl rfl
set_option maxRecDepth 100000 in
theorem kw_19 : Cond.fieldLink "LeastPaths$Waiting" 9 "LeastPaths$Waiting" "nodeAt" "[I" ∈ tlG := tl_at 112 rfl rfl
set_option maxRecDepth 100000 in
theorem kw_20 : Cond.fieldLink "LeastPaths$Waiting" 18 "LeastPaths$Waiting" "rankOf" "[J" ∈ tlG := tl_at 114 rfl rfl
set_option maxRecDepth 100000 in
theorem kw_21 : Cond.constantLong "LeastPaths$Waiting" 35 10 ∈ tlG := tl_at 420 rfl rfl
set_option maxRecDepth 100000 in
theorem kw_22 : Cond.fieldLink "LeastPaths$Waiting" 28 "LeastPaths$Waiting" "children" "I" ∈ tlG := tl_at 111 rfl rfl
set_option maxRecDepth 100000 in
theorem kw_23 : Cond.methodLink "LeastPaths$Waiting" 37 ⟨"LeastPaths$Waiting", "seat", "(II)V"⟩ ∈ tlG := tl_at 421 rfl rfl
set_option maxRecDepth 100000 in
theorem kw_24 : Cond.instanceMethod ⟨"LeastPaths$Waiting", "seat", "(II)V"⟩ ∈ tlG := tl_at 423 rfl rfl
set_option maxRecDepth 100000 in
theorem kw_25 : Cond.selects "LeastPaths$Waiting" ⟨"LeastPaths$Waiting", "seat", "(II)V"⟩ ⟨"LeastPaths$Waiting", "seat", "(II)V"⟩ ∈ tlG := tl_sel 4 rfl
set_option maxRecDepth 100000 in
theorem kw_26 : Cond.initialized "LeastPaths$Waiting" ∈ tlG := tl_at 5 rfl rfl
set_option maxRecDepth 100000 in
theorem kw_27 : Cond.code ⟨"LeastPaths$Waiting", "seat", "(II)V"⟩ prog_8_method_7_code 3 (Option.none : Option Jvm.ClassFile.FieldType) ∈ tlG := tl_at 424 rfl rfl
set_option maxRecDepth 100000 in
theorem kw_28 : Cond.methodLink "LeastPaths$Waiting" 41 ⟨"LeastPaths$Waiting", "firstChild", "(I)I"⟩ ∈ tlG := tl_at 445 rfl rfl
set_option maxRecDepth 100000 in
theorem kw_29 : Cond.instanceMethod ⟨"LeastPaths$Waiting", "firstChild", "(I)I"⟩ ∈ tlG := tl_at 447 rfl rfl
set_option maxRecDepth 100000 in
theorem kw_30 : Cond.selects "LeastPaths$Waiting" ⟨"LeastPaths$Waiting", "firstChild", "(I)I"⟩ ⟨"LeastPaths$Waiting", "firstChild", "(I)I"⟩ ∈ tlG := tl_sel 5 rfl
set_option maxRecDepth 100000 in
theorem kw_31 : Cond.code ⟨"LeastPaths$Waiting", "firstChild", "(I)I"⟩ prog_8_method_8_code 5 (Option.some Jvm.ClassFile.FieldType.int) ∈ tlG := tl_at 448 rfl rfl
set_option maxRecDepth 100000 in
theorem kw_32 : Cond.fieldLink "LeastPaths$Way" 15 "LeastPaths$Way" "count" "I" ∈ tlG := tl_at 202 rfl rfl
set_option maxRecDepth 100000 in
theorem kw_33 : Cond.fieldLink "LeastPaths$Way" 19 "LeastPaths$Way" "number" "I" ∈ tlG := tl_at 206 rfl rfl
set_option maxRecDepth 100000 in
theorem kw_34 : Cond.fieldLink "LeastPaths$Way" 22 "LeastPaths$Way" "split" "I" ∈ tlG := tl_at 209 rfl rfl
set_option maxRecDepth 100000 in
theorem kw_35 : Cond.fieldLink "LeastPaths$Way" 25 "LeastPaths$Way" "barred" "J" ∈ tlG := tl_at 211 rfl rfl
set_option maxRecDepth 100000 in
theorem kw_36 : Cond.fieldLink "LeastPaths$Way" 9 "LeastPaths$Way" "arcs" "[I" ∈ tlG := tl_at 200 rfl rfl
set_option maxRecDepth 100000 in
theorem kw_37 : Cond.fieldLink "LeastPaths$Search" 34 "LeastPaths$Search" "waiting" "LLeastPaths$Waiting;" ∈ tlG := tl_at 130 rfl rfl
set_option maxRecDepth 100000 in
theorem kw_38 : Cond.methodLink "LeastPaths$Search" 55 ⟨"LeastPaths$Waiting", "empty", "()V"⟩ ∈ tlG := tl_at 408 rfl rfl
set_option maxRecDepth 100000 in
theorem kw_39 : Cond.instanceMethod ⟨"LeastPaths$Waiting", "empty", "()V"⟩ ∈ tlG := tl_at 409 rfl rfl
set_option maxRecDepth 100000 in
theorem kw_40 : Cond.selects "LeastPaths$Waiting" ⟨"LeastPaths$Waiting", "empty", "()V"⟩ ⟨"LeastPaths$Waiting", "empty", "()V"⟩ ∈ tlG := tl_at 410 rfl rfl
set_option maxRecDepth 100000 in
theorem kw_41 : Cond.code ⟨"LeastPaths$Waiting", "empty", "()V"⟩ prog_8_method_2_code 2 (Option.none : Option Jvm.ClassFile.FieldType) ∈ tlG := tl_at 411 rfl rfl
set_option maxRecDepth 100000 in
theorem kw_42 : Cond.fieldLink "LeastPaths$Search" 58 "LeastPaths$Search" "settled" "I" ∈ tlG := tl_at 137 rfl rfl
set_option maxRecDepth 100000 in
theorem kw_43 : Cond.fieldLink "LeastPaths$Search" 61 "LeastPaths$Search" "known" "I" ∈ tlG := tl_at 139 rfl rfl
set_option maxRecDepth 100000 in
theorem kw_44 : Cond.fieldLink "LeastPaths$Search" 64 "LeastPaths$Search" "closed" "I" ∈ tlG := tl_at 141 rfl rfl
set_option maxRecDepth 100000 in
theorem kw_45 : Cond.fieldLink "LeastPaths$Search" 67 "LeastPaths$Search" "open" "J" ∈ tlG := tl_at 142 rfl rfl
set_option maxRecDepth 100000 in
theorem kw_46 : Cond.fieldLink "LeastPaths$Search" 21 "LeastPaths$Search" "graph" "LLeastPaths$Graph;" ∈ tlG := tl_at 128 rfl rfl
set_option maxRecDepth 100000 in
theorem kw_47 : Cond.fieldLink "LeastPaths$Search" 38 "LeastPaths$Graph" "live" "J" ∈ tlG := tl_at 70 rfl rfl
set_option maxRecDepth 100000 in
theorem kw_48 : Cond.methodLink "LeastPaths$Search" 44 ⟨"LeastPaths$Search", "begin", "(JI)V"⟩ ∈ tlG := tl_at 404 rfl rfl
set_option maxRecDepth 100000 in
theorem kw_49 : Cond.instanceMethod ⟨"LeastPaths$Search", "begin", "(JI)V"⟩ ∈ tlG := tl_at 406 rfl rfl
set_option maxRecDepth 100000 in
theorem kw_50 : Cond.selects "LeastPaths$Search" ⟨"LeastPaths$Search", "begin", "(JI)V"⟩ ⟨"LeastPaths$Search", "begin", "(JI)V"⟩ ∈ tlG := tl_sel 3 rfl
set_option maxRecDepth 100000 in
theorem kw_51 : Cond.initialized "LeastPaths$Search" ∈ tlG := tl_at 4 rfl rfl
set_option maxRecDepth 100000 in
theorem kw_52 : Cond.code ⟨"LeastPaths$Search", "begin", "(JI)V"⟩ prog_6_method_4_code 4 (Option.none : Option Jvm.ClassFile.FieldType) ∈ tlG := tl_at 407 rfl rfl
set_option maxRecDepth 100000 in
theorem kw_53 : Cond.fieldLink "LeastPaths$Search" 48 "LeastPaths$Search" "perArc" "I" ∈ tlG := tl_at 143 rfl rfl
set_option maxRecDepth 100000 in
theorem kw_54 : Cond.fieldLink "LeastPaths$Search" 52 "LeastPaths$Search" "byRests" "Z" ∈ tlG := tl_at 144 rfl rfl
set_option maxRecDepth 100000 in
theorem kw_55 : Cond.methodLink "LeastPaths$Search" 70 ⟨"LeastPaths$Waiting", "isEmpty", "()Z"⟩ ∈ tlG := tl_at 433 rfl rfl
set_option maxRecDepth 100000 in
theorem kw_56 : Cond.instanceMethod ⟨"LeastPaths$Waiting", "isEmpty", "()Z"⟩ ∈ tlG := tl_at 434 rfl rfl
set_option maxRecDepth 100000 in
theorem kw_57 : Cond.selects "LeastPaths$Waiting" ⟨"LeastPaths$Waiting", "isEmpty", "()Z"⟩ ⟨"LeastPaths$Waiting", "isEmpty", "()Z"⟩ ∈ tlG := tl_at 435 rfl rfl
set_option maxRecDepth 100000 in
theorem kw_58 : Cond.code ⟨"LeastPaths$Waiting", "isEmpty", "()Z"⟩ prog_8_method_3_code 1 (Option.some Jvm.ClassFile.FieldType.boolean) ∈ tlG := tl_at 436 rfl rfl
set_option maxRecDepth 100000 in
theorem kw_59 : Cond.methodLink "LeastPaths$Search" 74 ⟨"LeastPaths$Waiting", "first", "()I"⟩ ∈ tlG := tl_at 558 rfl rfl
set_option maxRecDepth 100000 in
theorem kw_60 : Cond.instanceMethod ⟨"LeastPaths$Waiting", "first", "()I"⟩ ∈ tlG := tl_at 559 rfl rfl
set_option maxRecDepth 100000 in
theorem kw_61 : Cond.selects "LeastPaths$Waiting" ⟨"LeastPaths$Waiting", "first", "()I"⟩ ⟨"LeastPaths$Waiting", "first", "()I"⟩ ∈ tlG := tl_at 560 rfl rfl
set_option maxRecDepth 100000 in
theorem kw_62 : Cond.code ⟨"LeastPaths$Waiting", "first", "()I"⟩ prog_8_method_4_code 1 (Option.some Jvm.ClassFile.FieldType.int) ∈ tlG := tl_at 561 rfl rfl
set_option maxRecDepth 100000 in
theorem kw_63 : Cond.fieldLink "LeastPaths$Search" 9 "LeastPaths$Search" "number" "[I" ∈ tlG := tl_at 131 rfl rfl
set_option maxRecDepth 100000 in
theorem kw_64 : Cond.constant "LeastPaths$Search" 78 2147483647 ∈ tlG := tl_at 562 rfl rfl
set_option maxRecDepth 100000 in
theorem kw_65 : Cond.methodLink "LeastPaths$Search" 82 ⟨"LeastPaths$Waiting", "put", "(II)V"⟩ ∈ tlG := tl_at 416 rfl rfl
set_option maxRecDepth 100000 in
theorem kw_66 : Cond.instanceMethod ⟨"LeastPaths$Waiting", "put", "(II)V"⟩ ∈ tlG := tl_at 417 rfl rfl
set_option maxRecDepth 100000 in
theorem kw_67 : Cond.selects "LeastPaths$Waiting" ⟨"LeastPaths$Waiting", "put", "(II)V"⟩ ⟨"LeastPaths$Waiting", "put", "(II)V"⟩ ∈ tlG := tl_at 418 rfl rfl
set_option maxRecDepth 100000 in
theorem kw_68 : Cond.code ⟨"LeastPaths$Waiting", "put", "(II)V"⟩ prog_8_method_5_code 6 (Option.none : Option Jvm.ClassFile.FieldType) ∈ tlG := tl_at 419 rfl rfl
set_option maxRecDepth 100000 in
theorem kw_69 : Cond.fieldLink "LeastPaths$Search" 79 "LeastPaths$Graph" "rest" "[I" ∈ tlG := tl_at 59 rfl rfl
set_option maxRecDepth 100000 in
theorem kw_70 : Cond.fieldLink "LeastPaths$Search" 25 "LeastPaths$Search" "against" "Z" ∈ tlG := tl_at 129 rfl rfl
set_option maxRecDepth 100000 in
theorem kw_71 : Cond.fieldLink "LeastPaths$Search" 140 "LeastPaths$Graph" "from" "[I" ∈ tlG := tl_at 38 rfl rfl
set_option maxRecDepth 100000 in
theorem kw_72 : Cond.fieldLink "LeastPaths$Search" 137 "LeastPaths$Graph" "to" "[I" ∈ tlG := tl_at 45 rfl rfl
set_option maxRecDepth 100000 in
theorem kw_73 : Cond.fieldLink "LeastPaths$Search" 129 "LeastPaths$Graph" "weight" "[I" ∈ tlG := tl_at 50 rfl rfl
set_option maxRecDepth 100000 in
theorem kw_74 : Cond.methodLink "LeastPaths$Search" 86 ⟨"LeastPaths$Waiting", "takeFirst", "()I"⟩ ∈ tlG := tl_at 441 rfl rfl
set_option maxRecDepth 100000 in
theorem kw_75 : Cond.instanceMethod ⟨"LeastPaths$Waiting", "takeFirst", "()I"⟩ ∈ tlG := tl_at 442 rfl rfl
set_option maxRecDepth 100000 in
theorem kw_76 : Cond.selects "LeastPaths$Waiting" ⟨"LeastPaths$Waiting", "takeFirst", "()I"⟩ ⟨"LeastPaths$Waiting", "takeFirst", "()I"⟩ ∈ tlG := tl_at 443 rfl rfl
set_option maxRecDepth 100000 in
theorem kw_77 : Cond.code ⟨"LeastPaths$Waiting", "takeFirst", "()I"⟩ prog_8_method_6_code 6 (Option.some Jvm.ClassFile.FieldType.int) ∈ tlG := tl_at 444 rfl rfl
set_option maxRecDepth 100000 in
theorem kw_78 : Cond.fieldLink "LeastPaths$Search" 15 "LeastPaths$Search" "order" "[I" ∈ tlG := tl_at 135 rfl rfl
set_option maxRecDepth 100000 in
theorem kw_79 : Cond.fieldLink "LeastPaths$Search" 89 "LeastPaths$Graph" "arcs" "I" ∈ tlG := tl_at 69 rfl rfl
set_option maxRecDepth 100000 in
theorem kw_80 : Cond.methodLink "LeastPaths$Search" 92 ⟨"LeastPaths$Search", "startOf", "(I)I"⟩ ∈ tlG := tl_at 449 rfl rfl
set_option maxRecDepth 100000 in
theorem kw_81 : Cond.instanceMethod ⟨"LeastPaths$Search", "startOf", "(I)I"⟩ ∈ tlG := tl_at 451 rfl rfl
set_option maxRecDepth 100000 in
theorem kw_82 : Cond.selects "LeastPaths$Search" ⟨"LeastPaths$Search", "startOf", "(I)I"⟩ ⟨"LeastPaths$Search", "startOf", "(I)I"⟩ ∈ tlG := tl_sel 6 rfl
set_option maxRecDepth 100000 in
theorem kw_83 : Cond.code ⟨"LeastPaths$Search", "startOf", "(I)I"⟩ prog_6_method_17_code 2 (Option.some Jvm.ClassFile.FieldType.int) ∈ tlG := tl_at 452 rfl rfl
set_option maxRecDepth 100000 in
theorem kw_84 : Cond.methodLink "LeastPaths$Search" 96 ⟨"LeastPaths$Search", "isOpen", "(I)Z"⟩ ∈ tlG := tl_at 453 rfl rfl
set_option maxRecDepth 100000 in
theorem kw_85 : Cond.instanceMethod ⟨"LeastPaths$Search", "isOpen", "(I)Z"⟩ ∈ tlG := tl_at 455 rfl rfl
set_option maxRecDepth 100000 in
theorem kw_86 : Cond.selects "LeastPaths$Search" ⟨"LeastPaths$Search", "isOpen", "(I)Z"⟩ ⟨"LeastPaths$Search", "isOpen", "(I)Z"⟩ ∈ tlG := tl_sel 7 rfl
set_option maxRecDepth 100000 in
theorem kw_87 : Cond.code ⟨"LeastPaths$Search", "isOpen", "(I)Z"⟩ prog_6_method_16_code 2 (Option.some Jvm.ClassFile.FieldType.boolean) ∈ tlG := tl_at 456 rfl rfl
set_option maxRecDepth 100000 in
theorem kw_88 : Cond.methodLink "LeastPaths$Search" 100 ⟨"LeastPaths$Search", "endOf", "(I)I"⟩ ∈ tlG := tl_at 457 rfl rfl
set_option maxRecDepth 100000 in
theorem kw_89 : Cond.instanceMethod ⟨"LeastPaths$Search", "endOf", "(I)I"⟩ ∈ tlG := tl_at 459 rfl rfl
set_option maxRecDepth 100000 in
theorem kw_90 : Cond.selects "LeastPaths$Search" ⟨"LeastPaths$Search", "endOf", "(I)I"⟩ ⟨"LeastPaths$Search", "endOf", "(I)I"⟩ ∈ tlG := tl_sel 8 rfl
set_option maxRecDepth 100000 in
theorem kw_91 : Cond.code ⟨"LeastPaths$Search", "endOf", "(I)I"⟩ prog_6_method_18_code 2 (Option.some Jvm.ClassFile.FieldType.int) ∈ tlG := tl_at 460 rfl rfl
set_option maxRecDepth 100000 in
theorem kw_92 : Cond.methodLink "LeastPaths$Search" 103 ⟨"LeastPaths$Search", "costOf", "(I)I"⟩ ∈ tlG := tl_at 461 rfl rfl
set_option maxRecDepth 100000 in
theorem kw_93 : Cond.instanceMethod ⟨"LeastPaths$Search", "costOf", "(I)I"⟩ ∈ tlG := tl_at 463 rfl rfl
set_option maxRecDepth 100000 in
theorem kw_94 : Cond.selects "LeastPaths$Search" ⟨"LeastPaths$Search", "costOf", "(I)I"⟩ ⟨"LeastPaths$Search", "costOf", "(I)I"⟩ ∈ tlG := tl_sel 9 rfl
set_option maxRecDepth 100000 in
theorem kw_95 : Cond.code ⟨"LeastPaths$Search", "costOf", "(I)I"⟩ prog_6_method_19_code 2 (Option.some Jvm.ClassFile.FieldType.int) ∈ tlG := tl_at 464 rfl rfl
set_option maxRecDepth 100000 in
theorem kw_96 : Cond.methodLink "LeastPaths$Search" 106 ⟨"LeastPaths$Search", "offer", "(II)V"⟩ ∈ tlG := tl_at 465 rfl rfl
set_option maxRecDepth 100000 in
theorem kw_97 : Cond.instanceMethod ⟨"LeastPaths$Search", "offer", "(II)V"⟩ ∈ tlG := tl_at 413 rfl rfl
set_option maxRecDepth 100000 in
theorem kw_98 : Cond.selects "LeastPaths$Search" ⟨"LeastPaths$Search", "offer", "(II)V"⟩ ⟨"LeastPaths$Search", "offer", "(II)V"⟩ ∈ tlG := tl_at 414 rfl rfl
set_option maxRecDepth 100000 in
theorem kw_99 : Cond.code ⟨"LeastPaths$Search", "offer", "(II)V"⟩ prog_6_method_8_code 4 (Option.none : Option Jvm.ClassFile.FieldType) ∈ tlG := tl_at 415 rfl rfl
set_option maxRecDepth 100000 in
theorem kw_100 : Cond.methodLink "LeastPaths$Search" 109 ⟨"LeastPaths$Search", "isOver", "()Z"⟩ ∈ tlG := tl_at 429 rfl rfl
set_option maxRecDepth 100000 in
theorem kw_101 : Cond.instanceMethod ⟨"LeastPaths$Search", "isOver", "()Z"⟩ ∈ tlG := tl_at 430 rfl rfl
set_option maxRecDepth 100000 in
theorem kw_102 : Cond.selects "LeastPaths$Search" ⟨"LeastPaths$Search", "isOver", "()Z"⟩ ⟨"LeastPaths$Search", "isOver", "()Z"⟩ ∈ tlG := tl_at 431 rfl rfl
set_option maxRecDepth 100000 in
theorem kw_103 : Cond.code ⟨"LeastPaths$Search", "isOver", "()Z"⟩ prog_6_method_6_code 1 (Option.some Jvm.ClassFile.FieldType.boolean) ∈ tlG := tl_at 432 rfl rfl
set_option maxRecDepth 100000 in
theorem kw_104 : Cond.methodLink "LeastPaths$Search" 112 ⟨"LeastPaths$Search", "settleFirst", "()I"⟩ ∈ tlG := tl_at 437 rfl rfl
set_option maxRecDepth 100000 in
theorem kw_105 : Cond.instanceMethod ⟨"LeastPaths$Search", "settleFirst", "()I"⟩ ∈ tlG := tl_at 438 rfl rfl
set_option maxRecDepth 100000 in
theorem kw_106 : Cond.selects "LeastPaths$Search" ⟨"LeastPaths$Search", "settleFirst", "()I"⟩ ⟨"LeastPaths$Search", "settleFirst", "()I"⟩ ∈ tlG := tl_at 439 rfl rfl
set_option maxRecDepth 100000 in
theorem kw_107 : Cond.code ⟨"LeastPaths$Search", "settleFirst", "()I"⟩ prog_6_method_9_code 3 (Option.some Jvm.ClassFile.FieldType.int) ∈ tlG := tl_at 440 rfl rfl
set_option maxRecDepth 100000 in
theorem kw_108 : Cond.methodLink "LeastPaths$Search" 115 ⟨"LeastPaths$Search", "beginPlain", "(Z)V"⟩ ∈ tlG := tl_at 524 rfl rfl
set_option maxRecDepth 100000 in
theorem kw_109 : Cond.instanceMethod ⟨"LeastPaths$Search", "beginPlain", "(Z)V"⟩ ∈ tlG := tl_at 525 rfl rfl
set_option maxRecDepth 100000 in
theorem kw_110 : Cond.selects "LeastPaths$Search" ⟨"LeastPaths$Search", "beginPlain", "(Z)V"⟩ ⟨"LeastPaths$Search", "beginPlain", "(Z)V"⟩ ∈ tlG := tl_at 526 rfl rfl
set_option maxRecDepth 100000 in
theorem kw_111 : Cond.code ⟨"LeastPaths$Search", "beginPlain", "(Z)V"⟩ prog_6_method_2_code 2 (Option.none : Option Jvm.ClassFile.FieldType) ∈ tlG := tl_at 527 rfl rfl
set_option maxRecDepth 100000 in
theorem kw_112 : Cond.methodLink "LeastPaths$Search" 123 ⟨"LeastPaths$Search", "knows", "(I)Z"⟩ ∈ tlG := tl_at 486 rfl rfl
set_option maxRecDepth 100000 in
theorem kw_113 : Cond.instanceMethod ⟨"LeastPaths$Search", "knows", "(I)Z"⟩ ∈ tlG := tl_at 467 rfl rfl
set_option maxRecDepth 100000 in
theorem kw_114 : Cond.selects "LeastPaths$Search" ⟨"LeastPaths$Search", "knows", "(I)Z"⟩ ⟨"LeastPaths$Search", "knows", "(I)Z"⟩ ∈ tlG := tl_at 468 rfl rfl
set_option maxRecDepth 100000 in
theorem kw_115 : Cond.code ⟨"LeastPaths$Search", "knows", "(I)Z"⟩ prog_6_method_5_code 2 (Option.some Jvm.ClassFile.FieldType.boolean) ∈ tlG := tl_at 469 rfl rfl
set_option maxRecDepth 100000 in
theorem kw_116 : Cond.methodLink "LeastPaths$Search" 119 ⟨"LeastPaths$Search", "leadsBest", "(II)Z"⟩ ∈ tlG := tl_at 482 rfl rfl
set_option maxRecDepth 100000 in
theorem kw_117 : Cond.instanceMethod ⟨"LeastPaths$Search", "leadsBest", "(II)Z"⟩ ∈ tlG := tl_at 484 rfl rfl
set_option maxRecDepth 100000 in
theorem kw_118 : Cond.selects "LeastPaths$Search" ⟨"LeastPaths$Search", "leadsBest", "(II)Z"⟩ ⟨"LeastPaths$Search", "leadsBest", "(II)Z"⟩ ∈ tlG := tl_sel 10 rfl
set_option maxRecDepth 100000 in
theorem kw_119 : Cond.code ⟨"LeastPaths$Search", "leadsBest", "(II)Z"⟩ prog_6_method_15_code 3 (Option.some Jvm.ClassFile.FieldType.boolean) ∈ tlG := tl_at 485 rfl rfl
set_option maxRecDepth 100000 in
theorem kw_120 : Cond.fieldLink "LeastPaths$Search" 18 "LeastPaths$Search" "waysTo" "[I" ∈ tlG := tl_at 136 rfl rfl
set_option maxRecDepth 100000 in
theorem kw_121 : Cond.methodLink "LeastPaths$Search" 126 ⟨"LeastPaths$Search", "lastArc", "(I)I"⟩ ∈ tlG := tl_at 599 rfl rfl
set_option maxRecDepth 100000 in
theorem kw_122 : Cond.instanceMethod ⟨"LeastPaths$Search", "lastArc", "(I)I"⟩ ∈ tlG := tl_at 479 rfl rfl
set_option maxRecDepth 100000 in
theorem kw_123 : Cond.selects "LeastPaths$Search" ⟨"LeastPaths$Search", "lastArc", "(I)I"⟩ ⟨"LeastPaths$Search", "lastArc", "(I)I"⟩ ∈ tlG := tl_at 480 rfl rfl
set_option maxRecDepth 100000 in
theorem kw_124 : Cond.code ⟨"LeastPaths$Search", "lastArc", "(I)I"⟩ prog_6_method_12_code 3 (Option.some Jvm.ClassFile.FieldType.int) ∈ tlG := tl_at 481 rfl rfl
set_option maxRecDepth 100000 in
theorem kw_125 : Cond.methodLink "LeastPaths$Search" 132 ⟨"LeastPaths$Way", "add", "(II)V"⟩ ∈ tlG := tl_at 600 rfl rfl
set_option maxRecDepth 100000 in
theorem kw_126 : Cond.instanceMethod ⟨"LeastPaths$Way", "add", "(II)V"⟩ ∈ tlG := tl_at 592 rfl rfl
set_option maxRecDepth 100000 in
theorem kw_127 : Cond.selects "LeastPaths$Way" ⟨"LeastPaths$Way", "add", "(II)V"⟩ ⟨"LeastPaths$Way", "add", "(II)V"⟩ ∈ tlG := tl_at 593 rfl rfl
set_option maxRecDepth 100000 in
theorem kw_128 : Cond.initialized "LeastPaths$Way" ∈ tlG := tl_at 8 rfl rfl
set_option maxRecDepth 100000 in
theorem kw_129 : Cond.code ⟨"LeastPaths$Way", "add", "(II)V"⟩ prog_9_method_3_code 3 (Option.none : Option Jvm.ClassFile.FieldType) ∈ tlG := tl_at 594 rfl rfl
set_option maxRecDepth 100000 in
theorem kw_130 : Cond.constant "LeastPaths$BothSides" 49 2147483647 ∈ tlG := tl_at 546 rfl rfl
set_option maxRecDepth 100000 in
theorem kw_131 : Cond.fieldLink "LeastPaths$BothSides" 45 "LeastPaths$BothSides" "best" "I" ∈ tlG := tl_at 178 rfl rfl
set_option maxRecDepth 100000 in
theorem kw_132 : Cond.fieldLink "LeastPaths$BothSides" 9 "LeastPaths$BothSides" "ahead" "LLeastPaths$Search;" ∈ tlG := tl_at 176 rfl rfl
set_option maxRecDepth 100000 in
theorem kw_133 : Cond.methodLink "LeastPaths$BothSides" 50 ⟨"LeastPaths$Search", "knows", "(I)Z"⟩ ∈ tlG := tl_at 547 rfl rfl
set_option maxRecDepth 100000 in
theorem kw_134 : Cond.fieldLink "LeastPaths$BothSides" 15 "LeastPaths$BothSides" "back" "LLeastPaths$Search;" ∈ tlG := tl_at 177 rfl rfl
set_option maxRecDepth 100000 in
theorem kw_135 : Cond.fieldLink "LeastPaths$BothSides" 54 "LeastPaths$Search" "number" "[I" ∈ tlG := tl_at 133 rfl rfl
set_option maxRecDepth 100000 in
theorem kw_136 : Cond.methodLink "LeastPaths$BothSides" 58 ⟨"java/lang/Math", "min", "(II)I"⟩ ∈ tlG := tl_at 548 rfl rfl
set_option maxRecDepth 100000 in
theorem kw_137 : Cond.static ⟨"java/lang/Math", "min", "(II)I"⟩ ∈ tlG := tl_at 26 rfl rfl
set_option maxRecDepth 100000 in
theorem kw_138 : Cond.initialized "java/lang/Math" ∈ tlG := tl_at 2 rfl rfl
set_option maxRecDepth 100000 in
theorem kw_139 : Cond.code ⟨"java/lang/Math", "min", "(II)I"⟩ prog_14_method_69_code 2 (Option.some Jvm.ClassFile.FieldType.int) ∈ tlG := tl_at 27 rfl rfl
set_option maxRecDepth 100000 in
theorem kw_140 : Cond.methodLink "LeastPaths$BothSides" 42 ⟨"LeastPaths$Search", "isOver", "()Z"⟩ ∈ tlG := tl_at 553 rfl rfl
set_option maxRecDepth 100000 in
theorem kw_141 : Cond.methodLink "LeastPaths$BothSides" 35 ⟨"LeastPaths$Search", "leastNumber", "()I"⟩ ∈ tlG := tl_at 554 rfl rfl
set_option maxRecDepth 100000 in
theorem kw_142 : Cond.instanceMethod ⟨"LeastPaths$Search", "leastNumber", "()I"⟩ ∈ tlG := tl_at 555 rfl rfl
set_option maxRecDepth 100000 in
theorem kw_143 : Cond.selects "LeastPaths$Search" ⟨"LeastPaths$Search", "leastNumber", "()I"⟩ ⟨"LeastPaths$Search", "leastNumber", "()I"⟩ ∈ tlG := tl_at 556 rfl rfl
set_option maxRecDepth 100000 in
theorem kw_144 : Cond.code ⟨"LeastPaths$Search", "leastNumber", "()I"⟩ prog_6_method_7_code 2 (Option.some Jvm.ClassFile.FieldType.int) ∈ tlG := tl_at 557 rfl rfl
set_option maxRecDepth 100000 in
theorem kw_145 : Cond.methodLink "LeastPaths$BothSides" 18 ⟨"LeastPaths$Search", "beginPlain", "(Z)V"⟩ ∈ tlG := tl_at 540 rfl rfl
set_option maxRecDepth 100000 in
theorem kw_146 : Cond.methodLink "LeastPaths$BothSides" 24 ⟨"LeastPaths$Search", "offer", "(II)V"⟩ ∈ tlG := tl_at 541 rfl rfl
set_option maxRecDepth 100000 in
theorem kw_147 : Cond.methodLink "LeastPaths$BothSides" 28 ⟨"LeastPaths$BothSides", "seekBest", "()V"⟩ ∈ tlG := tl_at 542 rfl rfl
set_option maxRecDepth 100000 in
theorem kw_148 : Cond.instanceMethod ⟨"LeastPaths$BothSides", "seekBest", "()V"⟩ ∈ tlG := tl_at 544 rfl rfl
set_option maxRecDepth 100000 in
theorem kw_149 : Cond.selects "LeastPaths$BothSides" ⟨"LeastPaths$BothSides", "seekBest", "()V"⟩ ⟨"LeastPaths$BothSides", "seekBest", "()V"⟩ ∈ tlG := tl_sel 12 rfl
set_option maxRecDepth 100000 in
theorem kw_150 : Cond.initialized "LeastPaths$BothSides" ∈ tlG := tl_at 6 rfl rfl
set_option maxRecDepth 100000 in
theorem kw_151 : Cond.code ⟨"LeastPaths$BothSides", "seekBest", "()V"⟩ prog_2_method_4_code 2 (Option.none : Option Jvm.ClassFile.FieldType) ∈ tlG := tl_at 545 rfl rfl
set_option maxRecDepth 100000 in
theorem kw_152 : Cond.methodLink "LeastPaths$BothSides" 31 ⟨"LeastPaths$BothSides", "goesOn", "()Z"⟩ ∈ tlG := tl_at 549 rfl rfl
set_option maxRecDepth 100000 in
theorem kw_153 : Cond.instanceMethod ⟨"LeastPaths$BothSides", "goesOn", "()Z"⟩ ∈ tlG := tl_at 551 rfl rfl
set_option maxRecDepth 100000 in
theorem kw_154 : Cond.selects "LeastPaths$BothSides" ⟨"LeastPaths$BothSides", "goesOn", "()Z"⟩ ⟨"LeastPaths$BothSides", "goesOn", "()Z"⟩ ∈ tlG := tl_sel 13 rfl
set_option maxRecDepth 100000 in
theorem kw_155 : Cond.code ⟨"LeastPaths$BothSides", "goesOn", "()Z"⟩ prog_2_method_3_code 1 (Option.some Jvm.ClassFile.FieldType.boolean) ∈ tlG := tl_at 552 rfl rfl
set_option maxRecDepth 100000 in
theorem kw_156 : Cond.methodLink "LeastPaths$BothSides" 39 ⟨"LeastPaths$Search", "settleFirst", "()I"⟩ ∈ tlG := tl_at 563 rfl rfl
set_option maxRecDepth 100000 in
theorem kw_157 : Cond.fieldLink "LeastPaths$Widths" 9 "LeastPaths$Widths" "width" "[I" ∈ tlG := tl_at 277 rfl rfl
set_option maxRecDepth 100000 in
theorem kw_158 : Cond.constant "LeastPaths$Widths" 19 2147483647 ∈ tlG := tl_at 625 rfl rfl
set_option maxRecDepth 100000 in
theorem kw_159 : Cond.fieldLink "LeastPaths$Widths" 15 "LeastPaths$Widths" "graph" "LLeastPaths$Graph;" ∈ tlG := tl_at 276 rfl rfl
set_option maxRecDepth 100000 in
theorem kw_160 : Cond.fieldLink "LeastPaths$Widths" 20 "LeastPaths$Graph" "nodes" "I" ∈ tlG := tl_at 61 rfl rfl
set_option maxRecDepth 100000 in
theorem kw_161 : Cond.fieldLink "LeastPaths$Widths" 26 "LeastPaths$Graph" "arcs" "I" ∈ tlG := tl_at 65 rfl rfl
set_option maxRecDepth 100000 in
theorem kw_162 : Cond.methodLink "LeastPaths$Widths" 29 ⟨"LeastPaths$Graph", "hasArc", "(I)Z"⟩ ∈ tlG := tl_at 626 rfl rfl
set_option maxRecDepth 100000 in
theorem kw_163 : Cond.fieldLink "LeastPaths$Widths" 33 "LeastPaths$Graph" "from" "[I" ∈ tlG := tl_at 36 rfl rfl
set_option maxRecDepth 100000 in
theorem kw_164 : Cond.fieldLink "LeastPaths$Widths" 36 "LeastPaths$Graph" "weight" "[I" ∈ tlG := tl_at 47 rfl rfl
set_option maxRecDepth 100000 in
theorem kw_165 : Cond.methodLink "LeastPaths$Widths" 39 ⟨"java/lang/Math", "min", "(II)I"⟩ ∈ tlG := tl_at 627 rfl rfl
set_option maxRecDepth 100000 in
theorem kw_166 : Cond.fieldLink "LeastPaths$Widths" 45 "LeastPaths$Graph" "to" "[I" ∈ tlG := tl_at 41 rfl rfl
set_option maxRecDepth 100000 in
theorem kw_167 : Cond.methodLink "LeastPaths$Widths" 48 ⟨"java/lang/Math", "max", "(II)I"⟩ ∈ tlG := tl_at 628 rfl rfl
set_option maxRecDepth 100000 in
theorem kw_168 : Cond.static ⟨"java/lang/Math", "max", "(II)I"⟩ ∈ tlG := tl_at 23 rfl rfl
set_option maxRecDepth 100000 in
theorem kw_169 : Cond.code ⟨"java/lang/Math", "max", "(II)I"⟩ prog_14_method_65_code 2 (Option.some Jvm.ClassFile.FieldType.int) ∈ tlG := tl_at 24 rfl rfl
set_option maxRecDepth 100000 in
theorem kw_170 : Cond.fieldLink "LeastPaths$Trusts" 15 "LeastPaths$Trusts" "below" "[J" ∈ tlG := tl_at 292 rfl rfl
set_option maxRecDepth 100000 in
theorem kw_171 : Cond.fieldLink "LeastPaths$Trusts" 18 "LeastPaths$Trusts" "graph" "LLeastPaths$Graph;" ∈ tlG := tl_at 290 rfl rfl
set_option maxRecDepth 100000 in
theorem kw_172 : Cond.fieldLink "LeastPaths$Trusts" 46 "LeastPaths$Graph" "to" "[I" ∈ tlG := tl_at 44 rfl rfl
set_option maxRecDepth 100000 in
theorem kw_173 : Cond.fieldLink "LeastPaths$Trusts" 9 "LeastPaths$Trusts" "above" "[J" ∈ tlG := tl_at 291 rfl rfl
set_option maxRecDepth 100000 in
theorem kw_174 : Cond.fieldLink "LeastPaths$Trusts" 35 "LeastPaths$Graph" "from" "[I" ∈ tlG := tl_at 37 rfl rfl
set_option maxRecDepth 100000 in
theorem kw_175 : Cond.fieldLink "LeastPaths$Trusts" 49 "LeastPaths$Graph" "above" "[I" ∈ tlG := tl_at 52 rfl rfl
set_option maxRecDepth 100000 in
theorem kw_176 : Cond.fieldLink "LeastPaths$Trusts" 51 "LeastPaths$Graph" "below" "[I" ∈ tlG := tl_at 55 rfl rfl
set_option maxRecDepth 100000 in
theorem kw_177 : Cond.methodLink "LeastPaths$Trusts" 39 ⟨"LeastPaths$Trusts", "knows", "(I)Z"⟩ ∈ tlG := tl_at 638 rfl rfl
set_option maxRecDepth 100000 in
theorem kw_178 : Cond.instanceMethod ⟨"LeastPaths$Trusts", "knows", "(I)Z"⟩ ∈ tlG := tl_at 639 rfl rfl
set_option maxRecDepth 100000 in
theorem kw_179 : Cond.selects "LeastPaths$Trusts" ⟨"LeastPaths$Trusts", "knows", "(I)Z"⟩ ⟨"LeastPaths$Trusts", "knows", "(I)Z"⟩ ∈ tlG := tl_at 640 rfl rfl
set_option maxRecDepth 100000 in
theorem kw_180 : Cond.initialized "LeastPaths$Trusts" ∈ tlG := tl_at 11 rfl rfl
set_option maxRecDepth 100000 in
theorem kw_181 : Cond.code ⟨"LeastPaths$Trusts", "knows", "(I)Z"⟩ prog_7_method_2_code 2 (Option.some Jvm.ClassFile.FieldType.boolean) ∈ tlG := tl_at 641 rfl rfl
set_option maxRecDepth 100000 in
theorem kw_182 : Cond.fieldLink "LeastPaths$Trusts" 22 "LeastPaths$Graph" "nodes" "I" ∈ tlG := tl_at 63 rfl rfl
set_option maxRecDepth 100000 in
theorem kw_183 : Cond.fieldLink "LeastPaths$Trusts" 28 "LeastPaths$Graph" "arcs" "I" ∈ tlG := tl_at 67 rfl rfl
set_option maxRecDepth 100000 in
theorem kw_184 : Cond.methodLink "LeastPaths$Trusts" 31 ⟨"LeastPaths$Graph", "hasArc", "(I)Z"⟩ ∈ tlG := tl_at 637 rfl rfl
set_option maxRecDepth 100000 in
theorem kw_185 : Cond.methodLink "LeastPaths$Trusts" 42 ⟨"LeastPaths$Trusts", "pass", "(I)V"⟩ ∈ tlG := tl_at 642 rfl rfl
set_option maxRecDepth 100000 in
theorem kw_186 : Cond.instanceMethod ⟨"LeastPaths$Trusts", "pass", "(I)V"⟩ ∈ tlG := tl_at 644 rfl rfl
set_option maxRecDepth 100000 in
theorem kw_187 : Cond.selects "LeastPaths$Trusts" ⟨"LeastPaths$Trusts", "pass", "(I)V"⟩ ⟨"LeastPaths$Trusts", "pass", "(I)V"⟩ ∈ tlG := tl_sel 16 rfl
set_option maxRecDepth 100000 in
theorem kw_188 : Cond.code ⟨"LeastPaths$Trusts", "pass", "(I)V"⟩ prog_7_method_4_code 7 (Option.none : Option Jvm.ClassFile.FieldType) ∈ tlG := tl_at 645 rfl rfl
set_option maxRecDepth 100000 in
theorem kw_189 : Cond.methodLink "LeastPaths$Trusts" 53 ⟨"LeastPaths$Trusts", "commonDivisor", "(JJ)J"⟩ ∈ tlG := tl_at 651 rfl rfl
set_option maxRecDepth 100000 in
theorem kw_190 : Cond.static ⟨"LeastPaths$Trusts", "commonDivisor", "(JJ)J"⟩ ∈ tlG := tl_at 652 rfl rfl
set_option maxRecDepth 100000 in
theorem kw_191 : Cond.code ⟨"LeastPaths$Trusts", "commonDivisor", "(JJ)J"⟩ prog_7_method_6_code 11 (Option.some Jvm.ClassFile.FieldType.long) ∈ tlG := tl_at 653 rfl rfl
set_option maxRecDepth 100000 in
theorem kw_192 : Cond.fieldLink "LeastPaths$Rings" 18 "LeastPaths$Rings" "graph" "LLeastPaths$Graph;" ∈ tlG := tl_at 259 rfl rfl
set_option maxRecDepth 100000 in
theorem kw_193 : Cond.fieldLink "LeastPaths$Rings" 67 "LeastPaths$Graph" "to" "[I" ∈ tlG := tl_at 42 rfl rfl
set_option maxRecDepth 100000 in
theorem kw_194 : Cond.fieldLink "LeastPaths$Rings" 22 "LeastPaths$Rings" "back" "LLeastPaths$Search;" ∈ tlG := tl_at 260 rfl rfl
set_option maxRecDepth 100000 in
theorem kw_195 : Cond.methodLink "LeastPaths$Rings" 70 ⟨"LeastPaths$Search", "knows", "(I)Z"⟩ ∈ tlG := tl_at 672 rfl rfl
set_option maxRecDepth 100000 in
theorem kw_196 : Cond.fieldLink "LeastPaths$Rings" 73 "LeastPaths$Graph" "weight" "[I" ∈ tlG := tl_at 48 rfl rfl
set_option maxRecDepth 100000 in
theorem kw_197 : Cond.fieldLink "LeastPaths$Rings" 76 "LeastPaths$Search" "number" "[I" ∈ tlG := tl_at 132 rfl rfl
set_option maxRecDepth 100000 in
theorem kw_198 : Cond.fieldLink "LeastPaths$Rings" 12 "LeastPaths$Rings" "least" "LLeastPaths$Way;" ∈ tlG := tl_at 261 rfl rfl
set_option maxRecDepth 100000 in
theorem kw_199 : Cond.fieldLink "LeastPaths$Rings" 79 "LeastPaths$Way" "count" "I" ∈ tlG := tl_at 204 rfl rfl
set_option maxRecDepth 100000 in
theorem kw_200 : Cond.methodLink "LeastPaths$Rings" 26 ⟨"LeastPaths$Way", "begin", "(IJ)V"⟩ ∈ tlG := tl_at 662 rfl rfl
set_option maxRecDepth 100000 in
theorem kw_201 : Cond.instanceMethod ⟨"LeastPaths$Way", "begin", "(IJ)V"⟩ ∈ tlG := tl_at 588 rfl rfl
set_option maxRecDepth 100000 in
theorem kw_202 : Cond.selects "LeastPaths$Way" ⟨"LeastPaths$Way", "begin", "(IJ)V"⟩ ⟨"LeastPaths$Way", "begin", "(IJ)V"⟩ ∈ tlG := tl_at 589 rfl rfl
set_option maxRecDepth 100000 in
theorem kw_203 : Cond.code ⟨"LeastPaths$Way", "begin", "(IJ)V"⟩ prog_9_method_2_code 4 (Option.none : Option Jvm.ClassFile.FieldType) ∈ tlG := tl_at 590 rfl rfl
set_option maxRecDepth 100000 in
theorem kw_204 : Cond.methodLink "LeastPaths$Rings" 84 ⟨"LeastPaths$Way", "add", "(II)V"⟩ ∈ tlG := tl_at 673 rfl rfl
set_option maxRecDepth 100000 in
theorem kw_205 : Cond.methodLink "LeastPaths$Rings" 87 ⟨"LeastPaths$Search", "follow", "(ILLeastPaths$Way;)V"⟩ ∈ tlG := tl_at 674 rfl rfl
set_option maxRecDepth 100000 in
theorem kw_206 : Cond.instanceMethod ⟨"LeastPaths$Search", "follow", "(ILLeastPaths$Way;)V"⟩ ∈ tlG := tl_at 596 rfl rfl
set_option maxRecDepth 100000 in
theorem kw_207 : Cond.selects "LeastPaths$Search" ⟨"LeastPaths$Search", "follow", "(ILLeastPaths$Way;)V"⟩ ⟨"LeastPaths$Search", "follow", "(ILLeastPaths$Way;)V"⟩ ∈ tlG := tl_at 597 rfl rfl
set_option maxRecDepth 100000 in
theorem kw_208 : Cond.code ⟨"LeastPaths$Search", "follow", "(ILLeastPaths$Way;)V"⟩ prog_6_method_14_code 7 (Option.none : Option Jvm.ClassFile.FieldType) ∈ tlG := tl_at 598 rfl rfl
set_option maxRecDepth 100000 in
theorem kw_209 : Cond.fieldLink "LeastPaths$Rings" 82 "LeastPaths$Way" "number" "I" ∈ tlG := tl_at 207 rfl rfl
set_option maxRecDepth 100000 in
theorem kw_210 : Cond.fieldLink "LeastPaths$Rings" 30 "LeastPaths$Graph" "arcs" "I" ∈ tlG := tl_at 64 rfl rfl
set_option maxRecDepth 100000 in
theorem kw_211 : Cond.methodLink "LeastPaths$Rings" 36 ⟨"LeastPaths$Graph", "hasArc", "(I)Z"⟩ ∈ tlG := tl_at 663 rfl rfl
set_option maxRecDepth 100000 in
theorem kw_212 : Cond.fieldLink "LeastPaths$Rings" 40 "LeastPaths$Graph" "live" "J" ∈ tlG := tl_at 71 rfl rfl
set_option maxRecDepth 100000 in
theorem kw_213 : Cond.constantLong "LeastPaths$Rings" 44 (-2) ∈ tlG := tl_at 664 rfl rfl
set_option maxRecDepth 100000 in
theorem kw_214 : Cond.methodLink "LeastPaths$Rings" 46 ⟨"LeastPaths$Search", "beginCounted", "(JI)V"⟩ ∈ tlG := tl_at 665 rfl rfl
set_option maxRecDepth 100000 in
theorem kw_215 : Cond.instanceMethod ⟨"LeastPaths$Search", "beginCounted", "(JI)V"⟩ ∈ tlG := tl_at 401 rfl rfl
set_option maxRecDepth 100000 in
theorem kw_216 : Cond.selects "LeastPaths$Search" ⟨"LeastPaths$Search", "beginCounted", "(JI)V"⟩ ⟨"LeastPaths$Search", "beginCounted", "(JI)V"⟩ ∈ tlG := tl_at 402 rfl rfl
set_option maxRecDepth 100000 in
theorem kw_217 : Cond.code ⟨"LeastPaths$Search", "beginCounted", "(JI)V"⟩ prog_6_method_3_code 4 (Option.none : Option Jvm.ClassFile.FieldType) ∈ tlG := tl_at 403 rfl rfl
set_option maxRecDepth 100000 in
theorem kw_218 : Cond.fieldLink "LeastPaths$Rings" 52 "LeastPaths$Graph" "from" "[I" ∈ tlG := tl_at 35 rfl rfl
set_option maxRecDepth 100000 in
theorem kw_219 : Cond.methodLink "LeastPaths$Rings" 56 ⟨"LeastPaths$Search", "offer", "(II)V"⟩ ∈ tlG := tl_at 666 rfl rfl
set_option maxRecDepth 100000 in
theorem kw_220 : Cond.methodLink "LeastPaths$Rings" 60 ⟨"LeastPaths$Search", "settleAll", "()V"⟩ ∈ tlG := tl_at 667 rfl rfl
set_option maxRecDepth 100000 in
theorem kw_221 : Cond.instanceMethod ⟨"LeastPaths$Search", "settleAll", "()V"⟩ ∈ tlG := tl_at 426 rfl rfl
set_option maxRecDepth 100000 in
theorem kw_222 : Cond.selects "LeastPaths$Search" ⟨"LeastPaths$Search", "settleAll", "()V"⟩ ⟨"LeastPaths$Search", "settleAll", "()V"⟩ ∈ tlG := tl_at 427 rfl rfl
set_option maxRecDepth 100000 in
theorem kw_223 : Cond.code ⟨"LeastPaths$Search", "settleAll", "()V"⟩ prog_6_method_10_code 2 (Option.none : Option Jvm.ClassFile.FieldType) ∈ tlG := tl_at 428 rfl rfl
set_option maxRecDepth 100000 in
theorem kw_224 : Cond.methodLink "LeastPaths$Rings" 63 ⟨"LeastPaths$Rings", "takeIfLess", "(I)V"⟩ ∈ tlG := tl_at 668 rfl rfl
set_option maxRecDepth 100000 in
theorem kw_225 : Cond.instanceMethod ⟨"LeastPaths$Rings", "takeIfLess", "(I)V"⟩ ∈ tlG := tl_at 670 rfl rfl
set_option maxRecDepth 100000 in
theorem kw_226 : Cond.selects "LeastPaths$Rings" ⟨"LeastPaths$Rings", "takeIfLess", "(I)V"⟩ ⟨"LeastPaths$Rings", "takeIfLess", "(I)V"⟩ ∈ tlG := tl_sel 17 rfl
set_option maxRecDepth 100000 in
theorem kw_227 : Cond.initialized "LeastPaths$Rings" ∈ tlG := tl_at 9 rfl rfl
set_option maxRecDepth 100000 in
theorem kw_228 : Cond.code ⟨"LeastPaths$Rings", "takeIfLess", "(I)V"⟩ prog_4_method_3_code 4 (Option.none : Option Jvm.ClassFile.FieldType) ∈ tlG := tl_at 671 rfl rfl
set_option maxRecDepth 100000 in
theorem kw_229 : Cond.fieldLink "LeastPaths$Row" 37 "LeastPaths$Row" "size" "I" ∈ tlG := tl_at 229 rfl rfl
set_option maxRecDepth 100000 in
theorem kw_230 : Cond.fieldLink "LeastPaths$Row" 11 "LeastPaths$Row" "ways" "[LLeastPaths$Way;" ∈ tlG := tl_at 226 rfl rfl
set_option maxRecDepth 100000 in
theorem kw_231 : Cond.methodLink "LeastPaths$Row" 111 ⟨"LeastPaths$Way", "isBefore", "(LLeastPaths$Way;)Z"⟩ ∈ tlG := tl_at 605 rfl rfl
set_option maxRecDepth 100000 in
theorem kw_232 : Cond.instanceMethod ⟨"LeastPaths$Way", "isBefore", "(LLeastPaths$Way;)Z"⟩ ∈ tlG := tl_at 606 rfl rfl
set_option maxRecDepth 100000 in
theorem kw_233 : Cond.selects "LeastPaths$Way" ⟨"LeastPaths$Way", "isBefore", "(LLeastPaths$Way;)Z"⟩ ⟨"LeastPaths$Way", "isBefore", "(LLeastPaths$Way;)Z"⟩ ∈ tlG := tl_at 607 rfl rfl
set_option maxRecDepth 100000 in
theorem kw_234 : Cond.code ⟨"LeastPaths$Way", "isBefore", "(LLeastPaths$Way;)Z"⟩ prog_9_method_5_code 3 (Option.some Jvm.ClassFile.FieldType.boolean) ∈ tlG := tl_at 608 rfl rfl
set_option maxRecDepth 100000 in
theorem kw_235 : Cond.fieldLink "LeastPaths$Row" 46 "LeastPaths$Row" "room" "I" ∈ tlG := tl_at 231 rfl rfl
set_option maxRecDepth 100000 in
theorem kw_236 : Cond.methodLink "LeastPaths$Row" 40 ⟨"java/lang/Math", "min", "(II)I"⟩ ∈ tlG := tl_at 577 rfl rfl
set_option maxRecDepth 100000 in
theorem kw_237 : Cond.fieldLink "LeastPaths$Row" 30 "LeastPaths$Row" "start" "I" ∈ tlG := tl_at 232 rfl rfl
set_option maxRecDepth 100000 in
theorem kw_238 : Cond.fieldLink "LeastPaths$Row" 22 "LeastPaths$Row" "graph" "LLeastPaths$Graph;" ∈ tlG := tl_at 224 rfl rfl
set_option maxRecDepth 100000 in
theorem kw_239 : Cond.fieldLink "LeastPaths$Row" 59 "LeastPaths$Graph" "to" "[I" ∈ tlG := tl_at 43 rfl rfl
set_option maxRecDepth 100000 in
theorem kw_240 : Cond.fieldLink "LeastPaths$Row" 65 "LeastPaths$Way" "arcs" "[I" ∈ tlG := tl_at 201 rfl rfl
set_option maxRecDepth 100000 in
theorem kw_241 : Cond.fieldLink "LeastPaths$Row" 53 "LeastPaths$Way" "split" "I" ∈ tlG := tl_at 210 rfl rfl
set_option maxRecDepth 100000 in
theorem kw_242 : Cond.fieldLink "LeastPaths$Row" 68 "LeastPaths$Way" "barred" "J" ∈ tlG := tl_at 212 rfl rfl
set_option maxRecDepth 100000 in
theorem kw_243 : Cond.fieldLink "LeastPaths$Row" 56 "LeastPaths$Way" "count" "I" ∈ tlG := tl_at 203 rfl rfl
set_option maxRecDepth 100000 in
theorem kw_244 : Cond.fieldLink "LeastPaths$Row" 26 "LeastPaths$Row" "back" "LLeastPaths$Search;" ∈ tlG := tl_at 225 rfl rfl
set_option maxRecDepth 100000 in
theorem kw_245 : Cond.fieldLink "LeastPaths$Row" 72 "LeastPaths$Graph" "live" "J" ∈ tlG := tl_at 73 rfl rfl
set_option maxRecDepth 100000 in
theorem kw_246 : Cond.constantLong "LeastPaths$Row" 75 (-1) ∈ tlG := tl_at 582 rfl rfl
set_option maxRecDepth 100000 in
theorem kw_247 : Cond.methodLink "LeastPaths$Row" 77 ⟨"LeastPaths$Search", "beginCounted", "(JI)V"⟩ ∈ tlG := tl_at 583 rfl rfl
set_option maxRecDepth 100000 in
theorem kw_248 : Cond.fieldLink "LeastPaths$Row" 34 "LeastPaths$Row" "goal" "I" ∈ tlG := tl_at 233 rfl rfl
set_option maxRecDepth 100000 in
theorem kw_249 : Cond.methodLink "LeastPaths$Row" 83 ⟨"LeastPaths$Search", "offer", "(II)V"⟩ ∈ tlG := tl_at 584 rfl rfl
set_option maxRecDepth 100000 in
theorem kw_250 : Cond.methodLink "LeastPaths$Row" 87 ⟨"LeastPaths$Search", "settleAll", "()V"⟩ ∈ tlG := tl_at 585 rfl rfl
set_option maxRecDepth 100000 in
theorem kw_251 : Cond.methodLink "LeastPaths$Row" 90 ⟨"LeastPaths$Search", "knows", "(I)Z"⟩ ∈ tlG := tl_at 586 rfl rfl
set_option maxRecDepth 100000 in
theorem kw_252 : Cond.methodLink "LeastPaths$Row" 94 ⟨"LeastPaths$Way", "begin", "(IJ)V"⟩ ∈ tlG := tl_at 587 rfl rfl
set_option maxRecDepth 100000 in
theorem kw_253 : Cond.fieldLink "LeastPaths$Row" 98 "LeastPaths$Graph" "weight" "[I" ∈ tlG := tl_at 49 rfl rfl
set_option maxRecDepth 100000 in
theorem kw_254 : Cond.methodLink "LeastPaths$Row" 101 ⟨"LeastPaths$Way", "add", "(II)V"⟩ ∈ tlG := tl_at 591 rfl rfl
set_option maxRecDepth 100000 in
theorem kw_255 : Cond.methodLink "LeastPaths$Row" 104 ⟨"LeastPaths$Search", "follow", "(ILLeastPaths$Way;)V"⟩ ∈ tlG := tl_at 595 rfl rfl
set_option maxRecDepth 100000 in
theorem kw_256 : Cond.methodLink "LeastPaths$Row" 108 ⟨"LeastPaths$Row", "takeIn", "()V"⟩ ∈ tlG := tl_at 601 rfl rfl
set_option maxRecDepth 100000 in
theorem kw_257 : Cond.instanceMethod ⟨"LeastPaths$Row", "takeIn", "()V"⟩ ∈ tlG := tl_at 603 rfl rfl
set_option maxRecDepth 100000 in
theorem kw_258 : Cond.selects "LeastPaths$Row" ⟨"LeastPaths$Row", "takeIn", "()V"⟩ ⟨"LeastPaths$Row", "takeIn", "()V"⟩ ∈ tlG := tl_sel 15 rfl
set_option maxRecDepth 100000 in
theorem kw_259 : Cond.initialized "LeastPaths$Row" ∈ tlG := tl_at 7 rfl rfl
set_option maxRecDepth 100000 in
theorem kw_260 : Cond.code ⟨"LeastPaths$Row", "takeIn", "()V"⟩ prog_5_method_4_code 3 (Option.none : Option Jvm.ClassFile.FieldType) ∈ tlG := tl_at 604 rfl rfl
set_option maxRecDepth 100000 in
theorem kw_261 : Cond.fieldLink "LeastPaths$Row" 18 "LeastPaths$Row" "nothing" "LLeastPaths$Way;" ∈ tlG := tl_at 228 rfl rfl
set_option maxRecDepth 100000 in
theorem kw_262 : Cond.methodLink "LeastPaths$Row" 49 ⟨"LeastPaths$Row", "branch", "(LLeastPaths$Way;I)V"⟩ ∈ tlG := tl_at 578 rfl rfl
set_option maxRecDepth 100000 in
theorem kw_263 : Cond.instanceMethod ⟨"LeastPaths$Row", "branch", "(LLeastPaths$Way;I)V"⟩ ∈ tlG := tl_at 580 rfl rfl
set_option maxRecDepth 100000 in
theorem kw_264 : Cond.selects "LeastPaths$Row" ⟨"LeastPaths$Row", "branch", "(LLeastPaths$Way;I)V"⟩ ⟨"LeastPaths$Row", "branch", "(LLeastPaths$Way;I)V"⟩ ∈ tlG := tl_sel 14 rfl
set_option maxRecDepth 100000 in
theorem kw_265 : Cond.code ⟨"LeastPaths$Row", "branch", "(LLeastPaths$Way;I)V"⟩ prog_5_method_3_code 9 (Option.none : Option Jvm.ClassFile.FieldType) ∈ tlG := tl_at 581 rfl rfl
set_option maxRecDepth 100000 in
theorem kw_266 : Cond.fieldLink "LeastPaths" 20 "LeastPaths" "heap" "I" ∈ tlG := tl_at 300 rfl rfl
set_option maxRecDepth 100000 in
theorem kw_267 : Cond.fieldLink "LeastPaths" 27 "LeastPaths" "graph" "LLeastPaths$Graph;" ∈ tlG := tl_at 301 rfl rfl
set_option maxRecDepth 100000 in
theorem kw_268 : Cond.fieldLink "LeastPaths" 84 "LeastPaths$Graph" "nodes" "I" ∈ tlG := tl_at 62 rfl rfl
set_option maxRecDepth 100000 in
theorem kw_269 : Cond.methodLink "LeastPaths" 87 ⟨"LeastPaths$Graph", "addNode", "()I"⟩ ∈ tlG := tl_at 336 rfl rfl
set_option maxRecDepth 100000 in
theorem kw_270 : Cond.instanceMethod ⟨"LeastPaths$Graph", "addNode", "()I"⟩ ∈ tlG := tl_at 337 rfl rfl
set_option maxRecDepth 100000 in
theorem kw_271 : Cond.selects "LeastPaths$Graph" ⟨"LeastPaths$Graph", "addNode", "()I"⟩ ⟨"LeastPaths$Graph", "addNode", "()I"⟩ ∈ tlG := tl_at 338 rfl rfl
set_option maxRecDepth 100000 in
theorem kw_272 : Cond.code ⟨"LeastPaths$Graph", "addNode", "()I"⟩ prog_3_method_4_code 2 (Option.some Jvm.ClassFile.FieldType.int) ∈ tlG := tl_at 339 rfl rfl
set_option maxRecDepth 100000 in
theorem kw_273 : Cond.methodLink "LeastPaths" 126 ⟨"LeastPaths$Graph", "hasNode", "(I)Z"⟩ ∈ tlG := tl_at 352 rfl rfl
set_option maxRecDepth 100000 in
theorem kw_274 : Cond.instanceMethod ⟨"LeastPaths$Graph", "hasNode", "(I)Z"⟩ ∈ tlG := tl_at 353 rfl rfl
set_option maxRecDepth 100000 in
theorem kw_275 : Cond.selects "LeastPaths$Graph" ⟨"LeastPaths$Graph", "hasNode", "(I)Z"⟩ ⟨"LeastPaths$Graph", "hasNode", "(I)Z"⟩ ∈ tlG := tl_at 354 rfl rfl
set_option maxRecDepth 100000 in
theorem kw_276 : Cond.code ⟨"LeastPaths$Graph", "hasNode", "(I)Z"⟩ prog_3_method_2_code 2 (Option.some Jvm.ClassFile.FieldType.boolean) ∈ tlG := tl_at 355 rfl rfl
set_option maxRecDepth 100000 in
theorem kw_277 : Cond.methodLink "LeastPaths" 160 ⟨"LeastPaths", "areNodes", "(II)Z"⟩ ∈ tlG := tl_at 348 rfl rfl
set_option maxRecDepth 100000 in
theorem kw_278 : Cond.instanceMethod ⟨"LeastPaths", "areNodes", "(II)Z"⟩ ∈ tlG := tl_at 350 rfl rfl
set_option maxRecDepth 100000 in
theorem kw_279 : Cond.selects "LeastPaths" ⟨"LeastPaths", "areNodes", "(II)Z"⟩ ⟨"LeastPaths", "areNodes", "(II)Z"⟩ ∈ tlG := tl_sel 1 rfl
set_option maxRecDepth 100000 in
theorem kw_280 : Cond.initialized "LeastPaths" ∈ tlG := tl_at 1 rfl rfl
set_option maxRecDepth 100000 in
theorem kw_281 : Cond.code ⟨"LeastPaths", "areNodes", "(II)Z"⟩ prog_1_method_28_code 3 (Option.some Jvm.ClassFile.FieldType.boolean) ∈ tlG := tl_at 351 rfl rfl
set_option maxRecDepth 100000 in
theorem kw_282 : Cond.methodLink "LeastPaths" 91 ⟨"LeastPaths", "isPair", "(II)Z"⟩ ∈ tlG := tl_at 344 rfl rfl
set_option maxRecDepth 100000 in
theorem kw_283 : Cond.instanceMethod ⟨"LeastPaths", "isPair", "(II)Z"⟩ ∈ tlG := tl_at 346 rfl rfl
set_option maxRecDepth 100000 in
theorem kw_284 : Cond.selects "LeastPaths" ⟨"LeastPaths", "isPair", "(II)Z"⟩ ⟨"LeastPaths", "isPair", "(II)Z"⟩ ∈ tlG := tl_sel 0 rfl
set_option maxRecDepth 100000 in
theorem kw_285 : Cond.code ⟨"LeastPaths", "isPair", "(II)Z"⟩ prog_1_method_29_code 3 (Option.some Jvm.ClassFile.FieldType.boolean) ∈ tlG := tl_at 347 rfl rfl
set_option maxRecDepth 100000 in
theorem kw_286 : Cond.constant "LeastPaths" 95 1000000 ∈ tlG := tl_at 356 rfl rfl
set_option maxRecDepth 100000 in
theorem kw_287 : Cond.fieldLink "LeastPaths" 96 "LeastPaths$Graph" "arcs" "I" ∈ tlG := tl_at 68 rfl rfl
set_option maxRecDepth 100000 in
theorem kw_288 : Cond.methodLink "LeastPaths" 99 ⟨"LeastPaths$Graph", "addArc", "(III)I"⟩ ∈ tlG := tl_at 357 rfl rfl
set_option maxRecDepth 100000 in
theorem kw_289 : Cond.instanceMethod ⟨"LeastPaths$Graph", "addArc", "(III)I"⟩ ∈ tlG := tl_at 358 rfl rfl
set_option maxRecDepth 100000 in
theorem kw_290 : Cond.selects "LeastPaths$Graph" ⟨"LeastPaths$Graph", "addArc", "(III)I"⟩ ⟨"LeastPaths$Graph", "addArc", "(III)I"⟩ ∈ tlG := tl_at 359 rfl rfl
set_option maxRecDepth 100000 in
theorem kw_291 : Cond.code ⟨"LeastPaths$Graph", "addArc", "(III)I"⟩ prog_3_method_5_code 5 (Option.some Jvm.ClassFile.FieldType.int) ∈ tlG := tl_at 360 rfl rfl
set_option maxRecDepth 100000 in
theorem kw_292 : Cond.methodLink "LeastPaths" 103 ⟨"LeastPaths$Graph", "hasArc", "(I)Z"⟩ ∈ tlG := tl_at 365 rfl rfl
set_option maxRecDepth 100000 in
theorem kw_293 : Cond.fieldLink "LeastPaths" 107 "LeastPaths$Graph" "above" "[I" ∈ tlG := tl_at 53 rfl rfl
set_option maxRecDepth 100000 in
theorem kw_294 : Cond.fieldLink "LeastPaths" 111 "LeastPaths$Graph" "below" "[I" ∈ tlG := tl_at 56 rfl rfl
set_option maxRecDepth 100000 in
theorem kw_295 : Cond.fieldLink "LeastPaths" 114 "LeastPaths$Graph" "live" "J" ∈ tlG := tl_at 74 rfl rfl
set_option maxRecDepth 100000 in
theorem kw_296 : Cond.constantLong "LeastPaths" 118 (-1) ∈ tlG := tl_at 373 rfl rfl
set_option maxRecDepth 100000 in
theorem kw_297 : Cond.methodLink "LeastPaths" 120 ⟨"java/lang/Long", "bitCount", "(J)I"⟩ ∈ tlG := tl_at 374 rfl rfl
set_option maxRecDepth 100000 in
theorem kw_298 : Cond.static ⟨"java/lang/Long", "bitCount", "(J)I"⟩ ∈ tlG := tl_at 375 rfl rfl
set_option maxRecDepth 100000 in
theorem kw_299 : Cond.initialized "java/lang/Long" ∈ tlG := tl_at 13 rfl rfl
set_option maxRecDepth 100000 in
theorem kw_300 : Cond.code ⟨"java/lang/Long", "bitCount", "(J)I"⟩ prog_13_method_50_code 2 (Option.some Jvm.ClassFile.FieldType.int) ∈ tlG := tl_at 376 rfl rfl
set_option maxRecDepth 100000 in
theorem kw_301 : Cond.fieldLink "LeastPaths" 129 "LeastPaths$Graph" "sources" "I" ∈ tlG := tl_at 75 rfl rfl
set_option maxRecDepth 100000 in
theorem kw_302 : Cond.fieldLink "LeastPaths" 132 "LeastPaths$Graph" "rest" "[I" ∈ tlG := tl_at 58 rfl rfl
set_option maxRecDepth 100000 in
theorem kw_303 : Cond.fieldLink "LeastPaths" 36 "LeastPaths" "ahead" "LLeastPaths$Search;" ∈ tlG := tl_at 302 rfl rfl
set_option maxRecDepth 100000 in
theorem kw_304 : Cond.methodLink "LeastPaths" 221 ⟨"LeastPaths$Search", "beginCounted", "(JI)V"⟩ ∈ tlG := tl_at 400 rfl rfl
set_option maxRecDepth 100000 in
theorem kw_305 : Cond.methodLink "LeastPaths" 225 ⟨"LeastPaths$Search", "offer", "(II)V"⟩ ∈ tlG := tl_at 412 rfl rfl
set_option maxRecDepth 100000 in
theorem kw_306 : Cond.methodLink "LeastPaths" 228 ⟨"LeastPaths$Search", "settleAll", "()V"⟩ ∈ tlG := tl_at 425 rfl rfl
set_option maxRecDepth 100000 in
theorem kw_307 : Cond.methodLink "LeastPaths" 135 ⟨"LeastPaths", "growTree", "()V"⟩ ∈ tlG := tl_at 396 rfl rfl
set_option maxRecDepth 100000 in
theorem kw_308 : Cond.instanceMethod ⟨"LeastPaths", "growTree", "()V"⟩ ∈ tlG := tl_at 398 rfl rfl
set_option maxRecDepth 100000 in
theorem kw_309 : Cond.selects "LeastPaths" ⟨"LeastPaths", "growTree", "()V"⟩ ⟨"LeastPaths", "growTree", "()V"⟩ ∈ tlG := tl_sel 2 rfl
set_option maxRecDepth 100000 in
theorem kw_310 : Cond.code ⟨"LeastPaths", "growTree", "()V"⟩ prog_1_method_30_code 2 (Option.none : Option Jvm.ClassFile.FieldType) ∈ tlG := tl_at 399 rfl rfl
set_option maxRecDepth 100000 in
theorem kw_311 : Cond.methodLink "LeastPaths" 138 ⟨"LeastPaths$Search", "knows", "(I)Z"⟩ ∈ tlG := tl_at 466 rfl rfl
set_option maxRecDepth 100000 in
theorem kw_312 : Cond.fieldLink "LeastPaths" 141 "LeastPaths$Search" "number" "[I" ∈ tlG := tl_at 134 rfl rfl
set_option maxRecDepth 100000 in
theorem kw_313 : Cond.methodLink "LeastPaths" 144 ⟨"LeastPaths$Search", "lastArc", "(I)I"⟩ ∈ tlG := tl_at 478 rfl rfl
set_option maxRecDepth 100000 in
theorem kw_314 : Cond.methodLink "LeastPaths" 148 ⟨"LeastPaths$Search", "countWays", "(I)I"⟩ ∈ tlG := tl_at 491 rfl rfl
set_option maxRecDepth 100000 in
theorem kw_315 : Cond.instanceMethod ⟨"LeastPaths$Search", "countWays", "(I)I"⟩ ∈ tlG := tl_at 492 rfl rfl
set_option maxRecDepth 100000 in
theorem kw_316 : Cond.selects "LeastPaths$Search" ⟨"LeastPaths$Search", "countWays", "(I)I"⟩ ⟨"LeastPaths$Search", "countWays", "(I)I"⟩ ∈ tlG := tl_at 493 rfl rfl
set_option maxRecDepth 100000 in
theorem kw_317 : Cond.code ⟨"LeastPaths$Search", "countWays", "(I)I"⟩ prog_6_method_13_code 6 (Option.some Jvm.ClassFile.FieldType.int) ∈ tlG := tl_at 494 rfl rfl
set_option maxRecDepth 100000 in
theorem kw_318 : Cond.fieldLink "LeastPaths" 231 "LeastPaths$Graph" "from" "[I" ∈ tlG := tl_at 39 rfl rfl
set_option maxRecDepth 100000 in
theorem kw_319 : Cond.methodLink "LeastPaths" 151 ⟨"LeastPaths", "treeArc", "(II)I"⟩ ∈ tlG := tl_at 499 rfl rfl
set_option maxRecDepth 100000 in
theorem kw_320 : Cond.instanceMethod ⟨"LeastPaths", "treeArc", "(II)I"⟩ ∈ tlG := tl_at 501 rfl rfl
set_option maxRecDepth 100000 in
theorem kw_321 : Cond.selects "LeastPaths" ⟨"LeastPaths", "treeArc", "(II)I"⟩ ⟨"LeastPaths", "treeArc", "(II)I"⟩ ∈ tlG := tl_sel 11 rfl
set_option maxRecDepth 100000 in
theorem kw_322 : Cond.code ⟨"LeastPaths", "treeArc", "(II)I"⟩ prog_1_method_31_code 6 (Option.some Jvm.ClassFile.FieldType.int) ∈ tlG := tl_at 502 rfl rfl
set_option maxRecDepth 100000 in
theorem kw_323 : Cond.fieldLink "LeastPaths" 154 "LeastPaths$Search" "known" "I" ∈ tlG := tl_at 140 rfl rfl
set_option maxRecDepth 100000 in
theorem kw_324 : Cond.methodLink "LeastPaths" 157 ⟨"LeastPaths$Graph", "restsLeadTo", "(I)Z"⟩ ∈ tlG := tl_at 511 rfl rfl
set_option maxRecDepth 100000 in
theorem kw_325 : Cond.instanceMethod ⟨"LeastPaths$Graph", "restsLeadTo", "(I)Z"⟩ ∈ tlG := tl_at 512 rfl rfl
set_option maxRecDepth 100000 in
theorem kw_326 : Cond.selects "LeastPaths$Graph" ⟨"LeastPaths$Graph", "restsLeadTo", "(I)Z"⟩ ⟨"LeastPaths$Graph", "restsLeadTo", "(I)Z"⟩ ∈ tlG := tl_at 513 rfl rfl
set_option maxRecDepth 100000 in
theorem kw_327 : Cond.code ⟨"LeastPaths$Graph", "restsLeadTo", "(I)Z"⟩ prog_3_method_6_code 3 (Option.some Jvm.ClassFile.FieldType.boolean) ∈ tlG := tl_at 514 rfl rfl
set_option maxRecDepth 100000 in
theorem kw_328 : Cond.methodLink "LeastPaths" 163 ⟨"LeastPaths$Search", "goLed", "(II)V"⟩ ∈ tlG := tl_at 520 rfl rfl
set_option maxRecDepth 100000 in
theorem kw_329 : Cond.instanceMethod ⟨"LeastPaths$Search", "goLed", "(II)V"⟩ ∈ tlG := tl_at 521 rfl rfl
set_option maxRecDepth 100000 in
theorem kw_330 : Cond.selects "LeastPaths$Search" ⟨"LeastPaths$Search", "goLed", "(II)V"⟩ ⟨"LeastPaths$Search", "goLed", "(II)V"⟩ ∈ tlG := tl_at 522 rfl rfl
set_option maxRecDepth 100000 in
theorem kw_331 : Cond.code ⟨"LeastPaths$Search", "goLed", "(II)V"⟩ prog_6_method_11_code 5 (Option.none : Option Jvm.ClassFile.FieldType) ∈ tlG := tl_at 523 rfl rfl
set_option maxRecDepth 100000 in
theorem kw_332 : Cond.fieldLink "LeastPaths" 167 "LeastPaths$Search" "settled" "I" ∈ tlG := tl_at 138 rfl rfl
set_option maxRecDepth 100000 in
theorem kw_333 : Cond.fieldLink "LeastPaths" 48 "LeastPaths" "sides" "LLeastPaths$BothSides;" ∈ tlG := tl_at 304 rfl rfl
set_option maxRecDepth 100000 in
theorem kw_334 : Cond.methodLink "LeastPaths" 170 ⟨"LeastPaths$BothSides", "meet", "(II)V"⟩ ∈ tlG := tl_at 536 rfl rfl
set_option maxRecDepth 100000 in
theorem kw_335 : Cond.instanceMethod ⟨"LeastPaths$BothSides", "meet", "(II)V"⟩ ∈ tlG := tl_at 537 rfl rfl
set_option maxRecDepth 100000 in
theorem kw_336 : Cond.selects "LeastPaths$BothSides" ⟨"LeastPaths$BothSides", "meet", "(II)V"⟩ ⟨"LeastPaths$BothSides", "meet", "(II)V"⟩ ∈ tlG := tl_at 538 rfl rfl
set_option maxRecDepth 100000 in
theorem kw_337 : Cond.code ⟨"LeastPaths$BothSides", "meet", "(II)V"⟩ prog_2_method_2_code 4 (Option.none : Option Jvm.ClassFile.FieldType) ∈ tlG := tl_at 539 rfl rfl
set_option maxRecDepth 100000 in
theorem kw_338 : Cond.fieldLink "LeastPaths" 40 "LeastPaths" "back" "LLeastPaths$Search;" ∈ tlG := tl_at 303 rfl rfl
set_option maxRecDepth 100000 in
theorem kw_339 : Cond.fieldLink "LeastPaths" 173 "LeastPaths$BothSides" "best" "I" ∈ tlG := tl_at 179 rfl rfl
set_option maxRecDepth 100000 in
theorem kw_340 : Cond.constant "LeastPaths" 176 2147483647 ∈ tlG := tl_at 568 rfl rfl
set_option maxRecDepth 100000 in
theorem kw_341 : Cond.fieldLink "LeastPaths" 57 "LeastPaths" "row" "LLeastPaths$Row;" ∈ tlG := tl_at 305 rfl rfl
set_option maxRecDepth 100000 in
theorem kw_342 : Cond.methodLink "LeastPaths" 177 ⟨"LeastPaths$Row", "fill", "(III)V"⟩ ∈ tlG := tl_at 573 rfl rfl
set_option maxRecDepth 100000 in
theorem kw_343 : Cond.instanceMethod ⟨"LeastPaths$Row", "fill", "(III)V"⟩ ∈ tlG := tl_at 574 rfl rfl
set_option maxRecDepth 100000 in
theorem kw_344 : Cond.selects "LeastPaths$Row" ⟨"LeastPaths$Row", "fill", "(III)V"⟩ ⟨"LeastPaths$Row", "fill", "(III)V"⟩ ∈ tlG := tl_at 575 rfl rfl
set_option maxRecDepth 100000 in
theorem kw_345 : Cond.code ⟨"LeastPaths$Row", "fill", "(III)V"⟩ prog_5_method_2_code 7 (Option.none : Option Jvm.ClassFile.FieldType) ∈ tlG := tl_at 576 rfl rfl
set_option maxRecDepth 100000 in
theorem kw_346 : Cond.fieldLink "LeastPaths" 181 "LeastPaths$Row" "size" "I" ∈ tlG := tl_at 230 rfl rfl
set_option maxRecDepth 100000 in
theorem kw_347 : Cond.fieldLink "LeastPaths" 184 "LeastPaths$Row" "ways" "[LLeastPaths$Way;" ∈ tlG := tl_at 227 rfl rfl
set_option maxRecDepth 100000 in
theorem kw_348 : Cond.fieldLink "LeastPaths" 188 "LeastPaths$Way" "number" "I" ∈ tlG := tl_at 208 rfl rfl
set_option maxRecDepth 100000 in
theorem kw_349 : Cond.methodLink "LeastPaths" 192 ⟨"LeastPaths$Way", "arcAt", "(I)I"⟩ ∈ tlG := tl_at 613 rfl rfl
set_option maxRecDepth 100000 in
theorem kw_350 : Cond.instanceMethod ⟨"LeastPaths$Way", "arcAt", "(I)I"⟩ ∈ tlG := tl_at 614 rfl rfl
set_option maxRecDepth 100000 in
theorem kw_351 : Cond.selects "LeastPaths$Way" ⟨"LeastPaths$Way", "arcAt", "(I)I"⟩ ⟨"LeastPaths$Way", "arcAt", "(I)I"⟩ ∈ tlG := tl_at 615 rfl rfl
set_option maxRecDepth 100000 in
theorem kw_352 : Cond.code ⟨"LeastPaths$Way", "arcAt", "(I)I"⟩ prog_9_method_4_code 2 (Option.some Jvm.ClassFile.FieldType.int) ∈ tlG := tl_at 616 rfl rfl
set_option maxRecDepth 100000 in
theorem kw_353 : Cond.fieldLink "LeastPaths" 73 "LeastPaths" "widths" "LLeastPaths$Widths;" ∈ tlG := tl_at 307 rfl rfl
set_option maxRecDepth 100000 in
theorem kw_354 : Cond.methodLink "LeastPaths" 195 ⟨"LeastPaths$Widths", "spread", "(I)V"⟩ ∈ tlG := tl_at 621 rfl rfl
set_option maxRecDepth 100000 in
theorem kw_355 : Cond.instanceMethod ⟨"LeastPaths$Widths", "spread", "(I)V"⟩ ∈ tlG := tl_at 622 rfl rfl
set_option maxRecDepth 100000 in
theorem kw_356 : Cond.selects "LeastPaths$Widths" ⟨"LeastPaths$Widths", "spread", "(I)V"⟩ ⟨"LeastPaths$Widths", "spread", "(I)V"⟩ ∈ tlG := tl_at 623 rfl rfl
set_option maxRecDepth 100000 in
theorem kw_357 : Cond.initialized "LeastPaths$Widths" ∈ tlG := tl_at 10 rfl rfl
set_option maxRecDepth 100000 in
theorem kw_358 : Cond.code ⟨"LeastPaths$Widths", "spread", "(I)V"⟩ prog_10_method_2_code 5 (Option.none : Option Jvm.ClassFile.FieldType) ∈ tlG := tl_at 624 rfl rfl
set_option maxRecDepth 100000 in
theorem kw_359 : Cond.fieldLink "LeastPaths" 199 "LeastPaths$Widths" "width" "[I" ∈ tlG := tl_at 278 rfl rfl
set_option maxRecDepth 100000 in
theorem kw_360 : Cond.fieldLink "LeastPaths" 80 "LeastPaths" "trusts" "LLeastPaths$Trusts;" ∈ tlG := tl_at 308 rfl rfl
set_option maxRecDepth 100000 in
theorem kw_361 : Cond.methodLink "LeastPaths" 202 ⟨"LeastPaths$Trusts", "spread", "(I)V"⟩ ∈ tlG := tl_at 633 rfl rfl
set_option maxRecDepth 100000 in
theorem kw_362 : Cond.instanceMethod ⟨"LeastPaths$Trusts", "spread", "(I)V"⟩ ∈ tlG := tl_at 634 rfl rfl
set_option maxRecDepth 100000 in
theorem kw_363 : Cond.selects "LeastPaths$Trusts" ⟨"LeastPaths$Trusts", "spread", "(I)V"⟩ ⟨"LeastPaths$Trusts", "spread", "(I)V"⟩ ∈ tlG := tl_at 635 rfl rfl
set_option maxRecDepth 100000 in
theorem kw_364 : Cond.code ⟨"LeastPaths$Trusts", "spread", "(I)V"⟩ prog_7_method_3_code 4 (Option.none : Option Jvm.ClassFile.FieldType) ∈ tlG := tl_at 636 rfl rfl
set_option maxRecDepth 100000 in
theorem kw_365 : Cond.methodLink "LeastPaths" 203 ⟨"LeastPaths$Trusts", "knows", "(I)Z"⟩ ∈ tlG := tl_at 646 rfl rfl
set_option maxRecDepth 100000 in
theorem kw_366 : Cond.methodLink "LeastPaths" 204 ⟨"LeastPaths$Trusts", "lowestTerm", "(II)I"⟩ ∈ tlG := tl_at 647 rfl rfl
set_option maxRecDepth 100000 in
theorem kw_367 : Cond.instanceMethod ⟨"LeastPaths$Trusts", "lowestTerm", "(II)I"⟩ ∈ tlG := tl_at 648 rfl rfl
set_option maxRecDepth 100000 in
theorem kw_368 : Cond.selects "LeastPaths$Trusts" ⟨"LeastPaths$Trusts", "lowestTerm", "(II)I"⟩ ⟨"LeastPaths$Trusts", "lowestTerm", "(II)I"⟩ ∈ tlG := tl_at 649 rfl rfl
set_option maxRecDepth 100000 in
theorem kw_369 : Cond.code ⟨"LeastPaths$Trusts", "lowestTerm", "(II)I"⟩ prog_7_method_5_code 7 (Option.some Jvm.ClassFile.FieldType.int) ∈ tlG := tl_at 650 rfl rfl
set_option maxRecDepth 100000 in
theorem kw_370 : Cond.fieldLink "LeastPaths" 64 "LeastPaths" "rings" "LLeastPaths$Rings;" ∈ tlG := tl_at 306 rfl rfl
set_option maxRecDepth 100000 in
theorem kw_371 : Cond.methodLink "LeastPaths" 207 ⟨"LeastPaths$Rings", "find", "()V"⟩ ∈ tlG := tl_at 658 rfl rfl
set_option maxRecDepth 100000 in
theorem kw_372 : Cond.instanceMethod ⟨"LeastPaths$Rings", "find", "()V"⟩ ∈ tlG := tl_at 659 rfl rfl
set_option maxRecDepth 100000 in
theorem kw_373 : Cond.selects "LeastPaths$Rings" ⟨"LeastPaths$Rings", "find", "()V"⟩ ⟨"LeastPaths$Rings", "find", "()V"⟩ ∈ tlG := tl_at 660 rfl rfl
set_option maxRecDepth 100000 in
theorem kw_374 : Cond.code ⟨"LeastPaths$Rings", "find", "()V"⟩ prog_4_method_2_code 2 (Option.none : Option Jvm.ClassFile.FieldType) ∈ tlG := tl_at 661 rfl rfl
set_option maxRecDepth 100000 in
theorem kw_375 : Cond.fieldLink "LeastPaths" 210 "LeastPaths$Rings" "least" "LLeastPaths$Way;" ∈ tlG := tl_at 262 rfl rfl
set_option maxRecDepth 100000 in
theorem kw_376 : Cond.fieldLink "LeastPaths" 214 "LeastPaths$Way" "count" "I" ∈ tlG := tl_at 205 rfl rfl
set_option maxRecDepth 100000 in
theorem kw_377 : Cond.methodLink "LeastPaths" 217 ⟨"LeastPaths", "lengthWithout", "(IIJ)I"⟩ ∈ tlG := tl_at 683 rfl rfl
set_option maxRecDepth 100000 in
theorem kw_378 : Cond.instanceMethod ⟨"LeastPaths", "lengthWithout", "(IIJ)I"⟩ ∈ tlG := tl_at 685 rfl rfl
set_option maxRecDepth 100000 in
theorem kw_379 : Cond.selects "LeastPaths" ⟨"LeastPaths", "lengthWithout", "(IIJ)I"⟩ ⟨"LeastPaths", "lengthWithout", "(IIJ)I"⟩ ∈ tlG := tl_sel 18 rfl
set_option maxRecDepth 100000 in
theorem kw_380 : Cond.code ⟨"LeastPaths", "lengthWithout", "(IIJ)I"⟩ prog_1_method_32_code 5 (Option.some Jvm.ClassFile.FieldType.int) ∈ tlG := tl_at 686 rfl rfl
set_option maxRecDepth 100000 in
theorem kw_381 : Cond.fieldLink "LeastPathsModel" 82 "LeastPathsModel" "heap" "I" ∈ tlG := tl_at 696 rfl rfl
set_option maxRecDepth 100000 in
theorem kw_382 : Cond.fieldLink "LeastPathsModel" 85 "LeastPathsModel" "nodes" "I" ∈ tlG := tl_at 697 rfl rfl
set_option maxRecDepth 100000 in
theorem kw_383 : Cond.fieldLink "LeastPathsModel" 88 "LeastPathsModel" "arcs" "I" ∈ tlG := tl_at 698 rfl rfl
set_option maxRecDepth 100000 in
theorem kw_384 : Cond.fieldLink "LeastPathsModel" 25 "LeastPathsModel" "alive" "[Z" ∈ tlG := tl_at 704 rfl rfl
set_option maxRecDepth 100000 in
theorem kw_385 : Cond.fieldLink "LeastPathsModel" 59 "LeastPathsModel" "rowFrom" "I" ∈ tlG := tl_at 717 rfl rfl
set_option maxRecDepth 100000 in
theorem kw_386 : Cond.fieldLink "LeastPathsModel" 29 "LeastPathsModel" "isSource" "[Z" ∈ tlG := tl_at 705 rfl rfl
set_option maxRecDepth 100000 in
theorem kw_387 : Cond.fieldLink "LeastPathsModel" 32 "LeastPathsModel" "rests" "[I" ∈ tlG := tl_at 706 rfl rfl
set_option maxRecDepth 100000 in
theorem kw_388 : Cond.methodLink "LeastPathsModel" 91 ⟨"LeastPathsModel", "change", "()V"⟩ ∈ tlG := tl_at 802 rfl rfl
set_option maxRecDepth 100000 in
theorem kw_389 : Cond.instanceMethod ⟨"LeastPathsModel", "change", "()V"⟩ ∈ tlG := tl_at 804 rfl rfl
set_option maxRecDepth 100000 in
theorem kw_390 : Cond.selects "LeastPathsModel" ⟨"LeastPathsModel", "change", "()V"⟩ ⟨"LeastPathsModel", "change", "()V"⟩ ∈ tlG := tl_sel 19 rfl
set_option maxRecDepth 100000 in
theorem kw_391 : Cond.initialized "LeastPathsModel" ∈ tlG := tl_at 12 rfl rfl
set_option maxRecDepth 100000 in
theorem kw_392 : Cond.code ⟨"LeastPathsModel", "change", "()V"⟩ prog_12_method_5_code 1 (Option.none : Option Jvm.ClassFile.FieldType) ∈ tlG := tl_at 805 rfl rfl
set_option maxRecDepth 100000 in
theorem kw_393 : Cond.methodLink "LeastPathsModel" 94 ⟨"LeastPathsModel", "isNode", "(I)Z"⟩ ∈ tlG := tl_at 810 rfl rfl
set_option maxRecDepth 100000 in
theorem kw_394 : Cond.instanceMethod ⟨"LeastPathsModel", "isNode", "(I)Z"⟩ ∈ tlG := tl_at 812 rfl rfl
set_option maxRecDepth 100000 in
theorem kw_395 : Cond.selects "LeastPathsModel" ⟨"LeastPathsModel", "isNode", "(I)Z"⟩ ⟨"LeastPathsModel", "isNode", "(I)Z"⟩ ∈ tlG := tl_sel 20 rfl
set_option maxRecDepth 100000 in
theorem kw_396 : Cond.code ⟨"LeastPathsModel", "isNode", "(I)Z"⟩ prog_12_method_3_code 2 (Option.some Jvm.ClassFile.FieldType.boolean) ∈ tlG := tl_at 813 rfl rfl
set_option maxRecDepth 100000 in
theorem kw_397 : Cond.constant "LeastPathsModel" 98 1000000 ∈ tlG := tl_at 814 rfl rfl
set_option maxRecDepth 100000 in
theorem kw_398 : Cond.fieldLink "LeastPathsModel" 7 "LeastPathsModel" "from" "[I" ∈ tlG := tl_at 699 rfl rfl
set_option maxRecDepth 100000 in
theorem kw_399 : Cond.fieldLink "LeastPathsModel" 13 "LeastPathsModel" "to" "[I" ∈ tlG := tl_at 700 rfl rfl
set_option maxRecDepth 100000 in
theorem kw_400 : Cond.fieldLink "LeastPathsModel" 16 "LeastPathsModel" "weight" "[I" ∈ tlG := tl_at 701 rfl rfl
set_option maxRecDepth 100000 in
theorem kw_401 : Cond.fieldLink "LeastPathsModel" 19 "LeastPathsModel" "above" "[I" ∈ tlG := tl_at 702 rfl rfl
set_option maxRecDepth 100000 in
theorem kw_402 : Cond.fieldLink "LeastPathsModel" 22 "LeastPathsModel" "below" "[I" ∈ tlG := tl_at 703 rfl rfl
set_option maxRecDepth 100000 in
theorem kw_403 : Cond.methodLink "LeastPathsModel" 99 ⟨"LeastPathsModel", "isArc", "(I)Z"⟩ ∈ tlG := tl_at 819 rfl rfl
set_option maxRecDepth 100000 in
theorem kw_404 : Cond.instanceMethod ⟨"LeastPathsModel", "isArc", "(I)Z"⟩ ∈ tlG := tl_at 821 rfl rfl
set_option maxRecDepth 100000 in
theorem kw_405 : Cond.selects "LeastPathsModel" ⟨"LeastPathsModel", "isArc", "(I)Z"⟩ ⟨"LeastPathsModel", "isArc", "(I)Z"⟩ ∈ tlG := tl_sel 21 rfl
set_option maxRecDepth 100000 in
theorem kw_406 : Cond.code ⟨"LeastPathsModel", "isArc", "(I)Z"⟩ prog_12_method_4_code 2 (Option.some Jvm.ClassFile.FieldType.boolean) ∈ tlG := tl_at 822 rfl rfl
set_option maxRecDepth 100000 in
theorem kw_407 : Cond.fieldLink "LeastPathsModel" 35 "LeastPathsModel" "far" "[I" ∈ tlG := tl_at 707 rfl rfl
set_option maxRecDepth 100000 in
theorem kw_408 : Cond.constant "LeastPathsModel" 102 1000000000 ∈ tlG := tl_at 847 rfl rfl
set_option maxRecDepth 100000 in
theorem kw_409 : Cond.fieldLink "LeastPathsModel" 38 "LeastPathsModel" "hop" "[I" ∈ tlG := tl_at 708 rfl rfl
set_option maxRecDepth 100000 in
theorem kw_410 : Cond.methodLink "LeastPathsModel" 103 ⟨"LeastPathsModel", "relax", "(I)V"⟩ ∈ tlG := tl_at 848 rfl rfl
set_option maxRecDepth 100000 in
theorem kw_411 : Cond.instanceMethod ⟨"LeastPathsModel", "relax", "(I)V"⟩ ∈ tlG := tl_at 850 rfl rfl
set_option maxRecDepth 100000 in
theorem kw_412 : Cond.selects "LeastPathsModel" ⟨"LeastPathsModel", "relax", "(I)V"⟩ ⟨"LeastPathsModel", "relax", "(I)V"⟩ ∈ tlG := tl_sel 23 rfl
set_option maxRecDepth 100000 in
theorem kw_413 : Cond.code ⟨"LeastPathsModel", "relax", "(I)V"⟩ prog_12_method_14_code 7 (Option.none : Option Jvm.ClassFile.FieldType) ∈ tlG := tl_at 851 rfl rfl
set_option maxRecDepth 100000 in
theorem kw_414 : Cond.methodLink "LeastPathsModel" 107 ⟨"LeastPathsModel", "findFar", "()V"⟩ ∈ tlG := tl_at 843 rfl rfl
set_option maxRecDepth 100000 in
theorem kw_415 : Cond.instanceMethod ⟨"LeastPathsModel", "findFar", "()V"⟩ ∈ tlG := tl_at 845 rfl rfl
set_option maxRecDepth 100000 in
theorem kw_416 : Cond.selects "LeastPathsModel" ⟨"LeastPathsModel", "findFar", "()V"⟩ ⟨"LeastPathsModel", "findFar", "()V"⟩ ∈ tlG := tl_sel 22 rfl
set_option maxRecDepth 100000 in
theorem kw_417 : Cond.code ⟨"LeastPathsModel", "findFar", "()V"⟩ prog_12_method_13_code 2 (Option.none : Option Jvm.ClassFile.FieldType) ∈ tlG := tl_at 846 rfl rfl
set_option maxRecDepth 100000 in
theorem kw_418 : Cond.methodLink "LeastPathsModel" 110 ⟨"LeastPathsModel", "stepOf", "(I)I"⟩ ∈ tlG := tl_at 860 rfl rfl
set_option maxRecDepth 100000 in
theorem kw_419 : Cond.instanceMethod ⟨"LeastPathsModel", "stepOf", "(I)I"⟩ ∈ tlG := tl_at 862 rfl rfl
set_option maxRecDepth 100000 in
theorem kw_420 : Cond.selects "LeastPathsModel" ⟨"LeastPathsModel", "stepOf", "(I)I"⟩ ⟨"LeastPathsModel", "stepOf", "(I)I"⟩ ∈ tlG := tl_sel 24 rfl
set_option maxRecDepth 100000 in
theorem kw_421 : Cond.code ⟨"LeastPathsModel", "stepOf", "(I)I"⟩ prog_12_method_15_code 4 (Option.some Jvm.ClassFile.FieldType.int) ∈ tlG := tl_at 863 rfl rfl
set_option maxRecDepth 100000 in
theorem kw_422 : Cond.fieldLink "LeastPathsModel" 41 "LeastPathsModel" "many" "[I" ∈ tlG := tl_at 709 rfl rfl
set_option maxRecDepth 100000 in
theorem kw_423 : Cond.fieldLink "LeastPathsModel" 44 "LeastPathsModel" "number" "[I" ∈ tlG := tl_at 710 rfl rfl
set_option maxRecDepth 100000 in
theorem kw_424 : Cond.fieldLink "LeastPathsModel" 47 "LeastPathsModel" "settled" "[Z" ∈ tlG := tl_at 711 rfl rfl
set_option maxRecDepth 100000 in
theorem kw_425 : Cond.methodLink "LeastPathsModel" 114 ⟨"LeastPathsModel", "beginSearch", "(II)V"⟩ ∈ tlG := tl_at 888 rfl rfl
set_option maxRecDepth 100000 in
theorem kw_426 : Cond.instanceMethod ⟨"LeastPathsModel", "beginSearch", "(II)V"⟩ ∈ tlG := tl_at 890 rfl rfl
set_option maxRecDepth 100000 in
theorem kw_427 : Cond.selects "LeastPathsModel" ⟨"LeastPathsModel", "beginSearch", "(II)V"⟩ ⟨"LeastPathsModel", "beginSearch", "(II)V"⟩ ∈ tlG := tl_sel 26 rfl
set_option maxRecDepth 100000 in
theorem kw_428 : Cond.code ⟨"LeastPathsModel", "beginSearch", "(II)V"⟩ prog_12_method_22_code 4 (Option.none : Option Jvm.ClassFile.FieldType) ∈ tlG := tl_at 891 rfl rfl
set_option maxRecDepth 100000 in
theorem kw_429 : Cond.methodLink "LeastPathsModel" 118 ⟨"LeastPathsModel", "leastOf", "(IZ)I"⟩ ∈ tlG := tl_at 892 rfl rfl
set_option maxRecDepth 100000 in
theorem kw_430 : Cond.instanceMethod ⟨"LeastPathsModel", "leastOf", "(IZ)I"⟩ ∈ tlG := tl_at 894 rfl rfl
set_option maxRecDepth 100000 in
theorem kw_431 : Cond.selects "LeastPathsModel" ⟨"LeastPathsModel", "leastOf", "(IZ)I"⟩ ⟨"LeastPathsModel", "leastOf", "(IZ)I"⟩ ∈ tlG := tl_sel 27 rfl
set_option maxRecDepth 100000 in
theorem kw_432 : Cond.code ⟨"LeastPathsModel", "leastOf", "(IZ)I"⟩ prog_12_method_23_code 7 (Option.some Jvm.ClassFile.FieldType.int) ∈ tlG := tl_at 895 rfl rfl
set_option maxRecDepth 100000 in
theorem kw_433 : Cond.methodLink "LeastPathsModel" 122 ⟨"LeastPathsModel", "settle", "(II)V"⟩ ∈ tlG := tl_at 896 rfl rfl
set_option maxRecDepth 100000 in
theorem kw_434 : Cond.instanceMethod ⟨"LeastPathsModel", "settle", "(II)V"⟩ ∈ tlG := tl_at 898 rfl rfl
set_option maxRecDepth 100000 in
theorem kw_435 : Cond.selects "LeastPathsModel" ⟨"LeastPathsModel", "settle", "(II)V"⟩ ⟨"LeastPathsModel", "settle", "(II)V"⟩ ∈ tlG := tl_sel 28 rfl
set_option maxRecDepth 100000 in
theorem kw_436 : Cond.code ⟨"LeastPathsModel", "settle", "(II)V"⟩ prog_12_method_24_code 3 (Option.none : Option Jvm.ClassFile.FieldType) ∈ tlG := tl_at 899 rfl rfl
set_option maxRecDepth 100000 in
theorem kw_437 : Cond.methodLink "LeastPathsModel" 125 ⟨"LeastPathsModel", "spread", "(II)V"⟩ ∈ tlG := tl_at 900 rfl rfl
set_option maxRecDepth 100000 in
theorem kw_438 : Cond.instanceMethod ⟨"LeastPathsModel", "spread", "(II)V"⟩ ∈ tlG := tl_at 902 rfl rfl
set_option maxRecDepth 100000 in
theorem kw_439 : Cond.selects "LeastPathsModel" ⟨"LeastPathsModel", "spread", "(II)V"⟩ ⟨"LeastPathsModel", "spread", "(II)V"⟩ ∈ tlG := tl_sel 29 rfl
set_option maxRecDepth 100000 in
theorem kw_440 : Cond.code ⟨"LeastPathsModel", "spread", "(II)V"⟩ prog_12_method_25_code 7 (Option.none : Option Jvm.ClassFile.FieldType) ∈ tlG := tl_at 903 rfl rfl
set_option maxRecDepth 100000 in
theorem kw_441 : Cond.methodLink "LeastPathsModel" 128 ⟨"LeastPathsModel", "search", "(II)I"⟩ ∈ tlG := tl_at 884 rfl rfl
set_option maxRecDepth 100000 in
theorem kw_442 : Cond.instanceMethod ⟨"LeastPathsModel", "search", "(II)I"⟩ ∈ tlG := tl_at 886 rfl rfl
set_option maxRecDepth 100000 in
theorem kw_443 : Cond.selects "LeastPathsModel" ⟨"LeastPathsModel", "search", "(II)I"⟩ ⟨"LeastPathsModel", "search", "(II)I"⟩ ∈ tlG := tl_sel 25 rfl
set_option maxRecDepth 100000 in
theorem kw_444 : Cond.code ⟨"LeastPathsModel", "search", "(II)I"⟩ prog_12_method_26_code 5 (Option.some Jvm.ClassFile.FieldType.int) ∈ tlG := tl_at 887 rfl rfl
set_option maxRecDepth 100000 in
theorem kw_445 : Cond.methodLink "LeastPathsModel" 132 ⟨"LeastPathsModel", "best", "()I"⟩ ∈ tlG := tl_at 916 rfl rfl
set_option maxRecDepth 100000 in
theorem kw_446 : Cond.instanceMethod ⟨"LeastPathsModel", "best", "()I"⟩ ∈ tlG := tl_at 918 rfl rfl
set_option maxRecDepth 100000 in
theorem kw_447 : Cond.selects "LeastPathsModel" ⟨"LeastPathsModel", "best", "()I"⟩ ⟨"LeastPathsModel", "best", "()I"⟩ ∈ tlG := tl_sel 31 rfl
set_option maxRecDepth 100000 in
theorem kw_448 : Cond.code ⟨"LeastPathsModel", "best", "()I"⟩ prog_12_method_30_code 3 (Option.some Jvm.ClassFile.FieldType.int) ∈ tlG := tl_at 919 rfl rfl
set_option maxRecDepth 100000 in
theorem kw_449 : Cond.methodLink "LeastPathsModel" 136 ⟨"LeastPathsModel", "searchBoth", "(II)I"⟩ ∈ tlG := tl_at 912 rfl rfl
set_option maxRecDepth 100000 in
theorem kw_450 : Cond.instanceMethod ⟨"LeastPathsModel", "searchBoth", "(II)I"⟩ ∈ tlG := tl_at 914 rfl rfl
set_option maxRecDepth 100000 in
theorem kw_451 : Cond.selects "LeastPathsModel" ⟨"LeastPathsModel", "searchBoth", "(II)I"⟩ ⟨"LeastPathsModel", "searchBoth", "(II)I"⟩ ∈ tlG := tl_sel 30 rfl
set_option maxRecDepth 100000 in
theorem kw_452 : Cond.code ⟨"LeastPathsModel", "searchBoth", "(II)I"⟩ prog_12_method_31_code 8 (Option.some Jvm.ClassFile.FieldType.int) ∈ tlG := tl_at 915 rfl rfl
set_option maxRecDepth 100000 in
theorem kw_453 : Cond.fieldLink "LeastPathsModel" 139 "LeastPathsModel" "size" "I" ∈ tlG := tl_at 715 rfl rfl
set_option maxRecDepth 100000 in
theorem kw_454 : Cond.fieldLink "LeastPathsModel" 142 "LeastPathsModel" "length" "I" ∈ tlG := tl_at 716 rfl rfl
set_option maxRecDepth 100000 in
theorem kw_455 : Cond.fieldLink "LeastPathsModel" 50 "LeastPathsModel" "path" "[I" ∈ tlG := tl_at 712 rfl rfl
set_option maxRecDepth 100000 in
theorem kw_456 : Cond.fieldLink "LeastPathsModel" 56 "LeastPathsModel" "place" "[I" ∈ tlG := tl_at 714 rfl rfl
set_option maxRecDepth 100000 in
theorem kw_457 : Cond.methodLink "LeastPathsModel" 145 ⟨"LeastPathsModel", "back", "()Z"⟩ ∈ tlG := tl_at 936 rfl rfl
set_option maxRecDepth 100000 in
theorem kw_458 : Cond.instanceMethod ⟨"LeastPathsModel", "back", "()Z"⟩ ∈ tlG := tl_at 938 rfl rfl
set_option maxRecDepth 100000 in
theorem kw_459 : Cond.selects "LeastPathsModel" ⟨"LeastPathsModel", "back", "()Z"⟩ ⟨"LeastPathsModel", "back", "()Z"⟩ ∈ tlG := tl_sel 34 rfl
set_option maxRecDepth 100000 in
theorem kw_460 : Cond.code ⟨"LeastPathsModel", "back", "()Z"⟩ prog_12_method_35_code 1 (Option.some Jvm.ClassFile.FieldType.boolean) ∈ tlG := tl_at 939 rfl rfl
set_option maxRecDepth 100000 in
theorem kw_461 : Cond.fieldLink "LeastPathsModel" 53 "LeastPathsModel" "tried" "[I" ∈ tlG := tl_at 713 rfl rfl
set_option maxRecDepth 100000 in
theorem kw_462 : Cond.methodLink "LeastPathsModel" 149 ⟨"LeastPathsModel", "canGo", "(III)Z"⟩ ∈ tlG := tl_at 940 rfl rfl
set_option maxRecDepth 100000 in
theorem kw_463 : Cond.instanceMethod ⟨"LeastPathsModel", "canGo", "(III)Z"⟩ ∈ tlG := tl_at 942 rfl rfl
set_option maxRecDepth 100000 in
theorem kw_464 : Cond.selects "LeastPathsModel" ⟨"LeastPathsModel", "canGo", "(III)Z"⟩ ⟨"LeastPathsModel", "canGo", "(III)Z"⟩ ∈ tlG := tl_sel 35 rfl
set_option maxRecDepth 100000 in
theorem kw_465 : Cond.code ⟨"LeastPathsModel", "canGo", "(III)Z"⟩ prog_12_method_36_code 5 (Option.some Jvm.ClassFile.FieldType.boolean) ∈ tlG := tl_at 943 rfl rfl
set_option maxRecDepth 100000 in
theorem kw_466 : Cond.fieldLink "LeastPathsModel" 63 "LeastPathsModel" "rowLength" "[I" ∈ tlG := tl_at 720 rfl rfl
set_option maxRecDepth 100000 in
theorem kw_467 : Cond.fieldLink "LeastPathsModel" 66 "LeastPathsModel" "rowSize" "[I" ∈ tlG := tl_at 721 rfl rfl
set_option maxRecDepth 100000 in
theorem kw_468 : Cond.fieldLink "LeastPathsModel" 69 "LeastPathsModel" "rowArcs" "[I" ∈ tlG := tl_at 722 rfl rfl
set_option maxRecDepth 100000 in
theorem kw_469 : Cond.fieldLink "LeastPathsModel" 153 "LeastPathsModel" "rows" "I" ∈ tlG := tl_at 719 rfl rfl
set_option maxRecDepth 100000 in
theorem kw_470 : Cond.methodLink "LeastPathsModel" 156 ⟨"LeastPathsModel", "isAhead", "(I)Z"⟩ ∈ tlG := tl_at 948 rfl rfl
set_option maxRecDepth 100000 in
theorem kw_471 : Cond.instanceMethod ⟨"LeastPathsModel", "isAhead", "(I)Z"⟩ ∈ tlG := tl_at 950 rfl rfl
set_option maxRecDepth 100000 in
theorem kw_472 : Cond.selects "LeastPathsModel" ⟨"LeastPathsModel", "isAhead", "(I)Z"⟩ ⟨"LeastPathsModel", "isAhead", "(I)Z"⟩ ∈ tlG := tl_sel 37 rfl
set_option maxRecDepth 100000 in
theorem kw_473 : Cond.code ⟨"LeastPathsModel", "isAhead", "(I)Z"⟩ prog_12_method_37_code 3 (Option.some Jvm.ClassFile.FieldType.boolean) ∈ tlG := tl_at 951 rfl rfl
set_option maxRecDepth 100000 in
theorem kw_474 : Cond.fieldLink "LeastPathsModel" 159 "LeastPathsModel" "rowTo" "I" ∈ tlG := tl_at 718 rfl rfl
set_option maxRecDepth 100000 in
theorem kw_475 : Cond.methodLink "LeastPathsModel" 162 ⟨"LeastPathsModel", "nextWay", "(III)Z"⟩ ∈ tlG := tl_at 932 rfl rfl
set_option maxRecDepth 100000 in
theorem kw_476 : Cond.instanceMethod ⟨"LeastPathsModel", "nextWay", "(III)Z"⟩ ∈ tlG := tl_at 934 rfl rfl
set_option maxRecDepth 100000 in
theorem kw_477 : Cond.selects "LeastPathsModel" ⟨"LeastPathsModel", "nextWay", "(III)Z"⟩ ⟨"LeastPathsModel", "nextWay", "(III)Z"⟩ ∈ tlG := tl_sel 33 rfl
set_option maxRecDepth 100000 in
theorem kw_478 : Cond.code ⟨"LeastPathsModel", "nextWay", "(III)Z"⟩ prog_12_method_34_code 5 (Option.some Jvm.ClassFile.FieldType.boolean) ∈ tlG := tl_at 935 rfl rfl
set_option maxRecDepth 100000 in
theorem kw_479 : Cond.methodLink "LeastPathsModel" 165 ⟨"LeastPathsModel", "keep", "()V"⟩ ∈ tlG := tl_at 944 rfl rfl
set_option maxRecDepth 100000 in
theorem kw_480 : Cond.instanceMethod ⟨"LeastPathsModel", "keep", "()V"⟩ ∈ tlG := tl_at 946 rfl rfl
set_option maxRecDepth 100000 in
theorem kw_481 : Cond.selects "LeastPathsModel" ⟨"LeastPathsModel", "keep", "()V"⟩ ⟨"LeastPathsModel", "keep", "()V"⟩ ∈ tlG := tl_sel 36 rfl
set_option maxRecDepth 100000 in
theorem kw_482 : Cond.code ⟨"LeastPathsModel", "keep", "()V"⟩ prog_12_method_38_code 3 (Option.none : Option Jvm.ClassFile.FieldType) ∈ tlG := tl_at 947 rfl rfl
set_option maxRecDepth 100000 in
theorem kw_483 : Cond.methodLink "LeastPathsModel" 168 ⟨"LeastPathsModel", "findRow", "(II)V"⟩ ∈ tlG := tl_at 928 rfl rfl
set_option maxRecDepth 100000 in
theorem kw_484 : Cond.instanceMethod ⟨"LeastPathsModel", "findRow", "(II)V"⟩ ∈ tlG := tl_at 930 rfl rfl
set_option maxRecDepth 100000 in
theorem kw_485 : Cond.selects "LeastPathsModel" ⟨"LeastPathsModel", "findRow", "(II)V"⟩ ⟨"LeastPathsModel", "findRow", "(II)V"⟩ ∈ tlG := tl_sel 32 rfl
set_option maxRecDepth 100000 in
theorem kw_486 : Cond.code ⟨"LeastPathsModel", "findRow", "(II)V"⟩ prog_12_method_39_code 4 (Option.none : Option Jvm.ClassFile.FieldType) ∈ tlG := tl_at 931 rfl rfl
set_option maxRecDepth 100000 in
theorem kw_487 : Cond.methodLink "LeastPathsModel" 171 ⟨"LeastPathsModel", "kth", "(III)I"⟩ ∈ tlG := tl_at 956 rfl rfl
set_option maxRecDepth 100000 in
theorem kw_488 : Cond.instanceMethod ⟨"LeastPathsModel", "kth", "(III)I"⟩ ∈ tlG := tl_at 925 rfl rfl
set_option maxRecDepth 100000 in
theorem kw_489 : Cond.selects "LeastPathsModel" ⟨"LeastPathsModel", "kth", "(III)I"⟩ ⟨"LeastPathsModel", "kth", "(III)I"⟩ ∈ tlG := tl_at 926 rfl rfl
set_option maxRecDepth 100000 in
theorem kw_490 : Cond.code ⟨"LeastPathsModel", "kth", "(III)I"⟩ prog_12_method_40_code 4 (Option.some Jvm.ClassFile.FieldType.int) ∈ tlG := tl_at 927 rfl rfl
set_option maxRecDepth 100000 in
theorem kw_491 : Cond.fieldLink "LeastPathsModel" 72 "LeastPathsModel" "over" "[J" ∈ tlG := tl_at 723 rfl rfl
set_option maxRecDepth 100000 in
theorem kw_492 : Cond.constantLong "LeastPathsModel" 175 (-1) ∈ tlG := tl_at 965 rfl rfl
set_option maxRecDepth 100000 in
theorem kw_493 : Cond.fieldLink "LeastPathsModel" 76 "LeastPathsModel" "under" "[J" ∈ tlG := tl_at 724 rfl rfl
set_option maxRecDepth 100000 in
theorem kw_494 : Cond.methodLink "LeastPathsModel" 177 ⟨"LeastPathsModel", "common", "(JJ)J"⟩ ∈ tlG := tl_at 966 rfl rfl
set_option maxRecDepth 100000 in
theorem kw_495 : Cond.static ⟨"LeastPathsModel", "common", "(JJ)J"⟩ ∈ tlG := tl_at 967 rfl rfl
set_option maxRecDepth 100000 in
theorem kw_496 : Cond.code ⟨"LeastPathsModel", "common", "(JJ)J"⟩ prog_12_method_43_code 10 (Option.some Jvm.ClassFile.FieldType.long) ∈ tlG := tl_at 968 rfl rfl
set_option maxRecDepth 100000 in
theorem kw_497 : Cond.fieldLink "LeastPathsModel" 181 "LeastPathsModel" "ringSize" "I" ∈ tlG := tl_at 726 rfl rfl
set_option maxRecDepth 100000 in
theorem kw_498 : Cond.fieldLink "LeastPathsModel" 184 "LeastPathsModel" "ringLength" "I" ∈ tlG := tl_at 725 rfl rfl
set_option maxRecDepth 100000 in
theorem kw_499 : Cond.fieldLink "LeastPathsModel" 79 "LeastPathsModel" "ringPath" "[I" ∈ tlG := tl_at 727 rfl rfl
set_option maxRecDepth 100000 in
theorem kw_500 : Cond.methodLink "LeastPathsModel" 187 ⟨"LeastPathsModel", "isBetterRing", "(I)Z"⟩ ∈ tlG := tl_at 977 rfl rfl
set_option maxRecDepth 100000 in
theorem kw_501 : Cond.instanceMethod ⟨"LeastPathsModel", "isBetterRing", "(I)Z"⟩ ∈ tlG := tl_at 979 rfl rfl
set_option maxRecDepth 100000 in
theorem kw_502 : Cond.selects "LeastPathsModel" ⟨"LeastPathsModel", "isBetterRing", "(I)Z"⟩ ⟨"LeastPathsModel", "isBetterRing", "(I)Z"⟩ ∈ tlG := tl_sel 39 rfl
set_option maxRecDepth 100000 in
theorem kw_503 : Cond.code ⟨"LeastPathsModel", "isBetterRing", "(I)Z"⟩ prog_12_method_45_code 4 (Option.some Jvm.ClassFile.FieldType.boolean) ∈ tlG := tl_at 980 rfl rfl
set_option maxRecDepth 100000 in
theorem kw_504 : Cond.methodLink "LeastPathsModel" 190 ⟨"LeastPathsModel", "findRing", "()V"⟩ ∈ tlG := tl_at 973 rfl rfl
set_option maxRecDepth 100000 in
theorem kw_505 : Cond.instanceMethod ⟨"LeastPathsModel", "findRing", "()V"⟩ ∈ tlG := tl_at 975 rfl rfl
set_option maxRecDepth 100000 in
theorem kw_506 : Cond.selects "LeastPathsModel" ⟨"LeastPathsModel", "findRing", "()V"⟩ ⟨"LeastPathsModel", "findRing", "()V"⟩ ∈ tlG := tl_sel 38 rfl
set_option maxRecDepth 100000 in
theorem kw_507 : Cond.code ⟨"LeastPathsModel", "findRing", "()V"⟩ prog_12_method_46_code 3 (Option.none : Option Jvm.ClassFile.FieldType) ∈ tlG := tl_at 976 rfl rfl
set_option maxRecDepth 100000 in
theorem kw_508 : Cond.methodLink "LeastPathsModel" 193 ⟨"LeastPathsModel", "lengthWithout", "(III)I"⟩ ∈ tlG := tl_at 989 rfl rfl
set_option maxRecDepth 100000 in
theorem kw_509 : Cond.instanceMethod ⟨"LeastPathsModel", "lengthWithout", "(III)I"⟩ ∈ tlG := tl_at 991 rfl rfl
set_option maxRecDepth 100000 in
theorem kw_510 : Cond.selects "LeastPathsModel" ⟨"LeastPathsModel", "lengthWithout", "(III)I"⟩ ⟨"LeastPathsModel", "lengthWithout", "(III)I"⟩ ∈ tlG := tl_sel 40 rfl
set_option maxRecDepth 100000 in
theorem kw_511 : Cond.code ⟨"LeastPathsModel", "lengthWithout", "(III)I"⟩ prog_12_method_49_code 5 (Option.some Jvm.ClassFile.FieldType.int) ∈ tlG := tl_at 992 rfl rfl
end
section
theorem d_JL_bitCount_0 : decode prog_13_method_50_code 0 = .ok (.lload_n 0, 1) := by decide +kernel
theorem d_JL_bitCount_1 : decode prog_13_method_50_code 1 = .ok (.lload_n 0, 1) := by decide +kernel
theorem d_JL_bitCount_2 : decode prog_13_method_50_code 2 = .ok (.iconst 1, 1) := by decide +kernel
theorem d_JL_bitCount_3 : decode prog_13_method_50_code 3 = .ok (.lushr, 1) := by decide +kernel
theorem d_JL_bitCount_4 : decode prog_13_method_50_code 4 = .ok (.ldc2_w 314, 3) := by decide +kernel
theorem d_JL_bitCount_7 : decode prog_13_method_50_code 7 = .ok (.land, 1) := by decide +kernel
theorem d_JL_bitCount_8 : decode prog_13_method_50_code 8 = .ok (.lsub, 1) := by decide +kernel
theorem d_JL_bitCount_9 : decode prog_13_method_50_code 9 = .ok (.lstore_n 0, 1) := by decide +kernel
theorem d_JL_bitCount_10 : decode prog_13_method_50_code 10 = .ok (.lload_n 0, 1) := by decide +kernel
theorem d_JL_bitCount_11 : decode prog_13_method_50_code 11 = .ok (.ldc2_w 316, 3) := by decide +kernel
theorem d_JL_bitCount_14 : decode prog_13_method_50_code 14 = .ok (.land, 1) := by decide +kernel
theorem d_JL_bitCount_15 : decode prog_13_method_50_code 15 = .ok (.lload_n 0, 1) := by decide +kernel
theorem d_JL_bitCount_16 : decode prog_13_method_50_code 16 = .ok (.iconst 2, 1) := by decide +kernel
theorem d_JL_bitCount_17 : decode prog_13_method_50_code 17 = .ok (.lushr, 1) := by decide +kernel
theorem d_JL_bitCount_18 : decode prog_13_method_50_code 18 = .ok (.ldc2_w 316, 3) := by decide +kernel
theorem d_JL_bitCount_21 : decode prog_13_method_50_code 21 = .ok (.land, 1) := by decide +kernel
theorem d_JL_bitCount_22 : decode prog_13_method_50_code 22 = .ok (.ladd, 1) := by decide +kernel
theorem d_JL_bitCount_23 : decode prog_13_method_50_code 23 = .ok (.lstore_n 0, 1) := by decide +kernel
theorem d_JL_bitCount_24 : decode prog_13_method_50_code 24 = .ok (.lload_n 0, 1) := by decide +kernel
theorem d_JL_bitCount_25 : decode prog_13_method_50_code 25 = .ok (.lload_n 0, 1) := by decide +kernel
theorem d_JL_bitCount_26 : decode prog_13_method_50_code 26 = .ok (.iconst 4, 1) := by decide +kernel
theorem d_JL_bitCount_27 : decode prog_13_method_50_code 27 = .ok (.lushr, 1) := by decide +kernel
theorem d_JL_bitCount_28 : decode prog_13_method_50_code 28 = .ok (.ladd, 1) := by decide +kernel
theorem d_JL_bitCount_29 : decode prog_13_method_50_code 29 = .ok (.ldc2_w 318, 3) := by decide +kernel
theorem d_JL_bitCount_32 : decode prog_13_method_50_code 32 = .ok (.land, 1) := by decide +kernel
theorem d_JL_bitCount_33 : decode prog_13_method_50_code 33 = .ok (.lstore_n 0, 1) := by decide +kernel
theorem d_JL_bitCount_34 : decode prog_13_method_50_code 34 = .ok (.lload_n 0, 1) := by decide +kernel
theorem d_JL_bitCount_35 : decode prog_13_method_50_code 35 = .ok (.lload_n 0, 1) := by decide +kernel
theorem d_JL_bitCount_36 : decode prog_13_method_50_code 36 = .ok (.bipush 8, 2) := by decide +kernel
theorem d_JL_bitCount_38 : decode prog_13_method_50_code 38 = .ok (.lushr, 1) := by decide +kernel
theorem d_JL_bitCount_39 : decode prog_13_method_50_code 39 = .ok (.ladd, 1) := by decide +kernel
theorem d_JL_bitCount_40 : decode prog_13_method_50_code 40 = .ok (.lstore_n 0, 1) := by decide +kernel
theorem d_JL_bitCount_41 : decode prog_13_method_50_code 41 = .ok (.lload_n 0, 1) := by decide +kernel
theorem d_JL_bitCount_42 : decode prog_13_method_50_code 42 = .ok (.lload_n 0, 1) := by decide +kernel
theorem d_JL_bitCount_43 : decode prog_13_method_50_code 43 = .ok (.bipush 16, 2) := by decide +kernel
theorem d_JL_bitCount_45 : decode prog_13_method_50_code 45 = .ok (.lushr, 1) := by decide +kernel
theorem d_JL_bitCount_46 : decode prog_13_method_50_code 46 = .ok (.ladd, 1) := by decide +kernel
theorem d_JL_bitCount_47 : decode prog_13_method_50_code 47 = .ok (.lstore_n 0, 1) := by decide +kernel
theorem d_JL_bitCount_48 : decode prog_13_method_50_code 48 = .ok (.lload_n 0, 1) := by decide +kernel
theorem d_JL_bitCount_49 : decode prog_13_method_50_code 49 = .ok (.lload_n 0, 1) := by decide +kernel
theorem d_JL_bitCount_50 : decode prog_13_method_50_code 50 = .ok (.bipush 32, 2) := by decide +kernel
theorem d_JL_bitCount_52 : decode prog_13_method_50_code 52 = .ok (.lushr, 1) := by decide +kernel
theorem d_JL_bitCount_53 : decode prog_13_method_50_code 53 = .ok (.ladd, 1) := by decide +kernel
theorem d_JL_bitCount_54 : decode prog_13_method_50_code 54 = .ok (.lstore_n 0, 1) := by decide +kernel
theorem d_JL_bitCount_55 : decode prog_13_method_50_code 55 = .ok (.lload_n 0, 1) := by decide +kernel
theorem d_JL_bitCount_56 : decode prog_13_method_50_code 56 = .ok (.l2i, 1) := by decide +kernel
theorem d_JL_bitCount_57 : decode prog_13_method_50_code 57 = .ok (.bipush 127, 2) := by decide +kernel
theorem d_JL_bitCount_59 : decode prog_13_method_50_code 59 = .ok (.iand, 1) := by decide +kernel
theorem d_JL_bitCount_60 : decode prog_13_method_50_code 60 = .ok (.ireturn, 1) := by decide +kernel
def rm_JL_bitCount : Room := { frames := 0, cells := 0, slots := 0, locals := 0 }
def f_JL_bitCount (σ : mS) (x0 : Int64) : Option (Int32) :=
  nm (x0 - (((x0.toUInt64 >>> ((1 : Int32).toInt64.toUInt64 &&& Int64.toUInt64 63)).toInt64) &&& 6148914691236517205)) fun v1 =>
  nm ((v1 &&& 3689348814741910323) + (((v1.toUInt64 >>> ((2 : Int32).toInt64.toUInt64 &&& Int64.toUInt64 63)).toInt64) &&& 3689348814741910323)) fun v2 =>
  nm ((v2 + ((v2.toUInt64 >>> ((4 : Int32).toInt64.toUInt64 &&& Int64.toUInt64 63)).toInt64)) &&& 1085102592571150095) fun v3 =>
  nm (v3 + ((v3.toUInt64 >>> ((8 : Int32).toInt64.toUInt64 &&& Int64.toUInt64 63)).toInt64)) fun v4 =>
  nm (v4 + ((v4.toUInt64 >>> ((16 : Int32).toInt64.toUInt64 &&& Int64.toUInt64 63)).toInt64)) fun v5 =>
  nm (v5 + ((v5.toUInt64 >>> ((32 : Int32).toInt64.toUInt64 &&& Int64.toUInt64 63)).toInt64)) fun v6 =>
  some (v6.toInt32 &&& 127)
set_option maxHeartbeats 4000000 in
set_option maxRecDepth 100000 in
theorem c_JL_bitCount (l : Launch) (D : va_G) (cA ad : Nat → Nat) (σ : mS) (x0 : Int64) (o : Int32) (h : f_JL_bitCount σ x0 = some o) : mCi l ⟨"java/lang/Long", "bitCount", "(J)I"⟩ (Cond.code ⟨"java/lang/Long", "bitCount", "(J)I"⟩ prog_13_method_50_code 2 (Option.some Jvm.ClassFile.FieldType.int) :: tlG) rm_JL_bitCount D clX (tyK cA) 99 (tbX cA) ad σ [.long x0] (o, σ) := by
  intro sz
  refine m_of (cc := prog_13_method_50_code) (maxL := 2) (Qc := mQi D clX (tyK cA) 99 (tbX cA) ad (o, σ)) (by decide) (Nat.le_of_ble_eq_true rfl) (fun p e s m args below meth c ls S hr hlk hnm hl M => ?_) sz
  have hl : lv_has ls 2 [(0, .long x0)] := hl
  generalize hQ : MQ _ _ _ _ _ _ _ = Q
  skip
  unfold f_JL_bitCount at h
  refine lv_lload_n S.1 S.2.1 d_JL_bitCount_0 rfl (lv_at hl 0 rfl) ?_
  refine lv_lload_n S.1 S.2.1 d_JL_bitCount_1 rfl (lv_at hl 0 rfl) ?_
  refine lv_iconst (v := 1) S.1 S.2.1 d_JL_bitCount_2 (by decide) ?_
  refine lv_lushr S.1 S.2.1 d_JL_bitCount_3 rfl ?_
  refine lv_ldc2 (v := 6148914691236517205) S.1 S.2.1 S.2.2.2.1 (S.2.2.2.2 _ kw_0) d_JL_bitCount_4 ?_
  refine lv_land S.1 S.2.1 d_JL_bitCount_7 ?_
  refine lv_lsub S.1 S.2.1 d_JL_bitCount_8 ?_
  refine m_nl h (fun v1 h => ?_)
  refine lv_lstore_n (lv' := [(0, .long v1)]) S.1 S.2.1 d_JL_bitCount_9 rfl hl (by decide) rfl (fun ls hl => ?_)
  refine lv_lload_n S.1 S.2.1 d_JL_bitCount_10 rfl (lv_at hl 0 rfl) ?_
  refine lv_ldc2 (v := 3689348814741910323) S.1 S.2.1 S.2.2.2.1 (S.2.2.2.2 _ kw_1) d_JL_bitCount_11 ?_
  refine lv_land S.1 S.2.1 d_JL_bitCount_14 ?_
  refine lv_lload_n S.1 S.2.1 d_JL_bitCount_15 rfl (lv_at hl 0 rfl) ?_
  refine lv_iconst (v := 2) S.1 S.2.1 d_JL_bitCount_16 (by decide) ?_
  refine lv_lushr S.1 S.2.1 d_JL_bitCount_17 rfl ?_
  refine lv_ldc2 (v := 3689348814741910323) S.1 S.2.1 S.2.2.2.1 (S.2.2.2.2 _ kw_1) d_JL_bitCount_18 ?_
  refine lv_land S.1 S.2.1 d_JL_bitCount_21 ?_
  refine lv_ladd S.1 S.2.1 d_JL_bitCount_22 ?_
  refine m_nl h (fun v2 h => ?_)
  refine lv_lstore_n (lv' := [(0, .long v2)]) S.1 S.2.1 d_JL_bitCount_23 rfl hl (by decide) rfl (fun ls hl => ?_)
  refine lv_lload_n S.1 S.2.1 d_JL_bitCount_24 rfl (lv_at hl 0 rfl) ?_
  refine lv_lload_n S.1 S.2.1 d_JL_bitCount_25 rfl (lv_at hl 0 rfl) ?_
  refine lv_iconst (v := 4) S.1 S.2.1 d_JL_bitCount_26 (by decide) ?_
  refine lv_lushr S.1 S.2.1 d_JL_bitCount_27 rfl ?_
  refine lv_ladd S.1 S.2.1 d_JL_bitCount_28 ?_
  refine lv_ldc2 (v := 1085102592571150095) S.1 S.2.1 S.2.2.2.1 (S.2.2.2.2 _ kw_2) d_JL_bitCount_29 ?_
  refine lv_land S.1 S.2.1 d_JL_bitCount_32 ?_
  refine m_nl h (fun v3 h => ?_)
  refine lv_lstore_n (lv' := [(0, .long v3)]) S.1 S.2.1 d_JL_bitCount_33 rfl hl (by decide) rfl (fun ls hl => ?_)
  refine lv_lload_n S.1 S.2.1 d_JL_bitCount_34 rfl (lv_at hl 0 rfl) ?_
  refine lv_lload_n S.1 S.2.1 d_JL_bitCount_35 rfl (lv_at hl 0 rfl) ?_
  refine lv_bipush (v := 8) S.1 S.2.1 d_JL_bitCount_36 (by decide) ?_
  refine lv_lushr S.1 S.2.1 d_JL_bitCount_38 rfl ?_
  refine lv_ladd S.1 S.2.1 d_JL_bitCount_39 ?_
  refine m_nl h (fun v4 h => ?_)
  refine lv_lstore_n (lv' := [(0, .long v4)]) S.1 S.2.1 d_JL_bitCount_40 rfl hl (by decide) rfl (fun ls hl => ?_)
  refine lv_lload_n S.1 S.2.1 d_JL_bitCount_41 rfl (lv_at hl 0 rfl) ?_
  refine lv_lload_n S.1 S.2.1 d_JL_bitCount_42 rfl (lv_at hl 0 rfl) ?_
  refine lv_bipush (v := 16) S.1 S.2.1 d_JL_bitCount_43 (by decide) ?_
  refine lv_lushr S.1 S.2.1 d_JL_bitCount_45 rfl ?_
  refine lv_ladd S.1 S.2.1 d_JL_bitCount_46 ?_
  refine m_nl h (fun v5 h => ?_)
  refine lv_lstore_n (lv' := [(0, .long v5)]) S.1 S.2.1 d_JL_bitCount_47 rfl hl (by decide) rfl (fun ls hl => ?_)
  refine lv_lload_n S.1 S.2.1 d_JL_bitCount_48 rfl (lv_at hl 0 rfl) ?_
  refine lv_lload_n S.1 S.2.1 d_JL_bitCount_49 rfl (lv_at hl 0 rfl) ?_
  refine lv_bipush (v := 32) S.1 S.2.1 d_JL_bitCount_50 (by decide) ?_
  refine lv_lushr S.1 S.2.1 d_JL_bitCount_52 rfl ?_
  refine lv_ladd S.1 S.2.1 d_JL_bitCount_53 ?_
  refine m_nl h (fun v6 h => ?_)
  refine lv_lstore_n (lv' := [(0, .long v6)]) S.1 S.2.1 d_JL_bitCount_54 rfl hl (by decide) rfl (fun ls hl => ?_)
  refine lv_lload_n S.1 S.2.1 d_JL_bitCount_55 rfl (lv_at hl 0 rfl) ?_
  refine lv_l2i S.1 S.2.1 d_JL_bitCount_56 rfl ?_
  refine lv_bipush (v := 127) S.1 S.2.1 d_JL_bitCount_57 (by decide) ?_
  refine lv_iand S.1 S.2.1 d_JL_bitCount_59 ?_
  subst hQ; exact m_iret S hr hlk M (by rw [Option.some.inj h]) d_JL_bitCount_60
end
section
theorem d_Gr_hasNode_0 : decode prog_3_method_2_code 0 = .ok (.iload_n 1, 1) := by decide +kernel
theorem d_Gr_hasNode_1 : decode prog_3_method_2_code 1 = .ok (.ifCond .lt 15, 3) := by decide +kernel
theorem d_Gr_hasNode_4 : decode prog_3_method_2_code 4 = .ok (.iload_n 1, 1) := by decide +kernel
theorem d_Gr_hasNode_5 : decode prog_3_method_2_code 5 = .ok (.aload_n 0, 1) := by decide +kernel
theorem d_Gr_hasNode_6 : decode prog_3_method_2_code 6 = .ok (.getfield 30, 3) := by decide +kernel
theorem d_Gr_hasNode_9 : decode prog_3_method_2_code 9 = .ok (.if_icmp .ge 7, 3) := by decide +kernel
theorem d_Gr_hasNode_12 : decode prog_3_method_2_code 12 = .ok (.iconst 1, 1) := by decide +kernel
theorem d_Gr_hasNode_13 : decode prog_3_method_2_code 13 = .ok (.goto 4, 3) := by decide +kernel
theorem d_Gr_hasNode_16 : decode prog_3_method_2_code 16 = .ok (.iconst 0, 1) := by decide +kernel
theorem d_Gr_hasNode_17 : decode prog_3_method_2_code 17 = .ok (.ireturn, 1) := by decide +kernel
def rm_Gr_hasNode : Room := { frames := 0, cells := 0, slots := 0, locals := 0 }
def f_Gr_hasNode (σ : mS) (x1 : Int32) : Option (Int32) :=
  if x1 < 0 then (
  some 0) else (
  if (σ.1 1 6) ≤ x1 then (
  some 0) else (
  some 1))
set_option maxHeartbeats 4000000 in
set_option maxRecDepth 100000 in
theorem c_Gr_hasNode (l : Launch) (D : va_G) (cA ad : Nat → Nat) (σ : mS) (x1 : Int32) (o : Int32) (h : f_Gr_hasNode σ x1 = some o) : mCi l ⟨"LeastPaths$Graph", "hasNode", "(I)Z"⟩ (Cond.code ⟨"LeastPaths$Graph", "hasNode", "(I)Z"⟩ prog_3_method_2_code 2 (Option.some Jvm.ClassFile.FieldType.boolean) :: tlG) rm_Gr_hasNode D clX (tyK cA) 99 (tbX cA) ad σ [.ref (ad 1), .int x1] (o, σ) := by
  intro sz
  refine m_of (cc := prog_3_method_2_code) (maxL := 2) (Qc := mQi D clX (tyK cA) 99 (tbX cA) ad (o, σ)) (by decide) (Nat.le_of_ble_eq_true rfl) (fun p e s m args below meth c ls S hr hlk hnm hl M => ?_) sz
  have hl : lv_has ls 2 [(0, .ref (ad 1)), (1, .int x1)] := hl
  generalize hQ : MQ _ _ _ _ _ _ _ = Q
  skip
  unfold f_Gr_hasNode at h
  refine lv_iload_n S.1 S.2.1 d_Gr_hasNode_0 rfl (lv_at hl 1 rfl) ?_
  refine m_iflt (tgt := 16) S d_Gr_hasNode_1 (by decide) h (fun h => ?_) (fun h => ?_)
  · refine lv_iconst (v := 0) S.1 S.2.1 d_Gr_hasNode_16 (by decide) ?_
    subst hQ; exact m_zret S hr hlk M (by rw [Option.some.inj h]) rfl d_Gr_hasNode_17
  · refine lv_iload_n S.1 S.2.1 d_Gr_hasNode_4 rfl (lv_at hl 1 rfl) ?_
    refine lv_aload_n S.1 S.2.1 d_Gr_hasNode_5 rfl (lv_at hl 0 rfl) ?_
    refine m_gi S M (j := 6) ok_Gr (by decide) rfl (by decide) rfl kw_3 rfl d_Gr_hasNode_6 ?_
    refine m_ige (tgt := 16) S d_Gr_hasNode_9 (by decide) h (fun h => ?_) (fun h => ?_)
    · refine lv_iconst (v := 0) S.1 S.2.1 d_Gr_hasNode_16 (by decide) ?_
      subst hQ; exact m_zret S hr hlk M (by rw [Option.some.inj h]) rfl d_Gr_hasNode_17
    · refine lv_iconst (v := 1) S.1 S.2.1 d_Gr_hasNode_12 (by decide) ?_
      refine lv_goto (tgt := 17) S.1 S.2.1 d_Gr_hasNode_13 (by decide) ?_
      subst hQ; exact m_zret S hr hlk M (by rw [Option.some.inj h]) rfl d_Gr_hasNode_17
theorem d_Gr_hasArc_0 : decode prog_3_method_3_code 0 = .ok (.iload_n 1, 1) := by decide +kernel
theorem d_Gr_hasArc_1 : decode prog_3_method_3_code 1 = .ok (.ifCond .lt 28, 3) := by decide +kernel
theorem d_Gr_hasArc_4 : decode prog_3_method_3_code 4 = .ok (.iload_n 1, 1) := by decide +kernel
theorem d_Gr_hasArc_5 : decode prog_3_method_3_code 5 = .ok (.aload_n 0, 1) := by decide +kernel
theorem d_Gr_hasArc_6 : decode prog_3_method_3_code 6 = .ok (.getfield 34, 3) := by decide +kernel
theorem d_Gr_hasArc_9 : decode prog_3_method_3_code 9 = .ok (.if_icmp .ge 20, 3) := by decide +kernel
theorem d_Gr_hasArc_12 : decode prog_3_method_3_code 12 = .ok (.aload_n 0, 1) := by decide +kernel
theorem d_Gr_hasArc_13 : decode prog_3_method_3_code 13 = .ok (.getfield 37, 3) := by decide +kernel
theorem d_Gr_hasArc_16 : decode prog_3_method_3_code 16 = .ok (.iload_n 1, 1) := by decide +kernel
theorem d_Gr_hasArc_17 : decode prog_3_method_3_code 17 = .ok (.lshr, 1) := by decide +kernel
theorem d_Gr_hasArc_18 : decode prog_3_method_3_code 18 = .ok (.lconst 1, 1) := by decide +kernel
theorem d_Gr_hasArc_19 : decode prog_3_method_3_code 19 = .ok (.land, 1) := by decide +kernel
theorem d_Gr_hasArc_20 : decode prog_3_method_3_code 20 = .ok (.lconst 0, 1) := by decide +kernel
theorem d_Gr_hasArc_21 : decode prog_3_method_3_code 21 = .ok (.lcmp, 1) := by decide +kernel
theorem d_Gr_hasArc_22 : decode prog_3_method_3_code 22 = .ok (.ifCond .eq 7, 3) := by decide +kernel
theorem d_Gr_hasArc_25 : decode prog_3_method_3_code 25 = .ok (.iconst 1, 1) := by decide +kernel
theorem d_Gr_hasArc_26 : decode prog_3_method_3_code 26 = .ok (.goto 4, 3) := by decide +kernel
theorem d_Gr_hasArc_29 : decode prog_3_method_3_code 29 = .ok (.iconst 0, 1) := by decide +kernel
theorem d_Gr_hasArc_30 : decode prog_3_method_3_code 30 = .ok (.ireturn, 1) := by decide +kernel
def rm_Gr_hasArc : Room := { frames := 0, cells := 0, slots := 0, locals := 0 }
def f_Gr_hasArc (σ : mS) (x1 : Int32) : Option (Int32) :=
  if x1 < 0 then (
  some 0) else (
  if (σ.1 1 7) ≤ x1 then (
  some 0) else (
  if (lg_cmp (((σ.2.1 1 8) >>> (x1.toInt64 &&& 63)) &&& 1) 0) = 0 then (
  some 0) else (
  some 1)))
set_option maxHeartbeats 4000000 in
set_option maxRecDepth 100000 in
theorem c_Gr_hasArc (l : Launch) (D : va_G) (cA ad : Nat → Nat) (σ : mS) (x1 : Int32) (o : Int32) (h : f_Gr_hasArc σ x1 = some o) : mCi l ⟨"LeastPaths$Graph", "hasArc", "(I)Z"⟩ (Cond.code ⟨"LeastPaths$Graph", "hasArc", "(I)Z"⟩ prog_3_method_3_code 2 (Option.some Jvm.ClassFile.FieldType.boolean) :: tlG) rm_Gr_hasArc D clX (tyK cA) 99 (tbX cA) ad σ [.ref (ad 1), .int x1] (o, σ) := by
  intro sz
  refine m_of (cc := prog_3_method_3_code) (maxL := 2) (Qc := mQi D clX (tyK cA) 99 (tbX cA) ad (o, σ)) (by decide) (Nat.le_of_ble_eq_true rfl) (fun p e s m args below meth c ls S hr hlk hnm hl M => ?_) sz
  have hl : lv_has ls 2 [(0, .ref (ad 1)), (1, .int x1)] := hl
  generalize hQ : MQ _ _ _ _ _ _ _ = Q
  skip
  unfold f_Gr_hasArc at h
  refine lv_iload_n S.1 S.2.1 d_Gr_hasArc_0 rfl (lv_at hl 1 rfl) ?_
  refine m_iflt (tgt := 29) S d_Gr_hasArc_1 (by decide) h (fun h => ?_) (fun h => ?_)
  · refine lv_iconst (v := 0) S.1 S.2.1 d_Gr_hasArc_29 (by decide) ?_
    subst hQ; exact m_zret S hr hlk M (by rw [Option.some.inj h]) rfl d_Gr_hasArc_30
  · refine lv_iload_n S.1 S.2.1 d_Gr_hasArc_4 rfl (lv_at hl 1 rfl) ?_
    refine lv_aload_n S.1 S.2.1 d_Gr_hasArc_5 rfl (lv_at hl 0 rfl) ?_
    refine m_gi S M (j := 7) ok_Gr (by decide) rfl (by decide) rfl kw_4 rfl d_Gr_hasArc_6 ?_
    refine m_ige (tgt := 29) S d_Gr_hasArc_9 (by decide) h (fun h => ?_) (fun h => ?_)
    · refine lv_iconst (v := 0) S.1 S.2.1 d_Gr_hasArc_29 (by decide) ?_
      subst hQ; exact m_zret S hr hlk M (by rw [Option.some.inj h]) rfl d_Gr_hasArc_30
    · refine lv_aload_n S.1 S.2.1 d_Gr_hasArc_12 rfl (lv_at hl 0 rfl) ?_
      refine m_gl S M (j := 8) ok_Gr (by decide) rfl (by decide) rfl kw_5 rfl d_Gr_hasArc_13 ?_
      refine lv_iload_n S.1 S.2.1 d_Gr_hasArc_16 rfl (lv_at hl 1 rfl) ?_
      refine lv_lshr S.1 S.2.1 d_Gr_hasArc_17 rfl ?_
      refine lv_lconst (v := 1) S.1 S.2.1 d_Gr_hasArc_18 (by decide) ?_
      refine lv_land S.1 S.2.1 d_Gr_hasArc_19 ?_
      refine lv_lconst (v := 0) S.1 S.2.1 d_Gr_hasArc_20 (by decide) ?_
      refine W.lcmp S.1 S.2.1 d_Gr_hasArc_21 ?_
      refine m_ifeq (tgt := 29) S d_Gr_hasArc_22 (by decide) h (fun h => ?_) (fun h => ?_)
      · refine lv_iconst (v := 0) S.1 S.2.1 d_Gr_hasArc_29 (by decide) ?_
        subst hQ; exact m_zret S hr hlk M (by rw [Option.some.inj h]) rfl d_Gr_hasArc_30
      · refine lv_iconst (v := 1) S.1 S.2.1 d_Gr_hasArc_25 (by decide) ?_
        refine lv_goto (tgt := 30) S.1 S.2.1 d_Gr_hasArc_26 (by decide) ?_
        subst hQ; exact m_zret S hr hlk M (by rw [Option.some.inj h]) rfl d_Gr_hasArc_30
theorem d_Gr_addNode_0 : decode prog_3_method_4_code 0 = .ok (.aload_n 0, 1) := by decide +kernel
theorem d_Gr_addNode_1 : decode prog_3_method_4_code 1 = .ok (.getfield 30, 3) := by decide +kernel
theorem d_Gr_addNode_4 : decode prog_3_method_4_code 4 = .ok (.istore_n 1, 1) := by decide +kernel
theorem d_Gr_addNode_5 : decode prog_3_method_4_code 5 = .ok (.aload_n 0, 1) := by decide +kernel
theorem d_Gr_addNode_6 : decode prog_3_method_4_code 6 = .ok (.getfield 27, 3) := by decide +kernel
theorem d_Gr_addNode_9 : decode prog_3_method_4_code 9 = .ok (.iload_n 1, 1) := by decide +kernel
theorem d_Gr_addNode_10 : decode prog_3_method_4_code 10 = .ok (.iconst 0, 1) := by decide +kernel
theorem d_Gr_addNode_11 : decode prog_3_method_4_code 11 = .ok (.iastore, 1) := by decide +kernel
theorem d_Gr_addNode_12 : decode prog_3_method_4_code 12 = .ok (.aload_n 0, 1) := by decide +kernel
theorem d_Gr_addNode_13 : decode prog_3_method_4_code 13 = .ok (.dup, 1) := by decide +kernel
theorem d_Gr_addNode_14 : decode prog_3_method_4_code 14 = .ok (.getfield 30, 3) := by decide +kernel
theorem d_Gr_addNode_17 : decode prog_3_method_4_code 17 = .ok (.iconst 1, 1) := by decide +kernel
theorem d_Gr_addNode_18 : decode prog_3_method_4_code 18 = .ok (.iadd, 1) := by decide +kernel
theorem d_Gr_addNode_19 : decode prog_3_method_4_code 19 = .ok (.putfield 30, 3) := by decide +kernel
theorem d_Gr_addNode_22 : decode prog_3_method_4_code 22 = .ok (.iload_n 1, 1) := by decide +kernel
theorem d_Gr_addNode_23 : decode prog_3_method_4_code 23 = .ok (.ireturn, 1) := by decide +kernel
def rm_Gr_addNode : Room := { frames := 0, cells := 0, slots := 0, locals := 0 }
def f_Gr_addNode (σ : mS) : Option (Int32 × mS) :=
  nm (σ.1 1 6) fun v1 =>
  gd (inb v1 10) ((nm (sI σ 7 v1.toNatClampNeg 0) fun σ2 =>
  nm (sI σ2 1 6 ((σ2.1 1 6) + 1)) fun σ3 =>
  some (v1, σ3)))
set_option maxHeartbeats 4000000 in
set_option maxRecDepth 100000 in
theorem c_Gr_addNode (l : Launch) (D : va_G) (cA ad : Nat → Nat) (σ : mS) (o : Int32 × mS) (h : f_Gr_addNode σ = some o) : mCi l ⟨"LeastPaths$Graph", "addNode", "()I"⟩ (Cond.code ⟨"LeastPaths$Graph", "addNode", "()I"⟩ prog_3_method_4_code 2 (Option.some Jvm.ClassFile.FieldType.int) :: tlG) rm_Gr_addNode D clX (tyK cA) 99 (tbX cA) ad σ [.ref (ad 1)] o := by
  intro sz
  refine m_of (cc := prog_3_method_4_code) (maxL := 2) (Qc := mQi D clX (tyK cA) 99 (tbX cA) ad o) (by decide) (Nat.le_of_ble_eq_true rfl) (fun p e s m args below meth c ls S hr hlk hnm hl M => ?_) sz
  have hl : lv_has ls 2 [(0, .ref (ad 1))] := hl
  generalize hQ : MQ _ _ _ _ _ _ _ = Q
  skip
  unfold f_Gr_addNode at h
  refine lv_aload_n S.1 S.2.1 d_Gr_addNode_0 rfl (lv_at hl 0 rfl) ?_
  refine m_gi S M (j := 6) ok_Gr (by decide) rfl (by decide) rfl kw_3 rfl d_Gr_addNode_1 ?_
  refine m_ni h (fun v1 h => ?_)
  refine lv_istore_n (lv' := [(1, .int v1), (0, .ref (ad 1))]) S.1 S.2.1 d_Gr_addNode_4 rfl hl (by decide) rfl (fun ls hl => ?_)
  refine lv_aload_n S.1 S.2.1 d_Gr_addNode_5 rfl (lv_at hl 1 rfl) ?_
  refine m_gs (t := 7) S M (j := 5) ok_Gr (by decide) rfl (by decide) rfl kw_6 rfl d_Gr_addNode_6 ?_
  refine lv_iload_n S.1 S.2.1 d_Gr_addNode_9 rfl (lv_at hl 0 rfl) ?_
  refine lv_iconst (v := 0) S.1 S.2.1 d_Gr_addNode_10 (by decide) ?_
  refine m_ias (t0 := 0) S M (by decide) rfl rfl h d_Gr_addNode_11 (fun σ2 H locs h M => ?_)
  refine lv_aload_n S.1 S.2.1 d_Gr_addNode_12 rfl (lv_at hl 1 rfl) ?_
  refine lv_dup S.1 S.2.1 d_Gr_addNode_13 rfl ?_
  refine m_gi S M (j := 6) ok_Gr (by decide) rfl (by decide) rfl kw_3 rfl d_Gr_addNode_14 ?_
  refine lv_iconst (v := 1) S.1 S.2.1 d_Gr_addNode_17 (by decide) ?_
  refine lv_iadd S.1 S.2.1 d_Gr_addNode_18 ?_
  refine m_pi S M (j := 6) ok_Gr (by decide) rfl (by decide) rfl kw_3 rfl rfl rfl d_Gr_addNode_19 h (fun σ3 H locs h M => ?_)
  refine lv_iload_n S.1 S.2.1 d_Gr_addNode_22 rfl (lv_at hl 0 rfl) ?_
  subst hQ; exact m_iret S hr hlk M (Option.some.inj h) d_Gr_addNode_23
theorem d_Gr_addArc_0 : decode prog_3_method_5_code 0 = .ok (.aload_n 0, 1) := by decide +kernel
theorem d_Gr_addArc_1 : decode prog_3_method_5_code 1 = .ok (.getfield 34, 3) := by decide +kernel
theorem d_Gr_addArc_4 : decode prog_3_method_5_code 4 = .ok (.istore 4, 2) := by decide +kernel
theorem d_Gr_addArc_6 : decode prog_3_method_5_code 6 = .ok (.aload_n 0, 1) := by decide +kernel
theorem d_Gr_addArc_7 : decode prog_3_method_5_code 7 = .ok (.getfield 9, 3) := by decide +kernel
theorem d_Gr_addArc_10 : decode prog_3_method_5_code 10 = .ok (.iload 4, 2) := by decide +kernel
theorem d_Gr_addArc_12 : decode prog_3_method_5_code 12 = .ok (.iload_n 1, 1) := by decide +kernel
theorem d_Gr_addArc_13 : decode prog_3_method_5_code 13 = .ok (.iastore, 1) := by decide +kernel
theorem d_Gr_addArc_14 : decode prog_3_method_5_code 14 = .ok (.aload_n 0, 1) := by decide +kernel
theorem d_Gr_addArc_15 : decode prog_3_method_5_code 15 = .ok (.getfield 15, 3) := by decide +kernel
theorem d_Gr_addArc_18 : decode prog_3_method_5_code 18 = .ok (.iload 4, 2) := by decide +kernel
theorem d_Gr_addArc_20 : decode prog_3_method_5_code 20 = .ok (.iload_n 2, 1) := by decide +kernel
theorem d_Gr_addArc_21 : decode prog_3_method_5_code 21 = .ok (.iastore, 1) := by decide +kernel
theorem d_Gr_addArc_22 : decode prog_3_method_5_code 22 = .ok (.aload_n 0, 1) := by decide +kernel
theorem d_Gr_addArc_23 : decode prog_3_method_5_code 23 = .ok (.getfield 18, 3) := by decide +kernel
theorem d_Gr_addArc_26 : decode prog_3_method_5_code 26 = .ok (.iload 4, 2) := by decide +kernel
theorem d_Gr_addArc_28 : decode prog_3_method_5_code 28 = .ok (.iload_n 3, 1) := by decide +kernel
theorem d_Gr_addArc_29 : decode prog_3_method_5_code 29 = .ok (.iastore, 1) := by decide +kernel
theorem d_Gr_addArc_30 : decode prog_3_method_5_code 30 = .ok (.aload_n 0, 1) := by decide +kernel
theorem d_Gr_addArc_31 : decode prog_3_method_5_code 31 = .ok (.getfield 21, 3) := by decide +kernel
theorem d_Gr_addArc_34 : decode prog_3_method_5_code 34 = .ok (.iload 4, 2) := by decide +kernel
theorem d_Gr_addArc_36 : decode prog_3_method_5_code 36 = .ok (.iconst 1, 1) := by decide +kernel
theorem d_Gr_addArc_37 : decode prog_3_method_5_code 37 = .ok (.iastore, 1) := by decide +kernel
theorem d_Gr_addArc_38 : decode prog_3_method_5_code 38 = .ok (.aload_n 0, 1) := by decide +kernel
theorem d_Gr_addArc_39 : decode prog_3_method_5_code 39 = .ok (.getfield 24, 3) := by decide +kernel
theorem d_Gr_addArc_42 : decode prog_3_method_5_code 42 = .ok (.iload 4, 2) := by decide +kernel
theorem d_Gr_addArc_44 : decode prog_3_method_5_code 44 = .ok (.iconst 1, 1) := by decide +kernel
theorem d_Gr_addArc_45 : decode prog_3_method_5_code 45 = .ok (.iastore, 1) := by decide +kernel
theorem d_Gr_addArc_46 : decode prog_3_method_5_code 46 = .ok (.aload_n 0, 1) := by decide +kernel
theorem d_Gr_addArc_47 : decode prog_3_method_5_code 47 = .ok (.dup, 1) := by decide +kernel
theorem d_Gr_addArc_48 : decode prog_3_method_5_code 48 = .ok (.getfield 37, 3) := by decide +kernel
theorem d_Gr_addArc_51 : decode prog_3_method_5_code 51 = .ok (.lconst 1, 1) := by decide +kernel
theorem d_Gr_addArc_52 : decode prog_3_method_5_code 52 = .ok (.iload 4, 2) := by decide +kernel
theorem d_Gr_addArc_54 : decode prog_3_method_5_code 54 = .ok (.lshl, 1) := by decide +kernel
theorem d_Gr_addArc_55 : decode prog_3_method_5_code 55 = .ok (.lor, 1) := by decide +kernel
theorem d_Gr_addArc_56 : decode prog_3_method_5_code 56 = .ok (.putfield 37, 3) := by decide +kernel
theorem d_Gr_addArc_59 : decode prog_3_method_5_code 59 = .ok (.aload_n 0, 1) := by decide +kernel
theorem d_Gr_addArc_60 : decode prog_3_method_5_code 60 = .ok (.dup, 1) := by decide +kernel
theorem d_Gr_addArc_61 : decode prog_3_method_5_code 61 = .ok (.getfield 34, 3) := by decide +kernel
theorem d_Gr_addArc_64 : decode prog_3_method_5_code 64 = .ok (.iconst 1, 1) := by decide +kernel
theorem d_Gr_addArc_65 : decode prog_3_method_5_code 65 = .ok (.iadd, 1) := by decide +kernel
theorem d_Gr_addArc_66 : decode prog_3_method_5_code 66 = .ok (.putfield 34, 3) := by decide +kernel
theorem d_Gr_addArc_69 : decode prog_3_method_5_code 69 = .ok (.iload 4, 2) := by decide +kernel
theorem d_Gr_addArc_71 : decode prog_3_method_5_code 71 = .ok (.ireturn, 1) := by decide +kernel
def rm_Gr_addArc : Room := { frames := 0, cells := 0, slots := 0, locals := 0 }
def f_Gr_addArc (σ : mS) (x1 : Int32) (x2 : Int32) (x3 : Int32) : Option (Int32 × mS) :=
  nm (σ.1 1 7) fun v1 =>
  gd (inb v1 40) ((nm (sI σ 2 v1.toNatClampNeg x1) fun σ2 =>
  gd (inb v1 40) ((nm (sI σ2 3 v1.toNatClampNeg x2) fun σ3 =>
  gd (inb v1 40) ((nm (sI σ3 4 v1.toNatClampNeg x3) fun σ4 =>
  gd (inb v1 40) ((nm (sI σ4 5 v1.toNatClampNeg 1) fun σ5 =>
  gd (inb v1 40) ((nm (sI σ5 6 v1.toNatClampNeg 1) fun σ6 =>
  nm (sJ σ6 1 8 ((σ6.2.1 1 8) ||| (1 <<< (v1.toInt64 &&& 63)))) fun σ7 =>
  nm (sI σ7 1 7 ((σ7.1 1 7) + 1)) fun σ8 =>
  some (v1, σ8)))))))))))
set_option maxHeartbeats 4000000 in
set_option maxRecDepth 100000 in
theorem c_Gr_addArc (l : Launch) (D : va_G) (cA ad : Nat → Nat) (σ : mS) (x1 : Int32) (x2 : Int32) (x3 : Int32) (o : Int32 × mS) (h : f_Gr_addArc σ x1 x2 x3 = some o) : mCi l ⟨"LeastPaths$Graph", "addArc", "(III)I"⟩ (Cond.code ⟨"LeastPaths$Graph", "addArc", "(III)I"⟩ prog_3_method_5_code 5 (Option.some Jvm.ClassFile.FieldType.int) :: tlG) rm_Gr_addArc D clX (tyK cA) 99 (tbX cA) ad σ [.ref (ad 1), .int x1, .int x2, .int x3] o := by
  intro sz
  refine m_of (cc := prog_3_method_5_code) (maxL := 5) (Qc := mQi D clX (tyK cA) 99 (tbX cA) ad o) (by decide) (Nat.le_of_ble_eq_true rfl) (fun p e s m args below meth c ls S hr hlk hnm hl M => ?_) sz
  have hl : lv_has ls 5 [(0, .ref (ad 1)), (1, .int x1), (2, .int x2), (3, .int x3)] := hl
  generalize hQ : MQ _ _ _ _ _ _ _ = Q
  skip
  unfold f_Gr_addArc at h
  refine lv_aload_n S.1 S.2.1 d_Gr_addArc_0 rfl (lv_at hl 0 rfl) ?_
  refine m_gi S M (j := 7) ok_Gr (by decide) rfl (by decide) rfl kw_4 rfl d_Gr_addArc_1 ?_
  refine m_ni h (fun v1 h => ?_)
  refine lv_istore (lv' := [(4, .int v1), (0, .ref (ad 1)), (1, .int x1), (2, .int x2), (3, .int x3)]) S.1 S.2.1 d_Gr_addArc_4 hl (by decide) rfl (fun ls hl => ?_)
  refine lv_aload_n S.1 S.2.1 d_Gr_addArc_6 rfl (lv_at hl 1 rfl) ?_
  refine m_gs (t := 2) S M (j := 0) ok_Gr (by decide) rfl (by decide) rfl kw_7 rfl d_Gr_addArc_7 ?_
  refine lv_iload S.1 S.2.1 d_Gr_addArc_10 (lv_at hl 0 rfl) ?_
  refine lv_iload_n S.1 S.2.1 d_Gr_addArc_12 rfl (lv_at hl 2 rfl) ?_
  refine m_ias (t0 := 0) S M (by decide) rfl rfl h d_Gr_addArc_13 (fun σ2 H locs h M => ?_)
  refine lv_aload_n S.1 S.2.1 d_Gr_addArc_14 rfl (lv_at hl 1 rfl) ?_
  refine m_gs (t := 3) S M (j := 1) ok_Gr (by decide) rfl (by decide) rfl kw_8 rfl d_Gr_addArc_15 ?_
  refine lv_iload S.1 S.2.1 d_Gr_addArc_18 (lv_at hl 0 rfl) ?_
  refine lv_iload_n S.1 S.2.1 d_Gr_addArc_20 rfl (lv_at hl 3 rfl) ?_
  refine m_ias (t0 := 0) S M (by decide) rfl rfl h d_Gr_addArc_21 (fun σ3 H locs h M => ?_)
  refine lv_aload_n S.1 S.2.1 d_Gr_addArc_22 rfl (lv_at hl 1 rfl) ?_
  refine m_gs (t := 4) S M (j := 2) ok_Gr (by decide) rfl (by decide) rfl kw_9 rfl d_Gr_addArc_23 ?_
  refine lv_iload S.1 S.2.1 d_Gr_addArc_26 (lv_at hl 0 rfl) ?_
  refine lv_iload_n S.1 S.2.1 d_Gr_addArc_28 rfl (lv_at hl 4 rfl) ?_
  refine m_ias (t0 := 0) S M (by decide) rfl rfl h d_Gr_addArc_29 (fun σ4 H locs h M => ?_)
  refine lv_aload_n S.1 S.2.1 d_Gr_addArc_30 rfl (lv_at hl 1 rfl) ?_
  refine m_gs (t := 5) S M (j := 3) ok_Gr (by decide) rfl (by decide) rfl kw_10 rfl d_Gr_addArc_31 ?_
  refine lv_iload S.1 S.2.1 d_Gr_addArc_34 (lv_at hl 0 rfl) ?_
  refine lv_iconst (v := 1) S.1 S.2.1 d_Gr_addArc_36 (by decide) ?_
  refine m_ias (t0 := 0) S M (by decide) rfl rfl h d_Gr_addArc_37 (fun σ5 H locs h M => ?_)
  refine lv_aload_n S.1 S.2.1 d_Gr_addArc_38 rfl (lv_at hl 1 rfl) ?_
  refine m_gs (t := 6) S M (j := 4) ok_Gr (by decide) rfl (by decide) rfl kw_11 rfl d_Gr_addArc_39 ?_
  refine lv_iload S.1 S.2.1 d_Gr_addArc_42 (lv_at hl 0 rfl) ?_
  refine lv_iconst (v := 1) S.1 S.2.1 d_Gr_addArc_44 (by decide) ?_
  refine m_ias (t0 := 0) S M (by decide) rfl rfl h d_Gr_addArc_45 (fun σ6 H locs h M => ?_)
  refine lv_aload_n S.1 S.2.1 d_Gr_addArc_46 rfl (lv_at hl 1 rfl) ?_
  refine lv_dup S.1 S.2.1 d_Gr_addArc_47 rfl ?_
  refine m_gl S M (j := 8) ok_Gr (by decide) rfl (by decide) rfl kw_5 rfl d_Gr_addArc_48 ?_
  refine lv_lconst (v := 1) S.1 S.2.1 d_Gr_addArc_51 (by decide) ?_
  refine lv_iload S.1 S.2.1 d_Gr_addArc_52 (lv_at hl 0 rfl) ?_
  refine lv_lshl S.1 S.2.1 d_Gr_addArc_54 rfl ?_
  refine lv_lor S.1 S.2.1 d_Gr_addArc_55 ?_
  refine m_pl S M (j := 8) ok_Gr (by decide) rfl (by decide) rfl kw_5 rfl rfl rfl d_Gr_addArc_56 h (fun σ7 H locs h M => ?_)
  refine lv_aload_n S.1 S.2.1 d_Gr_addArc_59 rfl (lv_at hl 1 rfl) ?_
  refine lv_dup S.1 S.2.1 d_Gr_addArc_60 rfl ?_
  refine m_gi S M (j := 7) ok_Gr (by decide) rfl (by decide) rfl kw_4 rfl d_Gr_addArc_61 ?_
  refine lv_iconst (v := 1) S.1 S.2.1 d_Gr_addArc_64 (by decide) ?_
  refine lv_iadd S.1 S.2.1 d_Gr_addArc_65 ?_
  refine m_pi S M (j := 7) ok_Gr (by decide) rfl (by decide) rfl kw_4 rfl rfl rfl d_Gr_addArc_66 h (fun σ8 H locs h M => ?_)
  refine lv_iload S.1 S.2.1 d_Gr_addArc_69 (lv_at hl 0 rfl) ?_
  subst hQ; exact m_iret S hr hlk M (Option.some.inj h) d_Gr_addArc_71
theorem d_Gr_restsLeadTo_0 : decode prog_3_method_6_code 0 = .ok (.aload_n 0, 1) := by decide +kernel
theorem d_Gr_restsLeadTo_1 : decode prog_3_method_6_code 1 = .ok (.getfield 27, 3) := by decide +kernel
theorem d_Gr_restsLeadTo_4 : decode prog_3_method_6_code 4 = .ok (.iload_n 1, 1) := by decide +kernel
theorem d_Gr_restsLeadTo_5 : decode prog_3_method_6_code 5 = .ok (.iaload, 1) := by decide +kernel
theorem d_Gr_restsLeadTo_6 : decode prog_3_method_6_code 6 = .ok (.ifCond .eq 5, 3) := by decide +kernel
theorem d_Gr_restsLeadTo_9 : decode prog_3_method_6_code 9 = .ok (.iconst 0, 1) := by decide +kernel
theorem d_Gr_restsLeadTo_10 : decode prog_3_method_6_code 10 = .ok (.ireturn, 1) := by decide +kernel
theorem d_Gr_restsLeadTo_11 : decode prog_3_method_6_code 11 = .ok (.iconst 0, 1) := by decide +kernel
theorem d_Gr_restsLeadTo_12 : decode prog_3_method_6_code 12 = .ok (.istore_n 2, 1) := by decide +kernel
theorem d_Gr_restsLeadTo_13 : decode prog_3_method_6_code 13 = .ok (.iload_n 2, 1) := by decide +kernel
theorem d_Gr_restsLeadTo_14 : decode prog_3_method_6_code 14 = .ok (.aload_n 0, 1) := by decide +kernel
theorem d_Gr_restsLeadTo_15 : decode prog_3_method_6_code 15 = .ok (.getfield 34, 3) := by decide +kernel
theorem d_Gr_restsLeadTo_18 : decode prog_3_method_6_code 18 = .ok (.if_icmp .ge 51, 3) := by decide +kernel
theorem d_Gr_restsLeadTo_21 : decode prog_3_method_6_code 21 = .ok (.aload_n 0, 1) := by decide +kernel
theorem d_Gr_restsLeadTo_22 : decode prog_3_method_6_code 22 = .ok (.iload_n 2, 1) := by decide +kernel
theorem d_Gr_restsLeadTo_23 : decode prog_3_method_6_code 23 = .ok (.invokevirtual 41, 3) := by decide +kernel
theorem d_Gr_restsLeadTo_26 : decode prog_3_method_6_code 26 = .ok (.ifCond .eq 37, 3) := by decide +kernel
theorem d_Gr_restsLeadTo_29 : decode prog_3_method_6_code 29 = .ok (.aload_n 0, 1) := by decide +kernel
theorem d_Gr_restsLeadTo_30 : decode prog_3_method_6_code 30 = .ok (.getfield 27, 3) := by decide +kernel
theorem d_Gr_restsLeadTo_33 : decode prog_3_method_6_code 33 = .ok (.aload_n 0, 1) := by decide +kernel
theorem d_Gr_restsLeadTo_34 : decode prog_3_method_6_code 34 = .ok (.getfield 9, 3) := by decide +kernel
theorem d_Gr_restsLeadTo_37 : decode prog_3_method_6_code 37 = .ok (.iload_n 2, 1) := by decide +kernel
theorem d_Gr_restsLeadTo_38 : decode prog_3_method_6_code 38 = .ok (.iaload, 1) := by decide +kernel
theorem d_Gr_restsLeadTo_39 : decode prog_3_method_6_code 39 = .ok (.iaload, 1) := by decide +kernel
theorem d_Gr_restsLeadTo_40 : decode prog_3_method_6_code 40 = .ok (.aload_n 0, 1) := by decide +kernel
theorem d_Gr_restsLeadTo_41 : decode prog_3_method_6_code 41 = .ok (.getfield 18, 3) := by decide +kernel
theorem d_Gr_restsLeadTo_44 : decode prog_3_method_6_code 44 = .ok (.iload_n 2, 1) := by decide +kernel
theorem d_Gr_restsLeadTo_45 : decode prog_3_method_6_code 45 = .ok (.iaload, 1) := by decide +kernel
theorem d_Gr_restsLeadTo_46 : decode prog_3_method_6_code 46 = .ok (.aload_n 0, 1) := by decide +kernel
theorem d_Gr_restsLeadTo_47 : decode prog_3_method_6_code 47 = .ok (.getfield 27, 3) := by decide +kernel
theorem d_Gr_restsLeadTo_50 : decode prog_3_method_6_code 50 = .ok (.aload_n 0, 1) := by decide +kernel
theorem d_Gr_restsLeadTo_51 : decode prog_3_method_6_code 51 = .ok (.getfield 15, 3) := by decide +kernel
theorem d_Gr_restsLeadTo_54 : decode prog_3_method_6_code 54 = .ok (.iload_n 2, 1) := by decide +kernel
theorem d_Gr_restsLeadTo_55 : decode prog_3_method_6_code 55 = .ok (.iaload, 1) := by decide +kernel
theorem d_Gr_restsLeadTo_56 : decode prog_3_method_6_code 56 = .ok (.iaload, 1) := by decide +kernel
theorem d_Gr_restsLeadTo_57 : decode prog_3_method_6_code 57 = .ok (.iadd, 1) := by decide +kernel
theorem d_Gr_restsLeadTo_58 : decode prog_3_method_6_code 58 = .ok (.if_icmp .le 5, 3) := by decide +kernel
theorem d_Gr_restsLeadTo_61 : decode prog_3_method_6_code 61 = .ok (.iconst 0, 1) := by decide +kernel
theorem d_Gr_restsLeadTo_62 : decode prog_3_method_6_code 62 = .ok (.ireturn, 1) := by decide +kernel
theorem d_Gr_restsLeadTo_63 : decode prog_3_method_6_code 63 = .ok (.iinc 2 1, 3) := by decide +kernel
theorem d_Gr_restsLeadTo_66 : decode prog_3_method_6_code 66 = .ok (.goto (-53), 3) := by decide +kernel
theorem d_Gr_restsLeadTo_69 : decode prog_3_method_6_code 69 = .ok (.iconst 1, 1) := by decide +kernel
theorem d_Gr_restsLeadTo_70 : decode prog_3_method_6_code 70 = .ok (.ireturn, 1) := by decide +kernel
def rm_Gr_restsLeadTo : Room := { frames := 1, cells := 0, slots := 0, locals := 21 }
def f_Gr_restsLeadTo_L13 (σ : mS) : (Int32) → Option ((Int32) ⊕ ((Int32) ⊕ (Int32))) := fun t13 =>
  if (σ.1 1 7) ≤ t13 then (
  some (.inr (.inl (t13)))) else (
  (f_Gr_hasArc σ t13).bind fun v1 =>
  if v1 = 0 then (
  some (.inl (t13 + 1))) else (
  gd (inb t13 40) (
  gd (inb (σ.1 2 t13.toNatClampNeg) 10) (
  gd (inb t13 40) (
  gd (inb t13 40) (
  gd (inb (σ.1 3 t13.toNatClampNeg) 10) (
  if (σ.1 7 (σ.1 2 t13.toNatClampNeg).toNatClampNeg) ≤ ((σ.1 4 t13.toNatClampNeg) + (σ.1 7 (σ.1 3 t13.toNatClampNeg).toNatClampNeg)) then (
  some (.inl (t13 + 1))) else (
  some (.inr (.inr 0))))))))))
def f_Gr_restsLeadTo (σ : mS) (x1 : Int32) : Option (Int32) :=
  gd (inb x1 10) (
  if (σ.1 7 x1.toNatClampNeg) = 0 then (
  (lpN (f_Gr_restsLeadTo_L13 σ) 1000 (0)).bind fun x13 => Sum.elim (fun e13 =>
  some 1)
  (fun y13 => some y13) x13) else (
  some 0))
set_option maxHeartbeats 4000000 in
set_option maxRecDepth 100000 in
theorem c_Gr_restsLeadTo (l : Launch) (D : va_G) (cA ad : Nat → Nat) (σ : mS) (x1 : Int32) (o : Int32) (h : f_Gr_restsLeadTo σ x1 = some o) : mCi l ⟨"LeastPaths$Graph", "restsLeadTo", "(I)Z"⟩ (Cond.code ⟨"LeastPaths$Graph", "restsLeadTo", "(I)Z"⟩ prog_3_method_6_code 3 (Option.some Jvm.ClassFile.FieldType.boolean) :: tlG) rm_Gr_restsLeadTo D clX (tyK cA) 99 (tbX cA) ad σ [.ref (ad 1), .int x1] (o, σ) := by
  intro sz
  refine m_of (cc := prog_3_method_6_code) (maxL := 3) (Qc := mQi D clX (tyK cA) 99 (tbX cA) ad (o, σ)) (by decide) (Nat.le_of_ble_eq_true rfl) (fun p e s m args below meth c ls S hr hlk hnm hl M => ?_) sz
  have hl : lv_has ls 3 [(0, .ref (ad 1)), (1, .int x1)] := hl
  generalize hQ : MQ _ _ _ _ _ _ _ = Q
  skip
  unfold f_Gr_restsLeadTo at h
  refine lv_aload_n S.1 S.2.1 d_Gr_restsLeadTo_0 rfl (lv_at hl 0 rfl) ?_
  refine m_gs (t := 7) S M (j := 5) ok_Gr (by decide) rfl (by decide) rfl kw_6 rfl d_Gr_restsLeadTo_1 ?_
  refine lv_iload_n S.1 S.2.1 d_Gr_restsLeadTo_4 rfl (lv_at hl 1 rfl) ?_
  refine m_ial (t0 := 0) S M (by decide) rfl rfl h d_Gr_restsLeadTo_5 (fun h => ?_)
  refine m_ifeq (tgt := 11) S d_Gr_restsLeadTo_6 (by decide) h (fun h => ?_) (fun h => ?_)
  · refine lv_iconst (v := 0) S.1 S.2.1 d_Gr_restsLeadTo_11 (by decide) ?_
    refine lv_istore_n (lv' := [(2, .int 0), (0, .ref (ad 1)), (1, .int x1)]) S.1 S.2.1 d_Gr_restsLeadTo_12 rfl hl (by decide) rfl (fun ls hl => ?_)
    obtain ⟨x13, q13, h⟩ := Option.bind_eq_some_iff.mp h
    refine lpN_W2 (fun t13 => ∀ (ls : Array Slot) (H : Heap) (locs : List Loc), lv_has ls 3 [(2, .int t13), (0, .ref (ad 1)), (1, .int x1)] → mM D clX (tyK cA) (mA 99 ad s.heap.size) s 99 (tbX cA) ad σ H locs → W p l e rm_Gr_restsLeadTo s m args below meth c H locs 0 0 Q (F0 m 13 ls [])) (fun e13 => ∀ (ls : Array Slot) (H : Heap) (locs : List Loc), lv_has ls 3 [(2, .int e13), (0, .ref (ad 1)), (1, .int x1)] → mM D clX (tyK cA) (mA 99 ad s.heap.size) s 99 (tbX cA) ad σ H locs → W p l e rm_Gr_restsLeadTo s m args below meth c H locs 0 0 Q (F0 m 69 ls [])) (fun (y13 : Int32) => ∀ (pc : Nat) (ls : Array Slot) (H : Heap) (locs : List Loc), decode prog_3_method_6_code pc = .ok (.ireturn, 1) → isB y13 = true → mM D clX (tyK cA) (mA 99 ad s.heap.size) s 99 (tbX cA) ad σ H locs → W p l e rm_Gr_restsLeadTo s m args below meth c H locs 0 0 Q (F0 m pc ls [.int y13])) ?_ _ _ x13 q13 ?_ ?_ ls _ _ (lv_sub hl [0, 1, 2] rfl) M
    · intro t13 o13 h K1 K2 K3 ls H locs hl M
      unfold f_Gr_restsLeadTo_L13 at h
      refine lv_iload_n S.1 S.2.1 d_Gr_restsLeadTo_13 rfl (lv_at hl 0 rfl) ?_
      refine lv_aload_n S.1 S.2.1 d_Gr_restsLeadTo_14 rfl (lv_at hl 1 rfl) ?_
      refine m_gi S M (j := 7) ok_Gr (by decide) rfl (by decide) rfl kw_4 rfl d_Gr_restsLeadTo_15 ?_
      refine m_ige (tgt := 69) S d_Gr_restsLeadTo_18 (by decide) h (fun h => ?_) (fun h => ?_)
      · exact K2 _ (Option.some.inj h).symm ls _ _ (lv_sub hl [0, 1, 2] rfl) M
      · refine lv_aload_n S.1 S.2.1 d_Gr_restsLeadTo_21 rfl (lv_at hl 1 rfl) ?_
        refine lv_iload_n S.1 S.2.1 d_Gr_restsLeadTo_22 rfl (lv_at hl 0 rfl) ?_
        refine m_xip h (fun o ho => m_rV (As := [.int t13]) (rest := []) S M hl.1 (cwG (n := 1) S.2.2.2.2 kw_12 kw_13 kw_14 kw_15 kw_16 (by decide) ⟨Nat.le_of_ble_eq_true rfl, Nat.le_of_ble_eq_true rfl⟩) ok_Gr (by decide) rfl (c_Gr_hasArc l D cA ad σ t13 o ho H.size) rfl rfl (Nat.le_of_ble_eq_true rfl) d_Gr_restsLeadTo_23 ⟨Nat.zero_le _, Nat.zero_le _⟩) M (fun v1 H locs h M => ?_)
        refine m_ifeq (tgt := 63) S d_Gr_restsLeadTo_26 (by decide) h (fun h => ?_) (fun h => ?_)
        · refine lv_iinc (v := t13 + 1) (lv' := [(2, .int (t13 + 1)), (0, .ref (ad 1)), (1, .int x1)]) S.1 S.2.1 d_Gr_restsLeadTo_63 hl (k := 0) rfl rfl (by decide) rfl (fun ls hl => ?_)
          refine lv_goto (tgt := 13) S.1 S.2.1 d_Gr_restsLeadTo_66 (by decide) ?_
          exact K1 _ (Option.some.inj h).symm ls _ _ (lv_sub hl [0, 1, 2] rfl) M
        · refine lv_aload_n S.1 S.2.1 d_Gr_restsLeadTo_29 rfl (lv_at hl 1 rfl) ?_
          refine m_gs (t := 7) S M (j := 5) ok_Gr (by decide) rfl (by decide) rfl kw_6 rfl d_Gr_restsLeadTo_30 ?_
          refine lv_aload_n S.1 S.2.1 d_Gr_restsLeadTo_33 rfl (lv_at hl 1 rfl) ?_
          refine m_gs (t := 2) S M (j := 0) ok_Gr (by decide) rfl (by decide) rfl kw_7 rfl d_Gr_restsLeadTo_34 ?_
          refine lv_iload_n S.1 S.2.1 d_Gr_restsLeadTo_37 rfl (lv_at hl 0 rfl) ?_
          refine m_ial (t0 := 0) S M (by decide) rfl rfl h d_Gr_restsLeadTo_38 (fun h => ?_)
          refine m_ial (t0 := 0) S M (by decide) rfl rfl h d_Gr_restsLeadTo_39 (fun h => ?_)
          refine lv_aload_n S.1 S.2.1 d_Gr_restsLeadTo_40 rfl (lv_at hl 1 rfl) ?_
          refine m_gs (t := 4) S M (j := 2) ok_Gr (by decide) rfl (by decide) rfl kw_9 rfl d_Gr_restsLeadTo_41 ?_
          refine lv_iload_n S.1 S.2.1 d_Gr_restsLeadTo_44 rfl (lv_at hl 0 rfl) ?_
          refine m_ial (t0 := 0) S M (by decide) rfl rfl h d_Gr_restsLeadTo_45 (fun h => ?_)
          refine lv_aload_n S.1 S.2.1 d_Gr_restsLeadTo_46 rfl (lv_at hl 1 rfl) ?_
          refine m_gs (t := 7) S M (j := 5) ok_Gr (by decide) rfl (by decide) rfl kw_6 rfl d_Gr_restsLeadTo_47 ?_
          refine lv_aload_n S.1 S.2.1 d_Gr_restsLeadTo_50 rfl (lv_at hl 1 rfl) ?_
          refine m_gs (t := 3) S M (j := 1) ok_Gr (by decide) rfl (by decide) rfl kw_8 rfl d_Gr_restsLeadTo_51 ?_
          refine lv_iload_n S.1 S.2.1 d_Gr_restsLeadTo_54 rfl (lv_at hl 0 rfl) ?_
          refine m_ial (t0 := 0) S M (by decide) rfl rfl h d_Gr_restsLeadTo_55 (fun h => ?_)
          refine m_ial (t0 := 0) S M (by decide) rfl rfl h d_Gr_restsLeadTo_56 (fun h => ?_)
          refine lv_iadd S.1 S.2.1 d_Gr_restsLeadTo_57 ?_
          refine m_ile (tgt := 63) S d_Gr_restsLeadTo_58 (by decide) h (fun h => ?_) (fun h => ?_)
          · refine lv_iinc (v := t13 + 1) (lv' := [(2, .int (t13 + 1)), (0, .ref (ad 1)), (1, .int x1)]) S.1 S.2.1 d_Gr_restsLeadTo_63 hl (k := 0) rfl rfl (by decide) rfl (fun ls hl => ?_)
            refine lv_goto (tgt := 13) S.1 S.2.1 d_Gr_restsLeadTo_66 (by decide) ?_
            exact K1 _ (Option.some.inj h).symm ls _ _ (lv_sub hl [0, 1, 2] rfl) M
          · refine lv_iconst (v := 0) S.1 S.2.1 d_Gr_restsLeadTo_61 (by decide) ?_
            exact K3 _ (Option.some.inj h).symm _ ls _ _ d_Gr_restsLeadTo_62 rfl M
    · intro e13 q ls H locs hl M
      subst q
      dsimp only [Sum.elim_inl] at h
      refine lv_iconst (v := 1) S.1 S.2.1 d_Gr_restsLeadTo_69 (by decide) ?_
      subst hQ; exact m_zret S hr hlk M (by rw [Option.some.inj h]) rfl d_Gr_restsLeadTo_70
    · intro y13 q
      subst q
      dsimp only [Sum.elim_inr] at h
      intro pc ls H locs hd hB M
      subst hQ; exact m_zret S hr hlk M (by rw [Option.some.inj h]) hB hd
  · refine lv_iconst (v := 0) S.1 S.2.1 d_Gr_restsLeadTo_9 (by decide) ?_
    subst hQ; exact m_zret S hr hlk M (by rw [Option.some.inj h]) rfl d_Gr_restsLeadTo_10
end
section
theorem d_Wa_empty_0 : decode prog_8_method_2_code 0 = .ok (.aload_n 0, 1) := by decide +kernel
theorem d_Wa_empty_1 : decode prog_8_method_2_code 1 = .ok (.iconst 0, 1) := by decide +kernel
theorem d_Wa_empty_2 : decode prog_8_method_2_code 2 = .ok (.putfield 32, 3) := by decide +kernel
theorem d_Wa_empty_5 : decode prog_8_method_2_code 5 = .ok (.iconst 0, 1) := by decide +kernel
theorem d_Wa_empty_6 : decode prog_8_method_2_code 6 = .ok (.istore_n 1, 1) := by decide +kernel
theorem d_Wa_empty_7 : decode prog_8_method_2_code 7 = .ok (.iload_n 1, 1) := by decide +kernel
theorem d_Wa_empty_8 : decode prog_8_method_2_code 8 = .ok (.bipush 10, 2) := by decide +kernel
theorem d_Wa_empty_10 : decode prog_8_method_2_code 10 = .ok (.if_icmp .ge 16, 3) := by decide +kernel
theorem d_Wa_empty_13 : decode prog_8_method_2_code 13 = .ok (.aload_n 0, 1) := by decide +kernel
theorem d_Wa_empty_14 : decode prog_8_method_2_code 14 = .ok (.getfield 15, 3) := by decide +kernel
theorem d_Wa_empty_17 : decode prog_8_method_2_code 17 = .ok (.iload_n 1, 1) := by decide +kernel
theorem d_Wa_empty_18 : decode prog_8_method_2_code 18 = .ok (.iconst (-1), 1) := by decide +kernel
theorem d_Wa_empty_19 : decode prog_8_method_2_code 19 = .ok (.iastore, 1) := by decide +kernel
theorem d_Wa_empty_20 : decode prog_8_method_2_code 20 = .ok (.iinc 1 1, 3) := by decide +kernel
theorem d_Wa_empty_23 : decode prog_8_method_2_code 23 = .ok (.goto (-16), 3) := by decide +kernel
theorem d_Wa_empty_26 : decode prog_8_method_2_code 26 = .ok (.return_, 1) := by decide +kernel
def rm_Wa_empty : Room := { frames := 0, cells := 0, slots := 0, locals := 0 }
def f_Wa_empty_L7 (b : Nat) : (Int32 × mS) → Option ((Int32 × mS) ⊕ (Int32 × mS)) := fun t7 =>
  if 10 ≤ t7.1 then (
  some (.inr (t7.1, t7.2))) else (
  gd (inb t7.1 10) ((nm (sI t7.2 ((b + 2)) t7.1.toNatClampNeg ((-1))) fun σ2 =>
  some (.inl (t7.1 + 1, σ2)))))
def f_Wa_empty (b : Nat) (σ : mS) : Option (mS) :=
  nm (sI σ b 4 0) fun σ1 =>
  (lpN (f_Wa_empty_L7 b) 1000 (0, σ1)).bind fun x7 =>
  some x7.2
set_option maxHeartbeats 4000000 in
set_option maxRecDepth 100000 in
theorem c_Wa_empty (l : Launch) (D : va_G) (cA ad : Nat → Nat) {b : Nat} (hb : wB b) (σ : mS) (o : mS) (h : f_Wa_empty b σ = some o) : mCv l ⟨"LeastPaths$Waiting", "empty", "()V"⟩ (Cond.code ⟨"LeastPaths$Waiting", "empty", "()V"⟩ prog_8_method_2_code 2 (Option.none : Option Jvm.ClassFile.FieldType) :: tlG) rm_Wa_empty D clX (tyK cA) 99 (tbX cA) ad σ [.ref (ad b)] o := by
  intro sz
  refine m_of (cc := prog_8_method_2_code) (maxL := 2) (Qc := mQv D clX (tyK cA) 99 (tbX cA) ad o) (by decide) (Nat.le_of_ble_eq_true rfl) (fun p e s m args below meth c ls S hr hlk hnm hl M => ?_) sz
  have hl : lv_has ls 2 [(0, .ref (ad b))] := hl
  generalize hQ : MQ _ _ _ _ _ _ _ = Q
  skip
  unfold f_Wa_empty at h
  refine lv_aload_n S.1 S.2.1 d_Wa_empty_0 rfl (lv_at hl 0 rfl) ?_
  refine lv_iconst (v := 0) S.1 S.2.1 d_Wa_empty_1 (by decide) ?_
  refine m_pi S M (j := 4) ok_Wa (lt_W0 hb) (tb_W0 hb) (by decide) rfl kw_17 rfl rfl rfl d_Wa_empty_2 h (fun σ1 H locs h M => ?_)
  refine lv_iconst (v := 0) S.1 S.2.1 d_Wa_empty_5 (by decide) ?_
  refine lv_istore_n (lv' := [(1, .int 0), (0, .ref (ad b))]) S.1 S.2.1 d_Wa_empty_6 rfl hl (by decide) rfl (fun ls hl => ?_)
  obtain ⟨x7, q7, h⟩ := Option.bind_eq_some_iff.mp h
  refine lpN_W1 (fun t7 => ∀ (ls : Array Slot) (H : Heap) (locs : List Loc), lv_has ls 2 [(1, .int t7.1), (0, .ref (ad b))] → mM D clX (tyK cA) (mA 99 ad s.heap.size) s 99 (tbX cA) ad t7.2 H locs → W p l e rm_Wa_empty s m args below meth c H locs 0 0 Q (F0 m 7 ls [])) (fun x7 => ∀ (ls : Array Slot) (H : Heap) (locs : List Loc), lv_has ls 2 [(1, .int x7.1), (0, .ref (ad b))] → mM D clX (tyK cA) (mA 99 ad s.heap.size) s 99 (tbX cA) ad x7.2 H locs → W p l e rm_Wa_empty s m args below meth c H locs 0 0 Q (F0 m 26 ls [])) ?_ _ _ x7 q7 ?_ ls _ _ (lv_sub hl [0, 1] rfl) M
  · intro t7 o7 h K1 K2 ls H locs hl M
    unfold f_Wa_empty_L7 at h
    refine lv_iload_n S.1 S.2.1 d_Wa_empty_7 rfl (lv_at hl 0 rfl) ?_
    refine lv_bipush (v := 10) S.1 S.2.1 d_Wa_empty_8 (by decide) ?_
    refine m_ige (tgt := 26) S d_Wa_empty_10 (by decide) h (fun h => ?_) (fun h => ?_)
    · exact K2 _ (Option.some.inj h).symm ls _ _ (lv_sub hl [0, 1] rfl) M
    · refine lv_aload_n S.1 S.2.1 d_Wa_empty_13 rfl (lv_at hl 1 rfl) ?_
      refine m_gs (t := (b + 2)) S M (j := 2) ok_Wa (lt_W0 hb) (tb_W0 hb) (by decide) rfl kw_18 rfl d_Wa_empty_14 ?_
      refine lv_iload_n S.1 S.2.1 d_Wa_empty_17 rfl (lv_at hl 0 rfl) ?_
      refine lv_iconst (v := (-1)) S.1 S.2.1 d_Wa_empty_18 (by decide) ?_
      refine m_ias (t0 := 0) S M (lt_W2 hb) (tb_W2 hb) rfl h d_Wa_empty_19 (fun σ2 H locs h M => ?_)
      refine lv_iinc (v := t7.1 + 1) (lv' := [(1, .int (t7.1 + 1)), (0, .ref (ad b))]) S.1 S.2.1 d_Wa_empty_20 hl (k := 0) rfl rfl (by decide) rfl (fun ls hl => ?_)
      refine lv_goto (tgt := 7) S.1 S.2.1 d_Wa_empty_23 (by decide) ?_
      exact K1 _ (Option.some.inj h).symm ls _ _ (lv_sub hl [0, 1] rfl) M
  · intro ls H locs hl M
    subst hQ; exact m_vret S hr hlk M (Option.some.inj h) d_Wa_empty_26
theorem d_Wa_isEmpty_0 : decode prog_8_method_3_code 0 = .ok (.aload_n 0, 1) := by decide +kernel
theorem d_Wa_isEmpty_1 : decode prog_8_method_3_code 1 = .ok (.getfield 32, 3) := by decide +kernel
theorem d_Wa_isEmpty_4 : decode prog_8_method_3_code 4 = .ok (.ifCond .ne 7, 3) := by decide +kernel
theorem d_Wa_isEmpty_7 : decode prog_8_method_3_code 7 = .ok (.iconst 1, 1) := by decide +kernel
theorem d_Wa_isEmpty_8 : decode prog_8_method_3_code 8 = .ok (.goto 4, 3) := by decide +kernel
theorem d_Wa_isEmpty_11 : decode prog_8_method_3_code 11 = .ok (.iconst 0, 1) := by decide +kernel
theorem d_Wa_isEmpty_12 : decode prog_8_method_3_code 12 = .ok (.ireturn, 1) := by decide +kernel
def rm_Wa_isEmpty : Room := { frames := 0, cells := 0, slots := 0, locals := 0 }
def f_Wa_isEmpty (b : Nat) (σ : mS) : Option (Int32) :=
  if (σ.1 b 4) = 0 then (
  some 1) else (
  some 0)
set_option maxHeartbeats 4000000 in
set_option maxRecDepth 100000 in
theorem c_Wa_isEmpty (l : Launch) (D : va_G) (cA ad : Nat → Nat) {b : Nat} (hb : wB b) (σ : mS) (o : Int32) (h : f_Wa_isEmpty b σ = some o) : mCi l ⟨"LeastPaths$Waiting", "isEmpty", "()Z"⟩ (Cond.code ⟨"LeastPaths$Waiting", "isEmpty", "()Z"⟩ prog_8_method_3_code 1 (Option.some Jvm.ClassFile.FieldType.boolean) :: tlG) rm_Wa_isEmpty D clX (tyK cA) 99 (tbX cA) ad σ [.ref (ad b)] (o, σ) := by
  intro sz
  refine m_of (cc := prog_8_method_3_code) (maxL := 1) (Qc := mQi D clX (tyK cA) 99 (tbX cA) ad (o, σ)) (by decide) (Nat.le_of_ble_eq_true rfl) (fun p e s m args below meth c ls S hr hlk hnm hl M => ?_) sz
  have hl : lv_has ls 1 [(0, .ref (ad b))] := hl
  generalize hQ : MQ _ _ _ _ _ _ _ = Q
  skip
  unfold f_Wa_isEmpty at h
  refine lv_aload_n S.1 S.2.1 d_Wa_isEmpty_0 rfl (lv_at hl 0 rfl) ?_
  refine m_gi S M (j := 4) ok_Wa (lt_W0 hb) (tb_W0 hb) (by decide) rfl kw_17 rfl d_Wa_isEmpty_1 ?_
  refine m_ifne (tgt := 11) S d_Wa_isEmpty_4 (by decide) h (fun h => ?_) (fun h => ?_)
  · refine lv_iconst (v := 0) S.1 S.2.1 d_Wa_isEmpty_11 (by decide) ?_
    subst hQ; exact m_zret S hr hlk M (by rw [Option.some.inj h]) rfl d_Wa_isEmpty_12
  · refine lv_iconst (v := 1) S.1 S.2.1 d_Wa_isEmpty_7 (by decide) ?_
    refine lv_goto (tgt := 12) S.1 S.2.1 d_Wa_isEmpty_8 (by decide) ?_
    subst hQ; exact m_zret S hr hlk M (by rw [Option.some.inj h]) rfl d_Wa_isEmpty_12
theorem d_Wa_first_0 : decode prog_8_method_4_code 0 = .ok (.aload_n 0, 1) := by decide +kernel
theorem d_Wa_first_1 : decode prog_8_method_4_code 1 = .ok (.getfield 32, 3) := by decide +kernel
theorem d_Wa_first_4 : decode prog_8_method_4_code 4 = .ok (.ifCond .ne 7, 3) := by decide +kernel
theorem d_Wa_first_7 : decode prog_8_method_4_code 7 = .ok (.iconst (-1), 1) := by decide +kernel
theorem d_Wa_first_8 : decode prog_8_method_4_code 8 = .ok (.goto 9, 3) := by decide +kernel
theorem d_Wa_first_11 : decode prog_8_method_4_code 11 = .ok (.aload_n 0, 1) := by decide +kernel
theorem d_Wa_first_12 : decode prog_8_method_4_code 12 = .ok (.getfield 9, 3) := by decide +kernel
theorem d_Wa_first_15 : decode prog_8_method_4_code 15 = .ok (.iconst 0, 1) := by decide +kernel
theorem d_Wa_first_16 : decode prog_8_method_4_code 16 = .ok (.iaload, 1) := by decide +kernel
theorem d_Wa_first_17 : decode prog_8_method_4_code 17 = .ok (.ireturn, 1) := by decide +kernel
def rm_Wa_first : Room := { frames := 0, cells := 0, slots := 0, locals := 0 }
def f_Wa_first (b : Nat) (σ : mS) : Option (Int32) :=
  if (σ.1 b 4) = 0 then (
  some ((-1))) else (
  gd (inb 0 10) (
  some (σ.1 ((b + 1)) (0 : Int32).toNatClampNeg)))
set_option maxHeartbeats 4000000 in
set_option maxRecDepth 100000 in
theorem c_Wa_first (l : Launch) (D : va_G) (cA ad : Nat → Nat) {b : Nat} (hb : wB b) (σ : mS) (o : Int32) (h : f_Wa_first b σ = some o) : mCi l ⟨"LeastPaths$Waiting", "first", "()I"⟩ (Cond.code ⟨"LeastPaths$Waiting", "first", "()I"⟩ prog_8_method_4_code 1 (Option.some Jvm.ClassFile.FieldType.int) :: tlG) rm_Wa_first D clX (tyK cA) 99 (tbX cA) ad σ [.ref (ad b)] (o, σ) := by
  intro sz
  refine m_of (cc := prog_8_method_4_code) (maxL := 1) (Qc := mQi D clX (tyK cA) 99 (tbX cA) ad (o, σ)) (by decide) (Nat.le_of_ble_eq_true rfl) (fun p e s m args below meth c ls S hr hlk hnm hl M => ?_) sz
  have hl : lv_has ls 1 [(0, .ref (ad b))] := hl
  generalize hQ : MQ _ _ _ _ _ _ _ = Q
  skip
  unfold f_Wa_first at h
  refine lv_aload_n S.1 S.2.1 d_Wa_first_0 rfl (lv_at hl 0 rfl) ?_
  refine m_gi S M (j := 4) ok_Wa (lt_W0 hb) (tb_W0 hb) (by decide) rfl kw_17 rfl d_Wa_first_1 ?_
  refine m_ifne (tgt := 11) S d_Wa_first_4 (by decide) h (fun h => ?_) (fun h => ?_)
  · refine lv_aload_n S.1 S.2.1 d_Wa_first_11 rfl (lv_at hl 0 rfl) ?_
    refine m_gs (t := (b + 1)) S M (j := 1) ok_Wa (lt_W0 hb) (tb_W0 hb) (by decide) rfl kw_19 rfl d_Wa_first_12 ?_
    refine lv_iconst (v := 0) S.1 S.2.1 d_Wa_first_15 (by decide) ?_
    refine m_ial (t0 := 0) S M (lt_W1 hb) (tb_W1 hb) rfl h d_Wa_first_16 (fun h => ?_)
    subst hQ; exact m_iret S hr hlk M (by rw [Option.some.inj h]) d_Wa_first_17
  · refine lv_iconst (v := (-1)) S.1 S.2.1 d_Wa_first_7 (by decide) ?_
    refine lv_goto (tgt := 17) S.1 S.2.1 d_Wa_first_8 (by decide) ?_
    subst hQ; exact m_iret S hr hlk M (by rw [Option.some.inj h]) d_Wa_first_17
theorem d_Wa_seat_0 : decode prog_8_method_7_code 0 = .ok (.aload_n 0, 1) := by decide +kernel
theorem d_Wa_seat_1 : decode prog_8_method_7_code 1 = .ok (.getfield 9, 3) := by decide +kernel
theorem d_Wa_seat_4 : decode prog_8_method_7_code 4 = .ok (.iload_n 2, 1) := by decide +kernel
theorem d_Wa_seat_5 : decode prog_8_method_7_code 5 = .ok (.iload_n 1, 1) := by decide +kernel
theorem d_Wa_seat_6 : decode prog_8_method_7_code 6 = .ok (.iastore, 1) := by decide +kernel
theorem d_Wa_seat_7 : decode prog_8_method_7_code 7 = .ok (.aload_n 0, 1) := by decide +kernel
theorem d_Wa_seat_8 : decode prog_8_method_7_code 8 = .ok (.getfield 15, 3) := by decide +kernel
theorem d_Wa_seat_11 : decode prog_8_method_7_code 11 = .ok (.iload_n 1, 1) := by decide +kernel
theorem d_Wa_seat_12 : decode prog_8_method_7_code 12 = .ok (.iload_n 2, 1) := by decide +kernel
theorem d_Wa_seat_13 : decode prog_8_method_7_code 13 = .ok (.iastore, 1) := by decide +kernel
theorem d_Wa_seat_14 : decode prog_8_method_7_code 14 = .ok (.return_, 1) := by decide +kernel
def rm_Wa_seat : Room := { frames := 0, cells := 0, slots := 0, locals := 0 }
def f_Wa_seat (b : Nat) (σ : mS) (x1 : Int32) (x2 : Int32) : Option (mS) :=
  gd (inb x2 10) ((nm (sI σ ((b + 1)) x2.toNatClampNeg x1) fun σ1 =>
  gd (inb x1 10) ((nm (sI σ1 ((b + 2)) x1.toNatClampNeg x2) fun σ2 =>
  some σ2))))
set_option maxHeartbeats 4000000 in
set_option maxRecDepth 100000 in
theorem c_Wa_seat (l : Launch) (D : va_G) (cA ad : Nat → Nat) {b : Nat} (hb : wB b) (σ : mS) (x1 : Int32) (x2 : Int32) (o : mS) (h : f_Wa_seat b σ x1 x2 = some o) : mCv l ⟨"LeastPaths$Waiting", "seat", "(II)V"⟩ (Cond.code ⟨"LeastPaths$Waiting", "seat", "(II)V"⟩ prog_8_method_7_code 3 (Option.none : Option Jvm.ClassFile.FieldType) :: tlG) rm_Wa_seat D clX (tyK cA) 99 (tbX cA) ad σ [.ref (ad b), .int x1, .int x2] o := by
  intro sz
  refine m_of (cc := prog_8_method_7_code) (maxL := 3) (Qc := mQv D clX (tyK cA) 99 (tbX cA) ad o) (by decide) (Nat.le_of_ble_eq_true rfl) (fun p e s m args below meth c ls S hr hlk hnm hl M => ?_) sz
  have hl : lv_has ls 3 [(0, .ref (ad b)), (1, .int x1), (2, .int x2)] := hl
  generalize hQ : MQ _ _ _ _ _ _ _ = Q
  skip
  unfold f_Wa_seat at h
  refine lv_aload_n S.1 S.2.1 d_Wa_seat_0 rfl (lv_at hl 0 rfl) ?_
  refine m_gs (t := (b + 1)) S M (j := 1) ok_Wa (lt_W0 hb) (tb_W0 hb) (by decide) rfl kw_19 rfl d_Wa_seat_1 ?_
  refine lv_iload_n S.1 S.2.1 d_Wa_seat_4 rfl (lv_at hl 2 rfl) ?_
  refine lv_iload_n S.1 S.2.1 d_Wa_seat_5 rfl (lv_at hl 1 rfl) ?_
  refine m_ias (t0 := 0) S M (lt_W1 hb) (tb_W1 hb) rfl h d_Wa_seat_6 (fun σ1 H locs h M => ?_)
  refine lv_aload_n S.1 S.2.1 d_Wa_seat_7 rfl (lv_at hl 0 rfl) ?_
  refine m_gs (t := (b + 2)) S M (j := 2) ok_Wa (lt_W0 hb) (tb_W0 hb) (by decide) rfl kw_18 rfl d_Wa_seat_8 ?_
  refine lv_iload_n S.1 S.2.1 d_Wa_seat_11 rfl (lv_at hl 1 rfl) ?_
  refine lv_iload_n S.1 S.2.1 d_Wa_seat_12 rfl (lv_at hl 2 rfl) ?_
  refine m_ias (t0 := 0) S M (lt_W2 hb) (tb_W2 hb) rfl h d_Wa_seat_13 (fun σ2 H locs h M => ?_)
  subst hQ; exact m_vret S hr hlk M (Option.some.inj h) d_Wa_seat_14
theorem d_Wa_put_0 : decode prog_8_method_5_code 0 = .ok (.aload_n 0, 1) := by decide +kernel
theorem d_Wa_put_1 : decode prog_8_method_5_code 1 = .ok (.getfield 15, 3) := by decide +kernel
theorem d_Wa_put_4 : decode prog_8_method_5_code 4 = .ok (.iload_n 1, 1) := by decide +kernel
theorem d_Wa_put_5 : decode prog_8_method_5_code 5 = .ok (.iaload, 1) := by decide +kernel
theorem d_Wa_put_6 : decode prog_8_method_5_code 6 = .ok (.iconst (-1), 1) := by decide +kernel
theorem d_Wa_put_7 : decode prog_8_method_5_code 7 = .ok (.if_icmp .ne 23, 3) := by decide +kernel
theorem d_Wa_put_10 : decode prog_8_method_5_code 10 = .ok (.aload_n 0, 1) := by decide +kernel
theorem d_Wa_put_11 : decode prog_8_method_5_code 11 = .ok (.getfield 15, 3) := by decide +kernel
theorem d_Wa_put_14 : decode prog_8_method_5_code 14 = .ok (.iload_n 1, 1) := by decide +kernel
theorem d_Wa_put_15 : decode prog_8_method_5_code 15 = .ok (.aload_n 0, 1) := by decide +kernel
theorem d_Wa_put_16 : decode prog_8_method_5_code 16 = .ok (.getfield 32, 3) := by decide +kernel
theorem d_Wa_put_19 : decode prog_8_method_5_code 19 = .ok (.iastore, 1) := by decide +kernel
theorem d_Wa_put_20 : decode prog_8_method_5_code 20 = .ok (.aload_n 0, 1) := by decide +kernel
theorem d_Wa_put_21 : decode prog_8_method_5_code 21 = .ok (.dup, 1) := by decide +kernel
theorem d_Wa_put_22 : decode prog_8_method_5_code 22 = .ok (.getfield 32, 3) := by decide +kernel
theorem d_Wa_put_25 : decode prog_8_method_5_code 25 = .ok (.iconst 1, 1) := by decide +kernel
theorem d_Wa_put_26 : decode prog_8_method_5_code 26 = .ok (.iadd, 1) := by decide +kernel
theorem d_Wa_put_27 : decode prog_8_method_5_code 27 = .ok (.putfield 32, 3) := by decide +kernel
theorem d_Wa_put_30 : decode prog_8_method_5_code 30 = .ok (.aload_n 0, 1) := by decide +kernel
theorem d_Wa_put_31 : decode prog_8_method_5_code 31 = .ok (.getfield 18, 3) := by decide +kernel
theorem d_Wa_put_34 : decode prog_8_method_5_code 34 = .ok (.iload_n 1, 1) := by decide +kernel
theorem d_Wa_put_35 : decode prog_8_method_5_code 35 = .ok (.iload_n 2, 1) := by decide +kernel
theorem d_Wa_put_36 : decode prog_8_method_5_code 36 = .ok (.i2l, 1) := by decide +kernel
theorem d_Wa_put_37 : decode prog_8_method_5_code 37 = .ok (.ldc2_w 35, 3) := by decide +kernel
theorem d_Wa_put_40 : decode prog_8_method_5_code 40 = .ok (.lmul, 1) := by decide +kernel
theorem d_Wa_put_41 : decode prog_8_method_5_code 41 = .ok (.iload_n 1, 1) := by decide +kernel
theorem d_Wa_put_42 : decode prog_8_method_5_code 42 = .ok (.i2l, 1) := by decide +kernel
theorem d_Wa_put_43 : decode prog_8_method_5_code 43 = .ok (.ladd, 1) := by decide +kernel
theorem d_Wa_put_44 : decode prog_8_method_5_code 44 = .ok (.lastore, 1) := by decide +kernel
theorem d_Wa_put_45 : decode prog_8_method_5_code 45 = .ok (.aload_n 0, 1) := by decide +kernel
theorem d_Wa_put_46 : decode prog_8_method_5_code 46 = .ok (.getfield 15, 3) := by decide +kernel
theorem d_Wa_put_49 : decode prog_8_method_5_code 49 = .ok (.iload_n 1, 1) := by decide +kernel
theorem d_Wa_put_50 : decode prog_8_method_5_code 50 = .ok (.iaload, 1) := by decide +kernel
theorem d_Wa_put_51 : decode prog_8_method_5_code 51 = .ok (.istore_n 3, 1) := by decide +kernel
theorem d_Wa_put_52 : decode prog_8_method_5_code 52 = .ok (.iconst 0, 1) := by decide +kernel
theorem d_Wa_put_53 : decode prog_8_method_5_code 53 = .ok (.istore 4, 2) := by decide +kernel
theorem d_Wa_put_55 : decode prog_8_method_5_code 55 = .ok (.iload 4, 2) := by decide +kernel
theorem d_Wa_put_57 : decode prog_8_method_5_code 57 = .ok (.aload_n 0, 1) := by decide +kernel
theorem d_Wa_put_58 : decode prog_8_method_5_code 58 = .ok (.getfield 32, 3) := by decide +kernel
theorem d_Wa_put_61 : decode prog_8_method_5_code 61 = .ok (.if_icmp .ge 63, 3) := by decide +kernel
theorem d_Wa_put_64 : decode prog_8_method_5_code 64 = .ok (.iload_n 3, 1) := by decide +kernel
theorem d_Wa_put_65 : decode prog_8_method_5_code 65 = .ok (.ifCond .le 59, 3) := by decide +kernel
theorem d_Wa_put_68 : decode prog_8_method_5_code 68 = .ok (.iload_n 3, 1) := by decide +kernel
theorem d_Wa_put_69 : decode prog_8_method_5_code 69 = .ok (.iconst 1, 1) := by decide +kernel
theorem d_Wa_put_70 : decode prog_8_method_5_code 70 = .ok (.isub, 1) := by decide +kernel
theorem d_Wa_put_71 : decode prog_8_method_5_code 71 = .ok (.aload_n 0, 1) := by decide +kernel
theorem d_Wa_put_72 : decode prog_8_method_5_code 72 = .ok (.getfield 28, 3) := by decide +kernel
theorem d_Wa_put_75 : decode prog_8_method_5_code 75 = .ok (.idiv, 1) := by decide +kernel
theorem d_Wa_put_76 : decode prog_8_method_5_code 76 = .ok (.istore 5, 2) := by decide +kernel
theorem d_Wa_put_78 : decode prog_8_method_5_code 78 = .ok (.aload_n 0, 1) := by decide +kernel
theorem d_Wa_put_79 : decode prog_8_method_5_code 79 = .ok (.getfield 18, 3) := by decide +kernel
theorem d_Wa_put_82 : decode prog_8_method_5_code 82 = .ok (.aload_n 0, 1) := by decide +kernel
theorem d_Wa_put_83 : decode prog_8_method_5_code 83 = .ok (.getfield 9, 3) := by decide +kernel
theorem d_Wa_put_86 : decode prog_8_method_5_code 86 = .ok (.iload 5, 2) := by decide +kernel
theorem d_Wa_put_88 : decode prog_8_method_5_code 88 = .ok (.iaload, 1) := by decide +kernel
theorem d_Wa_put_89 : decode prog_8_method_5_code 89 = .ok (.laload, 1) := by decide +kernel
theorem d_Wa_put_90 : decode prog_8_method_5_code 90 = .ok (.aload_n 0, 1) := by decide +kernel
theorem d_Wa_put_91 : decode prog_8_method_5_code 91 = .ok (.getfield 18, 3) := by decide +kernel
theorem d_Wa_put_94 : decode prog_8_method_5_code 94 = .ok (.iload_n 1, 1) := by decide +kernel
theorem d_Wa_put_95 : decode prog_8_method_5_code 95 = .ok (.laload, 1) := by decide +kernel
theorem d_Wa_put_96 : decode prog_8_method_5_code 96 = .ok (.lcmp, 1) := by decide +kernel
theorem d_Wa_put_97 : decode prog_8_method_5_code 97 = .ok (.ifCond .ge 6, 3) := by decide +kernel
theorem d_Wa_put_100 : decode prog_8_method_5_code 100 = .ok (.goto 24, 3) := by decide +kernel
theorem d_Wa_put_103 : decode prog_8_method_5_code 103 = .ok (.aload_n 0, 1) := by decide +kernel
theorem d_Wa_put_104 : decode prog_8_method_5_code 104 = .ok (.aload_n 0, 1) := by decide +kernel
theorem d_Wa_put_105 : decode prog_8_method_5_code 105 = .ok (.getfield 9, 3) := by decide +kernel
theorem d_Wa_put_108 : decode prog_8_method_5_code 108 = .ok (.iload 5, 2) := by decide +kernel
theorem d_Wa_put_110 : decode prog_8_method_5_code 110 = .ok (.iaload, 1) := by decide +kernel
theorem d_Wa_put_111 : decode prog_8_method_5_code 111 = .ok (.iload_n 3, 1) := by decide +kernel
theorem d_Wa_put_112 : decode prog_8_method_5_code 112 = .ok (.invokevirtual 37, 3) := by decide +kernel
theorem d_Wa_put_115 : decode prog_8_method_5_code 115 = .ok (.iload 5, 2) := by decide +kernel
theorem d_Wa_put_117 : decode prog_8_method_5_code 117 = .ok (.istore_n 3, 1) := by decide +kernel
theorem d_Wa_put_118 : decode prog_8_method_5_code 118 = .ok (.iinc 4 1, 3) := by decide +kernel
theorem d_Wa_put_121 : decode prog_8_method_5_code 121 = .ok (.goto (-66), 3) := by decide +kernel
theorem d_Wa_put_124 : decode prog_8_method_5_code 124 = .ok (.aload_n 0, 1) := by decide +kernel
theorem d_Wa_put_125 : decode prog_8_method_5_code 125 = .ok (.iload_n 1, 1) := by decide +kernel
theorem d_Wa_put_126 : decode prog_8_method_5_code 126 = .ok (.iload_n 3, 1) := by decide +kernel
theorem d_Wa_put_127 : decode prog_8_method_5_code 127 = .ok (.invokevirtual 37, 3) := by decide +kernel
theorem d_Wa_put_130 : decode prog_8_method_5_code 130 = .ok (.return_, 1) := by decide +kernel
def rm_Wa_put : Room := { frames := 1, cells := 0, slots := 0, locals := 22 }
def f_Wa_put_L55 (b : Nat) (x1 : Int32) : (Int32 × Int32 × mS) → Option ((Int32 × Int32 × mS) ⊕ (Int32 × Int32 × mS)) := fun t55 =>
  if (t55.2.2.1 b 4) ≤ t55.2.1 then (
  some (.inr (t55.1, t55.2.1, t55.2.2))) else (
  if t55.1 ≤ 0 then (
  some (.inr (t55.1, t55.2.1, t55.2.2))) else (
  gd (isN (t55.2.2.1 b 0)) (
  nm ((t55.1 - 1) / (t55.2.2.1 b 0)) fun v4 =>
  gd (inb v4 10) (
  gd (inb (t55.2.2.1 ((b + 1)) v4.toNatClampNeg) 10) (
  gd (inb x1 10) (
  if 0 ≤ (lg_cmp (t55.2.2.2.1 ((b + 3)) (t55.2.2.1 ((b + 1)) v4.toNatClampNeg).toNatClampNeg) (t55.2.2.2.1 ((b + 3)) x1.toNatClampNeg)) then (
  gd (inb v4 10) (
  (f_Wa_seat b t55.2.2 (t55.2.2.1 ((b + 1)) v4.toNatClampNeg) t55.1).bind fun σ5 =>
  some (.inl (v4, t55.2.1 + 1, σ5)))) else (
  some (.inr (t55.1, t55.2.1, t55.2.2)))))))))
def f_Wa_put_J30 (b : Nat) (x1 : Int32) (x2 : Int32) (σ1 : mS) : Option (mS) :=
  gd (inb x1 10) ((nm (sJ σ1 ((b + 3)) x1.toNatClampNeg ((x2.toInt64 * 10) + x1.toInt64)) fun σ2 =>
  gd (inb x1 10) (
  nm (σ2.1 ((b + 2)) x1.toNatClampNeg) fun v3 =>
  (lpN (f_Wa_put_L55 b x1) 1000 (v3, 0, σ2)).bind fun x55 =>
  (f_Wa_seat b x55.2.2 x1 x55.1).bind fun σ6 =>
  some σ6)))
def f_Wa_put (b : Nat) (σ : mS) (x1 : Int32) (x2 : Int32) : Option (mS) :=
  gd (inb x1 10) (
  if (σ.1 ((b + 2)) x1.toNatClampNeg) = ((-1)) then (
  gd (inb x1 10) ((nm (sI σ ((b + 2)) x1.toNatClampNeg (σ.1 b 4)) fun σ7 =>
  nm (sI σ7 b 4 ((σ7.1 b 4) + 1)) fun σ8 =>
  f_Wa_put_J30 b x1 x2 σ8))) else (
  f_Wa_put_J30 b x1 x2 σ))
set_option maxHeartbeats 4000000 in
set_option maxRecDepth 100000 in
theorem c_Wa_put (l : Launch) (D : va_G) (cA ad : Nat → Nat) {b : Nat} (hb : wB b) (σ : mS) (x1 : Int32) (x2 : Int32) (o : mS) (h : f_Wa_put b σ x1 x2 = some o) : mCv l ⟨"LeastPaths$Waiting", "put", "(II)V"⟩ (Cond.code ⟨"LeastPaths$Waiting", "put", "(II)V"⟩ prog_8_method_5_code 6 (Option.none : Option Jvm.ClassFile.FieldType) :: tlG) rm_Wa_put D clX (tyK cA) 99 (tbX cA) ad σ [.ref (ad b), .int x1, .int x2] o := by
  intro sz
  refine m_of (cc := prog_8_method_5_code) (maxL := 6) (Qc := mQv D clX (tyK cA) 99 (tbX cA) ad o) (by decide) (Nat.le_of_ble_eq_true rfl) (fun p e s m args below meth c ls S hr hlk hnm hl M => ?_) sz
  have hl : lv_has ls 6 [(0, .ref (ad b)), (1, .int x1), (2, .int x2)] := hl
  generalize hQ : MQ _ _ _ _ _ _ _ = Q
  skip
  unfold f_Wa_put at h
  refine lv_aload_n S.1 S.2.1 d_Wa_put_0 rfl (lv_at hl 0 rfl) ?_
  refine m_gs (t := (b + 2)) S M (j := 2) ok_Wa (lt_W0 hb) (tb_W0 hb) (by decide) rfl kw_18 rfl d_Wa_put_1 ?_
  refine lv_iload_n S.1 S.2.1 d_Wa_put_4 rfl (lv_at hl 1 rfl) ?_
  refine m_ial (t0 := 0) S M (lt_W2 hb) (tb_W2 hb) rfl h d_Wa_put_5 (fun h => ?_)
  refine lv_iconst (v := (-1)) S.1 S.2.1 d_Wa_put_6 (by decide) ?_
  have J30 : ∀ (σ1 : mS) (ls : Array Slot) (H : Heap) (locs : List Loc), f_Wa_put_J30 b x1 x2 σ1 = some o → lv_has ls 6 [(0, .ref (ad b)), (1, .int x1), (2, .int x2)] → mM D clX (tyK cA) (mA 99 ad s.heap.size) s 99 (tbX cA) ad σ1 H locs → W p l e rm_Wa_put s m args below meth c H locs 0 0 Q (F0 m 30 ls []) := by
    intro σ1 ls H locs h hl M
    unfold f_Wa_put_J30 at h
    refine lv_aload_n S.1 S.2.1 d_Wa_put_30 rfl (lv_at hl 0 rfl) ?_
    refine m_gs (t := (b + 3)) S M (j := 3) ok_Wa (lt_W0 hb) (tb_W0 hb) (by decide) rfl kw_20 rfl d_Wa_put_31 ?_
    refine lv_iload_n S.1 S.2.1 d_Wa_put_34 rfl (lv_at hl 1 rfl) ?_
    refine lv_iload_n S.1 S.2.1 d_Wa_put_35 rfl (lv_at hl 2 rfl) ?_
    refine lv_i2l S.1 S.2.1 d_Wa_put_36 rfl ?_
    refine lv_ldc2 (v := 10) S.1 S.2.1 S.2.2.2.1 (S.2.2.2.2 _ kw_21) d_Wa_put_37 ?_
    refine lv_lmul S.1 S.2.1 d_Wa_put_40 ?_
    refine lv_iload_n S.1 S.2.1 d_Wa_put_41 rfl (lv_at hl 1 rfl) ?_
    refine lv_i2l S.1 S.2.1 d_Wa_put_42 rfl ?_
    refine lv_ladd S.1 S.2.1 d_Wa_put_43 ?_
    refine m_las (t0 := 1) S M (lt_W3 hb) (tb_W3 hb) rfl h d_Wa_put_44 (fun σ2 H locs h M => ?_)
    refine lv_aload_n S.1 S.2.1 d_Wa_put_45 rfl (lv_at hl 0 rfl) ?_
    refine m_gs (t := (b + 2)) S M (j := 2) ok_Wa (lt_W0 hb) (tb_W0 hb) (by decide) rfl kw_18 rfl d_Wa_put_46 ?_
    refine lv_iload_n S.1 S.2.1 d_Wa_put_49 rfl (lv_at hl 1 rfl) ?_
    refine m_ial (t0 := 0) S M (lt_W2 hb) (tb_W2 hb) rfl h d_Wa_put_50 (fun h => ?_)
    refine m_ni h (fun v3 h => ?_)
    refine lv_istore_n (lv' := [(3, .int v3), (0, .ref (ad b)), (1, .int x1), (2, .int x2)]) S.1 S.2.1 d_Wa_put_51 rfl hl (by decide) rfl (fun ls hl => ?_)
    refine lv_iconst (v := 0) S.1 S.2.1 d_Wa_put_52 (by decide) ?_
    refine lv_istore (lv' := [(4, .int 0), (3, .int v3), (0, .ref (ad b)), (1, .int x1), (2, .int x2)]) S.1 S.2.1 d_Wa_put_53 hl (by decide) rfl (fun ls hl => ?_)
    obtain ⟨x55, q55, h⟩ := Option.bind_eq_some_iff.mp h
    refine lpN_W1 (fun t55 => ∀ (ls : Array Slot) (H : Heap) (locs : List Loc), lv_has ls 6 [(4, .int t55.2.1), (3, .int t55.1), (0, .ref (ad b)), (1, .int x1), (2, .int x2)] → mM D clX (tyK cA) (mA 99 ad s.heap.size) s 99 (tbX cA) ad t55.2.2 H locs → W p l e rm_Wa_put s m args below meth c H locs 0 0 Q (F0 m 55 ls [])) (fun x55 => ∀ (ls : Array Slot) (H : Heap) (locs : List Loc), lv_has ls 6 [(4, .int x55.2.1), (3, .int x55.1), (0, .ref (ad b)), (1, .int x1), (2, .int x2)] → mM D clX (tyK cA) (mA 99 ad s.heap.size) s 99 (tbX cA) ad x55.2.2 H locs → W p l e rm_Wa_put s m args below meth c H locs 0 0 Q (F0 m 124 ls [])) ?_ _ _ x55 q55 ?_ ls _ _ (lv_sub hl [0, 1, 2, 3, 4] rfl) M
    · intro t55 o55 h K1 K2 ls H locs hl M
      unfold f_Wa_put_L55 at h
      refine lv_iload S.1 S.2.1 d_Wa_put_55 (lv_at hl 0 rfl) ?_
      refine lv_aload_n S.1 S.2.1 d_Wa_put_57 rfl (lv_at hl 2 rfl) ?_
      refine m_gi S M (j := 4) ok_Wa (lt_W0 hb) (tb_W0 hb) (by decide) rfl kw_17 rfl d_Wa_put_58 ?_
      refine m_ige (tgt := 124) S d_Wa_put_61 (by decide) h (fun h => ?_) (fun h => ?_)
      · exact K2 _ (Option.some.inj h).symm ls _ _ (lv_sub hl [0, 1, 2, 3, 4] rfl) M
      · refine lv_iload_n S.1 S.2.1 d_Wa_put_64 rfl (lv_at hl 1 rfl) ?_
        refine m_ifle (tgt := 124) S d_Wa_put_65 (by decide) h (fun h => ?_) (fun h => ?_)
        · exact K2 _ (Option.some.inj h).symm ls _ _ (lv_sub hl [0, 1, 2, 3, 4] rfl) M
        · refine lv_iload_n S.1 S.2.1 d_Wa_put_68 rfl (lv_at hl 1 rfl) ?_
          refine lv_iconst (v := 1) S.1 S.2.1 d_Wa_put_69 (by decide) ?_
          refine lv_isub S.1 S.2.1 d_Wa_put_70 ?_
          refine lv_aload_n S.1 S.2.1 d_Wa_put_71 rfl (lv_at hl 2 rfl) ?_
          refine m_gi S M (j := 0) ok_Wa (lt_W0 hb) (tb_W0 hb) (by decide) rfl kw_22 rfl d_Wa_put_72 ?_
          refine m_idiv S d_Wa_put_75 h (fun h => ?_)
          refine m_ni h (fun v4 h => ?_)
          refine lv_istore (lv' := [(5, .int v4), (4, .int t55.2.1), (3, .int t55.1), (0, .ref (ad b)), (1, .int x1), (2, .int x2)]) S.1 S.2.1 d_Wa_put_76 hl (by decide) rfl (fun ls hl => ?_)
          refine lv_aload_n S.1 S.2.1 d_Wa_put_78 rfl (lv_at hl 3 rfl) ?_
          refine m_gs (t := (b + 3)) S M (j := 3) ok_Wa (lt_W0 hb) (tb_W0 hb) (by decide) rfl kw_20 rfl d_Wa_put_79 ?_
          refine lv_aload_n S.1 S.2.1 d_Wa_put_82 rfl (lv_at hl 3 rfl) ?_
          refine m_gs (t := (b + 1)) S M (j := 1) ok_Wa (lt_W0 hb) (tb_W0 hb) (by decide) rfl kw_19 rfl d_Wa_put_83 ?_
          refine lv_iload S.1 S.2.1 d_Wa_put_86 (lv_at hl 0 rfl) ?_
          refine m_ial (t0 := 0) S M (lt_W1 hb) (tb_W1 hb) rfl h d_Wa_put_88 (fun h => ?_)
          refine m_lal (t0 := 1) S M (lt_W3 hb) (tb_W3 hb) rfl h d_Wa_put_89 (fun h => ?_)
          refine lv_aload_n S.1 S.2.1 d_Wa_put_90 rfl (lv_at hl 3 rfl) ?_
          refine m_gs (t := (b + 3)) S M (j := 3) ok_Wa (lt_W0 hb) (tb_W0 hb) (by decide) rfl kw_20 rfl d_Wa_put_91 ?_
          refine lv_iload_n S.1 S.2.1 d_Wa_put_94 rfl (lv_at hl 4 rfl) ?_
          refine m_lal (t0 := 1) S M (lt_W3 hb) (tb_W3 hb) rfl h d_Wa_put_95 (fun h => ?_)
          refine W.lcmp S.1 S.2.1 d_Wa_put_96 ?_
          refine m_ifge (tgt := 103) S d_Wa_put_97 (by decide) h (fun h => ?_) (fun h => ?_)
          · refine lv_aload_n S.1 S.2.1 d_Wa_put_103 rfl (lv_at hl 3 rfl) ?_
            refine lv_aload_n S.1 S.2.1 d_Wa_put_104 rfl (lv_at hl 3 rfl) ?_
            refine m_gs (t := (b + 1)) S M (j := 1) ok_Wa (lt_W0 hb) (tb_W0 hb) (by decide) rfl kw_19 rfl d_Wa_put_105 ?_
            refine lv_iload S.1 S.2.1 d_Wa_put_108 (lv_at hl 0 rfl) ?_
            refine m_ial (t0 := 0) S M (lt_W1 hb) (tb_W1 hb) rfl h d_Wa_put_110 (fun h => ?_)
            refine lv_iload_n S.1 S.2.1 d_Wa_put_111 rfl (lv_at hl 2 rfl) ?_
            refine m_xv h (fun o ho => m_rV (As := [.int (t55.2.2.1 ((b + 1)) v4.toNatClampNeg), .int t55.1]) (rest := []) S M hl.1 (cwG (n := 2) S.2.2.2.2 kw_23 kw_24 kw_25 kw_26 kw_27 (by decide) ⟨Nat.le_of_ble_eq_true rfl, Nat.le_of_ble_eq_true rfl⟩) ok_Wa (lt_W0 hb) (tb_W0 hb) (c_Wa_seat l D cA ad hb t55.2.2 (t55.2.2.1 ((b + 1)) v4.toNatClampNeg) t55.1 o ho H.size) rfl rfl (Nat.le_of_ble_eq_true rfl) d_Wa_put_112 ⟨Nat.zero_le _, Nat.zero_le _⟩) M (fun σ5 H locs h M => ?_)
            refine lv_iload S.1 S.2.1 d_Wa_put_115 (lv_at hl 0 rfl) ?_
            refine lv_istore_n (lv' := [(3, .int v4), (5, .int v4), (4, .int t55.2.1), (0, .ref (ad b)), (1, .int x1), (2, .int x2)]) S.1 S.2.1 d_Wa_put_117 rfl hl (by decide) rfl (fun ls hl => ?_)
            refine lv_iinc (v := t55.2.1 + 1) (lv' := [(4, .int (t55.2.1 + 1)), (3, .int v4), (5, .int v4), (0, .ref (ad b)), (1, .int x1), (2, .int x2)]) S.1 S.2.1 d_Wa_put_118 hl (k := 2) rfl rfl (by decide) rfl (fun ls hl => ?_)
            refine lv_goto (tgt := 55) S.1 S.2.1 d_Wa_put_121 (by decide) ?_
            exact K1 _ (Option.some.inj h).symm ls _ _ (lv_sub hl [0, 1, 3, 4, 5] rfl) M
          · refine lv_goto (tgt := 124) S.1 S.2.1 d_Wa_put_100 (by decide) ?_
            exact K2 _ (Option.some.inj h).symm ls _ _ (lv_sub hl [1, 2, 3, 4, 5] rfl) M
    · intro ls H locs hl M
      refine lv_aload_n S.1 S.2.1 d_Wa_put_124 rfl (lv_at hl 2 rfl) ?_
      refine lv_iload_n S.1 S.2.1 d_Wa_put_125 rfl (lv_at hl 3 rfl) ?_
      refine lv_iload_n S.1 S.2.1 d_Wa_put_126 rfl (lv_at hl 1 rfl) ?_
      refine m_xv h (fun o ho => m_rV (As := [.int x1, .int x55.1]) (rest := []) S M hl.1 (cwG (n := 2) S.2.2.2.2 kw_23 kw_24 kw_25 kw_26 kw_27 (by decide) ⟨Nat.le_of_ble_eq_true rfl, Nat.le_of_ble_eq_true rfl⟩) ok_Wa (lt_W0 hb) (tb_W0 hb) (c_Wa_seat l D cA ad hb x55.2.2 x1 x55.1 o ho H.size) rfl rfl (Nat.le_of_ble_eq_true rfl) d_Wa_put_127 ⟨Nat.zero_le _, Nat.zero_le _⟩) M (fun σ6 H locs h M => ?_)
      subst hQ; exact m_vret S hr hlk M (Option.some.inj h) d_Wa_put_130
  refine m_ine (tgt := 30) S d_Wa_put_7 (by decide) h (fun h => ?_) (fun h => ?_)
  · exact J30 _ ls _ _ h (lv_sub hl [0, 1, 2] rfl) M
  · refine lv_aload_n S.1 S.2.1 d_Wa_put_10 rfl (lv_at hl 0 rfl) ?_
    refine m_gs (t := (b + 2)) S M (j := 2) ok_Wa (lt_W0 hb) (tb_W0 hb) (by decide) rfl kw_18 rfl d_Wa_put_11 ?_
    refine lv_iload_n S.1 S.2.1 d_Wa_put_14 rfl (lv_at hl 1 rfl) ?_
    refine lv_aload_n S.1 S.2.1 d_Wa_put_15 rfl (lv_at hl 0 rfl) ?_
    refine m_gi S M (j := 4) ok_Wa (lt_W0 hb) (tb_W0 hb) (by decide) rfl kw_17 rfl d_Wa_put_16 ?_
    refine m_ias (t0 := 0) S M (lt_W2 hb) (tb_W2 hb) rfl h d_Wa_put_19 (fun σ7 H locs h M => ?_)
    refine lv_aload_n S.1 S.2.1 d_Wa_put_20 rfl (lv_at hl 0 rfl) ?_
    refine lv_dup S.1 S.2.1 d_Wa_put_21 rfl ?_
    refine m_gi S M (j := 4) ok_Wa (lt_W0 hb) (tb_W0 hb) (by decide) rfl kw_17 rfl d_Wa_put_22 ?_
    refine lv_iconst (v := 1) S.1 S.2.1 d_Wa_put_25 (by decide) ?_
    refine lv_iadd S.1 S.2.1 d_Wa_put_26 ?_
    refine m_pi S M (j := 4) ok_Wa (lt_W0 hb) (tb_W0 hb) (by decide) rfl kw_17 rfl rfl rfl d_Wa_put_27 h (fun σ8 H locs h M => ?_)
    exact J30 _ ls _ _ h (lv_sub hl [0, 1, 2] rfl) M
theorem d_Wa_firstChild_0 : decode prog_8_method_8_code 0 = .ok (.iconst (-1), 1) := by decide +kernel
theorem d_Wa_firstChild_1 : decode prog_8_method_8_code 1 = .ok (.istore_n 2, 1) := by decide +kernel
theorem d_Wa_firstChild_2 : decode prog_8_method_8_code 2 = .ok (.iload_n 1, 1) := by decide +kernel
theorem d_Wa_firstChild_3 : decode prog_8_method_8_code 3 = .ok (.iconst 1, 1) := by decide +kernel
theorem d_Wa_firstChild_4 : decode prog_8_method_8_code 4 = .ok (.iadd, 1) := by decide +kernel
theorem d_Wa_firstChild_5 : decode prog_8_method_8_code 5 = .ok (.aload_n 0, 1) := by decide +kernel
theorem d_Wa_firstChild_6 : decode prog_8_method_8_code 6 = .ok (.getfield 28, 3) := by decide +kernel
theorem d_Wa_firstChild_9 : decode prog_8_method_8_code 9 = .ok (.imul, 1) := by decide +kernel
theorem d_Wa_firstChild_10 : decode prog_8_method_8_code 10 = .ok (.iconst 1, 1) := by decide +kernel
theorem d_Wa_firstChild_11 : decode prog_8_method_8_code 11 = .ok (.iadd, 1) := by decide +kernel
theorem d_Wa_firstChild_12 : decode prog_8_method_8_code 12 = .ok (.istore_n 3, 1) := by decide +kernel
theorem d_Wa_firstChild_13 : decode prog_8_method_8_code 13 = .ok (.iload_n 1, 1) := by decide +kernel
theorem d_Wa_firstChild_14 : decode prog_8_method_8_code 14 = .ok (.aload_n 0, 1) := by decide +kernel
theorem d_Wa_firstChild_15 : decode prog_8_method_8_code 15 = .ok (.getfield 28, 3) := by decide +kernel
theorem d_Wa_firstChild_18 : decode prog_8_method_8_code 18 = .ok (.imul, 1) := by decide +kernel
theorem d_Wa_firstChild_19 : decode prog_8_method_8_code 19 = .ok (.iconst 1, 1) := by decide +kernel
theorem d_Wa_firstChild_20 : decode prog_8_method_8_code 20 = .ok (.iadd, 1) := by decide +kernel
theorem d_Wa_firstChild_21 : decode prog_8_method_8_code 21 = .ok (.istore 4, 2) := by decide +kernel
theorem d_Wa_firstChild_23 : decode prog_8_method_8_code 23 = .ok (.iload 4, 2) := by decide +kernel
theorem d_Wa_firstChild_25 : decode prog_8_method_8_code 25 = .ok (.iload_n 3, 1) := by decide +kernel
theorem d_Wa_firstChild_26 : decode prog_8_method_8_code 26 = .ok (.if_icmp .ge 53, 3) := by decide +kernel
theorem d_Wa_firstChild_29 : decode prog_8_method_8_code 29 = .ok (.iload 4, 2) := by decide +kernel
theorem d_Wa_firstChild_31 : decode prog_8_method_8_code 31 = .ok (.aload_n 0, 1) := by decide +kernel
theorem d_Wa_firstChild_32 : decode prog_8_method_8_code 32 = .ok (.getfield 32, 3) := by decide +kernel
theorem d_Wa_firstChild_35 : decode prog_8_method_8_code 35 = .ok (.if_icmp .ge 44, 3) := by decide +kernel
theorem d_Wa_firstChild_38 : decode prog_8_method_8_code 38 = .ok (.iload_n 2, 1) := by decide +kernel
theorem d_Wa_firstChild_39 : decode prog_8_method_8_code 39 = .ok (.iconst (-1), 1) := by decide +kernel
theorem d_Wa_firstChild_40 : decode prog_8_method_8_code 40 = .ok (.if_icmp .eq 30, 3) := by decide +kernel
theorem d_Wa_firstChild_43 : decode prog_8_method_8_code 43 = .ok (.aload_n 0, 1) := by decide +kernel
theorem d_Wa_firstChild_44 : decode prog_8_method_8_code 44 = .ok (.getfield 18, 3) := by decide +kernel
theorem d_Wa_firstChild_47 : decode prog_8_method_8_code 47 = .ok (.aload_n 0, 1) := by decide +kernel
theorem d_Wa_firstChild_48 : decode prog_8_method_8_code 48 = .ok (.getfield 9, 3) := by decide +kernel
theorem d_Wa_firstChild_51 : decode prog_8_method_8_code 51 = .ok (.iload 4, 2) := by decide +kernel
theorem d_Wa_firstChild_53 : decode prog_8_method_8_code 53 = .ok (.iaload, 1) := by decide +kernel
theorem d_Wa_firstChild_54 : decode prog_8_method_8_code 54 = .ok (.laload, 1) := by decide +kernel
theorem d_Wa_firstChild_55 : decode prog_8_method_8_code 55 = .ok (.aload_n 0, 1) := by decide +kernel
theorem d_Wa_firstChild_56 : decode prog_8_method_8_code 56 = .ok (.getfield 18, 3) := by decide +kernel
theorem d_Wa_firstChild_59 : decode prog_8_method_8_code 59 = .ok (.aload_n 0, 1) := by decide +kernel
theorem d_Wa_firstChild_60 : decode prog_8_method_8_code 60 = .ok (.getfield 9, 3) := by decide +kernel
theorem d_Wa_firstChild_63 : decode prog_8_method_8_code 63 = .ok (.iload_n 2, 1) := by decide +kernel
theorem d_Wa_firstChild_64 : decode prog_8_method_8_code 64 = .ok (.iaload, 1) := by decide +kernel
theorem d_Wa_firstChild_65 : decode prog_8_method_8_code 65 = .ok (.laload, 1) := by decide +kernel
theorem d_Wa_firstChild_66 : decode prog_8_method_8_code 66 = .ok (.lcmp, 1) := by decide +kernel
theorem d_Wa_firstChild_67 : decode prog_8_method_8_code 67 = .ok (.ifCond .ge 6, 3) := by decide +kernel
theorem d_Wa_firstChild_70 : decode prog_8_method_8_code 70 = .ok (.iload 4, 2) := by decide +kernel
theorem d_Wa_firstChild_72 : decode prog_8_method_8_code 72 = .ok (.istore_n 2, 1) := by decide +kernel
theorem d_Wa_firstChild_73 : decode prog_8_method_8_code 73 = .ok (.iinc 4 1, 3) := by decide +kernel
theorem d_Wa_firstChild_76 : decode prog_8_method_8_code 76 = .ok (.goto (-53), 3) := by decide +kernel
theorem d_Wa_firstChild_79 : decode prog_8_method_8_code 79 = .ok (.iload_n 2, 1) := by decide +kernel
theorem d_Wa_firstChild_80 : decode prog_8_method_8_code 80 = .ok (.ireturn, 1) := by decide +kernel
def rm_Wa_firstChild : Room := { frames := 0, cells := 0, slots := 0, locals := 0 }
def f_Wa_firstChild_L23 (σ : mS) (b : Nat) (v1 : Int32) : (Int32 × Int32) → Option ((Int32 × Int32) ⊕ (Int32 × Int32)) := fun t23 =>
  if v1 ≤ t23.2 then (
  some (.inr (t23.1, t23.2))) else (
  if (σ.1 b 4) ≤ t23.2 then (
  some (.inr (t23.1, t23.2))) else (
  if t23.1 = ((-1)) then (
  some (.inl (t23.2, t23.2 + 1))) else (
  gd (inb t23.2 10) (
  gd (inb (σ.1 ((b + 1)) t23.2.toNatClampNeg) 10) (
  gd (inb t23.1 10) (
  gd (inb (σ.1 ((b + 1)) t23.1.toNatClampNeg) 10) (
  if 0 ≤ (lg_cmp (σ.2.1 ((b + 3)) (σ.1 ((b + 1)) t23.2.toNatClampNeg).toNatClampNeg) (σ.2.1 ((b + 3)) (σ.1 ((b + 1)) t23.1.toNatClampNeg).toNatClampNeg)) then (
  some (.inl (t23.1, t23.2 + 1))) else (
  some (.inl (t23.2, t23.2 + 1))))))))))
def f_Wa_firstChild (b : Nat) (σ : mS) (x1 : Int32) : Option (Int32) :=
  nm (((x1 + 1) * (σ.1 b 0)) + 1) fun v1 =>
  nm ((x1 * (σ.1 b 0)) + 1) fun v2 =>
  (lpN (f_Wa_firstChild_L23 σ b v1) 1000 ((-1), v2)).bind fun x23 =>
  some x23.1
set_option maxHeartbeats 4000000 in
set_option maxRecDepth 100000 in
theorem c_Wa_firstChild (l : Launch) (D : va_G) (cA ad : Nat → Nat) {b : Nat} (hb : wB b) (σ : mS) (x1 : Int32) (o : Int32) (h : f_Wa_firstChild b σ x1 = some o) : mCi l ⟨"LeastPaths$Waiting", "firstChild", "(I)I"⟩ (Cond.code ⟨"LeastPaths$Waiting", "firstChild", "(I)I"⟩ prog_8_method_8_code 5 (Option.some Jvm.ClassFile.FieldType.int) :: tlG) rm_Wa_firstChild D clX (tyK cA) 99 (tbX cA) ad σ [.ref (ad b), .int x1] (o, σ) := by
  intro sz
  refine m_of (cc := prog_8_method_8_code) (maxL := 5) (Qc := mQi D clX (tyK cA) 99 (tbX cA) ad (o, σ)) (by decide) (Nat.le_of_ble_eq_true rfl) (fun p e s m args below meth c ls S hr hlk hnm hl M => ?_) sz
  have hl : lv_has ls 5 [(0, .ref (ad b)), (1, .int x1)] := hl
  generalize hQ : MQ _ _ _ _ _ _ _ = Q
  skip
  unfold f_Wa_firstChild at h
  refine lv_iconst (v := (-1)) S.1 S.2.1 d_Wa_firstChild_0 (by decide) ?_
  refine lv_istore_n (lv' := [(2, .int ((-1))), (0, .ref (ad b)), (1, .int x1)]) S.1 S.2.1 d_Wa_firstChild_1 rfl hl (by decide) rfl (fun ls hl => ?_)
  refine lv_iload_n S.1 S.2.1 d_Wa_firstChild_2 rfl (lv_at hl 2 rfl) ?_
  refine lv_iconst (v := 1) S.1 S.2.1 d_Wa_firstChild_3 (by decide) ?_
  refine lv_iadd S.1 S.2.1 d_Wa_firstChild_4 ?_
  refine lv_aload_n S.1 S.2.1 d_Wa_firstChild_5 rfl (lv_at hl 1 rfl) ?_
  refine m_gi S M (j := 0) ok_Wa (lt_W0 hb) (tb_W0 hb) (by decide) rfl kw_22 rfl d_Wa_firstChild_6 ?_
  refine lv_imul S.1 S.2.1 d_Wa_firstChild_9 ?_
  refine lv_iconst (v := 1) S.1 S.2.1 d_Wa_firstChild_10 (by decide) ?_
  refine lv_iadd S.1 S.2.1 d_Wa_firstChild_11 ?_
  refine m_ni h (fun v1 h => ?_)
  refine lv_istore_n (lv' := [(3, .int v1), (2, .int ((-1))), (0, .ref (ad b)), (1, .int x1)]) S.1 S.2.1 d_Wa_firstChild_12 rfl hl (by decide) rfl (fun ls hl => ?_)
  refine lv_iload_n S.1 S.2.1 d_Wa_firstChild_13 rfl (lv_at hl 3 rfl) ?_
  refine lv_aload_n S.1 S.2.1 d_Wa_firstChild_14 rfl (lv_at hl 2 rfl) ?_
  refine m_gi S M (j := 0) ok_Wa (lt_W0 hb) (tb_W0 hb) (by decide) rfl kw_22 rfl d_Wa_firstChild_15 ?_
  refine lv_imul S.1 S.2.1 d_Wa_firstChild_18 ?_
  refine lv_iconst (v := 1) S.1 S.2.1 d_Wa_firstChild_19 (by decide) ?_
  refine lv_iadd S.1 S.2.1 d_Wa_firstChild_20 ?_
  refine m_ni h (fun v2 h => ?_)
  refine lv_istore (lv' := [(4, .int v2), (3, .int v1), (2, .int ((-1))), (0, .ref (ad b)), (1, .int x1)]) S.1 S.2.1 d_Wa_firstChild_21 hl (by decide) rfl (fun ls hl => ?_)
  obtain ⟨x23, q23, h⟩ := Option.bind_eq_some_iff.mp h
  refine lpN_W1 (fun t23 => ∀ (ls : Array Slot) (H : Heap) (locs : List Loc), lv_has ls 5 [(4, .int t23.2), (3, .int v1), (2, .int t23.1), (0, .ref (ad b)), (1, .int x1)] → mM D clX (tyK cA) (mA 99 ad s.heap.size) s 99 (tbX cA) ad σ H locs → W p l e rm_Wa_firstChild s m args below meth c H locs 0 0 Q (F0 m 23 ls [])) (fun x23 => ∀ (ls : Array Slot) (H : Heap) (locs : List Loc), lv_has ls 5 [(4, .int x23.2), (3, .int v1), (2, .int x23.1), (0, .ref (ad b)), (1, .int x1)] → mM D clX (tyK cA) (mA 99 ad s.heap.size) s 99 (tbX cA) ad σ H locs → W p l e rm_Wa_firstChild s m args below meth c H locs 0 0 Q (F0 m 79 ls [])) ?_ _ _ x23 q23 ?_ ls _ _ (lv_sub hl [0, 1, 2, 3, 4] rfl) M
  · intro t23 o23 h K1 K2 ls H locs hl M
    unfold f_Wa_firstChild_L23 at h
    refine lv_iload S.1 S.2.1 d_Wa_firstChild_23 (lv_at hl 0 rfl) ?_
    refine lv_iload_n S.1 S.2.1 d_Wa_firstChild_25 rfl (lv_at hl 1 rfl) ?_
    refine m_ige (tgt := 79) S d_Wa_firstChild_26 (by decide) h (fun h => ?_) (fun h => ?_)
    · exact K2 _ (Option.some.inj h).symm ls _ _ (lv_sub hl [0, 1, 2, 3, 4] rfl) M
    · refine lv_iload S.1 S.2.1 d_Wa_firstChild_29 (lv_at hl 0 rfl) ?_
      refine lv_aload_n S.1 S.2.1 d_Wa_firstChild_31 rfl (lv_at hl 3 rfl) ?_
      refine m_gi S M (j := 4) ok_Wa (lt_W0 hb) (tb_W0 hb) (by decide) rfl kw_17 rfl d_Wa_firstChild_32 ?_
      refine m_ige (tgt := 79) S d_Wa_firstChild_35 (by decide) h (fun h => ?_) (fun h => ?_)
      · exact K2 _ (Option.some.inj h).symm ls _ _ (lv_sub hl [0, 1, 2, 3, 4] rfl) M
      · refine lv_iload_n S.1 S.2.1 d_Wa_firstChild_38 rfl (lv_at hl 2 rfl) ?_
        refine lv_iconst (v := (-1)) S.1 S.2.1 d_Wa_firstChild_39 (by decide) ?_
        refine m_ieq (tgt := 70) S d_Wa_firstChild_40 (by decide) h (fun h => ?_) (fun h => ?_)
        · refine lv_iload S.1 S.2.1 d_Wa_firstChild_70 (lv_at hl 0 rfl) ?_
          refine lv_istore_n (lv' := [(2, .int t23.2), (4, .int t23.2), (3, .int v1), (0, .ref (ad b)), (1, .int x1)]) S.1 S.2.1 d_Wa_firstChild_72 rfl hl (by decide) rfl (fun ls hl => ?_)
          refine lv_iinc (v := t23.2 + 1) (lv' := [(4, .int (t23.2 + 1)), (2, .int t23.2), (3, .int v1), (0, .ref (ad b)), (1, .int x1)]) S.1 S.2.1 d_Wa_firstChild_73 hl (k := 1) rfl rfl (by decide) rfl (fun ls hl => ?_)
          refine lv_goto (tgt := 23) S.1 S.2.1 d_Wa_firstChild_76 (by decide) ?_
          exact K1 _ (Option.some.inj h).symm ls _ _ (lv_sub hl [0, 2, 1, 3, 4] rfl) M
        · refine lv_aload_n S.1 S.2.1 d_Wa_firstChild_43 rfl (lv_at hl 3 rfl) ?_
          refine m_gs (t := (b + 3)) S M (j := 3) ok_Wa (lt_W0 hb) (tb_W0 hb) (by decide) rfl kw_20 rfl d_Wa_firstChild_44 ?_
          refine lv_aload_n S.1 S.2.1 d_Wa_firstChild_47 rfl (lv_at hl 3 rfl) ?_
          refine m_gs (t := (b + 1)) S M (j := 1) ok_Wa (lt_W0 hb) (tb_W0 hb) (by decide) rfl kw_19 rfl d_Wa_firstChild_48 ?_
          refine lv_iload S.1 S.2.1 d_Wa_firstChild_51 (lv_at hl 0 rfl) ?_
          refine m_ial (t0 := 0) S M (lt_W1 hb) (tb_W1 hb) rfl h d_Wa_firstChild_53 (fun h => ?_)
          refine m_lal (t0 := 1) S M (lt_W3 hb) (tb_W3 hb) rfl h d_Wa_firstChild_54 (fun h => ?_)
          refine lv_aload_n S.1 S.2.1 d_Wa_firstChild_55 rfl (lv_at hl 3 rfl) ?_
          refine m_gs (t := (b + 3)) S M (j := 3) ok_Wa (lt_W0 hb) (tb_W0 hb) (by decide) rfl kw_20 rfl d_Wa_firstChild_56 ?_
          refine lv_aload_n S.1 S.2.1 d_Wa_firstChild_59 rfl (lv_at hl 3 rfl) ?_
          refine m_gs (t := (b + 1)) S M (j := 1) ok_Wa (lt_W0 hb) (tb_W0 hb) (by decide) rfl kw_19 rfl d_Wa_firstChild_60 ?_
          refine lv_iload_n S.1 S.2.1 d_Wa_firstChild_63 rfl (lv_at hl 2 rfl) ?_
          refine m_ial (t0 := 0) S M (lt_W1 hb) (tb_W1 hb) rfl h d_Wa_firstChild_64 (fun h => ?_)
          refine m_lal (t0 := 1) S M (lt_W3 hb) (tb_W3 hb) rfl h d_Wa_firstChild_65 (fun h => ?_)
          refine W.lcmp S.1 S.2.1 d_Wa_firstChild_66 ?_
          refine m_ifge (tgt := 73) S d_Wa_firstChild_67 (by decide) h (fun h => ?_) (fun h => ?_)
          · refine lv_iinc (v := t23.2 + 1) (lv' := [(4, .int (t23.2 + 1)), (3, .int v1), (2, .int t23.1), (0, .ref (ad b)), (1, .int x1)]) S.1 S.2.1 d_Wa_firstChild_73 hl (k := 0) rfl rfl (by decide) rfl (fun ls hl => ?_)
            refine lv_goto (tgt := 23) S.1 S.2.1 d_Wa_firstChild_76 (by decide) ?_
            exact K1 _ (Option.some.inj h).symm ls _ _ (lv_sub hl [0, 1, 2, 3, 4] rfl) M
          · refine lv_iload S.1 S.2.1 d_Wa_firstChild_70 (lv_at hl 0 rfl) ?_
            refine lv_istore_n (lv' := [(2, .int t23.2), (4, .int t23.2), (3, .int v1), (0, .ref (ad b)), (1, .int x1)]) S.1 S.2.1 d_Wa_firstChild_72 rfl hl (by decide) rfl (fun ls hl => ?_)
            refine lv_iinc (v := t23.2 + 1) (lv' := [(4, .int (t23.2 + 1)), (2, .int t23.2), (3, .int v1), (0, .ref (ad b)), (1, .int x1)]) S.1 S.2.1 d_Wa_firstChild_73 hl (k := 1) rfl rfl (by decide) rfl (fun ls hl => ?_)
            refine lv_goto (tgt := 23) S.1 S.2.1 d_Wa_firstChild_76 (by decide) ?_
            exact K1 _ (Option.some.inj h).symm ls _ _ (lv_sub hl [0, 2, 1, 3, 4] rfl) M
  · intro ls H locs hl M
    refine lv_iload_n S.1 S.2.1 d_Wa_firstChild_79 rfl (lv_at hl 2 rfl) ?_
    subst hQ; exact m_iret S hr hlk M (by rw [Option.some.inj h]) d_Wa_firstChild_80
theorem d_Wa_takeFirst_0 : decode prog_8_method_6_code 0 = .ok (.aload_n 0, 1) := by decide +kernel
theorem d_Wa_takeFirst_1 : decode prog_8_method_6_code 1 = .ok (.getfield 32, 3) := by decide +kernel
theorem d_Wa_takeFirst_4 : decode prog_8_method_6_code 4 = .ok (.ifCond .ne 5, 3) := by decide +kernel
theorem d_Wa_takeFirst_7 : decode prog_8_method_6_code 7 = .ok (.iconst (-1), 1) := by decide +kernel
theorem d_Wa_takeFirst_8 : decode prog_8_method_6_code 8 = .ok (.ireturn, 1) := by decide +kernel
theorem d_Wa_takeFirst_9 : decode prog_8_method_6_code 9 = .ok (.aload_n 0, 1) := by decide +kernel
theorem d_Wa_takeFirst_10 : decode prog_8_method_6_code 10 = .ok (.getfield 9, 3) := by decide +kernel
theorem d_Wa_takeFirst_13 : decode prog_8_method_6_code 13 = .ok (.iconst 0, 1) := by decide +kernel
theorem d_Wa_takeFirst_14 : decode prog_8_method_6_code 14 = .ok (.iaload, 1) := by decide +kernel
theorem d_Wa_takeFirst_15 : decode prog_8_method_6_code 15 = .ok (.istore_n 1, 1) := by decide +kernel
theorem d_Wa_takeFirst_16 : decode prog_8_method_6_code 16 = .ok (.aload_n 0, 1) := by decide +kernel
theorem d_Wa_takeFirst_17 : decode prog_8_method_6_code 17 = .ok (.dup, 1) := by decide +kernel
theorem d_Wa_takeFirst_18 : decode prog_8_method_6_code 18 = .ok (.getfield 32, 3) := by decide +kernel
theorem d_Wa_takeFirst_21 : decode prog_8_method_6_code 21 = .ok (.iconst 1, 1) := by decide +kernel
theorem d_Wa_takeFirst_22 : decode prog_8_method_6_code 22 = .ok (.isub, 1) := by decide +kernel
theorem d_Wa_takeFirst_23 : decode prog_8_method_6_code 23 = .ok (.putfield 32, 3) := by decide +kernel
theorem d_Wa_takeFirst_26 : decode prog_8_method_6_code 26 = .ok (.aload_n 0, 1) := by decide +kernel
theorem d_Wa_takeFirst_27 : decode prog_8_method_6_code 27 = .ok (.getfield 9, 3) := by decide +kernel
theorem d_Wa_takeFirst_30 : decode prog_8_method_6_code 30 = .ok (.aload_n 0, 1) := by decide +kernel
theorem d_Wa_takeFirst_31 : decode prog_8_method_6_code 31 = .ok (.getfield 32, 3) := by decide +kernel
theorem d_Wa_takeFirst_34 : decode prog_8_method_6_code 34 = .ok (.iaload, 1) := by decide +kernel
theorem d_Wa_takeFirst_35 : decode prog_8_method_6_code 35 = .ok (.istore_n 2, 1) := by decide +kernel
theorem d_Wa_takeFirst_36 : decode prog_8_method_6_code 36 = .ok (.iconst 0, 1) := by decide +kernel
theorem d_Wa_takeFirst_37 : decode prog_8_method_6_code 37 = .ok (.istore_n 3, 1) := by decide +kernel
theorem d_Wa_takeFirst_38 : decode prog_8_method_6_code 38 = .ok (.iconst 0, 1) := by decide +kernel
theorem d_Wa_takeFirst_39 : decode prog_8_method_6_code 39 = .ok (.istore 4, 2) := by decide +kernel
theorem d_Wa_takeFirst_41 : decode prog_8_method_6_code 41 = .ok (.iload 4, 2) := by decide +kernel
theorem d_Wa_takeFirst_43 : decode prog_8_method_6_code 43 = .ok (.aload_n 0, 1) := by decide +kernel
theorem d_Wa_takeFirst_44 : decode prog_8_method_6_code 44 = .ok (.getfield 32, 3) := by decide +kernel
theorem d_Wa_takeFirst_47 : decode prog_8_method_6_code 47 = .ok (.if_icmp .ge 62, 3) := by decide +kernel
theorem d_Wa_takeFirst_50 : decode prog_8_method_6_code 50 = .ok (.aload_n 0, 1) := by decide +kernel
theorem d_Wa_takeFirst_51 : decode prog_8_method_6_code 51 = .ok (.iload_n 3, 1) := by decide +kernel
theorem d_Wa_takeFirst_52 : decode prog_8_method_6_code 52 = .ok (.invokevirtual 41, 3) := by decide +kernel
theorem d_Wa_takeFirst_55 : decode prog_8_method_6_code 55 = .ok (.istore 5, 2) := by decide +kernel
theorem d_Wa_takeFirst_57 : decode prog_8_method_6_code 57 = .ok (.iload 5, 2) := by decide +kernel
theorem d_Wa_takeFirst_59 : decode prog_8_method_6_code 59 = .ok (.iconst (-1), 1) := by decide +kernel
theorem d_Wa_takeFirst_60 : decode prog_8_method_6_code 60 = .ok (.if_icmp .eq 49, 3) := by decide +kernel
theorem d_Wa_takeFirst_63 : decode prog_8_method_6_code 63 = .ok (.aload_n 0, 1) := by decide +kernel
theorem d_Wa_takeFirst_64 : decode prog_8_method_6_code 64 = .ok (.getfield 18, 3) := by decide +kernel
theorem d_Wa_takeFirst_67 : decode prog_8_method_6_code 67 = .ok (.aload_n 0, 1) := by decide +kernel
theorem d_Wa_takeFirst_68 : decode prog_8_method_6_code 68 = .ok (.getfield 9, 3) := by decide +kernel
theorem d_Wa_takeFirst_71 : decode prog_8_method_6_code 71 = .ok (.iload 5, 2) := by decide +kernel
theorem d_Wa_takeFirst_73 : decode prog_8_method_6_code 73 = .ok (.iaload, 1) := by decide +kernel
theorem d_Wa_takeFirst_74 : decode prog_8_method_6_code 74 = .ok (.laload, 1) := by decide +kernel
theorem d_Wa_takeFirst_75 : decode prog_8_method_6_code 75 = .ok (.aload_n 0, 1) := by decide +kernel
theorem d_Wa_takeFirst_76 : decode prog_8_method_6_code 76 = .ok (.getfield 18, 3) := by decide +kernel
theorem d_Wa_takeFirst_79 : decode prog_8_method_6_code 79 = .ok (.iload_n 2, 1) := by decide +kernel
theorem d_Wa_takeFirst_80 : decode prog_8_method_6_code 80 = .ok (.laload, 1) := by decide +kernel
theorem d_Wa_takeFirst_81 : decode prog_8_method_6_code 81 = .ok (.lcmp, 1) := by decide +kernel
theorem d_Wa_takeFirst_82 : decode prog_8_method_6_code 82 = .ok (.ifCond .le 6, 3) := by decide +kernel
theorem d_Wa_takeFirst_85 : decode prog_8_method_6_code 85 = .ok (.goto 24, 3) := by decide +kernel
theorem d_Wa_takeFirst_88 : decode prog_8_method_6_code 88 = .ok (.aload_n 0, 1) := by decide +kernel
theorem d_Wa_takeFirst_89 : decode prog_8_method_6_code 89 = .ok (.aload_n 0, 1) := by decide +kernel
theorem d_Wa_takeFirst_90 : decode prog_8_method_6_code 90 = .ok (.getfield 9, 3) := by decide +kernel
theorem d_Wa_takeFirst_93 : decode prog_8_method_6_code 93 = .ok (.iload 5, 2) := by decide +kernel
theorem d_Wa_takeFirst_95 : decode prog_8_method_6_code 95 = .ok (.iaload, 1) := by decide +kernel
theorem d_Wa_takeFirst_96 : decode prog_8_method_6_code 96 = .ok (.iload_n 3, 1) := by decide +kernel
theorem d_Wa_takeFirst_97 : decode prog_8_method_6_code 97 = .ok (.invokevirtual 37, 3) := by decide +kernel
theorem d_Wa_takeFirst_100 : decode prog_8_method_6_code 100 = .ok (.iload 5, 2) := by decide +kernel
theorem d_Wa_takeFirst_102 : decode prog_8_method_6_code 102 = .ok (.istore_n 3, 1) := by decide +kernel
theorem d_Wa_takeFirst_103 : decode prog_8_method_6_code 103 = .ok (.iinc 4 1, 3) := by decide +kernel
theorem d_Wa_takeFirst_106 : decode prog_8_method_6_code 106 = .ok (.goto (-65), 3) := by decide +kernel
theorem d_Wa_takeFirst_109 : decode prog_8_method_6_code 109 = .ok (.aload_n 0, 1) := by decide +kernel
theorem d_Wa_takeFirst_110 : decode prog_8_method_6_code 110 = .ok (.iload_n 2, 1) := by decide +kernel
theorem d_Wa_takeFirst_111 : decode prog_8_method_6_code 111 = .ok (.iload_n 3, 1) := by decide +kernel
theorem d_Wa_takeFirst_112 : decode prog_8_method_6_code 112 = .ok (.invokevirtual 37, 3) := by decide +kernel
theorem d_Wa_takeFirst_115 : decode prog_8_method_6_code 115 = .ok (.aload_n 0, 1) := by decide +kernel
theorem d_Wa_takeFirst_116 : decode prog_8_method_6_code 116 = .ok (.getfield 15, 3) := by decide +kernel
theorem d_Wa_takeFirst_119 : decode prog_8_method_6_code 119 = .ok (.iload_n 1, 1) := by decide +kernel
theorem d_Wa_takeFirst_120 : decode prog_8_method_6_code 120 = .ok (.iconst (-1), 1) := by decide +kernel
theorem d_Wa_takeFirst_121 : decode prog_8_method_6_code 121 = .ok (.iastore, 1) := by decide +kernel
theorem d_Wa_takeFirst_122 : decode prog_8_method_6_code 122 = .ok (.iload_n 1, 1) := by decide +kernel
theorem d_Wa_takeFirst_123 : decode prog_8_method_6_code 123 = .ok (.ireturn, 1) := by decide +kernel
def rm_Wa_takeFirst : Room := { frames := 1, cells := 0, slots := 0, locals := 24 }
def f_Wa_takeFirst_L41 (b : Nat) (v3 : Int32) : (Int32 × Int32 × mS) → Option ((Int32 × Int32 × mS) ⊕ (Int32 × Int32 × mS)) := fun t41 =>
  if (t41.2.2.1 b 4) ≤ t41.2.1 then (
  some (.inr (t41.1, t41.2.1, t41.2.2))) else (
  (f_Wa_firstChild b t41.2.2 t41.1).bind fun v4 =>
  if v4 = ((-1)) then (
  some (.inr (t41.1, t41.2.1, t41.2.2))) else (
  gd (inb v4 10) (
  gd (inb (t41.2.2.1 ((b + 1)) v4.toNatClampNeg) 10) (
  gd (inb v3 10) (
  if (lg_cmp (t41.2.2.2.1 ((b + 3)) (t41.2.2.1 ((b + 1)) v4.toNatClampNeg).toNatClampNeg) (t41.2.2.2.1 ((b + 3)) v3.toNatClampNeg)) ≤ 0 then (
  gd (inb v4 10) (
  (f_Wa_seat b t41.2.2 (t41.2.2.1 ((b + 1)) v4.toNatClampNeg) t41.1).bind fun σ5 =>
  some (.inl (v4, t41.2.1 + 1, σ5)))) else (
  some (.inr (t41.1, t41.2.1, t41.2.2))))))))
def f_Wa_takeFirst (b : Nat) (σ : mS) : Option (Int32 × mS) :=
  if (σ.1 b 4) = 0 then (
  some ((-1), σ)) else (
  gd (inb 0 10) (
  nm (σ.1 ((b + 1)) (0 : Int32).toNatClampNeg) fun v1 =>
  nm (sI σ b 4 ((σ.1 b 4) - 1)) fun σ2 =>
  gd (inb (σ2.1 b 4) 10) (
  nm (σ2.1 ((b + 1)) (σ2.1 b 4).toNatClampNeg) fun v3 =>
  (lpN (f_Wa_takeFirst_L41 b v3) 1000 (0, 0, σ2)).bind fun x41 =>
  (f_Wa_seat b x41.2.2 v3 x41.1).bind fun σ6 =>
  gd (inb v1 10) ((nm (sI σ6 ((b + 2)) v1.toNatClampNeg ((-1))) fun σ7 =>
  some (v1, σ7))))))
set_option maxHeartbeats 4000000 in
set_option maxRecDepth 100000 in
theorem c_Wa_takeFirst (l : Launch) (D : va_G) (cA ad : Nat → Nat) {b : Nat} (hb : wB b) (σ : mS) (o : Int32 × mS) (h : f_Wa_takeFirst b σ = some o) : mCi l ⟨"LeastPaths$Waiting", "takeFirst", "()I"⟩ (Cond.code ⟨"LeastPaths$Waiting", "takeFirst", "()I"⟩ prog_8_method_6_code 6 (Option.some Jvm.ClassFile.FieldType.int) :: tlG) rm_Wa_takeFirst D clX (tyK cA) 99 (tbX cA) ad σ [.ref (ad b)] o := by
  intro sz
  refine m_of (cc := prog_8_method_6_code) (maxL := 6) (Qc := mQi D clX (tyK cA) 99 (tbX cA) ad o) (by decide) (Nat.le_of_ble_eq_true rfl) (fun p e s m args below meth c ls S hr hlk hnm hl M => ?_) sz
  have hl : lv_has ls 6 [(0, .ref (ad b))] := hl
  generalize hQ : MQ _ _ _ _ _ _ _ = Q
  skip
  unfold f_Wa_takeFirst at h
  refine lv_aload_n S.1 S.2.1 d_Wa_takeFirst_0 rfl (lv_at hl 0 rfl) ?_
  refine m_gi S M (j := 4) ok_Wa (lt_W0 hb) (tb_W0 hb) (by decide) rfl kw_17 rfl d_Wa_takeFirst_1 ?_
  refine m_ifne (tgt := 9) S d_Wa_takeFirst_4 (by decide) h (fun h => ?_) (fun h => ?_)
  · refine lv_aload_n S.1 S.2.1 d_Wa_takeFirst_9 rfl (lv_at hl 0 rfl) ?_
    refine m_gs (t := (b + 1)) S M (j := 1) ok_Wa (lt_W0 hb) (tb_W0 hb) (by decide) rfl kw_19 rfl d_Wa_takeFirst_10 ?_
    refine lv_iconst (v := 0) S.1 S.2.1 d_Wa_takeFirst_13 (by decide) ?_
    refine m_ial (t0 := 0) S M (lt_W1 hb) (tb_W1 hb) rfl h d_Wa_takeFirst_14 (fun h => ?_)
    refine m_ni h (fun v1 h => ?_)
    refine lv_istore_n (lv' := [(1, .int v1), (0, .ref (ad b))]) S.1 S.2.1 d_Wa_takeFirst_15 rfl hl (by decide) rfl (fun ls hl => ?_)
    refine lv_aload_n S.1 S.2.1 d_Wa_takeFirst_16 rfl (lv_at hl 1 rfl) ?_
    refine lv_dup S.1 S.2.1 d_Wa_takeFirst_17 rfl ?_
    refine m_gi S M (j := 4) ok_Wa (lt_W0 hb) (tb_W0 hb) (by decide) rfl kw_17 rfl d_Wa_takeFirst_18 ?_
    refine lv_iconst (v := 1) S.1 S.2.1 d_Wa_takeFirst_21 (by decide) ?_
    refine lv_isub S.1 S.2.1 d_Wa_takeFirst_22 ?_
    refine m_pi S M (j := 4) ok_Wa (lt_W0 hb) (tb_W0 hb) (by decide) rfl kw_17 rfl rfl rfl d_Wa_takeFirst_23 h (fun σ2 H locs h M => ?_)
    refine lv_aload_n S.1 S.2.1 d_Wa_takeFirst_26 rfl (lv_at hl 1 rfl) ?_
    refine m_gs (t := (b + 1)) S M (j := 1) ok_Wa (lt_W0 hb) (tb_W0 hb) (by decide) rfl kw_19 rfl d_Wa_takeFirst_27 ?_
    refine lv_aload_n S.1 S.2.1 d_Wa_takeFirst_30 rfl (lv_at hl 1 rfl) ?_
    refine m_gi S M (j := 4) ok_Wa (lt_W0 hb) (tb_W0 hb) (by decide) rfl kw_17 rfl d_Wa_takeFirst_31 ?_
    refine m_ial (t0 := 0) S M (lt_W1 hb) (tb_W1 hb) rfl h d_Wa_takeFirst_34 (fun h => ?_)
    refine m_ni h (fun v3 h => ?_)
    refine lv_istore_n (lv' := [(2, .int v3), (1, .int v1), (0, .ref (ad b))]) S.1 S.2.1 d_Wa_takeFirst_35 rfl hl (by decide) rfl (fun ls hl => ?_)
    refine lv_iconst (v := 0) S.1 S.2.1 d_Wa_takeFirst_36 (by decide) ?_
    refine lv_istore_n (lv' := [(3, .int 0), (2, .int v3), (1, .int v1), (0, .ref (ad b))]) S.1 S.2.1 d_Wa_takeFirst_37 rfl hl (by decide) rfl (fun ls hl => ?_)
    refine lv_iconst (v := 0) S.1 S.2.1 d_Wa_takeFirst_38 (by decide) ?_
    refine lv_istore (lv' := [(4, .int 0), (3, .int 0), (2, .int v3), (1, .int v1), (0, .ref (ad b))]) S.1 S.2.1 d_Wa_takeFirst_39 hl (by decide) rfl (fun ls hl => ?_)
    obtain ⟨x41, q41, h⟩ := Option.bind_eq_some_iff.mp h
    refine lpN_W1 (fun t41 => ∀ (ls : Array Slot) (H : Heap) (locs : List Loc), lv_has ls 6 [(4, .int t41.2.1), (3, .int t41.1), (2, .int v3), (1, .int v1), (0, .ref (ad b))] → mM D clX (tyK cA) (mA 99 ad s.heap.size) s 99 (tbX cA) ad t41.2.2 H locs → W p l e rm_Wa_takeFirst s m args below meth c H locs 0 0 Q (F0 m 41 ls [])) (fun x41 => ∀ (ls : Array Slot) (H : Heap) (locs : List Loc), lv_has ls 6 [(4, .int x41.2.1), (3, .int x41.1), (2, .int v3), (1, .int v1), (0, .ref (ad b))] → mM D clX (tyK cA) (mA 99 ad s.heap.size) s 99 (tbX cA) ad x41.2.2 H locs → W p l e rm_Wa_takeFirst s m args below meth c H locs 0 0 Q (F0 m 109 ls [])) ?_ _ _ x41 q41 ?_ ls _ _ (lv_sub hl [0, 1, 2, 3, 4] rfl) M
    · intro t41 o41 h K1 K2 ls H locs hl M
      unfold f_Wa_takeFirst_L41 at h
      refine lv_iload S.1 S.2.1 d_Wa_takeFirst_41 (lv_at hl 0 rfl) ?_
      refine lv_aload_n S.1 S.2.1 d_Wa_takeFirst_43 rfl (lv_at hl 4 rfl) ?_
      refine m_gi S M (j := 4) ok_Wa (lt_W0 hb) (tb_W0 hb) (by decide) rfl kw_17 rfl d_Wa_takeFirst_44 ?_
      refine m_ige (tgt := 109) S d_Wa_takeFirst_47 (by decide) h (fun h => ?_) (fun h => ?_)
      · exact K2 _ (Option.some.inj h).symm ls _ _ (lv_sub hl [0, 1, 2, 3, 4] rfl) M
      · refine lv_aload_n S.1 S.2.1 d_Wa_takeFirst_50 rfl (lv_at hl 4 rfl) ?_
        refine lv_iload_n S.1 S.2.1 d_Wa_takeFirst_51 rfl (lv_at hl 1 rfl) ?_
        refine m_xip h (fun o ho => m_rV (As := [.int t41.1]) (rest := []) S M hl.1 (cwG (n := 1) S.2.2.2.2 kw_28 kw_29 kw_30 kw_26 kw_31 (by decide) ⟨Nat.le_of_ble_eq_true rfl, Nat.le_of_ble_eq_true rfl⟩) ok_Wa (lt_W0 hb) (tb_W0 hb) (c_Wa_firstChild l D cA ad hb t41.2.2 t41.1 o ho H.size) rfl rfl (Nat.le_of_ble_eq_true rfl) d_Wa_takeFirst_52 ⟨Nat.zero_le _, Nat.zero_le _⟩) M (fun v4 H locs h M => ?_)
        refine lv_istore (lv' := [(5, .int v4), (4, .int t41.2.1), (3, .int t41.1), (2, .int v3), (1, .int v1), (0, .ref (ad b))]) S.1 S.2.1 d_Wa_takeFirst_55 hl (by decide) rfl (fun ls hl => ?_)
        refine lv_iload S.1 S.2.1 d_Wa_takeFirst_57 (lv_at hl 0 rfl) ?_
        refine lv_iconst (v := (-1)) S.1 S.2.1 d_Wa_takeFirst_59 (by decide) ?_
        refine m_ieq (tgt := 109) S d_Wa_takeFirst_60 (by decide) h (fun h => ?_) (fun h => ?_)
        · exact K2 _ (Option.some.inj h).symm ls _ _ (lv_sub hl [1, 2, 3, 4, 5] rfl) M
        · refine lv_aload_n S.1 S.2.1 d_Wa_takeFirst_63 rfl (lv_at hl 5 rfl) ?_
          refine m_gs (t := (b + 3)) S M (j := 3) ok_Wa (lt_W0 hb) (tb_W0 hb) (by decide) rfl kw_20 rfl d_Wa_takeFirst_64 ?_
          refine lv_aload_n S.1 S.2.1 d_Wa_takeFirst_67 rfl (lv_at hl 5 rfl) ?_
          refine m_gs (t := (b + 1)) S M (j := 1) ok_Wa (lt_W0 hb) (tb_W0 hb) (by decide) rfl kw_19 rfl d_Wa_takeFirst_68 ?_
          refine lv_iload S.1 S.2.1 d_Wa_takeFirst_71 (lv_at hl 0 rfl) ?_
          refine m_ial (t0 := 0) S M (lt_W1 hb) (tb_W1 hb) rfl h d_Wa_takeFirst_73 (fun h => ?_)
          refine m_lal (t0 := 1) S M (lt_W3 hb) (tb_W3 hb) rfl h d_Wa_takeFirst_74 (fun h => ?_)
          refine lv_aload_n S.1 S.2.1 d_Wa_takeFirst_75 rfl (lv_at hl 5 rfl) ?_
          refine m_gs (t := (b + 3)) S M (j := 3) ok_Wa (lt_W0 hb) (tb_W0 hb) (by decide) rfl kw_20 rfl d_Wa_takeFirst_76 ?_
          refine lv_iload_n S.1 S.2.1 d_Wa_takeFirst_79 rfl (lv_at hl 3 rfl) ?_
          refine m_lal (t0 := 1) S M (lt_W3 hb) (tb_W3 hb) rfl h d_Wa_takeFirst_80 (fun h => ?_)
          refine W.lcmp S.1 S.2.1 d_Wa_takeFirst_81 ?_
          refine m_ifle (tgt := 88) S d_Wa_takeFirst_82 (by decide) h (fun h => ?_) (fun h => ?_)
          · refine lv_aload_n S.1 S.2.1 d_Wa_takeFirst_88 rfl (lv_at hl 5 rfl) ?_
            refine lv_aload_n S.1 S.2.1 d_Wa_takeFirst_89 rfl (lv_at hl 5 rfl) ?_
            refine m_gs (t := (b + 1)) S M (j := 1) ok_Wa (lt_W0 hb) (tb_W0 hb) (by decide) rfl kw_19 rfl d_Wa_takeFirst_90 ?_
            refine lv_iload S.1 S.2.1 d_Wa_takeFirst_93 (lv_at hl 0 rfl) ?_
            refine m_ial (t0 := 0) S M (lt_W1 hb) (tb_W1 hb) rfl h d_Wa_takeFirst_95 (fun h => ?_)
            refine lv_iload_n S.1 S.2.1 d_Wa_takeFirst_96 rfl (lv_at hl 2 rfl) ?_
            refine m_xv h (fun o ho => m_rV (As := [.int (t41.2.2.1 ((b + 1)) v4.toNatClampNeg), .int t41.1]) (rest := []) S M hl.1 (cwG (n := 2) S.2.2.2.2 kw_23 kw_24 kw_25 kw_26 kw_27 (by decide) ⟨Nat.le_of_ble_eq_true rfl, Nat.le_of_ble_eq_true rfl⟩) ok_Wa (lt_W0 hb) (tb_W0 hb) (c_Wa_seat l D cA ad hb t41.2.2 (t41.2.2.1 ((b + 1)) v4.toNatClampNeg) t41.1 o ho H.size) rfl rfl (Nat.le_of_ble_eq_true rfl) d_Wa_takeFirst_97 ⟨Nat.zero_le _, Nat.zero_le _⟩) M (fun σ5 H locs h M => ?_)
            refine lv_iload S.1 S.2.1 d_Wa_takeFirst_100 (lv_at hl 0 rfl) ?_
            refine lv_istore_n (lv' := [(3, .int v4), (5, .int v4), (4, .int t41.2.1), (2, .int v3), (1, .int v1), (0, .ref (ad b))]) S.1 S.2.1 d_Wa_takeFirst_102 rfl hl (by decide) rfl (fun ls hl => ?_)
            refine lv_iinc (v := t41.2.1 + 1) (lv' := [(4, .int (t41.2.1 + 1)), (3, .int v4), (5, .int v4), (2, .int v3), (1, .int v1), (0, .ref (ad b))]) S.1 S.2.1 d_Wa_takeFirst_103 hl (k := 2) rfl rfl (by decide) rfl (fun ls hl => ?_)
            refine lv_goto (tgt := 41) S.1 S.2.1 d_Wa_takeFirst_106 (by decide) ?_
            exact K1 _ (Option.some.inj h).symm ls _ _ (lv_sub hl [0, 1, 3, 4, 5] rfl) M
          · refine lv_goto (tgt := 109) S.1 S.2.1 d_Wa_takeFirst_85 (by decide) ?_
            exact K2 _ (Option.some.inj h).symm ls _ _ (lv_sub hl [1, 2, 3, 4, 5] rfl) M
    · intro ls H locs hl M
      refine lv_aload_n S.1 S.2.1 d_Wa_takeFirst_109 rfl (lv_at hl 4 rfl) ?_
      refine lv_iload_n S.1 S.2.1 d_Wa_takeFirst_110 rfl (lv_at hl 2 rfl) ?_
      refine lv_iload_n S.1 S.2.1 d_Wa_takeFirst_111 rfl (lv_at hl 1 rfl) ?_
      refine m_xv h (fun o ho => m_rV (As := [.int v3, .int x41.1]) (rest := []) S M hl.1 (cwG (n := 2) S.2.2.2.2 kw_23 kw_24 kw_25 kw_26 kw_27 (by decide) ⟨Nat.le_of_ble_eq_true rfl, Nat.le_of_ble_eq_true rfl⟩) ok_Wa (lt_W0 hb) (tb_W0 hb) (c_Wa_seat l D cA ad hb x41.2.2 v3 x41.1 o ho H.size) rfl rfl (Nat.le_of_ble_eq_true rfl) d_Wa_takeFirst_112 ⟨Nat.zero_le _, Nat.zero_le _⟩) M (fun σ6 H locs h M => ?_)
      refine lv_aload_n S.1 S.2.1 d_Wa_takeFirst_115 rfl (lv_at hl 4 rfl) ?_
      refine m_gs (t := (b + 2)) S M (j := 2) ok_Wa (lt_W0 hb) (tb_W0 hb) (by decide) rfl kw_18 rfl d_Wa_takeFirst_116 ?_
      refine lv_iload_n S.1 S.2.1 d_Wa_takeFirst_119 rfl (lv_at hl 3 rfl) ?_
      refine lv_iconst (v := (-1)) S.1 S.2.1 d_Wa_takeFirst_120 (by decide) ?_
      refine m_ias (t0 := 0) S M (lt_W2 hb) (tb_W2 hb) rfl h d_Wa_takeFirst_121 (fun σ7 H locs h M => ?_)
      refine lv_iload_n S.1 S.2.1 d_Wa_takeFirst_122 rfl (lv_at hl 3 rfl) ?_
      subst hQ; exact m_iret S hr hlk M (Option.some.inj h) d_Wa_takeFirst_123
  · refine lv_iconst (v := (-1)) S.1 S.2.1 d_Wa_takeFirst_7 (by decide) ?_
    subst hQ; exact m_iret S hr hlk M (Option.some.inj h) d_Wa_takeFirst_8
end
section
theorem d_Wy_begin_0 : decode prog_9_method_2_code 0 = .ok (.aload_n 0, 1) := by decide +kernel
theorem d_Wy_begin_1 : decode prog_9_method_2_code 1 = .ok (.iconst 0, 1) := by decide +kernel
theorem d_Wy_begin_2 : decode prog_9_method_2_code 2 = .ok (.putfield 15, 3) := by decide +kernel
theorem d_Wy_begin_5 : decode prog_9_method_2_code 5 = .ok (.aload_n 0, 1) := by decide +kernel
theorem d_Wy_begin_6 : decode prog_9_method_2_code 6 = .ok (.iconst 0, 1) := by decide +kernel
theorem d_Wy_begin_7 : decode prog_9_method_2_code 7 = .ok (.putfield 19, 3) := by decide +kernel
theorem d_Wy_begin_10 : decode prog_9_method_2_code 10 = .ok (.aload_n 0, 1) := by decide +kernel
theorem d_Wy_begin_11 : decode prog_9_method_2_code 11 = .ok (.iload_n 1, 1) := by decide +kernel
theorem d_Wy_begin_12 : decode prog_9_method_2_code 12 = .ok (.putfield 22, 3) := by decide +kernel
theorem d_Wy_begin_15 : decode prog_9_method_2_code 15 = .ok (.aload_n 0, 1) := by decide +kernel
theorem d_Wy_begin_16 : decode prog_9_method_2_code 16 = .ok (.lload_n 2, 1) := by decide +kernel
theorem d_Wy_begin_17 : decode prog_9_method_2_code 17 = .ok (.putfield 25, 3) := by decide +kernel
theorem d_Wy_begin_20 : decode prog_9_method_2_code 20 = .ok (.return_, 1) := by decide +kernel
def rm_Wy_begin : Room := { frames := 0, cells := 0, slots := 0, locals := 0 }
def f_Wy_begin (w : Nat) (σ : mS) (x1 : Int32) (x2 : Int64) : Option (mS) :=
  nm (sI σ w 1 0) fun σ1 =>
  nm (sI σ1 w 2 0) fun σ2 =>
  nm (sI σ2 w 3 x1) fun σ3 =>
  nm (sJ σ3 w 4 x2) fun σ4 =>
  some σ4
set_option maxHeartbeats 4000000 in
set_option maxRecDepth 100000 in
theorem c_Wy_begin (l : Launch) (D : va_G) (cA ad : Nat → Nat) {w : Nat} (hw : wy w = true) (σ : mS) (x1 : Int32) (x2 : Int64) (o : mS) (h : f_Wy_begin w σ x1 x2 = some o) : mCv l ⟨"LeastPaths$Way", "begin", "(IJ)V"⟩ (Cond.code ⟨"LeastPaths$Way", "begin", "(IJ)V"⟩ prog_9_method_2_code 4 (Option.none : Option Jvm.ClassFile.FieldType) :: tlG) rm_Wy_begin D clX (tyK cA) 99 (tbX cA) ad σ [.ref (ad w), .int x1, .long x2] o := by
  intro sz
  refine m_of (cc := prog_9_method_2_code) (maxL := 4) (Qc := mQv D clX (tyK cA) 99 (tbX cA) ad o) (by decide) (Nat.le_of_ble_eq_true rfl) (fun p e s m args below meth c ls S hr hlk hnm hl M => ?_) sz
  have hl : lv_has ls 4 [(0, .ref (ad w)), (1, .int x1), (2, .long x2)] := hl
  generalize hQ : MQ _ _ _ _ _ _ _ = Q
  skip
  unfold f_Wy_begin at h
  refine lv_aload_n S.1 S.2.1 d_Wy_begin_0 rfl (lv_at hl 0 rfl) ?_
  refine lv_iconst (v := 0) S.1 S.2.1 d_Wy_begin_1 (by decide) ?_
  refine m_pi S M (j := 1) ok_Wy (lt_Y0 hw) (tb_Y0 hw) (by decide) rfl kw_32 rfl rfl rfl d_Wy_begin_2 h (fun σ1 H locs h M => ?_)
  refine lv_aload_n S.1 S.2.1 d_Wy_begin_5 rfl (lv_at hl 0 rfl) ?_
  refine lv_iconst (v := 0) S.1 S.2.1 d_Wy_begin_6 (by decide) ?_
  refine m_pi S M (j := 2) ok_Wy (lt_Y0 hw) (tb_Y0 hw) (by decide) rfl kw_33 rfl rfl rfl d_Wy_begin_7 h (fun σ2 H locs h M => ?_)
  refine lv_aload_n S.1 S.2.1 d_Wy_begin_10 rfl (lv_at hl 0 rfl) ?_
  refine lv_iload_n S.1 S.2.1 d_Wy_begin_11 rfl (lv_at hl 1 rfl) ?_
  refine m_pi S M (j := 3) ok_Wy (lt_Y0 hw) (tb_Y0 hw) (by decide) rfl kw_34 rfl rfl rfl d_Wy_begin_12 h (fun σ3 H locs h M => ?_)
  refine lv_aload_n S.1 S.2.1 d_Wy_begin_15 rfl (lv_at hl 0 rfl) ?_
  refine lv_lload_n S.1 S.2.1 d_Wy_begin_16 rfl (lv_at hl 2 rfl) ?_
  refine m_pl S M (j := 4) ok_Wy (lt_Y0 hw) (tb_Y0 hw) (by decide) rfl kw_35 rfl rfl rfl d_Wy_begin_17 h (fun σ4 H locs h M => ?_)
  subst hQ; exact m_vret S hr hlk M (Option.some.inj h) d_Wy_begin_20
theorem d_Wy_add_0 : decode prog_9_method_3_code 0 = .ok (.aload_n 0, 1) := by decide +kernel
theorem d_Wy_add_1 : decode prog_9_method_3_code 1 = .ok (.getfield 15, 3) := by decide +kernel
theorem d_Wy_add_4 : decode prog_9_method_3_code 4 = .ok (.bipush 10, 2) := by decide +kernel
theorem d_Wy_add_6 : decode prog_9_method_3_code 6 = .ok (.if_icmp .ge 38, 3) := by decide +kernel
theorem d_Wy_add_9 : decode prog_9_method_3_code 9 = .ok (.aload_n 0, 1) := by decide +kernel
theorem d_Wy_add_10 : decode prog_9_method_3_code 10 = .ok (.getfield 9, 3) := by decide +kernel
theorem d_Wy_add_13 : decode prog_9_method_3_code 13 = .ok (.aload_n 0, 1) := by decide +kernel
theorem d_Wy_add_14 : decode prog_9_method_3_code 14 = .ok (.getfield 15, 3) := by decide +kernel
theorem d_Wy_add_17 : decode prog_9_method_3_code 17 = .ok (.iload_n 1, 1) := by decide +kernel
theorem d_Wy_add_18 : decode prog_9_method_3_code 18 = .ok (.iastore, 1) := by decide +kernel
theorem d_Wy_add_19 : decode prog_9_method_3_code 19 = .ok (.aload_n 0, 1) := by decide +kernel
theorem d_Wy_add_20 : decode prog_9_method_3_code 20 = .ok (.dup, 1) := by decide +kernel
theorem d_Wy_add_21 : decode prog_9_method_3_code 21 = .ok (.getfield 15, 3) := by decide +kernel
theorem d_Wy_add_24 : decode prog_9_method_3_code 24 = .ok (.iconst 1, 1) := by decide +kernel
theorem d_Wy_add_25 : decode prog_9_method_3_code 25 = .ok (.iadd, 1) := by decide +kernel
theorem d_Wy_add_26 : decode prog_9_method_3_code 26 = .ok (.putfield 15, 3) := by decide +kernel
theorem d_Wy_add_29 : decode prog_9_method_3_code 29 = .ok (.aload_n 0, 1) := by decide +kernel
theorem d_Wy_add_30 : decode prog_9_method_3_code 30 = .ok (.dup, 1) := by decide +kernel
theorem d_Wy_add_31 : decode prog_9_method_3_code 31 = .ok (.getfield 19, 3) := by decide +kernel
theorem d_Wy_add_34 : decode prog_9_method_3_code 34 = .ok (.iload_n 2, 1) := by decide +kernel
theorem d_Wy_add_35 : decode prog_9_method_3_code 35 = .ok (.bipush 16, 2) := by decide +kernel
theorem d_Wy_add_37 : decode prog_9_method_3_code 37 = .ok (.imul, 1) := by decide +kernel
theorem d_Wy_add_38 : decode prog_9_method_3_code 38 = .ok (.iconst 1, 1) := by decide +kernel
theorem d_Wy_add_39 : decode prog_9_method_3_code 39 = .ok (.iadd, 1) := by decide +kernel
theorem d_Wy_add_40 : decode prog_9_method_3_code 40 = .ok (.iadd, 1) := by decide +kernel
theorem d_Wy_add_41 : decode prog_9_method_3_code 41 = .ok (.putfield 19, 3) := by decide +kernel
theorem d_Wy_add_44 : decode prog_9_method_3_code 44 = .ok (.return_, 1) := by decide +kernel
def rm_Wy_add : Room := { frames := 0, cells := 0, slots := 0, locals := 0 }
def f_Wy_add (w : Nat) (σ : mS) (x1 : Int32) (x2 : Int32) : Option (mS) :=
  if 10 ≤ (σ.1 w 1) then (
  some σ) else (
  gd (inb (σ.1 w 1) 10) ((nm (sI σ ((w + 1)) (σ.1 w 1).toNatClampNeg x1) fun σ1 =>
  nm (sI σ1 w 1 ((σ1.1 w 1) + 1)) fun σ2 =>
  nm (sI σ2 w 2 ((σ2.1 w 2) + ((x2 * 16) + 1))) fun σ3 =>
  some σ3)))
set_option maxHeartbeats 4000000 in
set_option maxRecDepth 100000 in
theorem c_Wy_add (l : Launch) (D : va_G) (cA ad : Nat → Nat) {w : Nat} (hw : wy w = true) (σ : mS) (x1 : Int32) (x2 : Int32) (o : mS) (h : f_Wy_add w σ x1 x2 = some o) : mCv l ⟨"LeastPaths$Way", "add", "(II)V"⟩ (Cond.code ⟨"LeastPaths$Way", "add", "(II)V"⟩ prog_9_method_3_code 3 (Option.none : Option Jvm.ClassFile.FieldType) :: tlG) rm_Wy_add D clX (tyK cA) 99 (tbX cA) ad σ [.ref (ad w), .int x1, .int x2] o := by
  intro sz
  refine m_of (cc := prog_9_method_3_code) (maxL := 3) (Qc := mQv D clX (tyK cA) 99 (tbX cA) ad o) (by decide) (Nat.le_of_ble_eq_true rfl) (fun p e s m args below meth c ls S hr hlk hnm hl M => ?_) sz
  have hl : lv_has ls 3 [(0, .ref (ad w)), (1, .int x1), (2, .int x2)] := hl
  generalize hQ : MQ _ _ _ _ _ _ _ = Q
  skip
  unfold f_Wy_add at h
  refine lv_aload_n S.1 S.2.1 d_Wy_add_0 rfl (lv_at hl 0 rfl) ?_
  refine m_gi S M (j := 1) ok_Wy (lt_Y0 hw) (tb_Y0 hw) (by decide) rfl kw_32 rfl d_Wy_add_1 ?_
  refine lv_bipush (v := 10) S.1 S.2.1 d_Wy_add_4 (by decide) ?_
  refine m_ige (tgt := 44) S d_Wy_add_6 (by decide) h (fun h => ?_) (fun h => ?_)
  · subst hQ; exact m_vret S hr hlk M (Option.some.inj h) d_Wy_add_44
  · refine lv_aload_n S.1 S.2.1 d_Wy_add_9 rfl (lv_at hl 0 rfl) ?_
    refine m_gs (t := (w + 1)) S M (j := 0) ok_Wy (lt_Y0 hw) (tb_Y0 hw) (by decide) rfl kw_36 rfl d_Wy_add_10 ?_
    refine lv_aload_n S.1 S.2.1 d_Wy_add_13 rfl (lv_at hl 0 rfl) ?_
    refine m_gi S M (j := 1) ok_Wy (lt_Y0 hw) (tb_Y0 hw) (by decide) rfl kw_32 rfl d_Wy_add_14 ?_
    refine lv_iload_n S.1 S.2.1 d_Wy_add_17 rfl (lv_at hl 1 rfl) ?_
    refine m_ias (t0 := 0) S M (lt_Y1 hw) (tb_Y1 hw) rfl h d_Wy_add_18 (fun σ1 H locs h M => ?_)
    refine lv_aload_n S.1 S.2.1 d_Wy_add_19 rfl (lv_at hl 0 rfl) ?_
    refine lv_dup S.1 S.2.1 d_Wy_add_20 rfl ?_
    refine m_gi S M (j := 1) ok_Wy (lt_Y0 hw) (tb_Y0 hw) (by decide) rfl kw_32 rfl d_Wy_add_21 ?_
    refine lv_iconst (v := 1) S.1 S.2.1 d_Wy_add_24 (by decide) ?_
    refine lv_iadd S.1 S.2.1 d_Wy_add_25 ?_
    refine m_pi S M (j := 1) ok_Wy (lt_Y0 hw) (tb_Y0 hw) (by decide) rfl kw_32 rfl rfl rfl d_Wy_add_26 h (fun σ2 H locs h M => ?_)
    refine lv_aload_n S.1 S.2.1 d_Wy_add_29 rfl (lv_at hl 0 rfl) ?_
    refine lv_dup S.1 S.2.1 d_Wy_add_30 rfl ?_
    refine m_gi S M (j := 2) ok_Wy (lt_Y0 hw) (tb_Y0 hw) (by decide) rfl kw_33 rfl d_Wy_add_31 ?_
    refine lv_iload_n S.1 S.2.1 d_Wy_add_34 rfl (lv_at hl 2 rfl) ?_
    refine lv_bipush (v := 16) S.1 S.2.1 d_Wy_add_35 (by decide) ?_
    refine lv_imul S.1 S.2.1 d_Wy_add_37 ?_
    refine lv_iconst (v := 1) S.1 S.2.1 d_Wy_add_38 (by decide) ?_
    refine lv_iadd S.1 S.2.1 d_Wy_add_39 ?_
    refine lv_iadd S.1 S.2.1 d_Wy_add_40 ?_
    refine m_pi S M (j := 2) ok_Wy (lt_Y0 hw) (tb_Y0 hw) (by decide) rfl kw_33 rfl rfl rfl d_Wy_add_41 h (fun σ3 H locs h M => ?_)
    subst hQ; exact m_vret S hr hlk M (Option.some.inj h) d_Wy_add_44
theorem d_Wy_arcAt_0 : decode prog_9_method_4_code 0 = .ok (.iload_n 1, 1) := by decide +kernel
theorem d_Wy_arcAt_1 : decode prog_9_method_4_code 1 = .ok (.ifCond .lt 20, 3) := by decide +kernel
theorem d_Wy_arcAt_4 : decode prog_9_method_4_code 4 = .ok (.iload_n 1, 1) := by decide +kernel
theorem d_Wy_arcAt_5 : decode prog_9_method_4_code 5 = .ok (.aload_n 0, 1) := by decide +kernel
theorem d_Wy_arcAt_6 : decode prog_9_method_4_code 6 = .ok (.getfield 15, 3) := by decide +kernel
theorem d_Wy_arcAt_9 : decode prog_9_method_4_code 9 = .ok (.if_icmp .ge 12, 3) := by decide +kernel
theorem d_Wy_arcAt_12 : decode prog_9_method_4_code 12 = .ok (.aload_n 0, 1) := by decide +kernel
theorem d_Wy_arcAt_13 : decode prog_9_method_4_code 13 = .ok (.getfield 9, 3) := by decide +kernel
theorem d_Wy_arcAt_16 : decode prog_9_method_4_code 16 = .ok (.iload_n 1, 1) := by decide +kernel
theorem d_Wy_arcAt_17 : decode prog_9_method_4_code 17 = .ok (.iaload, 1) := by decide +kernel
theorem d_Wy_arcAt_18 : decode prog_9_method_4_code 18 = .ok (.goto 4, 3) := by decide +kernel
theorem d_Wy_arcAt_21 : decode prog_9_method_4_code 21 = .ok (.iconst (-1), 1) := by decide +kernel
theorem d_Wy_arcAt_22 : decode prog_9_method_4_code 22 = .ok (.ireturn, 1) := by decide +kernel
def rm_Wy_arcAt : Room := { frames := 0, cells := 0, slots := 0, locals := 0 }
def f_Wy_arcAt (w : Nat) (σ : mS) (x1 : Int32) : Option (Int32) :=
  if x1 < 0 then (
  some ((-1))) else (
  if (σ.1 w 1) ≤ x1 then (
  some ((-1))) else (
  gd (inb x1 10) (
  some (σ.1 ((w + 1)) x1.toNatClampNeg))))
set_option maxHeartbeats 4000000 in
set_option maxRecDepth 100000 in
theorem c_Wy_arcAt (l : Launch) (D : va_G) (cA ad : Nat → Nat) {w : Nat} (hw : wy w = true) (σ : mS) (x1 : Int32) (o : Int32) (h : f_Wy_arcAt w σ x1 = some o) : mCi l ⟨"LeastPaths$Way", "arcAt", "(I)I"⟩ (Cond.code ⟨"LeastPaths$Way", "arcAt", "(I)I"⟩ prog_9_method_4_code 2 (Option.some Jvm.ClassFile.FieldType.int) :: tlG) rm_Wy_arcAt D clX (tyK cA) 99 (tbX cA) ad σ [.ref (ad w), .int x1] (o, σ) := by
  intro sz
  refine m_of (cc := prog_9_method_4_code) (maxL := 2) (Qc := mQi D clX (tyK cA) 99 (tbX cA) ad (o, σ)) (by decide) (Nat.le_of_ble_eq_true rfl) (fun p e s m args below meth c ls S hr hlk hnm hl M => ?_) sz
  have hl : lv_has ls 2 [(0, .ref (ad w)), (1, .int x1)] := hl
  generalize hQ : MQ _ _ _ _ _ _ _ = Q
  skip
  unfold f_Wy_arcAt at h
  refine lv_iload_n S.1 S.2.1 d_Wy_arcAt_0 rfl (lv_at hl 1 rfl) ?_
  refine m_iflt (tgt := 21) S d_Wy_arcAt_1 (by decide) h (fun h => ?_) (fun h => ?_)
  · refine lv_iconst (v := (-1)) S.1 S.2.1 d_Wy_arcAt_21 (by decide) ?_
    subst hQ; exact m_iret S hr hlk M (by rw [Option.some.inj h]) d_Wy_arcAt_22
  · refine lv_iload_n S.1 S.2.1 d_Wy_arcAt_4 rfl (lv_at hl 1 rfl) ?_
    refine lv_aload_n S.1 S.2.1 d_Wy_arcAt_5 rfl (lv_at hl 0 rfl) ?_
    refine m_gi S M (j := 1) ok_Wy (lt_Y0 hw) (tb_Y0 hw) (by decide) rfl kw_32 rfl d_Wy_arcAt_6 ?_
    refine m_ige (tgt := 21) S d_Wy_arcAt_9 (by decide) h (fun h => ?_) (fun h => ?_)
    · refine lv_iconst (v := (-1)) S.1 S.2.1 d_Wy_arcAt_21 (by decide) ?_
      subst hQ; exact m_iret S hr hlk M (by rw [Option.some.inj h]) d_Wy_arcAt_22
    · refine lv_aload_n S.1 S.2.1 d_Wy_arcAt_12 rfl (lv_at hl 0 rfl) ?_
      refine m_gs (t := (w + 1)) S M (j := 0) ok_Wy (lt_Y0 hw) (tb_Y0 hw) (by decide) rfl kw_36 rfl d_Wy_arcAt_13 ?_
      refine lv_iload_n S.1 S.2.1 d_Wy_arcAt_16 rfl (lv_at hl 1 rfl) ?_
      refine m_ial (t0 := 0) S M (lt_Y1 hw) (tb_Y1 hw) rfl h d_Wy_arcAt_17 (fun h => ?_)
      refine lv_goto (tgt := 22) S.1 S.2.1 d_Wy_arcAt_18 (by decide) ?_
      subst hQ; exact m_iret S hr hlk M (by rw [Option.some.inj h]) d_Wy_arcAt_22
theorem d_Wy_isBefore_0 : decode prog_9_method_5_code 0 = .ok (.aload_n 0, 1) := by decide +kernel
theorem d_Wy_isBefore_1 : decode prog_9_method_5_code 1 = .ok (.getfield 19, 3) := by decide +kernel
theorem d_Wy_isBefore_4 : decode prog_9_method_5_code 4 = .ok (.aload_n 1, 1) := by decide +kernel
theorem d_Wy_isBefore_5 : decode prog_9_method_5_code 5 = .ok (.getfield 19, 3) := by decide +kernel
theorem d_Wy_isBefore_8 : decode prog_9_method_5_code 8 = .ok (.if_icmp .eq 20, 3) := by decide +kernel
theorem d_Wy_isBefore_11 : decode prog_9_method_5_code 11 = .ok (.aload_n 0, 1) := by decide +kernel
theorem d_Wy_isBefore_12 : decode prog_9_method_5_code 12 = .ok (.getfield 19, 3) := by decide +kernel
theorem d_Wy_isBefore_15 : decode prog_9_method_5_code 15 = .ok (.aload_n 1, 1) := by decide +kernel
theorem d_Wy_isBefore_16 : decode prog_9_method_5_code 16 = .ok (.getfield 19, 3) := by decide +kernel
theorem d_Wy_isBefore_19 : decode prog_9_method_5_code 19 = .ok (.if_icmp .ge 7, 3) := by decide +kernel
theorem d_Wy_isBefore_22 : decode prog_9_method_5_code 22 = .ok (.iconst 1, 1) := by decide +kernel
theorem d_Wy_isBefore_23 : decode prog_9_method_5_code 23 = .ok (.goto 4, 3) := by decide +kernel
theorem d_Wy_isBefore_26 : decode prog_9_method_5_code 26 = .ok (.iconst 0, 1) := by decide +kernel
theorem d_Wy_isBefore_27 : decode prog_9_method_5_code 27 = .ok (.ireturn, 1) := by decide +kernel
theorem d_Wy_isBefore_28 : decode prog_9_method_5_code 28 = .ok (.iconst 0, 1) := by decide +kernel
theorem d_Wy_isBefore_29 : decode prog_9_method_5_code 29 = .ok (.istore_n 2, 1) := by decide +kernel
theorem d_Wy_isBefore_30 : decode prog_9_method_5_code 30 = .ok (.iload_n 2, 1) := by decide +kernel
theorem d_Wy_isBefore_31 : decode prog_9_method_5_code 31 = .ok (.aload_n 0, 1) := by decide +kernel
theorem d_Wy_isBefore_32 : decode prog_9_method_5_code 32 = .ok (.getfield 15, 3) := by decide +kernel
theorem d_Wy_isBefore_35 : decode prog_9_method_5_code 35 = .ok (.if_icmp .ge 45, 3) := by decide +kernel
theorem d_Wy_isBefore_38 : decode prog_9_method_5_code 38 = .ok (.aload_n 0, 1) := by decide +kernel
theorem d_Wy_isBefore_39 : decode prog_9_method_5_code 39 = .ok (.getfield 9, 3) := by decide +kernel
theorem d_Wy_isBefore_42 : decode prog_9_method_5_code 42 = .ok (.iload_n 2, 1) := by decide +kernel
theorem d_Wy_isBefore_43 : decode prog_9_method_5_code 43 = .ok (.iaload, 1) := by decide +kernel
theorem d_Wy_isBefore_44 : decode prog_9_method_5_code 44 = .ok (.aload_n 1, 1) := by decide +kernel
theorem d_Wy_isBefore_45 : decode prog_9_method_5_code 45 = .ok (.getfield 9, 3) := by decide +kernel
theorem d_Wy_isBefore_48 : decode prog_9_method_5_code 48 = .ok (.iload_n 2, 1) := by decide +kernel
theorem d_Wy_isBefore_49 : decode prog_9_method_5_code 49 = .ok (.iaload, 1) := by decide +kernel
theorem d_Wy_isBefore_50 : decode prog_9_method_5_code 50 = .ok (.if_icmp .eq 24, 3) := by decide +kernel
theorem d_Wy_isBefore_53 : decode prog_9_method_5_code 53 = .ok (.aload_n 0, 1) := by decide +kernel
theorem d_Wy_isBefore_54 : decode prog_9_method_5_code 54 = .ok (.getfield 9, 3) := by decide +kernel
theorem d_Wy_isBefore_57 : decode prog_9_method_5_code 57 = .ok (.iload_n 2, 1) := by decide +kernel
theorem d_Wy_isBefore_58 : decode prog_9_method_5_code 58 = .ok (.iaload, 1) := by decide +kernel
theorem d_Wy_isBefore_59 : decode prog_9_method_5_code 59 = .ok (.aload_n 1, 1) := by decide +kernel
theorem d_Wy_isBefore_60 : decode prog_9_method_5_code 60 = .ok (.getfield 9, 3) := by decide +kernel
theorem d_Wy_isBefore_63 : decode prog_9_method_5_code 63 = .ok (.iload_n 2, 1) := by decide +kernel
theorem d_Wy_isBefore_64 : decode prog_9_method_5_code 64 = .ok (.iaload, 1) := by decide +kernel
theorem d_Wy_isBefore_65 : decode prog_9_method_5_code 65 = .ok (.if_icmp .ge 7, 3) := by decide +kernel
theorem d_Wy_isBefore_68 : decode prog_9_method_5_code 68 = .ok (.iconst 1, 1) := by decide +kernel
theorem d_Wy_isBefore_69 : decode prog_9_method_5_code 69 = .ok (.goto 4, 3) := by decide +kernel
theorem d_Wy_isBefore_72 : decode prog_9_method_5_code 72 = .ok (.iconst 0, 1) := by decide +kernel
theorem d_Wy_isBefore_73 : decode prog_9_method_5_code 73 = .ok (.ireturn, 1) := by decide +kernel
theorem d_Wy_isBefore_74 : decode prog_9_method_5_code 74 = .ok (.iinc 2 1, 3) := by decide +kernel
theorem d_Wy_isBefore_77 : decode prog_9_method_5_code 77 = .ok (.goto (-47), 3) := by decide +kernel
theorem d_Wy_isBefore_80 : decode prog_9_method_5_code 80 = .ok (.iconst 0, 1) := by decide +kernel
theorem d_Wy_isBefore_81 : decode prog_9_method_5_code 81 = .ok (.ireturn, 1) := by decide +kernel
def rm_Wy_isBefore : Room := { frames := 0, cells := 0, slots := 0, locals := 0 }
def f_Wy_isBefore_L30 (σ : mS) (w : Nat) (w1 : Nat) : (Int32) → Option ((Int32) ⊕ ((Int32) ⊕ (Int32))) := fun t30 =>
  if (σ.1 w 1) ≤ t30 then (
  some (.inr (.inr 0))) else (
  gd (inb t30 10) (
  gd (inb t30 10) (
  if (σ.1 ((w + 1)) t30.toNatClampNeg) = (σ.1 ((w1 + 1)) t30.toNatClampNeg) then (
  some (.inl (t30 + 1))) else (
  some (.inr (.inl (t30)))))))
def f_Wy_isBefore (w : Nat) (σ : mS) (w1 : Nat) : Option (Int32) :=
  if (σ.1 w 2) = (σ.1 w1 2) then (
  (lpN (f_Wy_isBefore_L30 σ w w1) 1000 (0)).bind fun x30 => Sum.elim (fun e30 =>
  gd (inb e30 10) (
  gd (inb e30 10) (
  if (σ.1 ((w1 + 1)) e30.toNatClampNeg) ≤ (σ.1 ((w + 1)) e30.toNatClampNeg) then (
  some 0) else (
  some 1))))
  (fun y30 => some y30) x30) else (
  if (σ.1 w1 2) ≤ (σ.1 w 2) then (
  some 0) else (
  some 1))
set_option maxHeartbeats 4000000 in
set_option maxRecDepth 100000 in
theorem c_Wy_isBefore (l : Launch) (D : va_G) (cA ad : Nat → Nat) {w : Nat} (hw : wy w = true) {w1 : Nat} (hw1 : wy w1 = true) (σ : mS) (o : Int32) (h : f_Wy_isBefore w σ w1 = some o) : mCi l ⟨"LeastPaths$Way", "isBefore", "(LLeastPaths$Way;)Z"⟩ (Cond.code ⟨"LeastPaths$Way", "isBefore", "(LLeastPaths$Way;)Z"⟩ prog_9_method_5_code 3 (Option.some Jvm.ClassFile.FieldType.boolean) :: tlG) rm_Wy_isBefore D clX (tyK cA) 99 (tbX cA) ad σ [.ref (ad w), .ref (ad w1)] (o, σ) := by
  intro sz
  refine m_of (cc := prog_9_method_5_code) (maxL := 3) (Qc := mQi D clX (tyK cA) 99 (tbX cA) ad (o, σ)) (by decide) (Nat.le_of_ble_eq_true rfl) (fun p e s m args below meth c ls S hr hlk hnm hl M => ?_) sz
  have hl : lv_has ls 3 [(0, .ref (ad w)), (1, .ref (ad w1))] := hl
  generalize hQ : MQ _ _ _ _ _ _ _ = Q
  skip
  unfold f_Wy_isBefore at h
  refine lv_aload_n S.1 S.2.1 d_Wy_isBefore_0 rfl (lv_at hl 0 rfl) ?_
  refine m_gi S M (j := 2) ok_Wy (lt_Y0 hw) (tb_Y0 hw) (by decide) rfl kw_33 rfl d_Wy_isBefore_1 ?_
  refine lv_aload_n S.1 S.2.1 d_Wy_isBefore_4 rfl (lv_at hl 1 rfl) ?_
  refine m_gi S M (j := 2) ok_Wy (lt_Y0 hw1) (tb_Y0 hw1) (by decide) rfl kw_33 rfl d_Wy_isBefore_5 ?_
  refine m_ieq (tgt := 28) S d_Wy_isBefore_8 (by decide) h (fun h => ?_) (fun h => ?_)
  · refine lv_iconst (v := 0) S.1 S.2.1 d_Wy_isBefore_28 (by decide) ?_
    refine lv_istore_n (lv' := [(2, .int 0), (0, .ref (ad w)), (1, .ref (ad w1))]) S.1 S.2.1 d_Wy_isBefore_29 rfl hl (by decide) rfl (fun ls hl => ?_)
    obtain ⟨x30, q30, h⟩ := Option.bind_eq_some_iff.mp h
    refine lpN_W2 (fun t30 => ∀ (ls : Array Slot) (H : Heap) (locs : List Loc), lv_has ls 3 [(2, .int t30), (0, .ref (ad w)), (1, .ref (ad w1))] → mM D clX (tyK cA) (mA 99 ad s.heap.size) s 99 (tbX cA) ad σ H locs → W p l e rm_Wy_isBefore s m args below meth c H locs 0 0 Q (F0 m 30 ls [])) (fun e30 => ∀ (ls : Array Slot) (H : Heap) (locs : List Loc), lv_has ls 3 [(2, .int e30), (0, .ref (ad w)), (1, .ref (ad w1))] → mM D clX (tyK cA) (mA 99 ad s.heap.size) s 99 (tbX cA) ad σ H locs → W p l e rm_Wy_isBefore s m args below meth c H locs 0 0 Q (F0 m 53 ls [])) (fun (y30 : Int32) => ∀ (pc : Nat) (ls : Array Slot) (H : Heap) (locs : List Loc), decode prog_9_method_5_code pc = .ok (.ireturn, 1) → isB y30 = true → mM D clX (tyK cA) (mA 99 ad s.heap.size) s 99 (tbX cA) ad σ H locs → W p l e rm_Wy_isBefore s m args below meth c H locs 0 0 Q (F0 m pc ls [.int y30])) ?_ _ _ x30 q30 ?_ ?_ ls _ _ (lv_sub hl [0, 1, 2] rfl) M
    · intro t30 o30 h K1 K2 K3 ls H locs hl M
      unfold f_Wy_isBefore_L30 at h
      refine lv_iload_n S.1 S.2.1 d_Wy_isBefore_30 rfl (lv_at hl 0 rfl) ?_
      refine lv_aload_n S.1 S.2.1 d_Wy_isBefore_31 rfl (lv_at hl 1 rfl) ?_
      refine m_gi S M (j := 1) ok_Wy (lt_Y0 hw) (tb_Y0 hw) (by decide) rfl kw_32 rfl d_Wy_isBefore_32 ?_
      refine m_ige (tgt := 80) S d_Wy_isBefore_35 (by decide) h (fun h => ?_) (fun h => ?_)
      · refine lv_iconst (v := 0) S.1 S.2.1 d_Wy_isBefore_80 (by decide) ?_
        exact K3 _ (Option.some.inj h).symm _ ls _ _ d_Wy_isBefore_81 rfl M
      · refine lv_aload_n S.1 S.2.1 d_Wy_isBefore_38 rfl (lv_at hl 1 rfl) ?_
        refine m_gs (t := (w + 1)) S M (j := 0) ok_Wy (lt_Y0 hw) (tb_Y0 hw) (by decide) rfl kw_36 rfl d_Wy_isBefore_39 ?_
        refine lv_iload_n S.1 S.2.1 d_Wy_isBefore_42 rfl (lv_at hl 0 rfl) ?_
        refine m_ial (t0 := 0) S M (lt_Y1 hw) (tb_Y1 hw) rfl h d_Wy_isBefore_43 (fun h => ?_)
        refine lv_aload_n S.1 S.2.1 d_Wy_isBefore_44 rfl (lv_at hl 2 rfl) ?_
        refine m_gs (t := (w1 + 1)) S M (j := 0) ok_Wy (lt_Y0 hw1) (tb_Y0 hw1) (by decide) rfl kw_36 rfl d_Wy_isBefore_45 ?_
        refine lv_iload_n S.1 S.2.1 d_Wy_isBefore_48 rfl (lv_at hl 0 rfl) ?_
        refine m_ial (t0 := 0) S M (lt_Y1 hw1) (tb_Y1 hw1) rfl h d_Wy_isBefore_49 (fun h => ?_)
        refine m_ieq (tgt := 74) S d_Wy_isBefore_50 (by decide) h (fun h => ?_) (fun h => ?_)
        · refine lv_iinc (v := t30 + 1) (lv' := [(2, .int (t30 + 1)), (0, .ref (ad w)), (1, .ref (ad w1))]) S.1 S.2.1 d_Wy_isBefore_74 hl (k := 0) rfl rfl (by decide) rfl (fun ls hl => ?_)
          refine lv_goto (tgt := 30) S.1 S.2.1 d_Wy_isBefore_77 (by decide) ?_
          exact K1 _ (Option.some.inj h).symm ls _ _ (lv_sub hl [0, 1, 2] rfl) M
        · exact K2 _ (Option.some.inj h).symm ls _ _ (lv_sub hl [0, 1, 2] rfl) M
    · intro e30 q ls H locs hl M
      subst q
      dsimp only [Sum.elim_inl] at h
      refine lv_aload_n S.1 S.2.1 d_Wy_isBefore_53 rfl (lv_at hl 1 rfl) ?_
      refine m_gs (t := (w + 1)) S M (j := 0) ok_Wy (lt_Y0 hw) (tb_Y0 hw) (by decide) rfl kw_36 rfl d_Wy_isBefore_54 ?_
      refine lv_iload_n S.1 S.2.1 d_Wy_isBefore_57 rfl (lv_at hl 0 rfl) ?_
      refine m_ial (t0 := 0) S M (lt_Y1 hw) (tb_Y1 hw) rfl h d_Wy_isBefore_58 (fun h => ?_)
      refine lv_aload_n S.1 S.2.1 d_Wy_isBefore_59 rfl (lv_at hl 2 rfl) ?_
      refine m_gs (t := (w1 + 1)) S M (j := 0) ok_Wy (lt_Y0 hw1) (tb_Y0 hw1) (by decide) rfl kw_36 rfl d_Wy_isBefore_60 ?_
      refine lv_iload_n S.1 S.2.1 d_Wy_isBefore_63 rfl (lv_at hl 0 rfl) ?_
      refine m_ial (t0 := 0) S M (lt_Y1 hw1) (tb_Y1 hw1) rfl h d_Wy_isBefore_64 (fun h => ?_)
      refine m_ige (tgt := 72) S d_Wy_isBefore_65 (by decide) h (fun h => ?_) (fun h => ?_)
      · refine lv_iconst (v := 0) S.1 S.2.1 d_Wy_isBefore_72 (by decide) ?_
        subst hQ; exact m_zret S hr hlk M (by rw [Option.some.inj h]) rfl d_Wy_isBefore_73
      · refine lv_iconst (v := 1) S.1 S.2.1 d_Wy_isBefore_68 (by decide) ?_
        refine lv_goto (tgt := 73) S.1 S.2.1 d_Wy_isBefore_69 (by decide) ?_
        subst hQ; exact m_zret S hr hlk M (by rw [Option.some.inj h]) rfl d_Wy_isBefore_73
    · intro y30 q
      subst q
      dsimp only [Sum.elim_inr] at h
      intro pc ls H locs hd hB M
      subst hQ; exact m_zret S hr hlk M (by rw [Option.some.inj h]) hB hd
  · refine lv_aload_n S.1 S.2.1 d_Wy_isBefore_11 rfl (lv_at hl 0 rfl) ?_
    refine m_gi S M (j := 2) ok_Wy (lt_Y0 hw) (tb_Y0 hw) (by decide) rfl kw_33 rfl d_Wy_isBefore_12 ?_
    refine lv_aload_n S.1 S.2.1 d_Wy_isBefore_15 rfl (lv_at hl 1 rfl) ?_
    refine m_gi S M (j := 2) ok_Wy (lt_Y0 hw1) (tb_Y0 hw1) (by decide) rfl kw_33 rfl d_Wy_isBefore_16 ?_
    refine m_ige (tgt := 26) S d_Wy_isBefore_19 (by decide) h (fun h => ?_) (fun h => ?_)
    · refine lv_iconst (v := 0) S.1 S.2.1 d_Wy_isBefore_26 (by decide) ?_
      subst hQ; exact m_zret S hr hlk M (by rw [Option.some.inj h]) rfl d_Wy_isBefore_27
    · refine lv_iconst (v := 1) S.1 S.2.1 d_Wy_isBefore_22 (by decide) ?_
      refine lv_goto (tgt := 27) S.1 S.2.1 d_Wy_isBefore_23 (by decide) ?_
      subst hQ; exact m_zret S hr hlk M (by rw [Option.some.inj h]) rfl d_Wy_isBefore_27
end
