section
-- ===== PART A: goes FIRST, ahead of the names: the tables' words, and 'selects' of the private methods out of them =====
/-- a private method of a class that the tables say can be made, by its rows of tables_1 -/
def lw_okq (q : MethodName × Nat) : Prop := (q.1.cls ≠ "java/lang/invoke/MethodHandle" ∧ q.1.cls ≠ "java/lang/invoke/VarHandle") ∧ Cond.instantiable q.1.cls q.2 ∈ tables_1 ∧ Cond.privateMethod q.1 ∈ tables_1 ∧ Cond.instanceMethod q.1 ∈ tables_1
theorem lw_p0 : lw_okq (⟨"LeastPaths", "isPair", "(II)Z"⟩, 9) := ⟨⟨by decide +kernel, by decide +kernel⟩, List.mem_of_getElem? (i := 15) (by decide +kernel), List.mem_of_getElem? (i := 345) (by decide +kernel), List.mem_of_getElem? (i := 346) (by decide +kernel)⟩
theorem lw_p1 : lw_okq (⟨"LeastPaths", "areNodes", "(II)Z"⟩, 9) := ⟨⟨by decide +kernel, by decide +kernel⟩, List.mem_of_getElem? (i := 15) (by decide +kernel), List.mem_of_getElem? (i := 349) (by decide +kernel), List.mem_of_getElem? (i := 350) (by decide +kernel)⟩
theorem lw_p2 : lw_okq (⟨"LeastPaths", "growTree", "()V"⟩, 9) := ⟨⟨by decide +kernel, by decide +kernel⟩, List.mem_of_getElem? (i := 15) (by decide +kernel), List.mem_of_getElem? (i := 397) (by decide +kernel), List.mem_of_getElem? (i := 398) (by decide +kernel)⟩
theorem lw_p3 : lw_okq (⟨"LeastPaths$Search", "begin", "(JI)V"⟩, 12) := ⟨⟨by decide +kernel, by decide +kernel⟩, List.mem_of_getElem? (i := 99) (by decide +kernel), List.mem_of_getElem? (i := 405) (by decide +kernel), List.mem_of_getElem? (i := 406) (by decide +kernel)⟩
theorem lw_p4 : lw_okq (⟨"LeastPaths$Waiting", "seat", "(II)V"⟩, 5) := ⟨⟨by decide +kernel, by decide +kernel⟩, List.mem_of_getElem? (i := 105) (by decide +kernel), List.mem_of_getElem? (i := 422) (by decide +kernel), List.mem_of_getElem? (i := 423) (by decide +kernel)⟩
theorem lw_p5 : lw_okq (⟨"LeastPaths$Waiting", "firstChild", "(I)I"⟩, 5) := ⟨⟨by decide +kernel, by decide +kernel⟩, List.mem_of_getElem? (i := 105) (by decide +kernel), List.mem_of_getElem? (i := 446) (by decide +kernel), List.mem_of_getElem? (i := 447) (by decide +kernel)⟩
theorem lw_p6 : lw_okq (⟨"LeastPaths$Search", "startOf", "(I)I"⟩, 12) := ⟨⟨by decide +kernel, by decide +kernel⟩, List.mem_of_getElem? (i := 99) (by decide +kernel), List.mem_of_getElem? (i := 450) (by decide +kernel), List.mem_of_getElem? (i := 451) (by decide +kernel)⟩
theorem lw_p7 : lw_okq (⟨"LeastPaths$Search", "isOpen", "(I)Z"⟩, 12) := ⟨⟨by decide +kernel, by decide +kernel⟩, List.mem_of_getElem? (i := 99) (by decide +kernel), List.mem_of_getElem? (i := 454) (by decide +kernel), List.mem_of_getElem? (i := 455) (by decide +kernel)⟩
theorem lw_p8 : lw_okq (⟨"LeastPaths$Search", "endOf", "(I)I"⟩, 12) := ⟨⟨by decide +kernel, by decide +kernel⟩, List.mem_of_getElem? (i := 99) (by decide +kernel), List.mem_of_getElem? (i := 458) (by decide +kernel), List.mem_of_getElem? (i := 459) (by decide +kernel)⟩
theorem lw_p9 : lw_okq (⟨"LeastPaths$Search", "costOf", "(I)I"⟩, 12) := ⟨⟨by decide +kernel, by decide +kernel⟩, List.mem_of_getElem? (i := 99) (by decide +kernel), List.mem_of_getElem? (i := 462) (by decide +kernel), List.mem_of_getElem? (i := 463) (by decide +kernel)⟩
theorem lw_p10 : lw_okq (⟨"LeastPaths$Search", "leadsBest", "(II)Z"⟩, 12) := ⟨⟨by decide +kernel, by decide +kernel⟩, List.mem_of_getElem? (i := 99) (by decide +kernel), List.mem_of_getElem? (i := 483) (by decide +kernel), List.mem_of_getElem? (i := 484) (by decide +kernel)⟩
theorem lw_p11 : lw_okq (⟨"LeastPaths", "treeArc", "(II)I"⟩, 9) := ⟨⟨by decide +kernel, by decide +kernel⟩, List.mem_of_getElem? (i := 15) (by decide +kernel), List.mem_of_getElem? (i := 500) (by decide +kernel), List.mem_of_getElem? (i := 501) (by decide +kernel)⟩
theorem lw_p12 : lw_okq (⟨"LeastPaths$BothSides", "seekBest", "()V"⟩, 3) := ⟨⟨by decide +kernel, by decide +kernel⟩, List.mem_of_getElem? (i := 171) (by decide +kernel), List.mem_of_getElem? (i := 543) (by decide +kernel), List.mem_of_getElem? (i := 544) (by decide +kernel)⟩
theorem lw_p13 : lw_okq (⟨"LeastPaths$BothSides", "goesOn", "()Z"⟩, 3) := ⟨⟨by decide +kernel, by decide +kernel⟩, List.mem_of_getElem? (i := 171) (by decide +kernel), List.mem_of_getElem? (i := 550) (by decide +kernel), List.mem_of_getElem? (i := 551) (by decide +kernel)⟩
theorem lw_p14 : lw_okq (⟨"LeastPaths$Row", "branch", "(LLeastPaths$Way;I)V"⟩, 8) := ⟨⟨by decide +kernel, by decide +kernel⟩, List.mem_of_getElem? (i := 188) (by decide +kernel), List.mem_of_getElem? (i := 579) (by decide +kernel), List.mem_of_getElem? (i := 580) (by decide +kernel)⟩
theorem lw_p15 : lw_okq (⟨"LeastPaths$Row", "takeIn", "()V"⟩, 8) := ⟨⟨by decide +kernel, by decide +kernel⟩, List.mem_of_getElem? (i := 188) (by decide +kernel), List.mem_of_getElem? (i := 602) (by decide +kernel), List.mem_of_getElem? (i := 603) (by decide +kernel)⟩
def lw_privs_1 : List (MethodName × Nat) := [(⟨"LeastPaths", "isPair", "(II)Z"⟩, 9), (⟨"LeastPaths", "areNodes", "(II)Z"⟩, 9), (⟨"LeastPaths", "growTree", "()V"⟩, 9), (⟨"LeastPaths$Search", "begin", "(JI)V"⟩, 12), (⟨"LeastPaths$Waiting", "seat", "(II)V"⟩, 5), (⟨"LeastPaths$Waiting", "firstChild", "(I)I"⟩, 5), (⟨"LeastPaths$Search", "startOf", "(I)I"⟩, 12), (⟨"LeastPaths$Search", "isOpen", "(I)Z"⟩, 12), (⟨"LeastPaths$Search", "endOf", "(I)I"⟩, 12), (⟨"LeastPaths$Search", "costOf", "(I)I"⟩, 12), (⟨"LeastPaths$Search", "leadsBest", "(II)Z"⟩, 12), (⟨"LeastPaths", "treeArc", "(II)I"⟩, 9), (⟨"LeastPaths$BothSides", "seekBest", "()V"⟩, 3), (⟨"LeastPaths$BothSides", "goesOn", "()Z"⟩, 3), (⟨"LeastPaths$Row", "branch", "(LLeastPaths$Way;I)V"⟩, 8), (⟨"LeastPaths$Row", "takeIn", "()V"⟩, 8)]
theorem lw_r1 : ∀ q ∈ lw_privs_1, lw_okq q := List.forall_mem_cons.mpr ⟨lw_p0, List.forall_mem_cons.mpr ⟨lw_p1, List.forall_mem_cons.mpr ⟨lw_p2, List.forall_mem_cons.mpr ⟨lw_p3, List.forall_mem_cons.mpr ⟨lw_p4, List.forall_mem_cons.mpr ⟨lw_p5, List.forall_mem_cons.mpr ⟨lw_p6, List.forall_mem_cons.mpr ⟨lw_p7, List.forall_mem_cons.mpr ⟨lw_p8, List.forall_mem_cons.mpr ⟨lw_p9, List.forall_mem_cons.mpr ⟨lw_p10, List.forall_mem_cons.mpr ⟨lw_p11, List.forall_mem_cons.mpr ⟨lw_p12, List.forall_mem_cons.mpr ⟨lw_p13, List.forall_mem_cons.mpr ⟨lw_p14, List.forall_mem_cons.mpr ⟨lw_p15, fun _ h => absurd h List.not_mem_nil⟩⟩⟩⟩⟩⟩⟩⟩⟩⟩⟩⟩⟩⟩⟩⟩
theorem lw_p16 : lw_okq (⟨"LeastPaths$Trusts", "pass", "(I)V"⟩, 3) := ⟨⟨by decide +kernel, by decide +kernel⟩, List.mem_of_getElem? (i := 285) (by decide +kernel), List.mem_of_getElem? (i := 643) (by decide +kernel), List.mem_of_getElem? (i := 644) (by decide +kernel)⟩
theorem lw_p17 : lw_okq (⟨"LeastPaths$Rings", "takeIfLess", "(I)V"⟩, 3) := ⟨⟨by decide +kernel, by decide +kernel⟩, List.mem_of_getElem? (i := 252) (by decide +kernel), List.mem_of_getElem? (i := 669) (by decide +kernel), List.mem_of_getElem? (i := 670) (by decide +kernel)⟩
theorem lw_p18 : lw_okq (⟨"LeastPaths", "lengthWithout", "(IIJ)I"⟩, 9) := ⟨⟨by decide +kernel, by decide +kernel⟩, List.mem_of_getElem? (i := 15) (by decide +kernel), List.mem_of_getElem? (i := 684) (by decide +kernel), List.mem_of_getElem? (i := 685) (by decide +kernel)⟩
theorem lw_p19 : lw_okq (⟨"LeastPathsModel", "change", "()V"⟩, 32) := ⟨⟨by decide +kernel, by decide +kernel⟩, List.mem_of_getElem? (i := 691) (by decide +kernel), List.mem_of_getElem? (i := 803) (by decide +kernel), List.mem_of_getElem? (i := 804) (by decide +kernel)⟩
theorem lw_p20 : lw_okq (⟨"LeastPathsModel", "isNode", "(I)Z"⟩, 32) := ⟨⟨by decide +kernel, by decide +kernel⟩, List.mem_of_getElem? (i := 691) (by decide +kernel), List.mem_of_getElem? (i := 811) (by decide +kernel), List.mem_of_getElem? (i := 812) (by decide +kernel)⟩
theorem lw_p21 : lw_okq (⟨"LeastPathsModel", "isArc", "(I)Z"⟩, 32) := ⟨⟨by decide +kernel, by decide +kernel⟩, List.mem_of_getElem? (i := 691) (by decide +kernel), List.mem_of_getElem? (i := 820) (by decide +kernel), List.mem_of_getElem? (i := 821) (by decide +kernel)⟩
theorem lw_p22 : lw_okq (⟨"LeastPathsModel", "findFar", "()V"⟩, 32) := ⟨⟨by decide +kernel, by decide +kernel⟩, List.mem_of_getElem? (i := 691) (by decide +kernel), List.mem_of_getElem? (i := 844) (by decide +kernel), List.mem_of_getElem? (i := 845) (by decide +kernel)⟩
theorem lw_p23 : lw_okq (⟨"LeastPathsModel", "relax", "(I)V"⟩, 32) := ⟨⟨by decide +kernel, by decide +kernel⟩, List.mem_of_getElem? (i := 691) (by decide +kernel), List.mem_of_getElem? (i := 849) (by decide +kernel), List.mem_of_getElem? (i := 850) (by decide +kernel)⟩
theorem lw_p24 : lw_okq (⟨"LeastPathsModel", "stepOf", "(I)I"⟩, 32) := ⟨⟨by decide +kernel, by decide +kernel⟩, List.mem_of_getElem? (i := 691) (by decide +kernel), List.mem_of_getElem? (i := 861) (by decide +kernel), List.mem_of_getElem? (i := 862) (by decide +kernel)⟩
theorem lw_p25 : lw_okq (⟨"LeastPathsModel", "search", "(II)I"⟩, 32) := ⟨⟨by decide +kernel, by decide +kernel⟩, List.mem_of_getElem? (i := 691) (by decide +kernel), List.mem_of_getElem? (i := 885) (by decide +kernel), List.mem_of_getElem? (i := 886) (by decide +kernel)⟩
theorem lw_p26 : lw_okq (⟨"LeastPathsModel", "beginSearch", "(II)V"⟩, 32) := ⟨⟨by decide +kernel, by decide +kernel⟩, List.mem_of_getElem? (i := 691) (by decide +kernel), List.mem_of_getElem? (i := 889) (by decide +kernel), List.mem_of_getElem? (i := 890) (by decide +kernel)⟩
theorem lw_p27 : lw_okq (⟨"LeastPathsModel", "leastOf", "(IZ)I"⟩, 32) := ⟨⟨by decide +kernel, by decide +kernel⟩, List.mem_of_getElem? (i := 691) (by decide +kernel), List.mem_of_getElem? (i := 893) (by decide +kernel), List.mem_of_getElem? (i := 894) (by decide +kernel)⟩
theorem lw_p28 : lw_okq (⟨"LeastPathsModel", "settle", "(II)V"⟩, 32) := ⟨⟨by decide +kernel, by decide +kernel⟩, List.mem_of_getElem? (i := 691) (by decide +kernel), List.mem_of_getElem? (i := 897) (by decide +kernel), List.mem_of_getElem? (i := 898) (by decide +kernel)⟩
theorem lw_p29 : lw_okq (⟨"LeastPathsModel", "spread", "(II)V"⟩, 32) := ⟨⟨by decide +kernel, by decide +kernel⟩, List.mem_of_getElem? (i := 691) (by decide +kernel), List.mem_of_getElem? (i := 901) (by decide +kernel), List.mem_of_getElem? (i := 902) (by decide +kernel)⟩
theorem lw_p30 : lw_okq (⟨"LeastPathsModel", "searchBoth", "(II)I"⟩, 32) := ⟨⟨by decide +kernel, by decide +kernel⟩, List.mem_of_getElem? (i := 691) (by decide +kernel), List.mem_of_getElem? (i := 913) (by decide +kernel), List.mem_of_getElem? (i := 914) (by decide +kernel)⟩
theorem lw_p31 : lw_okq (⟨"LeastPathsModel", "best", "()I"⟩, 32) := ⟨⟨by decide +kernel, by decide +kernel⟩, List.mem_of_getElem? (i := 691) (by decide +kernel), List.mem_of_getElem? (i := 917) (by decide +kernel), List.mem_of_getElem? (i := 918) (by decide +kernel)⟩
def lw_privs_2 : List (MethodName × Nat) := [(⟨"LeastPaths$Trusts", "pass", "(I)V"⟩, 3), (⟨"LeastPaths$Rings", "takeIfLess", "(I)V"⟩, 3), (⟨"LeastPaths", "lengthWithout", "(IIJ)I"⟩, 9), (⟨"LeastPathsModel", "change", "()V"⟩, 32), (⟨"LeastPathsModel", "isNode", "(I)Z"⟩, 32), (⟨"LeastPathsModel", "isArc", "(I)Z"⟩, 32), (⟨"LeastPathsModel", "findFar", "()V"⟩, 32), (⟨"LeastPathsModel", "relax", "(I)V"⟩, 32), (⟨"LeastPathsModel", "stepOf", "(I)I"⟩, 32), (⟨"LeastPathsModel", "search", "(II)I"⟩, 32), (⟨"LeastPathsModel", "beginSearch", "(II)V"⟩, 32), (⟨"LeastPathsModel", "leastOf", "(IZ)I"⟩, 32), (⟨"LeastPathsModel", "settle", "(II)V"⟩, 32), (⟨"LeastPathsModel", "spread", "(II)V"⟩, 32), (⟨"LeastPathsModel", "searchBoth", "(II)I"⟩, 32), (⟨"LeastPathsModel", "best", "()I"⟩, 32)]
theorem lw_r2 : ∀ q ∈ lw_privs_2, lw_okq q := List.forall_mem_cons.mpr ⟨lw_p16, List.forall_mem_cons.mpr ⟨lw_p17, List.forall_mem_cons.mpr ⟨lw_p18, List.forall_mem_cons.mpr ⟨lw_p19, List.forall_mem_cons.mpr ⟨lw_p20, List.forall_mem_cons.mpr ⟨lw_p21, List.forall_mem_cons.mpr ⟨lw_p22, List.forall_mem_cons.mpr ⟨lw_p23, List.forall_mem_cons.mpr ⟨lw_p24, List.forall_mem_cons.mpr ⟨lw_p25, List.forall_mem_cons.mpr ⟨lw_p26, List.forall_mem_cons.mpr ⟨lw_p27, List.forall_mem_cons.mpr ⟨lw_p28, List.forall_mem_cons.mpr ⟨lw_p29, List.forall_mem_cons.mpr ⟨lw_p30, List.forall_mem_cons.mpr ⟨lw_p31, fun _ h => absurd h List.not_mem_nil⟩⟩⟩⟩⟩⟩⟩⟩⟩⟩⟩⟩⟩⟩⟩⟩
theorem lw_p32 : lw_okq (⟨"LeastPathsModel", "findRow", "(II)V"⟩, 32) := ⟨⟨by decide +kernel, by decide +kernel⟩, List.mem_of_getElem? (i := 691) (by decide +kernel), List.mem_of_getElem? (i := 929) (by decide +kernel), List.mem_of_getElem? (i := 930) (by decide +kernel)⟩
theorem lw_p33 : lw_okq (⟨"LeastPathsModel", "nextWay", "(III)Z"⟩, 32) := ⟨⟨by decide +kernel, by decide +kernel⟩, List.mem_of_getElem? (i := 691) (by decide +kernel), List.mem_of_getElem? (i := 933) (by decide +kernel), List.mem_of_getElem? (i := 934) (by decide +kernel)⟩
theorem lw_p34 : lw_okq (⟨"LeastPathsModel", "back", "()Z"⟩, 32) := ⟨⟨by decide +kernel, by decide +kernel⟩, List.mem_of_getElem? (i := 691) (by decide +kernel), List.mem_of_getElem? (i := 937) (by decide +kernel), List.mem_of_getElem? (i := 938) (by decide +kernel)⟩
theorem lw_p35 : lw_okq (⟨"LeastPathsModel", "canGo", "(III)Z"⟩, 32) := ⟨⟨by decide +kernel, by decide +kernel⟩, List.mem_of_getElem? (i := 691) (by decide +kernel), List.mem_of_getElem? (i := 941) (by decide +kernel), List.mem_of_getElem? (i := 942) (by decide +kernel)⟩
theorem lw_p36 : lw_okq (⟨"LeastPathsModel", "keep", "()V"⟩, 32) := ⟨⟨by decide +kernel, by decide +kernel⟩, List.mem_of_getElem? (i := 691) (by decide +kernel), List.mem_of_getElem? (i := 945) (by decide +kernel), List.mem_of_getElem? (i := 946) (by decide +kernel)⟩
theorem lw_p37 : lw_okq (⟨"LeastPathsModel", "isAhead", "(I)Z"⟩, 32) := ⟨⟨by decide +kernel, by decide +kernel⟩, List.mem_of_getElem? (i := 691) (by decide +kernel), List.mem_of_getElem? (i := 949) (by decide +kernel), List.mem_of_getElem? (i := 950) (by decide +kernel)⟩
theorem lw_p38 : lw_okq (⟨"LeastPathsModel", "findRing", "()V"⟩, 32) := ⟨⟨by decide +kernel, by decide +kernel⟩, List.mem_of_getElem? (i := 691) (by decide +kernel), List.mem_of_getElem? (i := 974) (by decide +kernel), List.mem_of_getElem? (i := 975) (by decide +kernel)⟩
theorem lw_p39 : lw_okq (⟨"LeastPathsModel", "isBetterRing", "(I)Z"⟩, 32) := ⟨⟨by decide +kernel, by decide +kernel⟩, List.mem_of_getElem? (i := 691) (by decide +kernel), List.mem_of_getElem? (i := 978) (by decide +kernel), List.mem_of_getElem? (i := 979) (by decide +kernel)⟩
theorem lw_p40 : lw_okq (⟨"LeastPathsModel", "lengthWithout", "(III)I"⟩, 32) := ⟨⟨by decide +kernel, by decide +kernel⟩, List.mem_of_getElem? (i := 691) (by decide +kernel), List.mem_of_getElem? (i := 990) (by decide +kernel), List.mem_of_getElem? (i := 991) (by decide +kernel)⟩
def lw_privs_3 : List (MethodName × Nat) := [(⟨"LeastPathsModel", "findRow", "(II)V"⟩, 32), (⟨"LeastPathsModel", "nextWay", "(III)Z"⟩, 32), (⟨"LeastPathsModel", "back", "()Z"⟩, 32), (⟨"LeastPathsModel", "canGo", "(III)Z"⟩, 32), (⟨"LeastPathsModel", "keep", "()V"⟩, 32), (⟨"LeastPathsModel", "isAhead", "(I)Z"⟩, 32), (⟨"LeastPathsModel", "findRing", "()V"⟩, 32), (⟨"LeastPathsModel", "isBetterRing", "(I)Z"⟩, 32), (⟨"LeastPathsModel", "lengthWithout", "(III)I"⟩, 32)]
theorem lw_r3 : ∀ q ∈ lw_privs_3, lw_okq q := List.forall_mem_cons.mpr ⟨lw_p32, List.forall_mem_cons.mpr ⟨lw_p33, List.forall_mem_cons.mpr ⟨lw_p34, List.forall_mem_cons.mpr ⟨lw_p35, List.forall_mem_cons.mpr ⟨lw_p36, List.forall_mem_cons.mpr ⟨lw_p37, List.forall_mem_cons.mpr ⟨lw_p38, List.forall_mem_cons.mpr ⟨lw_p39, List.forall_mem_cons.mpr ⟨lw_p40, fun _ h => absurd h List.not_mem_nil⟩⟩⟩⟩⟩⟩⟩⟩⟩
def lw_privs : List (MethodName × Nat) := lw_privs_1 ++ (lw_privs_2 ++ (lw_privs_3))
def lw_tbl : List Cond := k2_sels lw_privs ++ tables_1
theorem lw_privs_ok : ∀ q ∈ lw_privs, lw_okq q := by
  show ∀ q ∈ lw_privs_1 ++ (lw_privs_2 ++ (lw_privs_3)), lw_okq q
  exact List.forall_mem_append.mpr ⟨lw_r1, List.forall_mem_append.mpr ⟨lw_r2, lw_r3⟩⟩
end
section
-- ===== TYPED MEMORY: components 0, 1, .. at the addresses ad 0, ad 1, ..; kinds in tb; contents in σ =====
/-- a kind: an array (0 ints, 1 longs, 2 references; its length; its class), or an object (its class's number, its slots: 0 int, 1 long, 2 a reference that may change, t + 3 the component t for good) -/
abbrev mK : Type := (Nat × Nat × Nat) ⊕ (Nat × List Nat)
abbrev mS : Type := (Nat → Nat → Int32) × (Nat → Nat → Int64) × (Nat → Nat → Option Nat)
def mV (ad : Nat → Nat) (σ : mS) (k j : Nat) (t : Nat) : Value := match t with
  | 0 => .int (σ.1 k j)
  | 1 => .long (σ.2.1 k j)
  | 2 => va_rf ((σ.2.2 k j).map ad)
  | t + 3 => .ref (ad t)
def mE (ad : Nat → Nat) (σ : mS) (k : Nat) (K : mK) : va_E := match K with
  | .inl (0, n, cA) => .inl (cA, n, .inl (σ.1 k))
  | .inl (1, n, cA) => .inl (cA, n, .inr (.inl (σ.2.1 k)))
  | .inl (_ + 2, n, cA) => .inl (cA, n, .inr (.inr (.inr (.inr (fun x => (σ.2.2 k x).map ad)))))
  | .inr (ci, ts) => .inr (ci, ts.mapIdx (fun j t => mV ad σ k j t))
def wd (n : Nat) (tb : Nat → mK) (ad : Nat → Nat) (σ : mS) : va_W := (List.range n).map (fun k => (ad k, mE ad σ k (tb k)))
theorem wd_get {n k : Nat} {tb : Nat → mK} {ad : Nat → Nat} {σ : mS} {K : mK} (h : k < n) (ht : tb k = K) : (wd n tb ad σ)[k]? = some (ad k, mE ad σ k K) := by
  subst ht
  simp [wd, List.getElem?_map, List.getElem?_range h]
theorem wd_of {n k : Nat} {tb : Nat → mK} {ad : Nat → Nat} {σ : mS} {q : Nat × va_E} (h : (wd n tb ad σ)[k]? = some q) : k < n ∧ q = (ad k, mE ad σ k (tb k)) := by
  by_cases hk : k < n
  · rw [wd_get hk rfl] at h
    exact ⟨hk, (Option.some.inj h).symm⟩
  · simp [wd, List.getElem?_map, hk] at h
def up2 {α : Type} (f : Nat → Nat → α) (k j : Nat) (v : α) : Nat → Nat → α := fun a b => if a = k then (if b = j then v else f a b) else f a b
theorem up2_o {α : Type} {f : Nat → Nat → α} {k j i : Nat} {v : α} (h : i ≠ k) : up2 f k j v i = f i := by
  funext b
  simp [up2, h]
theorem up2_s {α : Type} {f : Nat → Nat → α} {k j : Nat} {v : α} : up2 f k j v k = fun b => if b = j then v else f k b := by
  funext b
  simp [up2]
def sI (σ : mS) (k j : Nat) (v : Int32) : mS := (up2 σ.1 k j v, σ.2)
def sJ (σ : mS) (k j : Nat) (v : Int64) : mS := (σ.1, up2 σ.2.1 k j v, σ.2.2)
def sQ (σ : mS) (k j : Nat) (v : Option Nat) : mS := (σ.1, σ.2.1, up2 σ.2.2 k j v)
theorem mV_c {ad : Nat → Nat} {σ σ' : mS} {k j t : Nat} (h1 : σ'.1 k = σ.1 k) (h2 : σ'.2.1 k = σ.2.1 k) (h3 : σ'.2.2 k = σ.2.2 k) : mV ad σ' k j t = mV ad σ k j t := by
  unfold mV
  rw [h1, h2, h3]
theorem mE_c {ad : Nat → Nat} {σ σ' : mS} {k : Nat} {K : mK} (h1 : σ'.1 k = σ.1 k) (h2 : σ'.2.1 k = σ.2.1 k) (h3 : σ'.2.2 k = σ.2.2 k) : mE ad σ' k K = mE ad σ k K := by
  unfold mE
  simp only [h1, h2, h3, mV_c h1 h2 h3]
theorem wd_set {n k : Nat} {tb : Nat → mK} {ad : Nat → Nat} {σ σ' : mS} {K : mK} (hk : k < n) (ht : tb k = K) (h : ∀ i, i ≠ k → σ'.1 i = σ.1 i ∧ σ'.2.1 i = σ.2.1 i ∧ σ'.2.2 i = σ.2.2 i) : (wd n tb ad σ).set k (ad k, mE ad σ' k K) = wd n tb ad σ' := by
  subst ht
  apply List.ext_getElem?
  intro i
  by_cases hi : i = k
  · subst hi
    rw [List.getElem?_set_self (by simp [wd]; exact hk), wd_get hk rfl]
  · rw [List.getElem?_set_ne (Ne.symm hi)]
    by_cases hn : i < n
    · rw [wd_get hn rfl, wd_get hn rfl, mE_c (h i hi).1 (h i hi).2.1 (h i hi).2.2]
    · simp [wd, List.getElem?_map, hn]
/-- the memory as it stands in a method: the tables, the cells, apart and in A, nothing else written -/
def mM (D : va_G) (cl : List vw_C) (tys : List (Nat × FieldType)) (A : Nat → Prop) (s : State) (n : Nat) (tb : Nat → mK) (ad : Nat → Nat) (σ : mS) (H : Heap) (locs : List Loc) : Prop :=
  va_K D cl tys s ∧ va_P D cl (wd n tb ad σ) H ∧ va_D A (wd n tb ad σ) ∧ va_S A s.heap H locs
-- ===== PURE WORDS of the decompiled methods =====
def gd {α : Type} (b : Bool) (x : Option α) : Option α := match b with
  | true => x
  | false => none
theorem gd_s {α : Type} {b : Bool} {x : Option α} {r : α} (h : gd b x = some r) : b = true ∧ x = some r := by
  cases b with
  | true => exact ⟨rfl, h⟩
  | false => exact absurd h (by simp [gd])
def nm {α β : Type} (v : α) (f : α → Option β) : Option β := f v
def inb (i : Int32) (n : Nat) : Bool := decide (0 ≤ i.toInt ∧ i.toInt < n)
theorem inb_in {i : Int32} {n : Nat} (h : inb i n = true) : vp_in i n := vp_in_iff.mpr (of_decide_eq_true h)
def isB (v : Int32) : Bool := decide (v = 0 ∨ v = 1)
def isN (v : Int32) : Bool := decide (¬ v = 0)
def isNl (v : Int64) : Bool := decide (¬ v = 0)
def lpN {S X : Type} (st : S → Option (S ⊕ X)) : Nat → S → Option X
  | 0, _ => none
  | k + 1, s => match st s with
    | none => none
    | some (.inl s') => lpN st k s'
    | some (.inr x) => some x
theorem lpN_W {S X : Type} {st : S → Option (S ⊕ X)} (P : S → Prop) (Qx : X → Prop) (hs : ∀ s o, st s = some o → Sum.elim P Qx o → P s) : ∀ (n : Nat) (s : S) (x : X), lpN st n s = some x → Qx x → P s := by
  intro n
  induction n with
  | zero => intro s x h _; exact absurd h (by simp [lpN])
  | succ k ih =>
    intro s x h hq
    cases e : st s with
    | none => rw [lpN, e] at h; exact absurd h (by simp)
    | some o =>
      cases o with
      | inl s' =>
        rw [lpN, e] at h
        exact hs s _ e (ih s' x h hq)
      | inr x' =>
        rw [lpN, e] at h
        have hx : x' = x := Option.some.inj h
        subst hx
        exact hs s _ e hq
-- ===== contracts over the memory =====
def mPre (D : va_G) (cl : List vw_C) (tys : List (Nat × FieldType)) (n : Nat) (tb : Nat → mK) (ad : Nat → Nat) (σ : mS) (sz : Nat) : State → Prop := fun U => U.heap.size = sz ∧ va_P D cl (wd n tb ad σ) U.heap ∧ va_K D cl tys U ∧ va_D (fun _ => True) (wd n tb ad σ)
def mA (n : Nat) (ad : Nat → Nat) (sz : Nat) : Nat → Prop := fun q => (∃ k, k < n ∧ q = ad k) ∨ sz ≤ q
def mB (D : va_G) (cl : List vw_C) (tys : List (Nat × FieldType)) (A : Nat → Prop) (n : Nat) (tb : Nat → mK) (ad : Nat → Nat) (σ : mS) : State → Prop := fun t => va_P D cl (wd n tb ad σ) t.heap ∧ va_K D cl tys t ∧ va_D A (wd n tb ad σ)
def mQi (D : va_G) (cl : List vw_C) (tys : List (Nat × FieldType)) (n : Nat) (tb : Nat → mK) (ad : Nat → Nat) (o : Int32 × mS) (sz : Nat) : Array Value → State → Outcome → State → Prop := va_Qi (fun r (_ : Unit) => r = o.1) (fun _ => mB D cl tys (mA n ad sz) n tb ad o.2) (mA n ad sz)
def mQl (D : va_G) (cl : List vw_C) (tys : List (Nat × FieldType)) (n : Nat) (tb : Nat → mK) (ad : Nat → Nat) (o : Int64 × mS) (sz : Nat) : Array Value → State → Outcome → State → Prop := va_Ql (fun r (_ : Unit) => r = o.1) (fun _ => mB D cl tys (mA n ad sz) n tb ad o.2) (mA n ad sz)
def mQv (D : va_G) (cl : List vw_C) (tys : List (Nat × FieldType)) (n : Nat) (tb : Nat → mK) (ad : Nat → Nat) (o : mS) (sz : Nat) : Array Value → State → Outcome → State → Prop := va_Qv (fun (_ : Unit) => True) (fun _ => mB D cl tys (mA n ad sz) n tb ad o) (mA n ad sz)
def mCi (l : Launch) (y : MethodName) (ws : List Cond) (rm : Room) (D : va_G) (cl : List vw_C) (tys : List (Nat × FieldType)) (n : Nat) (tb : Nat → mK) (ad : Nat → Nat) (σ : mS) (av : List Value) (o : Int32 × mS) : Prop :=
  ∀ sz, Met l y ws rm (va_Pc av (mPre D cl tys n tb ad σ sz)) (mQi D cl tys n tb ad o sz) 0 0 (mA n ad sz)
def mCl (l : Launch) (y : MethodName) (ws : List Cond) (rm : Room) (D : va_G) (cl : List vw_C) (tys : List (Nat × FieldType)) (n : Nat) (tb : Nat → mK) (ad : Nat → Nat) (σ : mS) (av : List Value) (o : Int64 × mS) : Prop :=
  ∀ sz, Met l y ws rm (va_Pc av (mPre D cl tys n tb ad σ sz)) (mQl D cl tys n tb ad o sz) 0 0 (mA n ad sz)
def mCv (l : Launch) (y : MethodName) (ws : List Cond) (rm : Room) (D : va_G) (cl : List vw_C) (tys : List (Nat × FieldType)) (n : Nat) (tb : Nat → mK) (ad : Nat → Nat) (σ : mS) (av : List Value) (o : mS) : Prop :=
  ∀ sz, Met l y ws rm (va_Pc av (mPre D cl tys n tb ad σ sz)) (mQv D cl tys n tb ad o sz) 0 0 (mA n ad sz)
theorem mPre_blind {D : va_G} {cl : List vw_C} {tys : List (Nat × FieldType)} {n : Nat} {tb : Nat → mK} {ad : Nat → Nat} {σ : mS} {sz : Nat} {av : List Value} : FrameBlind (va_Pc av (mPre D cl tys n tb ad σ sz)) := by
  intro a U g mk q
  obtain ⟨q0, q1, qP, qK, qD⟩ := q
  exact ⟨q0, q1, qP, va_K.moved (u := U) (U := U.calling g mk a) (Vm.Alike.refl U.vm) qK, qD⟩
theorem mA_up {n : Nat} {ad : Nat → Nat} {a b : Nat} (h : a ≤ b) {q : Nat} (hq : mA n ad b q) : mA n ad a q := by
  rcases hq with hq | hq
  · exact Or.inl hq
  · exact Or.inr (Nat.le_trans h hq)
theorem mD_self {A : Nat → Prop} {n : Nat} {tb : Nat → mK} {ad : Nat → Nat} {σ : mS} {sz : Nat} (h : va_D A (wd n tb ad σ)) : va_D (mA n ad sz) (wd n tb ad σ) := by
  refine ⟨h.1, fun k q hk => ?_⟩
  obtain ⟨hl, rfl⟩ := wd_of hk
  exact Or.inl ⟨k, hl, rfl⟩
/-- the words of a class: its fields' tables, its number, its types, its names apart -/
def mC (Ts : List Cond) (cl : List vw_C) (ci : Nat) (C : String) (T : u_T) (N : Nat) (ty : Nat → FieldType) : Prop :=
  (∀ w ∈ u_ws C T N, w ∈ Ts) ∧ cl[ci]? = some (C, T, N) ∧ (∀ k, k < N → parseFieldDescriptor (T k).2.2.1 = some (ty k)) ∧ ∀ a, a < N → ∀ b, b < N → a ≠ b → (T a).2.1 ≠ (T b).2.1
section MR
variable {p : Program} {l : Launch} {e : Env} {R : Room} {s : State} {m : MethodId} {args : Array Value} {below : List Frame} {meth : Method} {c : Code} {H : Heap} {locs : List Loc} {cells slots : Nat} {Q : State → Prop}
variable {cc : ByteArray} {pc nL : Nat} {ls : Array Slot} {rest : List Value} {D : va_G} {cl : List vw_C} {A : Nat → Prop} {tys : List (Nat × FieldType)} {Ts : List Cond} {own : String} {n : Nat} {tb : Nat → mK} {ad : Nat → Nat} {σ : mS}
variable {β : Type} {r : β}
-- naming what lies on top
theorem m_ni {v : Int32} {f : Int32 → Option β} (h : nm v f = some r) (kk : ∀ y : Int32, f y = some r → W p l e R s m args below meth c H locs cells slots Q (F0 m pc ls (.int y :: rest))) : W p l e R s m args below meth c H locs cells slots Q (F0 m pc ls (.int v :: rest)) := kk v h
theorem m_nl {v : Int64} {f : Int64 → Option β} (h : nm v f = some r) (kk : ∀ y : Int64, f y = some r → W p l e R s m args below meth c H locs cells slots Q (F0 m pc ls (.long y :: rest))) : W p l e R s m args below meth c H locs cells slots Q (F0 m pc ls (.long v :: rest)) := kk v h
-- reading fields
theorem m_gi {ref C : String} {T : u_T} {N ci index k j : Nat} {ty : Nat → FieldType} {ts : List Nat} (S : CallFix p m c cc nL s args Ts own) (M : mM D cl tys A s n tb ad σ H locs) (hC : mC Ts cl ci C T N ty) (hk : k < n) (ht : tb k = .inr (ci, ts)) (hj : j < N) (h0 : ts[j]? = some 0) (hlink : Cond.fieldLink own index ref (T j).2.1 (T j).2.2.1 ∈ Ts) (hr : (T j).1 = ref) (hdg : decode cc pc = .ok (.getfield index, 3))
    (kk : W p l e R s m args below meth c H locs cells slots Q (F0 m (pc + 3) ls (.int (σ.1 k j) :: rest))) : W p l e R s m args below meth c H locs cells slots Q (F0 m pc ls (.ref (ad k) :: rest)) :=
  va_get S.1 S.2.1 S.2.2.2.2 hC.1 S.2.2.2.1 M.1 M.2.1 k (wd_get hk ht) hC.2.1 j hj (S.2.2.2.2 _ hlink) (fun x hx => by rw [← hr]; exact hx) (v := .int (σ.1 k j)) (by simp [List.getElem?_mapIdx, h0, mV]) hdg kk
theorem m_gl {ref C : String} {T : u_T} {N ci index k j : Nat} {ty : Nat → FieldType} {ts : List Nat} (S : CallFix p m c cc nL s args Ts own) (M : mM D cl tys A s n tb ad σ H locs) (hC : mC Ts cl ci C T N ty) (hk : k < n) (ht : tb k = .inr (ci, ts)) (hj : j < N) (h0 : ts[j]? = some 1) (hlink : Cond.fieldLink own index ref (T j).2.1 (T j).2.2.1 ∈ Ts) (hr : (T j).1 = ref) (hdg : decode cc pc = .ok (.getfield index, 3))
    (kk : W p l e R s m args below meth c H locs cells slots Q (F0 m (pc + 3) ls (.long (σ.2.1 k j) :: rest))) : W p l e R s m args below meth c H locs cells slots Q (F0 m pc ls (.ref (ad k) :: rest)) :=
  va_get S.1 S.2.1 S.2.2.2.2 hC.1 S.2.2.2.1 M.1 M.2.1 k (wd_get hk ht) hC.2.1 j hj (S.2.2.2.2 _ hlink) (fun x hx => by rw [← hr]; exact hx) (v := .long (σ.2.1 k j)) (by simp [List.getElem?_mapIdx, h0, mV]) hdg kk
theorem m_gs {ref C : String} {T : u_T} {N ci index k j t : Nat} {ty : Nat → FieldType} {ts : List Nat} (S : CallFix p m c cc nL s args Ts own) (M : mM D cl tys A s n tb ad σ H locs) (hC : mC Ts cl ci C T N ty) (hk : k < n) (ht : tb k = .inr (ci, ts)) (hj : j < N) (h0 : ts[j]? = some (t + 3)) (hlink : Cond.fieldLink own index ref (T j).2.1 (T j).2.2.1 ∈ Ts) (hr : (T j).1 = ref) (hdg : decode cc pc = .ok (.getfield index, 3))
    (kk : W p l e R s m args below meth c H locs cells slots Q (F0 m (pc + 3) ls (.ref (ad t) :: rest))) : W p l e R s m args below meth c H locs cells slots Q (F0 m pc ls (.ref (ad k) :: rest)) :=
  va_get S.1 S.2.1 S.2.2.2.2 hC.1 S.2.2.2.1 M.1 M.2.1 k (wd_get hk ht) hC.2.1 j hj (S.2.2.2.2 _ hlink) (fun x hx => by rw [← hr]; exact hx) (v := .ref (ad t)) (by simp [List.getElem?_mapIdx, h0, mV]) hdg kk
-- the same of a nest mate's private field
theorem m_giN {ref C host : String} {T : u_T} {N ci index k j : Nat} {ty : Nat → FieldType} {ts : List Nat} (S : CallFix p m c cc nL s args Ts own) (M : mM D cl tys A s n tb ad σ H locs) (hC : mC Ts cl ci C T N ty) (hk : k < n) (ht : tb k = .inr (ci, ts)) (hj : j < N) (h0 : ts[j]? = some 0) (hlink : Cond.fieldLinkNest own index ref (T j).2.1 (T j).2.2.1 host ∈ Ts) (hr : (T j).1 = ref) (hdg : decode cc pc = .ok (.getfield index, 3))
    (kk : W p l e R s m args below meth c H locs cells slots Q (F0 m (pc + 3) ls (.int (σ.1 k j) :: rest))) : W p l e R s m args below meth c H locs cells slots Q (F0 m pc ls (.ref (ad k) :: rest)) :=
  va_getN S.1 S.2.1 S.2.2.2.2 hC.1 S.2.2.2.1 M.1 M.2.1 k (wd_get hk ht) hC.2.1 j hj (S.2.2.2.2 _ hlink) (fun x hx => by rw [← hr]; exact hx) (v := .int (σ.1 k j)) (by simp [List.getElem?_mapIdx, h0, mV]) hdg kk
-- writing fields
theorem m_obj {ci k j : Nat} {ts : List Nat} {σ' : mS} {v : Value} (h1 : ∀ i t, ts[i]? = some t → i ≠ j → mV ad σ' k i t = mV ad σ k i t) (h2 : ∀ t, ts[j]? = some t → mV ad σ' k j t = v) : mE ad σ' k (.inr (ci, ts)) = .inr (ci, (ts.mapIdx (fun j t => mV ad σ k j t)).set j v) := by
  have e : ts.mapIdx (fun j t => mV ad σ' k j t) = (ts.mapIdx (fun j t => mV ad σ k j t)).set j v := by
    apply List.ext_getElem?
    intro i
    by_cases hi : i = j
    · subst hi
      by_cases hl : i < ts.length
      · rw [List.getElem?_set_self (by simpa using hl)]
        simp [List.getElem?_mapIdx, List.getElem?_eq_getElem hl, h2 _ (List.getElem?_eq_getElem hl)]
      · simp [List.getElem?_mapIdx, List.getElem?_eq_none (Nat.not_lt.mp hl)]
        omega
    · rw [List.getElem?_set_ne (Ne.symm hi)]
      by_cases hl : i < ts.length
      · simp [List.getElem?_mapIdx, List.getElem?_eq_getElem hl, h1 i _ (List.getElem?_eq_getElem hl) hi]
      · simp [List.getElem?_mapIdx, List.getElem?_eq_none (Nat.not_lt.mp hl)]
  show (Sum.inr (ci, ts.mapIdx (fun j t => mV ad σ' k j t)) : va_E) = _
  rw [e]
theorem m_objI {ci k j : Nat} {ts : List Nat} {v : Int32} (h0 : ts[j]? = some 0) : mE ad (sI σ k j v) k (.inr (ci, ts)) = .inr (ci, (ts.mapIdx (fun j t => mV ad σ k j t)).set j (.int v)) := by
  refine m_obj (fun i t _ hi => ?_) (fun t ht => ?_)
  · match t with
    | 0 => simp [mV, sI, up2, hi]
    | 1 => rfl
    | 2 => rfl
    | t + 3 => rfl
  · have : t = 0 := Option.some.inj (ht.symm.trans h0)
    subst this
    simp [mV, sI, up2]
theorem m_objJ {ci k j : Nat} {ts : List Nat} {v : Int64} (h0 : ts[j]? = some 1) : mE ad (sJ σ k j v) k (.inr (ci, ts)) = .inr (ci, (ts.mapIdx (fun j t => mV ad σ k j t)).set j (.long v)) := by
  refine m_obj (fun i t _ hi => ?_) (fun t ht => ?_)
  · match t with
    | 0 => rfl
    | 1 => simp [mV, sJ, up2, hi]
    | 2 => rfl
    | t + 3 => rfl
  · have : t = 1 := Option.some.inj (ht.symm.trans h0)
    subst this
    simp [mV, sJ, up2]
theorem sI_o {k j : Nat} {v : Int32} : ∀ i, i ≠ k → (sI σ k j v).1 i = σ.1 i ∧ (sI σ k j v).2.1 i = σ.2.1 i ∧ (sI σ k j v).2.2 i = σ.2.2 i := fun _ hi => ⟨up2_o hi, rfl, rfl⟩
theorem sJ_o {k j : Nat} {v : Int64} : ∀ i, i ≠ k → (sJ σ k j v).1 i = σ.1 i ∧ (sJ σ k j v).2.1 i = σ.2.1 i ∧ (sJ σ k j v).2.2 i = σ.2.2 i := fun _ hi => ⟨rfl, up2_o hi, rfl⟩
theorem sQ_o {k j : Nat} {v : Option Nat} : ∀ i, i ≠ k → (sQ σ k j v).1 i = σ.1 i ∧ (sQ σ k j v).2.1 i = σ.2.1 i ∧ (sQ σ k j v).2.2 i = σ.2.2 i := fun _ hi => ⟨rfl, rfl, up2_o hi⟩
theorem m_pi0 {ref C : String} {T : u_T} {N ci index k j : Nat} {ty : Nat → FieldType} {ts : List Nat} {v : Int32} {f : mS → Option β} (S : CallFix p m c cc nL s args Ts own) (M : mM D cl tys A s n tb ad σ H locs) (hC : mC Ts cl ci C T N ty) (hk : k < n) (ht : tb k = .inr (ci, ts)) (hj : j < N) (h0 : ts[j]? = some 0) (hlink : Cond.fieldLink own index ref (T j).2.1 (T j).2.2.1 ∈ Ts) (hr : (T j).1 = ref) (hfin : (T j).2.2.2 = false) (hn : narrow (ty j) (.int v) = .int v) (hf : fits (ty j) (.int v) = true) (hdg : decode cc pc = .ok (.putfield index, 3)) (h : nm (sI σ k j v) f = some r)
    (kk : ∀ (σ1 : mS) (H1 : Heap) (locs1 : List Loc), f σ1 = some r → mM D cl tys A s n tb ad σ1 H1 locs1 → W p l e R s m args below meth c H1 locs1 cells slots Q (F0 m (pc + 3) ls rest)) : W p l e R s m args below meth c H locs cells slots Q (F0 m pc ls (.int v :: .ref (ad k) :: rest)) := by
  have hl : j < (ts.mapIdx (fun j t => mV ad σ k j t)).length := by
    simpa using (List.getElem?_eq_some_iff.mp h0).1
  refine va_put S.1 S.2.1 S.2.2.2.2 hC.1 ty hC.2.2.1 hC.2.2.2 S.2.2.2.1 M.1 M.2.1 M.2.2.1 M.2.2.2 k (wd_get hk ht) hC.2.1 j hj (S.2.2.2.2 _ hlink) (fun x hx => by rw [← hr]; exact hx) hfin (hC.2.2.1 j hj) hn hf hl hdg (fun H1 locs1 hP hD hS => ?_)
  rw [← m_objI h0, wd_set hk ht sI_o] at hP hD
  exact kk _ H1 locs1 h ⟨M.1, hP, hD, hS⟩
theorem m_pi {ref C : String} {T : u_T} {N ci index k j : Nat} {ty : Nat → FieldType} {ts : List Nat} {v : Int32} {f : mS → Option β} (S : CallFix p m c cc nL s args Ts own) (M : mM D cl tys A s n tb ad σ H locs) (hC : mC Ts cl ci C T N ty) (hk : k < n) (ht : tb k = .inr (ci, ts)) (hj : j < N) (h0 : ts[j]? = some 0) (hlink : Cond.fieldLink own index ref (T j).2.1 (T j).2.2.1 ∈ Ts) (hr : (T j).1 = ref) (hfin : (T j).2.2.2 = false) (hty : ty j = .int) (hdg : decode cc pc = .ok (.putfield index, 3)) (h : nm (sI σ k j v) f = some r)
    (kk : ∀ (σ1 : mS) (H1 : Heap) (locs1 : List Loc), f σ1 = some r → mM D cl tys A s n tb ad σ1 H1 locs1 → W p l e R s m args below meth c H1 locs1 cells slots Q (F0 m (pc + 3) ls rest)) : W p l e R s m args below meth c H locs cells slots Q (F0 m pc ls (.int v :: .ref (ad k) :: rest)) :=
  m_pi0 S M hC hk ht hj h0 hlink hr hfin (by rw [hty]; rfl) (by rw [hty]; rfl) hdg h kk
theorem m_pz {ref C : String} {T : u_T} {N ci index k j : Nat} {ty : Nat → FieldType} {ts : List Nat} {v : Int32} {f : mS → Option β} (S : CallFix p m c cc nL s args Ts own) (M : mM D cl tys A s n tb ad σ H locs) (hC : mC Ts cl ci C T N ty) (hk : k < n) (ht : tb k = .inr (ci, ts)) (hj : j < N) (h0 : ts[j]? = some 0) (hlink : Cond.fieldLink own index ref (T j).2.1 (T j).2.2.1 ∈ Ts) (hr : (T j).1 = ref) (hfin : (T j).2.2.2 = false) (hty : ty j = .boolean) (hdg : decode cc pc = .ok (.putfield index, 3)) (h : gd (isB v) (nm (sI σ k j v) f) = some r)
    (kk : ∀ (σ1 : mS) (H1 : Heap) (locs1 : List Loc), f σ1 = some r → mM D cl tys A s n tb ad σ1 H1 locs1 → W p l e R s m args below meth c H1 locs1 cells slots Q (F0 m (pc + 3) ls rest)) : W p l e R s m args below meth c H locs cells slots Q (F0 m pc ls (.int v :: .ref (ad k) :: rest)) := by
  obtain ⟨hb, h⟩ := gd_s h
  have hv : v = 0 ∨ v = 1 := of_decide_eq_true hb
  refine m_pi0 S M hC hk ht hj h0 hlink hr hfin ?_ ?_ hdg h kk
  · rw [hty]; rcases hv with rfl | rfl <;> rfl
  · rw [hty]; rcases hv with rfl | rfl <;> rfl
theorem m_pl {ref C : String} {T : u_T} {N ci index k j : Nat} {ty : Nat → FieldType} {ts : List Nat} {v : Int64} {f : mS → Option β} (S : CallFix p m c cc nL s args Ts own) (M : mM D cl tys A s n tb ad σ H locs) (hC : mC Ts cl ci C T N ty) (hk : k < n) (ht : tb k = .inr (ci, ts)) (hj : j < N) (h0 : ts[j]? = some 1) (hlink : Cond.fieldLink own index ref (T j).2.1 (T j).2.2.1 ∈ Ts) (hr : (T j).1 = ref) (hfin : (T j).2.2.2 = false) (hty : ty j = .long) (hdg : decode cc pc = .ok (.putfield index, 3)) (h : nm (sJ σ k j v) f = some r)
    (kk : ∀ (σ1 : mS) (H1 : Heap) (locs1 : List Loc), f σ1 = some r → mM D cl tys A s n tb ad σ1 H1 locs1 → W p l e R s m args below meth c H1 locs1 cells slots Q (F0 m (pc + 3) ls rest)) : W p l e R s m args below meth c H locs cells slots Q (F0 m pc ls (.long v :: .ref (ad k) :: rest)) := by
  have hl : j < (ts.mapIdx (fun j t => mV ad σ k j t)).length := by
    simpa using (List.getElem?_eq_some_iff.mp h0).1
  refine va_put S.1 S.2.1 S.2.2.2.2 hC.1 ty hC.2.2.1 hC.2.2.2 S.2.2.2.1 M.1 M.2.1 M.2.2.1 M.2.2.2 k (wd_get hk ht) hC.2.1 j hj (S.2.2.2.2 _ hlink) (fun x hx => by rw [← hr]; exact hx) hfin (hC.2.2.1 j hj) (by rw [hty]; rfl) (by rw [hty]; rfl) hl hdg (fun H1 locs1 hP hD hS => ?_)
  rw [← m_objJ h0, wd_set hk ht sJ_o] at hP hD
  exact kk _ H1 locs1 h ⟨M.1, hP, hD, hS⟩
-- arrays
theorem m_ial {k N cA t0 : Nat} {i : Int32} {x : Option β} (S : CallFix p m c cc nL s args Ts own) (M : mM D cl tys A s n tb ad σ H locs) (hk : k < n) (ht : tb k = .inl (0, N, cA)) (hty : tys[t0]? = some (cA, .int)) (h : gd (inb i N) x = some r) (hdg : decode cc pc = .ok (.iaload, 1))
    (kk : x = some r → W p l e R s m args below meth c H locs cells slots Q (F0 m (pc + 1) ls (.int (σ.1 k i.toNatClampNeg) :: rest))) : W p l e R s m args below meth c H locs cells slots Q (F0 m pc ls (.int i :: .ref (ad k) :: rest)) := by
  obtain ⟨hb, h⟩ := gd_s h
  exact va_iald S.1 S.2.1 M.1 M.2.1 k t0 (wd_get hk ht) hty (inb_in hb) hdg (kk h)
theorem m_lal {k N cA t0 : Nat} {i : Int32} {x : Option β} (S : CallFix p m c cc nL s args Ts own) (M : mM D cl tys A s n tb ad σ H locs) (hk : k < n) (ht : tb k = .inl (1, N, cA)) (hty : tys[t0]? = some (cA, .long)) (h : gd (inb i N) x = some r) (hdg : decode cc pc = .ok (.laload, 1))
    (kk : x = some r → W p l e R s m args below meth c H locs cells slots Q (F0 m (pc + 1) ls (.long (σ.2.1 k i.toNatClampNeg) :: rest))) : W p l e R s m args below meth c H locs cells slots Q (F0 m pc ls (.int i :: .ref (ad k) :: rest)) := by
  obtain ⟨hb, h⟩ := gd_s h
  exact va_lald S.1 S.2.1 M.1 M.2.1 k t0 (wd_get hk ht) hty (inb_in hb) hdg (kk h)
theorem m_ias {k N cA t0 : Nat} {i v : Int32} {f : mS → Option β} (S : CallFix p m c cc nL s args Ts own) (M : mM D cl tys A s n tb ad σ H locs) (hk : k < n) (ht : tb k = .inl (0, N, cA)) (hty : tys[t0]? = some (cA, .int)) (h : gd (inb i N) (nm (sI σ k i.toNatClampNeg v) f) = some r) (hdg : decode cc pc = .ok (.iastore, 1))
    (kk : ∀ (σ1 : mS) (H1 : Heap) (locs1 : List Loc), f σ1 = some r → mM D cl tys A s n tb ad σ1 H1 locs1 → W p l e R s m args below meth c H1 locs1 cells slots Q (F0 m (pc + 1) ls rest)) : W p l e R s m args below meth c H locs cells slots Q (F0 m pc ls (.int v :: .int i :: .ref (ad k) :: rest)) := by
  obtain ⟨hb, h⟩ := gd_s h
  have ew : (.inl (cA, N, .inl (upd (σ.1 k) i.toNatClampNeg v)) : va_E) = mE ad (sI σ k i.toNatClampNeg v) k (.inl (0, N, cA)) := by
    show _ = (Sum.inl (cA, N, .inl (up2 σ.1 k i.toNatClampNeg v k)) : va_E)
    rw [up2_s]
    rfl
  refine va_iast S.1 S.2.1 M.1 M.2.1 M.2.2.1 M.2.2.2 k t0 (wd_get hk ht) hty (inb_in hb) hdg (fun H1 locs1 hP hD hS => ?_)
  rw [ew, wd_set hk ht sI_o] at hP hD
  exact kk _ H1 locs1 h ⟨M.1, hP, hD, hS⟩
theorem m_las {k N cA t0 : Nat} {i : Int32} {v : Int64} {f : mS → Option β} (S : CallFix p m c cc nL s args Ts own) (M : mM D cl tys A s n tb ad σ H locs) (hk : k < n) (ht : tb k = .inl (1, N, cA)) (hty : tys[t0]? = some (cA, .long)) (h : gd (inb i N) (nm (sJ σ k i.toNatClampNeg v) f) = some r) (hdg : decode cc pc = .ok (.lastore, 1))
    (kk : ∀ (σ1 : mS) (H1 : Heap) (locs1 : List Loc), f σ1 = some r → mM D cl tys A s n tb ad σ1 H1 locs1 → W p l e R s m args below meth c H1 locs1 cells slots Q (F0 m (pc + 1) ls rest)) : W p l e R s m args below meth c H locs cells slots Q (F0 m pc ls (.long v :: .int i :: .ref (ad k) :: rest)) := by
  obtain ⟨hb, h⟩ := gd_s h
  have ew : (.inl (cA, N, .inr (.inl (vp_updL (σ.2.1 k) i.toNatClampNeg v))) : va_E) = mE ad (sJ σ k i.toNatClampNeg v) k (.inl (1, N, cA)) := by
    show _ = (Sum.inl (cA, N, .inr (.inl (up2 σ.2.1 k i.toNatClampNeg v k))) : va_E)
    rw [up2_s]
    rfl
  refine va_last S.1 S.2.1 M.1 M.2.1 M.2.2.1 M.2.2.2 k t0 (wd_get hk ht) hty (inb_in hb) hdg (fun H1 locs1 hP hD hS => ?_)
  rw [ew, wd_set hk ht sJ_o] at hP hD
  exact kk _ H1 locs1 h ⟨M.1, hP, hD, hS⟩
theorem m_alen {k N cA t0 tg : Nat} {ft : FieldType} (S : CallFix p m c cc nL s args Ts own) (M : mM D cl tys A s n tb ad σ H locs) (hk : k < n) (ht : tb k = .inl (tg, N, cA)) (hty : tys[t0]? = some (cA, ft)) (hdg : decode cc pc = .ok (.arraylength, 1))
    (kk : W p l e R s m args below meth c H locs cells slots Q (F0 m (pc + 1) ls (.int (Int32.ofNat N) :: rest))) : W p l e R s m args below meth c H locs cells slots Q (F0 m pc ls (.ref (ad k) :: rest)) := by
  match tg, ht with
  | 0, ht => exact va_alen S.1 S.2.1 M.1 M.2.1 k t0 (wd_get hk ht) hty rfl hdg kk
  | 1, ht => exact va_alen S.1 S.2.1 M.1 M.2.1 k t0 (wd_get hk ht) hty rfl hdg kk
  | _ + 2, ht => exact va_alen S.1 S.2.1 M.1 M.2.1 k t0 (wd_get hk ht) hty rfl hdg kk
-- branches: the pure word decides
theorem m_ifeq {x : Int32} {off : Int} {tgt : Nat} {a b : Option β} (S : CallFix p m c cc nL s args Ts own) (hdg : decode cc pc = .ok (.ifCond .eq off, 3)) (ht : (pc : Int) + off = (tgt : Int)) (h : (if x = 0 then a else b) = some r) (kt : a = some r → W p l e R s m args below meth c H locs cells slots Q (F0 m tgt ls rest)) (kf : b = some r → W p l e R s m args below meth c H locs cells slots Q (F0 m (pc + 3) ls rest)) : W p l e R s m args below meth c H locs cells slots Q (F0 m pc ls (.int x :: rest)) :=
  lv_if_eq S.1 S.2.1 hdg ht (fun q => kt (by rwa [if_pos q] at h)) (fun q => kf (by rwa [if_neg q] at h))
theorem m_ifne {x : Int32} {off : Int} {tgt : Nat} {a b : Option β} (S : CallFix p m c cc nL s args Ts own) (hdg : decode cc pc = .ok (.ifCond .ne off, 3)) (ht : (pc : Int) + off = (tgt : Int)) (h : (if x = 0 then b else a) = some r) (kt : a = some r → W p l e R s m args below meth c H locs cells slots Q (F0 m tgt ls rest)) (kf : b = some r → W p l e R s m args below meth c H locs cells slots Q (F0 m (pc + 3) ls rest)) : W p l e R s m args below meth c H locs cells slots Q (F0 m pc ls (.int x :: rest)) :=
  lv_if_ne S.1 S.2.1 hdg ht (fun q => kt (by rwa [if_neg q] at h)) (fun q => kf (by rwa [if_pos q] at h))
theorem m_iflt {x : Int32} {off : Int} {tgt : Nat} {a b : Option β} (S : CallFix p m c cc nL s args Ts own) (hdg : decode cc pc = .ok (.ifCond .lt off, 3)) (ht : (pc : Int) + off = (tgt : Int)) (h : (if x < 0 then a else b) = some r) (kt : a = some r → W p l e R s m args below meth c H locs cells slots Q (F0 m tgt ls rest)) (kf : b = some r → W p l e R s m args below meth c H locs cells slots Q (F0 m (pc + 3) ls rest)) : W p l e R s m args below meth c H locs cells slots Q (F0 m pc ls (.int x :: rest)) :=
  lv_if_lt S.1 S.2.1 hdg ht (fun q => kt (by rwa [if_pos q] at h)) (fun q => kf (by rwa [if_neg q] at h))
theorem m_ifge {x : Int32} {off : Int} {tgt : Nat} {a b : Option β} (S : CallFix p m c cc nL s args Ts own) (hdg : decode cc pc = .ok (.ifCond .ge off, 3)) (ht : (pc : Int) + off = (tgt : Int)) (h : (if 0 ≤ x then a else b) = some r) (kt : a = some r → W p l e R s m args below meth c H locs cells slots Q (F0 m tgt ls rest)) (kf : b = some r → W p l e R s m args below meth c H locs cells slots Q (F0 m (pc + 3) ls rest)) : W p l e R s m args below meth c H locs cells slots Q (F0 m pc ls (.int x :: rest)) :=
  lv_if_ge S.1 S.2.1 hdg ht (fun q => kt (by rwa [if_pos q] at h)) (fun q => kf (by rwa [if_neg q] at h))
theorem m_ifgt {x : Int32} {off : Int} {tgt : Nat} {a b : Option β} (S : CallFix p m c cc nL s args Ts own) (hdg : decode cc pc = .ok (.ifCond .gt off, 3)) (ht : (pc : Int) + off = (tgt : Int)) (h : (if 0 < x then a else b) = some r) (kt : a = some r → W p l e R s m args below meth c H locs cells slots Q (F0 m tgt ls rest)) (kf : b = some r → W p l e R s m args below meth c H locs cells slots Q (F0 m (pc + 3) ls rest)) : W p l e R s m args below meth c H locs cells slots Q (F0 m pc ls (.int x :: rest)) :=
  lv_if_gt S.1 S.2.1 hdg ht (fun q => kt (by rwa [if_pos q] at h)) (fun q => kf (by rwa [if_neg q] at h))
theorem m_ifle {x : Int32} {off : Int} {tgt : Nat} {a b : Option β} (S : CallFix p m c cc nL s args Ts own) (hdg : decode cc pc = .ok (.ifCond .le off, 3)) (ht : (pc : Int) + off = (tgt : Int)) (h : (if x ≤ 0 then a else b) = some r) (kt : a = some r → W p l e R s m args below meth c H locs cells slots Q (F0 m tgt ls rest)) (kf : b = some r → W p l e R s m args below meth c H locs cells slots Q (F0 m (pc + 3) ls rest)) : W p l e R s m args below meth c H locs cells slots Q (F0 m pc ls (.int x :: rest)) :=
  lv_if_le S.1 S.2.1 hdg ht (fun q => kt (by rwa [if_pos q] at h)) (fun q => kf (by rwa [if_neg q] at h))
theorem m_ieq {x y : Int32} {off : Int} {tgt : Nat} {a b : Option β} (S : CallFix p m c cc nL s args Ts own) (hdg : decode cc pc = .ok (.if_icmp .eq off, 3)) (ht : (pc : Int) + off = (tgt : Int)) (h : (if x = y then a else b) = some r) (kt : a = some r → W p l e R s m args below meth c H locs cells slots Q (F0 m tgt ls rest)) (kf : b = some r → W p l e R s m args below meth c H locs cells slots Q (F0 m (pc + 3) ls rest)) : W p l e R s m args below meth c H locs cells slots Q (F0 m pc ls (.int y :: .int x :: rest)) :=
  lv_icmp_eq S.1 S.2.1 hdg ht (fun q => kt (by rwa [if_pos q] at h)) (fun q => kf (by rwa [if_neg q] at h))
theorem m_ine {x y : Int32} {off : Int} {tgt : Nat} {a b : Option β} (S : CallFix p m c cc nL s args Ts own) (hdg : decode cc pc = .ok (.if_icmp .ne off, 3)) (ht : (pc : Int) + off = (tgt : Int)) (h : (if x = y then b else a) = some r) (kt : a = some r → W p l e R s m args below meth c H locs cells slots Q (F0 m tgt ls rest)) (kf : b = some r → W p l e R s m args below meth c H locs cells slots Q (F0 m (pc + 3) ls rest)) : W p l e R s m args below meth c H locs cells slots Q (F0 m pc ls (.int y :: .int x :: rest)) :=
  lv_icmp_ne S.1 S.2.1 hdg ht (fun q => kt (by rwa [if_neg q] at h)) (fun q => kf (by rwa [if_pos q] at h))
theorem m_ilt {x y : Int32} {off : Int} {tgt : Nat} {a b : Option β} (S : CallFix p m c cc nL s args Ts own) (hdg : decode cc pc = .ok (.if_icmp .lt off, 3)) (ht : (pc : Int) + off = (tgt : Int)) (h : (if x < y then a else b) = some r) (kt : a = some r → W p l e R s m args below meth c H locs cells slots Q (F0 m tgt ls rest)) (kf : b = some r → W p l e R s m args below meth c H locs cells slots Q (F0 m (pc + 3) ls rest)) : W p l e R s m args below meth c H locs cells slots Q (F0 m pc ls (.int y :: .int x :: rest)) :=
  lv_icmp_lt S.1 S.2.1 hdg ht (fun q => kt (by rwa [if_pos q] at h)) (fun q => kf (by rwa [if_neg q] at h))
theorem m_ige {x y : Int32} {off : Int} {tgt : Nat} {a b : Option β} (S : CallFix p m c cc nL s args Ts own) (hdg : decode cc pc = .ok (.if_icmp .ge off, 3)) (ht : (pc : Int) + off = (tgt : Int)) (h : (if y ≤ x then a else b) = some r) (kt : a = some r → W p l e R s m args below meth c H locs cells slots Q (F0 m tgt ls rest)) (kf : b = some r → W p l e R s m args below meth c H locs cells slots Q (F0 m (pc + 3) ls rest)) : W p l e R s m args below meth c H locs cells slots Q (F0 m pc ls (.int y :: .int x :: rest)) :=
  lv_icmp_ge S.1 S.2.1 hdg ht (fun q => kt (by rwa [if_pos q] at h)) (fun q => kf (by rwa [if_neg q] at h))
theorem m_igt {x y : Int32} {off : Int} {tgt : Nat} {a b : Option β} (S : CallFix p m c cc nL s args Ts own) (hdg : decode cc pc = .ok (.if_icmp .gt off, 3)) (ht : (pc : Int) + off = (tgt : Int)) (h : (if y < x then a else b) = some r) (kt : a = some r → W p l e R s m args below meth c H locs cells slots Q (F0 m tgt ls rest)) (kf : b = some r → W p l e R s m args below meth c H locs cells slots Q (F0 m (pc + 3) ls rest)) : W p l e R s m args below meth c H locs cells slots Q (F0 m pc ls (.int y :: .int x :: rest)) :=
  lv_icmp_gt S.1 S.2.1 hdg ht (fun q => kt (by rwa [if_pos q] at h)) (fun q => kf (by rwa [if_neg q] at h))
theorem m_ile {x y : Int32} {off : Int} {tgt : Nat} {a b : Option β} (S : CallFix p m c cc nL s args Ts own) (hdg : decode cc pc = .ok (.if_icmp .le off, 3)) (ht : (pc : Int) + off = (tgt : Int)) (h : (if x ≤ y then a else b) = some r) (kt : a = some r → W p l e R s m args below meth c H locs cells slots Q (F0 m tgt ls rest)) (kf : b = some r → W p l e R s m args below meth c H locs cells slots Q (F0 m (pc + 3) ls rest)) : W p l e R s m args below meth c H locs cells slots Q (F0 m pc ls (.int y :: .int x :: rest)) :=
  lv_icmp_le S.1 S.2.1 hdg ht (fun q => kt (by rwa [if_pos q] at h)) (fun q => kf (by rwa [if_neg q] at h))
theorem m_idiv {x y : Int32} {a : Option β} (S : CallFix p m c cc nL s args Ts own) (hdg : decode cc pc = .ok (.idiv, 1)) (h : gd (isN y) a = some r) (kk : a = some r → W p l e R s m args below meth c H locs cells slots Q (F0 m (pc + 1) ls (.int (x / y) :: rest))) : W p l e R s m args below meth c H locs cells slots Q (F0 m pc ls (.int y :: .int x :: rest)) :=
  lv_idiv S.1 S.2.1 hdg (of_decide_eq_true (gd_s h).1) (kk (gd_s h).2)
theorem m_irem {x y : Int32} {a : Option β} (S : CallFix p m c cc nL s args Ts own) (hdg : decode cc pc = .ok (.irem, 1)) (h : gd (isN y) a = some r) (kk : a = some r → W p l e R s m args below meth c H locs cells slots Q (F0 m (pc + 1) ls (.int (x - x / y * y) :: rest))) : W p l e R s m args below meth c H locs cells slots Q (F0 m pc ls (.int y :: .int x :: rest)) :=
  lv_irem S.1 S.2.1 hdg (of_decide_eq_true (gd_s h).1) (kk (gd_s h).2)
theorem m_ldiv {x y : Int64} {a : Option β} (S : CallFix p m c cc nL s args Ts own) (hdg : decode cc pc = .ok (.ldiv, 1)) (h : gd (isNl y) a = some r) (kk : a = some r → W p l e R s m args below meth c H locs cells slots Q (F0 m (pc + 1) ls (.long (x / y) :: rest))) : W p l e R s m args below meth c H locs cells slots Q (F0 m pc ls (.long y :: .long x :: rest)) :=
  lv_ldiv S.1 S.2.1 hdg (of_decide_eq_true (gd_s h).1) (kk (gd_s h).2)
theorem m_lrem {x y : Int64} {a : Option β} (S : CallFix p m c cc nL s args Ts own) (hdg : decode cc pc = .ok (.lrem, 1)) (h : gd (isNl y) a = some r) (kk : a = some r → W p l e R s m args below meth c H locs cells slots Q (F0 m (pc + 1) ls (.long (x - x / y * y) :: rest))) : W p l e R s m args below meth c H locs cells slots Q (F0 m pc ls (.long y :: .long x :: rest)) :=
  lv_lrem S.1 S.2.1 hdg (of_decide_eq_true (gd_s h).1) (kk (gd_s h).2)
end MR
end
section
-- ===== CALLS over the typed memory: a callee gets the whole memory and gives it back =====
theorem lpN_W1 {S X : Type} {st : S → Option (S ⊕ X)} (P : S → Prop) (Qx : X → Prop) (hs : ∀ s o, st s = some o → (∀ s', o = .inl s' → P s') → (∀ x, o = .inr x → Qx x) → P s) (n : Nat) (s : S) (x : X) (h : lpN st n s = some x) (hq : Qx x) : P s :=
  lpN_W P Qx (fun s o h k => hs s o h (fun s' e => by subst e; exact k) (fun x e => by subst e; exact k)) n s x h hq
section MCall
variable {p : Program} {l : Launch} {e : Env} {R : Room} {s : State} {m : MethodId} {args : Array Value} {below : List Frame} {meth : Method} {c : Code} {H : Heap} {locs : List Loc} {cells slots : Nat} {Q : State → Prop}
variable {cc : ByteArray} {pc nL : Nat} {ls : Array Slot} {rest st : List Value} {D : va_G} {cl : List vw_C} {tys : List (Nat × FieldType)} {Ts : List Cond} {own : String} {n : Nat} {tb : Nat → mK} {ad : Nat → Nat} {σ : mS}
variable {β : Type} {r : β} {y : MethodName} {bytes : ByteArray} {maxL na index ci k N : Nat} {ret : Option FieldType} {ws : List Cond} {rm : Room} {Qc : Array Value → State → Outcome → State → Prop} {C host : String} {As : List Value} {T : u_T} {ty : Nat → FieldType} {ts : List Nat} {a : Array Value}
theorem m_rV (S : CallFix p m c cc nL s args Ts own) (M : mM D cl tys (mA n ad s.heap.size) s n tb ad σ H locs) (hl : ls.size = nL) (cw : CallW R s args own C index y bytes maxL ret ws rm 0 0 na) (hC : mC Ts cl ci C T N ty) (hk : k < n) (ht : tb k = .inr (ci, ts)) (hM : Met l y ws rm (va_Pc (.ref (ad k) :: As) (mPre D cl tys n tb ad σ H.size)) Qc 0 0 (mA n ad H.size)) (hn : As.length = na) (hst : st = As.reverse ++ .ref (ad k) :: rest) (hrm : (rest.map fun v => v.category).sum ≤ 8) (hdg : decode cc pc = .ok (.invokevirtual index, 3)) (hcs : cells ≤ R.cells ∧ slots ≤ R.slots) :
    va_Run p l e R s m args below meth c H locs cells slots 0 0 (F0 m pc ls st) rest (Qc (Value.ref (ad k) :: As).toArray) (mA n ad H.size) :=
  va_runV S hM cw ⟨mPre_blind, va_recv M.1 M.2.1 hC.2.1 (wd_get hk ht), fun U hU hW => ⟨rfl, by rw [hU], by rw [hU]; exact M.2.1, va_K.moved hW.alike M.1, M.2.2.1.weaken (fun _ _ _ _ => trivial)⟩⟩ rfl hn hl hst (lv_room hrm) hdg hcs
theorem m_rVN (S : CallFix p m c cc nL s args Ts own) (M : mM D cl tys (mA n ad s.heap.size) s n tb ad σ H locs) (hl : ls.size = nL) (cw : va_CN R s args own index y host bytes maxL ret ws rm 0 0 na ∧ (Cond.instanceMethod y).before args s = true ∧ (Cond.selects C y y).before args s = true) (hC : mC Ts cl ci C T N ty) (hk : k < n) (ht : tb k = .inr (ci, ts)) (hM : Met l y ws rm (va_Pc (.ref (ad k) :: As) (mPre D cl tys n tb ad σ H.size)) Qc 0 0 (mA n ad H.size)) (hn : As.length = na) (hst : st = As.reverse ++ .ref (ad k) :: rest) (hrm : (rest.map fun v => v.category).sum ≤ 8) (hdg : decode cc pc = .ok (.invokevirtual index, 3)) (hcs : cells ≤ R.cells ∧ slots ≤ R.slots) :
    va_Run p l e R s m args below meth c H locs cells slots 0 0 (F0 m pc ls st) rest (Qc (Value.ref (ad k) :: As).toArray) (mA n ad H.size) :=
  va_runVN S hM cw ⟨mPre_blind, va_recv M.1 M.2.1 hC.2.1 (wd_get hk ht), fun U hU hW => ⟨rfl, by rw [hU], by rw [hU]; exact M.2.1, va_K.moved hW.alike M.1, M.2.2.1.weaken (fun _ _ _ _ => trivial)⟩⟩ rfl hn hl hst (lv_room hrm) hdg hcs
theorem m_rS (S : CallFix p m c cc nL s args Ts own) (M : mM D cl tys (mA n ad s.heap.size) s n tb ad σ H locs) (hl : ls.size = nL) (cw : CallB R s args own index y bytes maxL ret ws rm 0 0 na ∧ (Cond.static y).before args s = true) (hM : Met l y ws rm (va_Pc As (mPre D cl tys n tb ad σ H.size)) Qc 0 0 (mA n ad H.size)) (hn : As.length = na) (hst : st = As.reverse ++ rest) (hrm : (rest.map fun v => v.category).sum ≤ 8) (hdg : decode cc pc = .ok (.invokestatic index, 3)) (hcs : cells ≤ R.cells ∧ slots ≤ R.slots) :
    va_Run p l e R s m args below meth c H locs cells slots 0 0 (F0 m pc ls st) rest (Qc As.toArray) (mA n ad H.size) :=
  va_runS S hM cw ⟨mPre_blind, fun U hU hW => ⟨rfl, by rw [hU], by rw [hU]; exact M.2.1, va_K.moved hW.alike M.1, M.2.2.1.weaken (fun _ _ _ _ => trivial)⟩⟩ rfl hn hl hst (lv_room hrm) hdg hcs
theorem m_rSN (S : CallFix p m c cc nL s args Ts own) (M : mM D cl tys (mA n ad s.heap.size) s n tb ad σ H locs) (hl : ls.size = nL) (cw : va_CN R s args own index y host bytes maxL ret ws rm 0 0 na ∧ (Cond.static y).before args s = true ∧ True) (hM : Met l y ws rm (va_Pc As (mPre D cl tys n tb ad σ H.size)) Qc 0 0 (mA n ad H.size)) (hn : As.length = na) (hst : st = As.reverse ++ rest) (hrm : (rest.map fun v => v.category).sum ≤ 8) (hdg : decode cc pc = .ok (.invokestatic index, 3)) (hcs : cells ≤ R.cells ∧ slots ≤ R.slots) :
    va_Run p l e R s m args below meth c H locs cells slots 0 0 (F0 m pc ls st) rest (Qc As.toArray) (mA n ad H.size) :=
  va_runSN S hM cw ⟨mPre_blind, fun U hU hW => ⟨rfl, by rw [hU], by rw [hU]; exact M.2.1, va_K.moved hW.alike M.1, M.2.2.1.weaken (fun _ _ _ _ => trivial)⟩⟩ rfl hn hl hst (lv_room hrm) hdg hcs
/-- a call that answers an int and may change the memory -/
theorem m_xi {x : Option (Int32 × mS)} {f : Int32 × mS → Option β} (h : x.bind f = some r) (hr : ∀ o, x = some o → va_Run p l e R s m args below meth c H locs cells slots 0 0 (F0 m pc ls st) rest (mQi D cl tys n tb ad o H.size a) (mA n ad H.size)) (M : mM D cl tys (mA n ad s.heap.size) s n tb ad σ H locs)
    (kk : ∀ (o : Int32 × mS) (H1 : Heap) (locs1 : List Loc), f o = some r → mM D cl tys (mA n ad s.heap.size) s n tb ad o.2 H1 locs1 → W p l e R s m args below meth c H1 locs1 cells slots Q (F0 m (pc + 3) ls (.int o.1 :: rest))) : W p l e R s m args below meth c H locs cells slots Q (F0 m pc ls st) := by
  obtain ⟨o, ho, hf⟩ := Option.bind_eq_some_iff.mp h
  refine va_calli (hr o ho) M.2.2.2 (fun q _ h => mA_up M.2.2.2.1 h) (fun q h => mA_up M.2.2.2.1 h) (fun r u t H1 locs1 ht hvm hw hB hz hk hS => ?_)
  have hw : r = o.1 := hw
  subst hw
  exact kk o H1 locs1 hf ⟨M.1, by rw [← ht]; exact hB.1, hB.2.2.weaken (fun _ _ _ h => mA_up M.2.2.2.1 h), hS⟩
/-- a call that answers an int and changes nothing -/
theorem m_xip {x : Option Int32} {f : Int32 → Option β} (h : x.bind f = some r) (hr : ∀ o, x = some o → va_Run p l e R s m args below meth c H locs cells slots 0 0 (F0 m pc ls st) rest (mQi D cl tys n tb ad (o, σ) H.size a) (mA n ad H.size)) (M : mM D cl tys (mA n ad s.heap.size) s n tb ad σ H locs)
    (kk : ∀ (o : Int32) (H1 : Heap) (locs1 : List Loc), f o = some r → mM D cl tys (mA n ad s.heap.size) s n tb ad σ H1 locs1 → W p l e R s m args below meth c H1 locs1 cells slots Q (F0 m (pc + 3) ls (.int o :: rest))) : W p l e R s m args below meth c H locs cells slots Q (F0 m pc ls st) := by
  obtain ⟨o, ho, hf⟩ := Option.bind_eq_some_iff.mp h
  refine va_calli (hr o ho) M.2.2.2 (fun q _ h => mA_up M.2.2.2.1 h) (fun q h => mA_up M.2.2.2.1 h) (fun r u t H1 locs1 ht hvm hw hB hz hk hS => ?_)
  have hw : r = o := hw
  subst hw
  exact kk r H1 locs1 hf ⟨M.1, by rw [← ht]; exact hB.1, hB.2.2.weaken (fun _ _ _ h => mA_up M.2.2.2.1 h), hS⟩
theorem m_xlp {x : Option Int64} {f : Int64 → Option β} (h : x.bind f = some r) (hr : ∀ o, x = some o → va_Run p l e R s m args below meth c H locs cells slots 0 0 (F0 m pc ls st) rest (mQl D cl tys n tb ad (o, σ) H.size a) (mA n ad H.size)) (M : mM D cl tys (mA n ad s.heap.size) s n tb ad σ H locs)
    (kk : ∀ (o : Int64) (H1 : Heap) (locs1 : List Loc), f o = some r → mM D cl tys (mA n ad s.heap.size) s n tb ad σ H1 locs1 → W p l e R s m args below meth c H1 locs1 cells slots Q (F0 m (pc + 3) ls (.long o :: rest))) : W p l e R s m args below meth c H locs cells slots Q (F0 m pc ls st) := by
  obtain ⟨o, ho, hf⟩ := Option.bind_eq_some_iff.mp h
  refine va_calll (hr o ho) M.2.2.2 (fun q _ h => mA_up M.2.2.2.1 h) (fun q h => mA_up M.2.2.2.1 h) (fun r u t H1 locs1 ht hvm hw hB hz hk hS => ?_)
  have hw : r = o := hw
  subst hw
  exact kk r H1 locs1 hf ⟨M.1, by rw [← ht]; exact hB.1, hB.2.2.weaken (fun _ _ _ h => mA_up M.2.2.2.1 h), hS⟩
theorem m_xl {x : Option (Int64 × mS)} {f : Int64 × mS → Option β} (h : x.bind f = some r) (hr : ∀ o, x = some o → va_Run p l e R s m args below meth c H locs cells slots 0 0 (F0 m pc ls st) rest (mQl D cl tys n tb ad o H.size a) (mA n ad H.size)) (M : mM D cl tys (mA n ad s.heap.size) s n tb ad σ H locs)
    (kk : ∀ (o : Int64 × mS) (H1 : Heap) (locs1 : List Loc), f o = some r → mM D cl tys (mA n ad s.heap.size) s n tb ad o.2 H1 locs1 → W p l e R s m args below meth c H1 locs1 cells slots Q (F0 m (pc + 3) ls (.long o.1 :: rest))) : W p l e R s m args below meth c H locs cells slots Q (F0 m pc ls st) := by
  obtain ⟨o, ho, hf⟩ := Option.bind_eq_some_iff.mp h
  refine va_calll (hr o ho) M.2.2.2 (fun q _ h => mA_up M.2.2.2.1 h) (fun q h => mA_up M.2.2.2.1 h) (fun r u t H1 locs1 ht hvm hw hB hz hk hS => ?_)
  have hw : r = o.1 := hw
  subst hw
  exact kk o H1 locs1 hf ⟨M.1, by rw [← ht]; exact hB.1, hB.2.2.weaken (fun _ _ _ h => mA_up M.2.2.2.1 h), hS⟩
theorem m_xv {x : Option mS} {f : mS → Option β} (h : x.bind f = some r) (hr : ∀ o, x = some o → va_Run p l e R s m args below meth c H locs cells slots 0 0 (F0 m pc ls st) rest (mQv D cl tys n tb ad o H.size a) (mA n ad H.size)) (M : mM D cl tys (mA n ad s.heap.size) s n tb ad σ H locs)
    (kk : ∀ (o : mS) (H1 : Heap) (locs1 : List Loc), f o = some r → mM D cl tys (mA n ad s.heap.size) s n tb ad o H1 locs1 → W p l e R s m args below meth c H1 locs1 cells slots Q (F0 m (pc + 3) ls rest)) : W p l e R s m args below meth c H locs cells slots Q (F0 m pc ls st) := by
  obtain ⟨o, ho, hf⟩ := Option.bind_eq_some_iff.mp h
  refine va_callv (hr o ho) M.2.2.2 (fun q _ h => mA_up M.2.2.2.1 h) (fun q h => mA_up M.2.2.2.1 h) (fun u t H1 locs1 ht hvm hw hB hz hk hS => ?_)
  exact kk o H1 locs1 hf ⟨M.1, by rw [← ht]; exact hB.1, hB.2.2.weaken (fun _ _ _ h => mA_up M.2.2.2.1 h), hS⟩
end MCall
-- ===== a contract out of a walk =====
section MOf
variable {l : Launch} {y : MethodName} {tl : List Cond} {rm : Room} {D : va_G} {cl : List vw_C} {tys : List (Nat × FieldType)} {n : Nat} {tb : Nat → mK} {ad : Nat → Nat} {σ : mS} {av : List Value} {cc : ByteArray} {maxL : Nat}
/-- what the walk of a body starts from -/
theorem m_of {ret : Option FieldType} {Qc : Nat → Array Value → State → Outcome → State → Prop} (hy : plainName y.cls = true) (hlen : (lg_sl av).length ≤ maxL)
    (body : ∀ (p : Program) (e : Env) (s : State) (m : MethodId) (args : Array Value) (below : List Frame) (meth : Method) (c : Code) (ls : Array Slot), CallFix p m c cc maxL s args tl y.cls → meth.sig.returnType = ret → meth.locks = false → meth.name = y.name → lv_has ls maxL (lv_args 0 av) → mM D cl tys (mA n ad s.heap.size) s n tb ad σ s.heap [] →
      W p l e rm s m args below meth c s.heap [] 0 0 (MQ below (Qc s.heap.size) args s 0 0 (mA n ad s.heap.size)) (F0 m 0 ls [])) (sz : Nat) :
    Met l y (.code y cc maxL ret :: tl) rm (va_Pc av (mPre D cl tys n tb ad σ sz)) (Qc sz) 0 0 (mA n ad sz) := by
  refine Met.ofW (cc := cc) (maxL := maxL) (ret := ret) hy rfl ?_
  intro p e s m args below meth c s₁ B hml hv
  obtain ⟨rfl, hsz, hP, hK, hD0⟩ := hv
  subst hsz
  have hts := atoms_spec (ws := .code y cc maxL ret :: tl) B.pre
  have hl := lv_entry av (n := maxL) hlen
  rw [lg_entry_eq]
  generalize (lg_sl av ++ List.replicate (maxL - (lg_sl av).length) Slot.unset).toArray = ls at hl ⊢
  exact body p e s m _ below meth c ls ⟨B.exec, B.bytes, hml, findClass_of_methodNamed B.named, fun w h => hts w (List.mem_cons_of_mem _ h)⟩ B.returns B.notSynchronized (name_of_methodNamed B.named B.method).1 hl ⟨hK, hP, mD_self hD0, va_S.rf⟩
end MOf
section MRet
variable {p : Program} {l : Launch} {e : Env} {R : Room} {s : State} {m : MethodId} {args : Array Value} {below : List Frame} {meth : Method} {c : Code} {H : Heap} {locs : List Loc}
variable {cc : ByteArray} {pc nL : Nat} {ls : Array Slot} {D : va_G} {cl : List vw_C} {tys : List (Nat × FieldType)} {Ts : List Cond} {own : String} {n : Nat} {tb : Nat → mK} {ad : Nat → Nat} {σ : mS}
theorem m_iret {v : Int32} {o : Int32 × mS} (S : CallFix p m c cc nL s args Ts own) (hr : meth.sig.returnType = some .int) (hlk : meth.locks = false) (M : mM D cl tys (mA n ad s.heap.size) s n tb ad σ H locs) (h : (v, σ) = o) (hdg : decode cc pc = .ok (.ireturn, 1)) :
    W p l e R s m args below meth c H locs 0 0 (MQ below (mQi D cl tys n tb ad o s.heap.size) args s 0 0 (mA n ad s.heap.size)) (F0 m pc ls [.int v]) := by
  subst h
  exact W.iret S.1 S.2.1 hr (fun t ht hW => ⟨⟨v, (), rfl, rfl, by rw [ht]; exact M.2.1, va_K.moved hW.alike M.1, M.2.2.1⟩, M.2.2.2.F ht⟩) M.2.2.2.2.2 hdg hlk
theorem m_zret {v : Int32} {o : Int32 × mS} (S : CallFix p m c cc nL s args Ts own) (hr : meth.sig.returnType = some .boolean) (hlk : meth.locks = false) (M : mM D cl tys (mA n ad s.heap.size) s n tb ad σ H locs) (h : (v, σ) = o) (hb : isB v = true) (hdg : decode cc pc = .ok (.ireturn, 1)) :
    W p l e R s m args below meth c H locs 0 0 (MQ below (mQi D cl tys n tb ad o s.heap.size) args s 0 0 (mA n ad s.heap.size)) (F0 m pc ls [.int v]) := by
  subst h
  have hv : v = 0 ∨ v = 1 := of_decide_eq_true hb
  exact W.zret S.1 S.2.1 hr (by rcases hv with rfl | rfl <;> rfl) (fun t ht hW => ⟨⟨v, (), rfl, rfl, by rw [ht]; exact M.2.1, va_K.moved hW.alike M.1, M.2.2.1⟩, M.2.2.2.F ht⟩) M.2.2.2.2.2 hdg hlk
theorem m_lret {v : Int64} {o : Int64 × mS} (S : CallFix p m c cc nL s args Ts own) (hr : meth.sig.returnType = some .long) (hlk : meth.locks = false) (M : mM D cl tys (mA n ad s.heap.size) s n tb ad σ H locs) (h : (v, σ) = o) (hdg : decode cc pc = .ok (.lreturn, 1)) :
    W p l e R s m args below meth c H locs 0 0 (MQ below (mQl D cl tys n tb ad o s.heap.size) args s 0 0 (mA n ad s.heap.size)) (F0 m pc ls [.long v]) := by
  subst h
  exact W.lret S.1 S.2.1 hr (fun t ht hW => ⟨⟨v, (), rfl, rfl, by rw [ht]; exact M.2.1, va_K.moved hW.alike M.1, M.2.2.1⟩, M.2.2.2.F ht⟩) M.2.2.2.2.2 hdg hlk
theorem m_vret {o : mS} (S : CallFix p m c cc nL s args Ts own) (hr : meth.sig.returnType = none) (hlk : meth.locks = false) (M : mM D cl tys (mA n ad s.heap.size) s n tb ad σ H locs) (h : σ = o) (hdg : decode cc pc = .ok (.return_, 1)) :
    W p l e R s m args below meth c H locs 0 0 (MQ below (mQv D cl tys n tb ad o s.heap.size) args s 0 0 (mA n ad s.heap.size)) (F0 m pc ls []) := by
  subst h
  exact W.vret S.1 S.2.1 hr (fun t ht hW => ⟨⟨(), rfl, trivial, by rw [ht]; exact M.2.1, va_K.moved hW.alike M.1, M.2.2.1⟩, M.2.2.2.F ht⟩) M.2.2.2.2.2 hdg hlk
end MRet
theorem lpN_W2 {S X Y : Type} {st : S → Option (S ⊕ (X ⊕ Y))} (P : S → Prop) (Qe : X → Prop) (Qr : Y → Prop) (hs : ∀ s o, st s = some o → (∀ s', o = .inl s' → P s') → (∀ x, o = .inr (.inl x) → Qe x) → (∀ y, o = .inr (.inr y) → Qr y) → P s) (n : Nat) (s : S) (x : X ⊕ Y) (h : lpN st n s = some x) (he : ∀ q, x = .inl q → Qe q) (hr : ∀ q, x = .inr q → Qr q) : P s :=
  lpN_W1 P (fun x => (∀ q, x = .inl q → Qe q) ∧ ∀ q, x = .inr q → Qr q) (fun s o h k1 k2 => hs s o h k1 (fun x e => (k2 _ e).1 x rfl) (fun y e => (k2 _ e).2 y rfl)) n s x h ⟨he, hr⟩
/-- how often a loop may go round: of the one side, of the other -/
def fuS : Nat := 1000
def fuB : Nat := 10 ^ 40
end
section
-- ===== words: the tables' good ones =====
def tlG : List Cond := lw_tbl.filter goodWord
theorem tl_at {w : Cond} (i : Nat) (h : tables_1[i]? = some w) (hg : goodWord w = true) : w ∈ tlG := List.mem_filter.mpr ⟨List.mem_append_right _ (List.mem_of_getElem? h), hg⟩
theorem tl_sel {y : MethodName} {n : Nat} (i : Nat) (h : lw_privs[i]? = some (y, n)) : Cond.selects y.cls y y ∈ tlG := List.mem_filter.mpr ⟨List.mem_append_left _ (List.mem_map.mpr ⟨(y, n), List.mem_of_getElem? h, rfl⟩), rfl⟩
theorem tl_good {ws : List Cond} (h : ∀ w ∈ ws, w ∈ tlG) : GoodIn tlG ws := fun w hw => ⟨h w hw, good_of_word (List.mem_filter.mp (h w hw)).2⟩
section CWG
variable {R : Room} {s : State} {args : Array Value} {own C : String} {index maxL n : Nat} {y : MethodName} {bytes : ByteArray} {ret : Option FieldType} {rm : Room}
theorem cwG (hts : ∀ w ∈ tlG, w.before args s = true) (h1 : Cond.methodLink own index y ∈ tlG) (h2 : Cond.instanceMethod y ∈ tlG) (h3 : Cond.selects C y y ∈ tlG) (h4 : Cond.initialized C ∈ tlG) (h5 : Cond.code y bytes maxL ret ∈ tlG)
    (hd : y.cls = C ∧ y.cls ≠ "java/lang/invoke/MethodHandle" ∧ y.cls ≠ "java/lang/invoke/VarHandle" ∧ (parseMethodDescriptor y.desc).map (fun d => d.parameters.length) = some n) (hR : rm.frames + 1 ≤ R.frames ∧ 8 + (maxL + 11) + rm.locals ≤ R.locals) (hc : rm.cells = 0 := by rfl) (hs : rm.slots = 0 := by rfl) :
    CallW R s args own C index y bytes maxL ret (Cond.code y bytes maxL ret :: tlG) rm 0 0 n := by
  refine cwV n hts (tl_good fun w hw => ?_) rfl hc hs hd hR
  simp only [wsV, List.cons_append, List.nil_append, List.mem_cons] at hw
  rcases hw with rfl | rfl | rfl | rfl | rfl | hw <;> first | exact h1 | exact h2 | exact h3 | exact h4 | exact h5 | exact hw
theorem cwGS (hts : ∀ w ∈ tlG, w.before args s = true) (h1 : Cond.methodLink own index y ∈ tlG) (h2 : Cond.static y ∈ tlG) (h4 : Cond.initialized y.cls ∈ tlG) (h5 : Cond.code y bytes maxL ret ∈ tlG)
    (hd : y.cls ≠ "java/lang/invoke/MethodHandle" ∧ y.cls ≠ "java/lang/invoke/VarHandle" ∧ (parseMethodDescriptor y.desc).map (fun d => d.parameters.length) = some n) (hR : rm.frames + 1 ≤ R.frames ∧ 8 + (maxL + 11) + rm.locals ≤ R.locals) (hc : rm.cells = 0 := by rfl) (hs : rm.slots = 0 := by rfl) :
    CallB R s args own index y bytes maxL ret (Cond.code y bytes maxL ret :: tlG) rm 0 0 n ∧ (Cond.static y).before args s = true := by
  refine va_cwS n hts (tl_good fun w hw => ?_) rfl hc hs hd hR
  simp only [va_wsS, List.cons_append, List.nil_append, List.mem_cons] at hw
  rcases hw with rfl | rfl | rfl | rfl | hw <;> first | exact h1 | exact h2 | exact h4 | exact h5 | exact hw
end CWG
def T_LP : u_T := fun k => match k with
  | 0 => ("LeastPaths", "heap", "I", true)
  | 1 => ("LeastPaths", "graph", "LLeastPaths$Graph;", true)
  | 2 => ("LeastPaths", "ahead", "LLeastPaths$Search;", true)
  | 3 => ("LeastPaths", "back", "LLeastPaths$Search;", true)
  | 4 => ("LeastPaths", "sides", "LLeastPaths$BothSides;", true)
  | 5 => ("LeastPaths", "row", "LLeastPaths$Row;", true)
  | 6 => ("LeastPaths", "rings", "LLeastPaths$Rings;", true)
  | 7 => ("LeastPaths", "widths", "LLeastPaths$Widths;", true)
  | _ => ("LeastPaths", "trusts", "LLeastPaths$Trusts;", true)
def ty_LP : Nat → FieldType := fun k => match k with
  | 0 => .int
  | 1 => (.object "LeastPaths$Graph")
  | 2 => (.object "LeastPaths$Search")
  | 3 => (.object "LeastPaths$Search")
  | 4 => (.object "LeastPaths$BothSides")
  | 5 => (.object "LeastPaths$Row")
  | 6 => (.object "LeastPaths$Rings")
  | 7 => (.object "LeastPaths$Widths")
  | _ => (.object "LeastPaths$Trusts")
def T_BS : u_T := fun k => match k with
  | 0 => ("LeastPaths$BothSides", "ahead", "LLeastPaths$Search;", true)
  | 1 => ("LeastPaths$BothSides", "back", "LLeastPaths$Search;", true)
  | _ => ("LeastPaths$BothSides", "best", "I", false)
def ty_BS : Nat → FieldType := fun k => match k with
  | 0 => (.object "LeastPaths$Search")
  | 1 => (.object "LeastPaths$Search")
  | _ => .int
def T_Gr : u_T := fun k => match k with
  | 0 => ("LeastPaths$Graph", "from", "[I", true)
  | 1 => ("LeastPaths$Graph", "to", "[I", true)
  | 2 => ("LeastPaths$Graph", "weight", "[I", true)
  | 3 => ("LeastPaths$Graph", "above", "[I", true)
  | 4 => ("LeastPaths$Graph", "below", "[I", true)
  | 5 => ("LeastPaths$Graph", "rest", "[I", true)
  | 6 => ("LeastPaths$Graph", "nodes", "I", false)
  | 7 => ("LeastPaths$Graph", "arcs", "I", false)
  | 8 => ("LeastPaths$Graph", "live", "J", false)
  | _ => ("LeastPaths$Graph", "sources", "I", false)
def ty_Gr : Nat → FieldType := fun k => match k with
  | 0 => (.array .int)
  | 1 => (.array .int)
  | 2 => (.array .int)
  | 3 => (.array .int)
  | 4 => (.array .int)
  | 5 => (.array .int)
  | 6 => .int
  | 7 => .int
  | 8 => .long
  | _ => .int
def T_Rg : u_T := fun k => match k with
  | 0 => ("LeastPaths$Rings", "graph", "LLeastPaths$Graph;", true)
  | 1 => ("LeastPaths$Rings", "back", "LLeastPaths$Search;", true)
  | _ => ("LeastPaths$Rings", "least", "LLeastPaths$Way;", true)
def ty_Rg : Nat → FieldType := fun k => match k with
  | 0 => (.object "LeastPaths$Graph")
  | 1 => (.object "LeastPaths$Search")
  | _ => (.object "LeastPaths$Way")
def T_Rw : u_T := fun k => match k with
  | 0 => ("LeastPaths$Row", "graph", "LLeastPaths$Graph;", true)
  | 1 => ("LeastPaths$Row", "back", "LLeastPaths$Search;", true)
  | 2 => ("LeastPaths$Row", "ways", "[LLeastPaths$Way;", true)
  | 3 => ("LeastPaths$Row", "nothing", "LLeastPaths$Way;", true)
  | 4 => ("LeastPaths$Row", "size", "I", false)
  | 5 => ("LeastPaths$Row", "room", "I", false)
  | 6 => ("LeastPaths$Row", "start", "I", false)
  | _ => ("LeastPaths$Row", "goal", "I", false)
def ty_Rw : Nat → FieldType := fun k => match k with
  | 0 => (.object "LeastPaths$Graph")
  | 1 => (.object "LeastPaths$Search")
  | 2 => (.array (.object "LeastPaths$Way"))
  | 3 => (.object "LeastPaths$Way")
  | 4 => .int
  | 5 => .int
  | 6 => .int
  | _ => .int
def T_Se : u_T := fun k => match k with
  | 0 => ("LeastPaths$Search", "graph", "LLeastPaths$Graph;", true)
  | 1 => ("LeastPaths$Search", "against", "Z", true)
  | 2 => ("LeastPaths$Search", "waiting", "LLeastPaths$Waiting;", true)
  | 3 => ("LeastPaths$Search", "number", "[I", true)
  | 4 => ("LeastPaths$Search", "order", "[I", true)
  | 5 => ("LeastPaths$Search", "waysTo", "[I", true)
  | 6 => ("LeastPaths$Search", "settled", "I", false)
  | 7 => ("LeastPaths$Search", "known", "I", false)
  | 8 => ("LeastPaths$Search", "closed", "I", false)
  | 9 => ("LeastPaths$Search", "open", "J", false)
  | 10 => ("LeastPaths$Search", "perArc", "I", false)
  | _ => ("LeastPaths$Search", "byRests", "Z", false)
def ty_Se : Nat → FieldType := fun k => match k with
  | 0 => (.object "LeastPaths$Graph")
  | 1 => .boolean
  | 2 => (.object "LeastPaths$Waiting")
  | 3 => (.array .int)
  | 4 => (.array .int)
  | 5 => (.array .int)
  | 6 => .int
  | 7 => .int
  | 8 => .int
  | 9 => .long
  | 10 => .int
  | _ => .boolean
def T_Tr : u_T := fun k => match k with
  | 0 => ("LeastPaths$Trusts", "graph", "LLeastPaths$Graph;", true)
  | 1 => ("LeastPaths$Trusts", "above", "[J", true)
  | _ => ("LeastPaths$Trusts", "below", "[J", true)
def ty_Tr : Nat → FieldType := fun k => match k with
  | 0 => (.object "LeastPaths$Graph")
  | 1 => (.array .long)
  | _ => (.array .long)
def T_Wa : u_T := fun k => match k with
  | 0 => ("LeastPaths$Waiting", "children", "I", true)
  | 1 => ("LeastPaths$Waiting", "nodeAt", "[I", true)
  | 2 => ("LeastPaths$Waiting", "placeOf", "[I", true)
  | 3 => ("LeastPaths$Waiting", "rankOf", "[J", true)
  | _ => ("LeastPaths$Waiting", "size", "I", false)
def ty_Wa : Nat → FieldType := fun k => match k with
  | 0 => .int
  | 1 => (.array .int)
  | 2 => (.array .int)
  | 3 => (.array .long)
  | _ => .int
def T_Wy : u_T := fun k => match k with
  | 0 => ("LeastPaths$Way", "arcs", "[I", true)
  | 1 => ("LeastPaths$Way", "count", "I", false)
  | 2 => ("LeastPaths$Way", "number", "I", false)
  | 3 => ("LeastPaths$Way", "split", "I", false)
  | _ => ("LeastPaths$Way", "barred", "J", false)
def ty_Wy : Nat → FieldType := fun k => match k with
  | 0 => (.array .int)
  | 1 => .int
  | 2 => .int
  | 3 => .int
  | _ => .long
def T_Wi : u_T := fun k => match k with
  | 0 => ("LeastPaths$Widths", "graph", "LLeastPaths$Graph;", true)
  | _ => ("LeastPaths$Widths", "width", "[I", true)
def ty_Wi : Nat → FieldType := fun k => match k with
  | 0 => (.object "LeastPaths$Graph")
  | _ => (.array .int)
def T_Mo : u_T := fun k => match k with
  | 0 => ("LeastPathsModel", "heap", "I", true)
  | 1 => ("LeastPathsModel", "nodes", "I", false)
  | 2 => ("LeastPathsModel", "arcs", "I", false)
  | 3 => ("LeastPathsModel", "from", "[I", true)
  | 4 => ("LeastPathsModel", "to", "[I", true)
  | 5 => ("LeastPathsModel", "weight", "[I", true)
  | 6 => ("LeastPathsModel", "above", "[I", true)
  | 7 => ("LeastPathsModel", "below", "[I", true)
  | 8 => ("LeastPathsModel", "alive", "[Z", true)
  | 9 => ("LeastPathsModel", "isSource", "[Z", true)
  | 10 => ("LeastPathsModel", "rests", "[I", true)
  | 11 => ("LeastPathsModel", "far", "[I", true)
  | 12 => ("LeastPathsModel", "hop", "[I", true)
  | 13 => ("LeastPathsModel", "many", "[I", true)
  | 14 => ("LeastPathsModel", "number", "[I", true)
  | 15 => ("LeastPathsModel", "settled", "[Z", true)
  | 16 => ("LeastPathsModel", "path", "[I", true)
  | 17 => ("LeastPathsModel", "tried", "[I", true)
  | 18 => ("LeastPathsModel", "place", "[I", true)
  | 19 => ("LeastPathsModel", "size", "I", false)
  | 20 => ("LeastPathsModel", "length", "I", false)
  | 21 => ("LeastPathsModel", "rowFrom", "I", false)
  | 22 => ("LeastPathsModel", "rowTo", "I", false)
  | 23 => ("LeastPathsModel", "rows", "I", false)
  | 24 => ("LeastPathsModel", "rowLength", "[I", true)
  | 25 => ("LeastPathsModel", "rowSize", "[I", true)
  | 26 => ("LeastPathsModel", "rowArcs", "[I", true)
  | 27 => ("LeastPathsModel", "over", "[J", true)
  | 28 => ("LeastPathsModel", "under", "[J", true)
  | 29 => ("LeastPathsModel", "ringLength", "I", false)
  | 30 => ("LeastPathsModel", "ringSize", "I", false)
  | _ => ("LeastPathsModel", "ringPath", "[I", true)
def ty_Mo : Nat → FieldType := fun k => match k with
  | 0 => .int
  | 1 => .int
  | 2 => .int
  | 3 => (.array .int)
  | 4 => (.array .int)
  | 5 => (.array .int)
  | 6 => (.array .int)
  | 7 => (.array .int)
  | 8 => (.array .boolean)
  | 9 => (.array .boolean)
  | 10 => (.array .int)
  | 11 => (.array .int)
  | 12 => (.array .int)
  | 13 => (.array .int)
  | 14 => (.array .int)
  | 15 => (.array .boolean)
  | 16 => (.array .int)
  | 17 => (.array .int)
  | 18 => (.array .int)
  | 19 => .int
  | 20 => .int
  | 21 => .int
  | 22 => .int
  | 23 => .int
  | 24 => (.array .int)
  | 25 => (.array .int)
  | 26 => (.array .int)
  | 27 => (.array .long)
  | 28 => (.array .long)
  | 29 => .int
  | 30 => .int
  | _ => (.array .int)
def clX : List vw_C := [("LeastPaths", T_LP, 9), ("LeastPaths$BothSides", T_BS, 3), ("LeastPaths$Graph", T_Gr, 10), ("LeastPaths$Rings", T_Rg, 3), ("LeastPaths$Row", T_Rw, 8), ("LeastPaths$Search", T_Se, 12), ("LeastPaths$Trusts", T_Tr, 3), ("LeastPaths$Waiting", T_Wa, 5), ("LeastPaths$Way", T_Wy, 5), ("LeastPaths$Widths", T_Wi, 2), ("LeastPathsModel", T_Mo, 32)]
theorem ok_LP : mC tlG clX 0 "LeastPaths" T_LP 9 ty_LP := ⟨by decide +kernel, rfl, by decide +kernel, by decide +kernel⟩
theorem ok_BS : mC tlG clX 1 "LeastPaths$BothSides" T_BS 3 ty_BS := ⟨by decide +kernel, rfl, by decide +kernel, by decide +kernel⟩
theorem ok_Gr : mC tlG clX 2 "LeastPaths$Graph" T_Gr 10 ty_Gr := ⟨by decide +kernel, rfl, by decide +kernel, by decide +kernel⟩
theorem ok_Rg : mC tlG clX 3 "LeastPaths$Rings" T_Rg 3 ty_Rg := ⟨by decide +kernel, rfl, by decide +kernel, by decide +kernel⟩
theorem ok_Rw : mC tlG clX 4 "LeastPaths$Row" T_Rw 8 ty_Rw := ⟨by decide +kernel, rfl, by decide +kernel, by decide +kernel⟩
theorem ok_Se : mC tlG clX 5 "LeastPaths$Search" T_Se 12 ty_Se := ⟨by decide +kernel, rfl, by decide +kernel, by decide +kernel⟩
theorem ok_Tr : mC tlG clX 6 "LeastPaths$Trusts" T_Tr 3 ty_Tr := ⟨by decide +kernel, rfl, by decide +kernel, by decide +kernel⟩
theorem ok_Wa : mC tlG clX 7 "LeastPaths$Waiting" T_Wa 5 ty_Wa := ⟨by decide +kernel, rfl, by decide +kernel, by decide +kernel⟩
theorem ok_Wy : mC tlG clX 8 "LeastPaths$Way" T_Wy 5 ty_Wy := ⟨by decide +kernel, rfl, by decide +kernel, by decide +kernel⟩
theorem ok_Wi : mC tlG clX 9 "LeastPaths$Widths" T_Wi 2 ty_Wi := ⟨by decide +kernel, rfl, by decide +kernel, by decide +kernel⟩
theorem ok_Mo : mC tlG clX 10 "LeastPathsModel" T_Mo 32 ty_Mo := ⟨by decide +kernel, rfl, by decide +kernel, by decide +kernel⟩
def tbX (cA : Nat → Nat) : Nat → mK := fun k => match k with
  | 0 => .inr (0, [0, 1 + 3, 8 + 3, 16 + 3, 24 + 3, 25 + 3, 91 + 3, 94 + 3, 96 + 3])
  | 1 => .inr (2, [2 + 3, 3 + 3, 4 + 3, 5 + 3, 6 + 3, 7 + 3, 0, 0, 1, 0])
  | 2 => .inl (0, 40, cA 0)
  | 3 => .inl (0, 40, cA 0)
  | 4 => .inl (0, 40, cA 0)
  | 5 => .inl (0, 40, cA 0)
  | 6 => .inl (0, 40, cA 0)
  | 7 => .inl (0, 10, cA 0)
  | 8 => .inr (5, [1 + 3, 0, 12 + 3, 9 + 3, 10 + 3, 11 + 3, 0, 0, 0, 1, 0, 0])
  | 9 => .inl (0, 10, cA 0)
  | 10 => .inl (0, 10, cA 0)
  | 11 => .inl (0, 10, cA 0)
  | 12 => .inr (7, [0, 13 + 3, 14 + 3, 15 + 3, 0])
  | 13 => .inl (0, 10, cA 0)
  | 14 => .inl (0, 10, cA 0)
  | 15 => .inl (1, 10, cA 1)
  | 16 => .inr (5, [1 + 3, 0, 20 + 3, 17 + 3, 18 + 3, 19 + 3, 0, 0, 0, 1, 0, 0])
  | 17 => .inl (0, 10, cA 0)
  | 18 => .inl (0, 10, cA 0)
  | 19 => .inl (0, 10, cA 0)
  | 20 => .inr (7, [0, 21 + 3, 22 + 3, 23 + 3, 0])
  | 21 => .inl (0, 10, cA 0)
  | 22 => .inl (0, 10, cA 0)
  | 23 => .inl (1, 10, cA 1)
  | 24 => .inr (1, [8 + 3, 16 + 3, 0])
  | 25 => .inr (4, [1 + 3, 16 + 3, 26 + 3, 27 + 3, 0, 0, 0, 0])
  | 26 => .inl (2, 31, cA 3)
  | 91 => .inr (3, [1 + 3, 16 + 3, 92 + 3])
  | 92 => .inr (8, [93 + 3, 0, 0, 0, 1])
  | 93 => .inl (0, 10, cA 0)
  | 94 => .inr (9, [1 + 3, 95 + 3])
  | 95 => .inl (0, 10, cA 0)
  | 96 => .inr (6, [1 + 3, 97 + 3, 98 + 3])
  | 97 => .inl (1, 10, cA 1)
  | 98 => .inl (1, 10, cA 1)
  | k => if k % 2 = 1 then .inr (8, [k + 1 + 3, 0, 0, 0, 1]) else .inl (0, 10, cA 0)
def tbY (cA : Nat → Nat) : Nat → mK := fun k => match k with
  | 0 => .inr (10, [0, 0, 0, 1 + 3, 2 + 3, 3 + 3, 4 + 3, 5 + 3, 6 + 3, 7 + 3, 8 + 3, 9 + 3, 10 + 3, 11 + 3, 12 + 3, 13 + 3, 14 + 3, 15 + 3, 16 + 3, 0, 0, 0, 0, 0, 17 + 3, 18 + 3, 19 + 3, 20 + 3, 21 + 3, 0, 0, 22 + 3])
  | 1 => .inl (0, 40, cA 0)
  | 2 => .inl (0, 40, cA 0)
  | 3 => .inl (0, 40, cA 0)
  | 4 => .inl (0, 40, cA 0)
  | 5 => .inl (0, 40, cA 0)
  | 6 => .inl (0, 40, cA 2)
  | 7 => .inl (0, 10, cA 2)
  | 8 => .inl (0, 10, cA 0)
  | 9 => .inl (0, 10, cA 0)
  | 10 => .inl (0, 10, cA 0)
  | 11 => .inl (0, 10, cA 0)
  | 12 => .inl (0, 20, cA 0)
  | 13 => .inl (0, 20, cA 2)
  | 14 => .inl (0, 12, cA 0)
  | 15 => .inl (0, 12, cA 0)
  | 16 => .inl (0, 12, cA 0)
  | 17 => .inl (0, 31, cA 0)
  | 18 => .inl (0, 31, cA 0)
  | 19 => .inl (0, 310, cA 0)
  | 20 => .inl (1, 10, cA 1)
  | 21 => .inl (1, 10, cA 1)
  | 22 => .inl (0, 12, cA 0)
  | _ => .inl (0, 0, cA 0)
def tyK (cA : Nat → Nat) : List (Nat × FieldType) := [(cA 0, .int), (cA 1, .long), (cA 2, .boolean), (cA 3, .object "LeastPaths$Way")]
-- the two searches, the two heaps, the ways
def sB (b : Nat) : Prop := b = 8 ∨ b = 16
def wB (b : Nat) : Prop := b = 12 ∨ b = 20
def wy (w : Nat) : Bool := decide (w = 27 ∨ w = 92 ∨ (29 ≤ w ∧ w < 91 ∧ w % 2 = 1))
theorem sB_8 : sB 8 := Or.inl rfl
theorem sB_16 : sB 16 := Or.inr rfl
theorem wB_12 : wB 12 := Or.inl rfl
theorem wB_20 : wB 20 := Or.inr rfl
theorem sB_w {b : Nat} (h : sB b) : wB (b + 4) := by rcases h with rfl | rfl; exact wB_12; exact wB_20
theorem wy_27 : wy 27 = true := by decide
theorem wy_92 : wy 92 = true := by decide
theorem lt_S0 {b : Nat} (h : sB b) : b < 99 := by rcases h with rfl | rfl <;> decide
theorem lt_S1 {b : Nat} (h : sB b) : b + 1 < 99 := by rcases h with rfl | rfl <;> decide
theorem lt_S2 {b : Nat} (h : sB b) : b + 2 < 99 := by rcases h with rfl | rfl <;> decide
theorem lt_S3 {b : Nat} (h : sB b) : b + 3 < 99 := by rcases h with rfl | rfl <;> decide
theorem lt_W0 {b : Nat} (h : wB b) : b < 99 := by rcases h with rfl | rfl <;> decide
theorem lt_W1 {b : Nat} (h : wB b) : b + 1 < 99 := by rcases h with rfl | rfl <;> decide
theorem lt_W2 {b : Nat} (h : wB b) : b + 2 < 99 := by rcases h with rfl | rfl <;> decide
theorem lt_W3 {b : Nat} (h : wB b) : b + 3 < 99 := by rcases h with rfl | rfl <;> decide
theorem tb_S0 {cA : Nat → Nat} {b : Nat} (h : sB b) : tbX cA b = .inr (5, [1 + 3, 0, b + 4 + 3, b + 1 + 3, b + 2 + 3, b + 3 + 3, 0, 0, 0, 1, 0, 0]) := by rcases h with rfl | rfl <;> rfl
theorem tb_S1 {cA : Nat → Nat} {b : Nat} (h : sB b) : tbX cA (b + 1) = .inl (0, 10, cA 0) := by rcases h with rfl | rfl <;> rfl
theorem tb_S2 {cA : Nat → Nat} {b : Nat} (h : sB b) : tbX cA (b + 2) = .inl (0, 10, cA 0) := by rcases h with rfl | rfl <;> rfl
theorem tb_S3 {cA : Nat → Nat} {b : Nat} (h : sB b) : tbX cA (b + 3) = .inl (0, 10, cA 0) := by rcases h with rfl | rfl <;> rfl
theorem tb_W0 {cA : Nat → Nat} {b : Nat} (h : wB b) : tbX cA b = .inr (7, [0, b + 1 + 3, b + 2 + 3, b + 3 + 3, 0]) := by rcases h with rfl | rfl <;> rfl
theorem tb_W1 {cA : Nat → Nat} {b : Nat} (h : wB b) : tbX cA (b + 1) = .inl (0, 10, cA 0) := by rcases h with rfl | rfl <;> rfl
theorem tb_W2 {cA : Nat → Nat} {b : Nat} (h : wB b) : tbX cA (b + 2) = .inl (0, 10, cA 0) := by rcases h with rfl | rfl <;> rfl
theorem tb_W3 {cA : Nat → Nat} {b : Nat} (h : wB b) : tbX cA (b + 3) = .inl (1, 10, cA 1) := by rcases h with rfl | rfl <;> rfl
theorem wy_cases {w : Nat} (h : wy w = true) : w = 27 ∨ w = 92 ∨ w = 29 ∨ w = 31 ∨ w = 33 ∨ w = 35 ∨ w = 37 ∨ w = 39 ∨ w = 41 ∨ w = 43 ∨ w = 45 ∨ w = 47 ∨ w = 49 ∨ w = 51 ∨ w = 53 ∨ w = 55 ∨ w = 57 ∨ w = 59 ∨ w = 61 ∨ w = 63 ∨ w = 65 ∨ w = 67 ∨ w = 69 ∨ w = 71 ∨ w = 73 ∨ w = 75 ∨ w = 77 ∨ w = 79 ∨ w = 81 ∨ w = 83 ∨ w = 85 ∨ w = 87 ∨ w = 89 := by
  have := of_decide_eq_true h
  omega
theorem lt_Y0 {w : Nat} (h : wy w = true) : w < 99 := by
  have := of_decide_eq_true h
  omega
theorem lt_Y1 {w : Nat} (h : wy w = true) : w + 1 < 99 := by
  have := of_decide_eq_true h
  omega
theorem tb_Y0 {cA : Nat → Nat} {w : Nat} (h : wy w = true) : tbX cA w = .inr (8, [w + 1 + 3, 0, 0, 0, 1]) := by
  rcases wy_cases h with rfl | rfl | rfl | rfl | rfl | rfl | rfl | rfl | rfl | rfl | rfl | rfl | rfl | rfl | rfl | rfl | rfl | rfl | rfl | rfl | rfl | rfl | rfl | rfl | rfl | rfl | rfl | rfl | rfl | rfl | rfl | rfl | rfl <;> rfl
theorem tb_Y1 {cA : Nat → Nat} {w : Nat} (h : wy w = true) : tbX cA (w + 1) = .inl (0, 10, cA 0) := by
  rcases wy_cases h with rfl | rfl | rfl | rfl | rfl | rfl | rfl | rfl | rfl | rfl | rfl | rfl | rfl | rfl | rfl | rfl | rfl | rfl | rfl | rfl | rfl | rfl | rfl | rfl | rfl | rfl | rfl | rfl | rfl | rfl | rfl | rfl | rfl <;> rfl
section MR2
variable {p : Program} {l : Launch} {e : Env} {R : Room} {s : State} {m : MethodId} {args : Array Value} {below : List Frame} {meth : Method} {c : Code} {H : Heap} {locs : List Loc} {cells slots : Nat} {Q : State → Prop}
variable {cc : ByteArray} {pc nL : Nat} {ls : Array Slot} {rest : List Value} {D : va_G} {cl : List vw_C} {A : Nat → Prop} {tys : List (Nat × FieldType)} {Ts : List Cond} {own : String} {n : Nat} {tb : Nat → mK} {ad : Nat → Nat} {σ : mS}
variable {β : Type} {r : β}
theorem m_zal {k N cA t0 : Nat} {i : Int32} {x : Option β} (S : CallFix p m c cc nL s args Ts own) (M : mM D cl tys A s n tb ad σ H locs) (hk : k < n) (ht : tb k = .inl (0, N, cA)) (hty : tys[t0]? = some (cA, .boolean)) (h : gd (inb i N) x = some r) (hdg : decode cc pc = .ok (.baload, 1))
    (kk : x = some r → W p l e R s m args below meth c H locs cells slots Q (F0 m (pc + 1) ls (.int (σ.1 k i.toNatClampNeg) :: rest))) : W p l e R s m args below meth c H locs cells slots Q (F0 m pc ls (.int i :: .ref (ad k) :: rest)) := by
  obtain ⟨hb, h⟩ := gd_s h
  exact va_zald S.1 S.2.1 M.1 M.2.1 k t0 (wd_get hk ht) hty (inb_in hb) hdg (kk h)
theorem m_zas {k N cA t0 : Nat} {i v : Int32} {f : mS → Option β} (S : CallFix p m c cc nL s args Ts own) (M : mM D cl tys A s n tb ad σ H locs) (hk : k < n) (ht : tb k = .inl (0, N, cA)) (hty : tys[t0]? = some (cA, .boolean)) (h : gd (inb i N) (gd (isB v) (nm (sI σ k i.toNatClampNeg v) f)) = some r) (hdg : decode cc pc = .ok (.bastore, 1))
    (kk : ∀ (σ1 : mS) (H1 : Heap) (locs1 : List Loc), f σ1 = some r → mM D cl tys A s n tb ad σ1 H1 locs1 → W p l e R s m args below meth c H1 locs1 cells slots Q (F0 m (pc + 1) ls rest)) : W p l e R s m args below meth c H locs cells slots Q (F0 m pc ls (.int v :: .int i :: .ref (ad k) :: rest)) := by
  obtain ⟨hb, h⟩ := gd_s h
  obtain ⟨hv, h⟩ := gd_s h
  have hv : v = 0 ∨ v = 1 := of_decide_eq_true hv
  have hv : vp_nar .boolean v = v := by rcases hv with rfl | rfl <;> rfl
  have ew : (.inl (cA, N, .inl (upd (σ.1 k) i.toNatClampNeg v)) : va_E) = mE ad (sI σ k i.toNatClampNeg v) k (.inl (0, N, cA)) := by
    show _ = (Sum.inl (cA, N, .inl (up2 σ.1 k i.toNatClampNeg v k)) : va_E)
    rw [up2_s]
    rfl
  refine va_zast S.1 S.2.1 M.1 M.2.1 M.2.2.1 M.2.2.2 k t0 (wd_get hk ht) hty (inb_in hb) hdg (fun H1 locs1 hP hD hS => ?_)
  rw [hv, ew, wd_set hk ht sI_o] at hP hD
  exact kk _ H1 locs1 h ⟨M.1, hP, hD, hS⟩
theorem m_aalW {k N cA t0 : Nat} {C : String} {i : Int32} {f : Nat → Option β} (S : CallFix p m c cc nL s args Ts own) (M : mM D cl tys A s n tb ad σ H locs) (hk : k < n) (ht : tb k = .inl (2, N, cA)) (hty : tys[t0]? = some (cA, .object C)) (h : gd (inb i N) ((σ.2.2 k i.toNatClampNeg).bind fun w => gd (wy w) (f w)) = some r) (hdg : decode cc pc = .ok (.aaload, 1))
    (kk : ∀ w : Nat, wy w = true → f w = some r → W p l e R s m args below meth c H locs cells slots Q (F0 m (pc + 1) ls (.ref (ad w) :: rest))) : W p l e R s m args below meth c H locs cells slots Q (F0 m pc ls (.int i :: .ref (ad k) :: rest)) := by
  obtain ⟨hb, h⟩ := gd_s h
  obtain ⟨w, hw, h⟩ := Option.bind_eq_some_iff.mp h
  obtain ⟨hy, h⟩ := gd_s h
  refine va_aldq S.1 S.2.1 M.1 M.2.1 k t0 (wd_get hk ht) hty (inb_in hb) hdg ?_
  show W p l e R s m args below meth c H locs cells slots Q (F0 m (pc + 1) ls (va_rf ((σ.2.2 k i.toNatClampNeg).map ad) :: rest))
  rw [hw]
  exact kk w hy h
theorem m_aas {k k2 N cA t0 ci Nn : Nat} {C : String} {T : u_T} {ty : Nat → FieldType} {ts : List Nat} {i : Int32} {f : mS → Option β} (S : CallFix p m c cc nL s args Ts own) (M : mM D cl tys A s n tb ad σ H locs) (hC : mC Ts cl ci C T Nn ty) (hk : k < n) (ht : tb k = .inl (2, N, cA)) (hty : tys[t0]? = some (cA, .object C)) (hk2 : k2 < n) (ht2 : tb k2 = .inr (ci, ts)) (h : gd (inb i N) (nm (sQ σ k i.toNatClampNeg (some k2)) f) = some r) (hdg : decode cc pc = .ok (.aastore, 1))
    (kk : ∀ (σ1 : mS) (H1 : Heap) (locs1 : List Loc), f σ1 = some r → mM D cl tys A s n tb ad σ1 H1 locs1 → W p l e R s m args below meth c H1 locs1 cells slots Q (F0 m (pc + 1) ls rest)) : W p l e R s m args below meth c H locs cells slots Q (F0 m pc ls (.ref (ad k2) :: .int i :: .ref (ad k) :: rest)) := by
  obtain ⟨hb, h⟩ := gd_s h
  have ef : va_up (fun x => (σ.2.2 k x).map ad) i.toNatClampNeg (some (ad k2)) = fun x => ((up2 σ.2.2 k i.toNatClampNeg (some k2)) k x).map ad := by
    funext x
    by_cases hx : x = i.toNatClampNeg
    · simp [va_up, up2, hx]
    · simp [va_up, up2, hx]
  have ew : (.inl (cA, N, .inr (.inr (.inr (.inr (va_up (fun x => (σ.2.2 k x).map ad) i.toNatClampNeg (some (ad k2))))))) : va_E) = mE ad (sQ σ k i.toNatClampNeg (some k2)) k (.inl (2, N, cA)) := by
    rw [ef]
    rfl
  refine va_astq S.1 S.2.1 M.1 M.2.1 M.2.2.1 M.2.2.2 k t0 k2 ci (r := (C, T, Nn)) (wd_get hk ht) hty (wd_get hk2 ht2) hC.2.1 (inb_in hb) hdg (fun H1 locs1 hP hD hS => ?_)
  rw [ew, wd_set hk ht sQ_o] at hP hD
  exact kk _ H1 locs1 h ⟨M.1, hP, hD, hS⟩
end MR2
end
section
set_option maxRecDepth 100000 in
theorem kw_0 : Cond.constantLong "java/lang/Long" 314 6148914691236517205 ∈ tlG := tl_at 377 rfl rfl
set_option maxRecDepth 100000 in
theorem kw_1 : Cond.constantLong "java/lang/Long" 316 3689348814741910323 ∈ tlG := tl_at 378 rfl rfl
set_option maxRecDepth 100000 in
theorem kw_2 : Cond.constantLong "java/lang/Long" 318 1085102592571150095 ∈ tlG := tl_at 379 rfl rfl
set_option maxRecDepth 100000 in
theorem kw_3 : Cond.fieldLink "LeastPaths$Graph" 30 "LeastPaths$Graph" "nodes" "I" ∈ tlG := tl_at 60 rfl rfl
set_option maxRecDepth 100000 in
theorem kw_4 : Cond.fieldLink "LeastPaths$Graph" 34 "LeastPaths$Graph" "arcs" "I" ∈ tlG := tl_at 66 rfl rfl
set_option maxRecDepth 100000 in
theorem kw_5 : Cond.fieldLink "LeastPaths$Graph" 37 "LeastPaths$Graph" "live" "J" ∈ tlG := tl_at 72 rfl rfl
set_option maxRecDepth 100000 in
theorem kw_6 : Cond.fieldLink "LeastPaths$Graph" 27 "LeastPaths$Graph" "rest" "[I" ∈ tlG := tl_at 57 rfl rfl
set_option maxRecDepth 100000 in
theorem kw_7 : Cond.fieldLink "LeastPaths$Graph" 9 "LeastPaths$Graph" "from" "[I" ∈ tlG := tl_at 34 rfl rfl
set_option maxRecDepth 100000 in
theorem kw_8 : Cond.fieldLink "LeastPaths$Graph" 15 "LeastPaths$Graph" "to" "[I" ∈ tlG := tl_at 40 rfl rfl
set_option maxRecDepth 100000 in
theorem kw_9 : Cond.fieldLink "LeastPaths$Graph" 18 "LeastPaths$Graph" "weight" "[I" ∈ tlG := tl_at 46 rfl rfl
set_option maxRecDepth 100000 in
theorem kw_10 : Cond.fieldLink "LeastPaths$Graph" 21 "LeastPaths$Graph" "above" "[I" ∈ tlG := tl_at 51 rfl rfl
set_option maxRecDepth 100000 in
theorem kw_11 : Cond.fieldLink "LeastPaths$Graph" 24 "LeastPaths$Graph" "below" "[I" ∈ tlG := tl_at 54 rfl rfl
set_option maxRecDepth 100000 in
theorem kw_12 : Cond.methodLink "LeastPaths$Graph" 41 ⟨"LeastPaths$Graph", "hasArc", "(I)Z"⟩ ∈ tlG := tl_at 515 rfl rfl
set_option maxRecDepth 100000 in
theorem kw_13 : Cond.instanceMethod ⟨"LeastPaths$Graph", "hasArc", "(I)Z"⟩ ∈ tlG := tl_at 366 rfl rfl
set_option maxRecDepth 100000 in
theorem kw_14 : Cond.selects "LeastPaths$Graph" ⟨"LeastPaths$Graph", "hasArc", "(I)Z"⟩ ⟨"LeastPaths$Graph", "hasArc", "(I)Z"⟩ ∈ tlG := tl_at 367 rfl rfl
set_option maxRecDepth 100000 in
theorem kw_15 : Cond.initialized "LeastPaths$Graph" ∈ tlG := tl_at 3 rfl rfl
set_option maxRecDepth 100000 in
theorem kw_16 : Cond.code ⟨"LeastPaths$Graph", "hasArc", "(I)Z"⟩ prog_3_method_3_code 2 (Option.some Jvm.ClassFile.FieldType.boolean) ∈ tlG := tl_at 368 rfl rfl
set_option maxRecDepth 100000 in
theorem kw_17 : Cond.fieldLink "LeastPaths$Waiting" 32 "LeastPaths$Waiting" "size" "I" ∈ tlG := tl_at 115 rfl rfl
set_option maxRecDepth 100000 in
theorem kw_18 : Cond.fieldLink "LeastPaths$Waiting" 15 "LeastPaths$Waiting" "placeOf" "[I" ∈ tlG := tl_at 113 rfl rfl
set_option maxRecDepth 100000 in
theorem kw_19 : Cond.fieldLink "LeastPaths$Waiting" 9 "LeastPaths$Waiting" "nodeAt" "[I" ∈ tlG := tl_at 112 rfl rfl
set_option maxRecDepth 100000 in
theorem kw_20 : Cond.fieldLink "LeastPaths$Waiting" 18 "LeastPaths$Waiting" "rankOf" "[J" ∈ tlG := tl_at 114 rfl rfl
set_option maxRecDepth 100000 in
theorem kw_21 : Cond.constantLong "LeastPaths$Waiting" 35 10 ∈ tlG := tl_at 420 rfl rfl
set_option maxRecDepth 100000 in
theorem kw_22 : Cond.fieldLink "LeastPaths$Waiting" 28 "LeastPaths$Waiting" "children" "I" ∈ tlG := tl_at 111 rfl rfl
set_option maxRecDepth 100000 in
theorem kw_23 : Cond.methodLink "LeastPaths$Waiting" 37 ⟨"LeastPaths$Waiting", "seat", "(II)V"⟩ ∈ tlG := tl_at 421 rfl rfl
set_option maxRecDepth 100000 in
theorem kw_24 : Cond.instanceMethod ⟨"LeastPaths$Waiting", "seat", "(II)V"⟩ ∈ tlG := tl_at 423 rfl rfl
set_option maxRecDepth 100000 in
theorem kw_25 : Cond.selects "LeastPaths$Waiting" ⟨"LeastPaths$Waiting", "seat", "(II)V"⟩ ⟨"LeastPaths$Waiting", "seat", "(II)V"⟩ ∈ tlG := tl_sel 4 rfl
set_option maxRecDepth 100000 in
theorem kw_26 : Cond.initialized "LeastPaths$Waiting" ∈ tlG := tl_at 5 rfl rfl
set_option maxRecDepth 100000 in
theorem kw_27 : Cond.code ⟨"LeastPaths$Waiting", "seat", "(II)V"⟩ prog_8_method_7_code 3 (Option.none : Option Jvm.ClassFile.FieldType) ∈ tlG := tl_at 424 rfl rfl
set_option maxRecDepth 100000 in
theorem kw_28 : Cond.methodLink "LeastPaths$Waiting" 41 ⟨"LeastPaths$Waiting", "firstChild", "(I)I"⟩ ∈ tlG := tl_at 445 rfl rfl
set_option maxRecDepth 100000 in
theorem kw_29 : Cond.instanceMethod ⟨"LeastPaths$Waiting", "firstChild", "(I)I"⟩ ∈ tlG := tl_at 447 rfl rfl
set_option maxRecDepth 100000 in
theorem kw_30 : Cond.selects "LeastPaths$Waiting" ⟨"LeastPaths$Waiting", "firstChild", "(I)I"⟩ ⟨"LeastPaths$Waiting", "firstChild", "(I)I"⟩ ∈ tlG := tl_sel 5 rfl
set_option maxRecDepth 100000 in
theorem kw_31 : Cond.code ⟨"LeastPaths$Waiting", "firstChild", "(I)I"⟩ prog_8_method_8_code 5 (Option.some Jvm.ClassFile.FieldType.int) ∈ tlG := tl_at 448 rfl rfl
set_option maxRecDepth 100000 in
theorem kw_32 : Cond.fieldLink "LeastPaths$Way" 15 "LeastPaths$Way" "count" "I" ∈ tlG := tl_at 202 rfl rfl
set_option maxRecDepth 100000 in
theorem kw_33 : Cond.fieldLink "LeastPaths$Way" 19 "LeastPaths$Way" "number" "I" ∈ tlG := tl_at 206 rfl rfl
set_option maxRecDepth 100000 in
theorem kw_34 : Cond.fieldLink "LeastPaths$Way" 22 "LeastPaths$Way" "split" "I" ∈ tlG := tl_at 209 rfl rfl
set_option maxRecDepth 100000 in
theorem kw_35 : Cond.fieldLink "LeastPaths$Way" 25 "LeastPaths$Way" "barred" "J" ∈ tlG := tl_at 211 rfl rfl
set_option maxRecDepth 100000 in
theorem kw_36 : Cond.fieldLink "LeastPaths$Way" 9 "LeastPaths$Way" "arcs" "[I" ∈ tlG := tl_at 200 rfl rfl
set_option maxRecDepth 100000 in
theorem kw_37 : Cond.fieldLink "LeastPaths$Search" 34 "LeastPaths$Search" "waiting" "LLeastPaths$Waiting;" ∈ tlG := tl_at 130 rfl rfl
set_option maxRecDepth 100000 in
theorem kw_38 : Cond.methodLink "LeastPaths$Search" 55 ⟨"LeastPaths$Waiting", "empty", "()V"⟩ ∈ tlG := tl_at 408 rfl rfl
set_option maxRecDepth 100000 in
theorem kw_39 : Cond.instanceMethod ⟨"LeastPaths$Waiting", "empty", "()V"⟩ ∈ tlG := tl_at 409 rfl rfl
set_option maxRecDepth 100000 in
theorem kw_40 : Cond.selects "LeastPaths$Waiting" ⟨"LeastPaths$Waiting", "empty", "()V"⟩ ⟨"LeastPaths$Waiting", "empty", "()V"⟩ ∈ tlG := tl_at 410 rfl rfl
set_option maxRecDepth 100000 in
theorem kw_41 : Cond.code ⟨"LeastPaths$Waiting", "empty", "()V"⟩ prog_8_method_2_code 2 (Option.none : Option Jvm.ClassFile.FieldType) ∈ tlG := tl_at 411 rfl rfl
set_option maxRecDepth 100000 in
theorem kw_42 : Cond.fieldLink "LeastPaths$Search" 58 "LeastPaths$Search" "settled" "I" ∈ tlG := tl_at 137 rfl rfl
set_option maxRecDepth 100000 in
theorem kw_43 : Cond.fieldLink "LeastPaths$Search" 61 "LeastPaths$Search" "known" "I" ∈ tlG := tl_at 139 rfl rfl
set_option maxRecDepth 100000 in
theorem kw_44 : Cond.fieldLink "LeastPaths$Search" 64 "LeastPaths$Search" "closed" "I" ∈ tlG := tl_at 141 rfl rfl
set_option maxRecDepth 100000 in
theorem kw_45 : Cond.fieldLink "LeastPaths$Search" 67 "LeastPaths$Search" "open" "J" ∈ tlG := tl_at 142 rfl rfl
set_option maxRecDepth 100000 in
theorem kw_46 : Cond.fieldLink "LeastPaths$Search" 21 "LeastPaths$Search" "graph" "LLeastPaths$Graph;" ∈ tlG := tl_at 128 rfl rfl
set_option maxRecDepth 100000 in
theorem kw_47 : Cond.fieldLink "LeastPaths$Search" 38 "LeastPaths$Graph" "live" "J" ∈ tlG := tl_at 70 rfl rfl
set_option maxRecDepth 100000 in
theorem kw_48 : Cond.methodLink "LeastPaths$Search" 44 ⟨"LeastPaths$Search", "begin", "(JI)V"⟩ ∈ tlG := tl_at 404 rfl rfl
set_option maxRecDepth 100000 in
theorem kw_49 : Cond.instanceMethod ⟨"LeastPaths$Search", "begin", "(JI)V"⟩ ∈ tlG := tl_at 406 rfl rfl
set_option maxRecDepth 100000 in
theorem kw_50 : Cond.selects "LeastPaths$Search" ⟨"LeastPaths$Search", "begin", "(JI)V"⟩ ⟨"LeastPaths$Search", "begin", "(JI)V"⟩ ∈ tlG := tl_sel 3 rfl
set_option maxRecDepth 100000 in
theorem kw_51 : Cond.initialized "LeastPaths$Search" ∈ tlG := tl_at 4 rfl rfl
set_option maxRecDepth 100000 in
theorem kw_52 : Cond.code ⟨"LeastPaths$Search", "begin", "(JI)V"⟩ prog_6_method_4_code 4 (Option.none : Option Jvm.ClassFile.FieldType) ∈ tlG := tl_at 407 rfl rfl
set_option maxRecDepth 100000 in
theorem kw_53 : Cond.fieldLink "LeastPaths$Search" 48 "LeastPaths$Search" "perArc" "I" ∈ tlG := tl_at 143 rfl rfl
set_option maxRecDepth 100000 in
theorem kw_54 : Cond.fieldLink "LeastPaths$Search" 52 "LeastPaths$Search" "byRests" "Z" ∈ tlG := tl_at 144 rfl rfl
set_option maxRecDepth 100000 in
theorem kw_55 : Cond.methodLink "LeastPaths$Search" 70 ⟨"LeastPaths$Waiting", "isEmpty", "()Z"⟩ ∈ tlG := tl_at 433 rfl rfl
set_option maxRecDepth 100000 in
theorem kw_56 : Cond.instanceMethod ⟨"LeastPaths$Waiting", "isEmpty", "()Z"⟩ ∈ tlG := tl_at 434 rfl rfl
set_option maxRecDepth 100000 in
theorem kw_57 : Cond.selects "LeastPaths$Waiting" ⟨"LeastPaths$Waiting", "isEmpty", "()Z"⟩ ⟨"LeastPaths$Waiting", "isEmpty", "()Z"⟩ ∈ tlG := tl_at 435 rfl rfl
set_option maxRecDepth 100000 in
theorem kw_58 : Cond.code ⟨"LeastPaths$Waiting", "isEmpty", "()Z"⟩ prog_8_method_3_code 1 (Option.some Jvm.ClassFile.FieldType.boolean) ∈ tlG := tl_at 436 rfl rfl
set_option maxRecDepth 100000 in
theorem kw_59 : Cond.methodLink "LeastPaths$Search" 74 ⟨"LeastPaths$Waiting", "first", "()I"⟩ ∈ tlG := tl_at 558 rfl rfl
set_option maxRecDepth 100000 in
theorem kw_60 : Cond.instanceMethod ⟨"LeastPaths$Waiting", "first", "()I"⟩ ∈ tlG := tl_at 559 rfl rfl
set_option maxRecDepth 100000 in
theorem kw_61 : Cond.selects "LeastPaths$Waiting" ⟨"LeastPaths$Waiting", "first", "()I"⟩ ⟨"LeastPaths$Waiting", "first", "()I"⟩ ∈ tlG := tl_at 560 rfl rfl
set_option maxRecDepth 100000 in
theorem kw_62 : Cond.code ⟨"LeastPaths$Waiting", "first", "()I"⟩ prog_8_method_4_code 1 (Option.some Jvm.ClassFile.FieldType.int) ∈ tlG := tl_at 561 rfl rfl
set_option maxRecDepth 100000 in
theorem kw_63 : Cond.fieldLink "LeastPaths$Search" 9 "LeastPaths$Search" "number" "[I" ∈ tlG := tl_at 131 rfl rfl
set_option maxRecDepth 100000 in
theorem kw_64 : Cond.constant "LeastPaths$Search" 78 2147483647 ∈ tlG := tl_at 562 rfl rfl
set_option maxRecDepth 100000 in
theorem kw_65 : Cond.methodLink "LeastPaths$Search" 82 ⟨"LeastPaths$Waiting", "put", "(II)V"⟩ ∈ tlG := tl_at 416 rfl rfl
set_option maxRecDepth 100000 in
theorem kw_66 : Cond.instanceMethod ⟨"LeastPaths$Waiting", "put", "(II)V"⟩ ∈ tlG := tl_at 417 rfl rfl
set_option maxRecDepth 100000 in
theorem kw_67 : Cond.selects "LeastPaths$Waiting" ⟨"LeastPaths$Waiting", "put", "(II)V"⟩ ⟨"LeastPaths$Waiting", "put", "(II)V"⟩ ∈ tlG := tl_at 418 rfl rfl
set_option maxRecDepth 100000 in
theorem kw_68 : Cond.code ⟨"LeastPaths$Waiting", "put", "(II)V"⟩ prog_8_method_5_code 6 (Option.none : Option Jvm.ClassFile.FieldType) ∈ tlG := tl_at 419 rfl rfl
set_option maxRecDepth 100000 in
theorem kw_69 : Cond.fieldLink "LeastPaths$Search" 79 "LeastPaths$Graph" "rest" "[I" ∈ tlG := tl_at 59 rfl rfl
set_option maxRecDepth 100000 in
theorem kw_70 : Cond.fieldLink "LeastPaths$Search" 25 "LeastPaths$Search" "against" "Z" ∈ tlG := tl_at 129 rfl rfl
set_option maxRecDepth 100000 in
theorem kw_71 : Cond.fieldLink "LeastPaths$Search" 140 "LeastPaths$Graph" "from" "[I" ∈ tlG := tl_at 38 rfl rfl
set_option maxRecDepth 100000 in
theorem kw_72 : Cond.fieldLink "LeastPaths$Search" 137 "LeastPaths$Graph" "to" "[I" ∈ tlG := tl_at 45 rfl rfl
set_option maxRecDepth 100000 in
theorem kw_73 : Cond.fieldLink "LeastPaths$Search" 129 "LeastPaths$Graph" "weight" "[I" ∈ tlG := tl_at 50 rfl rfl
set_option maxRecDepth 100000 in
theorem kw_74 : Cond.methodLink "LeastPaths$Search" 86 ⟨"LeastPaths$Waiting", "takeFirst", "()I"⟩ ∈ tlG := tl_at 441 rfl rfl
set_option maxRecDepth 100000 in
theorem kw_75 : Cond.instanceMethod ⟨"LeastPaths$Waiting", "takeFirst", "()I"⟩ ∈ tlG := tl_at 442 rfl rfl
set_option maxRecDepth 100000 in
theorem kw_76 : Cond.selects "LeastPaths$Waiting" ⟨"LeastPaths$Waiting", "takeFirst", "()I"⟩ ⟨"LeastPaths$Waiting", "takeFirst", "()I"⟩ ∈ tlG := tl_at 443 rfl rfl
set_option maxRecDepth 100000 in
theorem kw_77 : Cond.code ⟨"LeastPaths$Waiting", "takeFirst", "()I"⟩ prog_8_method_6_code 6 (Option.some Jvm.ClassFile.FieldType.int) ∈ tlG := tl_at 444 rfl rfl
set_option maxRecDepth 100000 in
theorem kw_78 : Cond.fieldLink "LeastPaths$Search" 15 "LeastPaths$Search" "order" "[I" ∈ tlG := tl_at 135 rfl rfl
set_option maxRecDepth 100000 in
theorem kw_79 : Cond.fieldLink "LeastPaths$Search" 89 "LeastPaths$Graph" "arcs" "I" ∈ tlG := tl_at 69 rfl rfl
set_option maxRecDepth 100000 in
theorem kw_80 : Cond.methodLink "LeastPaths$Search" 92 ⟨"LeastPaths$Search", "startOf", "(I)I"⟩ ∈ tlG := tl_at 449 rfl rfl
set_option maxRecDepth 100000 in
theorem kw_81 : Cond.instanceMethod ⟨"LeastPaths$Search", "startOf", "(I)I"⟩ ∈ tlG := tl_at 451 rfl rfl
set_option maxRecDepth 100000 in
theorem kw_82 : Cond.selects "LeastPaths$Search" ⟨"LeastPaths$Search", "startOf", "(I)I"⟩ ⟨"LeastPaths$Search", "startOf", "(I)I"⟩ ∈ tlG := tl_sel 6 rfl
set_option maxRecDepth 100000 in
theorem kw_83 : Cond.code ⟨"LeastPaths$Search", "startOf", "(I)I"⟩ prog_6_method_17_code 2 (Option.some Jvm.ClassFile.FieldType.int) ∈ tlG := tl_at 452 rfl rfl
set_option maxRecDepth 100000 in
theorem kw_84 : Cond.methodLink "LeastPaths$Search" 96 ⟨"LeastPaths$Search", "isOpen", "(I)Z"⟩ ∈ tlG := tl_at 453 rfl rfl
set_option maxRecDepth 100000 in
theorem kw_85 : Cond.instanceMethod ⟨"LeastPaths$Search", "isOpen", "(I)Z"⟩ ∈ tlG := tl_at 455 rfl rfl
set_option maxRecDepth 100000 in
theorem kw_86 : Cond.selects "LeastPaths$Search" ⟨"LeastPaths$Search", "isOpen", "(I)Z"⟩ ⟨"LeastPaths$Search", "isOpen", "(I)Z"⟩ ∈ tlG := tl_sel 7 rfl
set_option maxRecDepth 100000 in
theorem kw_87 : Cond.code ⟨"LeastPaths$Search", "isOpen", "(I)Z"⟩ prog_6_method_16_code 2 (Option.some Jvm.ClassFile.FieldType.boolean) ∈ tlG := tl_at 456 rfl rfl
set_option maxRecDepth 100000 in
theorem kw_88 : Cond.methodLink "LeastPaths$Search" 100 ⟨"LeastPaths$Search", "endOf", "(I)I"⟩ ∈ tlG := tl_at 457 rfl rfl
set_option maxRecDepth 100000 in
theorem kw_89 : Cond.instanceMethod ⟨"LeastPaths$Search", "endOf", "(I)I"⟩ ∈ tlG := tl_at 459 rfl rfl
set_option maxRecDepth 100000 in
theorem kw_90 : Cond.selects "LeastPaths$Search" ⟨"LeastPaths$Search", "endOf", "(I)I"⟩ ⟨"LeastPaths$Search", "endOf", "(I)I"⟩ ∈ tlG := tl_sel 8 rfl
set_option maxRecDepth 100000 in
theorem kw_91 : Cond.code ⟨"LeastPaths$Search", "endOf", "(I)I"⟩ prog_6_method_18_code 2 (Option.some Jvm.ClassFile.FieldType.int) ∈ tlG := tl_at 460 rfl rfl
set_option maxRecDepth 100000 in
theorem kw_92 : Cond.methodLink "LeastPaths$Search" 103 ⟨"LeastPaths$Search", "costOf", "(I)I"⟩ ∈ tlG := tl_at 461 rfl rfl
set_option maxRecDepth 100000 in
theorem kw_93 : Cond.instanceMethod ⟨"LeastPaths$Search", "costOf", "(I)I"⟩ ∈ tlG := tl_at 463 rfl rfl
set_option maxRecDepth 100000 in
theorem kw_94 : Cond.selects "LeastPaths$Search" ⟨"LeastPaths$Search", "costOf", "(I)I"⟩ ⟨"LeastPaths$Search", "costOf", "(I)I"⟩ ∈ tlG := tl_sel 9 rfl
set_option maxRecDepth 100000 in
theorem kw_95 : Cond.code ⟨"LeastPaths$Search", "costOf", "(I)I"⟩ prog_6_method_19_code 2 (Option.some Jvm.ClassFile.FieldType.int) ∈ tlG := tl_at 464 rfl rfl
set_option maxRecDepth 100000 in
theorem kw_96 : Cond.methodLink "LeastPaths$Search" 106 ⟨"LeastPaths$Search", "offer", "(II)V"⟩ ∈ tlG := tl_at 465 rfl rfl
set_option maxRecDepth 100000 in
theorem kw_97 : Cond.instanceMethod ⟨"LeastPaths$Search", "offer", "(II)V"⟩ ∈ tlG := tl_at 413 rfl rfl
set_option maxRecDepth 100000 in
theorem kw_98 : Cond.selects "LeastPaths$Search" ⟨"LeastPaths$Search", "offer", "(II)V"⟩ ⟨"LeastPaths$Search", "offer", "(II)V"⟩ ∈ tlG := tl_at 414 rfl rfl
set_option maxRecDepth 100000 in
theorem kw_99 : Cond.code ⟨"LeastPaths$Search", "offer", "(II)V"⟩ prog_6_method_8_code 4 (Option.none : Option Jvm.ClassFile.FieldType) ∈ tlG := tl_at 415 rfl rfl
set_option maxRecDepth 100000 in
theorem kw_100 : Cond.methodLink "LeastPaths$Search" 109 ⟨"LeastPaths$Search", "isOver", "()Z"⟩ ∈ tlG := tl_at 429 rfl rfl
set_option maxRecDepth 100000 in
theorem kw_101 : Cond.instanceMethod ⟨"LeastPaths$Search", "isOver", "()Z"⟩ ∈ tlG := tl_at 430 rfl rfl
set_option maxRecDepth 100000 in
theorem kw_102 : Cond.selects "LeastPaths$Search" ⟨"LeastPaths$Search", "isOver", "()Z"⟩ ⟨"LeastPaths$Search", "isOver", "()Z"⟩ ∈ tlG := tl_at 431 rfl rfl
set_option maxRecDepth 100000 in
theorem kw_103 : Cond.code ⟨"LeastPaths$Search", "isOver", "()Z"⟩ prog_6_method_6_code 1 (Option.some Jvm.ClassFile.FieldType.boolean) ∈ tlG := tl_at 432 rfl rfl
set_option maxRecDepth 100000 in
theorem kw_104 : Cond.methodLink "LeastPaths$Search" 112 ⟨"LeastPaths$Search", "settleFirst", "()I"⟩ ∈ tlG := tl_at 437 rfl rfl
set_option maxRecDepth 100000 in
theorem kw_105 : Cond.instanceMethod ⟨"LeastPaths$Search", "settleFirst", "()I"⟩ ∈ tlG := tl_at 438 rfl rfl
set_option maxRecDepth 100000 in
theorem kw_106 : Cond.selects "LeastPaths$Search" ⟨"LeastPaths$Search", "settleFirst", "()I"⟩ ⟨"LeastPaths$Search", "settleFirst", "()I"⟩ ∈ tlG := tl_at 439 rfl rfl
set_option maxRecDepth 100000 in
theorem kw_107 : Cond.code ⟨"LeastPaths$Search", "settleFirst", "()I"⟩ prog_6_method_9_code 3 (Option.some Jvm.ClassFile.FieldType.int) ∈ tlG := tl_at 440 rfl rfl
set_option maxRecDepth 100000 in
theorem kw_108 : Cond.methodLink "LeastPaths$Search" 115 ⟨"LeastPaths$Search", "beginPlain", "(Z)V"⟩ ∈ tlG := tl_at 524 rfl rfl
set_option maxRecDepth 100000 in
theorem kw_109 : Cond.instanceMethod ⟨"LeastPaths$Search", "beginPlain", "(Z)V"⟩ ∈ tlG := tl_at 525 rfl rfl
set_option maxRecDepth 100000 in
theorem kw_110 : Cond.selects "LeastPaths$Search" ⟨"LeastPaths$Search", "beginPlain", "(Z)V"⟩ ⟨"LeastPaths$Search", "beginPlain", "(Z)V"⟩ ∈ tlG := tl_at 526 rfl rfl
set_option maxRecDepth 100000 in
theorem kw_111 : Cond.code ⟨"LeastPaths$Search", "beginPlain", "(Z)V"⟩ prog_6_method_2_code 2 (Option.none : Option Jvm.ClassFile.FieldType) ∈ tlG := tl_at 527 rfl rfl
set_option maxRecDepth 100000 in
theorem kw_112 : Cond.methodLink "LeastPaths$Search" 123 ⟨"LeastPaths$Search", "knows", "(I)Z"⟩ ∈ tlG := tl_at 486 rfl rfl
set_option maxRecDepth 100000 in
theorem kw_113 : Cond.instanceMethod ⟨"LeastPaths$Search", "knows", "(I)Z"⟩ ∈ tlG := tl_at 467 rfl rfl
set_option maxRecDepth 100000 in
theorem kw_114 : Cond.selects "LeastPaths$Search" ⟨"LeastPaths$Search", "knows", "(I)Z"⟩ ⟨"LeastPaths$Search", "knows", "(I)Z"⟩ ∈ tlG := tl_at 468 rfl rfl
set_option maxRecDepth 100000 in
theorem kw_115 : Cond.code ⟨"LeastPaths$Search", "knows", "(I)Z"⟩ prog_6_method_5_code 2 (Option.some Jvm.ClassFile.FieldType.boolean) ∈ tlG := tl_at 469 rfl rfl
set_option maxRecDepth 100000 in
theorem kw_116 : Cond.methodLink "LeastPaths$Search" 119 ⟨"LeastPaths$Search", "leadsBest", "(II)Z"⟩ ∈ tlG := tl_at 482 rfl rfl
set_option maxRecDepth 100000 in
theorem kw_117 : Cond.instanceMethod ⟨"LeastPaths$Search", "leadsBest", "(II)Z"⟩ ∈ tlG := tl_at 484 rfl rfl
set_option maxRecDepth 100000 in
theorem kw_118 : Cond.selects "LeastPaths$Search" ⟨"LeastPaths$Search", "leadsBest", "(II)Z"⟩ ⟨"LeastPaths$Search", "leadsBest", "(II)Z"⟩ ∈ tlG := tl_sel 10 rfl
set_option maxRecDepth 100000 in
theorem kw_119 : Cond.code ⟨"LeastPaths$Search", "leadsBest", "(II)Z"⟩ prog_6_method_15_code 3 (Option.some Jvm.ClassFile.FieldType.boolean) ∈ tlG := tl_at 485 rfl rfl
set_option maxRecDepth 100000 in
theorem kw_120 : Cond.fieldLink "LeastPaths$Search" 18 "LeastPaths$Search" "waysTo" "[I" ∈ tlG := tl_at 136 rfl rfl
set_option maxRecDepth 100000 in
theorem kw_121 : Cond.methodLink "LeastPaths$Search" 126 ⟨"LeastPaths$Search", "lastArc", "(I)I"⟩ ∈ tlG := tl_at 599 rfl rfl
set_option maxRecDepth 100000 in
theorem kw_122 : Cond.instanceMethod ⟨"LeastPaths$Search", "lastArc", "(I)I"⟩ ∈ tlG := tl_at 479 rfl rfl
set_option maxRecDepth 100000 in
theorem kw_123 : Cond.selects "LeastPaths$Search" ⟨"LeastPaths$Search", "lastArc", "(I)I"⟩ ⟨"LeastPaths$Search", "lastArc", "(I)I"⟩ ∈ tlG := tl_at 480 rfl rfl
set_option maxRecDepth 100000 in
theorem kw_124 : Cond.code ⟨"LeastPaths$Search", "lastArc", "(I)I"⟩ prog_6_method_12_code 3 (Option.some Jvm.ClassFile.FieldType.int) ∈ tlG := tl_at 481 rfl rfl
set_option maxRecDepth 100000 in
theorem kw_125 : Cond.methodLink "LeastPaths$Search" 132 ⟨"LeastPaths$Way", "add", "(II)V"⟩ ∈ tlG := tl_at 600 rfl rfl
set_option maxRecDepth 100000 in
theorem kw_126 : Cond.instanceMethod ⟨"LeastPaths$Way", "add", "(II)V"⟩ ∈ tlG := tl_at 592 rfl rfl
set_option maxRecDepth 100000 in
theorem kw_127 : Cond.selects "LeastPaths$Way" ⟨"LeastPaths$Way", "add", "(II)V"⟩ ⟨"LeastPaths$Way", "add", "(II)V"⟩ ∈ tlG := tl_at 593 rfl rfl
set_option maxRecDepth 100000 in
theorem kw_128 : Cond.initialized "LeastPaths$Way" ∈ tlG := tl_at 8 rfl rfl
set_option maxRecDepth 100000 in
theorem kw_129 : Cond.code ⟨"LeastPaths$Way", "add", "(II)V"⟩ prog_9_method_3_code 3 (Option.none : Option Jvm.ClassFile.FieldType) ∈ tlG := tl_at 594 rfl rfl
set_option maxRecDepth 100000 in
theorem kw_130 : Cond.constant "LeastPaths$BothSides" 49 2147483647 ∈ tlG := tl_at 546 rfl rfl
set_option maxRecDepth 100000 in
theorem kw_131 : Cond.fieldLink "LeastPaths$BothSides" 45 "LeastPaths$BothSides" "best" "I" ∈ tlG := tl_at 178 rfl rfl
set_option maxRecDepth 100000 in
theorem kw_132 : Cond.fieldLink "LeastPaths$BothSides" 9 "LeastPaths$BothSides" "ahead" "LLeastPaths$Search;" ∈ tlG := tl_at 176 rfl rfl
set_option maxRecDepth 100000 in
theorem kw_133 : Cond.methodLink "LeastPaths$BothSides" 50 ⟨"LeastPaths$Search", "knows", "(I)Z"⟩ ∈ tlG := tl_at 547 rfl rfl
set_option maxRecDepth 100000 in
theorem kw_134 : Cond.fieldLink "LeastPaths$BothSides" 15 "LeastPaths$BothSides" "back" "LLeastPaths$Search;" ∈ tlG := tl_at 177 rfl rfl
set_option maxRecDepth 100000 in
theorem kw_135 : Cond.fieldLink "LeastPaths$BothSides" 54 "LeastPaths$Search" "number" "[I" ∈ tlG := tl_at 133 rfl rfl
set_option maxRecDepth 100000 in
theorem kw_136 : Cond.methodLink "LeastPaths$BothSides" 58 ⟨"java/lang/Math", "min", "(II)I"⟩ ∈ tlG := tl_at 548 rfl rfl
set_option maxRecDepth 100000 in
theorem kw_137 : Cond.static ⟨"java/lang/Math", "min", "(II)I"⟩ ∈ tlG := tl_at 26 rfl rfl
set_option maxRecDepth 100000 in
theorem kw_138 : Cond.initialized "java/lang/Math" ∈ tlG := tl_at 2 rfl rfl
set_option maxRecDepth 100000 in
theorem kw_139 : Cond.code ⟨"java/lang/Math", "min", "(II)I"⟩ prog_14_method_69_code 2 (Option.some Jvm.ClassFile.FieldType.int) ∈ tlG := tl_at 27 rfl rfl
set_option maxRecDepth 100000 in
theorem kw_140 : Cond.methodLink "LeastPaths$BothSides" 42 ⟨"LeastPaths$Search", "isOver", "()Z"⟩ ∈ tlG := tl_at 553 rfl rfl
set_option maxRecDepth 100000 in
theorem kw_141 : Cond.methodLink "LeastPaths$BothSides" 35 ⟨"LeastPaths$Search", "leastNumber", "()I"⟩ ∈ tlG := tl_at 554 rfl rfl
set_option maxRecDepth 100000 in
theorem kw_142 : Cond.instanceMethod ⟨"LeastPaths$Search", "leastNumber", "()I"⟩ ∈ tlG := tl_at 555 rfl rfl
set_option maxRecDepth 100000 in
theorem kw_143 : Cond.selects "LeastPaths$Search" ⟨"LeastPaths$Search", "leastNumber", "()I"⟩ ⟨"LeastPaths$Search", "leastNumber", "()I"⟩ ∈ tlG := tl_at 556 rfl rfl
set_option maxRecDepth 100000 in
theorem kw_144 : Cond.code ⟨"LeastPaths$Search", "leastNumber", "()I"⟩ prog_6_method_7_code 2 (Option.some Jvm.ClassFile.FieldType.int) ∈ tlG := tl_at 557 rfl rfl
set_option maxRecDepth 100000 in
theorem kw_145 : Cond.methodLink "LeastPaths$BothSides" 18 ⟨"LeastPaths$Search", "beginPlain", "(Z)V"⟩ ∈ tlG := tl_at 540 rfl rfl
set_option maxRecDepth 100000 in
theorem kw_146 : Cond.methodLink "LeastPaths$BothSides" 24 ⟨"LeastPaths$Search", "offer", "(II)V"⟩ ∈ tlG := tl_at 541 rfl rfl
set_option maxRecDepth 100000 in
theorem kw_147 : Cond.methodLink "LeastPaths$BothSides" 28 ⟨"LeastPaths$BothSides", "seekBest", "()V"⟩ ∈ tlG := tl_at 542 rfl rfl
set_option maxRecDepth 100000 in
theorem kw_148 : Cond.instanceMethod ⟨"LeastPaths$BothSides", "seekBest", "()V"⟩ ∈ tlG := tl_at 544 rfl rfl
set_option maxRecDepth 100000 in
theorem kw_149 : Cond.selects "LeastPaths$BothSides" ⟨"LeastPaths$BothSides", "seekBest", "()V"⟩ ⟨"LeastPaths$BothSides", "seekBest", "()V"⟩ ∈ tlG := tl_sel 12 rfl
set_option maxRecDepth 100000 in
theorem kw_150 : Cond.initialized "LeastPaths$BothSides" ∈ tlG := tl_at 6 rfl rfl
set_option maxRecDepth 100000 in
theorem kw_151 : Cond.code ⟨"LeastPaths$BothSides", "seekBest", "()V"⟩ prog_2_method_4_code 2 (Option.none : Option Jvm.ClassFile.FieldType) ∈ tlG := tl_at 545 rfl rfl
set_option maxRecDepth 100000 in
theorem kw_152 : Cond.methodLink "LeastPaths$BothSides" 31 ⟨"LeastPaths$BothSides", "goesOn", "()Z"⟩ ∈ tlG := tl_at 549 rfl rfl
set_option maxRecDepth 100000 in
theorem kw_153 : Cond.instanceMethod ⟨"LeastPaths$BothSides", "goesOn", "()Z"⟩ ∈ tlG := tl_at 551 rfl rfl
set_option maxRecDepth 100000 in
theorem kw_154 : Cond.selects "LeastPaths$BothSides" ⟨"LeastPaths$BothSides", "goesOn", "()Z"⟩ ⟨"LeastPaths$BothSides", "goesOn", "()Z"⟩ ∈ tlG := tl_sel 13 rfl
set_option maxRecDepth 100000 in
theorem kw_155 : Cond.code ⟨"LeastPaths$BothSides", "goesOn", "()Z"⟩ prog_2_method_3_code 1 (Option.some Jvm.ClassFile.FieldType.boolean) ∈ tlG := tl_at 552 rfl rfl
set_option maxRecDepth 100000 in
theorem kw_156 : Cond.methodLink "LeastPaths$BothSides" 39 ⟨"LeastPaths$Search", "settleFirst", "()I"⟩ ∈ tlG := tl_at 563 rfl rfl
set_option maxRecDepth 100000 in
theorem kw_157 : Cond.fieldLink "LeastPaths$Widths" 9 "LeastPaths$Widths" "width" "[I" ∈ tlG := tl_at 277 rfl rfl
set_option maxRecDepth 100000 in
theorem kw_158 : Cond.constant "LeastPaths$Widths" 19 2147483647 ∈ tlG := tl_at 625 rfl rfl
set_option maxRecDepth 100000 in
theorem kw_159 : Cond.fieldLink "LeastPaths$Widths" 15 "LeastPaths$Widths" "graph" "LLeastPaths$Graph;" ∈ tlG := tl_at 276 rfl rfl
set_option maxRecDepth 100000 in
theorem kw_160 : Cond.fieldLink "LeastPaths$Widths" 20 "LeastPaths$Graph" "nodes" "I" ∈ tlG := tl_at 61 rfl rfl
set_option maxRecDepth 100000 in
theorem kw_161 : Cond.fieldLink "LeastPaths$Widths" 26 "LeastPaths$Graph" "arcs" "I" ∈ tlG := tl_at 65 rfl rfl
set_option maxRecDepth 100000 in
theorem kw_162 : Cond.methodLink "LeastPaths$Widths" 29 ⟨"LeastPaths$Graph", "hasArc", "(I)Z"⟩ ∈ tlG := tl_at 626 rfl rfl
set_option maxRecDepth 100000 in
theorem kw_163 : Cond.fieldLink "LeastPaths$Widths" 33 "LeastPaths$Graph" "from" "[I" ∈ tlG := tl_at 36 rfl rfl
set_option maxRecDepth 100000 in
theorem kw_164 : Cond.fieldLink "LeastPaths$Widths" 36 "LeastPaths$Graph" "weight" "[I" ∈ tlG := tl_at 47 rfl rfl
set_option maxRecDepth 100000 in
theorem kw_165 : Cond.methodLink "LeastPaths$Widths" 39 ⟨"java/lang/Math", "min", "(II)I"⟩ ∈ tlG := tl_at 627 rfl rfl
set_option maxRecDepth 100000 in
theorem kw_166 : Cond.fieldLink "LeastPaths$Widths" 45 "LeastPaths$Graph" "to" "[I" ∈ tlG := tl_at 41 rfl rfl
set_option maxRecDepth 100000 in
theorem kw_167 : Cond.methodLink "LeastPaths$Widths" 48 ⟨"java/lang/Math", "max", "(II)I"⟩ ∈ tlG := tl_at 628 rfl rfl
set_option maxRecDepth 100000 in
theorem kw_168 : Cond.static ⟨"java/lang/Math", "max", "(II)I"⟩ ∈ tlG := tl_at 23 rfl rfl
set_option maxRecDepth 100000 in
theorem kw_169 : Cond.code ⟨"java/lang/Math", "max", "(II)I"⟩ prog_14_method_65_code 2 (Option.some Jvm.ClassFile.FieldType.int) ∈ tlG := tl_at 24 rfl rfl
set_option maxRecDepth 100000 in
theorem kw_170 : Cond.fieldLink "LeastPaths$Trusts" 15 "LeastPaths$Trusts" "below" "[J" ∈ tlG := tl_at 292 rfl rfl
set_option maxRecDepth 100000 in
theorem kw_171 : Cond.fieldLink "LeastPaths$Trusts" 18 "LeastPaths$Trusts" "graph" "LLeastPaths$Graph;" ∈ tlG := tl_at 290 rfl rfl
set_option maxRecDepth 100000 in
theorem kw_172 : Cond.fieldLink "LeastPaths$Trusts" 46 "LeastPaths$Graph" "to" "[I" ∈ tlG := tl_at 44 rfl rfl
set_option maxRecDepth 100000 in
theorem kw_173 : Cond.fieldLink "LeastPaths$Trusts" 9 "LeastPaths$Trusts" "above" "[J" ∈ tlG := tl_at 291 rfl rfl
set_option maxRecDepth 100000 in
theorem kw_174 : Cond.fieldLink "LeastPaths$Trusts" 35 "LeastPaths$Graph" "from" "[I" ∈ tlG := tl_at 37 rfl rfl
set_option maxRecDepth 100000 in
theorem kw_175 : Cond.fieldLink "LeastPaths$Trusts" 49 "LeastPaths$Graph" "above" "[I" ∈ tlG := tl_at 52 rfl rfl
set_option maxRecDepth 100000 in
theorem kw_176 : Cond.fieldLink "LeastPaths$Trusts" 51 "LeastPaths$Graph" "below" "[I" ∈ tlG := tl_at 55 rfl rfl
set_option maxRecDepth 100000 in
theorem kw_177 : Cond.methodLink "LeastPaths$Trusts" 39 ⟨"LeastPaths$Trusts", "knows", "(I)Z"⟩ ∈ tlG := tl_at 638 rfl rfl
set_option maxRecDepth 100000 in
theorem kw_178 : Cond.instanceMethod ⟨"LeastPaths$Trusts", "knows", "(I)Z"⟩ ∈ tlG := tl_at 639 rfl rfl
set_option maxRecDepth 100000 in
theorem kw_179 : Cond.selects "LeastPaths$Trusts" ⟨"LeastPaths$Trusts", "knows", "(I)Z"⟩ ⟨"LeastPaths$Trusts", "knows", "(I)Z"⟩ ∈ tlG := tl_at 640 rfl rfl
set_option maxRecDepth 100000 in
theorem kw_180 : Cond.initialized "LeastPaths$Trusts" ∈ tlG := tl_at 11 rfl rfl
set_option maxRecDepth 100000 in
theorem kw_181 : Cond.code ⟨"LeastPaths$Trusts", "knows", "(I)Z"⟩ prog_7_method_2_code 2 (Option.some Jvm.ClassFile.FieldType.boolean) ∈ tlG := tl_at 641 rfl rfl
set_option maxRecDepth 100000 in
theorem kw_182 : Cond.fieldLink "LeastPaths$Trusts" 22 "LeastPaths$Graph" "nodes" "I" ∈ tlG := tl_at 63 rfl rfl
set_option maxRecDepth 100000 in
theorem kw_183 : Cond.fieldLink "LeastPaths$Trusts" 28 "LeastPaths$Graph" "arcs" "I" ∈ tlG := tl_at 67 rfl rfl
set_option maxRecDepth 100000 in
theorem kw_184 : Cond.methodLink "LeastPaths$Trusts" 31 ⟨"LeastPaths$Graph", "hasArc", "(I)Z"⟩ ∈ tlG := tl_at 637 rfl rfl
set_option maxRecDepth 100000 in
theorem kw_185 : Cond.methodLink "LeastPaths$Trusts" 42 ⟨"LeastPaths$Trusts", "pass", "(I)V"⟩ ∈ tlG := tl_at 642 rfl rfl
set_option maxRecDepth 100000 in
theorem kw_186 : Cond.instanceMethod ⟨"LeastPaths$Trusts", "pass", "(I)V"⟩ ∈ tlG := tl_at 644 rfl rfl
set_option maxRecDepth 100000 in
theorem kw_187 : Cond.selects "LeastPaths$Trusts" ⟨"LeastPaths$Trusts", "pass", "(I)V"⟩ ⟨"LeastPaths$Trusts", "pass", "(I)V"⟩ ∈ tlG := tl_sel 16 rfl
set_option maxRecDepth 100000 in
theorem kw_188 : Cond.code ⟨"LeastPaths$Trusts", "pass", "(I)V"⟩ prog_7_method_4_code 7 (Option.none : Option Jvm.ClassFile.FieldType) ∈ tlG := tl_at 645 rfl rfl
set_option maxRecDepth 100000 in
theorem kw_189 : Cond.methodLink "LeastPaths$Trusts" 53 ⟨"LeastPaths$Trusts", "commonDivisor", "(JJ)J"⟩ ∈ tlG := tl_at 651 rfl rfl
set_option maxRecDepth 100000 in
theorem kw_190 : Cond.static ⟨"LeastPaths$Trusts", "commonDivisor", "(JJ)J"⟩ ∈ tlG := tl_at 652 rfl rfl
set_option maxRecDepth 100000 in
theorem kw_191 : Cond.code ⟨"LeastPaths$Trusts", "commonDivisor", "(JJ)J"⟩ prog_7_method_6_code 11 (Option.some Jvm.ClassFile.FieldType.long) ∈ tlG := tl_at 653 rfl rfl
set_option maxRecDepth 100000 in
theorem kw_192 : Cond.fieldLink "LeastPaths$Rings" 18 "LeastPaths$Rings" "graph" "LLeastPaths$Graph;" ∈ tlG := tl_at 259 rfl rfl
set_option maxRecDepth 100000 in
theorem kw_193 : Cond.fieldLink "LeastPaths$Rings" 67 "LeastPaths$Graph" "to" "[I" ∈ tlG := tl_at 42 rfl rfl
set_option maxRecDepth 100000 in
theorem kw_194 : Cond.fieldLink "LeastPaths$Rings" 22 "LeastPaths$Rings" "back" "LLeastPaths$Search;" ∈ tlG := tl_at 260 rfl rfl
set_option maxRecDepth 100000 in
theorem kw_195 : Cond.methodLink "LeastPaths$Rings" 70 ⟨"LeastPaths$Search", "knows", "(I)Z"⟩ ∈ tlG := tl_at 672 rfl rfl
set_option maxRecDepth 100000 in
theorem kw_196 : Cond.fieldLink "LeastPaths$Rings" 73 "LeastPaths$Graph" "weight" "[I" ∈ tlG := tl_at 48 rfl rfl
set_option maxRecDepth 100000 in
theorem kw_197 : Cond.fieldLink "LeastPaths$Rings" 76 "LeastPaths$Search" "number" "[I" ∈ tlG := tl_at 132 rfl rfl
set_option maxRecDepth 100000 in
theorem kw_198 : Cond.fieldLink "LeastPaths$Rings" 12 "LeastPaths$Rings" "least" "LLeastPaths$Way;" ∈ tlG := tl_at 261 rfl rfl
set_option maxRecDepth 100000 in
theorem kw_199 : Cond.fieldLink "LeastPaths$Rings" 79 "LeastPaths$Way" "count" "I" ∈ tlG := tl_at 204 rfl rfl
set_option maxRecDepth 100000 in
theorem kw_200 : Cond.methodLink "LeastPaths$Rings" 26 ⟨"LeastPaths$Way", "begin", "(IJ)V"⟩ ∈ tlG := tl_at 662 rfl rfl
set_option maxRecDepth 100000 in
theorem kw_201 : Cond.instanceMethod ⟨"LeastPaths$Way", "begin", "(IJ)V"⟩ ∈ tlG := tl_at 588 rfl rfl
set_option maxRecDepth 100000 in
theorem kw_202 : Cond.selects "LeastPaths$Way" ⟨"LeastPaths$Way", "begin", "(IJ)V"⟩ ⟨"LeastPaths$Way", "begin", "(IJ)V"⟩ ∈ tlG := tl_at 589 rfl rfl
set_option maxRecDepth 100000 in
theorem kw_203 : Cond.code ⟨"LeastPaths$Way", "begin", "(IJ)V"⟩ prog_9_method_2_code 4 (Option.none : Option Jvm.ClassFile.FieldType) ∈ tlG := tl_at 590 rfl rfl
set_option maxRecDepth 100000 in
theorem kw_204 : Cond.methodLink "LeastPaths$Rings" 84 ⟨"LeastPaths$Way", "add", "(II)V"⟩ ∈ tlG := tl_at 673 rfl rfl
set_option maxRecDepth 100000 in
theorem kw_205 : Cond.methodLink "LeastPaths$Rings" 87 ⟨"LeastPaths$Search", "follow", "(ILLeastPaths$Way;)V"⟩ ∈ tlG := tl_at 674 rfl rfl
set_option maxRecDepth 100000 in
theorem kw_206 : Cond.instanceMethod ⟨"LeastPaths$Search", "follow", "(ILLeastPaths$Way;)V"⟩ ∈ tlG := tl_at 596 rfl rfl
set_option maxRecDepth 100000 in
theorem kw_207 : Cond.selects "LeastPaths$Search" ⟨"LeastPaths$Search", "follow", "(ILLeastPaths$Way;)V"⟩ ⟨"LeastPaths$Search", "follow", "(ILLeastPaths$Way;)V"⟩ ∈ tlG := tl_at 597 rfl rfl
set_option maxRecDepth 100000 in
theorem kw_208 : Cond.code ⟨"LeastPaths$Search", "follow", "(ILLeastPaths$Way;)V"⟩ prog_6_method_14_code 7 (Option.none : Option Jvm.ClassFile.FieldType) ∈ tlG := tl_at 598 rfl rfl
set_option maxRecDepth 100000 in
theorem kw_209 : Cond.fieldLink "LeastPaths$Rings" 82 "LeastPaths$Way" "number" "I" ∈ tlG := tl_at 207 rfl rfl
set_option maxRecDepth 100000 in
theorem kw_210 : Cond.fieldLink "LeastPaths$Rings" 30 "LeastPaths$Graph" "arcs" "I" ∈ tlG := tl_at 64 rfl rfl
set_option maxRecDepth 100000 in
theorem kw_211 : Cond.methodLink "LeastPaths$Rings" 36 ⟨"LeastPaths$Graph", "hasArc", "(I)Z"⟩ ∈ tlG := tl_at 663 rfl rfl
set_option maxRecDepth 100000 in
theorem kw_212 : Cond.fieldLink "LeastPaths$Rings" 40 "LeastPaths$Graph" "live" "J" ∈ tlG := tl_at 71 rfl rfl
set_option maxRecDepth 100000 in
theorem kw_213 : Cond.constantLong "LeastPaths$Rings" 44 (-2) ∈ tlG := tl_at 664 rfl rfl
set_option maxRecDepth 100000 in
theorem kw_214 : Cond.methodLink "LeastPaths$Rings" 46 ⟨"LeastPaths$Search", "beginCounted", "(JI)V"⟩ ∈ tlG := tl_at 665 rfl rfl
set_option maxRecDepth 100000 in
theorem kw_215 : Cond.instanceMethod ⟨"LeastPaths$Search", "beginCounted", "(JI)V"⟩ ∈ tlG := tl_at 401 rfl rfl
set_option maxRecDepth 100000 in
theorem kw_216 : Cond.selects "LeastPaths$Search" ⟨"LeastPaths$Search", "beginCounted", "(JI)V"⟩ ⟨"LeastPaths$Search", "beginCounted", "(JI)V"⟩ ∈ tlG := tl_at 402 rfl rfl
set_option maxRecDepth 100000 in
theorem kw_217 : Cond.code ⟨"LeastPaths$Search", "beginCounted", "(JI)V"⟩ prog_6_method_3_code 4 (Option.none : Option Jvm.ClassFile.FieldType) ∈ tlG := tl_at 403 rfl rfl
set_option maxRecDepth 100000 in
theorem kw_218 : Cond.fieldLink "LeastPaths$Rings" 52 "LeastPaths$Graph" "from" "[I" ∈ tlG := tl_at 35 rfl rfl
set_option maxRecDepth 100000 in
theorem kw_219 : Cond.methodLink "LeastPaths$Rings" 56 ⟨"LeastPaths$Search", "offer", "(II)V"⟩ ∈ tlG := tl_at 666 rfl rfl
set_option maxRecDepth 100000 in
theorem kw_220 : Cond.methodLink "LeastPaths$Rings" 60 ⟨"LeastPaths$Search", "settleAll", "()V"⟩ ∈ tlG := tl_at 667 rfl rfl
set_option maxRecDepth 100000 in
theorem kw_221 : Cond.instanceMethod ⟨"LeastPaths$Search", "settleAll", "()V"⟩ ∈ tlG := tl_at 426 rfl rfl
set_option maxRecDepth 100000 in
theorem kw_222 : Cond.selects "LeastPaths$Search" ⟨"LeastPaths$Search", "settleAll", "()V"⟩ ⟨"LeastPaths$Search", "settleAll", "()V"⟩ ∈ tlG := tl_at 427 rfl rfl
set_option maxRecDepth 100000 in
theorem kw_223 : Cond.code ⟨"LeastPaths$Search", "settleAll", "()V"⟩ prog_6_method_10_code 2 (Option.none : Option Jvm.ClassFile.FieldType) ∈ tlG := tl_at 428 rfl rfl
set_option maxRecDepth 100000 in
theorem kw_224 : Cond.methodLink "LeastPaths$Rings" 63 ⟨"LeastPaths$Rings", "takeIfLess", "(I)V"⟩ ∈ tlG := tl_at 668 rfl rfl
set_option maxRecDepth 100000 in
theorem kw_225 : Cond.instanceMethod ⟨"LeastPaths$Rings", "takeIfLess", "(I)V"⟩ ∈ tlG := tl_at 670 rfl rfl
set_option maxRecDepth 100000 in
theorem kw_226 : Cond.selects "LeastPaths$Rings" ⟨"LeastPaths$Rings", "takeIfLess", "(I)V"⟩ ⟨"LeastPaths$Rings", "takeIfLess", "(I)V"⟩ ∈ tlG := tl_sel 17 rfl
set_option maxRecDepth 100000 in
theorem kw_227 : Cond.initialized "LeastPaths$Rings" ∈ tlG := tl_at 9 rfl rfl
set_option maxRecDepth 100000 in
theorem kw_228 : Cond.code ⟨"LeastPaths$Rings", "takeIfLess", "(I)V"⟩ prog_4_method_3_code 4 (Option.none : Option Jvm.ClassFile.FieldType) ∈ tlG := tl_at 671 rfl rfl
set_option maxRecDepth 100000 in
theorem kw_229 : Cond.fieldLink "LeastPaths$Row" 37 "LeastPaths$Row" "size" "I" ∈ tlG := tl_at 229 rfl rfl
set_option maxRecDepth 100000 in
theorem kw_230 : Cond.fieldLink "LeastPaths$Row" 11 "LeastPaths$Row" "ways" "[LLeastPaths$Way;" ∈ tlG := tl_at 226 rfl rfl
set_option maxRecDepth 100000 in
theorem kw_231 : Cond.methodLink "LeastPaths$Row" 111 ⟨"LeastPaths$Way", "isBefore", "(LLeastPaths$Way;)Z"⟩ ∈ tlG := tl_at 605 rfl rfl
set_option maxRecDepth 100000 in
theorem kw_232 : Cond.instanceMethod ⟨"LeastPaths$Way", "isBefore", "(LLeastPaths$Way;)Z"⟩ ∈ tlG := tl_at 606 rfl rfl
set_option maxRecDepth 100000 in
theorem kw_233 : Cond.selects "LeastPaths$Way" ⟨"LeastPaths$Way", "isBefore", "(LLeastPaths$Way;)Z"⟩ ⟨"LeastPaths$Way", "isBefore", "(LLeastPaths$Way;)Z"⟩ ∈ tlG := tl_at 607 rfl rfl
set_option maxRecDepth 100000 in
theorem kw_234 : Cond.code ⟨"LeastPaths$Way", "isBefore", "(LLeastPaths$Way;)Z"⟩ prog_9_method_5_code 3 (Option.some Jvm.ClassFile.FieldType.boolean) ∈ tlG := tl_at 608 rfl rfl
set_option maxRecDepth 100000 in
theorem kw_235 : Cond.fieldLink "LeastPaths$Row" 46 "LeastPaths$Row" "room" "I" ∈ tlG := tl_at 231 rfl rfl
set_option maxRecDepth 100000 in
theorem kw_236 : Cond.methodLink "LeastPaths$Row" 40 ⟨"java/lang/Math", "min", "(II)I"⟩ ∈ tlG := tl_at 577 rfl rfl
set_option maxRecDepth 100000 in
theorem kw_237 : Cond.fieldLink "LeastPaths$Row" 30 "LeastPaths$Row" "start" "I" ∈ tlG := tl_at 232 rfl rfl
set_option maxRecDepth 100000 in
theorem kw_238 : Cond.fieldLink "LeastPaths$Row" 22 "LeastPaths$Row" "graph" "LLeastPaths$Graph;" ∈ tlG := tl_at 224 rfl rfl
set_option maxRecDepth 100000 in
theorem kw_239 : Cond.fieldLink "LeastPaths$Row" 59 "LeastPaths$Graph" "to" "[I" ∈ tlG := tl_at 43 rfl rfl
set_option maxRecDepth 100000 in
theorem kw_240 : Cond.fieldLink "LeastPaths$Row" 65 "LeastPaths$Way" "arcs" "[I" ∈ tlG := tl_at 201 rfl rfl
set_option maxRecDepth 100000 in
theorem kw_241 : Cond.fieldLink "LeastPaths$Row" 53 "LeastPaths$Way" "split" "I" ∈ tlG := tl_at 210 rfl rfl
set_option maxRecDepth 100000 in
theorem kw_242 : Cond.fieldLink "LeastPaths$Row" 68 "LeastPaths$Way" "barred" "J" ∈ tlG := tl_at 212 rfl rfl
set_option maxRecDepth 100000 in
theorem kw_243 : Cond.fieldLink "LeastPaths$Row" 56 "LeastPaths$Way" "count" "I" ∈ tlG := tl_at 203 rfl rfl
set_option maxRecDepth 100000 in
theorem kw_244 : Cond.fieldLink "LeastPaths$Row" 26 "LeastPaths$Row" "back" "LLeastPaths$Search;" ∈ tlG := tl_at 225 rfl rfl
set_option maxRecDepth 100000 in
theorem kw_245 : Cond.fieldLink "LeastPaths$Row" 72 "LeastPaths$Graph" "live" "J" ∈ tlG := tl_at 73 rfl rfl
set_option maxRecDepth 100000 in
theorem kw_246 : Cond.constantLong "LeastPaths$Row" 75 (-1) ∈ tlG := tl_at 582 rfl rfl
set_option maxRecDepth 100000 in
theorem kw_247 : Cond.methodLink "LeastPaths$Row" 77 ⟨"LeastPaths$Search", "beginCounted", "(JI)V"⟩ ∈ tlG := tl_at 583 rfl rfl
set_option maxRecDepth 100000 in
theorem kw_248 : Cond.fieldLink "LeastPaths$Row" 34 "LeastPaths$Row" "goal" "I" ∈ tlG := tl_at 233 rfl rfl
set_option maxRecDepth 100000 in
theorem kw_249 : Cond.methodLink "LeastPaths$Row" 83 ⟨"LeastPaths$Search", "offer", "(II)V"⟩ ∈ tlG := tl_at 584 rfl rfl
set_option maxRecDepth 100000 in
theorem kw_250 : Cond.methodLink "LeastPaths$Row" 87 ⟨"LeastPaths$Search", "settleAll", "()V"⟩ ∈ tlG := tl_at 585 rfl rfl
set_option maxRecDepth 100000 in
theorem kw_251 : Cond.methodLink "LeastPaths$Row" 90 ⟨"LeastPaths$Search", "knows", "(I)Z"⟩ ∈ tlG := tl_at 586 rfl rfl
set_option maxRecDepth 100000 in
theorem kw_252 : Cond.methodLink "LeastPaths$Row" 94 ⟨"LeastPaths$Way", "begin", "(IJ)V"⟩ ∈ tlG := tl_at 587 rfl rfl
set_option maxRecDepth 100000 in
theorem kw_253 : Cond.fieldLink "LeastPaths$Row" 98 "LeastPaths$Graph" "weight" "[I" ∈ tlG := tl_at 49 rfl rfl
set_option maxRecDepth 100000 in
theorem kw_254 : Cond.methodLink "LeastPaths$Row" 101 ⟨"LeastPaths$Way", "add", "(II)V"⟩ ∈ tlG := tl_at 591 rfl rfl
set_option maxRecDepth 100000 in
theorem kw_255 : Cond.methodLink "LeastPaths$Row" 104 ⟨"LeastPaths$Search", "follow", "(ILLeastPaths$Way;)V"⟩ ∈ tlG := tl_at 595 rfl rfl
set_option maxRecDepth 100000 in
theorem kw_256 : Cond.methodLink "LeastPaths$Row" 108 ⟨"LeastPaths$Row", "takeIn", "()V"⟩ ∈ tlG := tl_at 601 rfl rfl
set_option maxRecDepth 100000 in
theorem kw_257 : Cond.instanceMethod ⟨"LeastPaths$Row", "takeIn", "()V"⟩ ∈ tlG := tl_at 603 rfl rfl
set_option maxRecDepth 100000 in
theorem kw_258 : Cond.selects "LeastPaths$Row" ⟨"LeastPaths$Row", "takeIn", "()V"⟩ ⟨"LeastPaths$Row", "takeIn", "()V"⟩ ∈ tlG := tl_sel 15 rfl
set_option maxRecDepth 100000 in
theorem kw_259 : Cond.initialized "LeastPaths$Row" ∈ tlG := tl_at 7 rfl rfl
set_option maxRecDepth 100000 in
theorem kw_260 : Cond.code ⟨"LeastPaths$Row", "takeIn", "()V"⟩ prog_5_method_4_code 3 (Option.none : Option Jvm.ClassFile.FieldType) ∈ tlG := tl_at 604 rfl rfl
set_option maxRecDepth 100000 in
theorem kw_261 : Cond.fieldLink "LeastPaths$Row" 18 "LeastPaths$Row" "nothing" "LLeastPaths$Way;" ∈ tlG := tl_at 228 rfl rfl
set_option maxRecDepth 100000 in
theorem kw_262 : Cond.methodLink "LeastPaths$Row" 49 ⟨"LeastPaths$Row", "branch", "(LLeastPaths$Way;I)V"⟩ ∈ tlG := tl_at 578 rfl rfl
set_option maxRecDepth 100000 in
theorem kw_263 : Cond.instanceMethod ⟨"LeastPaths$Row", "branch", "(LLeastPaths$Way;I)V"⟩ ∈ tlG := tl_at 580 rfl rfl
set_option maxRecDepth 100000 in
theorem kw_264 : Cond.selects "LeastPaths$Row" ⟨"LeastPaths$Row", "branch", "(LLeastPaths$Way;I)V"⟩ ⟨"LeastPaths$Row", "branch", "(LLeastPaths$Way;I)V"⟩ ∈ tlG := tl_sel 14 rfl
set_option maxRecDepth 100000 in
theorem kw_265 : Cond.code ⟨"LeastPaths$Row", "branch", "(LLeastPaths$Way;I)V"⟩ prog_5_method_3_code 9 (Option.none : Option Jvm.ClassFile.FieldType) ∈ tlG := tl_at 581 rfl rfl
set_option maxRecDepth 100000 in
theorem kw_266 : Cond.fieldLink "LeastPaths" 20 "LeastPaths" "heap" "I" ∈ tlG := tl_at 300 rfl rfl
set_option maxRecDepth 100000 in
theorem kw_267 : Cond.fieldLink "LeastPaths" 27 "LeastPaths" "graph" "LLeastPaths$Graph;" ∈ tlG := tl_at 301 rfl rfl
set_option maxRecDepth 100000 in
theorem kw_268 : Cond.fieldLink "LeastPaths" 84 "LeastPaths$Graph" "nodes" "I" ∈ tlG := tl_at 62 rfl rfl
set_option maxRecDepth 100000 in
theorem kw_269 : Cond.methodLink "LeastPaths" 87 ⟨"LeastPaths$Graph", "addNode", "()I"⟩ ∈ tlG := tl_at 336 rfl rfl
set_option maxRecDepth 100000 in
theorem kw_270 : Cond.instanceMethod ⟨"LeastPaths$Graph", "addNode", "()I"⟩ ∈ tlG := tl_at 337 rfl rfl
set_option maxRecDepth 100000 in
theorem kw_271 : Cond.selects "LeastPaths$Graph" ⟨"LeastPaths$Graph", "addNode", "()I"⟩ ⟨"LeastPaths$Graph", "addNode", "()I"⟩ ∈ tlG := tl_at 338 rfl rfl
set_option maxRecDepth 100000 in
theorem kw_272 : Cond.code ⟨"LeastPaths$Graph", "addNode", "()I"⟩ prog_3_method_4_code 2 (Option.some Jvm.ClassFile.FieldType.int) ∈ tlG := tl_at 339 rfl rfl
set_option maxRecDepth 100000 in
theorem kw_273 : Cond.methodLink "LeastPaths" 126 ⟨"LeastPaths$Graph", "hasNode", "(I)Z"⟩ ∈ tlG := tl_at 352 rfl rfl
set_option maxRecDepth 100000 in
theorem kw_274 : Cond.instanceMethod ⟨"LeastPaths$Graph", "hasNode", "(I)Z"⟩ ∈ tlG := tl_at 353 rfl rfl
set_option maxRecDepth 100000 in
theorem kw_275 : Cond.selects "LeastPaths$Graph" ⟨"LeastPaths$Graph", "hasNode", "(I)Z"⟩ ⟨"LeastPaths$Graph", "hasNode", "(I)Z"⟩ ∈ tlG := tl_at 354 rfl rfl
set_option maxRecDepth 100000 in
theorem kw_276 : Cond.code ⟨"LeastPaths$Graph", "hasNode", "(I)Z"⟩ prog_3_method_2_code 2 (Option.some Jvm.ClassFile.FieldType.boolean) ∈ tlG := tl_at 355 rfl rfl
set_option maxRecDepth 100000 in
theorem kw_277 : Cond.methodLink "LeastPaths" 160 ⟨"LeastPaths", "areNodes", "(II)Z"⟩ ∈ tlG := tl_at 348 rfl rfl
set_option maxRecDepth 100000 in
theorem kw_278 : Cond.instanceMethod ⟨"LeastPaths", "areNodes", "(II)Z"⟩ ∈ tlG := tl_at 350 rfl rfl
set_option maxRecDepth 100000 in
theorem kw_279 : Cond.selects "LeastPaths" ⟨"LeastPaths", "areNodes", "(II)Z"⟩ ⟨"LeastPaths", "areNodes", "(II)Z"⟩ ∈ tlG := tl_sel 1 rfl
set_option maxRecDepth 100000 in
theorem kw_280 : Cond.initialized "LeastPaths" ∈ tlG := tl_at 1 rfl rfl
set_option maxRecDepth 100000 in
theorem kw_281 : Cond.code ⟨"LeastPaths", "areNodes", "(II)Z"⟩ prog_1_method_28_code 3 (Option.some Jvm.ClassFile.FieldType.boolean) ∈ tlG := tl_at 351 rfl rfl
set_option maxRecDepth 100000 in
theorem kw_282 : Cond.methodLink "LeastPaths" 91 ⟨"LeastPaths", "isPair", "(II)Z"⟩ ∈ tlG := tl_at 344 rfl rfl
set_option maxRecDepth 100000 in
theorem kw_283 : Cond.instanceMethod ⟨"LeastPaths", "isPair", "(II)Z"⟩ ∈ tlG := tl_at 346 rfl rfl
set_option maxRecDepth 100000 in
theorem kw_284 : Cond.selects "LeastPaths" ⟨"LeastPaths", "isPair", "(II)Z"⟩ ⟨"LeastPaths", "isPair", "(II)Z"⟩ ∈ tlG := tl_sel 0 rfl
set_option maxRecDepth 100000 in
theorem kw_285 : Cond.code ⟨"LeastPaths", "isPair", "(II)Z"⟩ prog_1_method_29_code 3 (Option.some Jvm.ClassFile.FieldType.boolean) ∈ tlG := tl_at 347 rfl rfl
set_option maxRecDepth 100000 in
theorem kw_286 : Cond.constant "LeastPaths" 95 1000000 ∈ tlG := tl_at 356 rfl rfl
set_option maxRecDepth 100000 in
theorem kw_287 : Cond.fieldLink "LeastPaths" 96 "LeastPaths$Graph" "arcs" "I" ∈ tlG := tl_at 68 rfl rfl
set_option maxRecDepth 100000 in
theorem kw_288 : Cond.methodLink "LeastPaths" 99 ⟨"LeastPaths$Graph", "addArc", "(III)I"⟩ ∈ tlG := tl_at 357 rfl rfl
set_option maxRecDepth 100000 in
theorem kw_289 : Cond.instanceMethod ⟨"LeastPaths$Graph", "addArc", "(III)I"⟩ ∈ tlG := tl_at 358 rfl rfl
set_option maxRecDepth 100000 in
theorem kw_290 : Cond.selects "LeastPaths$Graph" ⟨"LeastPaths$Graph", "addArc", "(III)I"⟩ ⟨"LeastPaths$Graph", "addArc", "(III)I"⟩ ∈ tlG := tl_at 359 rfl rfl
set_option maxRecDepth 100000 in
theorem kw_291 : Cond.code ⟨"LeastPaths$Graph", "addArc", "(III)I"⟩ prog_3_method_5_code 5 (Option.some Jvm.ClassFile.FieldType.int) ∈ tlG := tl_at 360 rfl rfl
set_option maxRecDepth 100000 in
theorem kw_292 : Cond.methodLink "LeastPaths" 103 ⟨"LeastPaths$Graph", "hasArc", "(I)Z"⟩ ∈ tlG := tl_at 365 rfl rfl
set_option maxRecDepth 100000 in
theorem kw_293 : Cond.fieldLink "LeastPaths" 107 "LeastPaths$Graph" "above" "[I" ∈ tlG := tl_at 53 rfl rfl
set_option maxRecDepth 100000 in
theorem kw_294 : Cond.fieldLink "LeastPaths" 111 "LeastPaths$Graph" "below" "[I" ∈ tlG := tl_at 56 rfl rfl
set_option maxRecDepth 100000 in
theorem kw_295 : Cond.fieldLink "LeastPaths" 114 "LeastPaths$Graph" "live" "J" ∈ tlG := tl_at 74 rfl rfl
set_option maxRecDepth 100000 in
theorem kw_296 : Cond.constantLong "LeastPaths" 118 (-1) ∈ tlG := tl_at 373 rfl rfl
set_option maxRecDepth 100000 in
theorem kw_297 : Cond.methodLink "LeastPaths" 120 ⟨"java/lang/Long", "bitCount", "(J)I"⟩ ∈ tlG := tl_at 374 rfl rfl
set_option maxRecDepth 100000 in
theorem kw_298 : Cond.static ⟨"java/lang/Long", "bitCount", "(J)I"⟩ ∈ tlG := tl_at 375 rfl rfl
set_option maxRecDepth 100000 in
theorem kw_299 : Cond.initialized "java/lang/Long" ∈ tlG := tl_at 13 rfl rfl
set_option maxRecDepth 100000 in
theorem kw_300 : Cond.code ⟨"java/lang/Long", "bitCount", "(J)I"⟩ prog_13_method_50_code 2 (Option.some Jvm.ClassFile.FieldType.int) ∈ tlG := tl_at 376 rfl rfl
set_option maxRecDepth 100000 in
theorem kw_301 : Cond.fieldLink "LeastPaths" 129 "LeastPaths$Graph" "sources" "I" ∈ tlG := tl_at 75 rfl rfl
set_option maxRecDepth 100000 in
theorem kw_302 : Cond.fieldLink "LeastPaths" 132 "LeastPaths$Graph" "rest" "[I" ∈ tlG := tl_at 58 rfl rfl
set_option maxRecDepth 100000 in
theorem kw_303 : Cond.fieldLink "LeastPaths" 36 "LeastPaths" "ahead" "LLeastPaths$Search;" ∈ tlG := tl_at 302 rfl rfl
set_option maxRecDepth 100000 in
theorem kw_304 : Cond.methodLink "LeastPaths" 221 ⟨"LeastPaths$Search", "beginCounted", "(JI)V"⟩ ∈ tlG := tl_at 400 rfl rfl
set_option maxRecDepth 100000 in
theorem kw_305 : Cond.methodLink "LeastPaths" 225 ⟨"LeastPaths$Search", "offer", "(II)V"⟩ ∈ tlG := tl_at 412 rfl rfl
set_option maxRecDepth 100000 in
theorem kw_306 : Cond.methodLink "LeastPaths" 228 ⟨"LeastPaths$Search", "settleAll", "()V"⟩ ∈ tlG := tl_at 425 rfl rfl
set_option maxRecDepth 100000 in
theorem kw_307 : Cond.methodLink "LeastPaths" 135 ⟨"LeastPaths", "growTree", "()V"⟩ ∈ tlG := tl_at 396 rfl rfl
set_option maxRecDepth 100000 in
theorem kw_308 : Cond.instanceMethod ⟨"LeastPaths", "growTree", "()V"⟩ ∈ tlG := tl_at 398 rfl rfl
set_option maxRecDepth 100000 in
theorem kw_309 : Cond.selects "LeastPaths" ⟨"LeastPaths", "growTree", "()V"⟩ ⟨"LeastPaths", "growTree", "()V"⟩ ∈ tlG := tl_sel 2 rfl
set_option maxRecDepth 100000 in
theorem kw_310 : Cond.code ⟨"LeastPaths", "growTree", "()V"⟩ prog_1_method_30_code 2 (Option.none : Option Jvm.ClassFile.FieldType) ∈ tlG := tl_at 399 rfl rfl
set_option maxRecDepth 100000 in
theorem kw_311 : Cond.methodLink "LeastPaths" 138 ⟨"LeastPaths$Search", "knows", "(I)Z"⟩ ∈ tlG := tl_at 466 rfl rfl
set_option maxRecDepth 100000 in
theorem kw_312 : Cond.fieldLink "LeastPaths" 141 "LeastPaths$Search" "number" "[I" ∈ tlG := tl_at 134 rfl rfl
set_option maxRecDepth 100000 in
theorem kw_313 : Cond.methodLink "LeastPaths" 144 ⟨"LeastPaths$Search", "lastArc", "(I)I"⟩ ∈ tlG := tl_at 478 rfl rfl
set_option maxRecDepth 100000 in
theorem kw_314 : Cond.methodLink "LeastPaths" 148 ⟨"LeastPaths$Search", "countWays", "(I)I"⟩ ∈ tlG := tl_at 491 rfl rfl
set_option maxRecDepth 100000 in
theorem kw_315 : Cond.instanceMethod ⟨"LeastPaths$Search", "countWays", "(I)I"⟩ ∈ tlG := tl_at 492 rfl rfl
set_option maxRecDepth 100000 in
theorem kw_316 : Cond.selects "LeastPaths$Search" ⟨"LeastPaths$Search", "countWays", "(I)I"⟩ ⟨"LeastPaths$Search", "countWays", "(I)I"⟩ ∈ tlG := tl_at 493 rfl rfl
set_option maxRecDepth 100000 in
theorem kw_317 : Cond.code ⟨"LeastPaths$Search", "countWays", "(I)I"⟩ prog_6_method_13_code 6 (Option.some Jvm.ClassFile.FieldType.int) ∈ tlG := tl_at 494 rfl rfl
set_option maxRecDepth 100000 in
theorem kw_318 : Cond.fieldLink "LeastPaths" 231 "LeastPaths$Graph" "from" "[I" ∈ tlG := tl_at 39 rfl rfl
set_option maxRecDepth 100000 in
theorem kw_319 : Cond.methodLink "LeastPaths" 151 ⟨"LeastPaths", "treeArc", "(II)I"⟩ ∈ tlG := tl_at 499 rfl rfl
set_option maxRecDepth 100000 in
theorem kw_320 : Cond.instanceMethod ⟨"LeastPaths", "treeArc", "(II)I"⟩ ∈ tlG := tl_at 501 rfl rfl
set_option maxRecDepth 100000 in
theorem kw_321 : Cond.selects "LeastPaths" ⟨"LeastPaths", "treeArc", "(II)I"⟩ ⟨"LeastPaths", "treeArc", "(II)I"⟩ ∈ tlG := tl_sel 11 rfl
set_option maxRecDepth 100000 in
theorem kw_322 : Cond.code ⟨"LeastPaths", "treeArc", "(II)I"⟩ prog_1_method_31_code 6 (Option.some Jvm.ClassFile.FieldType.int) ∈ tlG := tl_at 502 rfl rfl
set_option maxRecDepth 100000 in
theorem kw_323 : Cond.fieldLink "LeastPaths" 154 "LeastPaths$Search" "known" "I" ∈ tlG := tl_at 140 rfl rfl
set_option maxRecDepth 100000 in
theorem kw_324 : Cond.methodLink "LeastPaths" 157 ⟨"LeastPaths$Graph", "restsLeadTo", "(I)Z"⟩ ∈ tlG := tl_at 511 rfl rfl
set_option maxRecDepth 100000 in
theorem kw_325 : Cond.instanceMethod ⟨"LeastPaths$Graph", "restsLeadTo", "(I)Z"⟩ ∈ tlG := tl_at 512 rfl rfl
set_option maxRecDepth 100000 in
theorem kw_326 : Cond.selects "LeastPaths$Graph" ⟨"LeastPaths$Graph", "restsLeadTo", "(I)Z"⟩ ⟨"LeastPaths$Graph", "restsLeadTo", "(I)Z"⟩ ∈ tlG := tl_at 513 rfl rfl
set_option maxRecDepth 100000 in
theorem kw_327 : Cond.code ⟨"LeastPaths$Graph", "restsLeadTo", "(I)Z"⟩ prog_3_method_6_code 3 (Option.some Jvm.ClassFile.FieldType.boolean) ∈ tlG := tl_at 514 rfl rfl
set_option maxRecDepth 100000 in
theorem kw_328 : Cond.methodLink "LeastPaths" 163 ⟨"LeastPaths$Search", "goLed", "(II)V"⟩ ∈ tlG := tl_at 520 rfl rfl
set_option maxRecDepth 100000 in
theorem kw_329 : Cond.instanceMethod ⟨"LeastPaths$Search", "goLed", "(II)V"⟩ ∈ tlG := tl_at 521 rfl rfl
set_option maxRecDepth 100000 in
theorem kw_330 : Cond.selects "LeastPaths$Search" ⟨"LeastPaths$Search", "goLed", "(II)V"⟩ ⟨"LeastPaths$Search", "goLed", "(II)V"⟩ ∈ tlG := tl_at 522 rfl rfl
set_option maxRecDepth 100000 in
theorem kw_331 : Cond.code ⟨"LeastPaths$Search", "goLed", "(II)V"⟩ prog_6_method_11_code 5 (Option.none : Option Jvm.ClassFile.FieldType) ∈ tlG := tl_at 523 rfl rfl
set_option maxRecDepth 100000 in
theorem kw_332 : Cond.fieldLink "LeastPaths" 167 "LeastPaths$Search" "settled" "I" ∈ tlG := tl_at 138 rfl rfl
set_option maxRecDepth 100000 in
theorem kw_333 : Cond.fieldLink "LeastPaths" 48 "LeastPaths" "sides" "LLeastPaths$BothSides;" ∈ tlG := tl_at 304 rfl rfl
set_option maxRecDepth 100000 in
theorem kw_334 : Cond.methodLink "LeastPaths" 170 ⟨"LeastPaths$BothSides", "meet", "(II)V"⟩ ∈ tlG := tl_at 536 rfl rfl
set_option maxRecDepth 100000 in
theorem kw_335 : Cond.instanceMethod ⟨"LeastPaths$BothSides", "meet", "(II)V"⟩ ∈ tlG := tl_at 537 rfl rfl
set_option maxRecDepth 100000 in
theorem kw_336 : Cond.selects "LeastPaths$BothSides" ⟨"LeastPaths$BothSides", "meet", "(II)V"⟩ ⟨"LeastPaths$BothSides", "meet", "(II)V"⟩ ∈ tlG := tl_at 538 rfl rfl
set_option maxRecDepth 100000 in
theorem kw_337 : Cond.code ⟨"LeastPaths$BothSides", "meet", "(II)V"⟩ prog_2_method_2_code 4 (Option.none : Option Jvm.ClassFile.FieldType) ∈ tlG := tl_at 539 rfl rfl
set_option maxRecDepth 100000 in
theorem kw_338 : Cond.fieldLink "LeastPaths" 40 "LeastPaths" "back" "LLeastPaths$Search;" ∈ tlG := tl_at 303 rfl rfl
set_option maxRecDepth 100000 in
theorem kw_339 : Cond.fieldLink "LeastPaths" 173 "LeastPaths$BothSides" "best" "I" ∈ tlG := tl_at 179 rfl rfl
set_option maxRecDepth 100000 in
theorem kw_340 : Cond.constant "LeastPaths" 176 2147483647 ∈ tlG := tl_at 568 rfl rfl
set_option maxRecDepth 100000 in
theorem kw_341 : Cond.fieldLink "LeastPaths" 57 "LeastPaths" "row" "LLeastPaths$Row;" ∈ tlG := tl_at 305 rfl rfl
set_option maxRecDepth 100000 in
theorem kw_342 : Cond.methodLink "LeastPaths" 177 ⟨"LeastPaths$Row", "fill", "(III)V"⟩ ∈ tlG := tl_at 573 rfl rfl
set_option maxRecDepth 100000 in
theorem kw_343 : Cond.instanceMethod ⟨"LeastPaths$Row", "fill", "(III)V"⟩ ∈ tlG := tl_at 574 rfl rfl
set_option maxRecDepth 100000 in
theorem kw_344 : Cond.selects "LeastPaths$Row" ⟨"LeastPaths$Row", "fill", "(III)V"⟩ ⟨"LeastPaths$Row", "fill", "(III)V"⟩ ∈ tlG := tl_at 575 rfl rfl
set_option maxRecDepth 100000 in
theorem kw_345 : Cond.code ⟨"LeastPaths$Row", "fill", "(III)V"⟩ prog_5_method_2_code 7 (Option.none : Option Jvm.ClassFile.FieldType) ∈ tlG := tl_at 576 rfl rfl
set_option maxRecDepth 100000 in
theorem kw_346 : Cond.fieldLink "LeastPaths" 181 "LeastPaths$Row" "size" "I" ∈ tlG := tl_at 230 rfl rfl
set_option maxRecDepth 100000 in
theorem kw_347 : Cond.fieldLink "LeastPaths" 184 "LeastPaths$Row" "ways" "[LLeastPaths$Way;" ∈ tlG := tl_at 227 rfl rfl
set_option maxRecDepth 100000 in
theorem kw_348 : Cond.fieldLink "LeastPaths" 188 "LeastPaths$Way" "number" "I" ∈ tlG := tl_at 208 rfl rfl
set_option maxRecDepth 100000 in
theorem kw_349 : Cond.methodLink "LeastPaths" 192 ⟨"LeastPaths$Way", "arcAt", "(I)I"⟩ ∈ tlG := tl_at 613 rfl rfl
set_option maxRecDepth 100000 in
theorem kw_350 : Cond.instanceMethod ⟨"LeastPaths$Way", "arcAt", "(I)I"⟩ ∈ tlG := tl_at 614 rfl rfl
set_option maxRecDepth 100000 in
theorem kw_351 : Cond.selects "LeastPaths$Way" ⟨"LeastPaths$Way", "arcAt", "(I)I"⟩ ⟨"LeastPaths$Way", "arcAt", "(I)I"⟩ ∈ tlG := tl_at 615 rfl rfl
set_option maxRecDepth 100000 in
theorem kw_352 : Cond.code ⟨"LeastPaths$Way", "arcAt", "(I)I"⟩ prog_9_method_4_code 2 (Option.some Jvm.ClassFile.FieldType.int) ∈ tlG := tl_at 616 rfl rfl
set_option maxRecDepth 100000 in
theorem kw_353 : Cond.fieldLink "LeastPaths" 73 "LeastPaths" "widths" "LLeastPaths$Widths;" ∈ tlG := tl_at 307 rfl rfl
set_option maxRecDepth 100000 in
theorem kw_354 : Cond.methodLink "LeastPaths" 195 ⟨"LeastPaths$Widths", "spread", "(I)V"⟩ ∈ tlG := tl_at 621 rfl rfl
set_option maxRecDepth 100000 in
theorem kw_355 : Cond.instanceMethod ⟨"LeastPaths$Widths", "spread", "(I)V"⟩ ∈ tlG := tl_at 622 rfl rfl
set_option maxRecDepth 100000 in
theorem kw_356 : Cond.selects "LeastPaths$Widths" ⟨"LeastPaths$Widths", "spread", "(I)V"⟩ ⟨"LeastPaths$Widths", "spread", "(I)V"⟩ ∈ tlG := tl_at 623 rfl rfl
set_option maxRecDepth 100000 in
theorem kw_357 : Cond.initialized "LeastPaths$Widths" ∈ tlG := tl_at 10 rfl rfl
set_option maxRecDepth 100000 in
theorem kw_358 : Cond.code ⟨"LeastPaths$Widths", "spread", "(I)V"⟩ prog_10_method_2_code 5 (Option.none : Option Jvm.ClassFile.FieldType) ∈ tlG := tl_at 624 rfl rfl
set_option maxRecDepth 100000 in
theorem kw_359 : Cond.fieldLink "LeastPaths" 199 "LeastPaths$Widths" "width" "[I" ∈ tlG := tl_at 278 rfl rfl
set_option maxRecDepth 100000 in
theorem kw_360 : Cond.fieldLink "LeastPaths" 80 "LeastPaths" "trusts" "LLeastPaths$Trusts;" ∈ tlG := tl_at 308 rfl rfl
set_option maxRecDepth 100000 in
theorem kw_361 : Cond.methodLink "LeastPaths" 202 ⟨"LeastPaths$Trusts", "spread", "(I)V"⟩ ∈ tlG := tl_at 633 rfl rfl
set_option maxRecDepth 100000 in
theorem kw_362 : Cond.instanceMethod ⟨"LeastPaths$Trusts", "spread", "(I)V"⟩ ∈ tlG := tl_at 634 rfl rfl
set_option maxRecDepth 100000 in
theorem kw_363 : Cond.selects "LeastPaths$Trusts" ⟨"LeastPaths$Trusts", "spread", "(I)V"⟩ ⟨"LeastPaths$Trusts", "spread", "(I)V"⟩ ∈ tlG := tl_at 635 rfl rfl
set_option maxRecDepth 100000 in
theorem kw_364 : Cond.code ⟨"LeastPaths$Trusts", "spread", "(I)V"⟩ prog_7_method_3_code 4 (Option.none : Option Jvm.ClassFile.FieldType) ∈ tlG := tl_at 636 rfl rfl
set_option maxRecDepth 100000 in
theorem kw_365 : Cond.methodLink "LeastPaths" 203 ⟨"LeastPaths$Trusts", "knows", "(I)Z"⟩ ∈ tlG := tl_at 646 rfl rfl
set_option maxRecDepth 100000 in
theorem kw_366 : Cond.methodLink "LeastPaths" 204 ⟨"LeastPaths$Trusts", "lowestTerm", "(II)I"⟩ ∈ tlG := tl_at 647 rfl rfl
set_option maxRecDepth 100000 in
theorem kw_367 : Cond.instanceMethod ⟨"LeastPaths$Trusts", "lowestTerm", "(II)I"⟩ ∈ tlG := tl_at 648 rfl rfl
set_option maxRecDepth 100000 in
theorem kw_368 : Cond.selects "LeastPaths$Trusts" ⟨"LeastPaths$Trusts", "lowestTerm", "(II)I"⟩ ⟨"LeastPaths$Trusts", "lowestTerm", "(II)I"⟩ ∈ tlG := tl_at 649 rfl rfl
set_option maxRecDepth 100000 in
theorem kw_369 : Cond.code ⟨"LeastPaths$Trusts", "lowestTerm", "(II)I"⟩ prog_7_method_5_code 7 (Option.some Jvm.ClassFile.FieldType.int) ∈ tlG := tl_at 650 rfl rfl
set_option maxRecDepth 100000 in
theorem kw_370 : Cond.fieldLink "LeastPaths" 64 "LeastPaths" "rings" "LLeastPaths$Rings;" ∈ tlG := tl_at 306 rfl rfl
set_option maxRecDepth 100000 in
theorem kw_371 : Cond.methodLink "LeastPaths" 207 ⟨"LeastPaths$Rings", "find", "()V"⟩ ∈ tlG := tl_at 658 rfl rfl
set_option maxRecDepth 100000 in
theorem kw_372 : Cond.instanceMethod ⟨"LeastPaths$Rings", "find", "()V"⟩ ∈ tlG := tl_at 659 rfl rfl
set_option maxRecDepth 100000 in
theorem kw_373 : Cond.selects "LeastPaths$Rings" ⟨"LeastPaths$Rings", "find", "()V"⟩ ⟨"LeastPaths$Rings", "find", "()V"⟩ ∈ tlG := tl_at 660 rfl rfl
set_option maxRecDepth 100000 in
theorem kw_374 : Cond.code ⟨"LeastPaths$Rings", "find", "()V"⟩ prog_4_method_2_code 2 (Option.none : Option Jvm.ClassFile.FieldType) ∈ tlG := tl_at 661 rfl rfl
set_option maxRecDepth 100000 in
theorem kw_375 : Cond.fieldLink "LeastPaths" 210 "LeastPaths$Rings" "least" "LLeastPaths$Way;" ∈ tlG := tl_at 262 rfl rfl
set_option maxRecDepth 100000 in
theorem kw_376 : Cond.fieldLink "LeastPaths" 214 "LeastPaths$Way" "count" "I" ∈ tlG := tl_at 205 rfl rfl
set_option maxRecDepth 100000 in
theorem kw_377 : Cond.methodLink "LeastPaths" 217 ⟨"LeastPaths", "lengthWithout", "(IIJ)I"⟩ ∈ tlG := tl_at 683 rfl rfl
set_option maxRecDepth 100000 in
theorem kw_378 : Cond.instanceMethod ⟨"LeastPaths", "lengthWithout", "(IIJ)I"⟩ ∈ tlG := tl_at 685 rfl rfl
set_option maxRecDepth 100000 in
theorem kw_379 : Cond.selects "LeastPaths" ⟨"LeastPaths", "lengthWithout", "(IIJ)I"⟩ ⟨"LeastPaths", "lengthWithout", "(IIJ)I"⟩ ∈ tlG := tl_sel 18 rfl
set_option maxRecDepth 100000 in
theorem kw_380 : Cond.code ⟨"LeastPaths", "lengthWithout", "(IIJ)I"⟩ prog_1_method_32_code 5 (Option.some Jvm.ClassFile.FieldType.int) ∈ tlG := tl_at 686 rfl rfl
set_option maxRecDepth 100000 in
theorem kw_381 : Cond.fieldLink "LeastPathsModel" 82 "LeastPathsModel" "heap" "I" ∈ tlG := tl_at 696 rfl rfl
set_option maxRecDepth 100000 in
theorem kw_382 : Cond.fieldLink "LeastPathsModel" 85 "LeastPathsModel" "nodes" "I" ∈ tlG := tl_at 697 rfl rfl
set_option maxRecDepth 100000 in
theorem kw_383 : Cond.fieldLink "LeastPathsModel" 88 "LeastPathsModel" "arcs" "I" ∈ tlG := tl_at 698 rfl rfl
set_option maxRecDepth 100000 in
theorem kw_384 : Cond.fieldLink "LeastPathsModel" 25 "LeastPathsModel" "alive" "[Z" ∈ tlG := tl_at 704 rfl rfl
set_option maxRecDepth 100000 in
theorem kw_385 : Cond.fieldLink "LeastPathsModel" 59 "LeastPathsModel" "rowFrom" "I" ∈ tlG := tl_at 717 rfl rfl
set_option maxRecDepth 100000 in
theorem kw_386 : Cond.fieldLink "LeastPathsModel" 29 "LeastPathsModel" "isSource" "[Z" ∈ tlG := tl_at 705 rfl rfl
set_option maxRecDepth 100000 in
theorem kw_387 : Cond.fieldLink "LeastPathsModel" 32 "LeastPathsModel" "rests" "[I" ∈ tlG := tl_at 706 rfl rfl
set_option maxRecDepth 100000 in
theorem kw_388 : Cond.methodLink "LeastPathsModel" 91 ⟨"LeastPathsModel", "change", "()V"⟩ ∈ tlG := tl_at 802 rfl rfl
set_option maxRecDepth 100000 in
theorem kw_389 : Cond.instanceMethod ⟨"LeastPathsModel", "change", "()V"⟩ ∈ tlG := tl_at 804 rfl rfl
set_option maxRecDepth 100000 in
theorem kw_390 : Cond.selects "LeastPathsModel" ⟨"LeastPathsModel", "change", "()V"⟩ ⟨"LeastPathsModel", "change", "()V"⟩ ∈ tlG := tl_sel 19 rfl
set_option maxRecDepth 100000 in
theorem kw_391 : Cond.initialized "LeastPathsModel" ∈ tlG := tl_at 12 rfl rfl
set_option maxRecDepth 100000 in
theorem kw_392 : Cond.code ⟨"LeastPathsModel", "change", "()V"⟩ prog_12_method_5_code 1 (Option.none : Option Jvm.ClassFile.FieldType) ∈ tlG := tl_at 805 rfl rfl
set_option maxRecDepth 100000 in
theorem kw_393 : Cond.methodLink "LeastPathsModel" 94 ⟨"LeastPathsModel", "isNode", "(I)Z"⟩ ∈ tlG := tl_at 810 rfl rfl
set_option maxRecDepth 100000 in
theorem kw_394 : Cond.instanceMethod ⟨"LeastPathsModel", "isNode", "(I)Z"⟩ ∈ tlG := tl_at 812 rfl rfl
set_option maxRecDepth 100000 in
theorem kw_395 : Cond.selects "LeastPathsModel" ⟨"LeastPathsModel", "isNode", "(I)Z"⟩ ⟨"LeastPathsModel", "isNode", "(I)Z"⟩ ∈ tlG := tl_sel 20 rfl
set_option maxRecDepth 100000 in
theorem kw_396 : Cond.code ⟨"LeastPathsModel", "isNode", "(I)Z"⟩ prog_12_method_3_code 2 (Option.some Jvm.ClassFile.FieldType.boolean) ∈ tlG := tl_at 813 rfl rfl
set_option maxRecDepth 100000 in
theorem kw_397 : Cond.constant "LeastPathsModel" 98 1000000 ∈ tlG := tl_at 814 rfl rfl
set_option maxRecDepth 100000 in
theorem kw_398 : Cond.fieldLink "LeastPathsModel" 7 "LeastPathsModel" "from" "[I" ∈ tlG := tl_at 699 rfl rfl
set_option maxRecDepth 100000 in
theorem kw_399 : Cond.fieldLink "LeastPathsModel" 13 "LeastPathsModel" "to" "[I" ∈ tlG := tl_at 700 rfl rfl
set_option maxRecDepth 100000 in
theorem kw_400 : Cond.fieldLink "LeastPathsModel" 16 "LeastPathsModel" "weight" "[I" ∈ tlG := tl_at 701 rfl rfl
set_option maxRecDepth 100000 in
theorem kw_401 : Cond.fieldLink "LeastPathsModel" 19 "LeastPathsModel" "above" "[I" ∈ tlG := tl_at 702 rfl rfl
set_option maxRecDepth 100000 in
theorem kw_402 : Cond.fieldLink "LeastPathsModel" 22 "LeastPathsModel" "below" "[I" ∈ tlG := tl_at 703 rfl rfl
set_option maxRecDepth 100000 in
theorem kw_403 : Cond.methodLink "LeastPathsModel" 99 ⟨"LeastPathsModel", "isArc", "(I)Z"⟩ ∈ tlG := tl_at 819 rfl rfl
set_option maxRecDepth 100000 in
theorem kw_404 : Cond.instanceMethod ⟨"LeastPathsModel", "isArc", "(I)Z"⟩ ∈ tlG := tl_at 821 rfl rfl
set_option maxRecDepth 100000 in
theorem kw_405 : Cond.selects "LeastPathsModel" ⟨"LeastPathsModel", "isArc", "(I)Z"⟩ ⟨"LeastPathsModel", "isArc", "(I)Z"⟩ ∈ tlG := tl_sel 21 rfl
set_option maxRecDepth 100000 in
theorem kw_406 : Cond.code ⟨"LeastPathsModel", "isArc", "(I)Z"⟩ prog_12_method_4_code 2 (Option.some Jvm.ClassFile.FieldType.boolean) ∈ tlG := tl_at 822 rfl rfl
set_option maxRecDepth 100000 in
theorem kw_407 : Cond.fieldLink "LeastPathsModel" 35 "LeastPathsModel" "far" "[I" ∈ tlG := tl_at 707 rfl rfl
set_option maxRecDepth 100000 in
theorem kw_408 : Cond.constant "LeastPathsModel" 102 1000000000 ∈ tlG := tl_at 847 rfl rfl
set_option maxRecDepth 100000 in
theorem kw_409 : Cond.fieldLink "LeastPathsModel" 38 "LeastPathsModel" "hop" "[I" ∈ tlG := tl_at 708 rfl rfl
set_option maxRecDepth 100000 in
theorem kw_410 : Cond.methodLink "LeastPathsModel" 103 ⟨"LeastPathsModel", "relax", "(I)V"⟩ ∈ tlG := tl_at 848 rfl rfl
set_option maxRecDepth 100000 in
theorem kw_411 : Cond.instanceMethod ⟨"LeastPathsModel", "relax", "(I)V"⟩ ∈ tlG := tl_at 850 rfl rfl
set_option maxRecDepth 100000 in
theorem kw_412 : Cond.selects "LeastPathsModel" ⟨"LeastPathsModel", "relax", "(I)V"⟩ ⟨"LeastPathsModel", "relax", "(I)V"⟩ ∈ tlG := tl_sel 23 rfl
set_option maxRecDepth 100000 in
theorem kw_413 : Cond.code ⟨"LeastPathsModel", "relax", "(I)V"⟩ prog_12_method_14_code 7 (Option.none : Option Jvm.ClassFile.FieldType) ∈ tlG := tl_at 851 rfl rfl
set_option maxRecDepth 100000 in
theorem kw_414 : Cond.methodLink "LeastPathsModel" 107 ⟨"LeastPathsModel", "findFar", "()V"⟩ ∈ tlG := tl_at 843 rfl rfl
set_option maxRecDepth 100000 in
theorem kw_415 : Cond.instanceMethod ⟨"LeastPathsModel", "findFar", "()V"⟩ ∈ tlG := tl_at 845 rfl rfl
set_option maxRecDepth 100000 in
theorem kw_416 : Cond.selects "LeastPathsModel" ⟨"LeastPathsModel", "findFar", "()V"⟩ ⟨"LeastPathsModel", "findFar", "()V"⟩ ∈ tlG := tl_sel 22 rfl
set_option maxRecDepth 100000 in
theorem kw_417 : Cond.code ⟨"LeastPathsModel", "findFar", "()V"⟩ prog_12_method_13_code 2 (Option.none : Option Jvm.ClassFile.FieldType) ∈ tlG := tl_at 846 rfl rfl
set_option maxRecDepth 100000 in
theorem kw_418 : Cond.methodLink "LeastPathsModel" 110 ⟨"LeastPathsModel", "stepOf", "(I)I"⟩ ∈ tlG := tl_at 860 rfl rfl
set_option maxRecDepth 100000 in
theorem kw_419 : Cond.instanceMethod ⟨"LeastPathsModel", "stepOf", "(I)I"⟩ ∈ tlG := tl_at 862 rfl rfl
set_option maxRecDepth 100000 in
theorem kw_420 : Cond.selects "LeastPathsModel" ⟨"LeastPathsModel", "stepOf", "(I)I"⟩ ⟨"LeastPathsModel", "stepOf", "(I)I"⟩ ∈ tlG := tl_sel 24 rfl
set_option maxRecDepth 100000 in
theorem kw_421 : Cond.code ⟨"LeastPathsModel", "stepOf", "(I)I"⟩ prog_12_method_15_code 4 (Option.some Jvm.ClassFile.FieldType.int) ∈ tlG := tl_at 863 rfl rfl
set_option maxRecDepth 100000 in
theorem kw_422 : Cond.fieldLink "LeastPathsModel" 41 "LeastPathsModel" "many" "[I" ∈ tlG := tl_at 709 rfl rfl
set_option maxRecDepth 100000 in
theorem kw_423 : Cond.fieldLink "LeastPathsModel" 44 "LeastPathsModel" "number" "[I" ∈ tlG := tl_at 710 rfl rfl
set_option maxRecDepth 100000 in
theorem kw_424 : Cond.fieldLink "LeastPathsModel" 47 "LeastPathsModel" "settled" "[Z" ∈ tlG := tl_at 711 rfl rfl
set_option maxRecDepth 100000 in
theorem kw_425 : Cond.methodLink "LeastPathsModel" 114 ⟨"LeastPathsModel", "beginSearch", "(II)V"⟩ ∈ tlG := tl_at 888 rfl rfl
set_option maxRecDepth 100000 in
theorem kw_426 : Cond.instanceMethod ⟨"LeastPathsModel", "beginSearch", "(II)V"⟩ ∈ tlG := tl_at 890 rfl rfl
set_option maxRecDepth 100000 in
theorem kw_427 : Cond.selects "LeastPathsModel" ⟨"LeastPathsModel", "beginSearch", "(II)V"⟩ ⟨"LeastPathsModel", "beginSearch", "(II)V"⟩ ∈ tlG := tl_sel 26 rfl
set_option maxRecDepth 100000 in
theorem kw_428 : Cond.code ⟨"LeastPathsModel", "beginSearch", "(II)V"⟩ prog_12_method_22_code 4 (Option.none : Option Jvm.ClassFile.FieldType) ∈ tlG := tl_at 891 rfl rfl
set_option maxRecDepth 100000 in
theorem kw_429 : Cond.methodLink "LeastPathsModel" 118 ⟨"LeastPathsModel", "leastOf", "(IZ)I"⟩ ∈ tlG := tl_at 892 rfl rfl
set_option maxRecDepth 100000 in
theorem kw_430 : Cond.instanceMethod ⟨"LeastPathsModel", "leastOf", "(IZ)I"⟩ ∈ tlG := tl_at 894 rfl rfl
set_option maxRecDepth 100000 in
theorem kw_431 : Cond.selects "LeastPathsModel" ⟨"LeastPathsModel", "leastOf", "(IZ)I"⟩ ⟨"LeastPathsModel", "leastOf", "(IZ)I"⟩ ∈ tlG := tl_sel 27 rfl
set_option maxRecDepth 100000 in
theorem kw_432 : Cond.code ⟨"LeastPathsModel", "leastOf", "(IZ)I"⟩ prog_12_method_23_code 7 (Option.some Jvm.ClassFile.FieldType.int) ∈ tlG := tl_at 895 rfl rfl
set_option maxRecDepth 100000 in
theorem kw_433 : Cond.methodLink "LeastPathsModel" 122 ⟨"LeastPathsModel", "settle", "(II)V"⟩ ∈ tlG := tl_at 896 rfl rfl
set_option maxRecDepth 100000 in
theorem kw_434 : Cond.instanceMethod ⟨"LeastPathsModel", "settle", "(II)V"⟩ ∈ tlG := tl_at 898 rfl rfl
set_option maxRecDepth 100000 in
theorem kw_435 : Cond.selects "LeastPathsModel" ⟨"LeastPathsModel", "settle", "(II)V"⟩ ⟨"LeastPathsModel", "settle", "(II)V"⟩ ∈ tlG := tl_sel 28 rfl
set_option maxRecDepth 100000 in
theorem kw_436 : Cond.code ⟨"LeastPathsModel", "settle", "(II)V"⟩ prog_12_method_24_code 3 (Option.none : Option Jvm.ClassFile.FieldType) ∈ tlG := tl_at 899 rfl rfl
set_option maxRecDepth 100000 in
theorem kw_437 : Cond.methodLink "LeastPathsModel" 125 ⟨"LeastPathsModel", "spread", "(II)V"⟩ ∈ tlG := tl_at 900 rfl rfl
set_option maxRecDepth 100000 in
theorem kw_438 : Cond.instanceMethod ⟨"LeastPathsModel", "spread", "(II)V"⟩ ∈ tlG := tl_at 902 rfl rfl
set_option maxRecDepth 100000 in
theorem kw_439 : Cond.selects "LeastPathsModel" ⟨"LeastPathsModel", "spread", "(II)V"⟩ ⟨"LeastPathsModel", "spread", "(II)V"⟩ ∈ tlG := tl_sel 29 rfl
set_option maxRecDepth 100000 in
theorem kw_440 : Cond.code ⟨"LeastPathsModel", "spread", "(II)V"⟩ prog_12_method_25_code 7 (Option.none : Option Jvm.ClassFile.FieldType) ∈ tlG := tl_at 903 rfl rfl
set_option maxRecDepth 100000 in
theorem kw_441 : Cond.methodLink "LeastPathsModel" 128 ⟨"LeastPathsModel", "search", "(II)I"⟩ ∈ tlG := tl_at 884 rfl rfl
set_option maxRecDepth 100000 in
theorem kw_442 : Cond.instanceMethod ⟨"LeastPathsModel", "search", "(II)I"⟩ ∈ tlG := tl_at 886 rfl rfl
set_option maxRecDepth 100000 in
theorem kw_443 : Cond.selects "LeastPathsModel" ⟨"LeastPathsModel", "search", "(II)I"⟩ ⟨"LeastPathsModel", "search", "(II)I"⟩ ∈ tlG := tl_sel 25 rfl
set_option maxRecDepth 100000 in
theorem kw_444 : Cond.code ⟨"LeastPathsModel", "search", "(II)I"⟩ prog_12_method_26_code 5 (Option.some Jvm.ClassFile.FieldType.int) ∈ tlG := tl_at 887 rfl rfl
set_option maxRecDepth 100000 in
theorem kw_445 : Cond.methodLink "LeastPathsModel" 132 ⟨"LeastPathsModel", "best", "()I"⟩ ∈ tlG := tl_at 916 rfl rfl
set_option maxRecDepth 100000 in
theorem kw_446 : Cond.instanceMethod ⟨"LeastPathsModel", "best", "()I"⟩ ∈ tlG := tl_at 918 rfl rfl
set_option maxRecDepth 100000 in
theorem kw_447 : Cond.selects "LeastPathsModel" ⟨"LeastPathsModel", "best", "()I"⟩ ⟨"LeastPathsModel", "best", "()I"⟩ ∈ tlG := tl_sel 31 rfl
set_option maxRecDepth 100000 in
theorem kw_448 : Cond.code ⟨"LeastPathsModel", "best", "()I"⟩ prog_12_method_30_code 3 (Option.some Jvm.ClassFile.FieldType.int) ∈ tlG := tl_at 919 rfl rfl
set_option maxRecDepth 100000 in
theorem kw_449 : Cond.methodLink "LeastPathsModel" 136 ⟨"LeastPathsModel", "searchBoth", "(II)I"⟩ ∈ tlG := tl_at 912 rfl rfl
set_option maxRecDepth 100000 in
theorem kw_450 : Cond.instanceMethod ⟨"LeastPathsModel", "searchBoth", "(II)I"⟩ ∈ tlG := tl_at 914 rfl rfl
set_option maxRecDepth 100000 in
theorem kw_451 : Cond.selects "LeastPathsModel" ⟨"LeastPathsModel", "searchBoth", "(II)I"⟩ ⟨"LeastPathsModel", "searchBoth", "(II)I"⟩ ∈ tlG := tl_sel 30 rfl
set_option maxRecDepth 100000 in
theorem kw_452 : Cond.code ⟨"LeastPathsModel", "searchBoth", "(II)I"⟩ prog_12_method_31_code 8 (Option.some Jvm.ClassFile.FieldType.int) ∈ tlG := tl_at 915 rfl rfl
set_option maxRecDepth 100000 in
theorem kw_453 : Cond.fieldLink "LeastPathsModel" 139 "LeastPathsModel" "size" "I" ∈ tlG := tl_at 715 rfl rfl
set_option maxRecDepth 100000 in
theorem kw_454 : Cond.fieldLink "LeastPathsModel" 142 "LeastPathsModel" "length" "I" ∈ tlG := tl_at 716 rfl rfl
set_option maxRecDepth 100000 in
theorem kw_455 : Cond.fieldLink "LeastPathsModel" 50 "LeastPathsModel" "path" "[I" ∈ tlG := tl_at 712 rfl rfl
set_option maxRecDepth 100000 in
theorem kw_456 : Cond.fieldLink "LeastPathsModel" 56 "LeastPathsModel" "place" "[I" ∈ tlG := tl_at 714 rfl rfl
set_option maxRecDepth 100000 in
theorem kw_457 : Cond.methodLink "LeastPathsModel" 145 ⟨"LeastPathsModel", "back", "()Z"⟩ ∈ tlG := tl_at 936 rfl rfl
set_option maxRecDepth 100000 in
theorem kw_458 : Cond.instanceMethod ⟨"LeastPathsModel", "back", "()Z"⟩ ∈ tlG := tl_at 938 rfl rfl
set_option maxRecDepth 100000 in
theorem kw_459 : Cond.selects "LeastPathsModel" ⟨"LeastPathsModel", "back", "()Z"⟩ ⟨"LeastPathsModel", "back", "()Z"⟩ ∈ tlG := tl_sel 34 rfl
set_option maxRecDepth 100000 in
theorem kw_460 : Cond.code ⟨"LeastPathsModel", "back", "()Z"⟩ prog_12_method_35_code 1 (Option.some Jvm.ClassFile.FieldType.boolean) ∈ tlG := tl_at 939 rfl rfl
set_option maxRecDepth 100000 in
theorem kw_461 : Cond.fieldLink "LeastPathsModel" 53 "LeastPathsModel" "tried" "[I" ∈ tlG := tl_at 713 rfl rfl
set_option maxRecDepth 100000 in
theorem kw_462 : Cond.methodLink "LeastPathsModel" 149 ⟨"LeastPathsModel", "canGo", "(III)Z"⟩ ∈ tlG := tl_at 940 rfl rfl
set_option maxRecDepth 100000 in
theorem kw_463 : Cond.instanceMethod ⟨"LeastPathsModel", "canGo", "(III)Z"⟩ ∈ tlG := tl_at 942 rfl rfl
set_option maxRecDepth 100000 in
theorem kw_464 : Cond.selects "LeastPathsModel" ⟨"LeastPathsModel", "canGo", "(III)Z"⟩ ⟨"LeastPathsModel", "canGo", "(III)Z"⟩ ∈ tlG := tl_sel 35 rfl
set_option maxRecDepth 100000 in
theorem kw_465 : Cond.code ⟨"LeastPathsModel", "canGo", "(III)Z"⟩ prog_12_method_36_code 5 (Option.some Jvm.ClassFile.FieldType.boolean) ∈ tlG := tl_at 943 rfl rfl
set_option maxRecDepth 100000 in
theorem kw_466 : Cond.fieldLink "LeastPathsModel" 63 "LeastPathsModel" "rowLength" "[I" ∈ tlG := tl_at 720 rfl rfl
set_option maxRecDepth 100000 in
theorem kw_467 : Cond.fieldLink "LeastPathsModel" 66 "LeastPathsModel" "rowSize" "[I" ∈ tlG := tl_at 721 rfl rfl
set_option maxRecDepth 100000 in
theorem kw_468 : Cond.fieldLink "LeastPathsModel" 69 "LeastPathsModel" "rowArcs" "[I" ∈ tlG := tl_at 722 rfl rfl
set_option maxRecDepth 100000 in
theorem kw_469 : Cond.fieldLink "LeastPathsModel" 153 "LeastPathsModel" "rows" "I" ∈ tlG := tl_at 719 rfl rfl
set_option maxRecDepth 100000 in
theorem kw_470 : Cond.methodLink "LeastPathsModel" 156 ⟨"LeastPathsModel", "isAhead", "(I)Z"⟩ ∈ tlG := tl_at 948 rfl rfl
set_option maxRecDepth 100000 in
theorem kw_471 : Cond.instanceMethod ⟨"LeastPathsModel", "isAhead", "(I)Z"⟩ ∈ tlG := tl_at 950 rfl rfl
set_option maxRecDepth 100000 in
theorem kw_472 : Cond.selects "LeastPathsModel" ⟨"LeastPathsModel", "isAhead", "(I)Z"⟩ ⟨"LeastPathsModel", "isAhead", "(I)Z"⟩ ∈ tlG := tl_sel 37 rfl
set_option maxRecDepth 100000 in
theorem kw_473 : Cond.code ⟨"LeastPathsModel", "isAhead", "(I)Z"⟩ prog_12_method_37_code 3 (Option.some Jvm.ClassFile.FieldType.boolean) ∈ tlG := tl_at 951 rfl rfl
set_option maxRecDepth 100000 in
theorem kw_474 : Cond.fieldLink "LeastPathsModel" 159 "LeastPathsModel" "rowTo" "I" ∈ tlG := tl_at 718 rfl rfl
set_option maxRecDepth 100000 in
theorem kw_475 : Cond.methodLink "LeastPathsModel" 162 ⟨"LeastPathsModel", "nextWay", "(III)Z"⟩ ∈ tlG := tl_at 932 rfl rfl
set_option maxRecDepth 100000 in
theorem kw_476 : Cond.instanceMethod ⟨"LeastPathsModel", "nextWay", "(III)Z"⟩ ∈ tlG := tl_at 934 rfl rfl
set_option maxRecDepth 100000 in
theorem kw_477 : Cond.selects "LeastPathsModel" ⟨"LeastPathsModel", "nextWay", "(III)Z"⟩ ⟨"LeastPathsModel", "nextWay", "(III)Z"⟩ ∈ tlG := tl_sel 33 rfl
set_option maxRecDepth 100000 in
theorem kw_478 : Cond.code ⟨"LeastPathsModel", "nextWay", "(III)Z"⟩ prog_12_method_34_code 5 (Option.some Jvm.ClassFile.FieldType.boolean) ∈ tlG := tl_at 935 rfl rfl
set_option maxRecDepth 100000 in
theorem kw_479 : Cond.methodLink "LeastPathsModel" 165 ⟨"LeastPathsModel", "keep", "()V"⟩ ∈ tlG := tl_at 944 rfl rfl
set_option maxRecDepth 100000 in
theorem kw_480 : Cond.instanceMethod ⟨"LeastPathsModel", "keep", "()V"⟩ ∈ tlG := tl_at 946 rfl rfl
set_option maxRecDepth 100000 in
theorem kw_481 : Cond.selects "LeastPathsModel" ⟨"LeastPathsModel", "keep", "()V"⟩ ⟨"LeastPathsModel", "keep", "()V"⟩ ∈ tlG := tl_sel 36 rfl
set_option maxRecDepth 100000 in
theorem kw_482 : Cond.code ⟨"LeastPathsModel", "keep", "()V"⟩ prog_12_method_38_code 3 (Option.none : Option Jvm.ClassFile.FieldType) ∈ tlG := tl_at 947 rfl rfl
set_option maxRecDepth 100000 in
theorem kw_483 : Cond.methodLink "LeastPathsModel" 168 ⟨"LeastPathsModel", "findRow", "(II)V"⟩ ∈ tlG := tl_at 928 rfl rfl
set_option maxRecDepth 100000 in
theorem kw_484 : Cond.instanceMethod ⟨"LeastPathsModel", "findRow", "(II)V"⟩ ∈ tlG := tl_at 930 rfl rfl
set_option maxRecDepth 100000 in
theorem kw_485 : Cond.selects "LeastPathsModel" ⟨"LeastPathsModel", "findRow", "(II)V"⟩ ⟨"LeastPathsModel", "findRow", "(II)V"⟩ ∈ tlG := tl_sel 32 rfl
set_option maxRecDepth 100000 in
theorem kw_486 : Cond.code ⟨"LeastPathsModel", "findRow", "(II)V"⟩ prog_12_method_39_code 4 (Option.none : Option Jvm.ClassFile.FieldType) ∈ tlG := tl_at 931 rfl rfl
set_option maxRecDepth 100000 in
theorem kw_487 : Cond.methodLink "LeastPathsModel" 171 ⟨"LeastPathsModel", "kth", "(III)I"⟩ ∈ tlG := tl_at 956 rfl rfl
set_option maxRecDepth 100000 in
theorem kw_488 : Cond.instanceMethod ⟨"LeastPathsModel", "kth", "(III)I"⟩ ∈ tlG := tl_at 925 rfl rfl
set_option maxRecDepth 100000 in
theorem kw_489 : Cond.selects "LeastPathsModel" ⟨"LeastPathsModel", "kth", "(III)I"⟩ ⟨"LeastPathsModel", "kth", "(III)I"⟩ ∈ tlG := tl_at 926 rfl rfl
set_option maxRecDepth 100000 in
theorem kw_490 : Cond.code ⟨"LeastPathsModel", "kth", "(III)I"⟩ prog_12_method_40_code 4 (Option.some Jvm.ClassFile.FieldType.int) ∈ tlG := tl_at 927 rfl rfl
set_option maxRecDepth 100000 in
theorem kw_491 : Cond.fieldLink "LeastPathsModel" 72 "LeastPathsModel" "over" "[J" ∈ tlG := tl_at 723 rfl rfl
set_option maxRecDepth 100000 in
theorem kw_492 : Cond.constantLong "LeastPathsModel" 175 (-1) ∈ tlG := tl_at 965 rfl rfl
set_option maxRecDepth 100000 in
theorem kw_493 : Cond.fieldLink "LeastPathsModel" 76 "LeastPathsModel" "under" "[J" ∈ tlG := tl_at 724 rfl rfl
set_option maxRecDepth 100000 in
theorem kw_494 : Cond.methodLink "LeastPathsModel" 177 ⟨"LeastPathsModel", "common", "(JJ)J"⟩ ∈ tlG := tl_at 966 rfl rfl
set_option maxRecDepth 100000 in
theorem kw_495 : Cond.static ⟨"LeastPathsModel", "common", "(JJ)J"⟩ ∈ tlG := tl_at 967 rfl rfl
set_option maxRecDepth 100000 in
theorem kw_496 : Cond.code ⟨"LeastPathsModel", "common", "(JJ)J"⟩ prog_12_method_43_code 10 (Option.some Jvm.ClassFile.FieldType.long) ∈ tlG := tl_at 968 rfl rfl
set_option maxRecDepth 100000 in
theorem kw_497 : Cond.fieldLink "LeastPathsModel" 181 "LeastPathsModel" "ringSize" "I" ∈ tlG := tl_at 726 rfl rfl
set_option maxRecDepth 100000 in
theorem kw_498 : Cond.fieldLink "LeastPathsModel" 184 "LeastPathsModel" "ringLength" "I" ∈ tlG := tl_at 725 rfl rfl
set_option maxRecDepth 100000 in
theorem kw_499 : Cond.fieldLink "LeastPathsModel" 79 "LeastPathsModel" "ringPath" "[I" ∈ tlG := tl_at 727 rfl rfl
set_option maxRecDepth 100000 in
theorem kw_500 : Cond.methodLink "LeastPathsModel" 187 ⟨"LeastPathsModel", "isBetterRing", "(I)Z"⟩ ∈ tlG := tl_at 977 rfl rfl
set_option maxRecDepth 100000 in
theorem kw_501 : Cond.instanceMethod ⟨"LeastPathsModel", "isBetterRing", "(I)Z"⟩ ∈ tlG := tl_at 979 rfl rfl
set_option maxRecDepth 100000 in
theorem kw_502 : Cond.selects "LeastPathsModel" ⟨"LeastPathsModel", "isBetterRing", "(I)Z"⟩ ⟨"LeastPathsModel", "isBetterRing", "(I)Z"⟩ ∈ tlG := tl_sel 39 rfl
set_option maxRecDepth 100000 in
theorem kw_503 : Cond.code ⟨"LeastPathsModel", "isBetterRing", "(I)Z"⟩ prog_12_method_45_code 4 (Option.some Jvm.ClassFile.FieldType.boolean) ∈ tlG := tl_at 980 rfl rfl
set_option maxRecDepth 100000 in
theorem kw_504 : Cond.methodLink "LeastPathsModel" 190 ⟨"LeastPathsModel", "findRing", "()V"⟩ ∈ tlG := tl_at 973 rfl rfl
set_option maxRecDepth 100000 in
theorem kw_505 : Cond.instanceMethod ⟨"LeastPathsModel", "findRing", "()V"⟩ ∈ tlG := tl_at 975 rfl rfl
set_option maxRecDepth 100000 in
theorem kw_506 : Cond.selects "LeastPathsModel" ⟨"LeastPathsModel", "findRing", "()V"⟩ ⟨"LeastPathsModel", "findRing", "()V"⟩ ∈ tlG := tl_sel 38 rfl
set_option maxRecDepth 100000 in
theorem kw_507 : Cond.code ⟨"LeastPathsModel", "findRing", "()V"⟩ prog_12_method_46_code 3 (Option.none : Option Jvm.ClassFile.FieldType) ∈ tlG := tl_at 976 rfl rfl
set_option maxRecDepth 100000 in
theorem kw_508 : Cond.methodLink "LeastPathsModel" 193 ⟨"LeastPathsModel", "lengthWithout", "(III)I"⟩ ∈ tlG := tl_at 989 rfl rfl
set_option maxRecDepth 100000 in
theorem kw_509 : Cond.instanceMethod ⟨"LeastPathsModel", "lengthWithout", "(III)I"⟩ ∈ tlG := tl_at 991 rfl rfl
set_option maxRecDepth 100000 in
theorem kw_510 : Cond.selects "LeastPathsModel" ⟨"LeastPathsModel", "lengthWithout", "(III)I"⟩ ⟨"LeastPathsModel", "lengthWithout", "(III)I"⟩ ∈ tlG := tl_sel 40 rfl
set_option maxRecDepth 100000 in
theorem kw_511 : Cond.code ⟨"LeastPathsModel", "lengthWithout", "(III)I"⟩ prog_12_method_49_code 5 (Option.some Jvm.ClassFile.FieldType.int) ∈ tlG := tl_at 992 rfl rfl
end
section
-- ===== MAKING: the memory grows; kinds are fixed ahead (tb), references of objects are of the kind that may change =====
def mI (n : Nat) (σ : mS) : Prop := (∀ k j y, k < n → σ.2.2 k j = some y → y < n) ∧ ∀ k, n ≤ k → σ.1 k = (fun _ => 0) ∧ σ.2.1 k = (fun _ => 0) ∧ σ.2.2 k = fun _ => none
theorem mI_up {n : Nat} {σ : mS} (h : mI n σ) : mI (n + 1) σ := by
  refine ⟨fun k j y hk hy => ?_, fun k hk => h.2 k (by omega)⟩
  by_cases hkn : k < n
  · exact Nat.lt_succ_of_lt (h.1 k j y hkn hy)
  · have h2 := (h.2 k (by omega)).2.2
    rw [h2] at hy
    cases hy
theorem mI_sI {n k j : Nat} {v : Int32} {σ : mS} (h : mI n σ) (hk : k < n) : mI n (sI σ k j v) := ⟨h.1, fun i hi => ⟨(up2_o (by omega)).trans (h.2 i hi).1, (h.2 i hi).2⟩⟩
theorem mI_sQ {n k j y : Nat} {σ : mS} (h : mI n σ) (hk : k < n) (hy : y < n) : mI n (sQ σ k j (some y)) := by
  refine ⟨fun a b z ha hz => ?_, fun i hi => ⟨(h.2 i hi).1, (h.2 i hi).2.1, (up2_o (by omega)).trans (h.2 i hi).2.2⟩⟩
  have hz : up2 σ.2.2 k j (some y) a b = some z := hz
  unfold up2 at hz
  by_cases h1 : a = k
  · rw [if_pos h1] at hz
    by_cases h2 : b = j
    · rw [if_pos h2] at hz
      cases hz
      exact hy
    · rw [if_neg h2] at hz
      exact h.1 a b z ha hz
  · rw [if_neg h1] at hz
    exact h.1 a b z ha hz
def mDy (K : mK) : Prop := ∀ ci ts, K = .inr (ci, ts) → ∀ t ∈ ts, t < 3
theorem mV_ad {ad ad' : Nat → Nat} {σ : mS} {k j t : Nat} (h1 : ∀ j y, σ.2.2 k j = some y → ad' y = ad y) (ht : t < 3) : mV ad' σ k j t = mV ad σ k j t := by
  match t, ht with
  | 0, _ => rfl
  | 1, _ => rfl
  | 2, _ =>
    show va_rf ((σ.2.2 k j).map ad') = va_rf ((σ.2.2 k j).map ad)
    cases hq : σ.2.2 k j with
    | none => rfl
    | some y => simp [h1 j y hq]
theorem mE_ad {ad ad' : Nat → Nat} {σ : mS} {k : Nat} {K : mK} (h1 : ∀ j y, σ.2.2 k j = some y → ad' y = ad y) (h2 : mDy K) : mE ad' σ k K = mE ad σ k K := by
  match K, h2 with
  | .inl (0, n, cA), _ => rfl
  | .inl (1, n, cA), _ => rfl
  | .inl (_ + 2, n, cA), _ =>
    show (Sum.inl (cA, n, .inr (.inr (.inr (.inr (fun x => (σ.2.2 k x).map ad'))))) : va_E) = Sum.inl (cA, n, .inr (.inr (.inr (.inr (fun x => (σ.2.2 k x).map ad)))))
    have e : (fun x => (σ.2.2 k x).map ad') = fun x => (σ.2.2 k x).map ad := by
      funext x
      cases hq : σ.2.2 k x with
      | none => rfl
      | some y => simp [h1 x y hq]
    rw [e]
  | .inr (ci, ts), h2 =>
    show (Sum.inr (ci, ts.mapIdx (fun j t => mV ad' σ k j t)) : va_E) = Sum.inr (ci, ts.mapIdx (fun j t => mV ad σ k j t))
    have e : ts.mapIdx (fun j t => mV ad' σ k j t) = ts.mapIdx (fun j t => mV ad σ k j t) := by
      apply List.ext_getElem?
      intro i
      rw [List.getElem?_mapIdx, List.getElem?_mapIdx]
      cases hi : ts[i]? with
      | none => rfl
      | some t => simp [mV_ad h1 (h2 ci ts rfl t (List.mem_of_getElem? hi))]
    rw [e]
theorem wd_push {n : Nat} {tb : Nat → mK} {ad ad' : Nat → Nat} {σ : mS} (hI : mI n σ) (hT : ∀ k, mDy (tb k)) (ha : ∀ k, k < n → ad' k = ad k) : wd (n + 1) tb ad' σ = wd n tb ad σ ++ [(ad' n, mE ad' σ n (tb n))] := by
  unfold wd
  rw [List.range_succ, List.map_append]
  congr 1
  apply List.map_congr_left
  intro k hk
  have hk : k < n := List.mem_range.mp hk
  rw [ha k hk, mE_ad (fun j y hy => ha y (hI.1 k j y hk hy)) (hT k)]
def mV0 (t : Nat) : Value := match t with
  | 0 => .int 0
  | 1 => .long 0
  | _ => .null
theorem mE_0 {n : Nat} {ad : Nat → Nat} {σ : mS} {ci : Nat} {ts : List Nat} (hI : mI n σ) (hT : mDy (.inr (ci, ts))) : mE ad σ n (.inr (ci, ts)) = .inr (ci, ts.map mV0) := by
  show (Sum.inr (ci, ts.mapIdx (fun j t => mV ad σ n j t)) : va_E) = _
  have e : ts.mapIdx (fun j t => mV ad σ n j t) = ts.map mV0 := by
    apply List.ext_getElem?
    intro i
    rw [List.getElem?_mapIdx, List.getElem?_map]
    cases hi : ts[i]? with
    | none => rfl
    | some t =>
      have ht := hT ci ts rfl t (List.mem_of_getElem? hi)
      obtain ⟨z1, z2, z3⟩ := hI.2 n (Nat.le_refl n)
      match t, ht with
      | 0, _ => simp [mV, mV0, z1]
      | 1, _ => simp [mV, mV0, z2]
      | 2, _ => simp [mV, mV0, z3, va_rf]
  rw [e]
theorem m_objQ {ad : Nat → Nat} {σ : mS} {ci k j y : Nat} {ts : List Nat} (h0 : ts[j]? = some 2) : mE ad (sQ σ k j (some y)) k (.inr (ci, ts)) = .inr (ci, (ts.mapIdx (fun j t => mV ad σ k j t)).set j (.ref (ad y))) := by
  refine m_obj (fun i t _ hi => ?_) (fun t ht => ?_)
  · match t with
    | 0 => rfl
    | 1 => rfl
    | 2 => simp [mV, sQ, up2, hi]
    | t + 3 => rfl
  · have : t = 2 := Option.some.inj (ht.symm.trans h0)
    subst this
    simp [mV, sQ, up2, va_rf]
/-- words that ride in a maker's start: links of makers of nest mates, the array of ways -/
def nW (U : State) : Prop := va_Nw (.methodLinkNest "LeastPaths" 26 ⟨"LeastPaths$Graph", "<init>", "()V"⟩ "LeastPaths") U ∧ va_Nw (.methodLinkNest "LeastPaths$Row" 17 ⟨"LeastPaths$Way", "<init>", "()V"⟩ "LeastPaths") U ∧ va_Nw (.methodLinkNest "LeastPaths$Rings" 11 ⟨"LeastPaths$Way", "<init>", "()V"⟩ "LeastPaths") U ∧ va_AO "LeastPaths$Way" U
theorem nW_w {s U : State} (hW : s.WarmedH U.vm) (h : nW s) : nW U := ⟨va_Nw.warmM hW h.1, va_Nw.warmM hW h.2.1, va_Nw.warmM hW h.2.2.1, va_AO.moved hW.alike h.2.2.2⟩
def mPreN (D : va_G) (cl : List vw_C) (tys : List (Nat × FieldType)) (n : Nat) (tb : Nat → mK) (ad : Nat → Nat) (σ : mS) (sz : Nat) : State → Prop := fun U => mPre D cl tys n tb ad σ sz U ∧ nW U
theorem mPreN_blind {D : va_G} {cl : List vw_C} {tys : List (Nat × FieldType)} {n : Nat} {tb : Nat → mK} {ad : Nat → Nat} {σ : mS} {sz : Nat} {av : List Value} : FrameBlind (va_Pc av (mPreN D cl tys n tb ad σ sz)) := by
  intro a U g mk q
  obtain ⟨q0, ⟨q1, qP, qK, qD⟩, w1, w2, w3, w4⟩ := q
  exact ⟨q0, ⟨q1, qP, va_K.moved (u := U) (U := U.calling g mk a) (Vm.Alike.refl U.vm) qK, qD⟩, va_Nw.same rfl (u := U) rfl w1, va_Nw.same rfl (u := U) rfl w2, va_Nw.same rfl (u := U) rfl w3, va_AO.moved (u := U) (U := U.calling g mk a) (Vm.Alike.refl U.vm) w4⟩
section MN
variable {p : Program} {l : Launch} {e : Env} {R : Room} {s : State} {m : MethodId} {args : Array Value} {below : List Frame} {meth : Method} {c : Code} {H : Heap} {locs : List Loc} {cells slots : Nat} {Q : State → Prop}
variable {cc : ByteArray} {pc nL : Nat} {ls : Array Slot} {rest st : List Value} {D : va_G} {cl : List vw_C} {A : Nat → Prop} {tys : List (Nat × FieldType)} {Ts : List Cond} {own : String} {n : Nat} {tb : Nat → mK} {ad : Nat → Nat} {σ : mS}
theorem m_new {C : String} {T : u_T} {N ci index : Nat} {ty : Nat → FieldType} {ts : List Nat} (S : CallFix p m c cc nL s args Ts own) (M : mM D cl tys A s n tb ad σ H locs) (hI : mI n σ) (hT : ∀ k, mDy (tb k)) (hA : ∀ q, s.heap.size ≤ q → A q) (hC : mC Ts cl ci C T N ty) (ht : tb n = .inr (ci, ts)) (h1 : Cond.classLink own index C ∈ Ts) (h2 : Cond.instantiable C N ∈ Ts) (h3 : Cond.initialized C ∈ Ts) (hd : ∀ j, j < N → defaultValue (ty j) = vp_V (ts.map mV0) j) (hc : cells + 1 ≤ R.cells) (hs : slots + N ≤ R.slots) (hdg : decode cc pc = .ok (.new index, 3))
    (kk : ∀ (q : Nat) (ad1 : Nat → Nat) (H1 : Heap), (∀ k, k < n → ad1 k = ad k) → ad1 n = q → mM D cl tys A s (n + 1) tb ad1 σ H1 locs → W p l e R s m args below meth c H1 locs (cells + 1) (slots + N) Q (F0 m (pc + 3) ls (.ref q :: rest))) : W p l e R s m args below meth c H locs cells slots Q (F0 m pc ls rest) := by
  refine va_new S.1 S.2.1 S.2.2.2.2 hC.1 ty hC.2.2.1 S.2.2.2.1 (S.2.2.2.2 _ h1) (S.2.2.2.2 _ h2) (S.2.2.2.2 _ h3) M.1 M.2.1 M.2.2.1 M.2.2.2 hA hC.2.1 hd hc hs hdg (fun q H1 hP hD hS => ?_)
  have hag : ∀ k, k < n → va_up ad n q k = ad k := fun k hk => va_up_ne _ _ (by omega)
  have hn : va_up ad n q n = q := va_up_self _ _ _
  have ew := wd_push (ad' := va_up ad n q) hI hT hag
  rw [ht, mE_0 hI (fun ci' ts' h => hT n ci' ts' (by rw [ht]; exact h)), hn] at ew
  rw [← ew] at hP hD
  exact kk q _ H1 hag hn ⟨M.1, hP, hD, hS⟩
theorem m_newa {atype : ArrayType} {ft : FieldType} {k0 N tg cA : Nat} {nn : Int32} (S : CallFix p m c cc nL s args Ts own) (M : mM D cl tys A s n tb ad σ H locs) (hI : mI n σ) (hT : ∀ k, mDy (tb k)) (hA : ∀ q, s.heap.size ≤ q → A q) (harr : Cond.arrayClass (newarray.typeOf atype) ∈ Ts) (hty : newarray.typeOf atype = ft) (ht : tb n = .inl (tg, N, cA)) (hk : tys[k0]? = some (cA, ft)) (hob : ∀ C, ft ≠ .object C) (he : ∀ cB : Nat, vp_cell cB (if tg = 0 then (N, .inl (fun _ => 0)) else (N, .inr (.inl (fun _ => 0)))) = arrV cB N (fun _ => defaultValue ft)) (htg : tg < 2) (hn0 : ¬ nn < 0) (hN : nn.toNatClampNeg = N) (hby : N * componentBytes ft ≤ 536870912) (hc : cells + 1 ≤ R.cells) (hs : slots + N ≤ R.slots) (hdg : decode cc pc = .ok (.newarray atype, 2))
    (kk : ∀ (q : Nat) (ad1 : Nat → Nat) (H1 : Heap), (∀ k, k < n → ad1 k = ad k) → ad1 n = q → mM D cl tys A s (n + 1) tb ad1 σ H1 locs → W p l e R s m args below meth c H1 locs (cells + 1) (slots + N) Q (F0 m (pc + 2) ls (.ref q :: rest))) : W p l e R s m args below meth c H locs cells slots Q (F0 m pc ls (.int nn :: rest)) := by
  refine va_newa S.1 S.2.1 (S.2.2.2.2 _ harr) hty M.1 M.2.1 M.2.2.1 M.2.2.2 hA he hn0 hN hby hc hs hdg (fun q cB H1 hK hP hD hS => ?_)
  have hcB : cB = cA := by
    have a1 := (M.1.2 k0 _ hk).2
    have a2 := (hK.2 tys.length (cB, ft) (by simp)).2
    cases ft with
    | object C => exact absurd rfl (hob C)
    | _ => exact Option.some.inj (a2.symm.trans a1)
  subst hcB
  have hag : ∀ k, k < n → va_up ad n q k = ad k := fun k hk => va_up_ne _ _ (by omega)
  have hn : va_up ad n q n = q := va_up_self _ _ _
  have ew := wd_push (ad' := va_up ad n q) hI hT hag
  obtain ⟨z1, z2, z3⟩ := hI.2 n (Nat.le_refl n)
  have e0 : mE (va_up ad n q) σ n (.inl (tg, N, cB)) = .inl (cB, if tg = 0 then (N, .inl (fun _ => 0)) else (N, .inr (.inl (fun _ => 0)))) := by
    match tg, htg with
    | 0, _ => simp [mE, z1]
    | 1, _ => simp [mE, z2]
  rw [ht, e0, hn] at ew
  rw [← ew] at hP hD
  exact kk q _ H1 hag hn ⟨M.1, hP, hD, hS⟩
theorem m_newq {C : String} {index k0 N cA : Nat} {nn : Int32} (S : CallFix p m c cc nL s args Ts own) (M : mM D cl tys A s n tb ad σ H locs) (hI : mI n σ) (hT : ∀ k, mDy (tb k)) (hA : ∀ q, s.heap.size ≤ q → A q) (h1 : Cond.classLink own index C ∈ Ts) (h2 : va_AO C s) (ht : tb n = .inl (2, N, cA)) (hk : tys[k0]? = some (cA, .object C)) (hn0 : ¬ nn < 0) (hN : nn.toNatClampNeg = N) (hby : N * 4 ≤ 536870912) (hc : cells + 1 ≤ R.cells) (hs : slots + N ≤ R.slots) (hdg : decode cc pc = .ok (.anewarray index, 3))
    (kk : ∀ (q : Nat) (ad1 : Nat → Nat) (H1 : Heap), (∀ k, k < n → ad1 k = ad k) → ad1 n = q → mM D cl tys A s (n + 1) tb ad1 σ H1 locs → W p l e R s m args below meth c H1 locs (cells + 1) (slots + N) Q (F0 m (pc + 3) ls (.ref q :: rest))) : W p l e R s m args below meth c H locs cells slots Q (F0 m pc ls (.int nn :: rest)) := by
  refine va_newq S.1 S.2.1 S.2.2.2.1 (S.2.2.2.2 _ h1) h2 M.1 M.2.1 M.2.2.1 M.2.2.2 hA hn0 hN hby hc hs hdg (fun q cB H1 hK hP hD hS => ?_)
  have hcB : cB = cA := by
    obtain ⟨_, _, -, -, -, a1⟩ := (M.1.2 k0 _ hk).2
    obtain ⟨_, _, -, -, -, a2⟩ := (hK.2 tys.length (cB, .object C) (by simp)).2
    exact Option.some.inj (a2.symm.trans a1)
  subst hcB
  have hag : ∀ k, k < n → va_up ad n q k = ad k := fun k hk => va_up_ne _ _ (by omega)
  have hn : va_up ad n q n = q := va_up_self _ _ _
  have ew := wd_push (ad' := va_up ad n q) hI hT hag
  obtain ⟨z1, z2, z3⟩ := hI.2 n (Nat.le_refl n)
  have e0 : mE (va_up ad n q) σ n (.inl (2, N, cB)) = .inl (cB, N, .inr (.inr (.inr (.inr (fun _ => none))))) := by
    simp [mE, z3]
  rw [ht, e0, hn] at ew
  rw [← ew] at hP hD
  exact kk q _ H1 hag hn ⟨M.1, hP, hD, hS⟩
/-- an int into a field, in a maker -/
theorem m_nI {C : String} {T : u_T} {N ci index k j a : Nat} {ty : Nat → FieldType} {ts : List Nat} {v : Int32} (S : CallFix p m c cc nL s args Ts own) (M : mM D cl tys A s n tb ad σ H locs) (hC : mC Ts cl ci C T N ty) (hak : ad k = a) (hk : k < n) (ht : tb k = .inr (ci, ts)) (hj : j < N) (h0 : ts[j]? = some 0) (hlink : Cond.fieldLink own index own (T j).2.1 (T j).2.2.1 ∈ Ts) (hr : (T j).1 = own) (hin : meth.name = "<init>") (hn : narrow (ty j) (.int v) = .int v) (hf : fits (ty j) (.int v) = true) (hdg : decode cc pc = .ok (.putfield index, 3))
    (kk : ∀ (H1 : Heap) (locs1 : List Loc), mM D cl tys A s n tb ad (sI σ k j v) H1 locs1 → W p l e R s m args below meth c H1 locs1 cells slots Q (F0 m (pc + 3) ls rest)) : W p l e R s m args below meth c H locs cells slots Q (F0 m pc ls (.int v :: .ref a :: rest)) := by
  subst hak
  have hl : j < (ts.mapIdx (fun j t => mV ad σ k j t)).length := by
    simpa using (List.getElem?_eq_some_iff.mp h0).1
  by_cases hfin : (T j).2.2.2 = true
  · refine va_putF S.1 S.2.1 S.2.2.2.2 hC.1 ty hC.2.2.1 hC.2.2.2 S.2.2.2.1 M.1 M.2.1 M.2.2.1 M.2.2.2 k (wd_get hk ht) hC.2.1 j hj (S.2.2.2.2 _ hlink) (fun x hx => by rw [← hr]; exact hx) hfin hin hr (hC.2.2.1 j hj) hn hf hl hdg (fun H1 locs1 hP hD hS => ?_)
    rw [← m_objI h0, wd_set hk ht sI_o] at hP hD
    exact kk H1 locs1 ⟨M.1, hP, hD, hS⟩
  · refine va_put S.1 S.2.1 S.2.2.2.2 hC.1 ty hC.2.2.1 hC.2.2.2 S.2.2.2.1 M.1 M.2.1 M.2.2.1 M.2.2.2 k (wd_get hk ht) hC.2.1 j hj (S.2.2.2.2 _ hlink) (fun x hx => by rw [← hr]; exact hx) (by simpa using hfin) (hC.2.2.1 j hj) hn hf hl hdg (fun H1 locs1 hP hD hS => ?_)
    rw [← m_objI h0, wd_set hk ht sI_o] at hP hD
    exact kk H1 locs1 ⟨M.1, hP, hD, hS⟩
/-- a reference into a final field, in a maker -/
theorem m_nQ {C : String} {T : u_T} {N ci index k j a y b : Nat} {ty : Nat → FieldType} {ts : List Nat} (S : CallFix p m c cc nL s args Ts own) (M : mM D cl tys A s n tb ad σ H locs) (hC : mC Ts cl ci C T N ty) (hak : ad k = a) (hay : ad y = b) (hk : k < n) (ht : tb k = .inr (ci, ts)) (hj : j < N) (h0 : ts[j]? = some 2) (hlink : Cond.fieldLink own index own (T j).2.1 (T j).2.2.1 ∈ Ts) (hr : (T j).1 = own) (hfin : (T j).2.2.2 = true) (hin : meth.name = "<init>") (hn : narrow (ty j) (.ref b) = .ref b) (hf : fits (ty j) (.ref b) = true) (hdg : decode cc pc = .ok (.putfield index, 3))
    (kk : ∀ (H1 : Heap) (locs1 : List Loc), mM D cl tys A s n tb ad (sQ σ k j (some y)) H1 locs1 → W p l e R s m args below meth c H1 locs1 cells slots Q (F0 m (pc + 3) ls rest)) : W p l e R s m args below meth c H locs cells slots Q (F0 m pc ls (.ref b :: .ref a :: rest)) := by
  subst hak
  subst hay
  have hl : j < (ts.mapIdx (fun j t => mV ad σ k j t)).length := by
    simpa using (List.getElem?_eq_some_iff.mp h0).1
  refine va_putF S.1 S.2.1 S.2.2.2.2 hC.1 ty hC.2.2.1 hC.2.2.2 S.2.2.2.1 M.1 M.2.1 M.2.2.1 M.2.2.2 k (wd_get hk ht) hC.2.1 j hj (S.2.2.2.2 _ hlink) (fun x hx => by rw [← hr]; exact hx) hfin hin hr (hC.2.2.1 j hj) hn hf hl hdg (fun H1 locs1 hP hD hS => ?_)
  rw [← m_objQ h0, wd_set hk ht sQ_o] at hP hD
  exact kk H1 locs1 ⟨M.1, hP, hD, hS⟩
end MN
-- ===== contracts of makers =====
def mQn (D : va_G) (cl : List vw_C) (tys : List (Nat × FieldType)) (tb : Nat → mK) (n : Nat) (ad : Nat → Nat) (n' : Nat) (σ' : mS) (sz : Nat) : Array Value → State → Outcome → State → Prop := va_Qv (fun ad' : Nat → Nat => ∀ k, k < n → ad' k = ad k) (fun ad' => mB D cl tys (mA n ad sz) n' tb ad' σ') (mA n ad sz)
def mCn (l : Launch) (y : MethodName) (ws : List Cond) (rm : Room) (D : va_G) (cl : List vw_C) (tys : List (Nat × FieldType)) (tb : Nat → mK) (n : Nat) (ad : Nat → Nat) (σ : mS) (av : List Value) (n' : Nat) (σ' : mS) (mc ms : Nat) : Prop :=
  ∀ sz, Met l y ws rm (va_Pc av (mPreN D cl tys n tb ad σ sz)) (mQn D cl tys tb n ad n' σ' sz) mc ms (mA n ad sz)
section MNC
variable {p : Program} {l : Launch} {e : Env} {R : Room} {s : State} {m : MethodId} {args : Array Value} {below : List Frame} {meth : Method} {c : Code} {H : Heap} {locs : List Loc} {cells slots : Nat} {Q : State → Prop}
variable {cc : ByteArray} {pc nL : Nat} {ls : Array Slot} {rest st : List Value} {D : va_G} {cl : List vw_C} {A : Nat → Prop} {tys : List (Nat × FieldType)} {Ts : List Cond} {own host : String} {n n' mc ms : Nat} {tb : Nat → mK} {ad : Nat → Nat} {σ σ' : mS}
variable {y : MethodName} {bytes : ByteArray} {maxL na index b : Nat} {ws : List Cond} {rm : Room} {As : List Value} {a : Array Value}
theorem m_rI (S : CallFix p m c cc nL s args Ts own) (N : nW s) (M : mM D cl tys A s n tb ad σ H locs) (hl : ls.size = nL) (cw : CallB R s args own index y bytes maxL none ws rm mc ms na ∧ y.name = "<init>" ∧ (Cond.instanceMethod y).before args s = true) (hM : mCn l y ws rm D cl tys tb n ad σ (.ref b :: As) n' σ' mc ms) (hn : As.length = na) (hst : st = As.reverse ++ .ref b :: rest) (hrm : (rest.map fun v => v.category).sum ≤ 8) (hdg : decode cc pc = .ok (.invokespecial index, 3)) (hcs : cells + mc ≤ R.cells ∧ slots + ms ≤ R.slots) :
    va_Run p l e R s m args below meth c H locs cells slots mc ms (F0 m pc ls st) rest (mQn D cl tys tb n ad n' σ' H.size (Value.ref b :: As).toArray) (mA n ad H.size) :=
  va_runI S (hM H.size) cw ⟨mPreN_blind, fun U hU hW => ⟨rfl, ⟨by rw [hU], by rw [hU]; exact M.2.1, va_K.moved hW.alike M.1, M.2.2.1.weaken (fun _ _ _ _ => trivial)⟩, nW_w hW N⟩⟩ rfl hn hl hst (lv_room hrm) hdg hcs
theorem m_rIN (S : CallFix p m c cc nL s args Ts own) (N : nW s) (M : mM D cl tys A s n tb ad σ H locs) (hl : ls.size = nL) (cw : va_CN R s args own index y host bytes maxL none ws rm mc ms na ∧ y.name = "<init>" ∧ (Cond.instanceMethod y).before args s = true) (hM : mCn l y ws rm D cl tys tb n ad σ (.ref b :: As) n' σ' mc ms) (hn : As.length = na) (hst : st = As.reverse ++ .ref b :: rest) (hrm : (rest.map fun v => v.category).sum ≤ 8) (hdg : decode cc pc = .ok (.invokespecial index, 3)) (hcs : cells + mc ≤ R.cells ∧ slots + ms ≤ R.slots) :
    va_Run p l e R s m args below meth c H locs cells slots mc ms (F0 m pc ls st) rest (mQn D cl tys tb n ad n' σ' H.size (Value.ref b :: As).toArray) (mA n ad H.size) :=
  va_runIN S (hM H.size) cw ⟨mPreN_blind, fun U hU hW => ⟨rfl, ⟨by rw [hU], by rw [hU]; exact M.2.1, va_K.moved hW.alike M.1, M.2.2.1.weaken (fun _ _ _ _ => trivial)⟩, nW_w hW N⟩⟩ rfl hn hl hst (lv_room hrm) hdg hcs
theorem m_inA (M : mM D cl tys A s n tb ad σ H locs) (hA : ∀ q, s.heap.size ≤ q → A q) : ∀ q, mA n ad H.size q → A q := by
  intro q hq
  rcases hq with ⟨k, hk, rfl⟩ | hq
  · exact M.2.2.1.2 k _ (wd_get hk rfl)
  · exact hA q (Nat.le_trans M.2.2.2.1 hq)
theorem m_xn (hr : va_Run p l e R s m args below meth c H locs cells slots mc ms (F0 m pc ls st) rest (mQn D cl tys tb n ad n' σ' H.size a) (mA n ad H.size)) (M : mM D cl tys A s n tb ad σ H locs) (hA : ∀ q, s.heap.size ≤ q → A q)
    (kk : ∀ (ad1 : Nat → Nat) (H1 : Heap) (locs1 : List Loc), (∀ k, k < n → ad1 k = ad k) → mM D cl tys A s n' tb ad1 σ' H1 locs1 → W p l e R s m args below meth c H1 locs1 (cells + mc) (slots + ms) Q (F0 m (pc + 3) ls rest)) : W p l e R s m args below meth c H locs cells slots Q (F0 m pc ls st) := by
  refine va_callv hr M.2.2.2 (fun q _ h => m_inA M hA q h) (fun q h => m_inA M hA q h) (fun u t H1 locs1 ht hvm hw hB hz hk hS => ?_)
  exact kk u H1 locs1 hw ⟨M.1, by rw [← ht]; exact hB.1, hB.2.2.weaken (fun _ _ _ h => m_inA M hA _ h), hS⟩
theorem m_ofN {tl : List Cond} {av : List Value} {ret : Option FieldType} {Qc : Nat → Array Value → State → Outcome → State → Prop} (hy : plainName y.cls = true) (hlen : (lg_sl av).length ≤ maxL)
    (body : ∀ (p : Program) (e : Env) (s : State) (m : MethodId) (args : Array Value) (below : List Frame) (meth : Method) (c : Code) (ls : Array Slot), CallFix p m c cc maxL s args tl y.cls → meth.sig.returnType = ret → meth.locks = false → meth.name = y.name → lv_has ls maxL (lv_args 0 av) → nW s → mM D cl tys (mA n ad s.heap.size) s n tb ad σ s.heap [] →
      W p l e rm s m args below meth c s.heap [] 0 0 (MQ below (Qc s.heap.size) args s mc ms (mA n ad s.heap.size)) (F0 m 0 ls [])) (sz : Nat) :
    Met l y (.code y cc maxL ret :: tl) rm (va_Pc av (mPreN D cl tys n tb ad σ sz)) (Qc sz) mc ms (mA n ad sz) := by
  refine Met.ofW (cc := cc) (maxL := maxL) (ret := ret) hy rfl ?_
  intro p e s m args below meth c s₁ B hml hv
  obtain ⟨rfl, ⟨hsz, hP, hK, hD0⟩, hN⟩ := hv
  subst hsz
  have hts := atoms_spec (ws := .code y cc maxL ret :: tl) B.pre
  have hl := lv_entry av (n := maxL) hlen
  rw [lg_entry_eq]
  generalize (lg_sl av ++ List.replicate (maxL - (lg_sl av).length) Slot.unset).toArray = ls at hl ⊢
  exact body p e s m _ below meth c ls ⟨B.exec, B.bytes, hml, findClass_of_methodNamed B.named, fun w h => hts w (List.mem_cons_of_mem _ h)⟩ B.returns B.notSynchronized (name_of_methodNamed B.named B.method).1 hl hN ⟨hK, hP, mD_self hD0, va_S.rf⟩
theorem m_nret {ad0 : Nat → Nat} {n0 : Nat} (S : CallFix p m c cc nL s args Ts own) (hr : meth.sig.returnType = none) (hlk : meth.locks = false) (hag : ∀ k, k < n0 → ad k = ad0 k) (M : mM D cl tys (mA n0 ad0 s.heap.size) s n tb ad σ H locs) (hdg : decode cc pc = .ok (.return_, 1)) :
    W p l e R s m args below meth c H locs cells slots (MQ below (mQn D cl tys tb n0 ad0 n σ s.heap.size) args s cells slots (mA n0 ad0 s.heap.size)) (F0 m pc ls []) :=
  W.vret S.1 S.2.1 hr (fun t ht hW => ⟨⟨ad, rfl, hag, by rw [ht]; exact M.2.1, va_K.moved hW.alike M.1, M.2.2.1⟩, M.2.2.2.F ht⟩) M.2.2.2.2.2 hdg hlk
end MNC
section CWI
variable {R : Room} {s : State} {args : Array Value} {own host : String} {index maxL n mc ms : Nat} {y : MethodName} {bytes : ByteArray} {rm : Room}
theorem cwGI (hts : ∀ w ∈ tlG, w.before args s = true) (h1 : Cond.methodLink own index y ∈ tlG) (h2 : Cond.instanceMethod y ∈ tlG) (h4 : Cond.initialized y.cls ∈ tlG) (h5 : Cond.code y bytes maxL none ∈ tlG) (hy : y.name = "<init>")
    (hd : y.cls ≠ "java/lang/invoke/MethodHandle" ∧ y.cls ≠ "java/lang/invoke/VarHandle" ∧ (parseMethodDescriptor y.desc).map (fun d => d.parameters.length) = some n) (hR : rm.frames + 1 ≤ R.frames ∧ 8 + (maxL + 11) + rm.locals ≤ R.locals) (hc : rm.cells = mc := by rfl) (hs : rm.slots = ms := by rfl) :
    CallB R s args own index y bytes maxL none (Cond.code y bytes maxL none :: tlG) rm mc ms n ∧ y.name = "<init>" ∧ (Cond.instanceMethod y).before args s = true :=
  cwI n hts (tl_good fun w hw => (List.mem_cons.mp hw).elim (fun e => by rw [e]; exact h5) id) rfl hc hs (hts _ h4) (hts _ h1) (hts _ h2) hy hd hR
theorem cwGN (hts : ∀ w ∈ tlG, w.before args s = true) (h1 : va_Nw (.methodLinkNest own index y host) s) (h2 : Cond.instanceMethod y ∈ tlG) (h4 : Cond.initialized y.cls ∈ tlG) (h5 : Cond.code y bytes maxL none ∈ tlG) (hy : y.name = "<init>")
    (hd : y.cls ≠ "java/lang/invoke/MethodHandle" ∧ y.cls ≠ "java/lang/invoke/VarHandle" ∧ (parseMethodDescriptor y.desc).map (fun d => d.parameters.length) = some n) (hR : rm.frames + 1 ≤ R.frames ∧ 8 + (maxL + 11) + rm.locals ≤ R.locals) (hc : rm.cells = mc := by rfl) (hs : rm.slots = ms := by rfl) :
    va_CN R s args own index y host bytes maxL none (Cond.code y bytes maxL none :: tlG) rm mc ms n ∧ y.name = "<init>" ∧ (Cond.instanceMethod y).before args s = true :=
  ⟨va_cnB n hts (tl_good fun w hw => (List.mem_cons.mp hw).elim (fun e => by rw [e]; exact h5) id) rfl hc hs h1 (hts _ h4) hd hR, hy, hts _ h2⟩
end CWI
end
section
def tbC (cA : Nat → Nat) : Nat → mK := fun k => match k with
  | 0 => .inr (0, [0, 2, 2, 2, 2, 2, 2, 2, 2])
  | 1 => .inr (2, [2, 2, 2, 2, 2, 2, 0, 0, 1, 0])
  | 2 => .inl (0, 40, cA 0)
  | 3 => .inl (0, 40, cA 0)
  | 4 => .inl (0, 40, cA 0)
  | 5 => .inl (0, 40, cA 0)
  | 6 => .inl (0, 40, cA 0)
  | 7 => .inl (0, 10, cA 0)
  | 8 => .inr (5, [2, 0, 2, 2, 2, 2, 0, 0, 0, 1, 0, 0])
  | 9 => .inl (0, 10, cA 0)
  | 10 => .inl (0, 10, cA 0)
  | 11 => .inl (0, 10, cA 0)
  | 12 => .inr (7, [0, 2, 2, 2, 0])
  | 13 => .inl (0, 10, cA 0)
  | 14 => .inl (0, 10, cA 0)
  | 15 => .inl (1, 10, cA 1)
  | 16 => .inr (5, [2, 0, 2, 2, 2, 2, 0, 0, 0, 1, 0, 0])
  | 17 => .inl (0, 10, cA 0)
  | 18 => .inl (0, 10, cA 0)
  | 19 => .inl (0, 10, cA 0)
  | 20 => .inr (7, [0, 2, 2, 2, 0])
  | 21 => .inl (0, 10, cA 0)
  | 22 => .inl (0, 10, cA 0)
  | 23 => .inl (1, 10, cA 1)
  | 24 => .inr (1, [2, 2, 0])
  | 25 => .inr (4, [2, 2, 2, 2, 0, 0, 0, 0])
  | 26 => .inl (2, 31, cA 3)
  | 91 => .inr (3, [2, 2, 2])
  | 92 => .inr (8, [2, 0, 0, 0, 1])
  | 93 => .inl (0, 10, cA 0)
  | 94 => .inr (9, [2, 2])
  | 95 => .inl (0, 10, cA 0)
  | 96 => .inr (6, [2, 2, 2])
  | 97 => .inl (1, 10, cA 1)
  | 98 => .inl (1, 10, cA 1)
  | 99 => .inr (10, [0, 0, 0, 2, 2, 2, 2, 2, 2, 2, 2, 2, 2, 2, 2, 2, 2, 2, 2, 0, 0, 0, 0, 0, 2, 2, 2, 2, 2, 0, 0, 2])
  | 100 => .inl (0, 40, cA 0)
  | 101 => .inl (0, 40, cA 0)
  | 102 => .inl (0, 40, cA 0)
  | 103 => .inl (0, 40, cA 0)
  | 104 => .inl (0, 40, cA 0)
  | 105 => .inl (0, 40, cA 2)
  | 106 => .inl (0, 10, cA 2)
  | 107 => .inl (0, 10, cA 0)
  | 108 => .inl (0, 10, cA 0)
  | 109 => .inl (0, 10, cA 0)
  | 110 => .inl (0, 10, cA 0)
  | 111 => .inl (0, 20, cA 0)
  | 112 => .inl (0, 20, cA 2)
  | 113 => .inl (0, 12, cA 0)
  | 114 => .inl (0, 12, cA 0)
  | 115 => .inl (0, 12, cA 0)
  | 116 => .inl (0, 31, cA 0)
  | 117 => .inl (0, 31, cA 0)
  | 118 => .inl (0, 310, cA 0)
  | 119 => .inl (1, 10, cA 1)
  | 120 => .inl (1, 10, cA 1)
  | 121 => .inl (0, 12, cA 0)
  | k => if k % 2 = 1 then .inr (8, [2, 0, 0, 0, 1]) else .inl (0, 10, cA 0)
theorem tC_dy (cA : Nat → Nat) : ∀ k, mDy (tbC cA k) := by
  intro k ci ts h t ht
  unfold tbC at h
  split at h <;> first | (cases h; done) | (cases h; simp at ht; omega) | (split at h <;> first | (cases h; done) | (cases h; simp at ht; omega))
theorem tC_S0 {cA : Nat → Nat} {b : Nat} (h : sB b) : tbC cA (b) = .inr (5, [2, 0, 2, 2, 2, 2, 0, 0, 0, 1, 0, 0]) := by rcases h with rfl | rfl <;> rfl
theorem tC_S1 {cA : Nat → Nat} {b : Nat} (h : sB b) : tbC cA (b + 1) = .inl (0, 10, cA 0) := by rcases h with rfl | rfl <;> rfl
theorem tC_S2 {cA : Nat → Nat} {b : Nat} (h : sB b) : tbC cA (b + 2) = .inl (0, 10, cA 0) := by rcases h with rfl | rfl <;> rfl
theorem tC_S3 {cA : Nat → Nat} {b : Nat} (h : sB b) : tbC cA (b + 3) = .inl (0, 10, cA 0) := by rcases h with rfl | rfl <;> rfl
theorem tC_S4 {cA : Nat → Nat} {b : Nat} (h : sB b) : tbC cA (b + 4) = .inr (7, [0, 2, 2, 2, 0]) := by rcases h with rfl | rfl <;> rfl
theorem tC_W0 {cA : Nat → Nat} {b : Nat} (h : wB b) : tbC cA (b) = .inr (7, [0, 2, 2, 2, 0]) := by rcases h with rfl | rfl <;> rfl
theorem tC_W1 {cA : Nat → Nat} {b : Nat} (h : wB b) : tbC cA (b + 1) = .inl (0, 10, cA 0) := by rcases h with rfl | rfl <;> rfl
theorem tC_W2 {cA : Nat → Nat} {b : Nat} (h : wB b) : tbC cA (b + 2) = .inl (0, 10, cA 0) := by rcases h with rfl | rfl <;> rfl
theorem tC_W3 {cA : Nat → Nat} {b : Nat} (h : wB b) : tbC cA (b + 3) = .inl (1, 10, cA 1) := by rcases h with rfl | rfl <;> rfl
theorem tC_Y0 {cA : Nat → Nat} {w : Nat} (h : wy w = true) : tbC cA w = .inr (8, [2, 0, 0, 0, 1]) := by
  rcases wy_cases h with rfl | rfl | rfl | rfl | rfl | rfl | rfl | rfl | rfl | rfl | rfl | rfl | rfl | rfl | rfl | rfl | rfl | rfl | rfl | rfl | rfl | rfl | rfl | rfl | rfl | rfl | rfl | rfl | rfl | rfl | rfl | rfl | rfl <;> rfl
theorem tC_Y1 {cA : Nat → Nat} {w : Nat} (h : wy w = true) : tbC cA (w + 1) = .inl (0, 10, cA 0) := by
  rcases wy_cases h with rfl | rfl | rfl | rfl | rfl | rfl | rfl | rfl | rfl | rfl | rfl | rfl | rfl | rfl | rfl | rfl | rfl | rfl | rfl | rfl | rfl | rfl | rfl | rfl | rfl | rfl | rfl | rfl | rfl | rfl | rfl | rfl | rfl <;> rfl
section MN3
variable {p : Program} {l : Launch} {e : Env} {R : Room} {s : State} {m : MethodId} {args : Array Value} {below : List Frame} {meth : Method} {c : Code} {H : Heap} {locs : List Loc} {cells slots : Nat} {Q : State → Prop}
variable {cc : ByteArray} {pc nL : Nat} {ls : Array Slot} {rest st : List Value} {D : va_G} {cl : List vw_C} {A : Nat → Prop} {tys : List (Nat × FieldType)} {Ts : List Cond} {own : String} {n : Nat} {tb : Nat → mK} {ad : Nat → Nat} {σ : mS}
theorem m_giA {ref C : String} {T : u_T} {N ci index k j a : Nat} {ty : Nat → FieldType} {ts : List Nat} {v : Int32} (S : CallFix p m c cc nL s args Ts own) (M : mM D cl tys A s n tb ad σ H locs) (hC : mC Ts cl ci C T N ty) (hak : ad k = a) (hk : k < n) (ht : tb k = .inr (ci, ts)) (hj : j < N) (h0 : ts[j]? = some 0) (hlink : Cond.fieldLink own index ref (T j).2.1 (T j).2.2.1 ∈ Ts) (hr : (T j).1 = ref) (hv : σ.1 k j = v) (hdg : decode cc pc = .ok (.getfield index, 3))
    (kk : W p l e R s m args below meth c H locs cells slots Q (F0 m (pc + 3) ls (.int v :: rest))) : W p l e R s m args below meth c H locs cells slots Q (F0 m pc ls (.ref a :: rest)) := by
  subst hak
  subst hv
  exact m_gi S M hC hk ht hj h0 hlink hr hdg kk
theorem m_gq {ref C : String} {T : u_T} {N ci index k j y a : Nat} {ty : Nat → FieldType} {ts : List Nat} (S : CallFix p m c cc nL s args Ts own) (M : mM D cl tys A s n tb ad σ H locs) (hC : mC Ts cl ci C T N ty) (hak : ad k = a) (hk : k < n) (ht : tb k = .inr (ci, ts)) (hj : j < N) (h0 : ts[j]? = some 2) (hlink : Cond.fieldLink own index ref (T j).2.1 (T j).2.2.1 ∈ Ts) (hr : (T j).1 = ref) (hq : σ.2.2 k j = some y) (hdg : decode cc pc = .ok (.getfield index, 3))
    (kk : W p l e R s m args below meth c H locs cells slots Q (F0 m (pc + 3) ls (.ref (ad y) :: rest))) : W p l e R s m args below meth c H locs cells slots Q (F0 m pc ls (.ref a :: rest)) := by
  subst hak
  exact va_get S.1 S.2.1 S.2.2.2.2 hC.1 S.2.2.2.1 M.1 M.2.1 k (wd_get hk ht) hC.2.1 j hj (S.2.2.2.2 _ hlink) (fun x hx => by rw [← hr]; exact hx) (v := .ref (ad y)) (by simp [List.getElem?_mapIdx, h0, mV, hq, va_rf]) hdg kk
end MN3
theorem nz_n {x : Int32} (h : x = 0 ∨ x = 1) : narrow .boolean (.int x) = .int x := by rcases h with rfl | rfl <;> rfl
theorem nz_f {x : Int32} (h : x = 0 ∨ x = 1) : fits .boolean (.int x) = true := by rcases h with rfl | rfl <;> rfl
set_option maxRecDepth 100000 in
theorem kc_0 : Cond.methodLink "LeastPaths$Graph" 3 ⟨"java/lang/Object", "<init>", "()V"⟩ ∈ tlG := tl_at 33 rfl rfl
set_option maxRecDepth 100000 in
theorem kc_1 : Cond.instanceMethod ⟨"java/lang/Object", "<init>", "()V"⟩ ∈ tlG := tl_at 20 rfl rfl
set_option maxRecDepth 100000 in
theorem kc_2 : Cond.code ⟨"java/lang/Object", "<init>", "()V"⟩ object_method_1_code 1 (Option.none : Option Jvm.ClassFile.FieldType) ∈ tlG := tl_at 21 rfl rfl
set_option maxRecDepth 100000 in
theorem kc_3 : Cond.fieldLink "LeastPaths$Graph" 9 "LeastPaths$Graph" "from" "[I" ∈ tlG := tl_at 34 rfl rfl
set_option maxRecDepth 100000 in
theorem kc_4 : Cond.fieldLink "LeastPaths$Graph" 15 "LeastPaths$Graph" "to" "[I" ∈ tlG := tl_at 40 rfl rfl
set_option maxRecDepth 100000 in
theorem kc_5 : Cond.fieldLink "LeastPaths$Graph" 18 "LeastPaths$Graph" "weight" "[I" ∈ tlG := tl_at 46 rfl rfl
set_option maxRecDepth 100000 in
theorem kc_6 : Cond.fieldLink "LeastPaths$Graph" 21 "LeastPaths$Graph" "above" "[I" ∈ tlG := tl_at 51 rfl rfl
set_option maxRecDepth 100000 in
theorem kc_7 : Cond.fieldLink "LeastPaths$Graph" 24 "LeastPaths$Graph" "below" "[I" ∈ tlG := tl_at 54 rfl rfl
set_option maxRecDepth 100000 in
theorem kc_8 : Cond.fieldLink "LeastPaths$Graph" 27 "LeastPaths$Graph" "rest" "[I" ∈ tlG := tl_at 57 rfl rfl
set_option maxRecDepth 100000 in
theorem kc_9 : Cond.methodLink "LeastPaths$Waiting" 3 ⟨"java/lang/Object", "<init>", "()V"⟩ ∈ tlG := tl_at 109 rfl rfl
set_option maxRecDepth 100000 in
theorem kc_10 : Cond.fieldLink "LeastPaths$Waiting" 9 "LeastPaths$Waiting" "nodeAt" "[I" ∈ tlG := tl_at 112 rfl rfl
set_option maxRecDepth 100000 in
theorem kc_11 : Cond.fieldLink "LeastPaths$Waiting" 15 "LeastPaths$Waiting" "placeOf" "[I" ∈ tlG := tl_at 113 rfl rfl
set_option maxRecDepth 100000 in
theorem kc_12 : Cond.fieldLink "LeastPaths$Waiting" 18 "LeastPaths$Waiting" "rankOf" "[J" ∈ tlG := tl_at 114 rfl rfl
set_option maxRecDepth 100000 in
theorem kc_13 : Cond.methodLink "LeastPaths$Waiting" 22 ⟨"java/lang/Math", "max", "(II)I"⟩ ∈ tlG := tl_at 110 rfl rfl
set_option maxRecDepth 100000 in
theorem kc_14 : Cond.static ⟨"java/lang/Math", "max", "(II)I"⟩ ∈ tlG := tl_at 23 rfl rfl
set_option maxRecDepth 100000 in
theorem kc_15 : Cond.initialized "java/lang/Math" ∈ tlG := tl_at 2 rfl rfl
set_option maxRecDepth 100000 in
theorem kc_16 : Cond.code ⟨"java/lang/Math", "max", "(II)I"⟩ prog_14_method_65_code 2 (Option.some Jvm.ClassFile.FieldType.int) ∈ tlG := tl_at 24 rfl rfl
set_option maxRecDepth 100000 in
theorem kc_17 : Cond.fieldLink "LeastPaths$Waiting" 28 "LeastPaths$Waiting" "children" "I" ∈ tlG := tl_at 111 rfl rfl
set_option maxRecDepth 100000 in
theorem kc_18 : Cond.methodLink "LeastPaths$Way" 3 ⟨"java/lang/Object", "<init>", "()V"⟩ ∈ tlG := tl_at 199 rfl rfl
set_option maxRecDepth 100000 in
theorem kc_19 : Cond.fieldLink "LeastPaths$Way" 9 "LeastPaths$Way" "arcs" "[I" ∈ tlG := tl_at 200 rfl rfl
set_option maxRecDepth 100000 in
theorem kc_20 : Cond.methodLink "LeastPaths$Search" 3 ⟨"java/lang/Object", "<init>", "()V"⟩ ∈ tlG := tl_at 103 rfl rfl
set_option maxRecDepth 100000 in
theorem kc_21 : Cond.fieldLink "LeastPaths$Search" 9 "LeastPaths$Search" "number" "[I" ∈ tlG := tl_at 131 rfl rfl
set_option maxRecDepth 100000 in
theorem kc_22 : Cond.fieldLink "LeastPaths$Search" 15 "LeastPaths$Search" "order" "[I" ∈ tlG := tl_at 135 rfl rfl
set_option maxRecDepth 100000 in
theorem kc_23 : Cond.fieldLink "LeastPaths$Search" 18 "LeastPaths$Search" "waysTo" "[I" ∈ tlG := tl_at 136 rfl rfl
set_option maxRecDepth 100000 in
theorem kc_24 : Cond.fieldLink "LeastPaths$Search" 21 "LeastPaths$Search" "graph" "LLeastPaths$Graph;" ∈ tlG := tl_at 128 rfl rfl
set_option maxRecDepth 100000 in
theorem kc_25 : Cond.fieldLink "LeastPaths$Search" 25 "LeastPaths$Search" "against" "Z" ∈ tlG := tl_at 129 rfl rfl
set_option maxRecDepth 100000 in
theorem kc_26 : Cond.classLink "LeastPaths$Search" 29 "LeastPaths$Waiting" ∈ tlG := tl_at 104 rfl rfl
set_option maxRecDepth 100000 in
theorem kc_27 : Cond.initialized "LeastPaths$Waiting" ∈ tlG := tl_at 5 rfl rfl
set_option maxRecDepth 100000 in
theorem kc_28 : Cond.methodLink "LeastPaths$Search" 31 ⟨"LeastPaths$Waiting", "<init>", "(I)V"⟩ ∈ tlG := tl_at 106 rfl rfl
set_option maxRecDepth 100000 in
theorem kc_29 : Cond.instanceMethod ⟨"LeastPaths$Waiting", "<init>", "(I)V"⟩ ∈ tlG := tl_at 107 rfl rfl
set_option maxRecDepth 100000 in
theorem kc_30 : Cond.code ⟨"LeastPaths$Waiting", "<init>", "(I)V"⟩ prog_8_method_1_code 2 (Option.none : Option Jvm.ClassFile.FieldType) ∈ tlG := tl_at 108 rfl rfl
set_option maxRecDepth 100000 in
theorem kc_31 : Cond.fieldLink "LeastPaths$Search" 34 "LeastPaths$Search" "waiting" "LLeastPaths$Waiting;" ∈ tlG := tl_at 130 rfl rfl
set_option maxRecDepth 100000 in
theorem kc_32 : Cond.methodLink "LeastPaths$BothSides" 3 ⟨"java/lang/Object", "<init>", "()V"⟩ ∈ tlG := tl_at 175 rfl rfl
set_option maxRecDepth 100000 in
theorem kc_33 : Cond.fieldLink "LeastPaths$BothSides" 9 "LeastPaths$BothSides" "ahead" "LLeastPaths$Search;" ∈ tlG := tl_at 176 rfl rfl
set_option maxRecDepth 100000 in
theorem kc_34 : Cond.fieldLink "LeastPaths$BothSides" 15 "LeastPaths$BothSides" "back" "LLeastPaths$Search;" ∈ tlG := tl_at 177 rfl rfl
set_option maxRecDepth 100000 in
theorem kc_35 : Cond.methodLink "LeastPaths$Rings" 3 ⟨"java/lang/Object", "<init>", "()V"⟩ ∈ tlG := tl_at 256 rfl rfl
set_option maxRecDepth 100000 in
theorem kc_36 : Cond.classLink "LeastPaths$Rings" 9 "LeastPaths$Way" ∈ tlG := tl_at 257 rfl rfl
set_option maxRecDepth 100000 in
theorem kc_37 : Cond.initialized "LeastPaths$Way" ∈ tlG := tl_at 8 rfl rfl
set_option maxRecDepth 100000 in
theorem kc_38 : Cond.instanceMethod ⟨"LeastPaths$Way", "<init>", "()V"⟩ ∈ tlG := tl_at 197 rfl rfl
set_option maxRecDepth 100000 in
theorem kc_39 : Cond.code ⟨"LeastPaths$Way", "<init>", "()V"⟩ prog_9_method_1_code 1 (Option.none : Option Jvm.ClassFile.FieldType) ∈ tlG := tl_at 198 rfl rfl
set_option maxRecDepth 100000 in
theorem kc_40 : Cond.fieldLink "LeastPaths$Rings" 12 "LeastPaths$Rings" "least" "LLeastPaths$Way;" ∈ tlG := tl_at 261 rfl rfl
set_option maxRecDepth 100000 in
theorem kc_41 : Cond.fieldLink "LeastPaths$Rings" 18 "LeastPaths$Rings" "graph" "LLeastPaths$Graph;" ∈ tlG := tl_at 259 rfl rfl
set_option maxRecDepth 100000 in
theorem kc_42 : Cond.fieldLink "LeastPaths$Rings" 22 "LeastPaths$Rings" "back" "LLeastPaths$Search;" ∈ tlG := tl_at 260 rfl rfl
set_option maxRecDepth 100000 in
theorem kc_43 : Cond.methodLink "LeastPaths$Widths" 3 ⟨"java/lang/Object", "<init>", "()V"⟩ ∈ tlG := tl_at 275 rfl rfl
set_option maxRecDepth 100000 in
theorem kc_44 : Cond.fieldLink "LeastPaths$Widths" 9 "LeastPaths$Widths" "width" "[I" ∈ tlG := tl_at 277 rfl rfl
set_option maxRecDepth 100000 in
theorem kc_45 : Cond.fieldLink "LeastPaths$Widths" 15 "LeastPaths$Widths" "graph" "LLeastPaths$Graph;" ∈ tlG := tl_at 276 rfl rfl
set_option maxRecDepth 100000 in
theorem kc_46 : Cond.methodLink "LeastPaths$Trusts" 3 ⟨"java/lang/Object", "<init>", "()V"⟩ ∈ tlG := tl_at 289 rfl rfl
set_option maxRecDepth 100000 in
theorem kc_47 : Cond.fieldLink "LeastPaths$Trusts" 9 "LeastPaths$Trusts" "above" "[J" ∈ tlG := tl_at 291 rfl rfl
set_option maxRecDepth 100000 in
theorem kc_48 : Cond.fieldLink "LeastPaths$Trusts" 15 "LeastPaths$Trusts" "below" "[J" ∈ tlG := tl_at 292 rfl rfl
set_option maxRecDepth 100000 in
theorem kc_49 : Cond.fieldLink "LeastPaths$Trusts" 18 "LeastPaths$Trusts" "graph" "LLeastPaths$Graph;" ∈ tlG := tl_at 290 rfl rfl
set_option maxRecDepth 100000 in
theorem kc_50 : Cond.methodLink "LeastPaths$Row" 3 ⟨"java/lang/Object", "<init>", "()V"⟩ ∈ tlG := tl_at 192 rfl rfl
set_option maxRecDepth 100000 in
theorem kc_51 : Cond.classLink "LeastPaths$Row" 9 "LeastPaths$Way" ∈ tlG := tl_at 193 rfl rfl
set_option maxRecDepth 100000 in
theorem kc_52 : Cond.fieldLink "LeastPaths$Row" 11 "LeastPaths$Row" "ways" "[LLeastPaths$Way;" ∈ tlG := tl_at 226 rfl rfl
set_option maxRecDepth 100000 in
theorem kc_53 : Cond.fieldLink "LeastPaths$Row" 18 "LeastPaths$Row" "nothing" "LLeastPaths$Way;" ∈ tlG := tl_at 228 rfl rfl
set_option maxRecDepth 100000 in
theorem kc_54 : Cond.fieldLink "LeastPaths$Row" 22 "LeastPaths$Row" "graph" "LLeastPaths$Graph;" ∈ tlG := tl_at 224 rfl rfl
set_option maxRecDepth 100000 in
theorem kc_55 : Cond.fieldLink "LeastPaths$Row" 26 "LeastPaths$Row" "back" "LLeastPaths$Search;" ∈ tlG := tl_at 225 rfl rfl
set_option maxRecDepth 100000 in
theorem kc_56 : Cond.methodLink "LeastPaths" 3 ⟨"java/lang/Object", "<init>", "()V"⟩ ∈ tlG := tl_at 19 rfl rfl
set_option maxRecDepth 100000 in
theorem kc_57 : Cond.methodLink "LeastPaths" 11 ⟨"java/lang/Math", "max", "(II)I"⟩ ∈ tlG := tl_at 22 rfl rfl
set_option maxRecDepth 100000 in
theorem kc_58 : Cond.methodLink "LeastPaths" 17 ⟨"java/lang/Math", "min", "(II)I"⟩ ∈ tlG := tl_at 25 rfl rfl
set_option maxRecDepth 100000 in
theorem kc_59 : Cond.static ⟨"java/lang/Math", "min", "(II)I"⟩ ∈ tlG := tl_at 26 rfl rfl
set_option maxRecDepth 100000 in
theorem kc_60 : Cond.code ⟨"java/lang/Math", "min", "(II)I"⟩ prog_14_method_69_code 2 (Option.some Jvm.ClassFile.FieldType.int) ∈ tlG := tl_at 27 rfl rfl
set_option maxRecDepth 100000 in
theorem kc_61 : Cond.fieldLink "LeastPaths" 20 "LeastPaths" "heap" "I" ∈ tlG := tl_at 300 rfl rfl
set_option maxRecDepth 100000 in
theorem kc_62 : Cond.classLink "LeastPaths" 24 "LeastPaths$Graph" ∈ tlG := tl_at 28 rfl rfl
set_option maxRecDepth 100000 in
theorem kc_63 : Cond.initialized "LeastPaths$Graph" ∈ tlG := tl_at 3 rfl rfl
set_option maxRecDepth 100000 in
theorem kc_64 : Cond.instanceMethod ⟨"LeastPaths$Graph", "<init>", "()V"⟩ ∈ tlG := tl_at 31 rfl rfl
set_option maxRecDepth 100000 in
theorem kc_65 : Cond.code ⟨"LeastPaths$Graph", "<init>", "()V"⟩ prog_3_method_1_code 1 (Option.none : Option Jvm.ClassFile.FieldType) ∈ tlG := tl_at 32 rfl rfl
set_option maxRecDepth 100000 in
theorem kc_66 : Cond.fieldLink "LeastPaths" 27 "LeastPaths" "graph" "LLeastPaths$Graph;" ∈ tlG := tl_at 301 rfl rfl
set_option maxRecDepth 100000 in
theorem kc_67 : Cond.classLink "LeastPaths" 31 "LeastPaths$Search" ∈ tlG := tl_at 98 rfl rfl
set_option maxRecDepth 100000 in
theorem kc_68 : Cond.initialized "LeastPaths$Search" ∈ tlG := tl_at 4 rfl rfl
set_option maxRecDepth 100000 in
theorem kc_69 : Cond.methodLink "LeastPaths" 33 ⟨"LeastPaths$Search", "<init>", "(LLeastPaths$Graph;ZI)V"⟩ ∈ tlG := tl_at 100 rfl rfl
set_option maxRecDepth 100000 in
theorem kc_70 : Cond.instanceMethod ⟨"LeastPaths$Search", "<init>", "(LLeastPaths$Graph;ZI)V"⟩ ∈ tlG := tl_at 101 rfl rfl
set_option maxRecDepth 100000 in
theorem kc_71 : Cond.code ⟨"LeastPaths$Search", "<init>", "(LLeastPaths$Graph;ZI)V"⟩ prog_6_method_1_code 4 (Option.none : Option Jvm.ClassFile.FieldType) ∈ tlG := tl_at 102 rfl rfl
set_option maxRecDepth 100000 in
theorem kc_72 : Cond.fieldLink "LeastPaths" 36 "LeastPaths" "ahead" "LLeastPaths$Search;" ∈ tlG := tl_at 302 rfl rfl
set_option maxRecDepth 100000 in
theorem kc_73 : Cond.fieldLink "LeastPaths" 40 "LeastPaths" "back" "LLeastPaths$Search;" ∈ tlG := tl_at 303 rfl rfl
set_option maxRecDepth 100000 in
theorem kc_74 : Cond.classLink "LeastPaths" 43 "LeastPaths$BothSides" ∈ tlG := tl_at 170 rfl rfl
set_option maxRecDepth 100000 in
theorem kc_75 : Cond.initialized "LeastPaths$BothSides" ∈ tlG := tl_at 6 rfl rfl
set_option maxRecDepth 100000 in
theorem kc_76 : Cond.methodLink "LeastPaths" 45 ⟨"LeastPaths$BothSides", "<init>", "(LLeastPaths$Search;LLeastPaths$Search;)V"⟩ ∈ tlG := tl_at 172 rfl rfl
set_option maxRecDepth 100000 in
theorem kc_77 : Cond.instanceMethod ⟨"LeastPaths$BothSides", "<init>", "(LLeastPaths$Search;LLeastPaths$Search;)V"⟩ ∈ tlG := tl_at 173 rfl rfl
set_option maxRecDepth 100000 in
theorem kc_78 : Cond.code ⟨"LeastPaths$BothSides", "<init>", "(LLeastPaths$Search;LLeastPaths$Search;)V"⟩ prog_2_method_1_code 3 (Option.none : Option Jvm.ClassFile.FieldType) ∈ tlG := tl_at 174 rfl rfl
set_option maxRecDepth 100000 in
theorem kc_79 : Cond.fieldLink "LeastPaths" 48 "LeastPaths" "sides" "LLeastPaths$BothSides;" ∈ tlG := tl_at 304 rfl rfl
set_option maxRecDepth 100000 in
theorem kc_80 : Cond.classLink "LeastPaths" 52 "LeastPaths$Row" ∈ tlG := tl_at 187 rfl rfl
set_option maxRecDepth 100000 in
theorem kc_81 : Cond.initialized "LeastPaths$Row" ∈ tlG := tl_at 7 rfl rfl
set_option maxRecDepth 100000 in
theorem kc_82 : Cond.methodLink "LeastPaths" 54 ⟨"LeastPaths$Row", "<init>", "(LLeastPaths$Graph;LLeastPaths$Search;)V"⟩ ∈ tlG := tl_at 189 rfl rfl
set_option maxRecDepth 100000 in
theorem kc_83 : Cond.instanceMethod ⟨"LeastPaths$Row", "<init>", "(LLeastPaths$Graph;LLeastPaths$Search;)V"⟩ ∈ tlG := tl_at 190 rfl rfl
set_option maxRecDepth 100000 in
theorem kc_84 : Cond.code ⟨"LeastPaths$Row", "<init>", "(LLeastPaths$Graph;LLeastPaths$Search;)V"⟩ prog_5_method_1_code 4 (Option.none : Option Jvm.ClassFile.FieldType) ∈ tlG := tl_at 191 rfl rfl
set_option maxRecDepth 100000 in
theorem kc_85 : Cond.fieldLink "LeastPaths" 57 "LeastPaths" "row" "LLeastPaths$Row;" ∈ tlG := tl_at 305 rfl rfl
set_option maxRecDepth 100000 in
theorem kc_86 : Cond.classLink "LeastPaths" 61 "LeastPaths$Rings" ∈ tlG := tl_at 251 rfl rfl
set_option maxRecDepth 100000 in
theorem kc_87 : Cond.initialized "LeastPaths$Rings" ∈ tlG := tl_at 9 rfl rfl
set_option maxRecDepth 100000 in
theorem kc_88 : Cond.methodLink "LeastPaths" 63 ⟨"LeastPaths$Rings", "<init>", "(LLeastPaths$Graph;LLeastPaths$Search;)V"⟩ ∈ tlG := tl_at 253 rfl rfl
set_option maxRecDepth 100000 in
theorem kc_89 : Cond.instanceMethod ⟨"LeastPaths$Rings", "<init>", "(LLeastPaths$Graph;LLeastPaths$Search;)V"⟩ ∈ tlG := tl_at 254 rfl rfl
set_option maxRecDepth 100000 in
theorem kc_90 : Cond.code ⟨"LeastPaths$Rings", "<init>", "(LLeastPaths$Graph;LLeastPaths$Search;)V"⟩ prog_4_method_1_code 3 (Option.none : Option Jvm.ClassFile.FieldType) ∈ tlG := tl_at 255 rfl rfl
set_option maxRecDepth 100000 in
theorem kc_91 : Cond.fieldLink "LeastPaths" 64 "LeastPaths" "rings" "LLeastPaths$Rings;" ∈ tlG := tl_at 306 rfl rfl
set_option maxRecDepth 100000 in
theorem kc_92 : Cond.classLink "LeastPaths" 68 "LeastPaths$Widths" ∈ tlG := tl_at 270 rfl rfl
set_option maxRecDepth 100000 in
theorem kc_93 : Cond.initialized "LeastPaths$Widths" ∈ tlG := tl_at 10 rfl rfl
set_option maxRecDepth 100000 in
theorem kc_94 : Cond.methodLink "LeastPaths" 70 ⟨"LeastPaths$Widths", "<init>", "(LLeastPaths$Graph;)V"⟩ ∈ tlG := tl_at 272 rfl rfl
set_option maxRecDepth 100000 in
theorem kc_95 : Cond.instanceMethod ⟨"LeastPaths$Widths", "<init>", "(LLeastPaths$Graph;)V"⟩ ∈ tlG := tl_at 273 rfl rfl
set_option maxRecDepth 100000 in
theorem kc_96 : Cond.code ⟨"LeastPaths$Widths", "<init>", "(LLeastPaths$Graph;)V"⟩ prog_10_method_1_code 2 (Option.none : Option Jvm.ClassFile.FieldType) ∈ tlG := tl_at 274 rfl rfl
set_option maxRecDepth 100000 in
theorem kc_97 : Cond.fieldLink "LeastPaths" 73 "LeastPaths" "widths" "LLeastPaths$Widths;" ∈ tlG := tl_at 307 rfl rfl
set_option maxRecDepth 100000 in
theorem kc_98 : Cond.classLink "LeastPaths" 77 "LeastPaths$Trusts" ∈ tlG := tl_at 284 rfl rfl
set_option maxRecDepth 100000 in
theorem kc_99 : Cond.initialized "LeastPaths$Trusts" ∈ tlG := tl_at 11 rfl rfl
set_option maxRecDepth 100000 in
theorem kc_100 : Cond.methodLink "LeastPaths" 79 ⟨"LeastPaths$Trusts", "<init>", "(LLeastPaths$Graph;)V"⟩ ∈ tlG := tl_at 286 rfl rfl
set_option maxRecDepth 100000 in
theorem kc_101 : Cond.instanceMethod ⟨"LeastPaths$Trusts", "<init>", "(LLeastPaths$Graph;)V"⟩ ∈ tlG := tl_at 287 rfl rfl
set_option maxRecDepth 100000 in
theorem kc_102 : Cond.code ⟨"LeastPaths$Trusts", "<init>", "(LLeastPaths$Graph;)V"⟩ prog_7_method_1_code 2 (Option.none : Option Jvm.ClassFile.FieldType) ∈ tlG := tl_at 288 rfl rfl
set_option maxRecDepth 100000 in
theorem kc_103 : Cond.fieldLink "LeastPaths" 80 "LeastPaths" "trusts" "LLeastPaths$Trusts;" ∈ tlG := tl_at 308 rfl rfl
set_option maxRecDepth 100000 in
theorem kc_104 : Cond.methodLink "LeastPathsModel" 1 ⟨"java/lang/Object", "<init>", "()V"⟩ ∈ tlG := tl_at 695 rfl rfl
set_option maxRecDepth 100000 in
theorem kc_105 : Cond.fieldLink "LeastPathsModel" 7 "LeastPathsModel" "from" "[I" ∈ tlG := tl_at 699 rfl rfl
set_option maxRecDepth 100000 in
theorem kc_106 : Cond.fieldLink "LeastPathsModel" 13 "LeastPathsModel" "to" "[I" ∈ tlG := tl_at 700 rfl rfl
set_option maxRecDepth 100000 in
theorem kc_107 : Cond.fieldLink "LeastPathsModel" 16 "LeastPathsModel" "weight" "[I" ∈ tlG := tl_at 701 rfl rfl
set_option maxRecDepth 100000 in
theorem kc_108 : Cond.fieldLink "LeastPathsModel" 19 "LeastPathsModel" "above" "[I" ∈ tlG := tl_at 702 rfl rfl
set_option maxRecDepth 100000 in
theorem kc_109 : Cond.fieldLink "LeastPathsModel" 22 "LeastPathsModel" "below" "[I" ∈ tlG := tl_at 703 rfl rfl
set_option maxRecDepth 100000 in
theorem kc_110 : Cond.fieldLink "LeastPathsModel" 25 "LeastPathsModel" "alive" "[Z" ∈ tlG := tl_at 704 rfl rfl
set_option maxRecDepth 100000 in
theorem kc_111 : Cond.fieldLink "LeastPathsModel" 29 "LeastPathsModel" "isSource" "[Z" ∈ tlG := tl_at 705 rfl rfl
set_option maxRecDepth 100000 in
theorem kc_112 : Cond.fieldLink "LeastPathsModel" 32 "LeastPathsModel" "rests" "[I" ∈ tlG := tl_at 706 rfl rfl
set_option maxRecDepth 100000 in
theorem kc_113 : Cond.fieldLink "LeastPathsModel" 35 "LeastPathsModel" "far" "[I" ∈ tlG := tl_at 707 rfl rfl
set_option maxRecDepth 100000 in
theorem kc_114 : Cond.fieldLink "LeastPathsModel" 38 "LeastPathsModel" "hop" "[I" ∈ tlG := tl_at 708 rfl rfl
set_option maxRecDepth 100000 in
theorem kc_115 : Cond.fieldLink "LeastPathsModel" 41 "LeastPathsModel" "many" "[I" ∈ tlG := tl_at 709 rfl rfl
set_option maxRecDepth 100000 in
theorem kc_116 : Cond.fieldLink "LeastPathsModel" 44 "LeastPathsModel" "number" "[I" ∈ tlG := tl_at 710 rfl rfl
set_option maxRecDepth 100000 in
theorem kc_117 : Cond.fieldLink "LeastPathsModel" 47 "LeastPathsModel" "settled" "[Z" ∈ tlG := tl_at 711 rfl rfl
set_option maxRecDepth 100000 in
theorem kc_118 : Cond.fieldLink "LeastPathsModel" 50 "LeastPathsModel" "path" "[I" ∈ tlG := tl_at 712 rfl rfl
set_option maxRecDepth 100000 in
theorem kc_119 : Cond.fieldLink "LeastPathsModel" 53 "LeastPathsModel" "tried" "[I" ∈ tlG := tl_at 713 rfl rfl
set_option maxRecDepth 100000 in
theorem kc_120 : Cond.fieldLink "LeastPathsModel" 56 "LeastPathsModel" "place" "[I" ∈ tlG := tl_at 714 rfl rfl
set_option maxRecDepth 100000 in
theorem kc_121 : Cond.fieldLink "LeastPathsModel" 59 "LeastPathsModel" "rowFrom" "I" ∈ tlG := tl_at 717 rfl rfl
set_option maxRecDepth 100000 in
theorem kc_122 : Cond.fieldLink "LeastPathsModel" 63 "LeastPathsModel" "rowLength" "[I" ∈ tlG := tl_at 720 rfl rfl
set_option maxRecDepth 100000 in
theorem kc_123 : Cond.fieldLink "LeastPathsModel" 66 "LeastPathsModel" "rowSize" "[I" ∈ tlG := tl_at 721 rfl rfl
set_option maxRecDepth 100000 in
theorem kc_124 : Cond.fieldLink "LeastPathsModel" 69 "LeastPathsModel" "rowArcs" "[I" ∈ tlG := tl_at 722 rfl rfl
set_option maxRecDepth 100000 in
theorem kc_125 : Cond.fieldLink "LeastPathsModel" 72 "LeastPathsModel" "over" "[J" ∈ tlG := tl_at 723 rfl rfl
set_option maxRecDepth 100000 in
theorem kc_126 : Cond.fieldLink "LeastPathsModel" 76 "LeastPathsModel" "under" "[J" ∈ tlG := tl_at 724 rfl rfl
set_option maxRecDepth 100000 in
theorem kc_127 : Cond.fieldLink "LeastPathsModel" 79 "LeastPathsModel" "ringPath" "[I" ∈ tlG := tl_at 727 rfl rfl
set_option maxRecDepth 100000 in
theorem kc_128 : Cond.fieldLink "LeastPathsModel" 82 "LeastPathsModel" "heap" "I" ∈ tlG := tl_at 696 rfl rfl
set_option maxRecDepth 100000 in
theorem ka_int : Cond.arrayClass .int ∈ tlG := tl_at 97 rfl rfl
set_option maxRecDepth 100000 in
theorem ka_long : Cond.arrayClass .long ∈ tlG := tl_at 127 rfl rfl
set_option maxRecDepth 100000 in
theorem kn_Wa : Cond.instantiable "LeastPaths$Waiting" 5 ∈ tlG := tl_at 105 rfl rfl
set_option maxRecDepth 100000 in
theorem kd_Wa : ∀ j, j < 5 → defaultValue (ty_Wa j) = vp_V (List.map mV0 [0, 2, 2, 2, 0]) j := by
  intro j hj
  match j, hj with
  | 0, _ => rfl
  | 1, _ => rfl
  | 2, _ => rfl
  | 3, _ => rfl
  | 4, _ => rfl
  | k + 5, h => omega
set_option maxRecDepth 100000 in
theorem kn_Wy : Cond.instantiable "LeastPaths$Way" 5 ∈ tlG := tl_at 195 rfl rfl
set_option maxRecDepth 100000 in
theorem kd_Wy : ∀ j, j < 5 → defaultValue (ty_Wy j) = vp_V (List.map mV0 [2, 0, 0, 0, 1]) j := by
  intro j hj
  match j, hj with
  | 0, _ => rfl
  | 1, _ => rfl
  | 2, _ => rfl
  | 3, _ => rfl
  | 4, _ => rfl
  | k + 5, h => omega
set_option maxRecDepth 100000 in
theorem kn_Gr : Cond.instantiable "LeastPaths$Graph" 10 ∈ tlG := tl_at 29 rfl rfl
set_option maxRecDepth 100000 in
theorem kd_Gr : ∀ j, j < 10 → defaultValue (ty_Gr j) = vp_V (List.map mV0 [2, 2, 2, 2, 2, 2, 0, 0, 1, 0]) j := by
  intro j hj
  match j, hj with
  | 0, _ => rfl
  | 1, _ => rfl
  | 2, _ => rfl
  | 3, _ => rfl
  | 4, _ => rfl
  | 5, _ => rfl
  | 6, _ => rfl
  | 7, _ => rfl
  | 8, _ => rfl
  | 9, _ => rfl
  | k + 10, h => omega
set_option maxRecDepth 100000 in
theorem kn_Se : Cond.instantiable "LeastPaths$Search" 12 ∈ tlG := tl_at 99 rfl rfl
set_option maxRecDepth 100000 in
theorem kd_Se : ∀ j, j < 12 → defaultValue (ty_Se j) = vp_V (List.map mV0 [2, 0, 2, 2, 2, 2, 0, 0, 0, 1, 0, 0]) j := by
  intro j hj
  match j, hj with
  | 0, _ => rfl
  | 1, _ => rfl
  | 2, _ => rfl
  | 3, _ => rfl
  | 4, _ => rfl
  | 5, _ => rfl
  | 6, _ => rfl
  | 7, _ => rfl
  | 8, _ => rfl
  | 9, _ => rfl
  | 10, _ => rfl
  | 11, _ => rfl
  | k + 12, h => omega
set_option maxRecDepth 100000 in
theorem kn_BS : Cond.instantiable "LeastPaths$BothSides" 3 ∈ tlG := tl_at 171 rfl rfl
set_option maxRecDepth 100000 in
theorem kd_BS : ∀ j, j < 3 → defaultValue (ty_BS j) = vp_V (List.map mV0 [2, 2, 0]) j := by
  intro j hj
  match j, hj with
  | 0, _ => rfl
  | 1, _ => rfl
  | 2, _ => rfl
  | k + 3, h => omega
set_option maxRecDepth 100000 in
theorem kn_Rw : Cond.instantiable "LeastPaths$Row" 8 ∈ tlG := tl_at 188 rfl rfl
set_option maxRecDepth 100000 in
theorem kd_Rw : ∀ j, j < 8 → defaultValue (ty_Rw j) = vp_V (List.map mV0 [2, 2, 2, 2, 0, 0, 0, 0]) j := by
  intro j hj
  match j, hj with
  | 0, _ => rfl
  | 1, _ => rfl
  | 2, _ => rfl
  | 3, _ => rfl
  | 4, _ => rfl
  | 5, _ => rfl
  | 6, _ => rfl
  | 7, _ => rfl
  | k + 8, h => omega
set_option maxRecDepth 100000 in
theorem kn_Rg : Cond.instantiable "LeastPaths$Rings" 3 ∈ tlG := tl_at 252 rfl rfl
set_option maxRecDepth 100000 in
theorem kd_Rg : ∀ j, j < 3 → defaultValue (ty_Rg j) = vp_V (List.map mV0 [2, 2, 2]) j := by
  intro j hj
  match j, hj with
  | 0, _ => rfl
  | 1, _ => rfl
  | 2, _ => rfl
  | k + 3, h => omega
set_option maxRecDepth 100000 in
theorem kn_Wi : Cond.instantiable "LeastPaths$Widths" 2 ∈ tlG := tl_at 271 rfl rfl
set_option maxRecDepth 100000 in
theorem kd_Wi : ∀ j, j < 2 → defaultValue (ty_Wi j) = vp_V (List.map mV0 [2, 2]) j := by
  intro j hj
  match j, hj with
  | 0, _ => rfl
  | 1, _ => rfl
  | k + 2, h => omega
set_option maxRecDepth 100000 in
theorem kn_Tr : Cond.instantiable "LeastPaths$Trusts" 3 ∈ tlG := tl_at 285 rfl rfl
set_option maxRecDepth 100000 in
theorem kd_Tr : ∀ j, j < 3 → defaultValue (ty_Tr j) = vp_V (List.map mV0 [2, 2, 2]) j := by
  intro j hj
  match j, hj with
  | 0, _ => rfl
  | 1, _ => rfl
  | 2, _ => rfl
  | k + 3, h => omega
set_option maxRecDepth 100000 in
theorem ka_boolean : Cond.arrayClass .boolean ∈ tlG := tl_at 793 rfl rfl
end
section
theorem d_Gr_init_0 : decode prog_3_method_1_code 0 = .ok (.aload_n 0, 1) := by decide +kernel
theorem d_Gr_init_1 : decode prog_3_method_1_code 1 = .ok (.invokespecial 3, 3) := by decide +kernel
theorem d_Gr_init_4 : decode prog_3_method_1_code 4 = .ok (.aload_n 0, 1) := by decide +kernel
theorem d_Gr_init_5 : decode prog_3_method_1_code 5 = .ok (.bipush 40, 2) := by decide +kernel
theorem d_Gr_init_7 : decode prog_3_method_1_code 7 = .ok (.newarray .int, 2) := by decide +kernel
theorem d_Gr_init_9 : decode prog_3_method_1_code 9 = .ok (.putfield 9, 3) := by decide +kernel
theorem d_Gr_init_12 : decode prog_3_method_1_code 12 = .ok (.aload_n 0, 1) := by decide +kernel
theorem d_Gr_init_13 : decode prog_3_method_1_code 13 = .ok (.bipush 40, 2) := by decide +kernel
theorem d_Gr_init_15 : decode prog_3_method_1_code 15 = .ok (.newarray .int, 2) := by decide +kernel
theorem d_Gr_init_17 : decode prog_3_method_1_code 17 = .ok (.putfield 15, 3) := by decide +kernel
theorem d_Gr_init_20 : decode prog_3_method_1_code 20 = .ok (.aload_n 0, 1) := by decide +kernel
theorem d_Gr_init_21 : decode prog_3_method_1_code 21 = .ok (.bipush 40, 2) := by decide +kernel
theorem d_Gr_init_23 : decode prog_3_method_1_code 23 = .ok (.newarray .int, 2) := by decide +kernel
theorem d_Gr_init_25 : decode prog_3_method_1_code 25 = .ok (.putfield 18, 3) := by decide +kernel
theorem d_Gr_init_28 : decode prog_3_method_1_code 28 = .ok (.aload_n 0, 1) := by decide +kernel
theorem d_Gr_init_29 : decode prog_3_method_1_code 29 = .ok (.bipush 40, 2) := by decide +kernel
theorem d_Gr_init_31 : decode prog_3_method_1_code 31 = .ok (.newarray .int, 2) := by decide +kernel
theorem d_Gr_init_33 : decode prog_3_method_1_code 33 = .ok (.putfield 21, 3) := by decide +kernel
theorem d_Gr_init_36 : decode prog_3_method_1_code 36 = .ok (.aload_n 0, 1) := by decide +kernel
theorem d_Gr_init_37 : decode prog_3_method_1_code 37 = .ok (.bipush 40, 2) := by decide +kernel
theorem d_Gr_init_39 : decode prog_3_method_1_code 39 = .ok (.newarray .int, 2) := by decide +kernel
theorem d_Gr_init_41 : decode prog_3_method_1_code 41 = .ok (.putfield 24, 3) := by decide +kernel
theorem d_Gr_init_44 : decode prog_3_method_1_code 44 = .ok (.aload_n 0, 1) := by decide +kernel
theorem d_Gr_init_45 : decode prog_3_method_1_code 45 = .ok (.bipush 10, 2) := by decide +kernel
theorem d_Gr_init_47 : decode prog_3_method_1_code 47 = .ok (.newarray .int, 2) := by decide +kernel
theorem d_Gr_init_49 : decode prog_3_method_1_code 49 = .ok (.putfield 27, 3) := by decide +kernel
theorem d_Gr_init_52 : decode prog_3_method_1_code 52 = .ok (.return_, 1) := by decide +kernel
def rm_Gr_init : Room := { frames := 1, cells := 6, slots := 210, locals := 12 }
def g_Gr (σ : mS) : mS := (sQ (sQ (sQ (sQ (sQ (sQ σ 1 0 (some 2)) 1 1 (some 3)) 1 2 (some 4)) 1 3 (some 5)) 1 4 (some 6)) 1 5 (some 7))
theorem gi_Gr {σ : mS} (hI : mI (2) σ) : mI (8) (g_Gr σ) := by
  have hI := mI_up hI
  have hI := mI_sQ (k := 1) (j := 0) (y := 2) hI (by omega) (by omega)
  have hI := mI_up hI
  have hI := mI_sQ (k := 1) (j := 1) (y := 3) hI (by omega) (by omega)
  have hI := mI_up hI
  have hI := mI_sQ (k := 1) (j := 2) (y := 4) hI (by omega) (by omega)
  have hI := mI_up hI
  have hI := mI_sQ (k := 1) (j := 3) (y := 5) hI (by omega) (by omega)
  have hI := mI_up hI
  have hI := mI_sQ (k := 1) (j := 4) (y := 6) hI (by omega) (by omega)
  have hI := mI_up hI
  have hI := mI_sQ (k := 1) (j := 5) (y := 7) hI (by omega) (by omega)
  exact hI
set_option maxHeartbeats 4000000 in
set_option maxRecDepth 100000 in
theorem c_Gr_init (l : Launch) (D : va_G) (cA ad : Nat → Nat) (σ : mS) (hI : mI (2) σ) (h0 : Nat) (e0 : ad (1) = h0) : mCn l ⟨"LeastPaths$Graph", "<init>", "()V"⟩ (Cond.code ⟨"LeastPaths$Graph", "<init>", "()V"⟩ prog_3_method_1_code 1 none :: tlG) rm_Gr_init D clX (tyK cA) (tbC cA) (2) ad σ [.ref h0] (8) (g_Gr σ) 6 210 := by
  intro sz
  refine m_ofN (cc := prog_3_method_1_code) (maxL := 1) (ret := none) (Qc := mQn D clX (tyK cA) (tbC cA) (2) ad (8) (g_Gr σ)) (by decide) (Nat.le_of_ble_eq_true rfl) (fun p e s m args below meth c ls S hr hlk hnm hl N M => ?_) sz
  have hl : lv_has ls 1 [(0, .ref h0)] := hl
  have hA : ∀ q, s.heap.size ≤ q → mA (2) ad s.heap.size q := fun q h => Or.inr h
  have G : ∀ k, k < 2 → ad k = ad k := fun _ _ => rfl
  refine lv_aload_n S.1 S.2.1 d_Gr_init_0 rfl (lv_at hl 0 rfl) ?_
  refine W.objInit S.1 S.2.1 S.2.2.2.1 (S.2.2.2.2 _ kc_0) (S.2.2.2.2 _ kc_1) (S.2.2.2.2 _ kc_2) rfl (hl.1.trans S.2.2.1.symm) rfl d_Gr_init_1 (Nat.le_of_ble_eq_true rfl) (Nat.le_of_ble_eq_true rfl) ?_
  refine W.eq (g2 := F0 m 4 ls []) rfl ?_
  refine lv_aload_n S.1 S.2.1 d_Gr_init_4 rfl (lv_at hl 0 rfl) ?_
  refine lv_bipush (v := 40) S.1 S.2.1 d_Gr_init_5 (by decide) ?_
  refine m_newa (atype := .int) (N := 40) (tg := 0) (k0 := 0) S M hI (tC_dy cA) hA ka_int rfl rfl rfl (fun _ h => by cases h) (fun _ => rfl) (by decide) (by decide) (by decide) (by decide) (Nat.le_of_ble_eq_true rfl) (Nat.le_of_ble_eq_true rfl) d_Gr_init_7 (fun q ad1 H g1 f M => ?_)
  subst f
  have hI := mI_up hI
  have G : ∀ k, k < 2 → ad1 k = ad k := fun k hk => (g1 k (by omega)).trans (G k hk)
  have f1 : ad1 (2) = ad1 (2) := rfl
  refine m_nQ (k := 1) (y := 2) (j := 0) S M ok_Gr ((G (1) (by omega)).trans e0) f1 (by omega) rfl (by decide) rfl kc_3 rfl rfl hnm rfl rfl d_Gr_init_9 (fun H locs M => ?_)
  have hI := mI_sQ (k := 1) (j := 0) (y := 2) hI (by omega) (by omega)
  refine lv_aload_n S.1 S.2.1 d_Gr_init_12 rfl (lv_at hl 0 rfl) ?_
  refine lv_bipush (v := 40) S.1 S.2.1 d_Gr_init_13 (by decide) ?_
  refine m_newa (atype := .int) (N := 40) (tg := 0) (k0 := 0) S M hI (tC_dy cA) hA ka_int rfl rfl rfl (fun _ h => by cases h) (fun _ => rfl) (by decide) (by decide) (by decide) (by decide) (Nat.le_of_ble_eq_true rfl) (Nat.le_of_ble_eq_true rfl) d_Gr_init_15 (fun q ad2 H g2 f M => ?_)
  subst f
  have hI := mI_up hI
  have G : ∀ k, k < 2 → ad2 k = ad k := fun k hk => (g2 k (by omega)).trans (G k hk)
  have f2 : ad2 (3) = ad2 (3) := rfl
  refine m_nQ (k := 1) (y := 3) (j := 1) S M ok_Gr ((G (1) (by omega)).trans e0) f2 (by omega) rfl (by decide) rfl kc_4 rfl rfl hnm rfl rfl d_Gr_init_17 (fun H locs M => ?_)
  have hI := mI_sQ (k := 1) (j := 1) (y := 3) hI (by omega) (by omega)
  refine lv_aload_n S.1 S.2.1 d_Gr_init_20 rfl (lv_at hl 0 rfl) ?_
  refine lv_bipush (v := 40) S.1 S.2.1 d_Gr_init_21 (by decide) ?_
  refine m_newa (atype := .int) (N := 40) (tg := 0) (k0 := 0) S M hI (tC_dy cA) hA ka_int rfl rfl rfl (fun _ h => by cases h) (fun _ => rfl) (by decide) (by decide) (by decide) (by decide) (Nat.le_of_ble_eq_true rfl) (Nat.le_of_ble_eq_true rfl) d_Gr_init_23 (fun q ad3 H g3 f M => ?_)
  subst f
  have hI := mI_up hI
  have G : ∀ k, k < 2 → ad3 k = ad k := fun k hk => (g3 k (by omega)).trans (G k hk)
  have f3 : ad3 (4) = ad3 (4) := rfl
  refine m_nQ (k := 1) (y := 4) (j := 2) S M ok_Gr ((G (1) (by omega)).trans e0) f3 (by omega) rfl (by decide) rfl kc_5 rfl rfl hnm rfl rfl d_Gr_init_25 (fun H locs M => ?_)
  have hI := mI_sQ (k := 1) (j := 2) (y := 4) hI (by omega) (by omega)
  refine lv_aload_n S.1 S.2.1 d_Gr_init_28 rfl (lv_at hl 0 rfl) ?_
  refine lv_bipush (v := 40) S.1 S.2.1 d_Gr_init_29 (by decide) ?_
  refine m_newa (atype := .int) (N := 40) (tg := 0) (k0 := 0) S M hI (tC_dy cA) hA ka_int rfl rfl rfl (fun _ h => by cases h) (fun _ => rfl) (by decide) (by decide) (by decide) (by decide) (Nat.le_of_ble_eq_true rfl) (Nat.le_of_ble_eq_true rfl) d_Gr_init_31 (fun q ad4 H g4 f M => ?_)
  subst f
  have hI := mI_up hI
  have G : ∀ k, k < 2 → ad4 k = ad k := fun k hk => (g4 k (by omega)).trans (G k hk)
  have f4 : ad4 (5) = ad4 (5) := rfl
  refine m_nQ (k := 1) (y := 5) (j := 3) S M ok_Gr ((G (1) (by omega)).trans e0) f4 (by omega) rfl (by decide) rfl kc_6 rfl rfl hnm rfl rfl d_Gr_init_33 (fun H locs M => ?_)
  have hI := mI_sQ (k := 1) (j := 3) (y := 5) hI (by omega) (by omega)
  refine lv_aload_n S.1 S.2.1 d_Gr_init_36 rfl (lv_at hl 0 rfl) ?_
  refine lv_bipush (v := 40) S.1 S.2.1 d_Gr_init_37 (by decide) ?_
  refine m_newa (atype := .int) (N := 40) (tg := 0) (k0 := 0) S M hI (tC_dy cA) hA ka_int rfl rfl rfl (fun _ h => by cases h) (fun _ => rfl) (by decide) (by decide) (by decide) (by decide) (Nat.le_of_ble_eq_true rfl) (Nat.le_of_ble_eq_true rfl) d_Gr_init_39 (fun q ad5 H g5 f M => ?_)
  subst f
  have hI := mI_up hI
  have G : ∀ k, k < 2 → ad5 k = ad k := fun k hk => (g5 k (by omega)).trans (G k hk)
  have f5 : ad5 (6) = ad5 (6) := rfl
  refine m_nQ (k := 1) (y := 6) (j := 4) S M ok_Gr ((G (1) (by omega)).trans e0) f5 (by omega) rfl (by decide) rfl kc_7 rfl rfl hnm rfl rfl d_Gr_init_41 (fun H locs M => ?_)
  have hI := mI_sQ (k := 1) (j := 4) (y := 6) hI (by omega) (by omega)
  refine lv_aload_n S.1 S.2.1 d_Gr_init_44 rfl (lv_at hl 0 rfl) ?_
  refine lv_bipush (v := 10) S.1 S.2.1 d_Gr_init_45 (by decide) ?_
  refine m_newa (atype := .int) (N := 10) (tg := 0) (k0 := 0) S M hI (tC_dy cA) hA ka_int rfl rfl rfl (fun _ h => by cases h) (fun _ => rfl) (by decide) (by decide) (by decide) (by decide) (Nat.le_of_ble_eq_true rfl) (Nat.le_of_ble_eq_true rfl) d_Gr_init_47 (fun q ad6 H g6 f M => ?_)
  subst f
  have hI := mI_up hI
  have G : ∀ k, k < 2 → ad6 k = ad k := fun k hk => (g6 k (by omega)).trans (G k hk)
  have f6 : ad6 (7) = ad6 (7) := rfl
  refine m_nQ (k := 1) (y := 7) (j := 5) S M ok_Gr ((G (1) (by omega)).trans e0) f6 (by omega) rfl (by decide) rfl kc_8 rfl rfl hnm rfl rfl d_Gr_init_49 (fun H locs M => ?_)
  have hI := mI_sQ (k := 1) (j := 5) (y := 7) hI (by omega) (by omega)
  exact m_nret S hr hlk G M d_Gr_init_52
end
section
theorem d_Wa_init_0 : decode prog_8_method_1_code 0 = .ok (.aload_n 0, 1) := by decide +kernel
theorem d_Wa_init_1 : decode prog_8_method_1_code 1 = .ok (.invokespecial 3, 3) := by decide +kernel
theorem d_Wa_init_4 : decode prog_8_method_1_code 4 = .ok (.aload_n 0, 1) := by decide +kernel
theorem d_Wa_init_5 : decode prog_8_method_1_code 5 = .ok (.bipush 10, 2) := by decide +kernel
theorem d_Wa_init_7 : decode prog_8_method_1_code 7 = .ok (.newarray .int, 2) := by decide +kernel
theorem d_Wa_init_9 : decode prog_8_method_1_code 9 = .ok (.putfield 9, 3) := by decide +kernel
theorem d_Wa_init_12 : decode prog_8_method_1_code 12 = .ok (.aload_n 0, 1) := by decide +kernel
theorem d_Wa_init_13 : decode prog_8_method_1_code 13 = .ok (.bipush 10, 2) := by decide +kernel
theorem d_Wa_init_15 : decode prog_8_method_1_code 15 = .ok (.newarray .int, 2) := by decide +kernel
theorem d_Wa_init_17 : decode prog_8_method_1_code 17 = .ok (.putfield 15, 3) := by decide +kernel
theorem d_Wa_init_20 : decode prog_8_method_1_code 20 = .ok (.aload_n 0, 1) := by decide +kernel
theorem d_Wa_init_21 : decode prog_8_method_1_code 21 = .ok (.bipush 10, 2) := by decide +kernel
theorem d_Wa_init_23 : decode prog_8_method_1_code 23 = .ok (.newarray .long, 2) := by decide +kernel
theorem d_Wa_init_25 : decode prog_8_method_1_code 25 = .ok (.putfield 18, 3) := by decide +kernel
theorem d_Wa_init_28 : decode prog_8_method_1_code 28 = .ok (.aload_n 0, 1) := by decide +kernel
theorem d_Wa_init_29 : decode prog_8_method_1_code 29 = .ok (.iconst 1, 1) := by decide +kernel
theorem d_Wa_init_30 : decode prog_8_method_1_code 30 = .ok (.iload_n 1, 1) := by decide +kernel
theorem d_Wa_init_31 : decode prog_8_method_1_code 31 = .ok (.invokestatic 22, 3) := by decide +kernel
theorem d_Wa_init_34 : decode prog_8_method_1_code 34 = .ok (.putfield 28, 3) := by decide +kernel
theorem d_Wa_init_37 : decode prog_8_method_1_code 37 = .ok (.return_, 1) := by decide +kernel
def rm_Wa_init : Room := { frames := 1, cells := 3, slots := 30, locals := 21 }
def g_Wa (b : Nat) (σ : mS) (x1 : Int32) : mS := (sI (sQ (sQ (sQ σ b 1 (some (b + 1))) b 2 (some (b + 2))) b 3 (some (b + 3))) b 0 (if 1 < x1 then x1 else 1))
theorem gi_Wa {b : Nat} (hb : wB b) {σ : mS} (hI : mI (b + 1) σ) (x1 : Int32) : mI (b + 4) (g_Wa b σ x1) := by
  have hbb : 7 < b ∧ b < 30 := by rcases hb with rfl | rfl <;> decide
  have hI := mI_up hI
  have hI := mI_sQ (k := b) (j := 1) (y := b + 1) hI (by omega) (by omega)
  have hI := mI_up hI
  have hI := mI_sQ (k := b) (j := 2) (y := b + 2) hI (by omega) (by omega)
  have hI := mI_up hI
  have hI := mI_sQ (k := b) (j := 3) (y := b + 3) hI (by omega) (by omega)
  have hI := mI_sI (k := b) (j := 0) (v := if 1 < x1 then x1 else 1) hI (by omega)
  exact hI
set_option maxHeartbeats 4000000 in
set_option maxRecDepth 100000 in
theorem c_Wa_init (l : Launch) (D : va_G) (cA ad : Nat → Nat) (σ : mS) {b : Nat} (hb : wB b) (hI : mI (b + 1) σ) (h0 : Nat) (e0 : ad (b) = h0) (x1 : Int32) : mCn l ⟨"LeastPaths$Waiting", "<init>", "(I)V"⟩ (Cond.code ⟨"LeastPaths$Waiting", "<init>", "(I)V"⟩ prog_8_method_1_code 2 none :: tlG) rm_Wa_init D clX (tyK cA) (tbC cA) (b + 1) ad σ [.ref h0, .int x1] (b + 4) (g_Wa b σ x1) 3 30 := by
  intro sz
  refine m_ofN (cc := prog_8_method_1_code) (maxL := 2) (ret := none) (Qc := mQn D clX (tyK cA) (tbC cA) (b + 1) ad (b + 4) (g_Wa b σ x1)) (by decide) (Nat.le_of_ble_eq_true rfl) (fun p e s m args below meth c ls S hr hlk hnm hl N M => ?_) sz
  have hl : lv_has ls 2 [(0, .ref h0), (1, .int x1)] := hl
  have hA : ∀ q, s.heap.size ≤ q → mA (b + 1) ad s.heap.size q := fun q h => Or.inr h
  have G : ∀ k, k < b + 1 → ad k = ad k := fun _ _ => rfl
  have hbb : 7 < b ∧ b < 30 := by rcases hb with rfl | rfl <;> decide
  refine lv_aload_n S.1 S.2.1 d_Wa_init_0 rfl (lv_at hl 0 rfl) ?_
  refine W.objInit S.1 S.2.1 S.2.2.2.1 (S.2.2.2.2 _ kc_9) (S.2.2.2.2 _ kc_1) (S.2.2.2.2 _ kc_2) rfl (hl.1.trans S.2.2.1.symm) rfl d_Wa_init_1 (Nat.le_of_ble_eq_true rfl) (Nat.le_of_ble_eq_true rfl) ?_
  refine W.eq (g2 := F0 m 4 ls []) rfl ?_
  refine lv_aload_n S.1 S.2.1 d_Wa_init_4 rfl (lv_at hl 0 rfl) ?_
  refine lv_bipush (v := 10) S.1 S.2.1 d_Wa_init_5 (by decide) ?_
  refine m_newa (atype := .int) (N := 10) (tg := 0) (k0 := 0) S M hI (tC_dy cA) hA ka_int rfl (tC_W1 hb) rfl (fun _ h => by cases h) (fun _ => rfl) (by decide) (by decide) (by decide) (by decide) (Nat.le_of_ble_eq_true rfl) (Nat.le_of_ble_eq_true rfl) d_Wa_init_7 (fun q ad1 H g1 f M => ?_)
  subst f
  have hI := mI_up hI
  have G : ∀ k, k < b + 1 → ad1 k = ad k := fun k hk => (g1 k (by omega)).trans (G k hk)
  have f1 : ad1 (b + 1) = ad1 (b + 1) := rfl
  refine m_nQ (k := b) (y := b + 1) (j := 1) S M ok_Wa ((G (b) (by omega)).trans e0) f1 (by omega) (tC_W0 hb) (by decide) rfl kc_10 rfl rfl hnm rfl rfl d_Wa_init_9 (fun H locs M => ?_)
  have hI := mI_sQ (k := b) (j := 1) (y := b + 1) hI (by omega) (by omega)
  refine lv_aload_n S.1 S.2.1 d_Wa_init_12 rfl (lv_at hl 0 rfl) ?_
  refine lv_bipush (v := 10) S.1 S.2.1 d_Wa_init_13 (by decide) ?_
  refine m_newa (atype := .int) (N := 10) (tg := 0) (k0 := 0) S M hI (tC_dy cA) hA ka_int rfl (tC_W2 hb) rfl (fun _ h => by cases h) (fun _ => rfl) (by decide) (by decide) (by decide) (by decide) (Nat.le_of_ble_eq_true rfl) (Nat.le_of_ble_eq_true rfl) d_Wa_init_15 (fun q ad2 H g2 f M => ?_)
  subst f
  have hI := mI_up hI
  have G : ∀ k, k < b + 1 → ad2 k = ad k := fun k hk => (g2 k (by omega)).trans (G k hk)
  have f2 : ad2 (b + 2) = ad2 (b + 2) := rfl
  refine m_nQ (k := b) (y := b + 2) (j := 2) S M ok_Wa ((G (b) (by omega)).trans e0) f2 (by omega) (tC_W0 hb) (by decide) rfl kc_11 rfl rfl hnm rfl rfl d_Wa_init_17 (fun H locs M => ?_)
  have hI := mI_sQ (k := b) (j := 2) (y := b + 2) hI (by omega) (by omega)
  refine lv_aload_n S.1 S.2.1 d_Wa_init_20 rfl (lv_at hl 0 rfl) ?_
  refine lv_bipush (v := 10) S.1 S.2.1 d_Wa_init_21 (by decide) ?_
  refine m_newa (atype := .long) (N := 10) (tg := 1) (k0 := 1) S M hI (tC_dy cA) hA ka_long rfl (tC_W3 hb) rfl (fun _ h => by cases h) (fun _ => rfl) (by decide) (by decide) (by decide) (by decide) (Nat.le_of_ble_eq_true rfl) (Nat.le_of_ble_eq_true rfl) d_Wa_init_23 (fun q ad3 H g3 f M => ?_)
  subst f
  have hI := mI_up hI
  have G : ∀ k, k < b + 1 → ad3 k = ad k := fun k hk => (g3 k (by omega)).trans (G k hk)
  have f3 : ad3 (b + 3) = ad3 (b + 3) := rfl
  refine m_nQ (k := b) (y := b + 3) (j := 3) S M ok_Wa ((G (b) (by omega)).trans e0) f3 (by omega) (tC_W0 hb) (by decide) rfl kc_12 rfl rfl hnm rfl rfl d_Wa_init_25 (fun H locs M => ?_)
  have hI := mI_sQ (k := b) (j := 3) (y := b + 3) hI (by omega) (by omega)
  refine lv_aload_n S.1 S.2.1 d_Wa_init_28 rfl (lv_at hl 0 rfl) ?_
  refine lv_iconst (v := 1) S.1 S.2.1 d_Wa_init_29 (by decide) ?_
  refine lv_iload_n S.1 S.2.1 d_Wa_init_30 rfl (lv_at hl 1 rfl) ?_
  refine va_mmax (rest := [.ref h0]) S.1 S.2.1 (S.2.2.1.trans hl.1.symm) S.2.2.2.1 (S.2.2.2.2 _ kc_13) (S.2.2.2.2 _ kc_14) (S.2.2.2.2 _ kc_15) (S.2.2.2.2 _ kc_16) (Nat.le_of_ble_eq_true rfl) (Nat.le_of_ble_eq_true rfl) (Nat.le_of_ble_eq_true rfl) (Nat.le_of_ble_eq_true rfl) d_Wa_init_31 ?_
  refine m_nI (k := b) (j := 0) S M ok_Wa ((G (b) (by omega)).trans e0) (by omega) (tC_W0 hb) (by decide) rfl kc_17 rfl hnm rfl rfl d_Wa_init_34 (fun H locs M => ?_)
  have hI := mI_sI (k := b) (j := 0) (v := if 1 < x1 then x1 else 1) hI (by omega)
  exact m_nret S hr hlk G M d_Wa_init_37
end
section
theorem d_Wy_init_0 : decode prog_9_method_1_code 0 = .ok (.aload_n 0, 1) := by decide +kernel
theorem d_Wy_init_1 : decode prog_9_method_1_code 1 = .ok (.invokespecial 3, 3) := by decide +kernel
theorem d_Wy_init_4 : decode prog_9_method_1_code 4 = .ok (.aload_n 0, 1) := by decide +kernel
theorem d_Wy_init_5 : decode prog_9_method_1_code 5 = .ok (.bipush 10, 2) := by decide +kernel
theorem d_Wy_init_7 : decode prog_9_method_1_code 7 = .ok (.newarray .int, 2) := by decide +kernel
theorem d_Wy_init_9 : decode prog_9_method_1_code 9 = .ok (.putfield 9, 3) := by decide +kernel
theorem d_Wy_init_12 : decode prog_9_method_1_code 12 = .ok (.return_, 1) := by decide +kernel
def rm_Wy_init : Room := { frames := 1, cells := 1, slots := 10, locals := 12 }
def g_Wy (w : Nat) (σ : mS) : mS := (sQ σ w 0 (some (w + 1)))
theorem gi_Wy {w : Nat} (hb : wy w = true) {σ : mS} (hI : mI (w + 1) σ) : mI (w + 2) (g_Wy w σ) := by
  have hI := mI_up hI
  have hI := mI_sQ (k := w) (j := 0) (y := w + 1) hI (by omega) (by omega)
  exact hI
set_option maxHeartbeats 4000000 in
set_option maxRecDepth 100000 in
theorem c_Wy_init (l : Launch) (D : va_G) (cA ad : Nat → Nat) (σ : mS) {w : Nat} (hb : wy w = true) (hI : mI (w + 1) σ) (h0 : Nat) (e0 : ad (w) = h0) : mCn l ⟨"LeastPaths$Way", "<init>", "()V"⟩ (Cond.code ⟨"LeastPaths$Way", "<init>", "()V"⟩ prog_9_method_1_code 1 none :: tlG) rm_Wy_init D clX (tyK cA) (tbC cA) (w + 1) ad σ [.ref h0] (w + 2) (g_Wy w σ) 1 10 := by
  intro sz
  refine m_ofN (cc := prog_9_method_1_code) (maxL := 1) (ret := none) (Qc := mQn D clX (tyK cA) (tbC cA) (w + 1) ad (w + 2) (g_Wy w σ)) (by decide) (Nat.le_of_ble_eq_true rfl) (fun p e s m args below meth c ls S hr hlk hnm hl N M => ?_) sz
  have hl : lv_has ls 1 [(0, .ref h0)] := hl
  have hA : ∀ q, s.heap.size ≤ q → mA (w + 1) ad s.heap.size q := fun q h => Or.inr h
  have G : ∀ k, k < w + 1 → ad k = ad k := fun _ _ => rfl
  refine lv_aload_n S.1 S.2.1 d_Wy_init_0 rfl (lv_at hl 0 rfl) ?_
  refine W.objInit S.1 S.2.1 S.2.2.2.1 (S.2.2.2.2 _ kc_18) (S.2.2.2.2 _ kc_1) (S.2.2.2.2 _ kc_2) rfl (hl.1.trans S.2.2.1.symm) rfl d_Wy_init_1 (Nat.le_of_ble_eq_true rfl) (Nat.le_of_ble_eq_true rfl) ?_
  refine W.eq (g2 := F0 m 4 ls []) rfl ?_
  refine lv_aload_n S.1 S.2.1 d_Wy_init_4 rfl (lv_at hl 0 rfl) ?_
  refine lv_bipush (v := 10) S.1 S.2.1 d_Wy_init_5 (by decide) ?_
  refine m_newa (atype := .int) (N := 10) (tg := 0) (k0 := 0) S M hI (tC_dy cA) hA ka_int rfl (tC_Y1 hb) rfl (fun _ h => by cases h) (fun _ => rfl) (by decide) (by decide) (by decide) (by decide) (Nat.le_of_ble_eq_true rfl) (Nat.le_of_ble_eq_true rfl) d_Wy_init_7 (fun q ad1 H g1 f M => ?_)
  subst f
  have hI := mI_up hI
  have G : ∀ k, k < w + 1 → ad1 k = ad k := fun k hk => (g1 k (by omega)).trans (G k hk)
  have f1 : ad1 (w + 1) = ad1 (w + 1) := rfl
  refine m_nQ (k := w) (y := w + 1) (j := 0) S M ok_Wy ((G (w) (by omega)).trans e0) f1 (by omega) (tC_Y0 hb) (by decide) rfl kc_19 rfl rfl hnm rfl rfl d_Wy_init_9 (fun H locs M => ?_)
  have hI := mI_sQ (k := w) (j := 0) (y := w + 1) hI (by omega) (by omega)
  exact m_nret S hr hlk G M d_Wy_init_12
end
section
theorem d_Se_init_0 : decode prog_6_method_1_code 0 = .ok (.aload_n 0, 1) := by decide +kernel
theorem d_Se_init_1 : decode prog_6_method_1_code 1 = .ok (.invokespecial 3, 3) := by decide +kernel
theorem d_Se_init_4 : decode prog_6_method_1_code 4 = .ok (.aload_n 0, 1) := by decide +kernel
theorem d_Se_init_5 : decode prog_6_method_1_code 5 = .ok (.bipush 10, 2) := by decide +kernel
theorem d_Se_init_7 : decode prog_6_method_1_code 7 = .ok (.newarray .int, 2) := by decide +kernel
theorem d_Se_init_9 : decode prog_6_method_1_code 9 = .ok (.putfield 9, 3) := by decide +kernel
theorem d_Se_init_12 : decode prog_6_method_1_code 12 = .ok (.aload_n 0, 1) := by decide +kernel
theorem d_Se_init_13 : decode prog_6_method_1_code 13 = .ok (.bipush 10, 2) := by decide +kernel
theorem d_Se_init_15 : decode prog_6_method_1_code 15 = .ok (.newarray .int, 2) := by decide +kernel
theorem d_Se_init_17 : decode prog_6_method_1_code 17 = .ok (.putfield 15, 3) := by decide +kernel
theorem d_Se_init_20 : decode prog_6_method_1_code 20 = .ok (.aload_n 0, 1) := by decide +kernel
theorem d_Se_init_21 : decode prog_6_method_1_code 21 = .ok (.bipush 10, 2) := by decide +kernel
theorem d_Se_init_23 : decode prog_6_method_1_code 23 = .ok (.newarray .int, 2) := by decide +kernel
theorem d_Se_init_25 : decode prog_6_method_1_code 25 = .ok (.putfield 18, 3) := by decide +kernel
theorem d_Se_init_28 : decode prog_6_method_1_code 28 = .ok (.aload_n 0, 1) := by decide +kernel
theorem d_Se_init_29 : decode prog_6_method_1_code 29 = .ok (.aload_n 1, 1) := by decide +kernel
theorem d_Se_init_30 : decode prog_6_method_1_code 30 = .ok (.putfield 21, 3) := by decide +kernel
theorem d_Se_init_33 : decode prog_6_method_1_code 33 = .ok (.aload_n 0, 1) := by decide +kernel
theorem d_Se_init_34 : decode prog_6_method_1_code 34 = .ok (.iload_n 2, 1) := by decide +kernel
theorem d_Se_init_35 : decode prog_6_method_1_code 35 = .ok (.putfield 25, 3) := by decide +kernel
theorem d_Se_init_38 : decode prog_6_method_1_code 38 = .ok (.aload_n 0, 1) := by decide +kernel
theorem d_Se_init_39 : decode prog_6_method_1_code 39 = .ok (.new 29, 3) := by decide +kernel
theorem d_Se_init_42 : decode prog_6_method_1_code 42 = .ok (.dup, 1) := by decide +kernel
theorem d_Se_init_43 : decode prog_6_method_1_code 43 = .ok (.iload_n 3, 1) := by decide +kernel
theorem d_Se_init_44 : decode prog_6_method_1_code 44 = .ok (.invokespecial 31, 3) := by decide +kernel
theorem d_Se_init_47 : decode prog_6_method_1_code 47 = .ok (.putfield 34, 3) := by decide +kernel
theorem d_Se_init_50 : decode prog_6_method_1_code 50 = .ok (.return_, 1) := by decide +kernel
def rm_Se_init : Room := { frames := 2, cells := 7, slots := 65, locals := 42 }
def g_Se (b : Nat) (σ : mS) (x2 : Int32) (x3 : Int32) : mS := (sQ (g_Wa (b + 4) (sI (sQ (sQ (sQ (sQ σ b 3 (some (b + 1))) b 4 (some (b + 2))) b 5 (some (b + 3))) b 0 (some 1)) b 1 x2) x3) b 2 (some (b + 4)))
theorem gi_Se {b : Nat} (hb : sB b) {σ : mS} (hI : mI (b + 1) σ) (x2 : Int32) (x3 : Int32) : mI (b + 8) (g_Se b σ x2 x3) := by
  have hbb : 7 < b ∧ b < 30 := by rcases hb with rfl | rfl <;> decide
  have hI := mI_up hI
  have hI := mI_sQ (k := b) (j := 3) (y := b + 1) hI (by omega) (by omega)
  have hI := mI_up hI
  have hI := mI_sQ (k := b) (j := 4) (y := b + 2) hI (by omega) (by omega)
  have hI := mI_up hI
  have hI := mI_sQ (k := b) (j := 5) (y := b + 3) hI (by omega) (by omega)
  have hI := mI_sQ (k := b) (j := 0) (y := 1) hI (by omega) (by omega)
  have hI := mI_sI (k := b) (j := 1) (v := x2) hI (by omega)
  have hI := mI_up hI
  have hI := gi_Wa (sB_w hb) hI x3
  have hI := mI_sQ (k := b) (j := 2) (y := b + 4) hI (by omega) (by omega)
  exact hI
set_option maxHeartbeats 4000000 in
set_option maxRecDepth 100000 in
theorem c_Se_init (l : Launch) (D : va_G) (cA ad : Nat → Nat) (σ : mS) {b : Nat} (hb : sB b) (hI : mI (b + 1) σ) (h0 : Nat) (h1 : Nat) (e0 : ad (b) = h0) (e1 : ad (1) = h1) (x2 : Int32) (x3 : Int32) (hz : x2 = 0 ∨ x2 = 1) : mCn l ⟨"LeastPaths$Search", "<init>", "(LLeastPaths$Graph;ZI)V"⟩ (Cond.code ⟨"LeastPaths$Search", "<init>", "(LLeastPaths$Graph;ZI)V"⟩ prog_6_method_1_code 4 none :: tlG) rm_Se_init D clX (tyK cA) (tbC cA) (b + 1) ad σ [.ref h0, .ref h1, .int x2, .int x3] (b + 8) (g_Se b σ x2 x3) 7 65 := by
  intro sz
  refine m_ofN (cc := prog_6_method_1_code) (maxL := 4) (ret := none) (Qc := mQn D clX (tyK cA) (tbC cA) (b + 1) ad (b + 8) (g_Se b σ x2 x3)) (by decide) (Nat.le_of_ble_eq_true rfl) (fun p e s m args below meth c ls S hr hlk hnm hl N M => ?_) sz
  have hl : lv_has ls 4 [(0, .ref h0), (1, .ref h1), (2, .int x2), (3, .int x3)] := hl
  have hA : ∀ q, s.heap.size ≤ q → mA (b + 1) ad s.heap.size q := fun q h => Or.inr h
  have G : ∀ k, k < b + 1 → ad k = ad k := fun _ _ => rfl
  have hbb : 7 < b ∧ b < 30 := by rcases hb with rfl | rfl <;> decide
  refine lv_aload_n S.1 S.2.1 d_Se_init_0 rfl (lv_at hl 0 rfl) ?_
  refine W.objInit S.1 S.2.1 S.2.2.2.1 (S.2.2.2.2 _ kc_20) (S.2.2.2.2 _ kc_1) (S.2.2.2.2 _ kc_2) rfl (hl.1.trans S.2.2.1.symm) rfl d_Se_init_1 (Nat.le_of_ble_eq_true rfl) (Nat.le_of_ble_eq_true rfl) ?_
  refine W.eq (g2 := F0 m 4 ls []) rfl ?_
  refine lv_aload_n S.1 S.2.1 d_Se_init_4 rfl (lv_at hl 0 rfl) ?_
  refine lv_bipush (v := 10) S.1 S.2.1 d_Se_init_5 (by decide) ?_
  refine m_newa (atype := .int) (N := 10) (tg := 0) (k0 := 0) S M hI (tC_dy cA) hA ka_int rfl (tC_S1 hb) rfl (fun _ h => by cases h) (fun _ => rfl) (by decide) (by decide) (by decide) (by decide) (Nat.le_of_ble_eq_true rfl) (Nat.le_of_ble_eq_true rfl) d_Se_init_7 (fun q ad1 H g1 f M => ?_)
  subst f
  have hI := mI_up hI
  have G : ∀ k, k < b + 1 → ad1 k = ad k := fun k hk => (g1 k (by omega)).trans (G k hk)
  have f1 : ad1 (b + 1) = ad1 (b + 1) := rfl
  refine m_nQ (k := b) (y := b + 1) (j := 3) S M ok_Se ((G (b) (by omega)).trans e0) f1 (by omega) (tC_S0 hb) (by decide) rfl kc_21 rfl rfl hnm rfl rfl d_Se_init_9 (fun H locs M => ?_)
  have hI := mI_sQ (k := b) (j := 3) (y := b + 1) hI (by omega) (by omega)
  refine lv_aload_n S.1 S.2.1 d_Se_init_12 rfl (lv_at hl 0 rfl) ?_
  refine lv_bipush (v := 10) S.1 S.2.1 d_Se_init_13 (by decide) ?_
  refine m_newa (atype := .int) (N := 10) (tg := 0) (k0 := 0) S M hI (tC_dy cA) hA ka_int rfl (tC_S2 hb) rfl (fun _ h => by cases h) (fun _ => rfl) (by decide) (by decide) (by decide) (by decide) (Nat.le_of_ble_eq_true rfl) (Nat.le_of_ble_eq_true rfl) d_Se_init_15 (fun q ad2 H g2 f M => ?_)
  subst f
  have hI := mI_up hI
  have G : ∀ k, k < b + 1 → ad2 k = ad k := fun k hk => (g2 k (by omega)).trans (G k hk)
  have f2 : ad2 (b + 2) = ad2 (b + 2) := rfl
  refine m_nQ (k := b) (y := b + 2) (j := 4) S M ok_Se ((G (b) (by omega)).trans e0) f2 (by omega) (tC_S0 hb) (by decide) rfl kc_22 rfl rfl hnm rfl rfl d_Se_init_17 (fun H locs M => ?_)
  have hI := mI_sQ (k := b) (j := 4) (y := b + 2) hI (by omega) (by omega)
  refine lv_aload_n S.1 S.2.1 d_Se_init_20 rfl (lv_at hl 0 rfl) ?_
  refine lv_bipush (v := 10) S.1 S.2.1 d_Se_init_21 (by decide) ?_
  refine m_newa (atype := .int) (N := 10) (tg := 0) (k0 := 0) S M hI (tC_dy cA) hA ka_int rfl (tC_S3 hb) rfl (fun _ h => by cases h) (fun _ => rfl) (by decide) (by decide) (by decide) (by decide) (Nat.le_of_ble_eq_true rfl) (Nat.le_of_ble_eq_true rfl) d_Se_init_23 (fun q ad3 H g3 f M => ?_)
  subst f
  have hI := mI_up hI
  have G : ∀ k, k < b + 1 → ad3 k = ad k := fun k hk => (g3 k (by omega)).trans (G k hk)
  have f3 : ad3 (b + 3) = ad3 (b + 3) := rfl
  refine m_nQ (k := b) (y := b + 3) (j := 5) S M ok_Se ((G (b) (by omega)).trans e0) f3 (by omega) (tC_S0 hb) (by decide) rfl kc_23 rfl rfl hnm rfl rfl d_Se_init_25 (fun H locs M => ?_)
  have hI := mI_sQ (k := b) (j := 5) (y := b + 3) hI (by omega) (by omega)
  refine lv_aload_n S.1 S.2.1 d_Se_init_28 rfl (lv_at hl 0 rfl) ?_
  refine lv_aload_n S.1 S.2.1 d_Se_init_29 rfl (lv_at hl 1 rfl) ?_
  refine m_nQ (k := b) (y := 1) (j := 0) S M ok_Se ((G (b) (by omega)).trans e0) ((G (1) (by omega)).trans e1) (by omega) (tC_S0 hb) (by decide) rfl kc_24 rfl rfl hnm rfl rfl d_Se_init_30 (fun H locs M => ?_)
  have hI := mI_sQ (k := b) (j := 0) (y := 1) hI (by omega) (by omega)
  refine lv_aload_n S.1 S.2.1 d_Se_init_33 rfl (lv_at hl 0 rfl) ?_
  refine lv_iload_n S.1 S.2.1 d_Se_init_34 rfl (lv_at hl 2 rfl) ?_
  refine m_nI (k := b) (j := 1) S M ok_Se ((G (b) (by omega)).trans e0) (by omega) (tC_S0 hb) (by decide) rfl kc_25 rfl hnm (nz_n hz) (nz_f hz) d_Se_init_35 (fun H locs M => ?_)
  have hI := mI_sI (k := b) (j := 1) (v := x2) hI (by omega)
  refine lv_aload_n S.1 S.2.1 d_Se_init_38 rfl (lv_at hl 0 rfl) ?_
  refine m_new S M hI (tC_dy cA) hA ok_Wa (tC_S4 hb) kc_26 kn_Wa kc_27 kd_Wa (Nat.le_of_ble_eq_true rfl) (Nat.le_of_ble_eq_true rfl) d_Se_init_39 (fun q ad4 H g4 f M => ?_)
  subst f
  have hI := mI_up hI
  have G : ∀ k, k < b + 1 → ad4 k = ad k := fun k hk => (g4 k (by omega)).trans (G k hk)
  have f4 : ad4 (b + 4) = ad4 (b + 4) := rfl
  refine lv_dup S.1 S.2.1 d_Se_init_42 rfl ?_
  refine lv_iload_n S.1 S.2.1 d_Se_init_43 rfl (lv_at hl 3 rfl) ?_
  refine m_xn (m_rI (As := [.int x3]) (rest := [.ref (ad4 (b + 4)), .ref h0]) S N M hl.1 (cwGI (n := 1) S.2.2.2.2 kc_28 kc_29 kc_27 kc_30 rfl (by decide) ⟨Nat.le_of_ble_eq_true rfl, Nat.le_of_ble_eq_true rfl⟩) (c_Wa_init l D cA _ _ (sB_w hb) hI _ f4  x3) rfl rfl (Nat.le_of_ble_eq_true rfl) d_Se_init_44 ⟨Nat.le_of_ble_eq_true rfl, Nat.le_of_ble_eq_true rfl⟩) M hA (fun ad5 H locs g5 M => ?_)
  have hI := gi_Wa (sB_w hb) hI x3
  have G : ∀ k, k < b + 1 → ad5 k = ad k := fun k hk => (g5 k (by omega)).trans (G k hk)
  have f4 : ad5 (b + 4) = (ad4 (b + 4)) := (g5 (b + 4) (by omega)).trans f4
  refine m_nQ (k := b) (y := b + 4) (j := 2) S M ok_Se ((G (b) (by omega)).trans e0) f4 (by omega) (tC_S0 hb) (by decide) rfl kc_31 rfl rfl hnm rfl rfl d_Se_init_47 (fun H locs M => ?_)
  have hI := mI_sQ (k := b) (j := 2) (y := b + 4) hI (by omega) (by omega)
  exact m_nret S hr hlk G M d_Se_init_50
end
section
theorem d_BS_init_0 : decode prog_2_method_1_code 0 = .ok (.aload_n 0, 1) := by decide +kernel
theorem d_BS_init_1 : decode prog_2_method_1_code 1 = .ok (.invokespecial 3, 3) := by decide +kernel
theorem d_BS_init_4 : decode prog_2_method_1_code 4 = .ok (.aload_n 0, 1) := by decide +kernel
theorem d_BS_init_5 : decode prog_2_method_1_code 5 = .ok (.aload_n 1, 1) := by decide +kernel
theorem d_BS_init_6 : decode prog_2_method_1_code 6 = .ok (.putfield 9, 3) := by decide +kernel
theorem d_BS_init_9 : decode prog_2_method_1_code 9 = .ok (.aload_n 0, 1) := by decide +kernel
theorem d_BS_init_10 : decode prog_2_method_1_code 10 = .ok (.aload_n 2, 1) := by decide +kernel
theorem d_BS_init_11 : decode prog_2_method_1_code 11 = .ok (.putfield 15, 3) := by decide +kernel
theorem d_BS_init_14 : decode prog_2_method_1_code 14 = .ok (.return_, 1) := by decide +kernel
def rm_BS_init : Room := { frames := 1, cells := 0, slots := 0, locals := 12 }
def g_BS (σ : mS) : mS := (sQ (sQ σ 24 0 (some 8)) 24 1 (some 16))
theorem gi_BS {σ : mS} (hI : mI (25) σ) : mI (25) (g_BS σ) := by
  have hI := mI_sQ (k := 24) (j := 0) (y := 8) hI (by omega) (by omega)
  have hI := mI_sQ (k := 24) (j := 1) (y := 16) hI (by omega) (by omega)
  exact hI
set_option maxHeartbeats 4000000 in
set_option maxRecDepth 100000 in
theorem c_BS_init (l : Launch) (D : va_G) (cA ad : Nat → Nat) (σ : mS) (hI : mI (25) σ) (h0 : Nat) (h1 : Nat) (h2 : Nat) (e0 : ad (24) = h0) (e1 : ad (8) = h1) (e2 : ad (16) = h2) : mCn l ⟨"LeastPaths$BothSides", "<init>", "(LLeastPaths$Search;LLeastPaths$Search;)V"⟩ (Cond.code ⟨"LeastPaths$BothSides", "<init>", "(LLeastPaths$Search;LLeastPaths$Search;)V"⟩ prog_2_method_1_code 3 none :: tlG) rm_BS_init D clX (tyK cA) (tbC cA) (25) ad σ [.ref h0, .ref h1, .ref h2] (25) (g_BS σ) 0 0 := by
  intro sz
  refine m_ofN (cc := prog_2_method_1_code) (maxL := 3) (ret := none) (Qc := mQn D clX (tyK cA) (tbC cA) (25) ad (25) (g_BS σ)) (by decide) (Nat.le_of_ble_eq_true rfl) (fun p e s m args below meth c ls S hr hlk hnm hl N M => ?_) sz
  have hl : lv_has ls 3 [(0, .ref h0), (1, .ref h1), (2, .ref h2)] := hl
  have hA : ∀ q, s.heap.size ≤ q → mA (25) ad s.heap.size q := fun q h => Or.inr h
  have G : ∀ k, k < 25 → ad k = ad k := fun _ _ => rfl
  refine lv_aload_n S.1 S.2.1 d_BS_init_0 rfl (lv_at hl 0 rfl) ?_
  refine W.objInit S.1 S.2.1 S.2.2.2.1 (S.2.2.2.2 _ kc_32) (S.2.2.2.2 _ kc_1) (S.2.2.2.2 _ kc_2) rfl (hl.1.trans S.2.2.1.symm) rfl d_BS_init_1 (Nat.le_of_ble_eq_true rfl) (Nat.le_of_ble_eq_true rfl) ?_
  refine W.eq (g2 := F0 m 4 ls []) rfl ?_
  refine lv_aload_n S.1 S.2.1 d_BS_init_4 rfl (lv_at hl 0 rfl) ?_
  refine lv_aload_n S.1 S.2.1 d_BS_init_5 rfl (lv_at hl 1 rfl) ?_
  refine m_nQ (k := 24) (y := 8) (j := 0) S M ok_BS ((G (24) (by omega)).trans e0) ((G (8) (by omega)).trans e1) (by omega) rfl (by decide) rfl kc_33 rfl rfl hnm rfl rfl d_BS_init_6 (fun H locs M => ?_)
  have hI := mI_sQ (k := 24) (j := 0) (y := 8) hI (by omega) (by omega)
  refine lv_aload_n S.1 S.2.1 d_BS_init_9 rfl (lv_at hl 0 rfl) ?_
  refine lv_aload_n S.1 S.2.1 d_BS_init_10 rfl (lv_at hl 2 rfl) ?_
  refine m_nQ (k := 24) (y := 16) (j := 1) S M ok_BS ((G (24) (by omega)).trans e0) ((G (16) (by omega)).trans e2) (by omega) rfl (by decide) rfl kc_34 rfl rfl hnm rfl rfl d_BS_init_11 (fun H locs M => ?_)
  have hI := mI_sQ (k := 24) (j := 1) (y := 16) hI (by omega) (by omega)
  exact m_nret S hr hlk G M d_BS_init_14
end
section
theorem d_Rg_init_0 : decode prog_4_method_1_code 0 = .ok (.aload_n 0, 1) := by decide +kernel
theorem d_Rg_init_1 : decode prog_4_method_1_code 1 = .ok (.invokespecial 3, 3) := by decide +kernel
theorem d_Rg_init_4 : decode prog_4_method_1_code 4 = .ok (.aload_n 0, 1) := by decide +kernel
theorem d_Rg_init_5 : decode prog_4_method_1_code 5 = .ok (.new 9, 3) := by decide +kernel
theorem d_Rg_init_8 : decode prog_4_method_1_code 8 = .ok (.dup, 1) := by decide +kernel
theorem d_Rg_init_9 : decode prog_4_method_1_code 9 = .ok (.invokespecial 11, 3) := by decide +kernel
theorem d_Rg_init_12 : decode prog_4_method_1_code 12 = .ok (.putfield 12, 3) := by decide +kernel
theorem d_Rg_init_15 : decode prog_4_method_1_code 15 = .ok (.aload_n 0, 1) := by decide +kernel
theorem d_Rg_init_16 : decode prog_4_method_1_code 16 = .ok (.aload_n 1, 1) := by decide +kernel
theorem d_Rg_init_17 : decode prog_4_method_1_code 17 = .ok (.putfield 18, 3) := by decide +kernel
theorem d_Rg_init_20 : decode prog_4_method_1_code 20 = .ok (.aload_n 0, 1) := by decide +kernel
theorem d_Rg_init_21 : decode prog_4_method_1_code 21 = .ok (.aload_n 2, 1) := by decide +kernel
theorem d_Rg_init_22 : decode prog_4_method_1_code 22 = .ok (.putfield 22, 3) := by decide +kernel
theorem d_Rg_init_25 : decode prog_4_method_1_code 25 = .ok (.return_, 1) := by decide +kernel
def rm_Rg_init : Room := { frames := 2, cells := 2, slots := 15, locals := 32 }
def g_Rg (σ : mS) : mS := (sQ (sQ (sQ (g_Wy 92 σ) 91 2 (some 92)) 91 0 (some 1)) 91 1 (some 16))
theorem gi_Rg {σ : mS} (hI : mI (92) σ) : mI (94) (g_Rg σ) := by
  have hI := mI_up hI
  have hI := gi_Wy wy_92 hI 
  have hI := mI_sQ (k := 91) (j := 2) (y := 92) hI (by omega) (by omega)
  have hI := mI_sQ (k := 91) (j := 0) (y := 1) hI (by omega) (by omega)
  have hI := mI_sQ (k := 91) (j := 1) (y := 16) hI (by omega) (by omega)
  exact hI
set_option maxHeartbeats 4000000 in
set_option maxRecDepth 100000 in
theorem c_Rg_init (l : Launch) (D : va_G) (cA ad : Nat → Nat) (σ : mS) (hI : mI (92) σ) (h0 : Nat) (h1 : Nat) (h2 : Nat) (e0 : ad (91) = h0) (e1 : ad (1) = h1) (e2 : ad (16) = h2) : mCn l ⟨"LeastPaths$Rings", "<init>", "(LLeastPaths$Graph;LLeastPaths$Search;)V"⟩ (Cond.code ⟨"LeastPaths$Rings", "<init>", "(LLeastPaths$Graph;LLeastPaths$Search;)V"⟩ prog_4_method_1_code 3 none :: tlG) rm_Rg_init D clX (tyK cA) (tbC cA) (92) ad σ [.ref h0, .ref h1, .ref h2] (94) (g_Rg σ) 2 15 := by
  intro sz
  refine m_ofN (cc := prog_4_method_1_code) (maxL := 3) (ret := none) (Qc := mQn D clX (tyK cA) (tbC cA) (92) ad (94) (g_Rg σ)) (by decide) (Nat.le_of_ble_eq_true rfl) (fun p e s m args below meth c ls S hr hlk hnm hl N M => ?_) sz
  have hl : lv_has ls 3 [(0, .ref h0), (1, .ref h1), (2, .ref h2)] := hl
  have hA : ∀ q, s.heap.size ≤ q → mA (92) ad s.heap.size q := fun q h => Or.inr h
  have G : ∀ k, k < 92 → ad k = ad k := fun _ _ => rfl
  refine lv_aload_n S.1 S.2.1 d_Rg_init_0 rfl (lv_at hl 0 rfl) ?_
  refine W.objInit S.1 S.2.1 S.2.2.2.1 (S.2.2.2.2 _ kc_35) (S.2.2.2.2 _ kc_1) (S.2.2.2.2 _ kc_2) rfl (hl.1.trans S.2.2.1.symm) rfl d_Rg_init_1 (Nat.le_of_ble_eq_true rfl) (Nat.le_of_ble_eq_true rfl) ?_
  refine W.eq (g2 := F0 m 4 ls []) rfl ?_
  refine lv_aload_n S.1 S.2.1 d_Rg_init_4 rfl (lv_at hl 0 rfl) ?_
  refine m_new S M hI (tC_dy cA) hA ok_Wy rfl kc_36 kn_Wy kc_37 kd_Wy (Nat.le_of_ble_eq_true rfl) (Nat.le_of_ble_eq_true rfl) d_Rg_init_5 (fun q ad1 H g1 f M => ?_)
  subst f
  have hI := mI_up hI
  have G : ∀ k, k < 92 → ad1 k = ad k := fun k hk => (g1 k (by omega)).trans (G k hk)
  have f1 : ad1 (92) = ad1 (92) := rfl
  refine lv_dup S.1 S.2.1 d_Rg_init_8 rfl ?_
  refine m_xn (m_rIN (As := []) (rest := [.ref (ad1 (92)), .ref h0]) S N M hl.1 (cwGN (n := 0) S.2.2.2.2 N.2.2.1 kc_38 kc_37 kc_39 rfl (by decide) ⟨Nat.le_of_ble_eq_true rfl, Nat.le_of_ble_eq_true rfl⟩) (c_Wy_init l D cA _ _ wy_92 hI _ f1  ) rfl rfl (Nat.le_of_ble_eq_true rfl) d_Rg_init_9 ⟨Nat.le_of_ble_eq_true rfl, Nat.le_of_ble_eq_true rfl⟩) M hA (fun ad2 H locs g2 M => ?_)
  have hI := gi_Wy wy_92 hI 
  have G : ∀ k, k < 92 → ad2 k = ad k := fun k hk => (g2 k (by omega)).trans (G k hk)
  have f1 : ad2 (92) = (ad1 (92)) := (g2 (92) (by omega)).trans f1
  refine m_nQ (k := 91) (y := 92) (j := 2) S M ok_Rg ((G (91) (by omega)).trans e0) f1 (by omega) rfl (by decide) rfl kc_40 rfl rfl hnm rfl rfl d_Rg_init_12 (fun H locs M => ?_)
  have hI := mI_sQ (k := 91) (j := 2) (y := 92) hI (by omega) (by omega)
  refine lv_aload_n S.1 S.2.1 d_Rg_init_15 rfl (lv_at hl 0 rfl) ?_
  refine lv_aload_n S.1 S.2.1 d_Rg_init_16 rfl (lv_at hl 1 rfl) ?_
  refine m_nQ (k := 91) (y := 1) (j := 0) S M ok_Rg ((G (91) (by omega)).trans e0) ((G (1) (by omega)).trans e1) (by omega) rfl (by decide) rfl kc_41 rfl rfl hnm rfl rfl d_Rg_init_17 (fun H locs M => ?_)
  have hI := mI_sQ (k := 91) (j := 0) (y := 1) hI (by omega) (by omega)
  refine lv_aload_n S.1 S.2.1 d_Rg_init_20 rfl (lv_at hl 0 rfl) ?_
  refine lv_aload_n S.1 S.2.1 d_Rg_init_21 rfl (lv_at hl 2 rfl) ?_
  refine m_nQ (k := 91) (y := 16) (j := 1) S M ok_Rg ((G (91) (by omega)).trans e0) ((G (16) (by omega)).trans e2) (by omega) rfl (by decide) rfl kc_42 rfl rfl hnm rfl rfl d_Rg_init_22 (fun H locs M => ?_)
  have hI := mI_sQ (k := 91) (j := 1) (y := 16) hI (by omega) (by omega)
  exact m_nret S hr hlk G M d_Rg_init_25
end
section
theorem d_Wi_init_0 : decode prog_10_method_1_code 0 = .ok (.aload_n 0, 1) := by decide +kernel
theorem d_Wi_init_1 : decode prog_10_method_1_code 1 = .ok (.invokespecial 3, 3) := by decide +kernel
theorem d_Wi_init_4 : decode prog_10_method_1_code 4 = .ok (.aload_n 0, 1) := by decide +kernel
theorem d_Wi_init_5 : decode prog_10_method_1_code 5 = .ok (.bipush 10, 2) := by decide +kernel
theorem d_Wi_init_7 : decode prog_10_method_1_code 7 = .ok (.newarray .int, 2) := by decide +kernel
theorem d_Wi_init_9 : decode prog_10_method_1_code 9 = .ok (.putfield 9, 3) := by decide +kernel
theorem d_Wi_init_12 : decode prog_10_method_1_code 12 = .ok (.aload_n 0, 1) := by decide +kernel
theorem d_Wi_init_13 : decode prog_10_method_1_code 13 = .ok (.aload_n 1, 1) := by decide +kernel
theorem d_Wi_init_14 : decode prog_10_method_1_code 14 = .ok (.putfield 15, 3) := by decide +kernel
theorem d_Wi_init_17 : decode prog_10_method_1_code 17 = .ok (.return_, 1) := by decide +kernel
def rm_Wi_init : Room := { frames := 1, cells := 1, slots := 10, locals := 12 }
def g_Wi (σ : mS) : mS := (sQ (sQ σ 94 1 (some 95)) 94 0 (some 1))
theorem gi_Wi {σ : mS} (hI : mI (95) σ) : mI (96) (g_Wi σ) := by
  have hI := mI_up hI
  have hI := mI_sQ (k := 94) (j := 1) (y := 95) hI (by omega) (by omega)
  have hI := mI_sQ (k := 94) (j := 0) (y := 1) hI (by omega) (by omega)
  exact hI
set_option maxHeartbeats 4000000 in
set_option maxRecDepth 100000 in
theorem c_Wi_init (l : Launch) (D : va_G) (cA ad : Nat → Nat) (σ : mS) (hI : mI (95) σ) (h0 : Nat) (h1 : Nat) (e0 : ad (94) = h0) (e1 : ad (1) = h1) : mCn l ⟨"LeastPaths$Widths", "<init>", "(LLeastPaths$Graph;)V"⟩ (Cond.code ⟨"LeastPaths$Widths", "<init>", "(LLeastPaths$Graph;)V"⟩ prog_10_method_1_code 2 none :: tlG) rm_Wi_init D clX (tyK cA) (tbC cA) (95) ad σ [.ref h0, .ref h1] (96) (g_Wi σ) 1 10 := by
  intro sz
  refine m_ofN (cc := prog_10_method_1_code) (maxL := 2) (ret := none) (Qc := mQn D clX (tyK cA) (tbC cA) (95) ad (96) (g_Wi σ)) (by decide) (Nat.le_of_ble_eq_true rfl) (fun p e s m args below meth c ls S hr hlk hnm hl N M => ?_) sz
  have hl : lv_has ls 2 [(0, .ref h0), (1, .ref h1)] := hl
  have hA : ∀ q, s.heap.size ≤ q → mA (95) ad s.heap.size q := fun q h => Or.inr h
  have G : ∀ k, k < 95 → ad k = ad k := fun _ _ => rfl
  refine lv_aload_n S.1 S.2.1 d_Wi_init_0 rfl (lv_at hl 0 rfl) ?_
  refine W.objInit S.1 S.2.1 S.2.2.2.1 (S.2.2.2.2 _ kc_43) (S.2.2.2.2 _ kc_1) (S.2.2.2.2 _ kc_2) rfl (hl.1.trans S.2.2.1.symm) rfl d_Wi_init_1 (Nat.le_of_ble_eq_true rfl) (Nat.le_of_ble_eq_true rfl) ?_
  refine W.eq (g2 := F0 m 4 ls []) rfl ?_
  refine lv_aload_n S.1 S.2.1 d_Wi_init_4 rfl (lv_at hl 0 rfl) ?_
  refine lv_bipush (v := 10) S.1 S.2.1 d_Wi_init_5 (by decide) ?_
  refine m_newa (atype := .int) (N := 10) (tg := 0) (k0 := 0) S M hI (tC_dy cA) hA ka_int rfl rfl rfl (fun _ h => by cases h) (fun _ => rfl) (by decide) (by decide) (by decide) (by decide) (Nat.le_of_ble_eq_true rfl) (Nat.le_of_ble_eq_true rfl) d_Wi_init_7 (fun q ad1 H g1 f M => ?_)
  subst f
  have hI := mI_up hI
  have G : ∀ k, k < 95 → ad1 k = ad k := fun k hk => (g1 k (by omega)).trans (G k hk)
  have f1 : ad1 (95) = ad1 (95) := rfl
  refine m_nQ (k := 94) (y := 95) (j := 1) S M ok_Wi ((G (94) (by omega)).trans e0) f1 (by omega) rfl (by decide) rfl kc_44 rfl rfl hnm rfl rfl d_Wi_init_9 (fun H locs M => ?_)
  have hI := mI_sQ (k := 94) (j := 1) (y := 95) hI (by omega) (by omega)
  refine lv_aload_n S.1 S.2.1 d_Wi_init_12 rfl (lv_at hl 0 rfl) ?_
  refine lv_aload_n S.1 S.2.1 d_Wi_init_13 rfl (lv_at hl 1 rfl) ?_
  refine m_nQ (k := 94) (y := 1) (j := 0) S M ok_Wi ((G (94) (by omega)).trans e0) ((G (1) (by omega)).trans e1) (by omega) rfl (by decide) rfl kc_45 rfl rfl hnm rfl rfl d_Wi_init_14 (fun H locs M => ?_)
  have hI := mI_sQ (k := 94) (j := 0) (y := 1) hI (by omega) (by omega)
  exact m_nret S hr hlk G M d_Wi_init_17
end
section
theorem d_Tr_init_0 : decode prog_7_method_1_code 0 = .ok (.aload_n 0, 1) := by decide +kernel
theorem d_Tr_init_1 : decode prog_7_method_1_code 1 = .ok (.invokespecial 3, 3) := by decide +kernel
theorem d_Tr_init_4 : decode prog_7_method_1_code 4 = .ok (.aload_n 0, 1) := by decide +kernel
theorem d_Tr_init_5 : decode prog_7_method_1_code 5 = .ok (.bipush 10, 2) := by decide +kernel
theorem d_Tr_init_7 : decode prog_7_method_1_code 7 = .ok (.newarray .long, 2) := by decide +kernel
theorem d_Tr_init_9 : decode prog_7_method_1_code 9 = .ok (.putfield 9, 3) := by decide +kernel
theorem d_Tr_init_12 : decode prog_7_method_1_code 12 = .ok (.aload_n 0, 1) := by decide +kernel
theorem d_Tr_init_13 : decode prog_7_method_1_code 13 = .ok (.bipush 10, 2) := by decide +kernel
theorem d_Tr_init_15 : decode prog_7_method_1_code 15 = .ok (.newarray .long, 2) := by decide +kernel
theorem d_Tr_init_17 : decode prog_7_method_1_code 17 = .ok (.putfield 15, 3) := by decide +kernel
theorem d_Tr_init_20 : decode prog_7_method_1_code 20 = .ok (.aload_n 0, 1) := by decide +kernel
theorem d_Tr_init_21 : decode prog_7_method_1_code 21 = .ok (.aload_n 1, 1) := by decide +kernel
theorem d_Tr_init_22 : decode prog_7_method_1_code 22 = .ok (.putfield 18, 3) := by decide +kernel
theorem d_Tr_init_25 : decode prog_7_method_1_code 25 = .ok (.return_, 1) := by decide +kernel
def rm_Tr_init : Room := { frames := 1, cells := 2, slots := 20, locals := 12 }
def g_Tr (σ : mS) : mS := (sQ (sQ (sQ σ 96 1 (some 97)) 96 2 (some 98)) 96 0 (some 1))
theorem gi_Tr {σ : mS} (hI : mI (97) σ) : mI (99) (g_Tr σ) := by
  have hI := mI_up hI
  have hI := mI_sQ (k := 96) (j := 1) (y := 97) hI (by omega) (by omega)
  have hI := mI_up hI
  have hI := mI_sQ (k := 96) (j := 2) (y := 98) hI (by omega) (by omega)
  have hI := mI_sQ (k := 96) (j := 0) (y := 1) hI (by omega) (by omega)
  exact hI
set_option maxHeartbeats 4000000 in
set_option maxRecDepth 100000 in
theorem c_Tr_init (l : Launch) (D : va_G) (cA ad : Nat → Nat) (σ : mS) (hI : mI (97) σ) (h0 : Nat) (h1 : Nat) (e0 : ad (96) = h0) (e1 : ad (1) = h1) : mCn l ⟨"LeastPaths$Trusts", "<init>", "(LLeastPaths$Graph;)V"⟩ (Cond.code ⟨"LeastPaths$Trusts", "<init>", "(LLeastPaths$Graph;)V"⟩ prog_7_method_1_code 2 none :: tlG) rm_Tr_init D clX (tyK cA) (tbC cA) (97) ad σ [.ref h0, .ref h1] (99) (g_Tr σ) 2 20 := by
  intro sz
  refine m_ofN (cc := prog_7_method_1_code) (maxL := 2) (ret := none) (Qc := mQn D clX (tyK cA) (tbC cA) (97) ad (99) (g_Tr σ)) (by decide) (Nat.le_of_ble_eq_true rfl) (fun p e s m args below meth c ls S hr hlk hnm hl N M => ?_) sz
  have hl : lv_has ls 2 [(0, .ref h0), (1, .ref h1)] := hl
  have hA : ∀ q, s.heap.size ≤ q → mA (97) ad s.heap.size q := fun q h => Or.inr h
  have G : ∀ k, k < 97 → ad k = ad k := fun _ _ => rfl
  refine lv_aload_n S.1 S.2.1 d_Tr_init_0 rfl (lv_at hl 0 rfl) ?_
  refine W.objInit S.1 S.2.1 S.2.2.2.1 (S.2.2.2.2 _ kc_46) (S.2.2.2.2 _ kc_1) (S.2.2.2.2 _ kc_2) rfl (hl.1.trans S.2.2.1.symm) rfl d_Tr_init_1 (Nat.le_of_ble_eq_true rfl) (Nat.le_of_ble_eq_true rfl) ?_
  refine W.eq (g2 := F0 m 4 ls []) rfl ?_
  refine lv_aload_n S.1 S.2.1 d_Tr_init_4 rfl (lv_at hl 0 rfl) ?_
  refine lv_bipush (v := 10) S.1 S.2.1 d_Tr_init_5 (by decide) ?_
  refine m_newa (atype := .long) (N := 10) (tg := 1) (k0 := 1) S M hI (tC_dy cA) hA ka_long rfl rfl rfl (fun _ h => by cases h) (fun _ => rfl) (by decide) (by decide) (by decide) (by decide) (Nat.le_of_ble_eq_true rfl) (Nat.le_of_ble_eq_true rfl) d_Tr_init_7 (fun q ad1 H g1 f M => ?_)
  subst f
  have hI := mI_up hI
  have G : ∀ k, k < 97 → ad1 k = ad k := fun k hk => (g1 k (by omega)).trans (G k hk)
  have f1 : ad1 (97) = ad1 (97) := rfl
  refine m_nQ (k := 96) (y := 97) (j := 1) S M ok_Tr ((G (96) (by omega)).trans e0) f1 (by omega) rfl (by decide) rfl kc_47 rfl rfl hnm rfl rfl d_Tr_init_9 (fun H locs M => ?_)
  have hI := mI_sQ (k := 96) (j := 1) (y := 97) hI (by omega) (by omega)
  refine lv_aload_n S.1 S.2.1 d_Tr_init_12 rfl (lv_at hl 0 rfl) ?_
  refine lv_bipush (v := 10) S.1 S.2.1 d_Tr_init_13 (by decide) ?_
  refine m_newa (atype := .long) (N := 10) (tg := 1) (k0 := 1) S M hI (tC_dy cA) hA ka_long rfl rfl rfl (fun _ h => by cases h) (fun _ => rfl) (by decide) (by decide) (by decide) (by decide) (Nat.le_of_ble_eq_true rfl) (Nat.le_of_ble_eq_true rfl) d_Tr_init_15 (fun q ad2 H g2 f M => ?_)
  subst f
  have hI := mI_up hI
  have G : ∀ k, k < 97 → ad2 k = ad k := fun k hk => (g2 k (by omega)).trans (G k hk)
  have f2 : ad2 (98) = ad2 (98) := rfl
  refine m_nQ (k := 96) (y := 98) (j := 2) S M ok_Tr ((G (96) (by omega)).trans e0) f2 (by omega) rfl (by decide) rfl kc_48 rfl rfl hnm rfl rfl d_Tr_init_17 (fun H locs M => ?_)
  have hI := mI_sQ (k := 96) (j := 2) (y := 98) hI (by omega) (by omega)
  refine lv_aload_n S.1 S.2.1 d_Tr_init_20 rfl (lv_at hl 0 rfl) ?_
  refine lv_aload_n S.1 S.2.1 d_Tr_init_21 rfl (lv_at hl 1 rfl) ?_
  refine m_nQ (k := 96) (y := 1) (j := 0) S M ok_Tr ((G (96) (by omega)).trans e0) ((G (1) (by omega)).trans e1) (by omega) rfl (by decide) rfl kc_49 rfl rfl hnm rfl rfl d_Tr_init_22 (fun H locs M => ?_)
  have hI := mI_sQ (k := 96) (j := 0) (y := 1) hI (by omega) (by omega)
  exact m_nret S hr hlk G M d_Tr_init_25
end
section
theorem d_Rw_init_0 : decode prog_5_method_1_code 0 = .ok (.aload_n 0, 1) := by decide +kernel
theorem d_Rw_init_1 : decode prog_5_method_1_code 1 = .ok (.invokespecial 3, 3) := by decide +kernel
theorem d_Rw_init_4 : decode prog_5_method_1_code 4 = .ok (.aload_n 0, 1) := by decide +kernel
theorem d_Rw_init_5 : decode prog_5_method_1_code 5 = .ok (.bipush 31, 2) := by decide +kernel
theorem d_Rw_init_7 : decode prog_5_method_1_code 7 = .ok (.anewarray 9, 3) := by decide +kernel
theorem d_Rw_init_10 : decode prog_5_method_1_code 10 = .ok (.putfield 11, 3) := by decide +kernel
theorem d_Rw_init_13 : decode prog_5_method_1_code 13 = .ok (.aload_n 0, 1) := by decide +kernel
theorem d_Rw_init_14 : decode prog_5_method_1_code 14 = .ok (.new 9, 3) := by decide +kernel
theorem d_Rw_init_17 : decode prog_5_method_1_code 17 = .ok (.dup, 1) := by decide +kernel
theorem d_Rw_init_18 : decode prog_5_method_1_code 18 = .ok (.invokespecial 17, 3) := by decide +kernel
theorem d_Rw_init_21 : decode prog_5_method_1_code 21 = .ok (.putfield 18, 3) := by decide +kernel
theorem d_Rw_init_24 : decode prog_5_method_1_code 24 = .ok (.aload_n 0, 1) := by decide +kernel
theorem d_Rw_init_25 : decode prog_5_method_1_code 25 = .ok (.aload_n 1, 1) := by decide +kernel
theorem d_Rw_init_26 : decode prog_5_method_1_code 26 = .ok (.putfield 22, 3) := by decide +kernel
theorem d_Rw_init_29 : decode prog_5_method_1_code 29 = .ok (.aload_n 0, 1) := by decide +kernel
theorem d_Rw_init_30 : decode prog_5_method_1_code 30 = .ok (.aload_n 2, 1) := by decide +kernel
theorem d_Rw_init_31 : decode prog_5_method_1_code 31 = .ok (.putfield 26, 3) := by decide +kernel
theorem d_Rw_init_34 : decode prog_5_method_1_code 34 = .ok (.iconst 0, 1) := by decide +kernel
theorem d_Rw_init_35 : decode prog_5_method_1_code 35 = .ok (.istore_n 3, 1) := by decide +kernel
theorem d_Rw_init_36 : decode prog_5_method_1_code 36 = .ok (.iload_n 3, 1) := by decide +kernel
theorem d_Rw_init_37 : decode prog_5_method_1_code 37 = .ok (.aload_n 0, 1) := by decide +kernel
theorem d_Rw_init_38 : decode prog_5_method_1_code 38 = .ok (.getfield 11, 3) := by decide +kernel
theorem d_Rw_init_41 : decode prog_5_method_1_code 41 = .ok (.arraylength, 1) := by decide +kernel
theorem d_Rw_init_42 : decode prog_5_method_1_code 42 = .ok (.if_icmp .ge 22, 3) := by decide +kernel
theorem d_Rw_init_45 : decode prog_5_method_1_code 45 = .ok (.aload_n 0, 1) := by decide +kernel
theorem d_Rw_init_46 : decode prog_5_method_1_code 46 = .ok (.getfield 11, 3) := by decide +kernel
theorem d_Rw_init_49 : decode prog_5_method_1_code 49 = .ok (.iload_n 3, 1) := by decide +kernel
theorem d_Rw_init_50 : decode prog_5_method_1_code 50 = .ok (.new 9, 3) := by decide +kernel
theorem d_Rw_init_53 : decode prog_5_method_1_code 53 = .ok (.dup, 1) := by decide +kernel
theorem d_Rw_init_54 : decode prog_5_method_1_code 54 = .ok (.invokespecial 17, 3) := by decide +kernel
theorem d_Rw_init_57 : decode prog_5_method_1_code 57 = .ok (.aastore, 1) := by decide +kernel
theorem d_Rw_init_58 : decode prog_5_method_1_code 58 = .ok (.iinc 3 1, 3) := by decide +kernel
theorem d_Rw_init_61 : decode prog_5_method_1_code 61 = .ok (.goto (-25), 3) := by decide +kernel
theorem d_Rw_init_64 : decode prog_5_method_1_code 64 = .ok (.return_, 1) := by decide +kernel
def rm_Rw_init : Room := { frames := 2, cells := 65, slots := 511, locals := 32 }
def g_Rw0 (σ : mS) : mS := (sQ (sQ (sQ (g_Wy 27 (sQ σ 25 2 (some 26))) 25 3 (some 27)) 25 0 (some 1)) 25 1 (some 16))
def rowS (σ : mS) : Nat → mS
  | 0 => σ
  | i + 1 => sQ (g_Wy (29 + 2 * i) (rowS σ i)) 26 i (some (29 + 2 * i))
def g_Rw (σ : mS) : mS := rowS (g_Rw0 σ) 31
theorem wy_i {i : Nat} (h : i < 31) : wy (29 + 2 * i) = true := by
  unfold wy
  exact decide_eq_true (by omega)
theorem rowS_I {σ : mS} (h : mI 29 σ) : ∀ i, i ≤ 31 → mI (29 + 2 * i) (rowS σ i) := by
  intro i
  induction i with
  | zero => intro _; exact h
  | succ i ih =>
    intro hi
    have h1 := gi_Wy (wy_i (i := i) (by omega)) (mI_up (ih (by omega)))
    exact mI_sQ h1 (by omega) (by omega)
theorem rowS_q {σ : mS} {k j : Nat} (hk : k < 26) : ∀ i, (rowS σ i).2.2 k j = σ.2.2 k j := by
  intro i
  induction i with
  | zero => rfl
  | succ i ih =>
    rw [← ih]
    have h1 : k ≠ 26 := by omega
    have h2 : k ≠ 29 + 2 * i := by omega
    simp [rowS, g_Wy, sQ, up2, h1, h2]
theorem gi_Rw0 {σ : mS} (hI : mI 26 σ) : mI 29 (g_Rw0 σ) := by
  have hI := mI_up hI
  have hI := mI_sQ (k := 25) (j := 2) (y := 26) hI (by omega) (by omega)
  have hI := mI_up hI
  have hI := gi_Wy wy_27 hI 
  have hI := mI_sQ (k := 25) (j := 3) (y := 27) hI (by omega) (by omega)
  have hI := mI_sQ (k := 25) (j := 0) (y := 1) hI (by omega) (by omega)
  have hI := mI_sQ (k := 25) (j := 1) (y := 16) hI (by omega) (by omega)
  exact hI
theorem gi_Rw {σ : mS} (hI : mI 26 σ) : mI 91 (g_Rw σ) := rowS_I (gi_Rw0 hI) 31 (Nat.le_refl _)
set_option maxHeartbeats 4000000 in
set_option maxRecDepth 100000 in
theorem c_Rw_init (l : Launch) (D : va_G) (cA ad : Nat → Nat) (σ : mS) (hI : mI 26 σ) (h0 h1 h2 : Nat) (e0 : ad 25 = h0) (e1 : ad 1 = h1) (e2 : ad 16 = h2) : mCn l ⟨"LeastPaths$Row", "<init>", "(LLeastPaths$Graph;LLeastPaths$Search;)V"⟩ (Cond.code ⟨"LeastPaths$Row", "<init>", "(LLeastPaths$Graph;LLeastPaths$Search;)V"⟩ prog_5_method_1_code 4 none :: tlG) rm_Rw_init D clX (tyK cA) (tbC cA) 26 ad σ [.ref h0, .ref h1, .ref h2] 91 (g_Rw σ) 65 511 := by
  intro sz
  refine m_ofN (cc := prog_5_method_1_code) (maxL := 4) (ret := none) (Qc := mQn D clX (tyK cA) (tbC cA) 26 ad 91 (g_Rw σ)) (by decide) (Nat.le_of_ble_eq_true rfl) (fun p e s m args below meth c ls S hr hlk hnm hl N M => ?_) sz
  have hl : lv_has ls 4 [(0, .ref h0), (1, .ref h1), (2, .ref h2)] := hl
  have hA : ∀ q, s.heap.size ≤ q → mA 26 ad s.heap.size q := fun q h => Or.inr h
  have hI0 := gi_Rw0 hI
  have G : ∀ k, k < 26 → ad k = ad k := fun _ _ => rfl
  refine lv_aload_n S.1 S.2.1 d_Rw_init_0 rfl (lv_at hl 0 rfl) ?_
  refine W.objInit S.1 S.2.1 S.2.2.2.1 (S.2.2.2.2 _ kc_50) (S.2.2.2.2 _ kc_1) (S.2.2.2.2 _ kc_2) rfl (hl.1.trans S.2.2.1.symm) rfl d_Rw_init_1 (Nat.le_of_ble_eq_true rfl) (Nat.le_of_ble_eq_true rfl) ?_
  refine W.eq (g2 := F0 m 4 ls []) rfl ?_
  refine lv_aload_n S.1 S.2.1 d_Rw_init_4 rfl (lv_at hl 0 rfl) ?_
  refine lv_bipush (v := 31) S.1 S.2.1 d_Rw_init_5 (by decide) ?_
  refine m_newq (N := 31) (k0 := 3) S M hI (tC_dy cA) hA kc_51 N.2.2.2 rfl rfl (by decide) (by decide) (by decide) (Nat.le_of_ble_eq_true rfl) (Nat.le_of_ble_eq_true rfl) d_Rw_init_7 (fun q ad1 H g1 f M => ?_)
  subst f
  have hI := mI_up hI
  have G : ∀ k, k < 26 → ad1 k = ad k := fun k hk => (g1 k (by omega)).trans (G k hk)
  have f1 : ad1 (26) = ad1 (26) := rfl
  refine m_nQ (k := 25) (y := 26) (j := 2) S M ok_Rw ((G (25) (by omega)).trans e0) f1 (by omega) rfl (by decide) rfl kc_52 rfl rfl hnm rfl rfl d_Rw_init_10 (fun H locs M => ?_)
  have hI := mI_sQ (k := 25) (j := 2) (y := 26) hI (by omega) (by omega)
  refine lv_aload_n S.1 S.2.1 d_Rw_init_13 rfl (lv_at hl 0 rfl) ?_
  refine m_new S M hI (tC_dy cA) hA ok_Wy rfl kc_51 kn_Wy kc_37 kd_Wy (Nat.le_of_ble_eq_true rfl) (Nat.le_of_ble_eq_true rfl) d_Rw_init_14 (fun q ad2 H g2 f M => ?_)
  subst f
  have hI := mI_up hI
  have G : ∀ k, k < 26 → ad2 k = ad k := fun k hk => (g2 k (by omega)).trans (G k hk)
  have f2 : ad2 (27) = ad2 (27) := rfl
  refine lv_dup S.1 S.2.1 d_Rw_init_17 rfl ?_
  refine m_xn (m_rIN (As := []) (rest := [.ref (ad2 (27)), .ref h0]) S N M hl.1 (cwGN (n := 0) S.2.2.2.2 N.2.1 kc_38 kc_37 kc_39 rfl (by decide) ⟨Nat.le_of_ble_eq_true rfl, Nat.le_of_ble_eq_true rfl⟩) (c_Wy_init l D cA _ _ wy_27 hI _ f2  ) rfl rfl (Nat.le_of_ble_eq_true rfl) d_Rw_init_18 ⟨Nat.le_of_ble_eq_true rfl, Nat.le_of_ble_eq_true rfl⟩) M hA (fun ad3 H locs g3 M => ?_)
  have hI := gi_Wy wy_27 hI 
  have G : ∀ k, k < 26 → ad3 k = ad k := fun k hk => (g3 k (by omega)).trans (G k hk)
  have f2 : ad3 (27) = (ad2 (27)) := (g3 (27) (by omega)).trans f2
  refine m_nQ (k := 25) (y := 27) (j := 3) S M ok_Rw ((G (25) (by omega)).trans e0) f2 (by omega) rfl (by decide) rfl kc_53 rfl rfl hnm rfl rfl d_Rw_init_21 (fun H locs M => ?_)
  have hI := mI_sQ (k := 25) (j := 3) (y := 27) hI (by omega) (by omega)
  refine lv_aload_n S.1 S.2.1 d_Rw_init_24 rfl (lv_at hl 0 rfl) ?_
  refine lv_aload_n S.1 S.2.1 d_Rw_init_25 rfl (lv_at hl 1 rfl) ?_
  refine m_nQ (k := 25) (y := 1) (j := 0) S M ok_Rw ((G (25) (by omega)).trans e0) ((G (1) (by omega)).trans e1) (by omega) rfl (by decide) rfl kc_54 rfl rfl hnm rfl rfl d_Rw_init_26 (fun H locs M => ?_)
  have hI := mI_sQ (k := 25) (j := 0) (y := 1) hI (by omega) (by omega)
  refine lv_aload_n S.1 S.2.1 d_Rw_init_29 rfl (lv_at hl 0 rfl) ?_
  refine lv_aload_n S.1 S.2.1 d_Rw_init_30 rfl (lv_at hl 2 rfl) ?_
  refine m_nQ (k := 25) (y := 16) (j := 1) S M ok_Rw ((G (25) (by omega)).trans e0) ((G (16) (by omega)).trans e2) (by omega) rfl (by decide) rfl kc_55 rfl rfl hnm rfl rfl d_Rw_init_31 (fun H locs M => ?_)
  have hI := mI_sQ (k := 25) (j := 1) (y := 16) hI (by omega) (by omega)
  refine lv_iconst (v := 0) S.1 S.2.1 d_Rw_init_34 (by decide) ?_
  refine lv_istore_n (lv' := [(3, .int 0), (0, .ref h0), (1, .ref h1), (2, .ref h2)]) S.1 S.2.1 d_Rw_init_35 rfl hl (by decide) rfl (fun ls hl => ?_)
  generalize hQ : MQ _ _ _ _ _ _ _ = Q
  have loop : ∀ (d i : Nat), i + d = 31 → ∀ (adI : Nat → Nat) (ls : Array Slot) (H : Heap) (locs : List Loc), (∀ k, k < 26 → adI k = ad k) → lv_has ls 4 [(3, .int (nI i)), (0, .ref h0), (1, .ref h1), (2, .ref h2)] → mM D clX (tyK cA) (mA 26 ad s.heap.size) s (29 + 2 * i) (tbC cA) adI (rowS (g_Rw0 σ) i) H locs → W p l e rm_Rw_init s m args below meth c H locs (3 + 2 * i) (46 + 15 * i) Q (F0 m 36 ls []) := by
    intro d
    induction d with
    | zero =>
      intro i hi adI ls H locs GI hl M
      have hi : i = 31 := by omega
      subst hi
      refine lv_iload_n S.1 S.2.1 d_Rw_init_36 rfl (lv_at hl 0 rfl) ?_
      refine lv_aload_n S.1 S.2.1 d_Rw_init_37 rfl (lv_at hl 1 rfl) ?_
      refine m_gq (k := 25) (j := 2) (y := 26) S M ok_Rw ((GI 25 (by omega)).trans e0) (by omega) rfl (by decide) rfl kc_52 rfl (by rw [rowS_q (by omega)]; rfl) d_Rw_init_38 ?_
      refine m_alen (k := 26) (N := 31) (t0 := 3) S M (by omega) rfl rfl d_Rw_init_41 ?_
      refine lv_icmp_ge (tgt := 64) S.1 S.2.1 d_Rw_init_42 (by decide) (fun _ => ?_) (fun hc => absurd (nI_le (Nat.le_refl 31) (by decide)) hc)
      subst hQ
      exact m_nret S hr hlk GI M d_Rw_init_64
    | succ d ih =>
      intro i hi adI ls H locs GI hl M
      have hIi := rowS_I hI0 i (by omega)
      refine lv_iload_n S.1 S.2.1 d_Rw_init_36 rfl (lv_at hl 0 rfl) ?_
      refine lv_aload_n S.1 S.2.1 d_Rw_init_37 rfl (lv_at hl 1 rfl) ?_
      refine m_gq (k := 25) (j := 2) (y := 26) S M ok_Rw ((GI 25 (by omega)).trans e0) (by omega) rfl (by decide) rfl kc_52 rfl (by rw [rowS_q (by omega)]; rfl) d_Rw_init_38 ?_
      refine m_alen (k := 26) (N := 31) (t0 := 3) S M (by omega) rfl rfl d_Rw_init_41 ?_
      refine lv_icmp_ge (tgt := 64) S.1 S.2.1 d_Rw_init_42 (by decide) (fun hc => absurd hc (nI_ge (a := i) (b := 31) (by omega) (by decide))) (fun _ => ?_)
      refine lv_aload_n S.1 S.2.1 d_Rw_init_45 rfl (lv_at hl 1 rfl) ?_
      refine m_gq (k := 25) (j := 2) (y := 26) S M ok_Rw ((GI 25 (by omega)).trans e0) (by omega) rfl (by decide) rfl kc_52 rfl (by rw [rowS_q (by omega)]; rfl) d_Rw_init_46 ?_
      refine lv_iload_n S.1 S.2.1 d_Rw_init_49 rfl (lv_at hl 0 rfl) ?_
      refine m_new S M hIi (tC_dy cA) hA ok_Wy (tC_Y0 (wy_i (by omega))) kc_51 kn_Wy kc_37 kd_Wy (by show _ ≤ 65; omega) (by show _ ≤ 511; omega) d_Rw_init_50 (fun q ad1 H g1 f M => ?_)
      subst f
      have hI1 := mI_up hIi
      refine lv_dup S.1 S.2.1 d_Rw_init_53 rfl ?_
      refine m_xn (m_rIN (As := []) (rest := [.ref (ad1 (29 + 2 * i)), .int (nI i), .ref (adI 26)]) S N M hl.1 (cwGN (n := 0) S.2.2.2.2 N.2.1 kc_38 kc_37 kc_39 rfl (by decide) ⟨Nat.le_of_ble_eq_true rfl, Nat.le_of_ble_eq_true rfl⟩) (c_Wy_init l D cA _ _ (wy_i (by omega)) hI1 _ rfl) rfl rfl (Nat.le_of_ble_eq_true rfl) d_Rw_init_54 ⟨by show _ ≤ 65; omega, by show _ ≤ 511; omega⟩) M hA (fun ad2 H locs g2 M => ?_)
      rw [← g2 (29 + 2 * i) (by omega), ← g1 26 (by omega), ← g2 26 (by omega)]
      refine m_aas (k := 26) (k2 := 29 + 2 * i) (t0 := 3) (N := 31) (r := sQ (g_Wy (29 + 2 * i) (rowS (g_Rw0 σ) i)) 26 i (some (29 + 2 * i))) (f := fun z => some z) S M ok_Wy (by omega) rfl rfl (by omega) (tC_Y0 (wy_i (by omega))) ?_ d_Rw_init_57 (fun σ1 H locs h M => ?_)
      · have hin : inb (nI i) 31 = true := by
          unfold inb
          rw [nI_toInt (by omega)]
          exact decide_eq_true (by omega)
        rw [hin, nI_clamp (by omega)]
        rfl
      · have h := Option.some.inj h
        subst h
        refine lv_iinc (v := nI i + 1) (lv' := [(3, .int (nI i + 1)), (0, .ref h0), (1, .ref h1), (2, .ref h2)]) S.1 S.2.1 d_Rw_init_58 hl (k := 0) rfl rfl (by decide) rfl (fun ls hl => ?_)
        rw [nI_1] at hl
        refine lv_goto (tgt := 36) S.1 S.2.1 d_Rw_init_61 (by decide) ?_
        refine W.widen (k := 3 + 2 * (i + 1)) (n := 46 + 15 * (i + 1)) (by omega) (by omega) ?_
        exact ih (i + 1) (by omega) ad2 ls _ _ (fun k hk => ((g2 k (by omega)).trans (g1 k (by omega))).trans (GI k hk)) hl M
  exact loop 31 0 rfl _ ls _ _ G (by rw [nI_0]; exact hl) M
end
section
theorem d_LP_init_0 : decode prog_1_method_1_code 0 = .ok (.aload_n 0, 1) := by decide +kernel
theorem d_LP_init_1 : decode prog_1_method_1_code 1 = .ok (.invokespecial 3, 3) := by decide +kernel
theorem d_LP_init_4 : decode prog_1_method_1_code 4 = .ok (.aload_n 0, 1) := by decide +kernel
theorem d_LP_init_5 : decode prog_1_method_1_code 5 = .ok (.iconst 3, 1) := by decide +kernel
theorem d_LP_init_6 : decode prog_1_method_1_code 6 = .ok (.iconst 1, 1) := by decide +kernel
theorem d_LP_init_7 : decode prog_1_method_1_code 7 = .ok (.iload_n 1, 1) := by decide +kernel
theorem d_LP_init_8 : decode prog_1_method_1_code 8 = .ok (.invokestatic 11, 3) := by decide +kernel
theorem d_LP_init_11 : decode prog_1_method_1_code 11 = .ok (.invokestatic 17, 3) := by decide +kernel
theorem d_LP_init_14 : decode prog_1_method_1_code 14 = .ok (.putfield 20, 3) := by decide +kernel
theorem d_LP_init_17 : decode prog_1_method_1_code 17 = .ok (.aload_n 0, 1) := by decide +kernel
theorem d_LP_init_18 : decode prog_1_method_1_code 18 = .ok (.new 24, 3) := by decide +kernel
theorem d_LP_init_21 : decode prog_1_method_1_code 21 = .ok (.dup, 1) := by decide +kernel
theorem d_LP_init_22 : decode prog_1_method_1_code 22 = .ok (.invokespecial 26, 3) := by decide +kernel
theorem d_LP_init_25 : decode prog_1_method_1_code 25 = .ok (.putfield 27, 3) := by decide +kernel
theorem d_LP_init_28 : decode prog_1_method_1_code 28 = .ok (.aload_n 0, 1) := by decide +kernel
theorem d_LP_init_29 : decode prog_1_method_1_code 29 = .ok (.new 31, 3) := by decide +kernel
theorem d_LP_init_32 : decode prog_1_method_1_code 32 = .ok (.dup, 1) := by decide +kernel
theorem d_LP_init_33 : decode prog_1_method_1_code 33 = .ok (.aload_n 0, 1) := by decide +kernel
theorem d_LP_init_34 : decode prog_1_method_1_code 34 = .ok (.getfield 27, 3) := by decide +kernel
theorem d_LP_init_37 : decode prog_1_method_1_code 37 = .ok (.iconst 0, 1) := by decide +kernel
theorem d_LP_init_38 : decode prog_1_method_1_code 38 = .ok (.aload_n 0, 1) := by decide +kernel
theorem d_LP_init_39 : decode prog_1_method_1_code 39 = .ok (.getfield 20, 3) := by decide +kernel
theorem d_LP_init_42 : decode prog_1_method_1_code 42 = .ok (.invokespecial 33, 3) := by decide +kernel
theorem d_LP_init_45 : decode prog_1_method_1_code 45 = .ok (.putfield 36, 3) := by decide +kernel
theorem d_LP_init_48 : decode prog_1_method_1_code 48 = .ok (.aload_n 0, 1) := by decide +kernel
theorem d_LP_init_49 : decode prog_1_method_1_code 49 = .ok (.new 31, 3) := by decide +kernel
theorem d_LP_init_52 : decode prog_1_method_1_code 52 = .ok (.dup, 1) := by decide +kernel
theorem d_LP_init_53 : decode prog_1_method_1_code 53 = .ok (.aload_n 0, 1) := by decide +kernel
theorem d_LP_init_54 : decode prog_1_method_1_code 54 = .ok (.getfield 27, 3) := by decide +kernel
theorem d_LP_init_57 : decode prog_1_method_1_code 57 = .ok (.iconst 1, 1) := by decide +kernel
theorem d_LP_init_58 : decode prog_1_method_1_code 58 = .ok (.aload_n 0, 1) := by decide +kernel
theorem d_LP_init_59 : decode prog_1_method_1_code 59 = .ok (.getfield 20, 3) := by decide +kernel
theorem d_LP_init_62 : decode prog_1_method_1_code 62 = .ok (.invokespecial 33, 3) := by decide +kernel
theorem d_LP_init_65 : decode prog_1_method_1_code 65 = .ok (.putfield 40, 3) := by decide +kernel
theorem d_LP_init_68 : decode prog_1_method_1_code 68 = .ok (.aload_n 0, 1) := by decide +kernel
theorem d_LP_init_69 : decode prog_1_method_1_code 69 = .ok (.new 43, 3) := by decide +kernel
theorem d_LP_init_72 : decode prog_1_method_1_code 72 = .ok (.dup, 1) := by decide +kernel
theorem d_LP_init_73 : decode prog_1_method_1_code 73 = .ok (.aload_n 0, 1) := by decide +kernel
theorem d_LP_init_74 : decode prog_1_method_1_code 74 = .ok (.getfield 36, 3) := by decide +kernel
theorem d_LP_init_77 : decode prog_1_method_1_code 77 = .ok (.aload_n 0, 1) := by decide +kernel
theorem d_LP_init_78 : decode prog_1_method_1_code 78 = .ok (.getfield 40, 3) := by decide +kernel
theorem d_LP_init_81 : decode prog_1_method_1_code 81 = .ok (.invokespecial 45, 3) := by decide +kernel
theorem d_LP_init_84 : decode prog_1_method_1_code 84 = .ok (.putfield 48, 3) := by decide +kernel
theorem d_LP_init_87 : decode prog_1_method_1_code 87 = .ok (.aload_n 0, 1) := by decide +kernel
theorem d_LP_init_88 : decode prog_1_method_1_code 88 = .ok (.new 52, 3) := by decide +kernel
theorem d_LP_init_91 : decode prog_1_method_1_code 91 = .ok (.dup, 1) := by decide +kernel
theorem d_LP_init_92 : decode prog_1_method_1_code 92 = .ok (.aload_n 0, 1) := by decide +kernel
theorem d_LP_init_93 : decode prog_1_method_1_code 93 = .ok (.getfield 27, 3) := by decide +kernel
theorem d_LP_init_96 : decode prog_1_method_1_code 96 = .ok (.aload_n 0, 1) := by decide +kernel
theorem d_LP_init_97 : decode prog_1_method_1_code 97 = .ok (.getfield 40, 3) := by decide +kernel
theorem d_LP_init_100 : decode prog_1_method_1_code 100 = .ok (.invokespecial 54, 3) := by decide +kernel
theorem d_LP_init_103 : decode prog_1_method_1_code 103 = .ok (.putfield 57, 3) := by decide +kernel
theorem d_LP_init_106 : decode prog_1_method_1_code 106 = .ok (.aload_n 0, 1) := by decide +kernel
theorem d_LP_init_107 : decode prog_1_method_1_code 107 = .ok (.new 61, 3) := by decide +kernel
theorem d_LP_init_110 : decode prog_1_method_1_code 110 = .ok (.dup, 1) := by decide +kernel
theorem d_LP_init_111 : decode prog_1_method_1_code 111 = .ok (.aload_n 0, 1) := by decide +kernel
theorem d_LP_init_112 : decode prog_1_method_1_code 112 = .ok (.getfield 27, 3) := by decide +kernel
theorem d_LP_init_115 : decode prog_1_method_1_code 115 = .ok (.aload_n 0, 1) := by decide +kernel
theorem d_LP_init_116 : decode prog_1_method_1_code 116 = .ok (.getfield 40, 3) := by decide +kernel
theorem d_LP_init_119 : decode prog_1_method_1_code 119 = .ok (.invokespecial 63, 3) := by decide +kernel
theorem d_LP_init_122 : decode prog_1_method_1_code 122 = .ok (.putfield 64, 3) := by decide +kernel
theorem d_LP_init_125 : decode prog_1_method_1_code 125 = .ok (.aload_n 0, 1) := by decide +kernel
theorem d_LP_init_126 : decode prog_1_method_1_code 126 = .ok (.new 68, 3) := by decide +kernel
theorem d_LP_init_129 : decode prog_1_method_1_code 129 = .ok (.dup, 1) := by decide +kernel
theorem d_LP_init_130 : decode prog_1_method_1_code 130 = .ok (.aload_n 0, 1) := by decide +kernel
theorem d_LP_init_131 : decode prog_1_method_1_code 131 = .ok (.getfield 27, 3) := by decide +kernel
theorem d_LP_init_134 : decode prog_1_method_1_code 134 = .ok (.invokespecial 70, 3) := by decide +kernel
theorem d_LP_init_137 : decode prog_1_method_1_code 137 = .ok (.putfield 73, 3) := by decide +kernel
theorem d_LP_init_140 : decode prog_1_method_1_code 140 = .ok (.aload_n 0, 1) := by decide +kernel
theorem d_LP_init_141 : decode prog_1_method_1_code 141 = .ok (.new 77, 3) := by decide +kernel
theorem d_LP_init_144 : decode prog_1_method_1_code 144 = .ok (.dup, 1) := by decide +kernel
theorem d_LP_init_145 : decode prog_1_method_1_code 145 = .ok (.aload_n 0, 1) := by decide +kernel
theorem d_LP_init_146 : decode prog_1_method_1_code 146 = .ok (.getfield 27, 3) := by decide +kernel
theorem d_LP_init_149 : decode prog_1_method_1_code 149 = .ok (.invokespecial 79, 3) := by decide +kernel
theorem d_LP_init_152 : decode prog_1_method_1_code 152 = .ok (.putfield 80, 3) := by decide +kernel
theorem d_LP_init_155 : decode prog_1_method_1_code 155 = .ok (.return_, 1) := by decide +kernel
def rm_LP_init : Room := { frames := 3, cells := 98, slots := 949, locals := 65 }
def g_LP (σ : mS) (x1 : Int32) : mS := (sQ (g_Tr (sQ (g_Wi (sQ (g_Rg (sQ (g_Rw (sQ (g_BS (sQ (g_Se 16 (sQ (g_Se 8 (sQ (g_Gr (sI σ 0 0 (if (if 1 < x1 then x1 else 1) < 3 then (if 1 < x1 then x1 else 1) else 3))) 0 1 (some 1)) 0 (if (if 1 < x1 then x1 else 1) < 3 then (if 1 < x1 then x1 else 1) else 3)) 0 2 (some 8)) 1 (if (if 1 < x1 then x1 else 1) < 3 then (if 1 < x1 then x1 else 1) else 3)) 0 3 (some 16))) 0 4 (some 24))) 0 5 (some 25))) 0 6 (some 91))) 0 7 (some 94))) 0 8 (some 96))
theorem gi_LP {σ : mS} (hI : mI (1) σ) (x1 : Int32) : mI (99) (g_LP σ x1) := by
  have hI := mI_sI (k := 0) (j := 0) (v := if (if 1 < x1 then x1 else 1) < 3 then (if 1 < x1 then x1 else 1) else 3) hI (by omega)
  have hI := mI_up hI
  have hI := gi_Gr  hI 
  have hI := mI_sQ (k := 0) (j := 1) (y := 1) hI (by omega) (by omega)
  have hI := mI_up hI
  have hI := gi_Se sB_8 hI 0 (if (if 1 < x1 then x1 else 1) < 3 then (if 1 < x1 then x1 else 1) else 3)
  have hI := mI_sQ (k := 0) (j := 2) (y := 8) hI (by omega) (by omega)
  have hI := mI_up hI
  have hI := gi_Se sB_16 hI 1 (if (if 1 < x1 then x1 else 1) < 3 then (if 1 < x1 then x1 else 1) else 3)
  have hI := mI_sQ (k := 0) (j := 3) (y := 16) hI (by omega) (by omega)
  have hI := mI_up hI
  have hI := gi_BS  hI 
  have hI := mI_sQ (k := 0) (j := 4) (y := 24) hI (by omega) (by omega)
  have hI := mI_up hI
  have hI := gi_Rw  hI 
  have hI := mI_sQ (k := 0) (j := 5) (y := 25) hI (by omega) (by omega)
  have hI := mI_up hI
  have hI := gi_Rg  hI 
  have hI := mI_sQ (k := 0) (j := 6) (y := 91) hI (by omega) (by omega)
  have hI := mI_up hI
  have hI := gi_Wi  hI 
  have hI := mI_sQ (k := 0) (j := 7) (y := 94) hI (by omega) (by omega)
  have hI := mI_up hI
  have hI := gi_Tr  hI 
  have hI := mI_sQ (k := 0) (j := 8) (y := 96) hI (by omega) (by omega)
  exact hI
set_option maxHeartbeats 4000000 in
set_option maxRecDepth 100000 in
theorem c_LP_init (l : Launch) (D : va_G) (cA ad : Nat → Nat) (σ : mS) (hI : mI (1) σ) (h0 : Nat) (e0 : ad (0) = h0) (x1 : Int32) : mCn l ⟨"LeastPaths", "<init>", "(I)V"⟩ (Cond.code ⟨"LeastPaths", "<init>", "(I)V"⟩ prog_1_method_1_code 2 none :: tlG) rm_LP_init D clX (tyK cA) (tbC cA) (1) ad σ [.ref h0, .int x1] (99) (g_LP σ x1) 98 949 := by
  intro sz
  refine m_ofN (cc := prog_1_method_1_code) (maxL := 2) (ret := none) (Qc := mQn D clX (tyK cA) (tbC cA) (1) ad (99) (g_LP σ x1)) (by decide) (Nat.le_of_ble_eq_true rfl) (fun p e s m args below meth c ls S hr hlk hnm hl N M => ?_) sz
  have hl : lv_has ls 2 [(0, .ref h0), (1, .int x1)] := hl
  have hA : ∀ q, s.heap.size ≤ q → mA (1) ad s.heap.size q := fun q h => Or.inr h
  have G : ∀ k, k < 1 → ad k = ad k := fun _ _ => rfl
  refine lv_aload_n S.1 S.2.1 d_LP_init_0 rfl (lv_at hl 0 rfl) ?_
  refine W.objInit S.1 S.2.1 S.2.2.2.1 (S.2.2.2.2 _ kc_56) (S.2.2.2.2 _ kc_1) (S.2.2.2.2 _ kc_2) rfl (hl.1.trans S.2.2.1.symm) rfl d_LP_init_1 (Nat.le_of_ble_eq_true rfl) (Nat.le_of_ble_eq_true rfl) ?_
  refine W.eq (g2 := F0 m 4 ls []) rfl ?_
  refine lv_aload_n S.1 S.2.1 d_LP_init_4 rfl (lv_at hl 0 rfl) ?_
  refine lv_iconst (v := 3) S.1 S.2.1 d_LP_init_5 (by decide) ?_
  refine lv_iconst (v := 1) S.1 S.2.1 d_LP_init_6 (by decide) ?_
  refine lv_iload_n S.1 S.2.1 d_LP_init_7 rfl (lv_at hl 1 rfl) ?_
  refine va_mmax (rest := [.int 3, .ref h0]) S.1 S.2.1 (S.2.2.1.trans hl.1.symm) S.2.2.2.1 (S.2.2.2.2 _ kc_57) (S.2.2.2.2 _ kc_14) (S.2.2.2.2 _ kc_15) (S.2.2.2.2 _ kc_16) (Nat.le_of_ble_eq_true rfl) (Nat.le_of_ble_eq_true rfl) (Nat.le_of_ble_eq_true rfl) (Nat.le_of_ble_eq_true rfl) d_LP_init_8 ?_
  refine va_mmin (rest := [.ref h0]) S.1 S.2.1 (S.2.2.1.trans hl.1.symm) S.2.2.2.1 (S.2.2.2.2 _ kc_58) (S.2.2.2.2 _ kc_59) (S.2.2.2.2 _ kc_15) (S.2.2.2.2 _ kc_60) (Nat.le_of_ble_eq_true rfl) (Nat.le_of_ble_eq_true rfl) (Nat.le_of_ble_eq_true rfl) (Nat.le_of_ble_eq_true rfl) d_LP_init_11 ?_
  refine m_nI (k := 0) (j := 0) S M ok_LP ((G (0) (by omega)).trans e0) (by omega) rfl (by decide) rfl kc_61 rfl hnm rfl rfl d_LP_init_14 (fun H locs M => ?_)
  have hI := mI_sI (k := 0) (j := 0) (v := if (if 1 < x1 then x1 else 1) < 3 then (if 1 < x1 then x1 else 1) else 3) hI (by omega)
  refine lv_aload_n S.1 S.2.1 d_LP_init_17 rfl (lv_at hl 0 rfl) ?_
  refine m_new S M hI (tC_dy cA) hA ok_Gr rfl kc_62 kn_Gr kc_63 kd_Gr (Nat.le_of_ble_eq_true rfl) (Nat.le_of_ble_eq_true rfl) d_LP_init_18 (fun q ad1 H g1 f M => ?_)
  subst f
  have hI := mI_up hI
  have G : ∀ k, k < 1 → ad1 k = ad k := fun k hk => (g1 k (by omega)).trans (G k hk)
  have f1 : ad1 (1) = ad1 (1) := rfl
  refine lv_dup S.1 S.2.1 d_LP_init_21 rfl ?_
  refine m_xn (m_rIN (As := []) (rest := [.ref (ad1 (1)), .ref h0]) S N M hl.1 (cwGN (n := 0) S.2.2.2.2 N.1 kc_64 kc_63 kc_65 rfl (by decide) ⟨Nat.le_of_ble_eq_true rfl, Nat.le_of_ble_eq_true rfl⟩) (c_Gr_init l D cA _ _  hI _ f1  ) rfl rfl (Nat.le_of_ble_eq_true rfl) d_LP_init_22 ⟨Nat.le_of_ble_eq_true rfl, Nat.le_of_ble_eq_true rfl⟩) M hA (fun ad2 H locs g2 M => ?_)
  have hI := gi_Gr  hI 
  have G : ∀ k, k < 1 → ad2 k = ad k := fun k hk => (g2 k (by omega)).trans (G k hk)
  have f1 : ad2 (1) = (ad1 (1)) := (g2 (1) (by omega)).trans f1
  refine m_nQ (k := 0) (y := 1) (j := 1) S M ok_LP ((G (0) (by omega)).trans e0) f1 (by omega) rfl (by decide) rfl kc_66 rfl rfl hnm rfl rfl d_LP_init_25 (fun H locs M => ?_)
  have hI := mI_sQ (k := 0) (j := 1) (y := 1) hI (by omega) (by omega)
  refine lv_aload_n S.1 S.2.1 d_LP_init_28 rfl (lv_at hl 0 rfl) ?_
  refine m_new S M hI (tC_dy cA) hA ok_Se rfl kc_67 kn_Se kc_68 kd_Se (Nat.le_of_ble_eq_true rfl) (Nat.le_of_ble_eq_true rfl) d_LP_init_29 (fun q ad3 H g3 f M => ?_)
  subst f
  have hI := mI_up hI
  have G : ∀ k, k < 1 → ad3 k = ad k := fun k hk => (g3 k (by omega)).trans (G k hk)
  have f3 : ad3 (8) = ad3 (8) := rfl
  refine lv_dup S.1 S.2.1 d_LP_init_32 rfl ?_
  refine lv_aload_n S.1 S.2.1 d_LP_init_33 rfl (lv_at hl 0 rfl) ?_
  refine m_gq (k := 0) (j := 1) (y := 1) S M ok_LP ((G (0) (by omega)).trans e0) (by omega) rfl (by decide) rfl kc_66 rfl rfl d_LP_init_34 ?_
  refine lv_iconst (v := 0) S.1 S.2.1 d_LP_init_37 (by decide) ?_
  refine lv_aload_n S.1 S.2.1 d_LP_init_38 rfl (lv_at hl 0 rfl) ?_
  refine m_giA (k := 0) (j := 0) (v := if (if 1 < x1 then x1 else 1) < 3 then (if 1 < x1 then x1 else 1) else 3) S M ok_LP ((G (0) (by omega)).trans e0) (by omega) rfl (by decide) rfl kc_61 rfl rfl d_LP_init_39 ?_
  refine m_xn (m_rI (As := [.ref (ad3 (1)), .int 0, .int (if (if 1 < x1 then x1 else 1) < 3 then (if 1 < x1 then x1 else 1) else 3)]) (rest := [.ref (ad3 (8)), .ref h0]) S N M hl.1 (cwGI (n := 3) S.2.2.2.2 kc_69 kc_70 kc_68 kc_71 rfl (by decide) ⟨Nat.le_of_ble_eq_true rfl, Nat.le_of_ble_eq_true rfl⟩) (c_Se_init l D cA _ _ sB_8 hI _ _ f3 rfl 0 (if (if 1 < x1 then x1 else 1) < 3 then (if 1 < x1 then x1 else 1) else 3) (by decide)) rfl rfl (Nat.le_of_ble_eq_true rfl) d_LP_init_42 ⟨Nat.le_of_ble_eq_true rfl, Nat.le_of_ble_eq_true rfl⟩) M hA (fun ad4 H locs g4 M => ?_)
  have hI := gi_Se sB_8 hI 0 (if (if 1 < x1 then x1 else 1) < 3 then (if 1 < x1 then x1 else 1) else 3)
  have G : ∀ k, k < 1 → ad4 k = ad k := fun k hk => (g4 k (by omega)).trans (G k hk)
  have f3 : ad4 (8) = (ad3 (8)) := (g4 (8) (by omega)).trans f3
  refine m_nQ (k := 0) (y := 8) (j := 2) S M ok_LP ((G (0) (by omega)).trans e0) f3 (by omega) rfl (by decide) rfl kc_72 rfl rfl hnm rfl rfl d_LP_init_45 (fun H locs M => ?_)
  have hI := mI_sQ (k := 0) (j := 2) (y := 8) hI (by omega) (by omega)
  refine lv_aload_n S.1 S.2.1 d_LP_init_48 rfl (lv_at hl 0 rfl) ?_
  refine m_new S M hI (tC_dy cA) hA ok_Se rfl kc_67 kn_Se kc_68 kd_Se (Nat.le_of_ble_eq_true rfl) (Nat.le_of_ble_eq_true rfl) d_LP_init_49 (fun q ad5 H g5 f M => ?_)
  subst f
  have hI := mI_up hI
  have G : ∀ k, k < 1 → ad5 k = ad k := fun k hk => (g5 k (by omega)).trans (G k hk)
  have f5 : ad5 (16) = ad5 (16) := rfl
  refine lv_dup S.1 S.2.1 d_LP_init_52 rfl ?_
  refine lv_aload_n S.1 S.2.1 d_LP_init_53 rfl (lv_at hl 0 rfl) ?_
  refine m_gq (k := 0) (j := 1) (y := 1) S M ok_LP ((G (0) (by omega)).trans e0) (by omega) rfl (by decide) rfl kc_66 rfl rfl d_LP_init_54 ?_
  refine lv_iconst (v := 1) S.1 S.2.1 d_LP_init_57 (by decide) ?_
  refine lv_aload_n S.1 S.2.1 d_LP_init_58 rfl (lv_at hl 0 rfl) ?_
  refine m_giA (k := 0) (j := 0) (v := if (if 1 < x1 then x1 else 1) < 3 then (if 1 < x1 then x1 else 1) else 3) S M ok_LP ((G (0) (by omega)).trans e0) (by omega) rfl (by decide) rfl kc_61 rfl rfl d_LP_init_59 ?_
  refine m_xn (m_rI (As := [.ref (ad5 (1)), .int 1, .int (if (if 1 < x1 then x1 else 1) < 3 then (if 1 < x1 then x1 else 1) else 3)]) (rest := [.ref (ad5 (16)), .ref h0]) S N M hl.1 (cwGI (n := 3) S.2.2.2.2 kc_69 kc_70 kc_68 kc_71 rfl (by decide) ⟨Nat.le_of_ble_eq_true rfl, Nat.le_of_ble_eq_true rfl⟩) (c_Se_init l D cA _ _ sB_16 hI _ _ f5 rfl 1 (if (if 1 < x1 then x1 else 1) < 3 then (if 1 < x1 then x1 else 1) else 3) (by decide)) rfl rfl (Nat.le_of_ble_eq_true rfl) d_LP_init_62 ⟨Nat.le_of_ble_eq_true rfl, Nat.le_of_ble_eq_true rfl⟩) M hA (fun ad6 H locs g6 M => ?_)
  have hI := gi_Se sB_16 hI 1 (if (if 1 < x1 then x1 else 1) < 3 then (if 1 < x1 then x1 else 1) else 3)
  have G : ∀ k, k < 1 → ad6 k = ad k := fun k hk => (g6 k (by omega)).trans (G k hk)
  have f5 : ad6 (16) = (ad5 (16)) := (g6 (16) (by omega)).trans f5
  refine m_nQ (k := 0) (y := 16) (j := 3) S M ok_LP ((G (0) (by omega)).trans e0) f5 (by omega) rfl (by decide) rfl kc_73 rfl rfl hnm rfl rfl d_LP_init_65 (fun H locs M => ?_)
  have hI := mI_sQ (k := 0) (j := 3) (y := 16) hI (by omega) (by omega)
  refine lv_aload_n S.1 S.2.1 d_LP_init_68 rfl (lv_at hl 0 rfl) ?_
  refine m_new S M hI (tC_dy cA) hA ok_BS rfl kc_74 kn_BS kc_75 kd_BS (Nat.le_of_ble_eq_true rfl) (Nat.le_of_ble_eq_true rfl) d_LP_init_69 (fun q ad7 H g7 f M => ?_)
  subst f
  have hI := mI_up hI
  have G : ∀ k, k < 1 → ad7 k = ad k := fun k hk => (g7 k (by omega)).trans (G k hk)
  have f7 : ad7 (24) = ad7 (24) := rfl
  refine lv_dup S.1 S.2.1 d_LP_init_72 rfl ?_
  refine lv_aload_n S.1 S.2.1 d_LP_init_73 rfl (lv_at hl 0 rfl) ?_
  refine m_gq (k := 0) (j := 2) (y := 8) S M ok_LP ((G (0) (by omega)).trans e0) (by omega) rfl (by decide) rfl kc_72 rfl rfl d_LP_init_74 ?_
  refine lv_aload_n S.1 S.2.1 d_LP_init_77 rfl (lv_at hl 0 rfl) ?_
  refine m_gq (k := 0) (j := 3) (y := 16) S M ok_LP ((G (0) (by omega)).trans e0) (by omega) rfl (by decide) rfl kc_73 rfl rfl d_LP_init_78 ?_
  refine m_xn (m_rI (As := [.ref (ad7 (8)), .ref (ad7 (16))]) (rest := [.ref (ad7 (24)), .ref h0]) S N M hl.1 (cwGI (n := 2) S.2.2.2.2 kc_76 kc_77 kc_75 kc_78 rfl (by decide) ⟨Nat.le_of_ble_eq_true rfl, Nat.le_of_ble_eq_true rfl⟩) (c_BS_init l D cA _ _  hI _ _ _ f7 rfl rfl ) rfl rfl (Nat.le_of_ble_eq_true rfl) d_LP_init_81 ⟨Nat.le_of_ble_eq_true rfl, Nat.le_of_ble_eq_true rfl⟩) M hA (fun ad8 H locs g8 M => ?_)
  have hI := gi_BS  hI 
  have G : ∀ k, k < 1 → ad8 k = ad k := fun k hk => (g8 k (by omega)).trans (G k hk)
  have f7 : ad8 (24) = (ad7 (24)) := (g8 (24) (by omega)).trans f7
  refine m_nQ (k := 0) (y := 24) (j := 4) S M ok_LP ((G (0) (by omega)).trans e0) f7 (by omega) rfl (by decide) rfl kc_79 rfl rfl hnm rfl rfl d_LP_init_84 (fun H locs M => ?_)
  have hI := mI_sQ (k := 0) (j := 4) (y := 24) hI (by omega) (by omega)
  refine lv_aload_n S.1 S.2.1 d_LP_init_87 rfl (lv_at hl 0 rfl) ?_
  refine m_new S M hI (tC_dy cA) hA ok_Rw rfl kc_80 kn_Rw kc_81 kd_Rw (Nat.le_of_ble_eq_true rfl) (Nat.le_of_ble_eq_true rfl) d_LP_init_88 (fun q ad9 H g9 f M => ?_)
  subst f
  have hI := mI_up hI
  have G : ∀ k, k < 1 → ad9 k = ad k := fun k hk => (g9 k (by omega)).trans (G k hk)
  have f9 : ad9 (25) = ad9 (25) := rfl
  refine lv_dup S.1 S.2.1 d_LP_init_91 rfl ?_
  refine lv_aload_n S.1 S.2.1 d_LP_init_92 rfl (lv_at hl 0 rfl) ?_
  refine m_gq (k := 0) (j := 1) (y := 1) S M ok_LP ((G (0) (by omega)).trans e0) (by omega) rfl (by decide) rfl kc_66 rfl rfl d_LP_init_93 ?_
  refine lv_aload_n S.1 S.2.1 d_LP_init_96 rfl (lv_at hl 0 rfl) ?_
  refine m_gq (k := 0) (j := 3) (y := 16) S M ok_LP ((G (0) (by omega)).trans e0) (by omega) rfl (by decide) rfl kc_73 rfl rfl d_LP_init_97 ?_
  refine m_xn (m_rI (As := [.ref (ad9 (1)), .ref (ad9 (16))]) (rest := [.ref (ad9 (25)), .ref h0]) S N M hl.1 (cwGI (n := 2) S.2.2.2.2 kc_82 kc_83 kc_81 kc_84 rfl (by decide) ⟨Nat.le_of_ble_eq_true rfl, Nat.le_of_ble_eq_true rfl⟩) (c_Rw_init l D cA _ _  hI _ _ _ f9 rfl rfl ) rfl rfl (Nat.le_of_ble_eq_true rfl) d_LP_init_100 ⟨Nat.le_of_ble_eq_true rfl, Nat.le_of_ble_eq_true rfl⟩) M hA (fun ad10 H locs g10 M => ?_)
  have hI := gi_Rw  hI 
  have G : ∀ k, k < 1 → ad10 k = ad k := fun k hk => (g10 k (by omega)).trans (G k hk)
  have f9 : ad10 (25) = (ad9 (25)) := (g10 (25) (by omega)).trans f9
  refine m_nQ (k := 0) (y := 25) (j := 5) S M ok_LP ((G (0) (by omega)).trans e0) f9 (by omega) rfl (by decide) rfl kc_85 rfl rfl hnm rfl rfl d_LP_init_103 (fun H locs M => ?_)
  have hI := mI_sQ (k := 0) (j := 5) (y := 25) hI (by omega) (by omega)
  refine lv_aload_n S.1 S.2.1 d_LP_init_106 rfl (lv_at hl 0 rfl) ?_
  refine m_new S M hI (tC_dy cA) hA ok_Rg rfl kc_86 kn_Rg kc_87 kd_Rg (Nat.le_of_ble_eq_true rfl) (Nat.le_of_ble_eq_true rfl) d_LP_init_107 (fun q ad11 H g11 f M => ?_)
  subst f
  have hI := mI_up hI
  have G : ∀ k, k < 1 → ad11 k = ad k := fun k hk => (g11 k (by omega)).trans (G k hk)
  have f11 : ad11 (91) = ad11 (91) := rfl
  refine lv_dup S.1 S.2.1 d_LP_init_110 rfl ?_
  refine lv_aload_n S.1 S.2.1 d_LP_init_111 rfl (lv_at hl 0 rfl) ?_
  refine m_gq (k := 0) (j := 1) (y := 1) S M ok_LP ((G (0) (by omega)).trans e0) (by omega) rfl (by decide) rfl kc_66 rfl rfl d_LP_init_112 ?_
  refine lv_aload_n S.1 S.2.1 d_LP_init_115 rfl (lv_at hl 0 rfl) ?_
  refine m_gq (k := 0) (j := 3) (y := 16) S M ok_LP ((G (0) (by omega)).trans e0) (by omega) rfl (by decide) rfl kc_73 rfl rfl d_LP_init_116 ?_
  refine m_xn (m_rI (As := [.ref (ad11 (1)), .ref (ad11 (16))]) (rest := [.ref (ad11 (91)), .ref h0]) S N M hl.1 (cwGI (n := 2) S.2.2.2.2 kc_88 kc_89 kc_87 kc_90 rfl (by decide) ⟨Nat.le_of_ble_eq_true rfl, Nat.le_of_ble_eq_true rfl⟩) (c_Rg_init l D cA _ _  hI _ _ _ f11 rfl rfl ) rfl rfl (Nat.le_of_ble_eq_true rfl) d_LP_init_119 ⟨Nat.le_of_ble_eq_true rfl, Nat.le_of_ble_eq_true rfl⟩) M hA (fun ad12 H locs g12 M => ?_)
  have hI := gi_Rg  hI 
  have G : ∀ k, k < 1 → ad12 k = ad k := fun k hk => (g12 k (by omega)).trans (G k hk)
  have f11 : ad12 (91) = (ad11 (91)) := (g12 (91) (by omega)).trans f11
  refine m_nQ (k := 0) (y := 91) (j := 6) S M ok_LP ((G (0) (by omega)).trans e0) f11 (by omega) rfl (by decide) rfl kc_91 rfl rfl hnm rfl rfl d_LP_init_122 (fun H locs M => ?_)
  have hI := mI_sQ (k := 0) (j := 6) (y := 91) hI (by omega) (by omega)
  refine lv_aload_n S.1 S.2.1 d_LP_init_125 rfl (lv_at hl 0 rfl) ?_
  refine m_new S M hI (tC_dy cA) hA ok_Wi rfl kc_92 kn_Wi kc_93 kd_Wi (Nat.le_of_ble_eq_true rfl) (Nat.le_of_ble_eq_true rfl) d_LP_init_126 (fun q ad13 H g13 f M => ?_)
  subst f
  have hI := mI_up hI
  have G : ∀ k, k < 1 → ad13 k = ad k := fun k hk => (g13 k (by omega)).trans (G k hk)
  have f13 : ad13 (94) = ad13 (94) := rfl
  refine lv_dup S.1 S.2.1 d_LP_init_129 rfl ?_
  refine lv_aload_n S.1 S.2.1 d_LP_init_130 rfl (lv_at hl 0 rfl) ?_
  refine m_gq (k := 0) (j := 1) (y := 1) S M ok_LP ((G (0) (by omega)).trans e0) (by omega) rfl (by decide) rfl kc_66 rfl rfl d_LP_init_131 ?_
  refine m_xn (m_rI (As := [.ref (ad13 (1))]) (rest := [.ref (ad13 (94)), .ref h0]) S N M hl.1 (cwGI (n := 1) S.2.2.2.2 kc_94 kc_95 kc_93 kc_96 rfl (by decide) ⟨Nat.le_of_ble_eq_true rfl, Nat.le_of_ble_eq_true rfl⟩) (c_Wi_init l D cA _ _  hI _ _ f13 rfl ) rfl rfl (Nat.le_of_ble_eq_true rfl) d_LP_init_134 ⟨Nat.le_of_ble_eq_true rfl, Nat.le_of_ble_eq_true rfl⟩) M hA (fun ad14 H locs g14 M => ?_)
  have hI := gi_Wi  hI 
  have G : ∀ k, k < 1 → ad14 k = ad k := fun k hk => (g14 k (by omega)).trans (G k hk)
  have f13 : ad14 (94) = (ad13 (94)) := (g14 (94) (by omega)).trans f13
  refine m_nQ (k := 0) (y := 94) (j := 7) S M ok_LP ((G (0) (by omega)).trans e0) f13 (by omega) rfl (by decide) rfl kc_97 rfl rfl hnm rfl rfl d_LP_init_137 (fun H locs M => ?_)
  have hI := mI_sQ (k := 0) (j := 7) (y := 94) hI (by omega) (by omega)
  refine lv_aload_n S.1 S.2.1 d_LP_init_140 rfl (lv_at hl 0 rfl) ?_
  refine m_new S M hI (tC_dy cA) hA ok_Tr rfl kc_98 kn_Tr kc_99 kd_Tr (Nat.le_of_ble_eq_true rfl) (Nat.le_of_ble_eq_true rfl) d_LP_init_141 (fun q ad15 H g15 f M => ?_)
  subst f
  have hI := mI_up hI
  have G : ∀ k, k < 1 → ad15 k = ad k := fun k hk => (g15 k (by omega)).trans (G k hk)
  have f15 : ad15 (96) = ad15 (96) := rfl
  refine lv_dup S.1 S.2.1 d_LP_init_144 rfl ?_
  refine lv_aload_n S.1 S.2.1 d_LP_init_145 rfl (lv_at hl 0 rfl) ?_
  refine m_gq (k := 0) (j := 1) (y := 1) S M ok_LP ((G (0) (by omega)).trans e0) (by omega) rfl (by decide) rfl kc_66 rfl rfl d_LP_init_146 ?_
  refine m_xn (m_rI (As := [.ref (ad15 (1))]) (rest := [.ref (ad15 (96)), .ref h0]) S N M hl.1 (cwGI (n := 1) S.2.2.2.2 kc_100 kc_101 kc_99 kc_102 rfl (by decide) ⟨Nat.le_of_ble_eq_true rfl, Nat.le_of_ble_eq_true rfl⟩) (c_Tr_init l D cA _ _  hI _ _ f15 rfl ) rfl rfl (Nat.le_of_ble_eq_true rfl) d_LP_init_149 ⟨Nat.le_of_ble_eq_true rfl, Nat.le_of_ble_eq_true rfl⟩) M hA (fun ad16 H locs g16 M => ?_)
  have hI := gi_Tr  hI 
  have G : ∀ k, k < 1 → ad16 k = ad k := fun k hk => (g16 k (by omega)).trans (G k hk)
  have f15 : ad16 (96) = (ad15 (96)) := (g16 (96) (by omega)).trans f15
  refine m_nQ (k := 0) (y := 96) (j := 8) S M ok_LP ((G (0) (by omega)).trans e0) f15 (by omega) rfl (by decide) rfl kc_103 rfl rfl hnm rfl rfl d_LP_init_152 (fun H locs M => ?_)
  have hI := mI_sQ (k := 0) (j := 8) (y := 96) hI (by omega) (by omega)
  exact m_nret S hr hlk G M d_LP_init_155
end
section
theorem d_Mo_init_0 : decode prog_12_method_1_code 0 = .ok (.aload_n 0, 1) := by decide +kernel
theorem d_Mo_init_1 : decode prog_12_method_1_code 1 = .ok (.invokespecial 1, 3) := by decide +kernel
theorem d_Mo_init_4 : decode prog_12_method_1_code 4 = .ok (.aload_n 0, 1) := by decide +kernel
theorem d_Mo_init_5 : decode prog_12_method_1_code 5 = .ok (.bipush 40, 2) := by decide +kernel
theorem d_Mo_init_7 : decode prog_12_method_1_code 7 = .ok (.newarray .int, 2) := by decide +kernel
theorem d_Mo_init_9 : decode prog_12_method_1_code 9 = .ok (.putfield 7, 3) := by decide +kernel
theorem d_Mo_init_12 : decode prog_12_method_1_code 12 = .ok (.aload_n 0, 1) := by decide +kernel
theorem d_Mo_init_13 : decode prog_12_method_1_code 13 = .ok (.bipush 40, 2) := by decide +kernel
theorem d_Mo_init_15 : decode prog_12_method_1_code 15 = .ok (.newarray .int, 2) := by decide +kernel
theorem d_Mo_init_17 : decode prog_12_method_1_code 17 = .ok (.putfield 13, 3) := by decide +kernel
theorem d_Mo_init_20 : decode prog_12_method_1_code 20 = .ok (.aload_n 0, 1) := by decide +kernel
theorem d_Mo_init_21 : decode prog_12_method_1_code 21 = .ok (.bipush 40, 2) := by decide +kernel
theorem d_Mo_init_23 : decode prog_12_method_1_code 23 = .ok (.newarray .int, 2) := by decide +kernel
theorem d_Mo_init_25 : decode prog_12_method_1_code 25 = .ok (.putfield 16, 3) := by decide +kernel
theorem d_Mo_init_28 : decode prog_12_method_1_code 28 = .ok (.aload_n 0, 1) := by decide +kernel
theorem d_Mo_init_29 : decode prog_12_method_1_code 29 = .ok (.bipush 40, 2) := by decide +kernel
theorem d_Mo_init_31 : decode prog_12_method_1_code 31 = .ok (.newarray .int, 2) := by decide +kernel
theorem d_Mo_init_33 : decode prog_12_method_1_code 33 = .ok (.putfield 19, 3) := by decide +kernel
theorem d_Mo_init_36 : decode prog_12_method_1_code 36 = .ok (.aload_n 0, 1) := by decide +kernel
theorem d_Mo_init_37 : decode prog_12_method_1_code 37 = .ok (.bipush 40, 2) := by decide +kernel
theorem d_Mo_init_39 : decode prog_12_method_1_code 39 = .ok (.newarray .int, 2) := by decide +kernel
theorem d_Mo_init_41 : decode prog_12_method_1_code 41 = .ok (.putfield 22, 3) := by decide +kernel
theorem d_Mo_init_44 : decode prog_12_method_1_code 44 = .ok (.aload_n 0, 1) := by decide +kernel
theorem d_Mo_init_45 : decode prog_12_method_1_code 45 = .ok (.bipush 40, 2) := by decide +kernel
theorem d_Mo_init_47 : decode prog_12_method_1_code 47 = .ok (.newarray .boolean, 2) := by decide +kernel
theorem d_Mo_init_49 : decode prog_12_method_1_code 49 = .ok (.putfield 25, 3) := by decide +kernel
theorem d_Mo_init_52 : decode prog_12_method_1_code 52 = .ok (.aload_n 0, 1) := by decide +kernel
theorem d_Mo_init_53 : decode prog_12_method_1_code 53 = .ok (.bipush 10, 2) := by decide +kernel
theorem d_Mo_init_55 : decode prog_12_method_1_code 55 = .ok (.newarray .boolean, 2) := by decide +kernel
theorem d_Mo_init_57 : decode prog_12_method_1_code 57 = .ok (.putfield 29, 3) := by decide +kernel
theorem d_Mo_init_60 : decode prog_12_method_1_code 60 = .ok (.aload_n 0, 1) := by decide +kernel
theorem d_Mo_init_61 : decode prog_12_method_1_code 61 = .ok (.bipush 10, 2) := by decide +kernel
theorem d_Mo_init_63 : decode prog_12_method_1_code 63 = .ok (.newarray .int, 2) := by decide +kernel
theorem d_Mo_init_65 : decode prog_12_method_1_code 65 = .ok (.putfield 32, 3) := by decide +kernel
theorem d_Mo_init_68 : decode prog_12_method_1_code 68 = .ok (.aload_n 0, 1) := by decide +kernel
theorem d_Mo_init_69 : decode prog_12_method_1_code 69 = .ok (.bipush 10, 2) := by decide +kernel
theorem d_Mo_init_71 : decode prog_12_method_1_code 71 = .ok (.newarray .int, 2) := by decide +kernel
theorem d_Mo_init_73 : decode prog_12_method_1_code 73 = .ok (.putfield 35, 3) := by decide +kernel
theorem d_Mo_init_76 : decode prog_12_method_1_code 76 = .ok (.aload_n 0, 1) := by decide +kernel
theorem d_Mo_init_77 : decode prog_12_method_1_code 77 = .ok (.bipush 10, 2) := by decide +kernel
theorem d_Mo_init_79 : decode prog_12_method_1_code 79 = .ok (.newarray .int, 2) := by decide +kernel
theorem d_Mo_init_81 : decode prog_12_method_1_code 81 = .ok (.putfield 38, 3) := by decide +kernel
theorem d_Mo_init_84 : decode prog_12_method_1_code 84 = .ok (.aload_n 0, 1) := by decide +kernel
theorem d_Mo_init_85 : decode prog_12_method_1_code 85 = .ok (.bipush 10, 2) := by decide +kernel
theorem d_Mo_init_87 : decode prog_12_method_1_code 87 = .ok (.newarray .int, 2) := by decide +kernel
theorem d_Mo_init_89 : decode prog_12_method_1_code 89 = .ok (.putfield 41, 3) := by decide +kernel
theorem d_Mo_init_92 : decode prog_12_method_1_code 92 = .ok (.aload_n 0, 1) := by decide +kernel
theorem d_Mo_init_93 : decode prog_12_method_1_code 93 = .ok (.bipush 20, 2) := by decide +kernel
theorem d_Mo_init_95 : decode prog_12_method_1_code 95 = .ok (.newarray .int, 2) := by decide +kernel
theorem d_Mo_init_97 : decode prog_12_method_1_code 97 = .ok (.putfield 44, 3) := by decide +kernel
theorem d_Mo_init_100 : decode prog_12_method_1_code 100 = .ok (.aload_n 0, 1) := by decide +kernel
theorem d_Mo_init_101 : decode prog_12_method_1_code 101 = .ok (.bipush 20, 2) := by decide +kernel
theorem d_Mo_init_103 : decode prog_12_method_1_code 103 = .ok (.newarray .boolean, 2) := by decide +kernel
theorem d_Mo_init_105 : decode prog_12_method_1_code 105 = .ok (.putfield 47, 3) := by decide +kernel
theorem d_Mo_init_108 : decode prog_12_method_1_code 108 = .ok (.aload_n 0, 1) := by decide +kernel
theorem d_Mo_init_109 : decode prog_12_method_1_code 109 = .ok (.bipush 12, 2) := by decide +kernel
theorem d_Mo_init_111 : decode prog_12_method_1_code 111 = .ok (.newarray .int, 2) := by decide +kernel
theorem d_Mo_init_113 : decode prog_12_method_1_code 113 = .ok (.putfield 50, 3) := by decide +kernel
theorem d_Mo_init_116 : decode prog_12_method_1_code 116 = .ok (.aload_n 0, 1) := by decide +kernel
theorem d_Mo_init_117 : decode prog_12_method_1_code 117 = .ok (.bipush 12, 2) := by decide +kernel
theorem d_Mo_init_119 : decode prog_12_method_1_code 119 = .ok (.newarray .int, 2) := by decide +kernel
theorem d_Mo_init_121 : decode prog_12_method_1_code 121 = .ok (.putfield 53, 3) := by decide +kernel
theorem d_Mo_init_124 : decode prog_12_method_1_code 124 = .ok (.aload_n 0, 1) := by decide +kernel
theorem d_Mo_init_125 : decode prog_12_method_1_code 125 = .ok (.bipush 12, 2) := by decide +kernel
theorem d_Mo_init_127 : decode prog_12_method_1_code 127 = .ok (.newarray .int, 2) := by decide +kernel
theorem d_Mo_init_129 : decode prog_12_method_1_code 129 = .ok (.putfield 56, 3) := by decide +kernel
theorem d_Mo_init_132 : decode prog_12_method_1_code 132 = .ok (.aload_n 0, 1) := by decide +kernel
theorem d_Mo_init_133 : decode prog_12_method_1_code 133 = .ok (.iconst (-1), 1) := by decide +kernel
theorem d_Mo_init_134 : decode prog_12_method_1_code 134 = .ok (.putfield 59, 3) := by decide +kernel
theorem d_Mo_init_137 : decode prog_12_method_1_code 137 = .ok (.aload_n 0, 1) := by decide +kernel
theorem d_Mo_init_138 : decode prog_12_method_1_code 138 = .ok (.bipush 31, 2) := by decide +kernel
theorem d_Mo_init_140 : decode prog_12_method_1_code 140 = .ok (.newarray .int, 2) := by decide +kernel
theorem d_Mo_init_142 : decode prog_12_method_1_code 142 = .ok (.putfield 63, 3) := by decide +kernel
theorem d_Mo_init_145 : decode prog_12_method_1_code 145 = .ok (.aload_n 0, 1) := by decide +kernel
theorem d_Mo_init_146 : decode prog_12_method_1_code 146 = .ok (.bipush 31, 2) := by decide +kernel
theorem d_Mo_init_148 : decode prog_12_method_1_code 148 = .ok (.newarray .int, 2) := by decide +kernel
theorem d_Mo_init_150 : decode prog_12_method_1_code 150 = .ok (.putfield 66, 3) := by decide +kernel
theorem d_Mo_init_153 : decode prog_12_method_1_code 153 = .ok (.aload_n 0, 1) := by decide +kernel
theorem d_Mo_init_154 : decode prog_12_method_1_code 154 = .ok (.sipush 310, 3) := by decide +kernel
theorem d_Mo_init_157 : decode prog_12_method_1_code 157 = .ok (.newarray .int, 2) := by decide +kernel
theorem d_Mo_init_159 : decode prog_12_method_1_code 159 = .ok (.putfield 69, 3) := by decide +kernel
theorem d_Mo_init_162 : decode prog_12_method_1_code 162 = .ok (.aload_n 0, 1) := by decide +kernel
theorem d_Mo_init_163 : decode prog_12_method_1_code 163 = .ok (.bipush 10, 2) := by decide +kernel
theorem d_Mo_init_165 : decode prog_12_method_1_code 165 = .ok (.newarray .long, 2) := by decide +kernel
theorem d_Mo_init_167 : decode prog_12_method_1_code 167 = .ok (.putfield 72, 3) := by decide +kernel
theorem d_Mo_init_170 : decode prog_12_method_1_code 170 = .ok (.aload_n 0, 1) := by decide +kernel
theorem d_Mo_init_171 : decode prog_12_method_1_code 171 = .ok (.bipush 10, 2) := by decide +kernel
theorem d_Mo_init_173 : decode prog_12_method_1_code 173 = .ok (.newarray .long, 2) := by decide +kernel
theorem d_Mo_init_175 : decode prog_12_method_1_code 175 = .ok (.putfield 76, 3) := by decide +kernel
theorem d_Mo_init_178 : decode prog_12_method_1_code 178 = .ok (.aload_n 0, 1) := by decide +kernel
theorem d_Mo_init_179 : decode prog_12_method_1_code 179 = .ok (.bipush 12, 2) := by decide +kernel
theorem d_Mo_init_181 : decode prog_12_method_1_code 181 = .ok (.newarray .int, 2) := by decide +kernel
theorem d_Mo_init_183 : decode prog_12_method_1_code 183 = .ok (.putfield 79, 3) := by decide +kernel
theorem d_Mo_init_186 : decode prog_12_method_1_code 186 = .ok (.aload_n 0, 1) := by decide +kernel
theorem d_Mo_init_187 : decode prog_12_method_1_code 187 = .ok (.iload_n 1, 1) := by decide +kernel
theorem d_Mo_init_188 : decode prog_12_method_1_code 188 = .ok (.iconst 1, 1) := by decide +kernel
theorem d_Mo_init_189 : decode prog_12_method_1_code 189 = .ok (.if_icmp .ge 7, 3) := by decide +kernel
theorem d_Mo_init_192 : decode prog_12_method_1_code 192 = .ok (.iconst 1, 1) := by decide +kernel
theorem d_Mo_init_193 : decode prog_12_method_1_code 193 = .ok (.goto 13, 3) := by decide +kernel
theorem d_Mo_init_196 : decode prog_12_method_1_code 196 = .ok (.iload_n 1, 1) := by decide +kernel
theorem d_Mo_init_197 : decode prog_12_method_1_code 197 = .ok (.iconst 3, 1) := by decide +kernel
theorem d_Mo_init_198 : decode prog_12_method_1_code 198 = .ok (.if_icmp .le 7, 3) := by decide +kernel
theorem d_Mo_init_201 : decode prog_12_method_1_code 201 = .ok (.iconst 3, 1) := by decide +kernel
theorem d_Mo_init_202 : decode prog_12_method_1_code 202 = .ok (.goto 4, 3) := by decide +kernel
theorem d_Mo_init_205 : decode prog_12_method_1_code 205 = .ok (.iload_n 1, 1) := by decide +kernel
theorem d_Mo_init_206 : decode prog_12_method_1_code 206 = .ok (.putfield 82, 3) := by decide +kernel
theorem d_Mo_init_209 : decode prog_12_method_1_code 209 = .ok (.return_, 1) := by decide +kernel
def rm_Mo_init : Room := { frames := 1, cells := 22, slots := 770, locals := 12 }
def hpM (x1 : Int32) : Int32 := if 1 ≤ x1 then (if x1 ≤ 3 then x1 else 3) else 1
def g_Mo (σ : mS) (x1 : Int32) : mS := sI (sQ (sQ (sQ (sQ (sQ (sQ (sI (sQ (sQ (sQ (sQ (sQ (sQ (sQ (sQ (sQ (sQ (sQ (sQ (sQ (sQ (sQ (sQ σ 99 3 (some 100)) 99 4 (some 101)) 99 5 (some 102)) 99 6 (some 103)) 99 7 (some 104)) 99 8 (some 105)) 99 9 (some 106)) 99 10 (some 107)) 99 11 (some 108)) 99 12 (some 109)) 99 13 (some 110)) 99 14 (some 111)) 99 15 (some 112)) 99 16 (some 113)) 99 17 (some 114)) 99 18 (some 115)) 99 21 ((-1))) 99 24 (some 116)) 99 25 (some 117)) 99 26 (some 118)) 99 27 (some 119)) 99 28 (some 120)) 99 31 (some 121)) 99 0 (hpM x1)
theorem gi_Mo {σ : mS} (hI : mI 100 σ) (x1 : Int32) : mI 122 (g_Mo σ x1) := by
  have hI := mI_up hI
  have hI := mI_sQ (k := 99) (j := 3) (y := 100) hI (by omega) (by omega)
  have hI := mI_up hI
  have hI := mI_sQ (k := 99) (j := 4) (y := 101) hI (by omega) (by omega)
  have hI := mI_up hI
  have hI := mI_sQ (k := 99) (j := 5) (y := 102) hI (by omega) (by omega)
  have hI := mI_up hI
  have hI := mI_sQ (k := 99) (j := 6) (y := 103) hI (by omega) (by omega)
  have hI := mI_up hI
  have hI := mI_sQ (k := 99) (j := 7) (y := 104) hI (by omega) (by omega)
  have hI := mI_up hI
  have hI := mI_sQ (k := 99) (j := 8) (y := 105) hI (by omega) (by omega)
  have hI := mI_up hI
  have hI := mI_sQ (k := 99) (j := 9) (y := 106) hI (by omega) (by omega)
  have hI := mI_up hI
  have hI := mI_sQ (k := 99) (j := 10) (y := 107) hI (by omega) (by omega)
  have hI := mI_up hI
  have hI := mI_sQ (k := 99) (j := 11) (y := 108) hI (by omega) (by omega)
  have hI := mI_up hI
  have hI := mI_sQ (k := 99) (j := 12) (y := 109) hI (by omega) (by omega)
  have hI := mI_up hI
  have hI := mI_sQ (k := 99) (j := 13) (y := 110) hI (by omega) (by omega)
  have hI := mI_up hI
  have hI := mI_sQ (k := 99) (j := 14) (y := 111) hI (by omega) (by omega)
  have hI := mI_up hI
  have hI := mI_sQ (k := 99) (j := 15) (y := 112) hI (by omega) (by omega)
  have hI := mI_up hI
  have hI := mI_sQ (k := 99) (j := 16) (y := 113) hI (by omega) (by omega)
  have hI := mI_up hI
  have hI := mI_sQ (k := 99) (j := 17) (y := 114) hI (by omega) (by omega)
  have hI := mI_up hI
  have hI := mI_sQ (k := 99) (j := 18) (y := 115) hI (by omega) (by omega)
  have hI := mI_sI (k := 99) (j := 21) (v := (-1)) hI (by omega)
  have hI := mI_up hI
  have hI := mI_sQ (k := 99) (j := 24) (y := 116) hI (by omega) (by omega)
  have hI := mI_up hI
  have hI := mI_sQ (k := 99) (j := 25) (y := 117) hI (by omega) (by omega)
  have hI := mI_up hI
  have hI := mI_sQ (k := 99) (j := 26) (y := 118) hI (by omega) (by omega)
  have hI := mI_up hI
  have hI := mI_sQ (k := 99) (j := 27) (y := 119) hI (by omega) (by omega)
  have hI := mI_up hI
  have hI := mI_sQ (k := 99) (j := 28) (y := 120) hI (by omega) (by omega)
  have hI := mI_up hI
  have hI := mI_sQ (k := 99) (j := 31) (y := 121) hI (by omega) (by omega)
  exact mI_sI hI (by omega)
set_option maxHeartbeats 4000000 in
set_option maxRecDepth 100000 in
theorem c_Mo_init (l : Launch) (D : va_G) (cA ad : Nat → Nat) (σ : mS) (hI : mI 100 σ) (h0 : Nat) (e0 : ad 99 = h0) (x1 : Int32) : mCn l ⟨"LeastPathsModel", "<init>", "(I)V"⟩ (Cond.code ⟨"LeastPathsModel", "<init>", "(I)V"⟩ prog_12_method_1_code 2 none :: tlG) rm_Mo_init D clX (tyK cA) (tbC cA) 100 ad σ [.ref h0, .int x1] 122 (g_Mo σ x1) 22 770 := by
  intro sz
  refine m_ofN (cc := prog_12_method_1_code) (maxL := 2) (ret := none) (Qc := mQn D clX (tyK cA) (tbC cA) 100 ad 122 (g_Mo σ x1)) (by decide) (Nat.le_of_ble_eq_true rfl) (fun p e s m args below meth c ls S hr hlk hnm hl N M => ?_) sz
  have hl : lv_has ls 2 [(0, .ref h0), (1, .int x1)] := hl
  have hA : ∀ q, s.heap.size ≤ q → mA 100 ad s.heap.size q := fun q h => Or.inr h
  have G : ∀ k, k < 100 → ad k = ad k := fun _ _ => rfl
  refine lv_aload_n S.1 S.2.1 d_Mo_init_0 rfl (lv_at hl 0 rfl) ?_
  refine W.objInit S.1 S.2.1 S.2.2.2.1 (S.2.2.2.2 _ kc_104) (S.2.2.2.2 _ kc_1) (S.2.2.2.2 _ kc_2) rfl (hl.1.trans S.2.2.1.symm) rfl d_Mo_init_1 (Nat.le_of_ble_eq_true rfl) (Nat.le_of_ble_eq_true rfl) ?_
  refine W.eq (g2 := F0 m 4 ls []) rfl ?_
  refine lv_aload_n S.1 S.2.1 d_Mo_init_4 rfl (lv_at hl 0 rfl) ?_
  refine lv_bipush (v := 40) S.1 S.2.1 d_Mo_init_5 (by decide) ?_
  refine m_newa (atype := .int) (N := 40) (tg := 0) (k0 := 0) S M hI (tC_dy cA) hA ka_int rfl rfl rfl (fun _ h => by cases h) (fun _ => rfl) (by decide) (by decide) (by decide) (by decide) (Nat.le_of_ble_eq_true rfl) (Nat.le_of_ble_eq_true rfl) d_Mo_init_7 (fun q ad1 H g1 f M => ?_)
  subst f
  have hI := mI_up hI
  have G : ∀ k, k < 100 → ad1 k = ad k := fun k hk => (g1 k (by omega)).trans (G k hk)
  have f1 : ad1 (100) = ad1 (100) := rfl
  refine m_nQ (k := 99) (y := 100) (j := 3) S M ok_Mo ((G (99) (by omega)).trans e0) f1 (by omega) rfl (by decide) rfl kc_105 rfl rfl hnm rfl rfl d_Mo_init_9 (fun H locs M => ?_)
  have hI := mI_sQ (k := 99) (j := 3) (y := 100) hI (by omega) (by omega)
  refine lv_aload_n S.1 S.2.1 d_Mo_init_12 rfl (lv_at hl 0 rfl) ?_
  refine lv_bipush (v := 40) S.1 S.2.1 d_Mo_init_13 (by decide) ?_
  refine m_newa (atype := .int) (N := 40) (tg := 0) (k0 := 0) S M hI (tC_dy cA) hA ka_int rfl rfl rfl (fun _ h => by cases h) (fun _ => rfl) (by decide) (by decide) (by decide) (by decide) (Nat.le_of_ble_eq_true rfl) (Nat.le_of_ble_eq_true rfl) d_Mo_init_15 (fun q ad2 H g2 f M => ?_)
  subst f
  have hI := mI_up hI
  have G : ∀ k, k < 100 → ad2 k = ad k := fun k hk => (g2 k (by omega)).trans (G k hk)
  have f2 : ad2 (101) = ad2 (101) := rfl
  refine m_nQ (k := 99) (y := 101) (j := 4) S M ok_Mo ((G (99) (by omega)).trans e0) f2 (by omega) rfl (by decide) rfl kc_106 rfl rfl hnm rfl rfl d_Mo_init_17 (fun H locs M => ?_)
  have hI := mI_sQ (k := 99) (j := 4) (y := 101) hI (by omega) (by omega)
  refine lv_aload_n S.1 S.2.1 d_Mo_init_20 rfl (lv_at hl 0 rfl) ?_
  refine lv_bipush (v := 40) S.1 S.2.1 d_Mo_init_21 (by decide) ?_
  refine m_newa (atype := .int) (N := 40) (tg := 0) (k0 := 0) S M hI (tC_dy cA) hA ka_int rfl rfl rfl (fun _ h => by cases h) (fun _ => rfl) (by decide) (by decide) (by decide) (by decide) (Nat.le_of_ble_eq_true rfl) (Nat.le_of_ble_eq_true rfl) d_Mo_init_23 (fun q ad3 H g3 f M => ?_)
  subst f
  have hI := mI_up hI
  have G : ∀ k, k < 100 → ad3 k = ad k := fun k hk => (g3 k (by omega)).trans (G k hk)
  have f3 : ad3 (102) = ad3 (102) := rfl
  refine m_nQ (k := 99) (y := 102) (j := 5) S M ok_Mo ((G (99) (by omega)).trans e0) f3 (by omega) rfl (by decide) rfl kc_107 rfl rfl hnm rfl rfl d_Mo_init_25 (fun H locs M => ?_)
  have hI := mI_sQ (k := 99) (j := 5) (y := 102) hI (by omega) (by omega)
  refine lv_aload_n S.1 S.2.1 d_Mo_init_28 rfl (lv_at hl 0 rfl) ?_
  refine lv_bipush (v := 40) S.1 S.2.1 d_Mo_init_29 (by decide) ?_
  refine m_newa (atype := .int) (N := 40) (tg := 0) (k0 := 0) S M hI (tC_dy cA) hA ka_int rfl rfl rfl (fun _ h => by cases h) (fun _ => rfl) (by decide) (by decide) (by decide) (by decide) (Nat.le_of_ble_eq_true rfl) (Nat.le_of_ble_eq_true rfl) d_Mo_init_31 (fun q ad4 H g4 f M => ?_)
  subst f
  have hI := mI_up hI
  have G : ∀ k, k < 100 → ad4 k = ad k := fun k hk => (g4 k (by omega)).trans (G k hk)
  have f4 : ad4 (103) = ad4 (103) := rfl
  refine m_nQ (k := 99) (y := 103) (j := 6) S M ok_Mo ((G (99) (by omega)).trans e0) f4 (by omega) rfl (by decide) rfl kc_108 rfl rfl hnm rfl rfl d_Mo_init_33 (fun H locs M => ?_)
  have hI := mI_sQ (k := 99) (j := 6) (y := 103) hI (by omega) (by omega)
  refine lv_aload_n S.1 S.2.1 d_Mo_init_36 rfl (lv_at hl 0 rfl) ?_
  refine lv_bipush (v := 40) S.1 S.2.1 d_Mo_init_37 (by decide) ?_
  refine m_newa (atype := .int) (N := 40) (tg := 0) (k0 := 0) S M hI (tC_dy cA) hA ka_int rfl rfl rfl (fun _ h => by cases h) (fun _ => rfl) (by decide) (by decide) (by decide) (by decide) (Nat.le_of_ble_eq_true rfl) (Nat.le_of_ble_eq_true rfl) d_Mo_init_39 (fun q ad5 H g5 f M => ?_)
  subst f
  have hI := mI_up hI
  have G : ∀ k, k < 100 → ad5 k = ad k := fun k hk => (g5 k (by omega)).trans (G k hk)
  have f5 : ad5 (104) = ad5 (104) := rfl
  refine m_nQ (k := 99) (y := 104) (j := 7) S M ok_Mo ((G (99) (by omega)).trans e0) f5 (by omega) rfl (by decide) rfl kc_109 rfl rfl hnm rfl rfl d_Mo_init_41 (fun H locs M => ?_)
  have hI := mI_sQ (k := 99) (j := 7) (y := 104) hI (by omega) (by omega)
  refine lv_aload_n S.1 S.2.1 d_Mo_init_44 rfl (lv_at hl 0 rfl) ?_
  refine lv_bipush (v := 40) S.1 S.2.1 d_Mo_init_45 (by decide) ?_
  refine m_newa (atype := .boolean) (N := 40) (tg := 0) (k0 := 2) S M hI (tC_dy cA) hA ka_boolean rfl rfl rfl (fun _ h => by cases h) (fun _ => rfl) (by decide) (by decide) (by decide) (by decide) (Nat.le_of_ble_eq_true rfl) (Nat.le_of_ble_eq_true rfl) d_Mo_init_47 (fun q ad6 H g6 f M => ?_)
  subst f
  have hI := mI_up hI
  have G : ∀ k, k < 100 → ad6 k = ad k := fun k hk => (g6 k (by omega)).trans (G k hk)
  have f6 : ad6 (105) = ad6 (105) := rfl
  refine m_nQ (k := 99) (y := 105) (j := 8) S M ok_Mo ((G (99) (by omega)).trans e0) f6 (by omega) rfl (by decide) rfl kc_110 rfl rfl hnm rfl rfl d_Mo_init_49 (fun H locs M => ?_)
  have hI := mI_sQ (k := 99) (j := 8) (y := 105) hI (by omega) (by omega)
  refine lv_aload_n S.1 S.2.1 d_Mo_init_52 rfl (lv_at hl 0 rfl) ?_
  refine lv_bipush (v := 10) S.1 S.2.1 d_Mo_init_53 (by decide) ?_
  refine m_newa (atype := .boolean) (N := 10) (tg := 0) (k0 := 2) S M hI (tC_dy cA) hA ka_boolean rfl rfl rfl (fun _ h => by cases h) (fun _ => rfl) (by decide) (by decide) (by decide) (by decide) (Nat.le_of_ble_eq_true rfl) (Nat.le_of_ble_eq_true rfl) d_Mo_init_55 (fun q ad7 H g7 f M => ?_)
  subst f
  have hI := mI_up hI
  have G : ∀ k, k < 100 → ad7 k = ad k := fun k hk => (g7 k (by omega)).trans (G k hk)
  have f7 : ad7 (106) = ad7 (106) := rfl
  refine m_nQ (k := 99) (y := 106) (j := 9) S M ok_Mo ((G (99) (by omega)).trans e0) f7 (by omega) rfl (by decide) rfl kc_111 rfl rfl hnm rfl rfl d_Mo_init_57 (fun H locs M => ?_)
  have hI := mI_sQ (k := 99) (j := 9) (y := 106) hI (by omega) (by omega)
  refine lv_aload_n S.1 S.2.1 d_Mo_init_60 rfl (lv_at hl 0 rfl) ?_
  refine lv_bipush (v := 10) S.1 S.2.1 d_Mo_init_61 (by decide) ?_
  refine m_newa (atype := .int) (N := 10) (tg := 0) (k0 := 0) S M hI (tC_dy cA) hA ka_int rfl rfl rfl (fun _ h => by cases h) (fun _ => rfl) (by decide) (by decide) (by decide) (by decide) (Nat.le_of_ble_eq_true rfl) (Nat.le_of_ble_eq_true rfl) d_Mo_init_63 (fun q ad8 H g8 f M => ?_)
  subst f
  have hI := mI_up hI
  have G : ∀ k, k < 100 → ad8 k = ad k := fun k hk => (g8 k (by omega)).trans (G k hk)
  have f8 : ad8 (107) = ad8 (107) := rfl
  refine m_nQ (k := 99) (y := 107) (j := 10) S M ok_Mo ((G (99) (by omega)).trans e0) f8 (by omega) rfl (by decide) rfl kc_112 rfl rfl hnm rfl rfl d_Mo_init_65 (fun H locs M => ?_)
  have hI := mI_sQ (k := 99) (j := 10) (y := 107) hI (by omega) (by omega)
  refine lv_aload_n S.1 S.2.1 d_Mo_init_68 rfl (lv_at hl 0 rfl) ?_
  refine lv_bipush (v := 10) S.1 S.2.1 d_Mo_init_69 (by decide) ?_
  refine m_newa (atype := .int) (N := 10) (tg := 0) (k0 := 0) S M hI (tC_dy cA) hA ka_int rfl rfl rfl (fun _ h => by cases h) (fun _ => rfl) (by decide) (by decide) (by decide) (by decide) (Nat.le_of_ble_eq_true rfl) (Nat.le_of_ble_eq_true rfl) d_Mo_init_71 (fun q ad9 H g9 f M => ?_)
  subst f
  have hI := mI_up hI
  have G : ∀ k, k < 100 → ad9 k = ad k := fun k hk => (g9 k (by omega)).trans (G k hk)
  have f9 : ad9 (108) = ad9 (108) := rfl
  refine m_nQ (k := 99) (y := 108) (j := 11) S M ok_Mo ((G (99) (by omega)).trans e0) f9 (by omega) rfl (by decide) rfl kc_113 rfl rfl hnm rfl rfl d_Mo_init_73 (fun H locs M => ?_)
  have hI := mI_sQ (k := 99) (j := 11) (y := 108) hI (by omega) (by omega)
  refine lv_aload_n S.1 S.2.1 d_Mo_init_76 rfl (lv_at hl 0 rfl) ?_
  refine lv_bipush (v := 10) S.1 S.2.1 d_Mo_init_77 (by decide) ?_
  refine m_newa (atype := .int) (N := 10) (tg := 0) (k0 := 0) S M hI (tC_dy cA) hA ka_int rfl rfl rfl (fun _ h => by cases h) (fun _ => rfl) (by decide) (by decide) (by decide) (by decide) (Nat.le_of_ble_eq_true rfl) (Nat.le_of_ble_eq_true rfl) d_Mo_init_79 (fun q ad10 H g10 f M => ?_)
  subst f
  have hI := mI_up hI
  have G : ∀ k, k < 100 → ad10 k = ad k := fun k hk => (g10 k (by omega)).trans (G k hk)
  have f10 : ad10 (109) = ad10 (109) := rfl
  refine m_nQ (k := 99) (y := 109) (j := 12) S M ok_Mo ((G (99) (by omega)).trans e0) f10 (by omega) rfl (by decide) rfl kc_114 rfl rfl hnm rfl rfl d_Mo_init_81 (fun H locs M => ?_)
  have hI := mI_sQ (k := 99) (j := 12) (y := 109) hI (by omega) (by omega)
  refine lv_aload_n S.1 S.2.1 d_Mo_init_84 rfl (lv_at hl 0 rfl) ?_
  refine lv_bipush (v := 10) S.1 S.2.1 d_Mo_init_85 (by decide) ?_
  refine m_newa (atype := .int) (N := 10) (tg := 0) (k0 := 0) S M hI (tC_dy cA) hA ka_int rfl rfl rfl (fun _ h => by cases h) (fun _ => rfl) (by decide) (by decide) (by decide) (by decide) (Nat.le_of_ble_eq_true rfl) (Nat.le_of_ble_eq_true rfl) d_Mo_init_87 (fun q ad11 H g11 f M => ?_)
  subst f
  have hI := mI_up hI
  have G : ∀ k, k < 100 → ad11 k = ad k := fun k hk => (g11 k (by omega)).trans (G k hk)
  have f11 : ad11 (110) = ad11 (110) := rfl
  refine m_nQ (k := 99) (y := 110) (j := 13) S M ok_Mo ((G (99) (by omega)).trans e0) f11 (by omega) rfl (by decide) rfl kc_115 rfl rfl hnm rfl rfl d_Mo_init_89 (fun H locs M => ?_)
  have hI := mI_sQ (k := 99) (j := 13) (y := 110) hI (by omega) (by omega)
  refine lv_aload_n S.1 S.2.1 d_Mo_init_92 rfl (lv_at hl 0 rfl) ?_
  refine lv_bipush (v := 20) S.1 S.2.1 d_Mo_init_93 (by decide) ?_
  refine m_newa (atype := .int) (N := 20) (tg := 0) (k0 := 0) S M hI (tC_dy cA) hA ka_int rfl rfl rfl (fun _ h => by cases h) (fun _ => rfl) (by decide) (by decide) (by decide) (by decide) (Nat.le_of_ble_eq_true rfl) (Nat.le_of_ble_eq_true rfl) d_Mo_init_95 (fun q ad12 H g12 f M => ?_)
  subst f
  have hI := mI_up hI
  have G : ∀ k, k < 100 → ad12 k = ad k := fun k hk => (g12 k (by omega)).trans (G k hk)
  have f12 : ad12 (111) = ad12 (111) := rfl
  refine m_nQ (k := 99) (y := 111) (j := 14) S M ok_Mo ((G (99) (by omega)).trans e0) f12 (by omega) rfl (by decide) rfl kc_116 rfl rfl hnm rfl rfl d_Mo_init_97 (fun H locs M => ?_)
  have hI := mI_sQ (k := 99) (j := 14) (y := 111) hI (by omega) (by omega)
  refine lv_aload_n S.1 S.2.1 d_Mo_init_100 rfl (lv_at hl 0 rfl) ?_
  refine lv_bipush (v := 20) S.1 S.2.1 d_Mo_init_101 (by decide) ?_
  refine m_newa (atype := .boolean) (N := 20) (tg := 0) (k0 := 2) S M hI (tC_dy cA) hA ka_boolean rfl rfl rfl (fun _ h => by cases h) (fun _ => rfl) (by decide) (by decide) (by decide) (by decide) (Nat.le_of_ble_eq_true rfl) (Nat.le_of_ble_eq_true rfl) d_Mo_init_103 (fun q ad13 H g13 f M => ?_)
  subst f
  have hI := mI_up hI
  have G : ∀ k, k < 100 → ad13 k = ad k := fun k hk => (g13 k (by omega)).trans (G k hk)
  have f13 : ad13 (112) = ad13 (112) := rfl
  refine m_nQ (k := 99) (y := 112) (j := 15) S M ok_Mo ((G (99) (by omega)).trans e0) f13 (by omega) rfl (by decide) rfl kc_117 rfl rfl hnm rfl rfl d_Mo_init_105 (fun H locs M => ?_)
  have hI := mI_sQ (k := 99) (j := 15) (y := 112) hI (by omega) (by omega)
  refine lv_aload_n S.1 S.2.1 d_Mo_init_108 rfl (lv_at hl 0 rfl) ?_
  refine lv_bipush (v := 12) S.1 S.2.1 d_Mo_init_109 (by decide) ?_
  refine m_newa (atype := .int) (N := 12) (tg := 0) (k0 := 0) S M hI (tC_dy cA) hA ka_int rfl rfl rfl (fun _ h => by cases h) (fun _ => rfl) (by decide) (by decide) (by decide) (by decide) (Nat.le_of_ble_eq_true rfl) (Nat.le_of_ble_eq_true rfl) d_Mo_init_111 (fun q ad14 H g14 f M => ?_)
  subst f
  have hI := mI_up hI
  have G : ∀ k, k < 100 → ad14 k = ad k := fun k hk => (g14 k (by omega)).trans (G k hk)
  have f14 : ad14 (113) = ad14 (113) := rfl
  refine m_nQ (k := 99) (y := 113) (j := 16) S M ok_Mo ((G (99) (by omega)).trans e0) f14 (by omega) rfl (by decide) rfl kc_118 rfl rfl hnm rfl rfl d_Mo_init_113 (fun H locs M => ?_)
  have hI := mI_sQ (k := 99) (j := 16) (y := 113) hI (by omega) (by omega)
  refine lv_aload_n S.1 S.2.1 d_Mo_init_116 rfl (lv_at hl 0 rfl) ?_
  refine lv_bipush (v := 12) S.1 S.2.1 d_Mo_init_117 (by decide) ?_
  refine m_newa (atype := .int) (N := 12) (tg := 0) (k0 := 0) S M hI (tC_dy cA) hA ka_int rfl rfl rfl (fun _ h => by cases h) (fun _ => rfl) (by decide) (by decide) (by decide) (by decide) (Nat.le_of_ble_eq_true rfl) (Nat.le_of_ble_eq_true rfl) d_Mo_init_119 (fun q ad15 H g15 f M => ?_)
  subst f
  have hI := mI_up hI
  have G : ∀ k, k < 100 → ad15 k = ad k := fun k hk => (g15 k (by omega)).trans (G k hk)
  have f15 : ad15 (114) = ad15 (114) := rfl
  refine m_nQ (k := 99) (y := 114) (j := 17) S M ok_Mo ((G (99) (by omega)).trans e0) f15 (by omega) rfl (by decide) rfl kc_119 rfl rfl hnm rfl rfl d_Mo_init_121 (fun H locs M => ?_)
  have hI := mI_sQ (k := 99) (j := 17) (y := 114) hI (by omega) (by omega)
  refine lv_aload_n S.1 S.2.1 d_Mo_init_124 rfl (lv_at hl 0 rfl) ?_
  refine lv_bipush (v := 12) S.1 S.2.1 d_Mo_init_125 (by decide) ?_
  refine m_newa (atype := .int) (N := 12) (tg := 0) (k0 := 0) S M hI (tC_dy cA) hA ka_int rfl rfl rfl (fun _ h => by cases h) (fun _ => rfl) (by decide) (by decide) (by decide) (by decide) (Nat.le_of_ble_eq_true rfl) (Nat.le_of_ble_eq_true rfl) d_Mo_init_127 (fun q ad16 H g16 f M => ?_)
  subst f
  have hI := mI_up hI
  have G : ∀ k, k < 100 → ad16 k = ad k := fun k hk => (g16 k (by omega)).trans (G k hk)
  have f16 : ad16 (115) = ad16 (115) := rfl
  refine m_nQ (k := 99) (y := 115) (j := 18) S M ok_Mo ((G (99) (by omega)).trans e0) f16 (by omega) rfl (by decide) rfl kc_120 rfl rfl hnm rfl rfl d_Mo_init_129 (fun H locs M => ?_)
  have hI := mI_sQ (k := 99) (j := 18) (y := 115) hI (by omega) (by omega)
  refine lv_aload_n S.1 S.2.1 d_Mo_init_132 rfl (lv_at hl 0 rfl) ?_
  refine lv_iconst (v := (-1)) S.1 S.2.1 d_Mo_init_133 (by decide) ?_
  refine m_nI (k := 99) (j := 21) S M ok_Mo ((G (99) (by omega)).trans e0) (by omega) rfl (by decide) rfl kc_121 rfl hnm rfl rfl d_Mo_init_134 (fun H locs M => ?_)
  have hI := mI_sI (k := 99) (j := 21) (v := (-1)) hI (by omega)
  refine lv_aload_n S.1 S.2.1 d_Mo_init_137 rfl (lv_at hl 0 rfl) ?_
  refine lv_bipush (v := 31) S.1 S.2.1 d_Mo_init_138 (by decide) ?_
  refine m_newa (atype := .int) (N := 31) (tg := 0) (k0 := 0) S M hI (tC_dy cA) hA ka_int rfl rfl rfl (fun _ h => by cases h) (fun _ => rfl) (by decide) (by decide) (by decide) (by decide) (Nat.le_of_ble_eq_true rfl) (Nat.le_of_ble_eq_true rfl) d_Mo_init_140 (fun q ad17 H g17 f M => ?_)
  subst f
  have hI := mI_up hI
  have G : ∀ k, k < 100 → ad17 k = ad k := fun k hk => (g17 k (by omega)).trans (G k hk)
  have f17 : ad17 (116) = ad17 (116) := rfl
  refine m_nQ (k := 99) (y := 116) (j := 24) S M ok_Mo ((G (99) (by omega)).trans e0) f17 (by omega) rfl (by decide) rfl kc_122 rfl rfl hnm rfl rfl d_Mo_init_142 (fun H locs M => ?_)
  have hI := mI_sQ (k := 99) (j := 24) (y := 116) hI (by omega) (by omega)
  refine lv_aload_n S.1 S.2.1 d_Mo_init_145 rfl (lv_at hl 0 rfl) ?_
  refine lv_bipush (v := 31) S.1 S.2.1 d_Mo_init_146 (by decide) ?_
  refine m_newa (atype := .int) (N := 31) (tg := 0) (k0 := 0) S M hI (tC_dy cA) hA ka_int rfl rfl rfl (fun _ h => by cases h) (fun _ => rfl) (by decide) (by decide) (by decide) (by decide) (Nat.le_of_ble_eq_true rfl) (Nat.le_of_ble_eq_true rfl) d_Mo_init_148 (fun q ad18 H g18 f M => ?_)
  subst f
  have hI := mI_up hI
  have G : ∀ k, k < 100 → ad18 k = ad k := fun k hk => (g18 k (by omega)).trans (G k hk)
  have f18 : ad18 (117) = ad18 (117) := rfl
  refine m_nQ (k := 99) (y := 117) (j := 25) S M ok_Mo ((G (99) (by omega)).trans e0) f18 (by omega) rfl (by decide) rfl kc_123 rfl rfl hnm rfl rfl d_Mo_init_150 (fun H locs M => ?_)
  have hI := mI_sQ (k := 99) (j := 25) (y := 117) hI (by omega) (by omega)
  refine lv_aload_n S.1 S.2.1 d_Mo_init_153 rfl (lv_at hl 0 rfl) ?_
  refine lv_sipush (v := 310) S.1 S.2.1 d_Mo_init_154 (by decide) ?_
  refine m_newa (atype := .int) (N := 310) (tg := 0) (k0 := 0) S M hI (tC_dy cA) hA ka_int rfl rfl rfl (fun _ h => by cases h) (fun _ => rfl) (by decide) (by decide) (by decide) (by decide) (Nat.le_of_ble_eq_true rfl) (Nat.le_of_ble_eq_true rfl) d_Mo_init_157 (fun q ad19 H g19 f M => ?_)
  subst f
  have hI := mI_up hI
  have G : ∀ k, k < 100 → ad19 k = ad k := fun k hk => (g19 k (by omega)).trans (G k hk)
  have f19 : ad19 (118) = ad19 (118) := rfl
  refine m_nQ (k := 99) (y := 118) (j := 26) S M ok_Mo ((G (99) (by omega)).trans e0) f19 (by omega) rfl (by decide) rfl kc_124 rfl rfl hnm rfl rfl d_Mo_init_159 (fun H locs M => ?_)
  have hI := mI_sQ (k := 99) (j := 26) (y := 118) hI (by omega) (by omega)
  refine lv_aload_n S.1 S.2.1 d_Mo_init_162 rfl (lv_at hl 0 rfl) ?_
  refine lv_bipush (v := 10) S.1 S.2.1 d_Mo_init_163 (by decide) ?_
  refine m_newa (atype := .long) (N := 10) (tg := 1) (k0 := 1) S M hI (tC_dy cA) hA ka_long rfl rfl rfl (fun _ h => by cases h) (fun _ => rfl) (by decide) (by decide) (by decide) (by decide) (Nat.le_of_ble_eq_true rfl) (Nat.le_of_ble_eq_true rfl) d_Mo_init_165 (fun q ad20 H g20 f M => ?_)
  subst f
  have hI := mI_up hI
  have G : ∀ k, k < 100 → ad20 k = ad k := fun k hk => (g20 k (by omega)).trans (G k hk)
  have f20 : ad20 (119) = ad20 (119) := rfl
  refine m_nQ (k := 99) (y := 119) (j := 27) S M ok_Mo ((G (99) (by omega)).trans e0) f20 (by omega) rfl (by decide) rfl kc_125 rfl rfl hnm rfl rfl d_Mo_init_167 (fun H locs M => ?_)
  have hI := mI_sQ (k := 99) (j := 27) (y := 119) hI (by omega) (by omega)
  refine lv_aload_n S.1 S.2.1 d_Mo_init_170 rfl (lv_at hl 0 rfl) ?_
  refine lv_bipush (v := 10) S.1 S.2.1 d_Mo_init_171 (by decide) ?_
  refine m_newa (atype := .long) (N := 10) (tg := 1) (k0 := 1) S M hI (tC_dy cA) hA ka_long rfl rfl rfl (fun _ h => by cases h) (fun _ => rfl) (by decide) (by decide) (by decide) (by decide) (Nat.le_of_ble_eq_true rfl) (Nat.le_of_ble_eq_true rfl) d_Mo_init_173 (fun q ad21 H g21 f M => ?_)
  subst f
  have hI := mI_up hI
  have G : ∀ k, k < 100 → ad21 k = ad k := fun k hk => (g21 k (by omega)).trans (G k hk)
  have f21 : ad21 (120) = ad21 (120) := rfl
  refine m_nQ (k := 99) (y := 120) (j := 28) S M ok_Mo ((G (99) (by omega)).trans e0) f21 (by omega) rfl (by decide) rfl kc_126 rfl rfl hnm rfl rfl d_Mo_init_175 (fun H locs M => ?_)
  have hI := mI_sQ (k := 99) (j := 28) (y := 120) hI (by omega) (by omega)
  refine lv_aload_n S.1 S.2.1 d_Mo_init_178 rfl (lv_at hl 0 rfl) ?_
  refine lv_bipush (v := 12) S.1 S.2.1 d_Mo_init_179 (by decide) ?_
  refine m_newa (atype := .int) (N := 12) (tg := 0) (k0 := 0) S M hI (tC_dy cA) hA ka_int rfl rfl rfl (fun _ h => by cases h) (fun _ => rfl) (by decide) (by decide) (by decide) (by decide) (Nat.le_of_ble_eq_true rfl) (Nat.le_of_ble_eq_true rfl) d_Mo_init_181 (fun q ad22 H g22 f M => ?_)
  subst f
  have hI := mI_up hI
  have G : ∀ k, k < 100 → ad22 k = ad k := fun k hk => (g22 k (by omega)).trans (G k hk)
  have f22 : ad22 (121) = ad22 (121) := rfl
  refine m_nQ (k := 99) (y := 121) (j := 31) S M ok_Mo ((G (99) (by omega)).trans e0) f22 (by omega) rfl (by decide) rfl kc_127 rfl rfl hnm rfl rfl d_Mo_init_183 (fun H locs M => ?_)
  have hI := mI_sQ (k := 99) (j := 31) (y := 121) hI (by omega) (by omega)
  refine lv_aload_n S.1 S.2.1 d_Mo_init_186 rfl (lv_at hl 0 rfl) ?_
  refine lv_iload_n S.1 S.2.1 d_Mo_init_187 rfl (lv_at hl 1 rfl) ?_
  refine lv_iconst (v := 1) S.1 S.2.1 d_Mo_init_188 (by decide) ?_
  refine lv_icmp_ge (tgt := 196) S.1 S.2.1 d_Mo_init_189 (by decide) (fun c1 => ?_) (fun c1 => ?_)
  · refine lv_iload_n S.1 S.2.1 d_Mo_init_196 rfl (lv_at hl 1 rfl) ?_
    refine lv_iconst (v := 3) S.1 S.2.1 d_Mo_init_197 (by decide) ?_
    refine lv_icmp_le (tgt := 205) S.1 S.2.1 d_Mo_init_198 (by decide) (fun c2 => ?_) (fun c2 => ?_)
    · refine lv_iload_n S.1 S.2.1 d_Mo_init_205 rfl (lv_at hl 1 rfl) ?_
      refine m_nI (k := 99) (j := 0) S M ok_Mo ((G 99 (by omega)).trans e0) (by omega) rfl (by decide) rfl kc_128 rfl hnm rfl rfl d_Mo_init_206 (fun H locs M => ?_)
      have eh : hpM x1 = x1 := by unfold hpM; rw [if_pos c1, if_pos c2]
      unfold g_Mo
      rw [eh]
      exact m_nret S hr hlk G M d_Mo_init_209
    · refine lv_iconst (v := 3) S.1 S.2.1 d_Mo_init_201 (by decide) ?_
      refine lv_goto (tgt := 206) S.1 S.2.1 d_Mo_init_202 (by decide) ?_
      refine m_nI (k := 99) (j := 0) S M ok_Mo ((G 99 (by omega)).trans e0) (by omega) rfl (by decide) rfl kc_128 rfl hnm rfl rfl d_Mo_init_206 (fun H locs M => ?_)
      have eh : hpM x1 = 3 := by unfold hpM; rw [if_pos c1, if_neg c2]
      unfold g_Mo
      rw [eh]
      exact m_nret S hr hlk G M d_Mo_init_209
  · refine lv_iconst (v := 1) S.1 S.2.1 d_Mo_init_192 (by decide) ?_
    refine lv_goto (tgt := 206) S.1 S.2.1 d_Mo_init_193 (by decide) ?_
    refine m_nI (k := 99) (j := 0) S M ok_Mo ((G 99 (by omega)).trans e0) (by omega) rfl (by decide) rfl kc_128 rfl hnm rfl rfl d_Mo_init_206 (fun H locs M => ?_)
    have eh : hpM x1 = 1 := by unfold hpM; rw [if_neg c1]
    unfold g_Mo
    rw [eh]
    exact m_nret S hr hlk G M d_Mo_init_209
end
