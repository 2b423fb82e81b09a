theorem d_LP_missed_0 : decode prog_1_method_27_code 0 = .ok (.aload_n 0, 1) := by decide +kernel
theorem d_LP_missed_1 : decode prog_1_method_27_code 1 = .ok (.iload_n 1, 1) := by decide +kernel
theorem d_LP_missed_2 : decode prog_1_method_27_code 2 = .ok (.iload_n 2, 1) := by decide +kernel
theorem d_LP_missed_3 : decode prog_1_method_27_code 3 = .ok (.invokevirtual 91, 3) := by decide +kernel
theorem d_LP_missed_6 : decode prog_1_method_27_code 6 = .ok (.ifCond .ne 5, 3) := by decide +kernel
theorem d_LP_missed_9 : decode prog_1_method_27_code 9 = .ok (.iconst (-1), 1) := by decide +kernel
theorem d_LP_missed_10 : decode prog_1_method_27_code 10 = .ok (.ireturn, 1) := by decide +kernel
theorem d_LP_missed_11 : decode prog_1_method_27_code 11 = .ok (.aload_n 0, 1) := by decide +kernel
theorem d_LP_missed_12 : decode prog_1_method_27_code 12 = .ok (.iload_n 1, 1) := by decide +kernel
theorem d_LP_missed_13 : decode prog_1_method_27_code 13 = .ok (.iload_n 2, 1) := by decide +kernel
theorem d_LP_missed_14 : decode prog_1_method_27_code 14 = .ok (.lconst 0, 1) := by decide +kernel
theorem d_LP_missed_15 : decode prog_1_method_27_code 15 = .ok (.invokevirtual 217, 3) := by decide +kernel
theorem d_LP_missed_18 : decode prog_1_method_27_code 18 = .ok (.istore_n 3, 1) := by decide +kernel
theorem d_LP_missed_19 : decode prog_1_method_27_code 19 = .ok (.bipush (-3), 2) := by decide +kernel
theorem d_LP_missed_21 : decode prog_1_method_27_code 21 = .ok (.istore 4, 2) := by decide +kernel
theorem d_LP_missed_23 : decode prog_1_method_27_code 23 = .ok (.iconst 0, 1) := by decide +kernel
theorem d_LP_missed_24 : decode prog_1_method_27_code 24 = .ok (.istore 5, 2) := by decide +kernel
theorem d_LP_missed_26 : decode prog_1_method_27_code 26 = .ok (.iload 5, 2) := by decide +kernel
theorem d_LP_missed_28 : decode prog_1_method_27_code 28 = .ok (.aload_n 0, 1) := by decide +kernel
theorem d_LP_missed_29 : decode prog_1_method_27_code 29 = .ok (.getfield 27, 3) := by decide +kernel
theorem d_LP_missed_32 : decode prog_1_method_27_code 32 = .ok (.getfield 96, 3) := by decide +kernel
theorem d_LP_missed_35 : decode prog_1_method_27_code 35 = .ok (.if_icmp .ge 50, 3) := by decide +kernel
theorem d_LP_missed_38 : decode prog_1_method_27_code 38 = .ok (.aload_n 0, 1) := by decide +kernel
theorem d_LP_missed_39 : decode prog_1_method_27_code 39 = .ok (.getfield 27, 3) := by decide +kernel
theorem d_LP_missed_42 : decode prog_1_method_27_code 42 = .ok (.iload 5, 2) := by decide +kernel
theorem d_LP_missed_44 : decode prog_1_method_27_code 44 = .ok (.invokevirtual 103, 3) := by decide +kernel
theorem d_LP_missed_47 : decode prog_1_method_27_code 47 = .ok (.ifCond .eq 16, 3) := by decide +kernel
theorem d_LP_missed_50 : decode prog_1_method_27_code 50 = .ok (.aload_n 0, 1) := by decide +kernel
theorem d_LP_missed_51 : decode prog_1_method_27_code 51 = .ok (.iload_n 1, 1) := by decide +kernel
theorem d_LP_missed_52 : decode prog_1_method_27_code 52 = .ok (.iload_n 2, 1) := by decide +kernel
theorem d_LP_missed_53 : decode prog_1_method_27_code 53 = .ok (.lconst 1, 1) := by decide +kernel
theorem d_LP_missed_54 : decode prog_1_method_27_code 54 = .ok (.iload 5, 2) := by decide +kernel
theorem d_LP_missed_56 : decode prog_1_method_27_code 56 = .ok (.lshl, 1) := by decide +kernel
theorem d_LP_missed_57 : decode prog_1_method_27_code 57 = .ok (.invokevirtual 217, 3) := by decide +kernel
theorem d_LP_missed_60 : decode prog_1_method_27_code 60 = .ok (.goto 4, 3) := by decide +kernel
theorem d_LP_missed_63 : decode prog_1_method_27_code 63 = .ok (.iconst (-1), 1) := by decide +kernel
theorem d_LP_missed_64 : decode prog_1_method_27_code 64 = .ok (.istore 6, 2) := by decide +kernel
theorem d_LP_missed_66 : decode prog_1_method_27_code 66 = .ok (.iload 6, 2) := by decide +kernel
theorem d_LP_missed_68 : decode prog_1_method_27_code 68 = .ok (.iload_n 3, 1) := by decide +kernel
theorem d_LP_missed_69 : decode prog_1_method_27_code 69 = .ok (.if_icmp .le 10, 3) := by decide +kernel
theorem d_LP_missed_72 : decode prog_1_method_27_code 72 = .ok (.iload 6, 2) := by decide +kernel
theorem d_LP_missed_74 : decode prog_1_method_27_code 74 = .ok (.istore_n 3, 1) := by decide +kernel
theorem d_LP_missed_75 : decode prog_1_method_27_code 75 = .ok (.iload 5, 2) := by decide +kernel
theorem d_LP_missed_77 : decode prog_1_method_27_code 77 = .ok (.istore 4, 2) := by decide +kernel
theorem d_LP_missed_79 : decode prog_1_method_27_code 79 = .ok (.iinc 5 1, 3) := by decide +kernel
theorem d_LP_missed_82 : decode prog_1_method_27_code 82 = .ok (.goto (-56), 3) := by decide +kernel
theorem d_LP_missed_85 : decode prog_1_method_27_code 85 = .ok (.iload 4, 2) := by decide +kernel
theorem d_LP_missed_87 : decode prog_1_method_27_code 87 = .ok (.ireturn, 1) := by decide +kernel
def rm_LP_missed : Room := { frames := 6, cells := 0, slots := 0, locals := 137 }
def f_LP_missed_J64 (t26 : Int32 × Int32 × Int32 × mS) (j4 : Int32) (σ5 : mS) : Option ((Int32 × Int32 × Int32 × mS) ⊕ (Int32 × Int32 × Int32 × mS)) :=
  if j4 ≤ t26.1 then (
  some (.inl (t26.1, t26.2.1, t26.2.2.1 + 1, σ5))) else (
  some (.inl (j4, t26.2.2.1, t26.2.2.1 + 1, σ5)))
def f_LP_missed_L26 (x1 : Int32) (x2 : Int32) : (Int32 × Int32 × Int32 × mS) → Option ((Int32 × Int32 × Int32 × mS) ⊕ (Int32 × Int32 × Int32 × mS)) := fun t26 =>
  if (t26.2.2.2.1 1 7) ≤ t26.2.2.1 then (
  some (.inr (t26.1, t26.2.1, t26.2.2.1, t26.2.2.2))) else (
  (f_Gr_hasArc t26.2.2.2 t26.2.2.1).bind fun v3 =>
  if v3 = 0 then (
  f_LP_missed_J64 t26 ((-1)) t26.2.2.2) else (
  (f_LP_lengthWithout t26.2.2.2 x1 x2 (1 <<< (t26.2.2.1.toInt64 &&& 63))).bind fun o6 =>
  f_LP_missed_J64 t26 o6.1 o6.2))
def f_LP_missed (σ : mS) (x1 : Int32) (x2 : Int32) : Option (Int32 × mS) :=
  (f_LP_isPair σ x1 x2).bind fun v1 =>
  if v1 = 0 then (
  some ((-1), σ)) else (
  (f_LP_lengthWithout σ x1 x2 0).bind fun o2 =>
  (lpN (f_LP_missed_L26 x1 x2) fuS (o2.1, (-3), 0, o2.2)).bind fun u26 =>
  some (u26.2.1, u26.2.2.2))
set_option maxHeartbeats 4000000 in
set_option maxRecDepth 100000 in
theorem c_LP_missed (l : Launch) (D : va_G) (cA ad : Nat → Nat) (σ : mS) (x1 : Int32) (x2 : Int32) (o : Int32 × mS) (h : f_LP_missed σ x1 x2 = some o) : mCi l ⟨"LeastPaths", "missed", "(II)I"⟩ (Cond.code ⟨"LeastPaths", "missed", "(II)I"⟩ prog_1_method_27_code 7 (Option.some Jvm.ClassFile.FieldType.int) :: tlG) rm_LP_missed D clX (tyK cA) 99 (tbX cA) ad σ [.ref (ad 0), .int x1, .int x2] o := by
  intro sz
  refine m_of (cc := prog_1_method_27_code) (maxL := 7) (Qc := mQi D clX (tyK cA) 99 (tbX cA) ad o) (by decide) (Nat.le_of_ble_eq_true rfl) (fun p e s m args below meth c ls S hr hlk hnm hl M => ?_) sz
  have hl : lv_has ls 7 [(0, .ref (ad 0)), (1, .int x1), (2, .int x2)] := hl
  generalize hQ : MQ _ _ _ _ _ _ _ = Q
  skip
  unfold f_LP_missed at h
  refine lv_aload_n S.1 S.2.1 d_LP_missed_0 rfl (lv_at hl 0 rfl) ?_
  refine lv_iload_n S.1 S.2.1 d_LP_missed_1 rfl (lv_at hl 1 rfl) ?_
  refine lv_iload_n S.1 S.2.1 d_LP_missed_2 rfl (lv_at hl 2 rfl) ?_
  refine m_xip h (fun o ho => m_rV (As := [.int x1, .int x2]) (rest := []) S M hl.1 (cwG (n := 2) S.2.2.2.2 kw_282 kw_283 kw_284 kw_280 kw_285 (by decide) ⟨Nat.le_of_ble_eq_true rfl, Nat.le_of_ble_eq_true rfl⟩) ok_LP (by decide) rfl (c_LP_isPair l D cA ad σ x1 x2 o ho _) rfl rfl (Nat.le_of_ble_eq_true rfl) d_LP_missed_3 ⟨Nat.zero_le _, Nat.zero_le _⟩) M (fun v1 H locs h M => ?_)
  refine m_ifne (tgt := 11) S d_LP_missed_6 (by decide) h (fun h => ?_) (fun h => ?_)
  · refine lv_aload_n S.1 S.2.1 d_LP_missed_11 rfl (lv_at hl 0 rfl) ?_
    refine lv_iload_n S.1 S.2.1 d_LP_missed_12 rfl (lv_at hl 1 rfl) ?_
    refine lv_iload_n S.1 S.2.1 d_LP_missed_13 rfl (lv_at hl 2 rfl) ?_
    refine lv_lconst (v := 0) S.1 S.2.1 d_LP_missed_14 (by decide) ?_
    refine m_xi h (fun o ho => m_rV (As := [.int x1, .int x2, .long 0]) (rest := []) S M hl.1 (cwG (n := 3) S.2.2.2.2 kw_377 kw_378 kw_379 kw_280 kw_380 (by decide) ⟨Nat.le_of_ble_eq_true rfl, Nat.le_of_ble_eq_true rfl⟩) ok_LP (by decide) rfl (c_LP_lengthWithout l D cA ad σ x1 x2 0 o ho _) rfl rfl (Nat.le_of_ble_eq_true rfl) d_LP_missed_15 ⟨Nat.zero_le _, Nat.zero_le _⟩) M (fun o2 H locs h M => ?_)
    refine lv_istore_n (lv' := [(3, .int o2.1), (0, .ref (ad 0)), (1, .int x1), (2, .int x2)]) S.1 S.2.1 d_LP_missed_18 rfl hl (by decide) rfl (fun ls hl => ?_)
    refine lv_bipush (v := (-3)) S.1 S.2.1 d_LP_missed_19 (by decide) ?_
    refine lv_istore (lv' := [(4, .int ((-3))), (3, .int o2.1), (0, .ref (ad 0)), (1, .int x1), (2, .int x2)]) S.1 S.2.1 d_LP_missed_21 hl (by decide) rfl (fun ls hl => ?_)
    refine lv_iconst (v := 0) S.1 S.2.1 d_LP_missed_23 (by decide) ?_
    refine lv_istore (lv' := [(5, .int 0), (4, .int ((-3))), (3, .int o2.1), (0, .ref (ad 0)), (1, .int x1), (2, .int x2)]) S.1 S.2.1 d_LP_missed_24 hl (by decide) rfl (fun ls hl => ?_)
    obtain ⟨u26, q26, h⟩ := Option.bind_eq_some_iff.mp h
    refine lpN_W1 (st := f_LP_missed_L26 x1 x2) (fun (t26 : Int32 × Int32 × Int32 × mS) => ∀ (ls : Array Slot) (H : Heap) (locs : List Loc), lv_has ls 7 [(5, .int t26.2.2.1), (4, .int t26.2.1), (3, .int t26.1), (0, .ref (ad 0)), (1, .int x1), (2, .int x2)] → mM D clX (tyK cA) (mA 99 ad s.heap.size) s 99 (tbX cA) ad t26.2.2.2 H locs → W p l e rm_LP_missed s m args below meth c H locs 0 0 Q (F0 m 26 ls [])) (fun (u26 : Int32 × Int32 × Int32 × mS) => ∀ (ls : Array Slot) (H : Heap) (locs : List Loc), lv_has ls 7 [(5, .int u26.2.2.1), (4, .int u26.2.1), (3, .int u26.1), (0, .ref (ad 0)), (1, .int x1), (2, .int x2)] → mM D clX (tyK cA) (mA 99 ad s.heap.size) s 99 (tbX cA) ad u26.2.2.2 H locs → W p l e rm_LP_missed s m args below meth c H locs 0 0 Q (F0 m 85 ls [])) ?_ fuS ((o2.1, (-3), 0, o2.2) : Int32 × Int32 × Int32 × mS) u26 q26 ?_ ls _ _ (lv_sub hl [0, 1, 2, 3, 4, 5] rfl) M
    · intro t26 oo26 h K1 K2 ls H locs hl M
      unfold f_LP_missed_L26 at h
      refine lv_iload S.1 S.2.1 d_LP_missed_26 (lv_at hl 0 rfl) ?_
      refine lv_aload_n S.1 S.2.1 d_LP_missed_28 rfl (lv_at hl 3 rfl) ?_
      refine m_gs (t := 1) S M (j := 1) ok_LP (by decide) rfl (by decide) rfl kw_267 rfl d_LP_missed_29 ?_
      refine m_gi S M (j := 7) ok_Gr (by decide) rfl (by decide) rfl kw_287 rfl d_LP_missed_32 ?_
      refine m_ige (tgt := 85) S d_LP_missed_35 (by decide) h (fun h => ?_) (fun h => ?_)
      · exact K2 _ (Option.some.inj h).symm ls _ _ (lv_sub hl [0, 1, 2, 3, 4, 5] rfl) M
      · refine lv_aload_n S.1 S.2.1 d_LP_missed_38 rfl (lv_at hl 3 rfl) ?_
        refine m_gs (t := 1) S M (j := 1) ok_LP (by decide) rfl (by decide) rfl kw_267 rfl d_LP_missed_39 ?_
        refine lv_iload S.1 S.2.1 d_LP_missed_42 (lv_at hl 0 rfl) ?_
        refine m_xip h (fun o ho => m_rV (As := [.int t26.2.2.1]) (rest := []) S M hl.1 (cwG (n := 1) S.2.2.2.2 kw_292 kw_13 kw_14 kw_15 kw_16 (by decide) ⟨Nat.le_of_ble_eq_true rfl, Nat.le_of_ble_eq_true rfl⟩) ok_Gr (by decide) rfl (c_Gr_hasArc l D cA ad t26.2.2.2 t26.2.2.1 o ho _) rfl rfl (Nat.le_of_ble_eq_true rfl) d_LP_missed_44 ⟨Nat.zero_le _, Nat.zero_le _⟩) M (fun v3 H locs h M => ?_)
        have J64 : ∀ (j4 : Int32) (σ5 : mS) (ls : Array Slot) (H : Heap) (locs : List Loc), f_LP_missed_J64 t26 j4 σ5 = some oo26 → lv_has ls 7 [(5, .int t26.2.2.1), (4, .int t26.2.1), (3, .int t26.1), (0, .ref (ad 0)), (1, .int x1), (2, .int x2)] → mM D clX (tyK cA) (mA 99 ad s.heap.size) s 99 (tbX cA) ad σ5 H locs → W p l e rm_LP_missed s m args below meth c H locs 0 0 Q (F0 m 64 ls [.int j4]) := by
          intro j4 σ5 ls H locs h hl M
          unfold f_LP_missed_J64 at h
          refine lv_istore (lv' := [(6, .int j4), (5, .int t26.2.2.1), (4, .int t26.2.1), (3, .int t26.1), (0, .ref (ad 0)), (1, .int x1), (2, .int x2)]) S.1 S.2.1 d_LP_missed_64 hl (by decide) rfl (fun ls hl => ?_)
          refine lv_iload S.1 S.2.1 d_LP_missed_66 (lv_at hl 0 rfl) ?_
          refine lv_iload_n S.1 S.2.1 d_LP_missed_68 rfl (lv_at hl 3 rfl) ?_
          refine m_ile (tgt := 79) S d_LP_missed_69 (by decide) h (fun h => ?_) (fun h => ?_)
          · refine lv_iinc (v := t26.2.2.1 + 1) (lv' := [(5, .int (t26.2.2.1 + 1)), (6, .int j4), (4, .int t26.2.1), (3, .int t26.1), (0, .ref (ad 0)), (1, .int x1), (2, .int x2)]) S.1 S.2.1 d_LP_missed_79 hl (k := 1) rfl rfl (by decide) rfl (fun ls hl => ?_)
            refine lv_goto (tgt := 26) S.1 S.2.1 d_LP_missed_82 (by decide) ?_
            exact K1 _ (Option.some.inj h).symm ls _ _ (lv_sub hl [0, 2, 3, 4, 5, 6] rfl) M
          · refine lv_iload S.1 S.2.1 d_LP_missed_72 (lv_at hl 0 rfl) ?_
            refine lv_istore_n (lv' := [(3, .int j4), (6, .int j4), (5, .int t26.2.2.1), (4, .int t26.2.1), (0, .ref (ad 0)), (1, .int x1), (2, .int x2)]) S.1 S.2.1 d_LP_missed_74 rfl hl (by decide) rfl (fun ls hl => ?_)
            refine lv_iload S.1 S.2.1 d_LP_missed_75 (lv_at hl 2 rfl) ?_
            refine lv_istore (lv' := [(4, .int t26.2.2.1), (3, .int j4), (6, .int j4), (5, .int t26.2.2.1), (0, .ref (ad 0)), (1, .int x1), (2, .int x2)]) S.1 S.2.1 d_LP_missed_77 hl (by decide) rfl (fun ls hl => ?_)
            refine lv_iinc (v := t26.2.2.1 + 1) (lv' := [(5, .int (t26.2.2.1 + 1)), (4, .int t26.2.2.1), (3, .int j4), (6, .int j4), (0, .ref (ad 0)), (1, .int x1), (2, .int x2)]) S.1 S.2.1 d_LP_missed_79 hl (k := 3) rfl rfl (by decide) rfl (fun ls hl => ?_)
            refine lv_goto (tgt := 26) S.1 S.2.1 d_LP_missed_82 (by decide) ?_
            exact K1 _ (Option.some.inj h).symm ls _ _ (lv_sub hl [0, 1, 2, 4, 5, 6] rfl) M
        refine m_ifeq (tgt := 63) S d_LP_missed_47 (by decide) h (fun h => ?_) (fun h => ?_)
        · refine lv_iconst (v := (-1)) S.1 S.2.1 d_LP_missed_63 (by decide) ?_
          exact J64 _ _ ls _ _ h (lv_sub hl [0, 1, 2, 3, 4, 5] rfl) M
        · refine lv_aload_n S.1 S.2.1 d_LP_missed_50 rfl (lv_at hl 3 rfl) ?_
          refine lv_iload_n S.1 S.2.1 d_LP_missed_51 rfl (lv_at hl 4 rfl) ?_
          refine lv_iload_n S.1 S.2.1 d_LP_missed_52 rfl (lv_at hl 5 rfl) ?_
          refine lv_lconst (v := 1) S.1 S.2.1 d_LP_missed_53 (by decide) ?_
          refine lv_iload S.1 S.2.1 d_LP_missed_54 (lv_at hl 0 rfl) ?_
          refine lv_lshl S.1 S.2.1 d_LP_missed_56 rfl ?_
          refine m_xi h (fun o ho => m_rV (As := [.int x1, .int x2, .long (1 <<< (t26.2.2.1.toInt64 &&& 63))]) (rest := []) S M hl.1 (cwG (n := 3) S.2.2.2.2 kw_377 kw_378 kw_379 kw_280 kw_380 (by decide) ⟨Nat.le_of_ble_eq_true rfl, Nat.le_of_ble_eq_true rfl⟩) ok_LP (by decide) rfl (c_LP_lengthWithout l D cA ad t26.2.2.2 x1 x2 (1 <<< (t26.2.2.1.toInt64 &&& 63)) o ho _) rfl rfl (Nat.le_of_ble_eq_true rfl) d_LP_missed_57 ⟨Nat.zero_le _, Nat.zero_le _⟩) M (fun o6 H locs h M => ?_)
          refine lv_goto (tgt := 64) S.1 S.2.1 d_LP_missed_60 (by decide) ?_
          exact J64 _ _ ls _ _ h (lv_sub hl [0, 1, 2, 3, 4, 5] rfl) M
    · intro ls H locs hl M
      refine lv_iload S.1 S.2.1 d_LP_missed_85 (lv_at hl 1 rfl) ?_
      subst hQ; exact m_iret S hr hlk M (Option.some.inj h) d_LP_missed_87
  · refine lv_iconst (v := (-1)) S.1 S.2.1 d_LP_missed_9 (by decide) ?_
    subst hQ; exact m_iret S hr hlk M (Option.some.inj h) d_LP_missed_10
