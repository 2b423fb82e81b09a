theorem d_BS_seekBest_0 : decode prog_2_method_4_code 0 = .ok (.aload_n 0, 1) := by decide +kernel
theorem d_BS_seekBest_1 : decode prog_2_method_4_code 1 = .ok (.ldc 49, 2) := by decide +kernel
theorem d_BS_seekBest_3 : decode prog_2_method_4_code 3 = .ok (.putfield 45, 3) := by decide +kernel
theorem d_BS_seekBest_6 : decode prog_2_method_4_code 6 = .ok (.iconst 0, 1) := by decide +kernel
theorem d_BS_seekBest_7 : decode prog_2_method_4_code 7 = .ok (.istore_n 1, 1) := by decide +kernel
theorem d_BS_seekBest_8 : decode prog_2_method_4_code 8 = .ok (.iload_n 1, 1) := by decide +kernel
theorem d_BS_seekBest_9 : decode prog_2_method_4_code 9 = .ok (.bipush 10, 2) := by decide +kernel
theorem d_BS_seekBest_11 : decode prog_2_method_4_code 11 = .ok (.if_icmp .ge 61, 3) := by decide +kernel
theorem d_BS_seekBest_14 : decode prog_2_method_4_code 14 = .ok (.aload_n 0, 1) := by decide +kernel
theorem d_BS_seekBest_15 : decode prog_2_method_4_code 15 = .ok (.getfield 9, 3) := by decide +kernel
theorem d_BS_seekBest_18 : decode prog_2_method_4_code 18 = .ok (.iload_n 1, 1) := by decide +kernel
theorem d_BS_seekBest_19 : decode prog_2_method_4_code 19 = .ok (.invokevirtual 50, 3) := by decide +kernel
theorem d_BS_seekBest_22 : decode prog_2_method_4_code 22 = .ok (.ifCond .eq 44, 3) := by decide +kernel
theorem d_BS_seekBest_25 : decode prog_2_method_4_code 25 = .ok (.aload_n 0, 1) := by decide +kernel
theorem d_BS_seekBest_26 : decode prog_2_method_4_code 26 = .ok (.getfield 15, 3) := by decide +kernel
theorem d_BS_seekBest_29 : decode prog_2_method_4_code 29 = .ok (.iload_n 1, 1) := by decide +kernel
theorem d_BS_seekBest_30 : decode prog_2_method_4_code 30 = .ok (.invokevirtual 50, 3) := by decide +kernel
theorem d_BS_seekBest_33 : decode prog_2_method_4_code 33 = .ok (.ifCond .eq 33, 3) := by decide +kernel
theorem d_BS_seekBest_36 : decode prog_2_method_4_code 36 = .ok (.aload_n 0, 1) := by decide +kernel
theorem d_BS_seekBest_37 : decode prog_2_method_4_code 37 = .ok (.aload_n 0, 1) := by decide +kernel
theorem d_BS_seekBest_38 : decode prog_2_method_4_code 38 = .ok (.getfield 45, 3) := by decide +kernel
theorem d_BS_seekBest_41 : decode prog_2_method_4_code 41 = .ok (.aload_n 0, 1) := by decide +kernel
theorem d_BS_seekBest_42 : decode prog_2_method_4_code 42 = .ok (.getfield 9, 3) := by decide +kernel
theorem d_BS_seekBest_45 : decode prog_2_method_4_code 45 = .ok (.getfield 54, 3) := by decide +kernel
theorem d_BS_seekBest_48 : decode prog_2_method_4_code 48 = .ok (.iload_n 1, 1) := by decide +kernel
theorem d_BS_seekBest_49 : decode prog_2_method_4_code 49 = .ok (.iaload, 1) := by decide +kernel
theorem d_BS_seekBest_50 : decode prog_2_method_4_code 50 = .ok (.aload_n 0, 1) := by decide +kernel
theorem d_BS_seekBest_51 : decode prog_2_method_4_code 51 = .ok (.getfield 15, 3) := by decide +kernel
theorem d_BS_seekBest_54 : decode prog_2_method_4_code 54 = .ok (.getfield 54, 3) := by decide +kernel
theorem d_BS_seekBest_57 : decode prog_2_method_4_code 57 = .ok (.iload_n 1, 1) := by decide +kernel
theorem d_BS_seekBest_58 : decode prog_2_method_4_code 58 = .ok (.iaload, 1) := by decide +kernel
theorem d_BS_seekBest_59 : decode prog_2_method_4_code 59 = .ok (.iadd, 1) := by decide +kernel
theorem d_BS_seekBest_60 : decode prog_2_method_4_code 60 = .ok (.invokestatic 58, 3) := by decide +kernel
theorem d_BS_seekBest_63 : decode prog_2_method_4_code 63 = .ok (.putfield 45, 3) := by decide +kernel
theorem d_BS_seekBest_66 : decode prog_2_method_4_code 66 = .ok (.iinc 1 1, 3) := by decide +kernel
theorem d_BS_seekBest_69 : decode prog_2_method_4_code 69 = .ok (.goto (-61), 3) := by decide +kernel
theorem d_BS_seekBest_72 : decode prog_2_method_4_code 72 = .ok (.return_, 1) := by decide +kernel
def rm_BS_seekBest : Room := { frames := 1, cells := 0, slots := 0, locals := 21 }
def f_BS_seekBest_L8 : (Int32 × mS) → Option ((Int32 × mS) ⊕ (Int32 × mS)) := fun t8 =>
  if 10 ≤ t8.1 then (
  some (.inr (t8.1, t8.2))) else (
  (f_Se_knows 8 t8.2 t8.1).bind fun v2 =>
  if v2 = 0 then (
  some (.inl (t8.1 + 1, t8.2))) else (
  (f_Se_knows 16 t8.2 t8.1).bind fun v3 =>
  if v3 = 0 then (
  some (.inl (t8.1 + 1, t8.2))) else (
  gd (inb t8.1 10) (
  gd (inb t8.1 10) (
  nm (sI t8.2 24 2 (if ((t8.2.1 9 t8.1.toNatClampNeg) + (t8.2.1 17 t8.1.toNatClampNeg)) < (t8.2.1 24 2) then ((t8.2.1 9 t8.1.toNatClampNeg) + (t8.2.1 17 t8.1.toNatClampNeg)) else (t8.2.1 24 2))) fun σ4 =>
  some (.inl (t8.1 + 1, σ4)))))))
def f_BS_seekBest (σ : mS) : Option (mS) :=
  nm (sI σ 24 2 2147483647) fun σ1 =>
  (lpN (f_BS_seekBest_L8) fuS (0, σ1)).bind fun u8 =>
  some u8.2
set_option maxHeartbeats 4000000 in
set_option maxRecDepth 100000 in
theorem c_BS_seekBest (l : Launch) (D : va_G) (cA ad : Nat → Nat) (σ : mS) (o : mS) (h : f_BS_seekBest σ = some o) : mCv l ⟨"LeastPaths$BothSides", "seekBest", "()V"⟩ (Cond.code ⟨"LeastPaths$BothSides", "seekBest", "()V"⟩ prog_2_method_4_code 2 (Option.none : Option Jvm.ClassFile.FieldType) :: tlG) rm_BS_seekBest D clX (tyK cA) 99 (tbX cA) ad σ [.ref (ad 24)] o := by
  intro sz
  refine m_of (cc := prog_2_method_4_code) (maxL := 2) (Qc := mQv D clX (tyK cA) 99 (tbX cA) ad o) (by decide) (Nat.le_of_ble_eq_true rfl) (fun p e s m args below meth c ls S hr hlk hnm hl M => ?_) sz
  have hl : lv_has ls 2 [(0, .ref (ad 24))] := hl
  generalize hQ : MQ _ _ _ _ _ _ _ = Q
  skip
  unfold f_BS_seekBest at h
  refine lv_aload_n S.1 S.2.1 d_BS_seekBest_0 rfl (lv_at hl 0 rfl) ?_
  refine lv_ldc (v := 2147483647) S.1 S.2.1 S.2.2.2.1 (S.2.2.2.2 _ kw_130) d_BS_seekBest_1 ?_
  refine m_pi S M (j := 2) ok_BS (by decide) rfl (by decide) rfl kw_131 rfl rfl rfl d_BS_seekBest_3 h (fun σ1 H locs h M => ?_)
  refine lv_iconst (v := 0) S.1 S.2.1 d_BS_seekBest_6 (by decide) ?_
  refine lv_istore_n (lv' := [(1, .int 0), (0, .ref (ad 24))]) S.1 S.2.1 d_BS_seekBest_7 rfl hl (by decide) rfl (fun ls hl => ?_)
  obtain ⟨u8, q8, h⟩ := Option.bind_eq_some_iff.mp h
  refine lpN_W1 (st := f_BS_seekBest_L8) (fun (t8 : Int32 × mS) => ∀ (ls : Array Slot) (H : Heap) (locs : List Loc), lv_has ls 2 [(1, .int t8.1), (0, .ref (ad 24))] → mM D clX (tyK cA) (mA 99 ad s.heap.size) s 99 (tbX cA) ad t8.2 H locs → W p l e rm_BS_seekBest s m args below meth c H locs 0 0 Q (F0 m 8 ls [])) (fun (u8 : Int32 × mS) => ∀ (ls : Array Slot) (H : Heap) (locs : List Loc), lv_has ls 2 [(1, .int u8.1), (0, .ref (ad 24))] → mM D clX (tyK cA) (mA 99 ad s.heap.size) s 99 (tbX cA) ad u8.2 H locs → W p l e rm_BS_seekBest s m args below meth c H locs 0 0 Q (F0 m 72 ls [])) ?_ fuS ((0, σ1) : Int32 × mS) u8 q8 ?_ ls _ _ (lv_sub hl [0, 1] rfl) M
  · intro t8 oo8 h K1 K2 ls H locs hl M
    unfold f_BS_seekBest_L8 at h
    refine lv_iload_n S.1 S.2.1 d_BS_seekBest_8 rfl (lv_at hl 0 rfl) ?_
    refine lv_bipush (v := 10) S.1 S.2.1 d_BS_seekBest_9 (by decide) ?_
    refine m_ige (tgt := 72) S d_BS_seekBest_11 (by decide) h (fun h => ?_) (fun h => ?_)
    · exact K2 _ (Option.some.inj h).symm ls _ _ (lv_sub hl [0, 1] rfl) M
    · refine lv_aload_n S.1 S.2.1 d_BS_seekBest_14 rfl (lv_at hl 1 rfl) ?_
      refine m_gs (t := 8) S M (j := 0) ok_BS (by decide) rfl (by decide) rfl kw_132 rfl d_BS_seekBest_15 ?_
      refine lv_iload_n S.1 S.2.1 d_BS_seekBest_18 rfl (lv_at hl 0 rfl) ?_
      refine m_xip h (fun o ho => m_rV (As := [.int t8.1]) (rest := []) S M hl.1 (cwG (n := 1) S.2.2.2.2 kw_133 kw_113 kw_114 kw_51 kw_115 (by decide) ⟨Nat.le_of_ble_eq_true rfl, Nat.le_of_ble_eq_true rfl⟩) ok_Se (by decide) rfl (c_Se_knows l D cA ad sB_8 t8.2 t8.1 o ho _) rfl rfl (Nat.le_of_ble_eq_true rfl) d_BS_seekBest_19 ⟨Nat.zero_le _, Nat.zero_le _⟩) M (fun v2 H locs h M => ?_)
      refine m_ifeq (tgt := 66) S d_BS_seekBest_22 (by decide) h (fun h => ?_) (fun h => ?_)
      · refine lv_iinc (v := t8.1 + 1) (lv' := [(1, .int (t8.1 + 1)), (0, .ref (ad 24))]) S.1 S.2.1 d_BS_seekBest_66 hl (k := 0) rfl rfl (by decide) rfl (fun ls hl => ?_)
        refine lv_goto (tgt := 8) S.1 S.2.1 d_BS_seekBest_69 (by decide) ?_
        exact K1 _ (Option.some.inj h).symm ls _ _ (lv_sub hl [0, 1] rfl) M
      · refine lv_aload_n S.1 S.2.1 d_BS_seekBest_25 rfl (lv_at hl 1 rfl) ?_
        refine m_gs (t := 16) S M (j := 1) ok_BS (by decide) rfl (by decide) rfl kw_134 rfl d_BS_seekBest_26 ?_
        refine lv_iload_n S.1 S.2.1 d_BS_seekBest_29 rfl (lv_at hl 0 rfl) ?_
        refine m_xip h (fun o ho => m_rV (As := [.int t8.1]) (rest := []) S M hl.1 (cwG (n := 1) S.2.2.2.2 kw_133 kw_113 kw_114 kw_51 kw_115 (by decide) ⟨Nat.le_of_ble_eq_true rfl, Nat.le_of_ble_eq_true rfl⟩) ok_Se (by decide) rfl (c_Se_knows l D cA ad sB_16 t8.2 t8.1 o ho _) rfl rfl (Nat.le_of_ble_eq_true rfl) d_BS_seekBest_30 ⟨Nat.zero_le _, Nat.zero_le _⟩) M (fun v3 H locs h M => ?_)
        refine m_ifeq (tgt := 66) S d_BS_seekBest_33 (by decide) h (fun h => ?_) (fun h => ?_)
        · refine lv_iinc (v := t8.1 + 1) (lv' := [(1, .int (t8.1 + 1)), (0, .ref (ad 24))]) S.1 S.2.1 d_BS_seekBest_66 hl (k := 0) rfl rfl (by decide) rfl (fun ls hl => ?_)
          refine lv_goto (tgt := 8) S.1 S.2.1 d_BS_seekBest_69 (by decide) ?_
          exact K1 _ (Option.some.inj h).symm ls _ _ (lv_sub hl [0, 1] rfl) M
        · refine lv_aload_n S.1 S.2.1 d_BS_seekBest_36 rfl (lv_at hl 1 rfl) ?_
          refine lv_aload_n S.1 S.2.1 d_BS_seekBest_37 rfl (lv_at hl 1 rfl) ?_
          refine m_gi S M (j := 2) ok_BS (by decide) rfl (by decide) rfl kw_131 rfl d_BS_seekBest_38 ?_
          refine lv_aload_n S.1 S.2.1 d_BS_seekBest_41 rfl (lv_at hl 1 rfl) ?_
          refine m_gs (t := 8) S M (j := 0) ok_BS (by decide) rfl (by decide) rfl kw_132 rfl d_BS_seekBest_42 ?_
          refine m_gs (t := 9) S M (j := 3) ok_Se (by decide) rfl (by decide) rfl kw_135 rfl d_BS_seekBest_45 ?_
          refine lv_iload_n S.1 S.2.1 d_BS_seekBest_48 rfl (lv_at hl 0 rfl) ?_
          refine m_ial (t0 := 0) S M (by decide) rfl rfl h d_BS_seekBest_49 (fun h => ?_)
          refine lv_aload_n S.1 S.2.1 d_BS_seekBest_50 rfl (lv_at hl 1 rfl) ?_
          refine m_gs (t := 16) S M (j := 1) ok_BS (by decide) rfl (by decide) rfl kw_134 rfl d_BS_seekBest_51 ?_
          refine m_gs (t := 17) S M (j := 3) ok_Se (by decide) rfl (by decide) rfl kw_135 rfl d_BS_seekBest_54 ?_
          refine lv_iload_n S.1 S.2.1 d_BS_seekBest_57 rfl (lv_at hl 0 rfl) ?_
          refine m_ial (t0 := 0) S M (by decide) rfl rfl h d_BS_seekBest_58 (fun h => ?_)
          refine lv_iadd S.1 S.2.1 d_BS_seekBest_59 ?_
          refine va_mmin (rest := [.ref (ad 24)]) S.1 S.2.1 (S.2.2.1.trans hl.1.symm) S.2.2.2.1 (S.2.2.2.2 _ kw_136) (S.2.2.2.2 _ kw_137) (S.2.2.2.2 _ kw_138) (S.2.2.2.2 _ kw_139) (Nat.le_of_ble_eq_true rfl) (Nat.le_of_ble_eq_true rfl) (Nat.zero_le _) (Nat.zero_le _) d_BS_seekBest_60 ?_
          refine m_pi S M (j := 2) ok_BS (by decide) rfl (by decide) rfl kw_131 rfl rfl rfl d_BS_seekBest_63 h (fun σ4 H locs h M => ?_)
          refine lv_iinc (v := t8.1 + 1) (lv' := [(1, .int (t8.1 + 1)), (0, .ref (ad 24))]) S.1 S.2.1 d_BS_seekBest_66 hl (k := 0) rfl rfl (by decide) rfl (fun ls hl => ?_)
          refine lv_goto (tgt := 8) S.1 S.2.1 d_BS_seekBest_69 (by decide) ?_
          exact K1 _ (Option.some.inj h).symm ls _ _ (lv_sub hl [0, 1] rfl) M
  · intro ls H locs hl M
    subst hQ; exact m_vret S hr hlk M (Option.some.inj h) d_BS_seekBest_72
theorem d_BS_goesOn_0 : decode prog_2_method_3_code 0 = .ok (.aload_n 0, 1) := by decide +kernel
theorem d_BS_goesOn_1 : decode prog_2_method_3_code 1 = .ok (.getfield 9, 3) := by decide +kernel
theorem d_BS_goesOn_4 : decode prog_2_method_3_code 4 = .ok (.invokevirtual 42, 3) := by decide +kernel
theorem d_BS_goesOn_7 : decode prog_2_method_3_code 7 = .ok (.ifCond .ne 13, 3) := by decide +kernel
theorem d_BS_goesOn_10 : decode prog_2_method_3_code 10 = .ok (.aload_n 0, 1) := by decide +kernel
theorem d_BS_goesOn_11 : decode prog_2_method_3_code 11 = .ok (.getfield 15, 3) := by decide +kernel
theorem d_BS_goesOn_14 : decode prog_2_method_3_code 14 = .ok (.invokevirtual 42, 3) := by decide +kernel
theorem d_BS_goesOn_17 : decode prog_2_method_3_code 17 = .ok (.ifCond .eq 5, 3) := by decide +kernel
theorem d_BS_goesOn_20 : decode prog_2_method_3_code 20 = .ok (.iconst 0, 1) := by decide +kernel
theorem d_BS_goesOn_21 : decode prog_2_method_3_code 21 = .ok (.ireturn, 1) := by decide +kernel
theorem d_BS_goesOn_22 : decode prog_2_method_3_code 22 = .ok (.aload_n 0, 1) := by decide +kernel
theorem d_BS_goesOn_23 : decode prog_2_method_3_code 23 = .ok (.getfield 9, 3) := by decide +kernel
theorem d_BS_goesOn_26 : decode prog_2_method_3_code 26 = .ok (.invokevirtual 35, 3) := by decide +kernel
theorem d_BS_goesOn_29 : decode prog_2_method_3_code 29 = .ok (.aload_n 0, 1) := by decide +kernel
theorem d_BS_goesOn_30 : decode prog_2_method_3_code 30 = .ok (.getfield 15, 3) := by decide +kernel
theorem d_BS_goesOn_33 : decode prog_2_method_3_code 33 = .ok (.invokevirtual 35, 3) := by decide +kernel
theorem d_BS_goesOn_36 : decode prog_2_method_3_code 36 = .ok (.iadd, 1) := by decide +kernel
theorem d_BS_goesOn_37 : decode prog_2_method_3_code 37 = .ok (.aload_n 0, 1) := by decide +kernel
theorem d_BS_goesOn_38 : decode prog_2_method_3_code 38 = .ok (.getfield 45, 3) := by decide +kernel
theorem d_BS_goesOn_41 : decode prog_2_method_3_code 41 = .ok (.if_icmp .ge 7, 3) := by decide +kernel
theorem d_BS_goesOn_44 : decode prog_2_method_3_code 44 = .ok (.iconst 1, 1) := by decide +kernel
theorem d_BS_goesOn_45 : decode prog_2_method_3_code 45 = .ok (.goto 4, 3) := by decide +kernel
theorem d_BS_goesOn_48 : decode prog_2_method_3_code 48 = .ok (.iconst 0, 1) := by decide +kernel
theorem d_BS_goesOn_49 : decode prog_2_method_3_code 49 = .ok (.ireturn, 1) := by decide +kernel
def rm_BS_goesOn : Room := { frames := 2, cells := 0, slots := 0, locals := 41 }
def f_BS_goesOn (σ : mS) : Option (Int32) :=
  (f_Se_isOver 8 σ).bind fun v1 =>
  if v1 = 0 then (
  (f_Se_isOver 16 σ).bind fun v2 =>
  if v2 = 0 then (
  (f_Se_leastNumber 8 σ).bind fun v3 =>
  (f_Se_leastNumber 16 σ).bind fun v4 =>
  if (σ.1 24 2) ≤ (v3 + v4) then (
  some 0) else (
  some 1)) else (
  some 0)) else (
  some 0)
set_option maxHeartbeats 4000000 in
set_option maxRecDepth 100000 in
theorem c_BS_goesOn (l : Launch) (D : va_G) (cA ad : Nat → Nat) (σ : mS) (o : Int32) (h : f_BS_goesOn σ = some o) : mCi l ⟨"LeastPaths$BothSides", "goesOn", "()Z"⟩ (Cond.code ⟨"LeastPaths$BothSides", "goesOn", "()Z"⟩ prog_2_method_3_code 1 (Option.some Jvm.ClassFile.FieldType.boolean) :: tlG) rm_BS_goesOn D clX (tyK cA) 99 (tbX cA) ad σ [.ref (ad 24)] (o, σ) := by
  intro sz
  refine m_of (cc := prog_2_method_3_code) (maxL := 1) (Qc := mQi D clX (tyK cA) 99 (tbX cA) ad (o, σ)) (by decide) (Nat.le_of_ble_eq_true rfl) (fun p e s m args below meth c ls S hr hlk hnm hl M => ?_) sz
  have hl : lv_has ls 1 [(0, .ref (ad 24))] := hl
  generalize hQ : MQ _ _ _ _ _ _ _ = Q
  skip
  unfold f_BS_goesOn at h
  refine lv_aload_n S.1 S.2.1 d_BS_goesOn_0 rfl (lv_at hl 0 rfl) ?_
  refine m_gs (t := 8) S M (j := 0) ok_BS (by decide) rfl (by decide) rfl kw_132 rfl d_BS_goesOn_1 ?_
  refine m_xip h (fun o ho => m_rV (As := []) (rest := []) S M hl.1 (cwG (n := 0) S.2.2.2.2 kw_140 kw_101 kw_102 kw_51 kw_103 (by decide) ⟨Nat.le_of_ble_eq_true rfl, Nat.le_of_ble_eq_true rfl⟩) ok_Se (by decide) rfl (c_Se_isOver l D cA ad sB_8 σ o ho _) rfl rfl (Nat.le_of_ble_eq_true rfl) d_BS_goesOn_4 ⟨Nat.zero_le _, Nat.zero_le _⟩) M (fun v1 H locs h M => ?_)
  refine m_ifne (tgt := 20) S d_BS_goesOn_7 (by decide) h (fun h => ?_) (fun h => ?_)
  · refine lv_iconst (v := 0) S.1 S.2.1 d_BS_goesOn_20 (by decide) ?_
    subst hQ; exact m_zret S hr hlk M (by rw [Option.some.inj h]) rfl d_BS_goesOn_21
  · refine lv_aload_n S.1 S.2.1 d_BS_goesOn_10 rfl (lv_at hl 0 rfl) ?_
    refine m_gs (t := 16) S M (j := 1) ok_BS (by decide) rfl (by decide) rfl kw_134 rfl d_BS_goesOn_11 ?_
    refine m_xip h (fun o ho => m_rV (As := []) (rest := []) S M hl.1 (cwG (n := 0) S.2.2.2.2 kw_140 kw_101 kw_102 kw_51 kw_103 (by decide) ⟨Nat.le_of_ble_eq_true rfl, Nat.le_of_ble_eq_true rfl⟩) ok_Se (by decide) rfl (c_Se_isOver l D cA ad sB_16 σ o ho _) rfl rfl (Nat.le_of_ble_eq_true rfl) d_BS_goesOn_14 ⟨Nat.zero_le _, Nat.zero_le _⟩) M (fun v2 H locs h M => ?_)
    refine m_ifeq (tgt := 22) S d_BS_goesOn_17 (by decide) h (fun h => ?_) (fun h => ?_)
    · refine lv_aload_n S.1 S.2.1 d_BS_goesOn_22 rfl (lv_at hl 0 rfl) ?_
      refine m_gs (t := 8) S M (j := 0) ok_BS (by decide) rfl (by decide) rfl kw_132 rfl d_BS_goesOn_23 ?_
      refine m_xip h (fun o ho => m_rV (As := []) (rest := []) S M hl.1 (cwG (n := 0) S.2.2.2.2 kw_141 kw_142 kw_143 kw_51 kw_144 (by decide) ⟨Nat.le_of_ble_eq_true rfl, Nat.le_of_ble_eq_true rfl⟩) ok_Se (by decide) rfl (c_Se_leastNumber l D cA ad sB_8 σ o ho _) rfl rfl (Nat.le_of_ble_eq_true rfl) d_BS_goesOn_26 ⟨Nat.zero_le _, Nat.zero_le _⟩) M (fun v3 H locs h M => ?_)
      refine lv_aload_n S.1 S.2.1 d_BS_goesOn_29 rfl (lv_at hl 0 rfl) ?_
      refine m_gs (t := 16) S M (j := 1) ok_BS (by decide) rfl (by decide) rfl kw_134 rfl d_BS_goesOn_30 ?_
      refine m_xip h (fun o ho => m_rV (As := []) (rest := [.int v3]) S M hl.1 (cwG (n := 0) S.2.2.2.2 kw_141 kw_142 kw_143 kw_51 kw_144 (by decide) ⟨Nat.le_of_ble_eq_true rfl, Nat.le_of_ble_eq_true rfl⟩) ok_Se (by decide) rfl (c_Se_leastNumber l D cA ad sB_16 σ o ho _) rfl rfl (Nat.le_of_ble_eq_true rfl) d_BS_goesOn_33 ⟨Nat.zero_le _, Nat.zero_le _⟩) M (fun v4 H locs h M => ?_)
      refine lv_iadd S.1 S.2.1 d_BS_goesOn_36 ?_
      refine lv_aload_n S.1 S.2.1 d_BS_goesOn_37 rfl (lv_at hl 0 rfl) ?_
      refine m_gi S M (j := 2) ok_BS (by decide) rfl (by decide) rfl kw_131 rfl d_BS_goesOn_38 ?_
      refine m_ige (tgt := 48) S d_BS_goesOn_41 (by decide) h (fun h => ?_) (fun h => ?_)
      · refine lv_iconst (v := 0) S.1 S.2.1 d_BS_goesOn_48 (by decide) ?_
        subst hQ; exact m_zret S hr hlk M (by rw [Option.some.inj h]) rfl d_BS_goesOn_49
      · refine lv_iconst (v := 1) S.1 S.2.1 d_BS_goesOn_44 (by decide) ?_
        refine lv_goto (tgt := 49) S.1 S.2.1 d_BS_goesOn_45 (by decide) ?_
        subst hQ; exact m_zret S hr hlk M (by rw [Option.some.inj h]) rfl d_BS_goesOn_49
    · refine lv_iconst (v := 0) S.1 S.2.1 d_BS_goesOn_20 (by decide) ?_
      subst hQ; exact m_zret S hr hlk M (by rw [Option.some.inj h]) rfl d_BS_goesOn_21
theorem d_BS_meet_0 : decode prog_2_method_2_code 0 = .ok (.aload_n 0, 1) := by decide +kernel
theorem d_BS_meet_1 : decode prog_2_method_2_code 1 = .ok (.getfield 9, 3) := by decide +kernel
theorem d_BS_meet_4 : decode prog_2_method_2_code 4 = .ok (.iconst 0, 1) := by decide +kernel
theorem d_BS_meet_5 : decode prog_2_method_2_code 5 = .ok (.invokevirtual 18, 3) := by decide +kernel
theorem d_BS_meet_8 : decode prog_2_method_2_code 8 = .ok (.aload_n 0, 1) := by decide +kernel
theorem d_BS_meet_9 : decode prog_2_method_2_code 9 = .ok (.getfield 9, 3) := by decide +kernel
theorem d_BS_meet_12 : decode prog_2_method_2_code 12 = .ok (.iload_n 1, 1) := by decide +kernel
theorem d_BS_meet_13 : decode prog_2_method_2_code 13 = .ok (.iconst 0, 1) := by decide +kernel
theorem d_BS_meet_14 : decode prog_2_method_2_code 14 = .ok (.invokevirtual 24, 3) := by decide +kernel
theorem d_BS_meet_17 : decode prog_2_method_2_code 17 = .ok (.aload_n 0, 1) := by decide +kernel
theorem d_BS_meet_18 : decode prog_2_method_2_code 18 = .ok (.getfield 15, 3) := by decide +kernel
theorem d_BS_meet_21 : decode prog_2_method_2_code 21 = .ok (.iconst 0, 1) := by decide +kernel
theorem d_BS_meet_22 : decode prog_2_method_2_code 22 = .ok (.invokevirtual 18, 3) := by decide +kernel
theorem d_BS_meet_25 : decode prog_2_method_2_code 25 = .ok (.aload_n 0, 1) := by decide +kernel
theorem d_BS_meet_26 : decode prog_2_method_2_code 26 = .ok (.getfield 15, 3) := by decide +kernel
theorem d_BS_meet_29 : decode prog_2_method_2_code 29 = .ok (.iload_n 2, 1) := by decide +kernel
theorem d_BS_meet_30 : decode prog_2_method_2_code 30 = .ok (.iconst 0, 1) := by decide +kernel
theorem d_BS_meet_31 : decode prog_2_method_2_code 31 = .ok (.invokevirtual 24, 3) := by decide +kernel
theorem d_BS_meet_34 : decode prog_2_method_2_code 34 = .ok (.aload_n 0, 1) := by decide +kernel
theorem d_BS_meet_35 : decode prog_2_method_2_code 35 = .ok (.invokevirtual 28, 3) := by decide +kernel
theorem d_BS_meet_38 : decode prog_2_method_2_code 38 = .ok (.iconst 0, 1) := by decide +kernel
theorem d_BS_meet_39 : decode prog_2_method_2_code 39 = .ok (.istore_n 3, 1) := by decide +kernel
theorem d_BS_meet_40 : decode prog_2_method_2_code 40 = .ok (.iload_n 3, 1) := by decide +kernel
theorem d_BS_meet_41 : decode prog_2_method_2_code 41 = .ok (.bipush 20, 2) := by decide +kernel
theorem d_BS_meet_43 : decode prog_2_method_2_code 43 = .ok (.if_icmp .ge 56, 3) := by decide +kernel
theorem d_BS_meet_46 : decode prog_2_method_2_code 46 = .ok (.aload_n 0, 1) := by decide +kernel
theorem d_BS_meet_47 : decode prog_2_method_2_code 47 = .ok (.invokevirtual 31, 3) := by decide +kernel
theorem d_BS_meet_50 : decode prog_2_method_2_code 50 = .ok (.ifCond .eq 49, 3) := by decide +kernel
theorem d_BS_meet_53 : decode prog_2_method_2_code 53 = .ok (.aload_n 0, 1) := by decide +kernel
theorem d_BS_meet_54 : decode prog_2_method_2_code 54 = .ok (.getfield 15, 3) := by decide +kernel
theorem d_BS_meet_57 : decode prog_2_method_2_code 57 = .ok (.invokevirtual 35, 3) := by decide +kernel
theorem d_BS_meet_60 : decode prog_2_method_2_code 60 = .ok (.aload_n 0, 1) := by decide +kernel
theorem d_BS_meet_61 : decode prog_2_method_2_code 61 = .ok (.getfield 9, 3) := by decide +kernel
theorem d_BS_meet_64 : decode prog_2_method_2_code 64 = .ok (.invokevirtual 35, 3) := by decide +kernel
theorem d_BS_meet_67 : decode prog_2_method_2_code 67 = .ok (.if_icmp .ge 14, 3) := by decide +kernel
theorem d_BS_meet_70 : decode prog_2_method_2_code 70 = .ok (.aload_n 0, 1) := by decide +kernel
theorem d_BS_meet_71 : decode prog_2_method_2_code 71 = .ok (.getfield 15, 3) := by decide +kernel
theorem d_BS_meet_74 : decode prog_2_method_2_code 74 = .ok (.invokevirtual 39, 3) := by decide +kernel
theorem d_BS_meet_77 : decode prog_2_method_2_code 77 = .ok (.pop, 1) := by decide +kernel
theorem d_BS_meet_78 : decode prog_2_method_2_code 78 = .ok (.goto 11, 3) := by decide +kernel
theorem d_BS_meet_81 : decode prog_2_method_2_code 81 = .ok (.aload_n 0, 1) := by decide +kernel
theorem d_BS_meet_82 : decode prog_2_method_2_code 82 = .ok (.getfield 9, 3) := by decide +kernel
theorem d_BS_meet_85 : decode prog_2_method_2_code 85 = .ok (.invokevirtual 39, 3) := by decide +kernel
theorem d_BS_meet_88 : decode prog_2_method_2_code 88 = .ok (.pop, 1) := by decide +kernel
theorem d_BS_meet_89 : decode prog_2_method_2_code 89 = .ok (.aload_n 0, 1) := by decide +kernel
theorem d_BS_meet_90 : decode prog_2_method_2_code 90 = .ok (.invokevirtual 28, 3) := by decide +kernel
theorem d_BS_meet_93 : decode prog_2_method_2_code 93 = .ok (.iinc 3 1, 3) := by decide +kernel
theorem d_BS_meet_96 : decode prog_2_method_2_code 96 = .ok (.goto (-56), 3) := by decide +kernel
theorem d_BS_meet_99 : decode prog_2_method_2_code 99 = .ok (.return_, 1) := by decide +kernel
def rm_BS_meet : Room := { frames := 4, cells := 0, slots := 0, locals := 92 }
def f_BS_meet_L40 : (Int32 × mS) → Option ((Int32 × mS) ⊕ (Int32 × mS)) := fun t40 =>
  if 20 ≤ t40.1 then (
  some (.inr (t40.1, t40.2))) else (
  (f_BS_goesOn t40.2).bind fun v6 =>
  if v6 = 0 then (
  some (.inr (t40.1, t40.2))) else (
  (f_Se_leastNumber 16 t40.2).bind fun v7 =>
  (f_Se_leastNumber 8 t40.2).bind fun v8 =>
  if v8 ≤ v7 then (
  (f_Se_settleFirst 8 t40.2).bind fun o9 =>
  (f_BS_seekBest o9.2).bind fun σ10 =>
  some (.inl (t40.1 + 1, σ10))) else (
  (f_Se_settleFirst 16 t40.2).bind fun o11 =>
  (f_BS_seekBest o11.2).bind fun σ12 =>
  some (.inl (t40.1 + 1, σ12)))))
def f_BS_meet (σ : mS) (x1 : Int32) (x2 : Int32) : Option (mS) :=
  (f_Se_beginPlain 8 σ 0).bind fun σ1 =>
  (f_Se_offer 8 σ1 x1 0).bind fun σ2 =>
  (f_Se_beginPlain 16 σ2 0).bind fun σ3 =>
  (f_Se_offer 16 σ3 x2 0).bind fun σ4 =>
  (f_BS_seekBest σ4).bind fun σ5 =>
  (lpN (f_BS_meet_L40) fuS (0, σ5)).bind fun u40 =>
  some u40.2
set_option maxHeartbeats 4000000 in
set_option maxRecDepth 100000 in
theorem c_BS_meet (l : Launch) (D : va_G) (cA ad : Nat → Nat) (σ : mS) (x1 : Int32) (x2 : Int32) (o : mS) (h : f_BS_meet σ x1 x2 = some o) : mCv l ⟨"LeastPaths$BothSides", "meet", "(II)V"⟩ (Cond.code ⟨"LeastPaths$BothSides", "meet", "(II)V"⟩ prog_2_method_2_code 4 (Option.none : Option Jvm.ClassFile.FieldType) :: tlG) rm_BS_meet D clX (tyK cA) 99 (tbX cA) ad σ [.ref (ad 24), .int x1, .int x2] o := by
  intro sz
  refine m_of (cc := prog_2_method_2_code) (maxL := 4) (Qc := mQv D clX (tyK cA) 99 (tbX cA) ad o) (by decide) (Nat.le_of_ble_eq_true rfl) (fun p e s m args below meth c ls S hr hlk hnm hl M => ?_) sz
  have hl : lv_has ls 4 [(0, .ref (ad 24)), (1, .int x1), (2, .int x2)] := hl
  generalize hQ : MQ _ _ _ _ _ _ _ = Q
  skip
  unfold f_BS_meet at h
  refine lv_aload_n S.1 S.2.1 d_BS_meet_0 rfl (lv_at hl 0 rfl) ?_
  refine m_gs (t := 8) S M (j := 0) ok_BS (by decide) rfl (by decide) rfl kw_132 rfl d_BS_meet_1 ?_
  refine lv_iconst (v := 0) S.1 S.2.1 d_BS_meet_4 (by decide) ?_
  refine m_xv h (fun o ho => m_rV (As := [.int 0]) (rest := []) S M hl.1 (cwG (n := 1) S.2.2.2.2 kw_145 kw_109 kw_110 kw_51 kw_111 (by decide) ⟨Nat.le_of_ble_eq_true rfl, Nat.le_of_ble_eq_true rfl⟩) ok_Se (by decide) rfl (c_Se_beginPlain l D cA ad sB_8 σ 0 o ho _) rfl rfl (Nat.le_of_ble_eq_true rfl) d_BS_meet_5 ⟨Nat.zero_le _, Nat.zero_le _⟩) M (fun σ1 H locs h M => ?_)
  refine lv_aload_n S.1 S.2.1 d_BS_meet_8 rfl (lv_at hl 0 rfl) ?_
  refine m_gs (t := 8) S M (j := 0) ok_BS (by decide) rfl (by decide) rfl kw_132 rfl d_BS_meet_9 ?_
  refine lv_iload_n S.1 S.2.1 d_BS_meet_12 rfl (lv_at hl 1 rfl) ?_
  refine lv_iconst (v := 0) S.1 S.2.1 d_BS_meet_13 (by decide) ?_
  refine m_xv h (fun o ho => m_rV (As := [.int x1, .int 0]) (rest := []) S M hl.1 (cwG (n := 2) S.2.2.2.2 kw_146 kw_97 kw_98 kw_51 kw_99 (by decide) ⟨Nat.le_of_ble_eq_true rfl, Nat.le_of_ble_eq_true rfl⟩) ok_Se (by decide) rfl (c_Se_offer l D cA ad sB_8 σ1 x1 0 o ho _) rfl rfl (Nat.le_of_ble_eq_true rfl) d_BS_meet_14 ⟨Nat.zero_le _, Nat.zero_le _⟩) M (fun σ2 H locs h M => ?_)
  refine lv_aload_n S.1 S.2.1 d_BS_meet_17 rfl (lv_at hl 0 rfl) ?_
  refine m_gs (t := 16) S M (j := 1) ok_BS (by decide) rfl (by decide) rfl kw_134 rfl d_BS_meet_18 ?_
  refine lv_iconst (v := 0) S.1 S.2.1 d_BS_meet_21 (by decide) ?_
  refine m_xv h (fun o ho => m_rV (As := [.int 0]) (rest := []) S M hl.1 (cwG (n := 1) S.2.2.2.2 kw_145 kw_109 kw_110 kw_51 kw_111 (by decide) ⟨Nat.le_of_ble_eq_true rfl, Nat.le_of_ble_eq_true rfl⟩) ok_Se (by decide) rfl (c_Se_beginPlain l D cA ad sB_16 σ2 0 o ho _) rfl rfl (Nat.le_of_ble_eq_true rfl) d_BS_meet_22 ⟨Nat.zero_le _, Nat.zero_le _⟩) M (fun σ3 H locs h M => ?_)
  refine lv_aload_n S.1 S.2.1 d_BS_meet_25 rfl (lv_at hl 0 rfl) ?_
  refine m_gs (t := 16) S M (j := 1) ok_BS (by decide) rfl (by decide) rfl kw_134 rfl d_BS_meet_26 ?_
  refine lv_iload_n S.1 S.2.1 d_BS_meet_29 rfl (lv_at hl 2 rfl) ?_
  refine lv_iconst (v := 0) S.1 S.2.1 d_BS_meet_30 (by decide) ?_
  refine m_xv h (fun o ho => m_rV (As := [.int x2, .int 0]) (rest := []) S M hl.1 (cwG (n := 2) S.2.2.2.2 kw_146 kw_97 kw_98 kw_51 kw_99 (by decide) ⟨Nat.le_of_ble_eq_true rfl, Nat.le_of_ble_eq_true rfl⟩) ok_Se (by decide) rfl (c_Se_offer l D cA ad sB_16 σ3 x2 0 o ho _) rfl rfl (Nat.le_of_ble_eq_true rfl) d_BS_meet_31 ⟨Nat.zero_le _, Nat.zero_le _⟩) M (fun σ4 H locs h M => ?_)
  refine lv_aload_n S.1 S.2.1 d_BS_meet_34 rfl (lv_at hl 0 rfl) ?_
  refine m_xv h (fun o ho => m_rV (As := []) (rest := []) S M hl.1 (cwG (n := 0) S.2.2.2.2 kw_147 kw_148 kw_149 kw_150 kw_151 (by decide) ⟨Nat.le_of_ble_eq_true rfl, Nat.le_of_ble_eq_true rfl⟩) ok_BS (by decide) rfl (c_BS_seekBest l D cA ad σ4 o ho _) rfl rfl (Nat.le_of_ble_eq_true rfl) d_BS_meet_35 ⟨Nat.zero_le _, Nat.zero_le _⟩) M (fun σ5 H locs h M => ?_)
  refine lv_iconst (v := 0) S.1 S.2.1 d_BS_meet_38 (by decide) ?_
  refine lv_istore_n (lv' := [(3, .int 0), (0, .ref (ad 24)), (1, .int x1), (2, .int x2)]) S.1 S.2.1 d_BS_meet_39 rfl hl (by decide) rfl (fun ls hl => ?_)
  obtain ⟨u40, q40, h⟩ := Option.bind_eq_some_iff.mp h
  refine lpN_W1 (st := f_BS_meet_L40) (fun (t40 : Int32 × mS) => ∀ (ls : Array Slot) (H : Heap) (locs : List Loc), lv_has ls 4 [(3, .int t40.1), (0, .ref (ad 24)), (1, .int x1), (2, .int x2)] → mM D clX (tyK cA) (mA 99 ad s.heap.size) s 99 (tbX cA) ad t40.2 H locs → W p l e rm_BS_meet s m args below meth c H locs 0 0 Q (F0 m 40 ls [])) (fun (u40 : Int32 × mS) => ∀ (ls : Array Slot) (H : Heap) (locs : List Loc), lv_has ls 4 [(3, .int u40.1), (0, .ref (ad 24)), (1, .int x1), (2, .int x2)] → mM D clX (tyK cA) (mA 99 ad s.heap.size) s 99 (tbX cA) ad u40.2 H locs → W p l e rm_BS_meet s m args below meth c H locs 0 0 Q (F0 m 99 ls [])) ?_ fuS ((0, σ5) : Int32 × mS) u40 q40 ?_ ls _ _ (lv_sub hl [0, 1, 2, 3] rfl) M
  · intro t40 oo40 h K1 K2 ls H locs hl M
    unfold f_BS_meet_L40 at h
    refine lv_iload_n S.1 S.2.1 d_BS_meet_40 rfl (lv_at hl 0 rfl) ?_
    refine lv_bipush (v := 20) S.1 S.2.1 d_BS_meet_41 (by decide) ?_
    refine m_ige (tgt := 99) S d_BS_meet_43 (by decide) h (fun h => ?_) (fun h => ?_)
    · exact K2 _ (Option.some.inj h).symm ls _ _ (lv_sub hl [0, 1, 2, 3] rfl) M
    · refine lv_aload_n S.1 S.2.1 d_BS_meet_46 rfl (lv_at hl 1 rfl) ?_
      refine m_xip h (fun o ho => m_rV (As := []) (rest := []) S M hl.1 (cwG (n := 0) S.2.2.2.2 kw_152 kw_153 kw_154 kw_150 kw_155 (by decide) ⟨Nat.le_of_ble_eq_true rfl, Nat.le_of_ble_eq_true rfl⟩) ok_BS (by decide) rfl (c_BS_goesOn l D cA ad t40.2 o ho _) rfl rfl (Nat.le_of_ble_eq_true rfl) d_BS_meet_47 ⟨Nat.zero_le _, Nat.zero_le _⟩) M (fun v6 H locs h M => ?_)
      refine m_ifeq (tgt := 99) S d_BS_meet_50 (by decide) h (fun h => ?_) (fun h => ?_)
      · exact K2 _ (Option.some.inj h).symm ls _ _ (lv_sub hl [0, 1, 2, 3] rfl) M
      · refine lv_aload_n S.1 S.2.1 d_BS_meet_53 rfl (lv_at hl 1 rfl) ?_
        refine m_gs (t := 16) S M (j := 1) ok_BS (by decide) rfl (by decide) rfl kw_134 rfl d_BS_meet_54 ?_
        refine m_xip h (fun o ho => m_rV (As := []) (rest := []) S M hl.1 (cwG (n := 0) S.2.2.2.2 kw_141 kw_142 kw_143 kw_51 kw_144 (by decide) ⟨Nat.le_of_ble_eq_true rfl, Nat.le_of_ble_eq_true rfl⟩) ok_Se (by decide) rfl (c_Se_leastNumber l D cA ad sB_16 t40.2 o ho _) rfl rfl (Nat.le_of_ble_eq_true rfl) d_BS_meet_57 ⟨Nat.zero_le _, Nat.zero_le _⟩) M (fun v7 H locs h M => ?_)
        refine lv_aload_n S.1 S.2.1 d_BS_meet_60 rfl (lv_at hl 1 rfl) ?_
        refine m_gs (t := 8) S M (j := 0) ok_BS (by decide) rfl (by decide) rfl kw_132 rfl d_BS_meet_61 ?_
        refine m_xip h (fun o ho => m_rV (As := []) (rest := [.int v7]) S M hl.1 (cwG (n := 0) S.2.2.2.2 kw_141 kw_142 kw_143 kw_51 kw_144 (by decide) ⟨Nat.le_of_ble_eq_true rfl, Nat.le_of_ble_eq_true rfl⟩) ok_Se (by decide) rfl (c_Se_leastNumber l D cA ad sB_8 t40.2 o ho _) rfl rfl (Nat.le_of_ble_eq_true rfl) d_BS_meet_64 ⟨Nat.zero_le _, Nat.zero_le _⟩) M (fun v8 H locs h M => ?_)
        refine m_ige (tgt := 81) S d_BS_meet_67 (by decide) h (fun h => ?_) (fun h => ?_)
        · refine lv_aload_n S.1 S.2.1 d_BS_meet_81 rfl (lv_at hl 1 rfl) ?_
          refine m_gs (t := 8) S M (j := 0) ok_BS (by decide) rfl (by decide) rfl kw_132 rfl d_BS_meet_82 ?_
          refine m_xi h (fun o ho => m_rV (As := []) (rest := []) S M hl.1 (cwG (n := 0) S.2.2.2.2 kw_156 kw_105 kw_106 kw_51 kw_107 (by decide) ⟨Nat.le_of_ble_eq_true rfl, Nat.le_of_ble_eq_true rfl⟩) ok_Se (by decide) rfl (c_Se_settleFirst l D cA ad sB_8 t40.2 o ho _) rfl rfl (Nat.le_of_ble_eq_true rfl) d_BS_meet_85 ⟨Nat.zero_le _, Nat.zero_le _⟩) M (fun o9 H locs h M => ?_)
          refine lv_pop S.1 S.2.1 d_BS_meet_88 rfl ?_
          refine lv_aload_n S.1 S.2.1 d_BS_meet_89 rfl (lv_at hl 1 rfl) ?_
          refine m_xv h (fun o ho => m_rV (As := []) (rest := []) S M hl.1 (cwG (n := 0) S.2.2.2.2 kw_147 kw_148 kw_149 kw_150 kw_151 (by decide) ⟨Nat.le_of_ble_eq_true rfl, Nat.le_of_ble_eq_true rfl⟩) ok_BS (by decide) rfl (c_BS_seekBest l D cA ad o9.2 o ho _) rfl rfl (Nat.le_of_ble_eq_true rfl) d_BS_meet_90 ⟨Nat.zero_le _, Nat.zero_le _⟩) M (fun σ10 H locs h M => ?_)
          refine lv_iinc (v := t40.1 + 1) (lv' := [(3, .int (t40.1 + 1)), (0, .ref (ad 24)), (1, .int x1), (2, .int x2)]) S.1 S.2.1 d_BS_meet_93 hl (k := 0) rfl rfl (by decide) rfl (fun ls hl => ?_)
          refine lv_goto (tgt := 40) S.1 S.2.1 d_BS_meet_96 (by decide) ?_
          exact K1 _ (Option.some.inj h).symm ls _ _ (lv_sub hl [0, 1, 2, 3] rfl) M
        · refine lv_aload_n S.1 S.2.1 d_BS_meet_70 rfl (lv_at hl 1 rfl) ?_
          refine m_gs (t := 16) S M (j := 1) ok_BS (by decide) rfl (by decide) rfl kw_134 rfl d_BS_meet_71 ?_
          refine m_xi h (fun o ho => m_rV (As := []) (rest := []) S M hl.1 (cwG (n := 0) S.2.2.2.2 kw_156 kw_105 kw_106 kw_51 kw_107 (by decide) ⟨Nat.le_of_ble_eq_true rfl, Nat.le_of_ble_eq_true rfl⟩) ok_Se (by decide) rfl (c_Se_settleFirst l D cA ad sB_16 t40.2 o ho _) rfl rfl (Nat.le_of_ble_eq_true rfl) d_BS_meet_74 ⟨Nat.zero_le _, Nat.zero_le _⟩) M (fun o11 H locs h M => ?_)
          refine lv_pop S.1 S.2.1 d_BS_meet_77 rfl ?_
          refine lv_goto (tgt := 89) S.1 S.2.1 d_BS_meet_78 (by decide) ?_
          refine lv_aload_n S.1 S.2.1 d_BS_meet_89 rfl (lv_at hl 1 rfl) ?_
          refine m_xv h (fun o ho => m_rV (As := []) (rest := []) S M hl.1 (cwG (n := 0) S.2.2.2.2 kw_147 kw_148 kw_149 kw_150 kw_151 (by decide) ⟨Nat.le_of_ble_eq_true rfl, Nat.le_of_ble_eq_true rfl⟩) ok_BS (by decide) rfl (c_BS_seekBest l D cA ad o11.2 o ho _) rfl rfl (Nat.le_of_ble_eq_true rfl) d_BS_meet_90 ⟨Nat.zero_le _, Nat.zero_le _⟩) M (fun σ12 H locs h M => ?_)
          refine lv_iinc (v := t40.1 + 1) (lv' := [(3, .int (t40.1 + 1)), (0, .ref (ad 24)), (1, .int x1), (2, .int x2)]) S.1 S.2.1 d_BS_meet_93 hl (k := 0) rfl rfl (by decide) rfl (fun ls hl => ?_)
          refine lv_goto (tgt := 40) S.1 S.2.1 d_BS_meet_96 (by decide) ?_
          exact K1 _ (Option.some.inj h).symm ls _ _ (lv_sub hl [0, 1, 2, 3] rfl) M
  · intro ls H locs hl M
    subst hQ; exact m_vret S hr hlk M (Option.some.inj h) d_BS_meet_99
