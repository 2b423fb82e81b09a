theorem d_Se_goLed_0 : decode prog_6_method_11_code 0 = .ok (.aload_n 0, 1) := by decide +kernel
theorem d_Se_goLed_1 : decode prog_6_method_11_code 1 = .ok (.iconst 1, 1) := by decide +kernel
theorem d_Se_goLed_2 : decode prog_6_method_11_code 2 = .ok (.invokevirtual 115, 3) := by decide +kernel
theorem d_Se_goLed_5 : decode prog_6_method_11_code 5 = .ok (.aload_n 0, 1) := by decide +kernel
theorem d_Se_goLed_6 : decode prog_6_method_11_code 6 = .ok (.iload_n 1, 1) := by decide +kernel
theorem d_Se_goLed_7 : decode prog_6_method_11_code 7 = .ok (.iconst 0, 1) := by decide +kernel
theorem d_Se_goLed_8 : decode prog_6_method_11_code 8 = .ok (.invokevirtual 106, 3) := by decide +kernel
theorem d_Se_goLed_11 : decode prog_6_method_11_code 11 = .ok (.iconst (-1), 1) := by decide +kernel
theorem d_Se_goLed_12 : decode prog_6_method_11_code 12 = .ok (.istore_n 3, 1) := by decide +kernel
theorem d_Se_goLed_13 : decode prog_6_method_11_code 13 = .ok (.iconst 0, 1) := by decide +kernel
theorem d_Se_goLed_14 : decode prog_6_method_11_code 14 = .ok (.istore 4, 2) := by decide +kernel
theorem d_Se_goLed_16 : decode prog_6_method_11_code 16 = .ok (.iload 4, 2) := by decide +kernel
theorem d_Se_goLed_18 : decode prog_6_method_11_code 18 = .ok (.bipush 10, 2) := by decide +kernel
theorem d_Se_goLed_20 : decode prog_6_method_11_code 20 = .ok (.if_icmp .ge 26, 3) := by decide +kernel
theorem d_Se_goLed_23 : decode prog_6_method_11_code 23 = .ok (.iload_n 3, 1) := by decide +kernel
theorem d_Se_goLed_24 : decode prog_6_method_11_code 24 = .ok (.iload_n 2, 1) := by decide +kernel
theorem d_Se_goLed_25 : decode prog_6_method_11_code 25 = .ok (.if_icmp .eq 21, 3) := by decide +kernel
theorem d_Se_goLed_28 : decode prog_6_method_11_code 28 = .ok (.aload_n 0, 1) := by decide +kernel
theorem d_Se_goLed_29 : decode prog_6_method_11_code 29 = .ok (.invokevirtual 109, 3) := by decide +kernel
theorem d_Se_goLed_32 : decode prog_6_method_11_code 32 = .ok (.ifCond .ne 14, 3) := by decide +kernel
theorem d_Se_goLed_35 : decode prog_6_method_11_code 35 = .ok (.aload_n 0, 1) := by decide +kernel
theorem d_Se_goLed_36 : decode prog_6_method_11_code 36 = .ok (.invokevirtual 112, 3) := by decide +kernel
theorem d_Se_goLed_39 : decode prog_6_method_11_code 39 = .ok (.istore_n 3, 1) := by decide +kernel
theorem d_Se_goLed_40 : decode prog_6_method_11_code 40 = .ok (.iinc 4 1, 3) := by decide +kernel
theorem d_Se_goLed_43 : decode prog_6_method_11_code 43 = .ok (.goto (-27), 3) := by decide +kernel
theorem d_Se_goLed_46 : decode prog_6_method_11_code 46 = .ok (.return_, 1) := by decide +kernel
def rm_Se_goLed : Room := { frames := 4, cells := 0, slots := 0, locals := 92 }
def f_Se_goLed_L16 (b : Nat) (x2 : Int32) : (Int32 × Int32 × mS) → Option ((Int32 × Int32 × mS) ⊕ (Int32 × Int32 × mS)) := fun t16 =>
  if 10 ≤ t16.2.1 then (
  some (.inr (t16.1, t16.2.1, t16.2.2))) else (
  if t16.1 = x2 then (
  some (.inr (t16.1, t16.2.1, t16.2.2))) else (
  (f_Se_isOver b t16.2.2).bind fun v3 =>
  if v3 = 0 then (
  (f_Se_settleFirst b t16.2.2).bind fun o4 =>
  some (.inl (o4.1, t16.2.1 + 1, o4.2))) else (
  some (.inr (t16.1, t16.2.1, t16.2.2)))))
def f_Se_goLed (b : Nat) (σ : mS) (x1 : Int32) (x2 : Int32) : Option (mS) :=
  (f_Se_beginPlain b σ 1).bind fun σ1 =>
  (f_Se_offer b σ1 x1 0).bind fun σ2 =>
  (lpN (f_Se_goLed_L16 b x2) fuS ((-1), 0, σ2)).bind fun u16 =>
  some u16.2.2
set_option maxHeartbeats 4000000 in
set_option maxRecDepth 100000 in
theorem c_Se_goLed (l : Launch) (D : va_G) (cA ad : Nat → Nat) {b : Nat} (hb : sB b) (σ : mS) (x1 : Int32) (x2 : Int32) (o : mS) (h : f_Se_goLed b σ x1 x2 = some o) : mCv l ⟨"LeastPaths$Search", "goLed", "(II)V"⟩ (Cond.code ⟨"LeastPaths$Search", "goLed", "(II)V"⟩ prog_6_method_11_code 5 (Option.none : Option Jvm.ClassFile.FieldType) :: tlG) rm_Se_goLed D clX (tyK cA) 99 (tbX cA) ad σ [.ref (ad b), .int x1, .int x2] o := by
  intro sz
  refine m_of (cc := prog_6_method_11_code) (maxL := 5) (Qc := mQv D clX (tyK cA) 99 (tbX cA) ad o) (by decide) (Nat.le_of_ble_eq_true rfl) (fun p e s m args below meth c ls S hr hlk hnm hl M => ?_) sz
  have hl : lv_has ls 5 [(0, .ref (ad b)), (1, .int x1), (2, .int x2)] := hl
  generalize hQ : MQ _ _ _ _ _ _ _ = Q
  skip
  unfold f_Se_goLed at h
  refine lv_aload_n S.1 S.2.1 d_Se_goLed_0 rfl (lv_at hl 0 rfl) ?_
  refine lv_iconst (v := 1) S.1 S.2.1 d_Se_goLed_1 (by decide) ?_
  refine m_xv h (fun o ho => m_rV (As := [.int 1]) (rest := []) S M hl.1 (cwG (n := 1) S.2.2.2.2 kw_108 kw_109 kw_110 kw_51 kw_111 (by decide) ⟨Nat.le_of_ble_eq_true rfl, Nat.le_of_ble_eq_true rfl⟩) ok_Se (lt_S0 hb) (tb_S0 hb) (c_Se_beginPlain l D cA ad hb σ 1 o ho _) rfl rfl (Nat.le_of_ble_eq_true rfl) d_Se_goLed_2 ⟨Nat.zero_le _, Nat.zero_le _⟩) M (fun σ1 H locs h M => ?_)
  refine lv_aload_n S.1 S.2.1 d_Se_goLed_5 rfl (lv_at hl 0 rfl) ?_
  refine lv_iload_n S.1 S.2.1 d_Se_goLed_6 rfl (lv_at hl 1 rfl) ?_
  refine lv_iconst (v := 0) S.1 S.2.1 d_Se_goLed_7 (by decide) ?_
  refine m_xv h (fun o ho => m_rV (As := [.int x1, .int 0]) (rest := []) S M hl.1 (cwG (n := 2) S.2.2.2.2 kw_96 kw_97 kw_98 kw_51 kw_99 (by decide) ⟨Nat.le_of_ble_eq_true rfl, Nat.le_of_ble_eq_true rfl⟩) ok_Se (lt_S0 hb) (tb_S0 hb) (c_Se_offer l D cA ad hb σ1 x1 0 o ho _) rfl rfl (Nat.le_of_ble_eq_true rfl) d_Se_goLed_8 ⟨Nat.zero_le _, Nat.zero_le _⟩) M (fun σ2 H locs h M => ?_)
  refine lv_iconst (v := (-1)) S.1 S.2.1 d_Se_goLed_11 (by decide) ?_
  refine lv_istore_n (lv' := [(3, .int ((-1))), (0, .ref (ad b)), (1, .int x1), (2, .int x2)]) S.1 S.2.1 d_Se_goLed_12 rfl hl (by decide) rfl (fun ls hl => ?_)
  refine lv_iconst (v := 0) S.1 S.2.1 d_Se_goLed_13 (by decide) ?_
  refine lv_istore (lv' := [(4, .int 0), (3, .int ((-1))), (0, .ref (ad b)), (1, .int x1), (2, .int x2)]) S.1 S.2.1 d_Se_goLed_14 hl (by decide) rfl (fun ls hl => ?_)
  obtain ⟨u16, q16, h⟩ := Option.bind_eq_some_iff.mp h
  refine lpN_W1 (st := f_Se_goLed_L16 b x2) (fun (t16 : Int32 × Int32 × mS) => ∀ (ls : Array Slot) (H : Heap) (locs : List Loc), lv_has ls 5 [(4, .int t16.2.1), (3, .int t16.1), (0, .ref (ad b)), (1, .int x1), (2, .int x2)] → mM D clX (tyK cA) (mA 99 ad s.heap.size) s 99 (tbX cA) ad t16.2.2 H locs → W p l e rm_Se_goLed s m args below meth c H locs 0 0 Q (F0 m 16 ls [])) (fun (u16 : Int32 × Int32 × mS) => ∀ (ls : Array Slot) (H : Heap) (locs : List Loc), lv_has ls 5 [(4, .int u16.2.1), (3, .int u16.1), (0, .ref (ad b)), (1, .int x1), (2, .int x2)] → mM D clX (tyK cA) (mA 99 ad s.heap.size) s 99 (tbX cA) ad u16.2.2 H locs → W p l e rm_Se_goLed s m args below meth c H locs 0 0 Q (F0 m 46 ls [])) ?_ fuS (((-1), 0, σ2) : Int32 × Int32 × mS) u16 q16 ?_ ls _ _ (lv_sub hl [0, 1, 2, 3, 4] rfl) M
  · intro t16 oo16 h K1 K2 ls H locs hl M
    unfold f_Se_goLed_L16 at h
    refine lv_iload S.1 S.2.1 d_Se_goLed_16 (lv_at hl 0 rfl) ?_
    refine lv_bipush (v := 10) S.1 S.2.1 d_Se_goLed_18 (by decide) ?_
    refine m_ige (tgt := 46) S d_Se_goLed_20 (by decide) h (fun h => ?_) (fun h => ?_)
    · exact K2 _ (Option.some.inj h).symm ls _ _ (lv_sub hl [0, 1, 2, 3, 4] rfl) M
    · refine lv_iload_n S.1 S.2.1 d_Se_goLed_23 rfl (lv_at hl 1 rfl) ?_
      refine lv_iload_n S.1 S.2.1 d_Se_goLed_24 rfl (lv_at hl 4 rfl) ?_
      refine m_ieq (tgt := 46) S d_Se_goLed_25 (by decide) h (fun h => ?_) (fun h => ?_)
      · exact K2 _ (Option.some.inj h).symm ls _ _ (lv_sub hl [0, 1, 2, 3, 4] rfl) M
      · refine lv_aload_n S.1 S.2.1 d_Se_goLed_28 rfl (lv_at hl 2 rfl) ?_
        refine m_xip h (fun o ho => m_rV (As := []) (rest := []) S M hl.1 (cwG (n := 0) S.2.2.2.2 kw_100 kw_101 kw_102 kw_51 kw_103 (by decide) ⟨Nat.le_of_ble_eq_true rfl, Nat.le_of_ble_eq_true rfl⟩) ok_Se (lt_S0 hb) (tb_S0 hb) (c_Se_isOver l D cA ad hb t16.2.2 o ho _) rfl rfl (Nat.le_of_ble_eq_true rfl) d_Se_goLed_29 ⟨Nat.zero_le _, Nat.zero_le _⟩) M (fun v3 H locs h M => ?_)
        refine m_ifne (tgt := 46) S d_Se_goLed_32 (by decide) h (fun h => ?_) (fun h => ?_)
        · exact K2 _ (Option.some.inj h).symm ls _ _ (lv_sub hl [0, 1, 2, 3, 4] rfl) M
        · refine lv_aload_n S.1 S.2.1 d_Se_goLed_35 rfl (lv_at hl 2 rfl) ?_
          refine m_xi h (fun o ho => m_rV (As := []) (rest := []) S M hl.1 (cwG (n := 0) S.2.2.2.2 kw_104 kw_105 kw_106 kw_51 kw_107 (by decide) ⟨Nat.le_of_ble_eq_true rfl, Nat.le_of_ble_eq_true rfl⟩) ok_Se (lt_S0 hb) (tb_S0 hb) (c_Se_settleFirst l D cA ad hb t16.2.2 o ho _) rfl rfl (Nat.le_of_ble_eq_true rfl) d_Se_goLed_36 ⟨Nat.zero_le _, Nat.zero_le _⟩) M (fun o4 H locs h M => ?_)
          refine lv_istore_n (lv' := [(3, .int o4.1), (4, .int t16.2.1), (0, .ref (ad b)), (1, .int x1), (2, .int x2)]) S.1 S.2.1 d_Se_goLed_39 rfl hl (by decide) rfl (fun ls hl => ?_)
          refine lv_iinc (v := t16.2.1 + 1) (lv' := [(4, .int (t16.2.1 + 1)), (3, .int o4.1), (0, .ref (ad b)), (1, .int x1), (2, .int x2)]) S.1 S.2.1 d_Se_goLed_40 hl (k := 1) rfl rfl (by decide) rfl (fun ls hl => ?_)
          refine lv_goto (tgt := 16) S.1 S.2.1 d_Se_goLed_43 (by decide) ?_
          exact K1 _ (Option.some.inj h).symm ls _ _ (lv_sub hl [0, 1, 2, 3, 4] rfl) M
  · intro ls H locs hl M
    subst hQ; exact m_vret S hr hlk M (Option.some.inj h) d_Se_goLed_46
theorem d_Se_leadsBest_0 : decode prog_6_method_15_code 0 = .ok (.aload_n 0, 1) := by decide +kernel
theorem d_Se_leadsBest_1 : decode prog_6_method_15_code 1 = .ok (.iload_n 1, 1) := by decide +kernel
theorem d_Se_leadsBest_2 : decode prog_6_method_15_code 2 = .ok (.invokevirtual 100, 3) := by decide +kernel
theorem d_Se_leadsBest_5 : decode prog_6_method_15_code 5 = .ok (.iload_n 2, 1) := by decide +kernel
theorem d_Se_leadsBest_6 : decode prog_6_method_15_code 6 = .ok (.if_icmp .ne 23, 3) := by decide +kernel
theorem d_Se_leadsBest_9 : decode prog_6_method_15_code 9 = .ok (.aload_n 0, 1) := by decide +kernel
theorem d_Se_leadsBest_10 : decode prog_6_method_15_code 10 = .ok (.iload_n 1, 1) := by decide +kernel
theorem d_Se_leadsBest_11 : decode prog_6_method_15_code 11 = .ok (.invokevirtual 96, 3) := by decide +kernel
theorem d_Se_leadsBest_14 : decode prog_6_method_15_code 14 = .ok (.ifCond .eq 15, 3) := by decide +kernel
theorem d_Se_leadsBest_17 : decode prog_6_method_15_code 17 = .ok (.aload_n 0, 1) := by decide +kernel
theorem d_Se_leadsBest_18 : decode prog_6_method_15_code 18 = .ok (.aload_n 0, 1) := by decide +kernel
theorem d_Se_leadsBest_19 : decode prog_6_method_15_code 19 = .ok (.iload_n 1, 1) := by decide +kernel
theorem d_Se_leadsBest_20 : decode prog_6_method_15_code 20 = .ok (.invokevirtual 92, 3) := by decide +kernel
theorem d_Se_leadsBest_23 : decode prog_6_method_15_code 23 = .ok (.invokevirtual 123, 3) := by decide +kernel
theorem d_Se_leadsBest_26 : decode prog_6_method_15_code 26 = .ok (.ifCond .ne 5, 3) := by decide +kernel
theorem d_Se_leadsBest_29 : decode prog_6_method_15_code 29 = .ok (.iconst 0, 1) := by decide +kernel
theorem d_Se_leadsBest_30 : decode prog_6_method_15_code 30 = .ok (.ireturn, 1) := by decide +kernel
theorem d_Se_leadsBest_31 : decode prog_6_method_15_code 31 = .ok (.aload_n 0, 1) := by decide +kernel
theorem d_Se_leadsBest_32 : decode prog_6_method_15_code 32 = .ok (.getfield 9, 3) := by decide +kernel
theorem d_Se_leadsBest_35 : decode prog_6_method_15_code 35 = .ok (.aload_n 0, 1) := by decide +kernel
theorem d_Se_leadsBest_36 : decode prog_6_method_15_code 36 = .ok (.iload_n 1, 1) := by decide +kernel
theorem d_Se_leadsBest_37 : decode prog_6_method_15_code 37 = .ok (.invokevirtual 92, 3) := by decide +kernel
theorem d_Se_leadsBest_40 : decode prog_6_method_15_code 40 = .ok (.iaload, 1) := by decide +kernel
theorem d_Se_leadsBest_41 : decode prog_6_method_15_code 41 = .ok (.aload_n 0, 1) := by decide +kernel
theorem d_Se_leadsBest_42 : decode prog_6_method_15_code 42 = .ok (.iload_n 1, 1) := by decide +kernel
theorem d_Se_leadsBest_43 : decode prog_6_method_15_code 43 = .ok (.invokevirtual 103, 3) := by decide +kernel
theorem d_Se_leadsBest_46 : decode prog_6_method_15_code 46 = .ok (.iadd, 1) := by decide +kernel
theorem d_Se_leadsBest_47 : decode prog_6_method_15_code 47 = .ok (.aload_n 0, 1) := by decide +kernel
theorem d_Se_leadsBest_48 : decode prog_6_method_15_code 48 = .ok (.getfield 9, 3) := by decide +kernel
theorem d_Se_leadsBest_51 : decode prog_6_method_15_code 51 = .ok (.iload_n 2, 1) := by decide +kernel
theorem d_Se_leadsBest_52 : decode prog_6_method_15_code 52 = .ok (.iaload, 1) := by decide +kernel
theorem d_Se_leadsBest_53 : decode prog_6_method_15_code 53 = .ok (.if_icmp .ne 7, 3) := by decide +kernel
theorem d_Se_leadsBest_56 : decode prog_6_method_15_code 56 = .ok (.iconst 1, 1) := by decide +kernel
theorem d_Se_leadsBest_57 : decode prog_6_method_15_code 57 = .ok (.goto 4, 3) := by decide +kernel
theorem d_Se_leadsBest_60 : decode prog_6_method_15_code 60 = .ok (.iconst 0, 1) := by decide +kernel
theorem d_Se_leadsBest_61 : decode prog_6_method_15_code 61 = .ok (.ireturn, 1) := by decide +kernel
def rm_Se_leadsBest : Room := { frames := 1, cells := 0, slots := 0, locals := 21 }
def f_Se_leadsBest (b : Nat) (σ : mS) (x1 : Int32) (x2 : Int32) : Option (Int32) :=
  (f_Se_endOf b σ x1).bind fun v1 =>
  if v1 = x2 then (
  (f_Se_isOpen b σ x1).bind fun v2 =>
  if v2 = 0 then (
  some 0) else (
  (f_Se_startOf b σ x1).bind fun v3 =>
  (f_Se_knows b σ v3).bind fun v4 =>
  if v4 = 0 then (
  some 0) else (
  (f_Se_startOf b σ x1).bind fun v5 =>
  gd (inb v5 10) (
  (f_Se_costOf b σ x1).bind fun v6 =>
  gd (inb x2 10) (
  if ((σ.1 ((b + 1)) v5.toNatClampNeg) + v6) = (σ.1 ((b + 1)) x2.toNatClampNeg) then (
  some 1) else (
  some 0)))))) else (
  some 0)
set_option maxHeartbeats 4000000 in
set_option maxRecDepth 100000 in
theorem c_Se_leadsBest (l : Launch) (D : va_G) (cA ad : Nat → Nat) {b : Nat} (hb : sB b) (σ : mS) (x1 : Int32) (x2 : Int32) (o : Int32) (h : f_Se_leadsBest b σ x1 x2 = some o) : mCi l ⟨"LeastPaths$Search", "leadsBest", "(II)Z"⟩ (Cond.code ⟨"LeastPaths$Search", "leadsBest", "(II)Z"⟩ prog_6_method_15_code 3 (Option.some Jvm.ClassFile.FieldType.boolean) :: tlG) rm_Se_leadsBest D clX (tyK cA) 99 (tbX cA) ad σ [.ref (ad b), .int x1, .int x2] (o, σ) := by
  intro sz
  refine m_of (cc := prog_6_method_15_code) (maxL := 3) (Qc := mQi D clX (tyK cA) 99 (tbX cA) ad (o, σ)) (by decide) (Nat.le_of_ble_eq_true rfl) (fun p e s m args below meth c ls S hr hlk hnm hl M => ?_) sz
  have hl : lv_has ls 3 [(0, .ref (ad b)), (1, .int x1), (2, .int x2)] := hl
  generalize hQ : MQ _ _ _ _ _ _ _ = Q
  skip
  unfold f_Se_leadsBest at h
  refine lv_aload_n S.1 S.2.1 d_Se_leadsBest_0 rfl (lv_at hl 0 rfl) ?_
  refine lv_iload_n S.1 S.2.1 d_Se_leadsBest_1 rfl (lv_at hl 1 rfl) ?_
  refine m_xip h (fun o ho => m_rV (As := [.int x1]) (rest := []) S M hl.1 (cwG (n := 1) S.2.2.2.2 kw_88 kw_89 kw_90 kw_51 kw_91 (by decide) ⟨Nat.le_of_ble_eq_true rfl, Nat.le_of_ble_eq_true rfl⟩) ok_Se (lt_S0 hb) (tb_S0 hb) (c_Se_endOf l D cA ad hb σ x1 o ho _) rfl rfl (Nat.le_of_ble_eq_true rfl) d_Se_leadsBest_2 ⟨Nat.zero_le _, Nat.zero_le _⟩) M (fun v1 H locs h M => ?_)
  refine lv_iload_n S.1 S.2.1 d_Se_leadsBest_5 rfl (lv_at hl 2 rfl) ?_
  refine m_ine (tgt := 29) S d_Se_leadsBest_6 (by decide) h (fun h => ?_) (fun h => ?_)
  · refine lv_iconst (v := 0) S.1 S.2.1 d_Se_leadsBest_29 (by decide) ?_
    subst hQ; exact m_zret S hr hlk M (by rw [Option.some.inj h]) rfl d_Se_leadsBest_30
  · refine lv_aload_n S.1 S.2.1 d_Se_leadsBest_9 rfl (lv_at hl 0 rfl) ?_
    refine lv_iload_n S.1 S.2.1 d_Se_leadsBest_10 rfl (lv_at hl 1 rfl) ?_
    refine m_xip h (fun o ho => m_rV (As := [.int x1]) (rest := []) S M hl.1 (cwG (n := 1) S.2.2.2.2 kw_84 kw_85 kw_86 kw_51 kw_87 (by decide) ⟨Nat.le_of_ble_eq_true rfl, Nat.le_of_ble_eq_true rfl⟩) ok_Se (lt_S0 hb) (tb_S0 hb) (c_Se_isOpen l D cA ad hb σ x1 o ho _) rfl rfl (Nat.le_of_ble_eq_true rfl) d_Se_leadsBest_11 ⟨Nat.zero_le _, Nat.zero_le _⟩) M (fun v2 H locs h M => ?_)
    refine m_ifeq (tgt := 29) S d_Se_leadsBest_14 (by decide) h (fun h => ?_) (fun h => ?_)
    · refine lv_iconst (v := 0) S.1 S.2.1 d_Se_leadsBest_29 (by decide) ?_
      subst hQ; exact m_zret S hr hlk M (by rw [Option.some.inj h]) rfl d_Se_leadsBest_30
    · refine lv_aload_n S.1 S.2.1 d_Se_leadsBest_17 rfl (lv_at hl 0 rfl) ?_
      refine lv_aload_n S.1 S.2.1 d_Se_leadsBest_18 rfl (lv_at hl 0 rfl) ?_
      refine lv_iload_n S.1 S.2.1 d_Se_leadsBest_19 rfl (lv_at hl 1 rfl) ?_
      refine m_xip h (fun o ho => m_rV (As := [.int x1]) (rest := [.ref (ad b)]) S M hl.1 (cwG (n := 1) S.2.2.2.2 kw_80 kw_81 kw_82 kw_51 kw_83 (by decide) ⟨Nat.le_of_ble_eq_true rfl, Nat.le_of_ble_eq_true rfl⟩) ok_Se (lt_S0 hb) (tb_S0 hb) (c_Se_startOf l D cA ad hb σ x1 o ho _) rfl rfl (Nat.le_of_ble_eq_true rfl) d_Se_leadsBest_20 ⟨Nat.zero_le _, Nat.zero_le _⟩) M (fun v3 H locs h M => ?_)
      refine m_xip h (fun o ho => m_rV (As := [.int v3]) (rest := []) S M hl.1 (cwG (n := 1) S.2.2.2.2 kw_112 kw_113 kw_114 kw_51 kw_115 (by decide) ⟨Nat.le_of_ble_eq_true rfl, Nat.le_of_ble_eq_true rfl⟩) ok_Se (lt_S0 hb) (tb_S0 hb) (c_Se_knows l D cA ad hb σ v3 o ho _) rfl rfl (Nat.le_of_ble_eq_true rfl) d_Se_leadsBest_23 ⟨Nat.zero_le _, Nat.zero_le _⟩) M (fun v4 H locs h M => ?_)
      refine m_ifne (tgt := 31) S d_Se_leadsBest_26 (by decide) h (fun h => ?_) (fun h => ?_)
      · refine lv_aload_n S.1 S.2.1 d_Se_leadsBest_31 rfl (lv_at hl 0 rfl) ?_
        refine m_gs (t := (b + 1)) S M (j := 3) ok_Se (lt_S0 hb) (tb_S0 hb) (by decide) rfl kw_63 rfl d_Se_leadsBest_32 ?_
        refine lv_aload_n S.1 S.2.1 d_Se_leadsBest_35 rfl (lv_at hl 0 rfl) ?_
        refine lv_iload_n S.1 S.2.1 d_Se_leadsBest_36 rfl (lv_at hl 1 rfl) ?_
        refine m_xip h (fun o ho => m_rV (As := [.int x1]) (rest := [.ref (ad ((b + 1)))]) S M hl.1 (cwG (n := 1) S.2.2.2.2 kw_80 kw_81 kw_82 kw_51 kw_83 (by decide) ⟨Nat.le_of_ble_eq_true rfl, Nat.le_of_ble_eq_true rfl⟩) ok_Se (lt_S0 hb) (tb_S0 hb) (c_Se_startOf l D cA ad hb σ x1 o ho _) rfl rfl (Nat.le_of_ble_eq_true rfl) d_Se_leadsBest_37 ⟨Nat.zero_le _, Nat.zero_le _⟩) M (fun v5 H locs h M => ?_)
        refine m_ial (t0 := 0) S M (lt_S1 hb) (tb_S1 hb) rfl h d_Se_leadsBest_40 (fun h => ?_)
        refine lv_aload_n S.1 S.2.1 d_Se_leadsBest_41 rfl (lv_at hl 0 rfl) ?_
        refine lv_iload_n S.1 S.2.1 d_Se_leadsBest_42 rfl (lv_at hl 1 rfl) ?_
        refine m_xip h (fun o ho => m_rV (As := [.int x1]) (rest := [.int (σ.1 ((b + 1)) v5.toNatClampNeg)]) S M hl.1 (cwG (n := 1) S.2.2.2.2 kw_92 kw_93 kw_94 kw_51 kw_95 (by decide) ⟨Nat.le_of_ble_eq_true rfl, Nat.le_of_ble_eq_true rfl⟩) ok_Se (lt_S0 hb) (tb_S0 hb) (c_Se_costOf l D cA ad hb σ x1 o ho _) rfl rfl (Nat.le_of_ble_eq_true rfl) d_Se_leadsBest_43 ⟨Nat.zero_le _, Nat.zero_le _⟩) M (fun v6 H locs h M => ?_)
        refine lv_iadd S.1 S.2.1 d_Se_leadsBest_46 ?_
        refine lv_aload_n S.1 S.2.1 d_Se_leadsBest_47 rfl (lv_at hl 0 rfl) ?_
        refine m_gs (t := (b + 1)) S M (j := 3) ok_Se (lt_S0 hb) (tb_S0 hb) (by decide) rfl kw_63 rfl d_Se_leadsBest_48 ?_
        refine lv_iload_n S.1 S.2.1 d_Se_leadsBest_51 rfl (lv_at hl 2 rfl) ?_
        refine m_ial (t0 := 0) S M (lt_S1 hb) (tb_S1 hb) rfl h d_Se_leadsBest_52 (fun h => ?_)
        refine m_ine (tgt := 60) S d_Se_leadsBest_53 (by decide) h (fun h => ?_) (fun h => ?_)
        · refine lv_iconst (v := 0) S.1 S.2.1 d_Se_leadsBest_60 (by decide) ?_
          subst hQ; exact m_zret S hr hlk M (by rw [Option.some.inj h]) rfl d_Se_leadsBest_61
        · refine lv_iconst (v := 1) S.1 S.2.1 d_Se_leadsBest_56 (by decide) ?_
          refine lv_goto (tgt := 61) S.1 S.2.1 d_Se_leadsBest_57 (by decide) ?_
          subst hQ; exact m_zret S hr hlk M (by rw [Option.some.inj h]) rfl d_Se_leadsBest_61
      · refine lv_iconst (v := 0) S.1 S.2.1 d_Se_leadsBest_29 (by decide) ?_
        subst hQ; exact m_zret S hr hlk M (by rw [Option.some.inj h]) rfl d_Se_leadsBest_30
theorem d_Se_lastArc_0 : decode prog_6_method_12_code 0 = .ok (.iconst 0, 1) := by decide +kernel
theorem d_Se_lastArc_1 : decode prog_6_method_12_code 1 = .ok (.istore_n 2, 1) := by decide +kernel
theorem d_Se_lastArc_2 : decode prog_6_method_12_code 2 = .ok (.iload_n 2, 1) := by decide +kernel
theorem d_Se_lastArc_3 : decode prog_6_method_12_code 3 = .ok (.aload_n 0, 1) := by decide +kernel
theorem d_Se_lastArc_4 : decode prog_6_method_12_code 4 = .ok (.getfield 21, 3) := by decide +kernel
theorem d_Se_lastArc_7 : decode prog_6_method_12_code 7 = .ok (.getfield 89, 3) := by decide +kernel
theorem d_Se_lastArc_10 : decode prog_6_method_12_code 10 = .ok (.if_icmp .ge 20, 3) := by decide +kernel
theorem d_Se_lastArc_13 : decode prog_6_method_12_code 13 = .ok (.aload_n 0, 1) := by decide +kernel
theorem d_Se_lastArc_14 : decode prog_6_method_12_code 14 = .ok (.iload_n 2, 1) := by decide +kernel
theorem d_Se_lastArc_15 : decode prog_6_method_12_code 15 = .ok (.iload_n 1, 1) := by decide +kernel
theorem d_Se_lastArc_16 : decode prog_6_method_12_code 16 = .ok (.invokevirtual 119, 3) := by decide +kernel
theorem d_Se_lastArc_19 : decode prog_6_method_12_code 19 = .ok (.ifCond .eq 5, 3) := by decide +kernel
theorem d_Se_lastArc_22 : decode prog_6_method_12_code 22 = .ok (.iload_n 2, 1) := by decide +kernel
theorem d_Se_lastArc_23 : decode prog_6_method_12_code 23 = .ok (.ireturn, 1) := by decide +kernel
theorem d_Se_lastArc_24 : decode prog_6_method_12_code 24 = .ok (.iinc 2 1, 3) := by decide +kernel
theorem d_Se_lastArc_27 : decode prog_6_method_12_code 27 = .ok (.goto (-25), 3) := by decide +kernel
theorem d_Se_lastArc_30 : decode prog_6_method_12_code 30 = .ok (.iconst (-1), 1) := by decide +kernel
theorem d_Se_lastArc_31 : decode prog_6_method_12_code 31 = .ok (.ireturn, 1) := by decide +kernel
def rm_Se_lastArc : Room := { frames := 2, cells := 0, slots := 0, locals := 43 }
def f_Se_lastArc_L2 (σ : mS) (b : Nat) (x1 : Int32) : (Int32) → Option ((Int32) ⊕ ((Int32) ⊕ (Int32))) := fun t2 =>
  if (σ.1 1 7) ≤ t2 then (
  some (.inr (.inl (t2)))) else (
  (f_Se_leadsBest b σ t2 x1).bind fun v1 =>
  if v1 = 0 then (
  some (.inl (t2 + 1))) else (
  some (.inr (.inr t2))))
def f_Se_lastArc (b : Nat) (σ : mS) (x1 : Int32) : Option (Int32) :=
  (lpN (f_Se_lastArc_L2 σ b x1) fuS (0)).bind fun u2 => Sum.elim (fun e2 =>
  some ((-1)))
  (fun y2 => some y2) u2
set_option maxHeartbeats 4000000 in
set_option maxRecDepth 100000 in
theorem c_Se_lastArc (l : Launch) (D : va_G) (cA ad : Nat → Nat) {b : Nat} (hb : sB b) (σ : mS) (x1 : Int32) (o : Int32) (h : f_Se_lastArc b σ x1 = some o) : mCi l ⟨"LeastPaths$Search", "lastArc", "(I)I"⟩ (Cond.code ⟨"LeastPaths$Search", "lastArc", "(I)I"⟩ prog_6_method_12_code 3 (Option.some Jvm.ClassFile.FieldType.int) :: tlG) rm_Se_lastArc D clX (tyK cA) 99 (tbX cA) ad σ [.ref (ad b), .int x1] (o, σ) := by
  intro sz
  refine m_of (cc := prog_6_method_12_code) (maxL := 3) (Qc := mQi D clX (tyK cA) 99 (tbX cA) ad (o, σ)) (by decide) (Nat.le_of_ble_eq_true rfl) (fun p e s m args below meth c ls S hr hlk hnm hl M => ?_) sz
  have hl : lv_has ls 3 [(0, .ref (ad b)), (1, .int x1)] := hl
  generalize hQ : MQ _ _ _ _ _ _ _ = Q
  skip
  unfold f_Se_lastArc at h
  refine lv_iconst (v := 0) S.1 S.2.1 d_Se_lastArc_0 (by decide) ?_
  refine lv_istore_n (lv' := [(2, .int 0), (0, .ref (ad b)), (1, .int x1)]) S.1 S.2.1 d_Se_lastArc_1 rfl hl (by decide) rfl (fun ls hl => ?_)
  obtain ⟨u2, q2, h⟩ := Option.bind_eq_some_iff.mp h
  refine lpN_W2 (st := f_Se_lastArc_L2 σ b x1) (fun (t2 : Int32) => ∀ (ls : Array Slot) (H : Heap) (locs : List Loc), lv_has ls 3 [(2, .int t2), (0, .ref (ad b)), (1, .int x1)] → mM D clX (tyK cA) (mA 99 ad s.heap.size) s 99 (tbX cA) ad σ H locs → W p l e rm_Se_lastArc s m args below meth c H locs 0 0 Q (F0 m 2 ls [])) (fun (e2 : Int32) => ∀ (ls : Array Slot) (H : Heap) (locs : List Loc), lv_has ls 3 [(2, .int e2), (0, .ref (ad b)), (1, .int x1)] → mM D clX (tyK cA) (mA 99 ad s.heap.size) s 99 (tbX cA) ad σ H locs → W p l e rm_Se_lastArc s m args below meth c H locs 0 0 Q (F0 m 30 ls [])) (fun (y2 : Int32) => ∀ (pc : Nat) (ls : Array Slot) (H : Heap) (locs : List Loc), decode prog_6_method_12_code pc = .ok (.ireturn, 1) → mM D clX (tyK cA) (mA 99 ad s.heap.size) s 99 (tbX cA) ad σ H locs → W p l e rm_Se_lastArc s m args below meth c H locs 0 0 Q (F0 m pc ls [.int y2])) ?_ fuS ((0) : Int32) u2 q2 ?_ ?_ ls _ _ (lv_sub hl [0, 1, 2] rfl) M
  · intro t2 oo2 h K1 K2 K3 ls H locs hl M
    unfold f_Se_lastArc_L2 at h
    refine lv_iload_n S.1 S.2.1 d_Se_lastArc_2 rfl (lv_at hl 0 rfl) ?_
    refine lv_aload_n S.1 S.2.1 d_Se_lastArc_3 rfl (lv_at hl 1 rfl) ?_
    refine m_gs (t := 1) S M (j := 0) ok_Se (lt_S0 hb) (tb_S0 hb) (by decide) rfl kw_46 rfl d_Se_lastArc_4 ?_
    refine m_gi S M (j := 7) ok_Gr (by decide) rfl (by decide) rfl kw_79 rfl d_Se_lastArc_7 ?_
    refine m_ige (tgt := 30) S d_Se_lastArc_10 (by decide) h (fun h => ?_) (fun h => ?_)
    · exact K2 _ (Option.some.inj h).symm ls _ _ (lv_sub hl [0, 1, 2] rfl) M
    · refine lv_aload_n S.1 S.2.1 d_Se_lastArc_13 rfl (lv_at hl 1 rfl) ?_
      refine lv_iload_n S.1 S.2.1 d_Se_lastArc_14 rfl (lv_at hl 0 rfl) ?_
      refine lv_iload_n S.1 S.2.1 d_Se_lastArc_15 rfl (lv_at hl 2 rfl) ?_
      refine m_xip h (fun o ho => m_rV (As := [.int t2, .int x1]) (rest := []) S M hl.1 (cwG (n := 2) S.2.2.2.2 kw_116 kw_117 kw_118 kw_51 kw_119 (by decide) ⟨Nat.le_of_ble_eq_true rfl, Nat.le_of_ble_eq_true rfl⟩) ok_Se (lt_S0 hb) (tb_S0 hb) (c_Se_leadsBest l D cA ad hb σ t2 x1 o ho _) rfl rfl (Nat.le_of_ble_eq_true rfl) d_Se_lastArc_16 ⟨Nat.zero_le _, Nat.zero_le _⟩) M (fun v1 H locs h M => ?_)
      refine m_ifeq (tgt := 24) S d_Se_lastArc_19 (by decide) h (fun h => ?_) (fun h => ?_)
      · refine lv_iinc (v := t2 + 1) (lv' := [(2, .int (t2 + 1)), (0, .ref (ad b)), (1, .int x1)]) S.1 S.2.1 d_Se_lastArc_24 hl (k := 0) rfl rfl (by decide) rfl (fun ls hl => ?_)
        refine lv_goto (tgt := 2) S.1 S.2.1 d_Se_lastArc_27 (by decide) ?_
        exact K1 _ (Option.some.inj h).symm ls _ _ (lv_sub hl [0, 1, 2] rfl) M
      · refine lv_iload_n S.1 S.2.1 d_Se_lastArc_22 rfl (lv_at hl 0 rfl) ?_
        exact K3 _ (Option.some.inj h).symm _ ls _ _ d_Se_lastArc_23 M
  · intro e2 q ls H locs hl M
    subst q
    dsimp only [Sum.elim_inl] at h
    refine lv_iconst (v := (-1)) S.1 S.2.1 d_Se_lastArc_30 (by decide) ?_
    subst hQ; exact m_iret S hr hlk M (by rw [Option.some.inj h]) d_Se_lastArc_31
  · intro y2 q
    subst q
    dsimp only [Sum.elim_inr] at h
    intro pc ls H locs hd M
    subst hQ; exact m_iret S hr hlk M (by rw [Option.some.inj h]) hd
theorem d_Se_countWays_0 : decode prog_6_method_13_code 0 = .ok (.iconst 0, 1) := by decide +kernel
theorem d_Se_countWays_1 : decode prog_6_method_13_code 1 = .ok (.istore_n 2, 1) := by decide +kernel
theorem d_Se_countWays_2 : decode prog_6_method_13_code 2 = .ok (.iload_n 2, 1) := by decide +kernel
theorem d_Se_countWays_3 : decode prog_6_method_13_code 3 = .ok (.aload_n 0, 1) := by decide +kernel
theorem d_Se_countWays_4 : decode prog_6_method_13_code 4 = .ok (.getfield 58, 3) := by decide +kernel
theorem d_Se_countWays_7 : decode prog_6_method_13_code 7 = .ok (.if_icmp .ge 91, 3) := by decide +kernel
theorem d_Se_countWays_10 : decode prog_6_method_13_code 10 = .ok (.aload_n 0, 1) := by decide +kernel
theorem d_Se_countWays_11 : decode prog_6_method_13_code 11 = .ok (.getfield 15, 3) := by decide +kernel
theorem d_Se_countWays_14 : decode prog_6_method_13_code 14 = .ok (.iload_n 2, 1) := by decide +kernel
theorem d_Se_countWays_15 : decode prog_6_method_13_code 15 = .ok (.iaload, 1) := by decide +kernel
theorem d_Se_countWays_16 : decode prog_6_method_13_code 16 = .ok (.istore_n 3, 1) := by decide +kernel
theorem d_Se_countWays_17 : decode prog_6_method_13_code 17 = .ok (.aload_n 0, 1) := by decide +kernel
theorem d_Se_countWays_18 : decode prog_6_method_13_code 18 = .ok (.getfield 9, 3) := by decide +kernel
theorem d_Se_countWays_21 : decode prog_6_method_13_code 21 = .ok (.iload_n 3, 1) := by decide +kernel
theorem d_Se_countWays_22 : decode prog_6_method_13_code 22 = .ok (.iaload, 1) := by decide +kernel
theorem d_Se_countWays_23 : decode prog_6_method_13_code 23 = .ok (.ifCond .ne 7, 3) := by decide +kernel
theorem d_Se_countWays_26 : decode prog_6_method_13_code 26 = .ok (.iconst 1, 1) := by decide +kernel
theorem d_Se_countWays_27 : decode prog_6_method_13_code 27 = .ok (.goto 4, 3) := by decide +kernel
theorem d_Se_countWays_30 : decode prog_6_method_13_code 30 = .ok (.iconst 0, 1) := by decide +kernel
theorem d_Se_countWays_31 : decode prog_6_method_13_code 31 = .ok (.istore 4, 2) := by decide +kernel
theorem d_Se_countWays_33 : decode prog_6_method_13_code 33 = .ok (.iconst 0, 1) := by decide +kernel
theorem d_Se_countWays_34 : decode prog_6_method_13_code 34 = .ok (.istore 5, 2) := by decide +kernel
theorem d_Se_countWays_36 : decode prog_6_method_13_code 36 = .ok (.iload 5, 2) := by decide +kernel
theorem d_Se_countWays_38 : decode prog_6_method_13_code 38 = .ok (.aload_n 0, 1) := by decide +kernel
theorem d_Se_countWays_39 : decode prog_6_method_13_code 39 = .ok (.getfield 21, 3) := by decide +kernel
theorem d_Se_countWays_42 : decode prog_6_method_13_code 42 = .ok (.getfield 89, 3) := by decide +kernel
theorem d_Se_countWays_45 : decode prog_6_method_13_code 45 = .ok (.if_icmp .ge 39, 3) := by decide +kernel
theorem d_Se_countWays_48 : decode prog_6_method_13_code 48 = .ok (.iload 4, 2) := by decide +kernel
theorem d_Se_countWays_50 : decode prog_6_method_13_code 50 = .ok (.aload_n 0, 1) := by decide +kernel
theorem d_Se_countWays_51 : decode prog_6_method_13_code 51 = .ok (.iload 5, 2) := by decide +kernel
theorem d_Se_countWays_53 : decode prog_6_method_13_code 53 = .ok (.iload_n 3, 1) := by decide +kernel
theorem d_Se_countWays_54 : decode prog_6_method_13_code 54 = .ok (.invokevirtual 119, 3) := by decide +kernel
theorem d_Se_countWays_57 : decode prog_6_method_13_code 57 = .ok (.ifCond .eq 17, 3) := by decide +kernel
theorem d_Se_countWays_60 : decode prog_6_method_13_code 60 = .ok (.aload_n 0, 1) := by decide +kernel
theorem d_Se_countWays_61 : decode prog_6_method_13_code 61 = .ok (.getfield 18, 3) := by decide +kernel
theorem d_Se_countWays_64 : decode prog_6_method_13_code 64 = .ok (.aload_n 0, 1) := by decide +kernel
theorem d_Se_countWays_65 : decode prog_6_method_13_code 65 = .ok (.iload 5, 2) := by decide +kernel
theorem d_Se_countWays_67 : decode prog_6_method_13_code 67 = .ok (.invokevirtual 92, 3) := by decide +kernel
theorem d_Se_countWays_70 : decode prog_6_method_13_code 70 = .ok (.iaload, 1) := by decide +kernel
theorem d_Se_countWays_71 : decode prog_6_method_13_code 71 = .ok (.goto 4, 3) := by decide +kernel
theorem d_Se_countWays_74 : decode prog_6_method_13_code 74 = .ok (.iconst 0, 1) := by decide +kernel
theorem d_Se_countWays_75 : decode prog_6_method_13_code 75 = .ok (.iadd, 1) := by decide +kernel
theorem d_Se_countWays_76 : decode prog_6_method_13_code 76 = .ok (.istore 4, 2) := by decide +kernel
theorem d_Se_countWays_78 : decode prog_6_method_13_code 78 = .ok (.iinc 5 1, 3) := by decide +kernel
theorem d_Se_countWays_81 : decode prog_6_method_13_code 81 = .ok (.goto (-45), 3) := by decide +kernel
theorem d_Se_countWays_84 : decode prog_6_method_13_code 84 = .ok (.aload_n 0, 1) := by decide +kernel
theorem d_Se_countWays_85 : decode prog_6_method_13_code 85 = .ok (.getfield 18, 3) := by decide +kernel
theorem d_Se_countWays_88 : decode prog_6_method_13_code 88 = .ok (.iload_n 3, 1) := by decide +kernel
theorem d_Se_countWays_89 : decode prog_6_method_13_code 89 = .ok (.iload 4, 2) := by decide +kernel
theorem d_Se_countWays_91 : decode prog_6_method_13_code 91 = .ok (.iastore, 1) := by decide +kernel
theorem d_Se_countWays_92 : decode prog_6_method_13_code 92 = .ok (.iinc 2 1, 3) := by decide +kernel
theorem d_Se_countWays_95 : decode prog_6_method_13_code 95 = .ok (.goto (-93), 3) := by decide +kernel
theorem d_Se_countWays_98 : decode prog_6_method_13_code 98 = .ok (.aload_n 0, 1) := by decide +kernel
theorem d_Se_countWays_99 : decode prog_6_method_13_code 99 = .ok (.iload_n 1, 1) := by decide +kernel
theorem d_Se_countWays_100 : decode prog_6_method_13_code 100 = .ok (.invokevirtual 123, 3) := by decide +kernel
theorem d_Se_countWays_103 : decode prog_6_method_13_code 103 = .ok (.ifCond .eq 12, 3) := by decide +kernel
theorem d_Se_countWays_106 : decode prog_6_method_13_code 106 = .ok (.aload_n 0, 1) := by decide +kernel
theorem d_Se_countWays_107 : decode prog_6_method_13_code 107 = .ok (.getfield 18, 3) := by decide +kernel
theorem d_Se_countWays_110 : decode prog_6_method_13_code 110 = .ok (.iload_n 1, 1) := by decide +kernel
theorem d_Se_countWays_111 : decode prog_6_method_13_code 111 = .ok (.iaload, 1) := by decide +kernel
theorem d_Se_countWays_112 : decode prog_6_method_13_code 112 = .ok (.goto 4, 3) := by decide +kernel
theorem d_Se_countWays_115 : decode prog_6_method_13_code 115 = .ok (.iconst 0, 1) := by decide +kernel
theorem d_Se_countWays_116 : decode prog_6_method_13_code 116 = .ok (.ireturn, 1) := by decide +kernel
def rm_Se_countWays : Room := { frames := 2, cells := 0, slots := 0, locals := 43 }
def f_Se_countWays_L36 (b : Nat) (t2 : Int32 × mS) (v1 : Int32) : (Int32 × Int32) → Option ((Int32 × Int32) ⊕ (Int32 × Int32)) := fun t36 =>
  if (t2.2.1 1 7) ≤ t36.2 then (
  some (.inr (t36.1, t36.2))) else (
  (f_Se_leadsBest b t2.2 t36.2 v1).bind fun v3 =>
  if v3 = 0 then (
  nm (t36.1 + 0) fun v4 =>
  some (.inl (v4, t36.2 + 1))) else (
  (f_Se_startOf b t2.2 t36.2).bind fun v5 =>
  gd (inb v5 10) (
  nm (t36.1 + (t2.2.1 ((b + 3)) v5.toNatClampNeg)) fun v6 =>
  some (.inl (v6, t36.2 + 1)))))
def f_Se_countWays_J31 (b : Nat) (t2 : Int32 × mS) (v1 : Int32) (j2 : Int32) : Option ((Int32 × mS) ⊕ (Int32 × mS)) :=
  (lpN (f_Se_countWays_L36 b t2 v1) fuS (j2, 0)).bind fun u36 =>
  gd (inb v1 10) ((nm (sI t2.2 ((b + 3)) v1.toNatClampNeg u36.1) fun σ7 =>
  some (.inl (t2.1 + 1, σ7))))
def f_Se_countWays_L2 (b : Nat) : (Int32 × mS) → Option ((Int32 × mS) ⊕ (Int32 × mS)) := fun t2 =>
  if (t2.2.1 b 6) ≤ t2.1 then (
  some (.inr (t2.1, t2.2))) else (
  gd (inb t2.1 10) (
  nm (t2.2.1 ((b + 2)) t2.1.toNatClampNeg) fun v1 =>
  gd (inb v1 10) (
  if (t2.2.1 ((b + 1)) v1.toNatClampNeg) = 0 then (
  f_Se_countWays_J31 b t2 v1 1) else (
  f_Se_countWays_J31 b t2 v1 0))))
def f_Se_countWays (b : Nat) (σ : mS) (x1 : Int32) : Option (Int32 × mS) :=
  (lpN (f_Se_countWays_L2 b) fuS (0, σ)).bind fun u2 =>
  (f_Se_knows b u2.2 x1).bind fun v8 =>
  if v8 = 0 then (
  some (0, u2.2)) else (
  gd (inb x1 10) (
  some (u2.2.1 ((b + 3)) x1.toNatClampNeg, u2.2)))
set_option maxHeartbeats 4000000 in
set_option maxRecDepth 100000 in
theorem c_Se_countWays (l : Launch) (D : va_G) (cA ad : Nat → Nat) {b : Nat} (hb : sB b) (σ : mS) (x1 : Int32) (o : Int32 × mS) (h : f_Se_countWays b σ x1 = some o) : mCi l ⟨"LeastPaths$Search", "countWays", "(I)I"⟩ (Cond.code ⟨"LeastPaths$Search", "countWays", "(I)I"⟩ prog_6_method_13_code 6 (Option.some Jvm.ClassFile.FieldType.int) :: tlG) rm_Se_countWays D clX (tyK cA) 99 (tbX cA) ad σ [.ref (ad b), .int x1] o := by
  intro sz
  refine m_of (cc := prog_6_method_13_code) (maxL := 6) (Qc := mQi D clX (tyK cA) 99 (tbX cA) ad o) (by decide) (Nat.le_of_ble_eq_true rfl) (fun p e s m args below meth c ls S hr hlk hnm hl M => ?_) sz
  have hl : lv_has ls 6 [(0, .ref (ad b)), (1, .int x1)] := hl
  generalize hQ : MQ _ _ _ _ _ _ _ = Q
  skip
  unfold f_Se_countWays at h
  refine lv_iconst (v := 0) S.1 S.2.1 d_Se_countWays_0 (by decide) ?_
  refine lv_istore_n (lv' := [(2, .int 0), (0, .ref (ad b)), (1, .int x1)]) S.1 S.2.1 d_Se_countWays_1 rfl hl (by decide) rfl (fun ls hl => ?_)
  obtain ⟨u2, q2, h⟩ := Option.bind_eq_some_iff.mp h
  refine lpN_W1 (st := f_Se_countWays_L2 b) (fun (t2 : Int32 × mS) => ∀ (ls : Array Slot) (H : Heap) (locs : List Loc), lv_has ls 6 [(2, .int t2.1), (0, .ref (ad b)), (1, .int x1)] → mM D clX (tyK cA) (mA 99 ad s.heap.size) s 99 (tbX cA) ad t2.2 H locs → W p l e rm_Se_countWays s m args below meth c H locs 0 0 Q (F0 m 2 ls [])) (fun (u2 : Int32 × mS) => ∀ (ls : Array Slot) (H : Heap) (locs : List Loc), lv_has ls 6 [(2, .int u2.1), (0, .ref (ad b)), (1, .int x1)] → mM D clX (tyK cA) (mA 99 ad s.heap.size) s 99 (tbX cA) ad u2.2 H locs → W p l e rm_Se_countWays s m args below meth c H locs 0 0 Q (F0 m 98 ls [])) ?_ fuS ((0, σ) : Int32 × mS) u2 q2 ?_ ls _ _ (lv_sub hl [0, 1, 2] rfl) M
  · intro t2 oo2 h K1 K2 ls H locs hl M
    unfold f_Se_countWays_L2 at h
    refine lv_iload_n S.1 S.2.1 d_Se_countWays_2 rfl (lv_at hl 0 rfl) ?_
    refine lv_aload_n S.1 S.2.1 d_Se_countWays_3 rfl (lv_at hl 1 rfl) ?_
    refine m_gi S M (j := 6) ok_Se (lt_S0 hb) (tb_S0 hb) (by decide) rfl kw_42 rfl d_Se_countWays_4 ?_
    refine m_ige (tgt := 98) S d_Se_countWays_7 (by decide) h (fun h => ?_) (fun h => ?_)
    · exact K2 _ (Option.some.inj h).symm ls _ _ (lv_sub hl [0, 1, 2] rfl) M
    · refine lv_aload_n S.1 S.2.1 d_Se_countWays_10 rfl (lv_at hl 1 rfl) ?_
      refine m_gs (t := (b + 2)) S M (j := 4) ok_Se (lt_S0 hb) (tb_S0 hb) (by decide) rfl kw_78 rfl d_Se_countWays_11 ?_
      refine lv_iload_n S.1 S.2.1 d_Se_countWays_14 rfl (lv_at hl 0 rfl) ?_
      refine m_ial (t0 := 0) S M (lt_S2 hb) (tb_S2 hb) rfl h d_Se_countWays_15 (fun h => ?_)
      refine m_ni h (fun v1 h => ?_)
      refine lv_istore_n (lv' := [(3, .int v1), (2, .int t2.1), (0, .ref (ad b)), (1, .int x1)]) S.1 S.2.1 d_Se_countWays_16 rfl hl (by decide) rfl (fun ls hl => ?_)
      refine lv_aload_n S.1 S.2.1 d_Se_countWays_17 rfl (lv_at hl 2 rfl) ?_
      refine m_gs (t := (b + 1)) S M (j := 3) ok_Se (lt_S0 hb) (tb_S0 hb) (by decide) rfl kw_63 rfl d_Se_countWays_18 ?_
      refine lv_iload_n S.1 S.2.1 d_Se_countWays_21 rfl (lv_at hl 0 rfl) ?_
      refine m_ial (t0 := 0) S M (lt_S1 hb) (tb_S1 hb) rfl h d_Se_countWays_22 (fun h => ?_)
      have J31 : ∀ (j2 : Int32) (ls : Array Slot) (H : Heap) (locs : List Loc), f_Se_countWays_J31 b t2 v1 j2 = some oo2 → lv_has ls 6 [(3, .int v1), (2, .int t2.1), (0, .ref (ad b)), (1, .int x1)] → mM D clX (tyK cA) (mA 99 ad s.heap.size) s 99 (tbX cA) ad t2.2 H locs → W p l e rm_Se_countWays s m args below meth c H locs 0 0 Q (F0 m 31 ls [.int j2]) := by
        intro j2 ls H locs h hl M
        unfold f_Se_countWays_J31 at h
        refine lv_istore (lv' := [(4, .int j2), (3, .int v1), (2, .int t2.1), (0, .ref (ad b)), (1, .int x1)]) S.1 S.2.1 d_Se_countWays_31 hl (by decide) rfl (fun ls hl => ?_)
        refine lv_iconst (v := 0) S.1 S.2.1 d_Se_countWays_33 (by decide) ?_
        refine lv_istore (lv' := [(5, .int 0), (4, .int j2), (3, .int v1), (2, .int t2.1), (0, .ref (ad b)), (1, .int x1)]) S.1 S.2.1 d_Se_countWays_34 hl (by decide) rfl (fun ls hl => ?_)
        obtain ⟨u36, q36, h⟩ := Option.bind_eq_some_iff.mp h
        refine lpN_W1 (st := f_Se_countWays_L36 b t2 v1) (fun (t36 : Int32 × Int32) => ∀ (ls : Array Slot) (H : Heap) (locs : List Loc), lv_has ls 6 [(5, .int t36.2), (4, .int t36.1), (3, .int v1), (2, .int t2.1), (0, .ref (ad b)), (1, .int x1)] → mM D clX (tyK cA) (mA 99 ad s.heap.size) s 99 (tbX cA) ad t2.2 H locs → W p l e rm_Se_countWays s m args below meth c H locs 0 0 Q (F0 m 36 ls [])) (fun (u36 : Int32 × Int32) => ∀ (ls : Array Slot) (H : Heap) (locs : List Loc), lv_has ls 6 [(5, .int u36.2), (4, .int u36.1), (3, .int v1), (2, .int t2.1), (0, .ref (ad b)), (1, .int x1)] → mM D clX (tyK cA) (mA 99 ad s.heap.size) s 99 (tbX cA) ad t2.2 H locs → W p l e rm_Se_countWays s m args below meth c H locs 0 0 Q (F0 m 84 ls [])) ?_ fuS ((j2, 0) : Int32 × Int32) u36 q36 ?_ ls _ _ (lv_sub hl [0, 1, 2, 3, 4, 5] rfl) M
        · intro t36 oo36 h K1 K2 ls H locs hl M
          unfold f_Se_countWays_L36 at h
          refine lv_iload S.1 S.2.1 d_Se_countWays_36 (lv_at hl 0 rfl) ?_
          refine lv_aload_n S.1 S.2.1 d_Se_countWays_38 rfl (lv_at hl 4 rfl) ?_
          refine m_gs (t := 1) S M (j := 0) ok_Se (lt_S0 hb) (tb_S0 hb) (by decide) rfl kw_46 rfl d_Se_countWays_39 ?_
          refine m_gi S M (j := 7) ok_Gr (by decide) rfl (by decide) rfl kw_79 rfl d_Se_countWays_42 ?_
          refine m_ige (tgt := 84) S d_Se_countWays_45 (by decide) h (fun h => ?_) (fun h => ?_)
          · exact K2 _ (Option.some.inj h).symm ls _ _ (lv_sub hl [0, 1, 2, 3, 4, 5] rfl) M
          · refine lv_iload S.1 S.2.1 d_Se_countWays_48 (lv_at hl 1 rfl) ?_
            refine lv_aload_n S.1 S.2.1 d_Se_countWays_50 rfl (lv_at hl 4 rfl) ?_
            refine lv_iload S.1 S.2.1 d_Se_countWays_51 (lv_at hl 0 rfl) ?_
            refine lv_iload_n S.1 S.2.1 d_Se_countWays_53 rfl (lv_at hl 2 rfl) ?_
            refine m_xip h (fun o ho => m_rV (As := [.int t36.2, .int v1]) (rest := [.int t36.1]) S M hl.1 (cwG (n := 2) S.2.2.2.2 kw_116 kw_117 kw_118 kw_51 kw_119 (by decide) ⟨Nat.le_of_ble_eq_true rfl, Nat.le_of_ble_eq_true rfl⟩) ok_Se (lt_S0 hb) (tb_S0 hb) (c_Se_leadsBest l D cA ad hb t2.2 t36.2 v1 o ho _) rfl rfl (Nat.le_of_ble_eq_true rfl) d_Se_countWays_54 ⟨Nat.zero_le _, Nat.zero_le _⟩) M (fun v3 H locs h M => ?_)
            refine m_ifeq (tgt := 74) S d_Se_countWays_57 (by decide) h (fun h => ?_) (fun h => ?_)
            · refine lv_iconst (v := 0) S.1 S.2.1 d_Se_countWays_74 (by decide) ?_
              refine lv_iadd S.1 S.2.1 d_Se_countWays_75 ?_
              refine m_ni h (fun v4 h => ?_)
              refine lv_istore (lv' := [(4, .int v4), (5, .int t36.2), (3, .int v1), (2, .int t2.1), (0, .ref (ad b)), (1, .int x1)]) S.1 S.2.1 d_Se_countWays_76 hl (by decide) rfl (fun ls hl => ?_)
              refine lv_iinc (v := t36.2 + 1) (lv' := [(5, .int (t36.2 + 1)), (4, .int v4), (3, .int v1), (2, .int t2.1), (0, .ref (ad b)), (1, .int x1)]) S.1 S.2.1 d_Se_countWays_78 hl (k := 1) rfl rfl (by decide) rfl (fun ls hl => ?_)
              refine lv_goto (tgt := 36) S.1 S.2.1 d_Se_countWays_81 (by decide) ?_
              exact K1 _ (Option.some.inj h).symm ls _ _ (lv_sub hl [0, 1, 2, 3, 4, 5] rfl) M
            · refine lv_aload_n S.1 S.2.1 d_Se_countWays_60 rfl (lv_at hl 4 rfl) ?_
              refine m_gs (t := (b + 3)) S M (j := 5) ok_Se (lt_S0 hb) (tb_S0 hb) (by decide) rfl kw_120 rfl d_Se_countWays_61 ?_
              refine lv_aload_n S.1 S.2.1 d_Se_countWays_64 rfl (lv_at hl 4 rfl) ?_
              refine lv_iload S.1 S.2.1 d_Se_countWays_65 (lv_at hl 0 rfl) ?_
              refine m_xip h (fun o ho => m_rV (As := [.int t36.2]) (rest := [.ref (ad ((b + 3))), .int t36.1]) S M hl.1 (cwG (n := 1) S.2.2.2.2 kw_80 kw_81 kw_82 kw_51 kw_83 (by decide) ⟨Nat.le_of_ble_eq_true rfl, Nat.le_of_ble_eq_true rfl⟩) ok_Se (lt_S0 hb) (tb_S0 hb) (c_Se_startOf l D cA ad hb t2.2 t36.2 o ho _) rfl rfl (Nat.le_of_ble_eq_true rfl) d_Se_countWays_67 ⟨Nat.zero_le _, Nat.zero_le _⟩) M (fun v5 H locs h M => ?_)
              refine m_ial (t0 := 0) S M (lt_S3 hb) (tb_S3 hb) rfl h d_Se_countWays_70 (fun h => ?_)
              refine lv_goto (tgt := 75) S.1 S.2.1 d_Se_countWays_71 (by decide) ?_
              refine lv_iadd S.1 S.2.1 d_Se_countWays_75 ?_
              refine m_ni h (fun v6 h => ?_)
              refine lv_istore (lv' := [(4, .int v6), (5, .int t36.2), (3, .int v1), (2, .int t2.1), (0, .ref (ad b)), (1, .int x1)]) S.1 S.2.1 d_Se_countWays_76 hl (by decide) rfl (fun ls hl => ?_)
              refine lv_iinc (v := t36.2 + 1) (lv' := [(5, .int (t36.2 + 1)), (4, .int v6), (3, .int v1), (2, .int t2.1), (0, .ref (ad b)), (1, .int x1)]) S.1 S.2.1 d_Se_countWays_78 hl (k := 1) rfl rfl (by decide) rfl (fun ls hl => ?_)
              refine lv_goto (tgt := 36) S.1 S.2.1 d_Se_countWays_81 (by decide) ?_
              exact K1 _ (Option.some.inj h).symm ls _ _ (lv_sub hl [0, 1, 2, 3, 4, 5] rfl) M
        · intro ls H locs hl M
          refine lv_aload_n S.1 S.2.1 d_Se_countWays_84 rfl (lv_at hl 4 rfl) ?_
          refine m_gs (t := (b + 3)) S M (j := 5) ok_Se (lt_S0 hb) (tb_S0 hb) (by decide) rfl kw_120 rfl d_Se_countWays_85 ?_
          refine lv_iload_n S.1 S.2.1 d_Se_countWays_88 rfl (lv_at hl 2 rfl) ?_
          refine lv_iload S.1 S.2.1 d_Se_countWays_89 (lv_at hl 1 rfl) ?_
          refine m_ias (t0 := 0) S M (lt_S3 hb) (tb_S3 hb) rfl h d_Se_countWays_91 (fun σ7 H locs h M => ?_)
          refine lv_iinc (v := t2.1 + 1) (lv' := [(2, .int (t2.1 + 1)), (5, .int u36.2), (4, .int u36.1), (3, .int v1), (0, .ref (ad b)), (1, .int x1)]) S.1 S.2.1 d_Se_countWays_92 hl (k := 3) rfl rfl (by decide) rfl (fun ls hl => ?_)
          refine lv_goto (tgt := 2) S.1 S.2.1 d_Se_countWays_95 (by decide) ?_
          exact K1 _ (Option.some.inj h).symm ls _ _ (lv_sub hl [0, 4, 5] rfl) M
      refine m_ifne (tgt := 30) S d_Se_countWays_23 (by decide) h (fun h => ?_) (fun h => ?_)
      · refine lv_iconst (v := 0) S.1 S.2.1 d_Se_countWays_30 (by decide) ?_
        exact J31 _ ls _ _ h (lv_sub hl [0, 1, 2, 3] rfl) M
      · refine lv_iconst (v := 1) S.1 S.2.1 d_Se_countWays_26 (by decide) ?_
        refine lv_goto (tgt := 31) S.1 S.2.1 d_Se_countWays_27 (by decide) ?_
        exact J31 _ ls _ _ h (lv_sub hl [0, 1, 2, 3] rfl) M
  · intro ls H locs hl M
    refine lv_aload_n S.1 S.2.1 d_Se_countWays_98 rfl (lv_at hl 1 rfl) ?_
    refine lv_iload_n S.1 S.2.1 d_Se_countWays_99 rfl (lv_at hl 2 rfl) ?_
    refine m_xip h (fun o ho => m_rV (As := [.int x1]) (rest := []) S M hl.1 (cwG (n := 1) S.2.2.2.2 kw_112 kw_113 kw_114 kw_51 kw_115 (by decide) ⟨Nat.le_of_ble_eq_true rfl, Nat.le_of_ble_eq_true rfl⟩) ok_Se (lt_S0 hb) (tb_S0 hb) (c_Se_knows l D cA ad hb u2.2 x1 o ho _) rfl rfl (Nat.le_of_ble_eq_true rfl) d_Se_countWays_100 ⟨Nat.zero_le _, Nat.zero_le _⟩) M (fun v8 H locs h M => ?_)
    refine m_ifeq (tgt := 115) S d_Se_countWays_103 (by decide) h (fun h => ?_) (fun h => ?_)
    · refine lv_iconst (v := 0) S.1 S.2.1 d_Se_countWays_115 (by decide) ?_
      subst hQ; exact m_iret S hr hlk M (Option.some.inj h) d_Se_countWays_116
    · refine lv_aload_n S.1 S.2.1 d_Se_countWays_106 rfl (lv_at hl 1 rfl) ?_
      refine m_gs (t := (b + 3)) S M (j := 5) ok_Se (lt_S0 hb) (tb_S0 hb) (by decide) rfl kw_120 rfl d_Se_countWays_107 ?_
      refine lv_iload_n S.1 S.2.1 d_Se_countWays_110 rfl (lv_at hl 2 rfl) ?_
      refine m_ial (t0 := 0) S M (lt_S3 hb) (tb_S3 hb) rfl h d_Se_countWays_111 (fun h => ?_)
      refine lv_goto (tgt := 116) S.1 S.2.1 d_Se_countWays_112 (by decide) ?_
      subst hQ; exact m_iret S hr hlk M (Option.some.inj h) d_Se_countWays_116
theorem d_Se_follow_0 : decode prog_6_method_14_code 0 = .ok (.iload_n 1, 1) := by decide +kernel
theorem d_Se_follow_1 : decode prog_6_method_14_code 1 = .ok (.istore_n 3, 1) := by decide +kernel
theorem d_Se_follow_2 : decode prog_6_method_14_code 2 = .ok (.aload_n 0, 1) := by decide +kernel
theorem d_Se_follow_3 : decode prog_6_method_14_code 3 = .ok (.getfield 9, 3) := by decide +kernel
theorem d_Se_follow_6 : decode prog_6_method_14_code 6 = .ok (.iload_n 1, 1) := by decide +kernel
theorem d_Se_follow_7 : decode prog_6_method_14_code 7 = .ok (.iaload, 1) := by decide +kernel
theorem d_Se_follow_8 : decode prog_6_method_14_code 8 = .ok (.bipush 16, 2) := by decide +kernel
theorem d_Se_follow_10 : decode prog_6_method_14_code 10 = .ok (.irem, 1) := by decide +kernel
theorem d_Se_follow_11 : decode prog_6_method_14_code 11 = .ok (.istore 4, 2) := by decide +kernel
theorem d_Se_follow_13 : decode prog_6_method_14_code 13 = .ok (.iconst 0, 1) := by decide +kernel
theorem d_Se_follow_14 : decode prog_6_method_14_code 14 = .ok (.istore 5, 2) := by decide +kernel
theorem d_Se_follow_16 : decode prog_6_method_14_code 16 = .ok (.iload 5, 2) := by decide +kernel
theorem d_Se_follow_18 : decode prog_6_method_14_code 18 = .ok (.iload 4, 2) := by decide +kernel
theorem d_Se_follow_20 : decode prog_6_method_14_code 20 = .ok (.if_icmp .ge 46, 3) := by decide +kernel
theorem d_Se_follow_23 : decode prog_6_method_14_code 23 = .ok (.aload_n 0, 1) := by decide +kernel
theorem d_Se_follow_24 : decode prog_6_method_14_code 24 = .ok (.iload_n 3, 1) := by decide +kernel
theorem d_Se_follow_25 : decode prog_6_method_14_code 25 = .ok (.invokevirtual 126, 3) := by decide +kernel
theorem d_Se_follow_28 : decode prog_6_method_14_code 28 = .ok (.istore 6, 2) := by decide +kernel
theorem d_Se_follow_30 : decode prog_6_method_14_code 30 = .ok (.iload 6, 2) := by decide +kernel
theorem d_Se_follow_32 : decode prog_6_method_14_code 32 = .ok (.iconst (-1), 1) := by decide +kernel
theorem d_Se_follow_33 : decode prog_6_method_14_code 33 = .ok (.if_icmp .ne 4, 3) := by decide +kernel
theorem d_Se_follow_36 : decode prog_6_method_14_code 36 = .ok (.return_, 1) := by decide +kernel
theorem d_Se_follow_37 : decode prog_6_method_14_code 37 = .ok (.aload_n 2, 1) := by decide +kernel
theorem d_Se_follow_38 : decode prog_6_method_14_code 38 = .ok (.iload 6, 2) := by decide +kernel
theorem d_Se_follow_40 : decode prog_6_method_14_code 40 = .ok (.aload_n 0, 1) := by decide +kernel
theorem d_Se_follow_41 : decode prog_6_method_14_code 41 = .ok (.getfield 21, 3) := by decide +kernel
theorem d_Se_follow_44 : decode prog_6_method_14_code 44 = .ok (.getfield 129, 3) := by decide +kernel
theorem d_Se_follow_47 : decode prog_6_method_14_code 47 = .ok (.iload 6, 2) := by decide +kernel
theorem d_Se_follow_49 : decode prog_6_method_14_code 49 = .ok (.iaload, 1) := by decide +kernel
theorem d_Se_follow_50 : decode prog_6_method_14_code 50 = .ok (.invokevirtual 132, 3) := by decide +kernel
theorem d_Se_follow_53 : decode prog_6_method_14_code 53 = .ok (.aload_n 0, 1) := by decide +kernel
theorem d_Se_follow_54 : decode prog_6_method_14_code 54 = .ok (.iload 6, 2) := by decide +kernel
theorem d_Se_follow_56 : decode prog_6_method_14_code 56 = .ok (.invokevirtual 92, 3) := by decide +kernel
theorem d_Se_follow_59 : decode prog_6_method_14_code 59 = .ok (.istore_n 3, 1) := by decide +kernel
theorem d_Se_follow_60 : decode prog_6_method_14_code 60 = .ok (.iinc 5 1, 3) := by decide +kernel
theorem d_Se_follow_63 : decode prog_6_method_14_code 63 = .ok (.goto (-47), 3) := by decide +kernel
theorem d_Se_follow_66 : decode prog_6_method_14_code 66 = .ok (.return_, 1) := by decide +kernel
def rm_Se_follow : Room := { frames := 3, cells := 0, slots := 0, locals := 65 }
def f_Se_follow_L16 (b : Nat) (w2 : Nat) (v1 : Int32) : (Int32 × Int32 × mS) → Option ((Int32 × Int32 × mS) ⊕ ((Int32 × Int32 × mS) ⊕ (mS))) := fun t16 =>
  if v1 ≤ t16.2.1 then (
  some (.inr (.inl (t16.1, t16.2.1, t16.2.2)))) else (
  (f_Se_lastArc b t16.2.2 t16.1).bind fun v2 =>
  if v2 = ((-1)) then (
  some (.inr (.inr t16.2.2))) else (
  gd (inb v2 40) (
  (f_Wy_add w2 t16.2.2 v2 (t16.2.2.1 4 v2.toNatClampNeg)).bind fun σ3 =>
  (f_Se_startOf b σ3 v2).bind fun v4 =>
  some (.inl (v4, t16.2.1 + 1, σ3)))))
def f_Se_follow (b : Nat) (σ : mS) (x1 : Int32) (w2 : Nat) : Option (mS) :=
  gd (inb x1 10) (
  gd (isN 16) (
  nm ((σ.1 ((b + 1)) x1.toNatClampNeg) - (σ.1 ((b + 1)) x1.toNatClampNeg) / 16 * 16) fun v1 =>
  (lpN (f_Se_follow_L16 b w2 v1) fuS (x1, 0, σ)).bind fun u16 => Sum.elim (fun e16 =>
  some e16.2.2)
  (fun y16 => some y16) u16))
set_option maxHeartbeats 4000000 in
set_option maxRecDepth 100000 in
theorem c_Se_follow (l : Launch) (D : va_G) (cA ad : Nat → Nat) {b : Nat} (hb : sB b) {w2 : Nat} (hw2 : wy w2 = true) (σ : mS) (x1 : Int32) (o : mS) (h : f_Se_follow b σ x1 w2 = some o) : mCv l ⟨"LeastPaths$Search", "follow", "(ILLeastPaths$Way;)V"⟩ (Cond.code ⟨"LeastPaths$Search", "follow", "(ILLeastPaths$Way;)V"⟩ prog_6_method_14_code 7 (Option.none : Option Jvm.ClassFile.FieldType) :: tlG) rm_Se_follow D clX (tyK cA) 99 (tbX cA) ad σ [.ref (ad b), .int x1, .ref (ad w2)] o := by
  intro sz
  refine m_of (cc := prog_6_method_14_code) (maxL := 7) (Qc := mQv D clX (tyK cA) 99 (tbX cA) ad o) (by decide) (Nat.le_of_ble_eq_true rfl) (fun p e s m args below meth c ls S hr hlk hnm hl M => ?_) sz
  have hl : lv_has ls 7 [(0, .ref (ad b)), (1, .int x1), (2, .ref (ad w2))] := hl
  generalize hQ : MQ _ _ _ _ _ _ _ = Q
  skip
  unfold f_Se_follow at h
  refine lv_iload_n S.1 S.2.1 d_Se_follow_0 rfl (lv_at hl 1 rfl) ?_
  refine lv_istore_n (lv' := [(3, .int x1), (0, .ref (ad b)), (1, .int x1), (2, .ref (ad w2))]) S.1 S.2.1 d_Se_follow_1 rfl hl (by decide) rfl (fun ls hl => ?_)
  refine lv_aload_n S.1 S.2.1 d_Se_follow_2 rfl (lv_at hl 1 rfl) ?_
  refine m_gs (t := (b + 1)) S M (j := 3) ok_Se (lt_S0 hb) (tb_S0 hb) (by decide) rfl kw_63 rfl d_Se_follow_3 ?_
  refine lv_iload_n S.1 S.2.1 d_Se_follow_6 rfl (lv_at hl 2 rfl) ?_
  refine m_ial (t0 := 0) S M (lt_S1 hb) (tb_S1 hb) rfl h d_Se_follow_7 (fun h => ?_)
  refine lv_bipush (v := 16) S.1 S.2.1 d_Se_follow_8 (by decide) ?_
  refine m_irem S d_Se_follow_10 h (fun h => ?_)
  refine m_ni h (fun v1 h => ?_)
  refine lv_istore (lv' := [(4, .int v1), (3, .int x1), (0, .ref (ad b)), (1, .int x1), (2, .ref (ad w2))]) S.1 S.2.1 d_Se_follow_11 hl (by decide) rfl (fun ls hl => ?_)
  refine lv_iconst (v := 0) S.1 S.2.1 d_Se_follow_13 (by decide) ?_
  refine lv_istore (lv' := [(5, .int 0), (4, .int v1), (3, .int x1), (0, .ref (ad b)), (1, .int x1), (2, .ref (ad w2))]) S.1 S.2.1 d_Se_follow_14 hl (by decide) rfl (fun ls hl => ?_)
  obtain ⟨u16, q16, h⟩ := Option.bind_eq_some_iff.mp h
  refine lpN_W2 (st := f_Se_follow_L16 b w2 v1) (fun (t16 : Int32 × Int32 × mS) => ∀ (ls : Array Slot) (H : Heap) (locs : List Loc), lv_has ls 7 [(5, .int t16.2.1), (4, .int v1), (3, .int t16.1), (0, .ref (ad b)), (1, .int x1), (2, .ref (ad w2))] → mM D clX (tyK cA) (mA 99 ad s.heap.size) s 99 (tbX cA) ad t16.2.2 H locs → W p l e rm_Se_follow s m args below meth c H locs 0 0 Q (F0 m 16 ls [])) (fun (e16 : Int32 × Int32 × mS) => ∀ (ls : Array Slot) (H : Heap) (locs : List Loc), lv_has ls 7 [(5, .int e16.2.1), (4, .int v1), (3, .int e16.1), (0, .ref (ad b)), (1, .int x1), (2, .ref (ad w2))] → mM D clX (tyK cA) (mA 99 ad s.heap.size) s 99 (tbX cA) ad e16.2.2 H locs → W p l e rm_Se_follow s m args below meth c H locs 0 0 Q (F0 m 66 ls [])) (fun (y16 : mS) => ∀ (pc : Nat) (ls : Array Slot) (H : Heap) (locs : List Loc), decode prog_6_method_14_code pc = .ok (.return_, 1) → mM D clX (tyK cA) (mA 99 ad s.heap.size) s 99 (tbX cA) ad y16 H locs → W p l e rm_Se_follow s m args below meth c H locs 0 0 Q (F0 m pc ls [])) ?_ fuS ((x1, 0, σ) : Int32 × Int32 × mS) u16 q16 ?_ ?_ ls _ _ (lv_sub hl [0, 1, 2, 3, 4, 5] rfl) M
  · intro t16 oo16 h K1 K2 K3 ls H locs hl M
    unfold f_Se_follow_L16 at h
    refine lv_iload S.1 S.2.1 d_Se_follow_16 (lv_at hl 0 rfl) ?_
    refine lv_iload S.1 S.2.1 d_Se_follow_18 (lv_at hl 1 rfl) ?_
    refine m_ige (tgt := 66) S d_Se_follow_20 (by decide) h (fun h => ?_) (fun h => ?_)
    · exact K2 _ (Option.some.inj h).symm ls _ _ (lv_sub hl [0, 1, 2, 3, 4, 5] rfl) M
    · refine lv_aload_n S.1 S.2.1 d_Se_follow_23 rfl (lv_at hl 3 rfl) ?_
      refine lv_iload_n S.1 S.2.1 d_Se_follow_24 rfl (lv_at hl 2 rfl) ?_
      refine m_xip h (fun o ho => m_rV (As := [.int t16.1]) (rest := []) S M hl.1 (cwG (n := 1) S.2.2.2.2 kw_121 kw_122 kw_123 kw_51 kw_124 (by decide) ⟨Nat.le_of_ble_eq_true rfl, Nat.le_of_ble_eq_true rfl⟩) ok_Se (lt_S0 hb) (tb_S0 hb) (c_Se_lastArc l D cA ad hb t16.2.2 t16.1 o ho _) rfl rfl (Nat.le_of_ble_eq_true rfl) d_Se_follow_25 ⟨Nat.zero_le _, Nat.zero_le _⟩) M (fun v2 H locs h M => ?_)
      refine lv_istore (lv' := [(6, .int v2), (5, .int t16.2.1), (4, .int v1), (3, .int t16.1), (0, .ref (ad b)), (1, .int x1), (2, .ref (ad w2))]) S.1 S.2.1 d_Se_follow_28 hl (by decide) rfl (fun ls hl => ?_)
      refine lv_iload S.1 S.2.1 d_Se_follow_30 (lv_at hl 0 rfl) ?_
      refine lv_iconst (v := (-1)) S.1 S.2.1 d_Se_follow_32 (by decide) ?_
      refine m_ine (tgt := 37) S d_Se_follow_33 (by decide) h (fun h => ?_) (fun h => ?_)
      · refine lv_aload_n S.1 S.2.1 d_Se_follow_37 rfl (lv_at hl 6 rfl) ?_
        refine lv_iload S.1 S.2.1 d_Se_follow_38 (lv_at hl 0 rfl) ?_
        refine lv_aload_n S.1 S.2.1 d_Se_follow_40 rfl (lv_at hl 4 rfl) ?_
        refine m_gs (t := 1) S M (j := 0) ok_Se (lt_S0 hb) (tb_S0 hb) (by decide) rfl kw_46 rfl d_Se_follow_41 ?_
        refine m_gs (t := 4) S M (j := 2) ok_Gr (by decide) rfl (by decide) rfl kw_73 rfl d_Se_follow_44 ?_
        refine lv_iload S.1 S.2.1 d_Se_follow_47 (lv_at hl 0 rfl) ?_
        refine m_ial (t0 := 0) S M (by decide) rfl rfl h d_Se_follow_49 (fun h => ?_)
        refine m_xv h (fun o ho => m_rV (As := [.int v2, .int (t16.2.2.1 4 v2.toNatClampNeg)]) (rest := []) S M hl.1 (cwG (n := 2) S.2.2.2.2 kw_125 kw_126 kw_127 kw_128 kw_129 (by decide) ⟨Nat.le_of_ble_eq_true rfl, Nat.le_of_ble_eq_true rfl⟩) ok_Wy (lt_Y0 hw2) (tb_Y0 hw2) (c_Wy_add l D cA ad hw2 t16.2.2 v2 (t16.2.2.1 4 v2.toNatClampNeg) o ho _) rfl rfl (Nat.le_of_ble_eq_true rfl) d_Se_follow_50 ⟨Nat.zero_le _, Nat.zero_le _⟩) M (fun σ3 H locs h M => ?_)
        refine lv_aload_n S.1 S.2.1 d_Se_follow_53 rfl (lv_at hl 4 rfl) ?_
        refine lv_iload S.1 S.2.1 d_Se_follow_54 (lv_at hl 0 rfl) ?_
        refine m_xip h (fun o ho => m_rV (As := [.int v2]) (rest := []) S M hl.1 (cwG (n := 1) S.2.2.2.2 kw_80 kw_81 kw_82 kw_51 kw_83 (by decide) ⟨Nat.le_of_ble_eq_true rfl, Nat.le_of_ble_eq_true rfl⟩) ok_Se (lt_S0 hb) (tb_S0 hb) (c_Se_startOf l D cA ad hb σ3 v2 o ho _) rfl rfl (Nat.le_of_ble_eq_true rfl) d_Se_follow_56 ⟨Nat.zero_le _, Nat.zero_le _⟩) M (fun v4 H locs h M => ?_)
        refine lv_istore_n (lv' := [(3, .int v4), (6, .int v2), (5, .int t16.2.1), (4, .int v1), (0, .ref (ad b)), (1, .int x1), (2, .ref (ad w2))]) S.1 S.2.1 d_Se_follow_59 rfl hl (by decide) rfl (fun ls hl => ?_)
        refine lv_iinc (v := t16.2.1 + 1) (lv' := [(5, .int (t16.2.1 + 1)), (3, .int v4), (6, .int v2), (4, .int v1), (0, .ref (ad b)), (1, .int x1), (2, .ref (ad w2))]) S.1 S.2.1 d_Se_follow_60 hl (k := 2) rfl rfl (by decide) rfl (fun ls hl => ?_)
        refine lv_goto (tgt := 16) S.1 S.2.1 d_Se_follow_63 (by decide) ?_
        exact K1 _ (Option.some.inj h).symm ls _ _ (lv_sub hl [0, 3, 1, 4, 5, 6] rfl) M
      · exact K3 _ (Option.some.inj h).symm _ ls _ _ d_Se_follow_36 M
  · intro e16 q ls H locs hl M
    subst q
    dsimp only [Sum.elim_inl] at h
    subst hQ; exact m_vret S hr hlk M (Option.some.inj h) d_Se_follow_66
  · intro y16 q
    subst q
    dsimp only [Sum.elim_inr] at h
    intro pc ls H locs hd M
    subst hQ; exact m_vret S hr hlk M (Option.some.inj h) hd
