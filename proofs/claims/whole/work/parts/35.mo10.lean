theorem d_Mo_missed_0 : decode prog_12_method_50_code 0 = .ok (.aload_n 0, 1) := by decide +kernel
theorem d_Mo_missed_1 : decode prog_12_method_50_code 1 = .ok (.iload_n 1, 1) := by decide +kernel
theorem d_Mo_missed_2 : decode prog_12_method_50_code 2 = .ok (.invokevirtual 94, 3) := by decide +kernel
theorem d_Mo_missed_5 : decode prog_12_method_50_code 5 = .ok (.ifCond .eq 16, 3) := by decide +kernel
theorem d_Mo_missed_8 : decode prog_12_method_50_code 8 = .ok (.aload_n 0, 1) := by decide +kernel
theorem d_Mo_missed_9 : decode prog_12_method_50_code 9 = .ok (.iload_n 2, 1) := by decide +kernel
theorem d_Mo_missed_10 : decode prog_12_method_50_code 10 = .ok (.invokevirtual 94, 3) := by decide +kernel
theorem d_Mo_missed_13 : decode prog_12_method_50_code 13 = .ok (.ifCond .eq 8, 3) := by decide +kernel
theorem d_Mo_missed_16 : decode prog_12_method_50_code 16 = .ok (.iload_n 1, 1) := by decide +kernel
theorem d_Mo_missed_17 : decode prog_12_method_50_code 17 = .ok (.iload_n 2, 1) := by decide +kernel
theorem d_Mo_missed_18 : decode prog_12_method_50_code 18 = .ok (.if_icmp .ne 5, 3) := by decide +kernel
theorem d_Mo_missed_21 : decode prog_12_method_50_code 21 = .ok (.iconst (-1), 1) := by decide +kernel
theorem d_Mo_missed_22 : decode prog_12_method_50_code 22 = .ok (.ireturn, 1) := by decide +kernel
theorem d_Mo_missed_23 : decode prog_12_method_50_code 23 = .ok (.aload_n 0, 1) := by decide +kernel
theorem d_Mo_missed_24 : decode prog_12_method_50_code 24 = .ok (.iload_n 1, 1) := by decide +kernel
theorem d_Mo_missed_25 : decode prog_12_method_50_code 25 = .ok (.iload_n 2, 1) := by decide +kernel
theorem d_Mo_missed_26 : decode prog_12_method_50_code 26 = .ok (.iconst (-1), 1) := by decide +kernel
theorem d_Mo_missed_27 : decode prog_12_method_50_code 27 = .ok (.invokevirtual 193, 3) := by decide +kernel
theorem d_Mo_missed_30 : decode prog_12_method_50_code 30 = .ok (.istore_n 3, 1) := by decide +kernel
theorem d_Mo_missed_31 : decode prog_12_method_50_code 31 = .ok (.bipush (-3), 2) := by decide +kernel
theorem d_Mo_missed_33 : decode prog_12_method_50_code 33 = .ok (.istore 4, 2) := by decide +kernel
theorem d_Mo_missed_35 : decode prog_12_method_50_code 35 = .ok (.iload_n 3, 1) := by decide +kernel
theorem d_Mo_missed_36 : decode prog_12_method_50_code 36 = .ok (.istore 5, 2) := by decide +kernel
theorem d_Mo_missed_38 : decode prog_12_method_50_code 38 = .ok (.iconst 0, 1) := by decide +kernel
theorem d_Mo_missed_39 : decode prog_12_method_50_code 39 = .ok (.istore 6, 2) := by decide +kernel
theorem d_Mo_missed_41 : decode prog_12_method_50_code 41 = .ok (.iload 6, 2) := by decide +kernel
theorem d_Mo_missed_43 : decode prog_12_method_50_code 43 = .ok (.aload_n 0, 1) := by decide +kernel
theorem d_Mo_missed_44 : decode prog_12_method_50_code 44 = .ok (.getfield 88, 3) := by decide +kernel
theorem d_Mo_missed_47 : decode prog_12_method_50_code 47 = .ok (.if_icmp .ge 54, 3) := by decide +kernel
theorem d_Mo_missed_50 : decode prog_12_method_50_code 50 = .ok (.iload_n 3, 1) := by decide +kernel
theorem d_Mo_missed_51 : decode prog_12_method_50_code 51 = .ok (.ldc 102, 2) := by decide +kernel
theorem d_Mo_missed_53 : decode prog_12_method_50_code 53 = .ok (.if_icmp .ge 48, 3) := by decide +kernel
theorem d_Mo_missed_56 : decode prog_12_method_50_code 56 = .ok (.aload_n 0, 1) := by decide +kernel
theorem d_Mo_missed_57 : decode prog_12_method_50_code 57 = .ok (.getfield 25, 3) := by decide +kernel
theorem d_Mo_missed_60 : decode prog_12_method_50_code 60 = .ok (.iload 6, 2) := by decide +kernel
theorem d_Mo_missed_62 : decode prog_12_method_50_code 62 = .ok (.baload, 1) := by decide +kernel
theorem d_Mo_missed_63 : decode prog_12_method_50_code 63 = .ok (.ifCond .eq 14, 3) := by decide +kernel
theorem d_Mo_missed_66 : decode prog_12_method_50_code 66 = .ok (.aload_n 0, 1) := by decide +kernel
theorem d_Mo_missed_67 : decode prog_12_method_50_code 67 = .ok (.iload_n 1, 1) := by decide +kernel
theorem d_Mo_missed_68 : decode prog_12_method_50_code 68 = .ok (.iload_n 2, 1) := by decide +kernel
theorem d_Mo_missed_69 : decode prog_12_method_50_code 69 = .ok (.iload 6, 2) := by decide +kernel
theorem d_Mo_missed_71 : decode prog_12_method_50_code 71 = .ok (.invokevirtual 193, 3) := by decide +kernel
theorem d_Mo_missed_74 : decode prog_12_method_50_code 74 = .ok (.goto 4, 3) := by decide +kernel
theorem d_Mo_missed_77 : decode prog_12_method_50_code 77 = .ok (.iload_n 3, 1) := by decide +kernel
theorem d_Mo_missed_78 : decode prog_12_method_50_code 78 = .ok (.istore 7, 2) := by decide +kernel
theorem d_Mo_missed_80 : decode prog_12_method_50_code 80 = .ok (.iload 7, 2) := by decide +kernel
theorem d_Mo_missed_82 : decode prog_12_method_50_code 82 = .ok (.iload 5, 2) := by decide +kernel
theorem d_Mo_missed_84 : decode prog_12_method_50_code 84 = .ok (.if_icmp .le 11, 3) := by decide +kernel
theorem d_Mo_missed_87 : decode prog_12_method_50_code 87 = .ok (.iload 7, 2) := by decide +kernel
theorem d_Mo_missed_89 : decode prog_12_method_50_code 89 = .ok (.istore 5, 2) := by decide +kernel
theorem d_Mo_missed_91 : decode prog_12_method_50_code 91 = .ok (.iload 6, 2) := by decide +kernel
theorem d_Mo_missed_93 : decode prog_12_method_50_code 93 = .ok (.istore 4, 2) := by decide +kernel
theorem d_Mo_missed_95 : decode prog_12_method_50_code 95 = .ok (.iinc 6 1, 3) := by decide +kernel
theorem d_Mo_missed_98 : decode prog_12_method_50_code 98 = .ok (.goto (-57), 3) := by decide +kernel
theorem d_Mo_missed_101 : decode prog_12_method_50_code 101 = .ok (.iload 4, 2) := by decide +kernel
theorem d_Mo_missed_103 : decode prog_12_method_50_code 103 = .ok (.ireturn, 1) := by decide +kernel
def rm_Mo_missed : Room := { frames := 2, cells := 0, slots := 0, locals := 50 }
def f_Mo_missed_J78 (t41 : Int32 × Int32 × Int32 × mS) (j4 : Int32) (σ5 : mS) : Option ((Int32 × Int32 × Int32 × mS) ⊕ (Int32 × Int32 × Int32 × mS)) :=
  if j4 ≤ t41.2.1 then (
  some (.inl (t41.1, t41.2.1, t41.2.2.1 + 1, σ5))) else (
  some (.inl (t41.2.2.1, j4, t41.2.2.1 + 1, σ5)))
def f_Mo_missed_L41 (x1 : Int32) (x2 : Int32) (o3 : Int32 × mS) : (Int32 × Int32 × Int32 × mS) → Option ((Int32 × Int32 × Int32 × mS) ⊕ (Int32 × Int32 × Int32 × mS)) := fun t41 =>
  if (t41.2.2.2.1 0 2) ≤ t41.2.2.1 then (
  some (.inr (t41.1, t41.2.1, t41.2.2.1, t41.2.2.2))) else (
  if 1000000000 ≤ o3.1 then (
  some (.inr (t41.1, t41.2.1, t41.2.2.1, t41.2.2.2))) else (
  gd (inb t41.2.2.1 40) (
  if (t41.2.2.2.1 6 t41.2.2.1.toNatClampNeg) = 0 then (
  f_Mo_missed_J78 t41 o3.1 t41.2.2.2) else (
  (f_Mo_lengthWithout t41.2.2.2 x1 x2 t41.2.2.1).bind fun o6 =>
  f_Mo_missed_J78 t41 o6.1 o6.2))))
def f_Mo_missed (σ : mS) (x1 : Int32) (x2 : Int32) : Option (Int32 × mS) :=
  (f_Mo_isNode σ x1).bind fun v1 =>
  if v1 = 0 then (
  some ((-1), σ)) else (
  (f_Mo_isNode σ x2).bind fun v2 =>
  if v2 = 0 then (
  some ((-1), σ)) else (
  if x1 = x2 then (
  some ((-1), σ)) else (
  (f_Mo_lengthWithout σ x1 x2 ((-1))).bind fun o3 =>
  (lpN (f_Mo_missed_L41 x1 x2 o3) fuB ((-3), o3.1, 0, o3.2)).bind fun u41 =>
  some (u41.1, u41.2.2.2))))
set_option maxHeartbeats 4000000 in
set_option maxRecDepth 100000 in
theorem c_Mo_missed (l : Launch) (D : va_G) (cA ad : Nat → Nat) (σ : mS) (x1 : Int32) (x2 : Int32) (o : Int32 × mS) (h : f_Mo_missed σ x1 x2 = some o) : mCi l ⟨"LeastPathsModel", "missed", "(II)I"⟩ (Cond.code ⟨"LeastPathsModel", "missed", "(II)I"⟩ prog_12_method_50_code 8 (Option.some Jvm.ClassFile.FieldType.int) :: tlG) rm_Mo_missed D clX (tyK cA) 23 (tbY cA) ad σ [.ref (ad 0), .int x1, .int x2] o := by
  intro sz
  refine m_of (cc := prog_12_method_50_code) (maxL := 8) (Qc := mQi D clX (tyK cA) 23 (tbY cA) ad o) (by decide) (Nat.le_of_ble_eq_true rfl) (fun p e s m args below meth c ls S hr hlk hnm hl M => ?_) sz
  have hl : lv_has ls 8 [(0, .ref (ad 0)), (1, .int x1), (2, .int x2)] := hl
  generalize hQ : MQ _ _ _ _ _ _ _ = Q
  skip
  unfold f_Mo_missed at h
  refine lv_aload_n S.1 S.2.1 d_Mo_missed_0 rfl (lv_at hl 0 rfl) ?_
  refine lv_iload_n S.1 S.2.1 d_Mo_missed_1 rfl (lv_at hl 1 rfl) ?_
  refine m_xip h (fun o ho => m_rV (As := [.int x1]) (rest := []) S M hl.1 (cwG (n := 1) S.2.2.2.2 kw_393 kw_394 kw_395 kw_391 kw_396 (by decide) ⟨Nat.le_of_ble_eq_true rfl, Nat.le_of_ble_eq_true rfl⟩) ok_Mo (by decide) rfl (c_Mo_isNode l D cA ad σ x1 o ho _) rfl rfl (Nat.le_of_ble_eq_true rfl) d_Mo_missed_2 ⟨Nat.zero_le _, Nat.zero_le _⟩) M (fun v1 H locs h M => ?_)
  refine m_ifeq (tgt := 21) S d_Mo_missed_5 (by decide) h (fun h => ?_) (fun h => ?_)
  · refine lv_iconst (v := (-1)) S.1 S.2.1 d_Mo_missed_21 (by decide) ?_
    subst hQ; exact m_iret S hr hlk M (Option.some.inj h) d_Mo_missed_22
  · refine lv_aload_n S.1 S.2.1 d_Mo_missed_8 rfl (lv_at hl 0 rfl) ?_
    refine lv_iload_n S.1 S.2.1 d_Mo_missed_9 rfl (lv_at hl 2 rfl) ?_
    refine m_xip h (fun o ho => m_rV (As := [.int x2]) (rest := []) S M hl.1 (cwG (n := 1) S.2.2.2.2 kw_393 kw_394 kw_395 kw_391 kw_396 (by decide) ⟨Nat.le_of_ble_eq_true rfl, Nat.le_of_ble_eq_true rfl⟩) ok_Mo (by decide) rfl (c_Mo_isNode l D cA ad σ x2 o ho _) rfl rfl (Nat.le_of_ble_eq_true rfl) d_Mo_missed_10 ⟨Nat.zero_le _, Nat.zero_le _⟩) M (fun v2 H locs h M => ?_)
    refine m_ifeq (tgt := 21) S d_Mo_missed_13 (by decide) h (fun h => ?_) (fun h => ?_)
    · refine lv_iconst (v := (-1)) S.1 S.2.1 d_Mo_missed_21 (by decide) ?_
      subst hQ; exact m_iret S hr hlk M (Option.some.inj h) d_Mo_missed_22
    · refine lv_iload_n S.1 S.2.1 d_Mo_missed_16 rfl (lv_at hl 1 rfl) ?_
      refine lv_iload_n S.1 S.2.1 d_Mo_missed_17 rfl (lv_at hl 2 rfl) ?_
      refine m_ine (tgt := 23) S d_Mo_missed_18 (by decide) h (fun h => ?_) (fun h => ?_)
      · refine lv_aload_n S.1 S.2.1 d_Mo_missed_23 rfl (lv_at hl 0 rfl) ?_
        refine lv_iload_n S.1 S.2.1 d_Mo_missed_24 rfl (lv_at hl 1 rfl) ?_
        refine lv_iload_n S.1 S.2.1 d_Mo_missed_25 rfl (lv_at hl 2 rfl) ?_
        refine lv_iconst (v := (-1)) S.1 S.2.1 d_Mo_missed_26 (by decide) ?_
        refine m_xi h (fun o ho => m_rV (As := [.int x1, .int x2, .int ((-1))]) (rest := []) S M hl.1 (cwG (n := 3) S.2.2.2.2 kw_508 kw_509 kw_510 kw_391 kw_511 (by decide) ⟨Nat.le_of_ble_eq_true rfl, Nat.le_of_ble_eq_true rfl⟩) ok_Mo (by decide) rfl (c_Mo_lengthWithout l D cA ad σ x1 x2 ((-1)) o ho _) rfl rfl (Nat.le_of_ble_eq_true rfl) d_Mo_missed_27 ⟨Nat.zero_le _, Nat.zero_le _⟩) M (fun o3 H locs h M => ?_)
        refine lv_istore_n (lv' := [(3, .int o3.1), (0, .ref (ad 0)), (1, .int x1), (2, .int x2)]) S.1 S.2.1 d_Mo_missed_30 rfl hl (by decide) rfl (fun ls hl => ?_)
        refine lv_bipush (v := (-3)) S.1 S.2.1 d_Mo_missed_31 (by decide) ?_
        refine lv_istore (lv' := [(4, .int ((-3))), (3, .int o3.1), (0, .ref (ad 0)), (1, .int x1), (2, .int x2)]) S.1 S.2.1 d_Mo_missed_33 hl (by decide) rfl (fun ls hl => ?_)
        refine lv_iload_n S.1 S.2.1 d_Mo_missed_35 rfl (lv_at hl 1 rfl) ?_
        refine lv_istore (lv' := [(5, .int o3.1), (4, .int ((-3))), (3, .int o3.1), (0, .ref (ad 0)), (1, .int x1), (2, .int x2)]) S.1 S.2.1 d_Mo_missed_36 hl (by decide) rfl (fun ls hl => ?_)
        refine lv_iconst (v := 0) S.1 S.2.1 d_Mo_missed_38 (by decide) ?_
        refine lv_istore (lv' := [(6, .int 0), (5, .int o3.1), (4, .int ((-3))), (3, .int o3.1), (0, .ref (ad 0)), (1, .int x1), (2, .int x2)]) S.1 S.2.1 d_Mo_missed_39 hl (by decide) rfl (fun ls hl => ?_)
        obtain ⟨u41, q41, h⟩ := Option.bind_eq_some_iff.mp h
        refine lpN_W1 (st := f_Mo_missed_L41 x1 x2 o3) (fun (t41 : Int32 × Int32 × Int32 × mS) => ∀ (ls : Array Slot) (H : Heap) (locs : List Loc), lv_has ls 8 [(6, .int t41.2.2.1), (5, .int t41.2.1), (4, .int t41.1), (3, .int o3.1), (0, .ref (ad 0)), (1, .int x1), (2, .int x2)] → mM D clX (tyK cA) (mA 23 ad s.heap.size) s 23 (tbY cA) ad t41.2.2.2 H locs → W p l e rm_Mo_missed s m args below meth c H locs 0 0 Q (F0 m 41 ls [])) (fun (u41 : Int32 × Int32 × Int32 × mS) => ∀ (ls : Array Slot) (H : Heap) (locs : List Loc), lv_has ls 8 [(6, .int u41.2.2.1), (5, .int u41.2.1), (4, .int u41.1), (3, .int o3.1), (0, .ref (ad 0)), (1, .int x1), (2, .int x2)] → mM D clX (tyK cA) (mA 23 ad s.heap.size) s 23 (tbY cA) ad u41.2.2.2 H locs → W p l e rm_Mo_missed s m args below meth c H locs 0 0 Q (F0 m 101 ls [])) ?_ fuB (((-3), o3.1, 0, o3.2) : Int32 × Int32 × Int32 × mS) u41 q41 ?_ ls _ _ (lv_sub hl [0, 1, 2, 3, 4, 5, 6] rfl) M
        · intro t41 oo41 h K1 K2 ls H locs hl M
          unfold f_Mo_missed_L41 at h
          refine lv_iload S.1 S.2.1 d_Mo_missed_41 (lv_at hl 0 rfl) ?_
          refine lv_aload_n S.1 S.2.1 d_Mo_missed_43 rfl (lv_at hl 4 rfl) ?_
          refine m_gi S M (j := 2) ok_Mo (by decide) rfl (by decide) rfl kw_383 rfl d_Mo_missed_44 ?_
          refine m_ige (tgt := 101) S d_Mo_missed_47 (by decide) h (fun h => ?_) (fun h => ?_)
          · exact K2 _ (Option.some.inj h).symm ls _ _ (lv_sub hl [0, 1, 2, 3, 4, 5, 6] rfl) M
          · refine lv_iload_n S.1 S.2.1 d_Mo_missed_50 rfl (lv_at hl 3 rfl) ?_
            refine lv_ldc (v := 1000000000) S.1 S.2.1 S.2.2.2.1 (S.2.2.2.2 _ kw_408) d_Mo_missed_51 ?_
            refine m_ige (tgt := 101) S d_Mo_missed_53 (by decide) h (fun h => ?_) (fun h => ?_)
            · exact K2 _ (Option.some.inj h).symm ls _ _ (lv_sub hl [0, 1, 2, 3, 4, 5, 6] rfl) M
            · refine lv_aload_n S.1 S.2.1 d_Mo_missed_56 rfl (lv_at hl 4 rfl) ?_
              refine m_gs (t := 6) S M (j := 8) ok_Mo (by decide) rfl (by decide) rfl kw_384 rfl d_Mo_missed_57 ?_
              refine lv_iload S.1 S.2.1 d_Mo_missed_60 (lv_at hl 0 rfl) ?_
              refine m_zal (t0 := 2) S M (by decide) rfl rfl h d_Mo_missed_62 (fun h => ?_)
              have J78 : ∀ (j4 : Int32) (σ5 : mS) (ls : Array Slot) (H : Heap) (locs : List Loc), f_Mo_missed_J78 t41 j4 σ5 = some oo41 → lv_has ls 8 [(6, .int t41.2.2.1), (5, .int t41.2.1), (4, .int t41.1), (3, .int o3.1), (0, .ref (ad 0)), (1, .int x1), (2, .int x2)] → mM D clX (tyK cA) (mA 23 ad s.heap.size) s 23 (tbY cA) ad σ5 H locs → W p l e rm_Mo_missed s m args below meth c H locs 0 0 Q (F0 m 78 ls [.int j4]) := by
                intro j4 σ5 ls H locs h hl M
                unfold f_Mo_missed_J78 at h
                refine lv_istore (lv' := [(7, .int j4), (6, .int t41.2.2.1), (5, .int t41.2.1), (4, .int t41.1), (3, .int o3.1), (0, .ref (ad 0)), (1, .int x1), (2, .int x2)]) S.1 S.2.1 d_Mo_missed_78 hl (by decide) rfl (fun ls hl => ?_)
                refine lv_iload S.1 S.2.1 d_Mo_missed_80 (lv_at hl 0 rfl) ?_
                refine lv_iload S.1 S.2.1 d_Mo_missed_82 (lv_at hl 2 rfl) ?_
                refine m_ile (tgt := 95) S d_Mo_missed_84 (by decide) h (fun h => ?_) (fun h => ?_)
                · refine lv_iinc (v := t41.2.2.1 + 1) (lv' := [(6, .int (t41.2.2.1 + 1)), (7, .int j4), (5, .int t41.2.1), (4, .int t41.1), (3, .int o3.1), (0, .ref (ad 0)), (1, .int x1), (2, .int x2)]) S.1 S.2.1 d_Mo_missed_95 hl (k := 1) rfl rfl (by decide) rfl (fun ls hl => ?_)
                  refine lv_goto (tgt := 41) S.1 S.2.1 d_Mo_missed_98 (by decide) ?_
                  exact K1 _ (Option.some.inj h).symm ls _ _ (lv_sub hl [0, 2, 3, 4, 5, 6, 7] rfl) M
                · refine lv_iload S.1 S.2.1 d_Mo_missed_87 (lv_at hl 0 rfl) ?_
                  refine lv_istore (lv' := [(5, .int j4), (7, .int j4), (6, .int t41.2.2.1), (4, .int t41.1), (3, .int o3.1), (0, .ref (ad 0)), (1, .int x1), (2, .int x2)]) S.1 S.2.1 d_Mo_missed_89 hl (by decide) rfl (fun ls hl => ?_)
                  refine lv_iload S.1 S.2.1 d_Mo_missed_91 (lv_at hl 2 rfl) ?_
                  refine lv_istore (lv' := [(4, .int t41.2.2.1), (5, .int j4), (7, .int j4), (6, .int t41.2.2.1), (3, .int o3.1), (0, .ref (ad 0)), (1, .int x1), (2, .int x2)]) S.1 S.2.1 d_Mo_missed_93 hl (by decide) rfl (fun ls hl => ?_)
                  refine lv_iinc (v := t41.2.2.1 + 1) (lv' := [(6, .int (t41.2.2.1 + 1)), (4, .int t41.2.2.1), (5, .int j4), (7, .int j4), (3, .int o3.1), (0, .ref (ad 0)), (1, .int x1), (2, .int x2)]) S.1 S.2.1 d_Mo_missed_95 hl (k := 3) rfl rfl (by decide) rfl (fun ls hl => ?_)
                  refine lv_goto (tgt := 41) S.1 S.2.1 d_Mo_missed_98 (by decide) ?_
                  exact K1 _ (Option.some.inj h).symm ls _ _ (lv_sub hl [0, 2, 1, 4, 5, 6, 7] rfl) M
              refine m_ifeq (tgt := 77) S d_Mo_missed_63 (by decide) h (fun h => ?_) (fun h => ?_)
              · refine lv_iload_n S.1 S.2.1 d_Mo_missed_77 rfl (lv_at hl 3 rfl) ?_
                exact J78 _ _ ls _ _ h (lv_sub hl [0, 1, 2, 3, 4, 5, 6] rfl) M
              · refine lv_aload_n S.1 S.2.1 d_Mo_missed_66 rfl (lv_at hl 4 rfl) ?_
                refine lv_iload_n S.1 S.2.1 d_Mo_missed_67 rfl (lv_at hl 5 rfl) ?_
                refine lv_iload_n S.1 S.2.1 d_Mo_missed_68 rfl (lv_at hl 6 rfl) ?_
                refine lv_iload S.1 S.2.1 d_Mo_missed_69 (lv_at hl 0 rfl) ?_
                refine m_xi h (fun o ho => m_rV (As := [.int x1, .int x2, .int t41.2.2.1]) (rest := []) S M hl.1 (cwG (n := 3) S.2.2.2.2 kw_508 kw_509 kw_510 kw_391 kw_511 (by decide) ⟨Nat.le_of_ble_eq_true rfl, Nat.le_of_ble_eq_true rfl⟩) ok_Mo (by decide) rfl (c_Mo_lengthWithout l D cA ad t41.2.2.2 x1 x2 t41.2.2.1 o ho _) rfl rfl (Nat.le_of_ble_eq_true rfl) d_Mo_missed_71 ⟨Nat.zero_le _, Nat.zero_le _⟩) M (fun o6 H locs h M => ?_)
                refine lv_goto (tgt := 78) S.1 S.2.1 d_Mo_missed_74 (by decide) ?_
                exact J78 _ _ ls _ _ h (lv_sub hl [0, 1, 2, 3, 4, 5, 6] rfl) M
        · intro ls H locs hl M
          refine lv_iload S.1 S.2.1 d_Mo_missed_101 (lv_at hl 2 rfl) ?_
          subst hQ; exact m_iret S hr hlk M (Option.some.inj h) d_Mo_missed_103
      · refine lv_iconst (v := (-1)) S.1 S.2.1 d_Mo_missed_21 (by decide) ?_
        subst hQ; exact m_iret S hr hlk M (Option.some.inj h) d_Mo_missed_22
