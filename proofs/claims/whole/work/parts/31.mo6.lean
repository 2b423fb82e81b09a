theorem d_Mo_keep_0 : decode prog_12_method_38_code 0 = .ok (.aload_n 0, 1) := by decide +kernel
theorem d_Mo_keep_1 : decode prog_12_method_38_code 1 = .ok (.getfield 153, 3) := by decide +kernel
theorem d_Mo_keep_4 : decode prog_12_method_38_code 4 = .ok (.istore_n 1, 1) := by decide +kernel
theorem d_Mo_keep_5 : decode prog_12_method_38_code 5 = .ok (.iload_n 1, 1) := by decide +kernel
theorem d_Mo_keep_6 : decode prog_12_method_38_code 6 = .ok (.ifCond .le 85, 3) := by decide +kernel
theorem d_Mo_keep_9 : decode prog_12_method_38_code 9 = .ok (.aload_n 0, 1) := by decide +kernel
theorem d_Mo_keep_10 : decode prog_12_method_38_code 10 = .ok (.iload_n 1, 1) := by decide +kernel
theorem d_Mo_keep_11 : decode prog_12_method_38_code 11 = .ok (.iconst 1, 1) := by decide +kernel
theorem d_Mo_keep_12 : decode prog_12_method_38_code 12 = .ok (.isub, 1) := by decide +kernel
theorem d_Mo_keep_13 : decode prog_12_method_38_code 13 = .ok (.invokevirtual 156, 3) := by decide +kernel
theorem d_Mo_keep_16 : decode prog_12_method_38_code 16 = .ok (.ifCond .eq 75, 3) := by decide +kernel
theorem d_Mo_keep_19 : decode prog_12_method_38_code 19 = .ok (.aload_n 0, 1) := by decide +kernel
theorem d_Mo_keep_20 : decode prog_12_method_38_code 20 = .ok (.getfield 63, 3) := by decide +kernel
theorem d_Mo_keep_23 : decode prog_12_method_38_code 23 = .ok (.iload_n 1, 1) := by decide +kernel
theorem d_Mo_keep_24 : decode prog_12_method_38_code 24 = .ok (.aload_n 0, 1) := by decide +kernel
theorem d_Mo_keep_25 : decode prog_12_method_38_code 25 = .ok (.getfield 63, 3) := by decide +kernel
theorem d_Mo_keep_28 : decode prog_12_method_38_code 28 = .ok (.iload_n 1, 1) := by decide +kernel
theorem d_Mo_keep_29 : decode prog_12_method_38_code 29 = .ok (.iconst 1, 1) := by decide +kernel
theorem d_Mo_keep_30 : decode prog_12_method_38_code 30 = .ok (.isub, 1) := by decide +kernel
theorem d_Mo_keep_31 : decode prog_12_method_38_code 31 = .ok (.iaload, 1) := by decide +kernel
theorem d_Mo_keep_32 : decode prog_12_method_38_code 32 = .ok (.iastore, 1) := by decide +kernel
theorem d_Mo_keep_33 : decode prog_12_method_38_code 33 = .ok (.aload_n 0, 1) := by decide +kernel
theorem d_Mo_keep_34 : decode prog_12_method_38_code 34 = .ok (.getfield 66, 3) := by decide +kernel
theorem d_Mo_keep_37 : decode prog_12_method_38_code 37 = .ok (.iload_n 1, 1) := by decide +kernel
theorem d_Mo_keep_38 : decode prog_12_method_38_code 38 = .ok (.aload_n 0, 1) := by decide +kernel
theorem d_Mo_keep_39 : decode prog_12_method_38_code 39 = .ok (.getfield 66, 3) := by decide +kernel
theorem d_Mo_keep_42 : decode prog_12_method_38_code 42 = .ok (.iload_n 1, 1) := by decide +kernel
theorem d_Mo_keep_43 : decode prog_12_method_38_code 43 = .ok (.iconst 1, 1) := by decide +kernel
theorem d_Mo_keep_44 : decode prog_12_method_38_code 44 = .ok (.isub, 1) := by decide +kernel
theorem d_Mo_keep_45 : decode prog_12_method_38_code 45 = .ok (.iaload, 1) := by decide +kernel
theorem d_Mo_keep_46 : decode prog_12_method_38_code 46 = .ok (.iastore, 1) := by decide +kernel
theorem d_Mo_keep_47 : decode prog_12_method_38_code 47 = .ok (.iconst 0, 1) := by decide +kernel
theorem d_Mo_keep_48 : decode prog_12_method_38_code 48 = .ok (.istore_n 2, 1) := by decide +kernel
theorem d_Mo_keep_49 : decode prog_12_method_38_code 49 = .ok (.iload_n 2, 1) := by decide +kernel
theorem d_Mo_keep_50 : decode prog_12_method_38_code 50 = .ok (.bipush 10, 2) := by decide +kernel
theorem d_Mo_keep_52 : decode prog_12_method_38_code 52 = .ok (.if_icmp .ge 33, 3) := by decide +kernel
theorem d_Mo_keep_55 : decode prog_12_method_38_code 55 = .ok (.aload_n 0, 1) := by decide +kernel
theorem d_Mo_keep_56 : decode prog_12_method_38_code 56 = .ok (.getfield 69, 3) := by decide +kernel
theorem d_Mo_keep_59 : decode prog_12_method_38_code 59 = .ok (.bipush 10, 2) := by decide +kernel
theorem d_Mo_keep_61 : decode prog_12_method_38_code 61 = .ok (.iload_n 1, 1) := by decide +kernel
theorem d_Mo_keep_62 : decode prog_12_method_38_code 62 = .ok (.imul, 1) := by decide +kernel
theorem d_Mo_keep_63 : decode prog_12_method_38_code 63 = .ok (.iload_n 2, 1) := by decide +kernel
theorem d_Mo_keep_64 : decode prog_12_method_38_code 64 = .ok (.iadd, 1) := by decide +kernel
theorem d_Mo_keep_65 : decode prog_12_method_38_code 65 = .ok (.aload_n 0, 1) := by decide +kernel
theorem d_Mo_keep_66 : decode prog_12_method_38_code 66 = .ok (.getfield 69, 3) := by decide +kernel
theorem d_Mo_keep_69 : decode prog_12_method_38_code 69 = .ok (.bipush 10, 2) := by decide +kernel
theorem d_Mo_keep_71 : decode prog_12_method_38_code 71 = .ok (.iload_n 1, 1) := by decide +kernel
theorem d_Mo_keep_72 : decode prog_12_method_38_code 72 = .ok (.iconst 1, 1) := by decide +kernel
theorem d_Mo_keep_73 : decode prog_12_method_38_code 73 = .ok (.isub, 1) := by decide +kernel
theorem d_Mo_keep_74 : decode prog_12_method_38_code 74 = .ok (.imul, 1) := by decide +kernel
theorem d_Mo_keep_75 : decode prog_12_method_38_code 75 = .ok (.iload_n 2, 1) := by decide +kernel
theorem d_Mo_keep_76 : decode prog_12_method_38_code 76 = .ok (.iadd, 1) := by decide +kernel
theorem d_Mo_keep_77 : decode prog_12_method_38_code 77 = .ok (.iaload, 1) := by decide +kernel
theorem d_Mo_keep_78 : decode prog_12_method_38_code 78 = .ok (.iastore, 1) := by decide +kernel
theorem d_Mo_keep_79 : decode prog_12_method_38_code 79 = .ok (.iinc 2 1, 3) := by decide +kernel
theorem d_Mo_keep_82 : decode prog_12_method_38_code 82 = .ok (.goto (-33), 3) := by decide +kernel
theorem d_Mo_keep_85 : decode prog_12_method_38_code 85 = .ok (.iinc 1 (-1), 3) := by decide +kernel
theorem d_Mo_keep_88 : decode prog_12_method_38_code 88 = .ok (.goto (-83), 3) := by decide +kernel
theorem d_Mo_keep_91 : decode prog_12_method_38_code 91 = .ok (.aload_n 0, 1) := by decide +kernel
theorem d_Mo_keep_92 : decode prog_12_method_38_code 92 = .ok (.getfield 63, 3) := by decide +kernel
theorem d_Mo_keep_95 : decode prog_12_method_38_code 95 = .ok (.iload_n 1, 1) := by decide +kernel
theorem d_Mo_keep_96 : decode prog_12_method_38_code 96 = .ok (.aload_n 0, 1) := by decide +kernel
theorem d_Mo_keep_97 : decode prog_12_method_38_code 97 = .ok (.getfield 142, 3) := by decide +kernel
theorem d_Mo_keep_100 : decode prog_12_method_38_code 100 = .ok (.iastore, 1) := by decide +kernel
theorem d_Mo_keep_101 : decode prog_12_method_38_code 101 = .ok (.aload_n 0, 1) := by decide +kernel
theorem d_Mo_keep_102 : decode prog_12_method_38_code 102 = .ok (.getfield 66, 3) := by decide +kernel
theorem d_Mo_keep_105 : decode prog_12_method_38_code 105 = .ok (.iload_n 1, 1) := by decide +kernel
theorem d_Mo_keep_106 : decode prog_12_method_38_code 106 = .ok (.aload_n 0, 1) := by decide +kernel
theorem d_Mo_keep_107 : decode prog_12_method_38_code 107 = .ok (.getfield 139, 3) := by decide +kernel
theorem d_Mo_keep_110 : decode prog_12_method_38_code 110 = .ok (.iastore, 1) := by decide +kernel
theorem d_Mo_keep_111 : decode prog_12_method_38_code 111 = .ok (.iconst 0, 1) := by decide +kernel
theorem d_Mo_keep_112 : decode prog_12_method_38_code 112 = .ok (.istore_n 2, 1) := by decide +kernel
theorem d_Mo_keep_113 : decode prog_12_method_38_code 113 = .ok (.iload_n 2, 1) := by decide +kernel
theorem d_Mo_keep_114 : decode prog_12_method_38_code 114 = .ok (.aload_n 0, 1) := by decide +kernel
theorem d_Mo_keep_115 : decode prog_12_method_38_code 115 = .ok (.getfield 139, 3) := by decide +kernel
theorem d_Mo_keep_118 : decode prog_12_method_38_code 118 = .ok (.if_icmp .ge 26, 3) := by decide +kernel
theorem d_Mo_keep_121 : decode prog_12_method_38_code 121 = .ok (.aload_n 0, 1) := by decide +kernel
theorem d_Mo_keep_122 : decode prog_12_method_38_code 122 = .ok (.getfield 69, 3) := by decide +kernel
theorem d_Mo_keep_125 : decode prog_12_method_38_code 125 = .ok (.bipush 10, 2) := by decide +kernel
theorem d_Mo_keep_127 : decode prog_12_method_38_code 127 = .ok (.iload_n 1, 1) := by decide +kernel
theorem d_Mo_keep_128 : decode prog_12_method_38_code 128 = .ok (.imul, 1) := by decide +kernel
theorem d_Mo_keep_129 : decode prog_12_method_38_code 129 = .ok (.iload_n 2, 1) := by decide +kernel
theorem d_Mo_keep_130 : decode prog_12_method_38_code 130 = .ok (.iadd, 1) := by decide +kernel
theorem d_Mo_keep_131 : decode prog_12_method_38_code 131 = .ok (.aload_n 0, 1) := by decide +kernel
theorem d_Mo_keep_132 : decode prog_12_method_38_code 132 = .ok (.getfield 50, 3) := by decide +kernel
theorem d_Mo_keep_135 : decode prog_12_method_38_code 135 = .ok (.iload_n 2, 1) := by decide +kernel
theorem d_Mo_keep_136 : decode prog_12_method_38_code 136 = .ok (.iaload, 1) := by decide +kernel
theorem d_Mo_keep_137 : decode prog_12_method_38_code 137 = .ok (.iastore, 1) := by decide +kernel
theorem d_Mo_keep_138 : decode prog_12_method_38_code 138 = .ok (.iinc 2 1, 3) := by decide +kernel
theorem d_Mo_keep_141 : decode prog_12_method_38_code 141 = .ok (.goto (-28), 3) := by decide +kernel
theorem d_Mo_keep_144 : decode prog_12_method_38_code 144 = .ok (.aload_n 0, 1) := by decide +kernel
theorem d_Mo_keep_145 : decode prog_12_method_38_code 145 = .ok (.aload_n 0, 1) := by decide +kernel
theorem d_Mo_keep_146 : decode prog_12_method_38_code 146 = .ok (.getfield 153, 3) := by decide +kernel
theorem d_Mo_keep_149 : decode prog_12_method_38_code 149 = .ok (.bipush 30, 2) := by decide +kernel
theorem d_Mo_keep_151 : decode prog_12_method_38_code 151 = .ok (.if_icmp .ge 12, 3) := by decide +kernel
theorem d_Mo_keep_154 : decode prog_12_method_38_code 154 = .ok (.aload_n 0, 1) := by decide +kernel
theorem d_Mo_keep_155 : decode prog_12_method_38_code 155 = .ok (.getfield 153, 3) := by decide +kernel
theorem d_Mo_keep_158 : decode prog_12_method_38_code 158 = .ok (.iconst 1, 1) := by decide +kernel
theorem d_Mo_keep_159 : decode prog_12_method_38_code 159 = .ok (.iadd, 1) := by decide +kernel
theorem d_Mo_keep_160 : decode prog_12_method_38_code 160 = .ok (.goto 5, 3) := by decide +kernel
theorem d_Mo_keep_163 : decode prog_12_method_38_code 163 = .ok (.bipush 30, 2) := by decide +kernel
theorem d_Mo_keep_165 : decode prog_12_method_38_code 165 = .ok (.putfield 153, 3) := by decide +kernel
theorem d_Mo_keep_168 : decode prog_12_method_38_code 168 = .ok (.return_, 1) := by decide +kernel
def rm_Mo_keep : Room := { frames := 1, cells := 0, slots := 0, locals := 22 }
def f_Mo_keep_L49 (t5 : Int32 × mS) : (Int32 × mS) → Option ((Int32 × mS) ⊕ (Int32 × mS)) := fun t49 =>
  if 10 ≤ t49.1 then (
  some (.inr (t49.1, t49.2))) else (
  gd (inb ((10 * (t5.1 - 1)) + t49.1) 310) (
  gd (inb ((10 * t5.1) + t49.1) 310) ((nm (sI t49.2 19 ((10 * t5.1) + t49.1).toNatClampNeg (t49.2.1 19 ((10 * (t5.1 - 1)) + t49.1).toNatClampNeg)) fun σ5 =>
  some (.inl (t49.1 + 1, σ5))))))
def f_Mo_keep_L5 : (Int32 × mS) → Option ((Int32 × mS) ⊕ (Int32 × mS)) := fun t5 =>
  if t5.1 ≤ 0 then (
  some (.inr (t5.1, t5.2))) else (
  (f_Mo_isAhead t5.2 (t5.1 - 1)).bind fun v2 =>
  if v2 = 0 then (
  some (.inr (t5.1, t5.2))) else (
  gd (inb (t5.1 - 1) 31) (
  gd (inb t5.1 31) ((nm (sI t5.2 17 t5.1.toNatClampNeg (t5.2.1 17 (t5.1 - 1).toNatClampNeg)) fun σ3 =>
  gd (inb (t5.1 - 1) 31) (
  gd (inb t5.1 31) ((nm (sI σ3 18 t5.1.toNatClampNeg (σ3.1 18 (t5.1 - 1).toNatClampNeg)) fun σ4 =>
  (lpN (f_Mo_keep_L49 t5) fuB (0, σ4)).bind fun u49 =>
  some (.inl (t5.1 + (-1), u49.2))))))))))
def f_Mo_keep_L113 (u5 : Int32 × mS) : (Int32 × mS) → Option ((Int32 × mS) ⊕ (Int32 × mS)) := fun t113 =>
  if (t113.2.1 0 19) ≤ t113.1 then (
  some (.inr (t113.1, t113.2))) else (
  gd (inb t113.1 12) (
  gd (inb ((10 * u5.1) + t113.1) 310) ((nm (sI t113.2 19 ((10 * u5.1) + t113.1).toNatClampNeg (t113.2.1 14 t113.1.toNatClampNeg)) fun σ8 =>
  some (.inl (t113.1 + 1, σ8))))))
def f_Mo_keep (σ : mS) : Option (mS) :=
  nm (σ.1 0 23) fun v1 =>
  (lpN (f_Mo_keep_L5) fuB (v1, σ)).bind fun u5 =>
  gd (inb u5.1 31) ((nm (sI u5.2 17 u5.1.toNatClampNeg (u5.2.1 0 20)) fun σ6 =>
  gd (inb u5.1 31) ((nm (sI σ6 18 u5.1.toNatClampNeg (σ6.1 0 19)) fun σ7 =>
  (lpN (f_Mo_keep_L113 u5) fuB (0, σ7)).bind fun u113 =>
  if 30 ≤ (u113.2.1 0 23) then (
  nm (sI u113.2 0 23 30) fun σ9 =>
  some σ9) else (
  nm (sI u113.2 0 23 ((u113.2.1 0 23) + 1)) fun σ10 =>
  some σ10)))))
set_option maxHeartbeats 4000000 in
set_option maxRecDepth 100000 in
theorem c_Mo_keep (l : Launch) (D : va_G) (cA ad : Nat → Nat) (σ : mS) (o : mS) (h : f_Mo_keep σ = some o) : mCv l ⟨"LeastPathsModel", "keep", "()V"⟩ (Cond.code ⟨"LeastPathsModel", "keep", "()V"⟩ prog_12_method_38_code 3 (Option.none : Option Jvm.ClassFile.FieldType) :: tlG) rm_Mo_keep D clX (tyK cA) 23 (tbY cA) ad σ [.ref (ad 0)] o := by
  intro sz
  refine m_of (cc := prog_12_method_38_code) (maxL := 3) (Qc := mQv D clX (tyK cA) 23 (tbY cA) ad o) (by decide) (Nat.le_of_ble_eq_true rfl) (fun p e s m args below meth c ls S hr hlk hnm hl M => ?_) sz
  have hl : lv_has ls 3 [(0, .ref (ad 0))] := hl
  generalize hQ : MQ _ _ _ _ _ _ _ = Q
  skip
  unfold f_Mo_keep at h
  refine lv_aload_n S.1 S.2.1 d_Mo_keep_0 rfl (lv_at hl 0 rfl) ?_
  refine m_gi S M (j := 23) ok_Mo (by decide) rfl (by decide) rfl kw_469 rfl d_Mo_keep_1 ?_
  refine m_ni h (fun v1 h => ?_)
  refine lv_istore_n (lv' := [(1, .int v1), (0, .ref (ad 0))]) S.1 S.2.1 d_Mo_keep_4 rfl hl (by decide) rfl (fun ls hl => ?_)
  obtain ⟨u5, q5, h⟩ := Option.bind_eq_some_iff.mp h
  refine lpN_W1 (st := f_Mo_keep_L5) (fun (t5 : Int32 × mS) => ∀ (ls : Array Slot) (H : Heap) (locs : List Loc), lv_has ls 3 [(1, .int t5.1), (0, .ref (ad 0))] → mM D clX (tyK cA) (mA 23 ad s.heap.size) s 23 (tbY cA) ad t5.2 H locs → W p l e rm_Mo_keep s m args below meth c H locs 0 0 Q (F0 m 5 ls [])) (fun (u5 : Int32 × mS) => ∀ (ls : Array Slot) (H : Heap) (locs : List Loc), lv_has ls 3 [(1, .int u5.1), (0, .ref (ad 0))] → mM D clX (tyK cA) (mA 23 ad s.heap.size) s 23 (tbY cA) ad u5.2 H locs → W p l e rm_Mo_keep s m args below meth c H locs 0 0 Q (F0 m 91 ls [])) ?_ fuB ((v1, σ) : Int32 × mS) u5 q5 ?_ ls _ _ (lv_sub hl [0, 1] rfl) M
  · intro t5 oo5 h K1 K2 ls H locs hl M
    unfold f_Mo_keep_L5 at h
    refine lv_iload_n S.1 S.2.1 d_Mo_keep_5 rfl (lv_at hl 0 rfl) ?_
    refine m_ifle (tgt := 91) S d_Mo_keep_6 (by decide) h (fun h => ?_) (fun h => ?_)
    · exact K2 _ (Option.some.inj h).symm ls _ _ (lv_sub hl [0, 1] rfl) M
    · refine lv_aload_n S.1 S.2.1 d_Mo_keep_9 rfl (lv_at hl 1 rfl) ?_
      refine lv_iload_n S.1 S.2.1 d_Mo_keep_10 rfl (lv_at hl 0 rfl) ?_
      refine lv_iconst (v := 1) S.1 S.2.1 d_Mo_keep_11 (by decide) ?_
      refine lv_isub S.1 S.2.1 d_Mo_keep_12 ?_
      refine m_xip h (fun o ho => m_rV (As := [.int (t5.1 - 1)]) (rest := []) S M hl.1 (cwG (n := 1) S.2.2.2.2 kw_470 kw_471 kw_472 kw_391 kw_473 (by decide) ⟨Nat.le_of_ble_eq_true rfl, Nat.le_of_ble_eq_true rfl⟩) ok_Mo (by decide) rfl (c_Mo_isAhead l D cA ad t5.2 (t5.1 - 1) o ho _) rfl rfl (Nat.le_of_ble_eq_true rfl) d_Mo_keep_13 ⟨Nat.zero_le _, Nat.zero_le _⟩) M (fun v2 H locs h M => ?_)
      refine m_ifeq (tgt := 91) S d_Mo_keep_16 (by decide) h (fun h => ?_) (fun h => ?_)
      · exact K2 _ (Option.some.inj h).symm ls _ _ (lv_sub hl [0, 1] rfl) M
      · refine lv_aload_n S.1 S.2.1 d_Mo_keep_19 rfl (lv_at hl 1 rfl) ?_
        refine m_gs (t := 17) S M (j := 24) ok_Mo (by decide) rfl (by decide) rfl kw_466 rfl d_Mo_keep_20 ?_
        refine lv_iload_n S.1 S.2.1 d_Mo_keep_23 rfl (lv_at hl 0 rfl) ?_
        refine lv_aload_n S.1 S.2.1 d_Mo_keep_24 rfl (lv_at hl 1 rfl) ?_
        refine m_gs (t := 17) S M (j := 24) ok_Mo (by decide) rfl (by decide) rfl kw_466 rfl d_Mo_keep_25 ?_
        refine lv_iload_n S.1 S.2.1 d_Mo_keep_28 rfl (lv_at hl 0 rfl) ?_
        refine lv_iconst (v := 1) S.1 S.2.1 d_Mo_keep_29 (by decide) ?_
        refine lv_isub S.1 S.2.1 d_Mo_keep_30 ?_
        refine m_ial (t0 := 0) S M (by decide) rfl rfl h d_Mo_keep_31 (fun h => ?_)
        refine m_ias (t0 := 0) S M (by decide) rfl rfl h d_Mo_keep_32 (fun σ3 H locs h M => ?_)
        refine lv_aload_n S.1 S.2.1 d_Mo_keep_33 rfl (lv_at hl 1 rfl) ?_
        refine m_gs (t := 18) S M (j := 25) ok_Mo (by decide) rfl (by decide) rfl kw_467 rfl d_Mo_keep_34 ?_
        refine lv_iload_n S.1 S.2.1 d_Mo_keep_37 rfl (lv_at hl 0 rfl) ?_
        refine lv_aload_n S.1 S.2.1 d_Mo_keep_38 rfl (lv_at hl 1 rfl) ?_
        refine m_gs (t := 18) S M (j := 25) ok_Mo (by decide) rfl (by decide) rfl kw_467 rfl d_Mo_keep_39 ?_
        refine lv_iload_n S.1 S.2.1 d_Mo_keep_42 rfl (lv_at hl 0 rfl) ?_
        refine lv_iconst (v := 1) S.1 S.2.1 d_Mo_keep_43 (by decide) ?_
        refine lv_isub S.1 S.2.1 d_Mo_keep_44 ?_
        refine m_ial (t0 := 0) S M (by decide) rfl rfl h d_Mo_keep_45 (fun h => ?_)
        refine m_ias (t0 := 0) S M (by decide) rfl rfl h d_Mo_keep_46 (fun σ4 H locs h M => ?_)
        refine lv_iconst (v := 0) S.1 S.2.1 d_Mo_keep_47 (by decide) ?_
        refine lv_istore_n (lv' := [(2, .int 0), (1, .int t5.1), (0, .ref (ad 0))]) S.1 S.2.1 d_Mo_keep_48 rfl hl (by decide) rfl (fun ls hl => ?_)
        obtain ⟨u49, q49, h⟩ := Option.bind_eq_some_iff.mp h
        refine lpN_W1 (st := f_Mo_keep_L49 t5) (fun (t49 : Int32 × mS) => ∀ (ls : Array Slot) (H : Heap) (locs : List Loc), lv_has ls 3 [(2, .int t49.1), (1, .int t5.1), (0, .ref (ad 0))] → mM D clX (tyK cA) (mA 23 ad s.heap.size) s 23 (tbY cA) ad t49.2 H locs → W p l e rm_Mo_keep s m args below meth c H locs 0 0 Q (F0 m 49 ls [])) (fun (u49 : Int32 × mS) => ∀ (ls : Array Slot) (H : Heap) (locs : List Loc), lv_has ls 3 [(2, .int u49.1), (1, .int t5.1), (0, .ref (ad 0))] → mM D clX (tyK cA) (mA 23 ad s.heap.size) s 23 (tbY cA) ad u49.2 H locs → W p l e rm_Mo_keep s m args below meth c H locs 0 0 Q (F0 m 85 ls [])) ?_ fuB ((0, σ4) : Int32 × mS) u49 q49 ?_ ls _ _ (lv_sub hl [0, 1, 2] rfl) M
        · intro t49 oo49 h K1 K2 ls H locs hl M
          unfold f_Mo_keep_L49 at h
          refine lv_iload_n S.1 S.2.1 d_Mo_keep_49 rfl (lv_at hl 0 rfl) ?_
          refine lv_bipush (v := 10) S.1 S.2.1 d_Mo_keep_50 (by decide) ?_
          refine m_ige (tgt := 85) S d_Mo_keep_52 (by decide) h (fun h => ?_) (fun h => ?_)
          · exact K2 _ (Option.some.inj h).symm ls _ _ (lv_sub hl [0, 1, 2] rfl) M
          · refine lv_aload_n S.1 S.2.1 d_Mo_keep_55 rfl (lv_at hl 2 rfl) ?_
            refine m_gs (t := 19) S M (j := 26) ok_Mo (by decide) rfl (by decide) rfl kw_468 rfl d_Mo_keep_56 ?_
            refine lv_bipush (v := 10) S.1 S.2.1 d_Mo_keep_59 (by decide) ?_
            refine lv_iload_n S.1 S.2.1 d_Mo_keep_61 rfl (lv_at hl 1 rfl) ?_
            refine lv_imul S.1 S.2.1 d_Mo_keep_62 ?_
            refine lv_iload_n S.1 S.2.1 d_Mo_keep_63 rfl (lv_at hl 0 rfl) ?_
            refine lv_iadd S.1 S.2.1 d_Mo_keep_64 ?_
            refine lv_aload_n S.1 S.2.1 d_Mo_keep_65 rfl (lv_at hl 2 rfl) ?_
            refine m_gs (t := 19) S M (j := 26) ok_Mo (by decide) rfl (by decide) rfl kw_468 rfl d_Mo_keep_66 ?_
            refine lv_bipush (v := 10) S.1 S.2.1 d_Mo_keep_69 (by decide) ?_
            refine lv_iload_n S.1 S.2.1 d_Mo_keep_71 rfl (lv_at hl 1 rfl) ?_
            refine lv_iconst (v := 1) S.1 S.2.1 d_Mo_keep_72 (by decide) ?_
            refine lv_isub S.1 S.2.1 d_Mo_keep_73 ?_
            refine lv_imul S.1 S.2.1 d_Mo_keep_74 ?_
            refine lv_iload_n S.1 S.2.1 d_Mo_keep_75 rfl (lv_at hl 0 rfl) ?_
            refine lv_iadd S.1 S.2.1 d_Mo_keep_76 ?_
            refine m_ial (t0 := 0) S M (by decide) rfl rfl h d_Mo_keep_77 (fun h => ?_)
            refine m_ias (t0 := 0) S M (by decide) rfl rfl h d_Mo_keep_78 (fun σ5 H locs h M => ?_)
            refine lv_iinc (v := t49.1 + 1) (lv' := [(2, .int (t49.1 + 1)), (1, .int t5.1), (0, .ref (ad 0))]) S.1 S.2.1 d_Mo_keep_79 hl (k := 0) rfl rfl (by decide) rfl (fun ls hl => ?_)
            refine lv_goto (tgt := 49) S.1 S.2.1 d_Mo_keep_82 (by decide) ?_
            exact K1 _ (Option.some.inj h).symm ls _ _ (lv_sub hl [0, 1, 2] rfl) M
        · intro ls H locs hl M
          refine lv_iinc (v := t5.1 + (-1)) (lv' := [(1, .int (t5.1 + (-1))), (2, .int u49.1), (0, .ref (ad 0))]) S.1 S.2.1 d_Mo_keep_85 hl (k := 1) rfl rfl (by decide) rfl (fun ls hl => ?_)
          refine lv_goto (tgt := 5) S.1 S.2.1 d_Mo_keep_88 (by decide) ?_
          exact K1 _ (Option.some.inj h).symm ls _ _ (lv_sub hl [0, 2] rfl) M
  · intro ls H locs hl M
    refine lv_aload_n S.1 S.2.1 d_Mo_keep_91 rfl (lv_at hl 1 rfl) ?_
    refine m_gs (t := 17) S M (j := 24) ok_Mo (by decide) rfl (by decide) rfl kw_466 rfl d_Mo_keep_92 ?_
    refine lv_iload_n S.1 S.2.1 d_Mo_keep_95 rfl (lv_at hl 0 rfl) ?_
    refine lv_aload_n S.1 S.2.1 d_Mo_keep_96 rfl (lv_at hl 1 rfl) ?_
    refine m_gi S M (j := 20) ok_Mo (by decide) rfl (by decide) rfl kw_454 rfl d_Mo_keep_97 ?_
    refine m_ias (t0 := 0) S M (by decide) rfl rfl h d_Mo_keep_100 (fun σ6 H locs h M => ?_)
    refine lv_aload_n S.1 S.2.1 d_Mo_keep_101 rfl (lv_at hl 1 rfl) ?_
    refine m_gs (t := 18) S M (j := 25) ok_Mo (by decide) rfl (by decide) rfl kw_467 rfl d_Mo_keep_102 ?_
    refine lv_iload_n S.1 S.2.1 d_Mo_keep_105 rfl (lv_at hl 0 rfl) ?_
    refine lv_aload_n S.1 S.2.1 d_Mo_keep_106 rfl (lv_at hl 1 rfl) ?_
    refine m_gi S M (j := 19) ok_Mo (by decide) rfl (by decide) rfl kw_453 rfl d_Mo_keep_107 ?_
    refine m_ias (t0 := 0) S M (by decide) rfl rfl h d_Mo_keep_110 (fun σ7 H locs h M => ?_)
    refine lv_iconst (v := 0) S.1 S.2.1 d_Mo_keep_111 (by decide) ?_
    refine lv_istore_n (lv' := [(2, .int 0), (1, .int u5.1), (0, .ref (ad 0))]) S.1 S.2.1 d_Mo_keep_112 rfl hl (by decide) rfl (fun ls hl => ?_)
    obtain ⟨u113, q113, h⟩ := Option.bind_eq_some_iff.mp h
    refine lpN_W1 (st := f_Mo_keep_L113 u5) (fun (t113 : Int32 × mS) => ∀ (ls : Array Slot) (H : Heap) (locs : List Loc), lv_has ls 3 [(2, .int t113.1), (1, .int u5.1), (0, .ref (ad 0))] → mM D clX (tyK cA) (mA 23 ad s.heap.size) s 23 (tbY cA) ad t113.2 H locs → W p l e rm_Mo_keep s m args below meth c H locs 0 0 Q (F0 m 113 ls [])) (fun (u113 : Int32 × mS) => ∀ (ls : Array Slot) (H : Heap) (locs : List Loc), lv_has ls 3 [(2, .int u113.1), (1, .int u5.1), (0, .ref (ad 0))] → mM D clX (tyK cA) (mA 23 ad s.heap.size) s 23 (tbY cA) ad u113.2 H locs → W p l e rm_Mo_keep s m args below meth c H locs 0 0 Q (F0 m 144 ls [])) ?_ fuB ((0, σ7) : Int32 × mS) u113 q113 ?_ ls _ _ (lv_sub hl [0, 1, 2] rfl) M
    · intro t113 oo113 h K1 K2 ls H locs hl M
      unfold f_Mo_keep_L113 at h
      refine lv_iload_n S.1 S.2.1 d_Mo_keep_113 rfl (lv_at hl 0 rfl) ?_
      refine lv_aload_n S.1 S.2.1 d_Mo_keep_114 rfl (lv_at hl 2 rfl) ?_
      refine m_gi S M (j := 19) ok_Mo (by decide) rfl (by decide) rfl kw_453 rfl d_Mo_keep_115 ?_
      refine m_ige (tgt := 144) S d_Mo_keep_118 (by decide) h (fun h => ?_) (fun h => ?_)
      · exact K2 _ (Option.some.inj h).symm ls _ _ (lv_sub hl [0, 1, 2] rfl) M
      · refine lv_aload_n S.1 S.2.1 d_Mo_keep_121 rfl (lv_at hl 2 rfl) ?_
        refine m_gs (t := 19) S M (j := 26) ok_Mo (by decide) rfl (by decide) rfl kw_468 rfl d_Mo_keep_122 ?_
        refine lv_bipush (v := 10) S.1 S.2.1 d_Mo_keep_125 (by decide) ?_
        refine lv_iload_n S.1 S.2.1 d_Mo_keep_127 rfl (lv_at hl 1 rfl) ?_
        refine lv_imul S.1 S.2.1 d_Mo_keep_128 ?_
        refine lv_iload_n S.1 S.2.1 d_Mo_keep_129 rfl (lv_at hl 0 rfl) ?_
        refine lv_iadd S.1 S.2.1 d_Mo_keep_130 ?_
        refine lv_aload_n S.1 S.2.1 d_Mo_keep_131 rfl (lv_at hl 2 rfl) ?_
        refine m_gs (t := 14) S M (j := 16) ok_Mo (by decide) rfl (by decide) rfl kw_455 rfl d_Mo_keep_132 ?_
        refine lv_iload_n S.1 S.2.1 d_Mo_keep_135 rfl (lv_at hl 0 rfl) ?_
        refine m_ial (t0 := 0) S M (by decide) rfl rfl h d_Mo_keep_136 (fun h => ?_)
        refine m_ias (t0 := 0) S M (by decide) rfl rfl h d_Mo_keep_137 (fun σ8 H locs h M => ?_)
        refine lv_iinc (v := t113.1 + 1) (lv' := [(2, .int (t113.1 + 1)), (1, .int u5.1), (0, .ref (ad 0))]) S.1 S.2.1 d_Mo_keep_138 hl (k := 0) rfl rfl (by decide) rfl (fun ls hl => ?_)
        refine lv_goto (tgt := 113) S.1 S.2.1 d_Mo_keep_141 (by decide) ?_
        exact K1 _ (Option.some.inj h).symm ls _ _ (lv_sub hl [0, 1, 2] rfl) M
    · intro ls H locs hl M
      refine lv_aload_n S.1 S.2.1 d_Mo_keep_144 rfl (lv_at hl 2 rfl) ?_
      refine lv_aload_n S.1 S.2.1 d_Mo_keep_145 rfl (lv_at hl 2 rfl) ?_
      refine m_gi S M (j := 23) ok_Mo (by decide) rfl (by decide) rfl kw_469 rfl d_Mo_keep_146 ?_
      refine lv_bipush (v := 30) S.1 S.2.1 d_Mo_keep_149 (by decide) ?_
      refine m_ige (tgt := 163) S d_Mo_keep_151 (by decide) h (fun h => ?_) (fun h => ?_)
      · refine lv_bipush (v := 30) S.1 S.2.1 d_Mo_keep_163 (by decide) ?_
        refine m_pi S M (j := 23) ok_Mo (by decide) rfl (by decide) rfl kw_469 rfl rfl rfl d_Mo_keep_165 h (fun σ9 H locs h M => ?_)
        subst hQ; exact m_vret S hr hlk M (Option.some.inj h) d_Mo_keep_168
      · refine lv_aload_n S.1 S.2.1 d_Mo_keep_154 rfl (lv_at hl 2 rfl) ?_
        refine m_gi S M (j := 23) ok_Mo (by decide) rfl (by decide) rfl kw_469 rfl d_Mo_keep_155 ?_
        refine lv_iconst (v := 1) S.1 S.2.1 d_Mo_keep_158 (by decide) ?_
        refine lv_iadd S.1 S.2.1 d_Mo_keep_159 ?_
        refine lv_goto (tgt := 165) S.1 S.2.1 d_Mo_keep_160 (by decide) ?_
        refine m_pi S M (j := 23) ok_Mo (by decide) rfl (by decide) rfl kw_469 rfl rfl rfl d_Mo_keep_165 h (fun σ10 H locs h M => ?_)
        subst hQ; exact m_vret S hr hlk M (Option.some.inj h) d_Mo_keep_168
theorem d_Mo_findRow_0 : decode prog_12_method_39_code 0 = .ok (.aload_n 0, 1) := by decide +kernel
theorem d_Mo_findRow_1 : decode prog_12_method_39_code 1 = .ok (.getfield 59, 3) := by decide +kernel
theorem d_Mo_findRow_4 : decode prog_12_method_39_code 4 = .ok (.iload_n 1, 1) := by decide +kernel
theorem d_Mo_findRow_5 : decode prog_12_method_39_code 5 = .ok (.if_icmp .ne 12, 3) := by decide +kernel
theorem d_Mo_findRow_8 : decode prog_12_method_39_code 8 = .ok (.aload_n 0, 1) := by decide +kernel
theorem d_Mo_findRow_9 : decode prog_12_method_39_code 9 = .ok (.getfield 159, 3) := by decide +kernel
theorem d_Mo_findRow_12 : decode prog_12_method_39_code 12 = .ok (.iload_n 2, 1) := by decide +kernel
theorem d_Mo_findRow_13 : decode prog_12_method_39_code 13 = .ok (.if_icmp .ne 4, 3) := by decide +kernel
theorem d_Mo_findRow_16 : decode prog_12_method_39_code 16 = .ok (.return_, 1) := by decide +kernel
theorem d_Mo_findRow_17 : decode prog_12_method_39_code 17 = .ok (.aload_n 0, 1) := by decide +kernel
theorem d_Mo_findRow_18 : decode prog_12_method_39_code 18 = .ok (.iload_n 1, 1) := by decide +kernel
theorem d_Mo_findRow_19 : decode prog_12_method_39_code 19 = .ok (.putfield 59, 3) := by decide +kernel
theorem d_Mo_findRow_22 : decode prog_12_method_39_code 22 = .ok (.aload_n 0, 1) := by decide +kernel
theorem d_Mo_findRow_23 : decode prog_12_method_39_code 23 = .ok (.iload_n 2, 1) := by decide +kernel
theorem d_Mo_findRow_24 : decode prog_12_method_39_code 24 = .ok (.putfield 159, 3) := by decide +kernel
theorem d_Mo_findRow_27 : decode prog_12_method_39_code 27 = .ok (.aload_n 0, 1) := by decide +kernel
theorem d_Mo_findRow_28 : decode prog_12_method_39_code 28 = .ok (.iconst 0, 1) := by decide +kernel
theorem d_Mo_findRow_29 : decode prog_12_method_39_code 29 = .ok (.putfield 153, 3) := by decide +kernel
theorem d_Mo_findRow_32 : decode prog_12_method_39_code 32 = .ok (.aload_n 0, 1) := by decide +kernel
theorem d_Mo_findRow_33 : decode prog_12_method_39_code 33 = .ok (.iconst (-1), 1) := by decide +kernel
theorem d_Mo_findRow_34 : decode prog_12_method_39_code 34 = .ok (.putfield 139, 3) := by decide +kernel
theorem d_Mo_findRow_37 : decode prog_12_method_39_code 37 = .ok (.aload_n 0, 1) := by decide +kernel
theorem d_Mo_findRow_38 : decode prog_12_method_39_code 38 = .ok (.iload_n 1, 1) := by decide +kernel
theorem d_Mo_findRow_39 : decode prog_12_method_39_code 39 = .ok (.iload_n 2, 1) := by decide +kernel
theorem d_Mo_findRow_40 : decode prog_12_method_39_code 40 = .ok (.iconst (-1), 1) := by decide +kernel
theorem d_Mo_findRow_41 : decode prog_12_method_39_code 41 = .ok (.invokevirtual 162, 3) := by decide +kernel
theorem d_Mo_findRow_44 : decode prog_12_method_39_code 44 = .ok (.istore_n 3, 1) := by decide +kernel
theorem d_Mo_findRow_45 : decode prog_12_method_39_code 45 = .ok (.iload_n 3, 1) := by decide +kernel
theorem d_Mo_findRow_46 : decode prog_12_method_39_code 46 = .ok (.ifCond .eq 31, 3) := by decide +kernel
theorem d_Mo_findRow_49 : decode prog_12_method_39_code 49 = .ok (.aload_n 0, 1) := by decide +kernel
theorem d_Mo_findRow_50 : decode prog_12_method_39_code 50 = .ok (.invokevirtual 165, 3) := by decide +kernel
theorem d_Mo_findRow_53 : decode prog_12_method_39_code 53 = .ok (.iload_n 1, 1) := by decide +kernel
theorem d_Mo_findRow_54 : decode prog_12_method_39_code 54 = .ok (.iload_n 2, 1) := by decide +kernel
theorem d_Mo_findRow_55 : decode prog_12_method_39_code 55 = .ok (.if_icmp .eq 17, 3) := by decide +kernel
theorem d_Mo_findRow_58 : decode prog_12_method_39_code 58 = .ok (.aload_n 0, 1) := by decide +kernel
theorem d_Mo_findRow_59 : decode prog_12_method_39_code 59 = .ok (.iload_n 1, 1) := by decide +kernel
theorem d_Mo_findRow_60 : decode prog_12_method_39_code 60 = .ok (.iload_n 2, 1) := by decide +kernel
theorem d_Mo_findRow_61 : decode prog_12_method_39_code 61 = .ok (.iconst (-1), 1) := by decide +kernel
theorem d_Mo_findRow_62 : decode prog_12_method_39_code 62 = .ok (.invokevirtual 162, 3) := by decide +kernel
theorem d_Mo_findRow_65 : decode prog_12_method_39_code 65 = .ok (.ifCond .eq 7, 3) := by decide +kernel
theorem d_Mo_findRow_68 : decode prog_12_method_39_code 68 = .ok (.iconst 1, 1) := by decide +kernel
theorem d_Mo_findRow_69 : decode prog_12_method_39_code 69 = .ok (.goto 4, 3) := by decide +kernel
theorem d_Mo_findRow_72 : decode prog_12_method_39_code 72 = .ok (.iconst 0, 1) := by decide +kernel
theorem d_Mo_findRow_73 : decode prog_12_method_39_code 73 = .ok (.istore_n 3, 1) := by decide +kernel
theorem d_Mo_findRow_74 : decode prog_12_method_39_code 74 = .ok (.goto (-29), 3) := by decide +kernel
theorem d_Mo_findRow_77 : decode prog_12_method_39_code 77 = .ok (.return_, 1) := by decide +kernel
def rm_Mo_findRow : Room := { frames := 2, cells := 0, slots := 0, locals := 48 }
def f_Mo_findRow_L45 (x1 : Int32) (x2 : Int32) : (Int32 × mS) → Option ((Int32 × mS) ⊕ (Int32 × mS)) := fun t45 =>
  if t45.1 = 0 then (
  some (.inr (t45.1, t45.2))) else (
  (f_Mo_keep t45.2).bind fun σ6 =>
  if x1 = x2 then (
  some (.inl (0, σ6))) else (
  (f_Mo_nextWay σ6 x1 x2 ((-1))).bind fun o7 =>
  if o7.1 = 0 then (
  some (.inl (0, o7.2))) else (
  some (.inl (1, o7.2)))))
def f_Mo_findRow_J17 (σ : mS) (x1 : Int32) (x2 : Int32) : Option (mS) :=
  nm (sI σ 0 21 x1) fun σ1 =>
  nm (sI σ1 0 22 x2) fun σ2 =>
  nm (sI σ2 0 23 0) fun σ3 =>
  nm (sI σ3 0 19 ((-1))) fun σ4 =>
  (f_Mo_nextWay σ4 x1 x2 ((-1))).bind fun o5 =>
  (lpN (f_Mo_findRow_L45 x1 x2) fuB (o5.1, o5.2)).bind fun u45 =>
  some u45.2
def f_Mo_findRow (σ : mS) (x1 : Int32) (x2 : Int32) : Option (mS) :=
  if (σ.1 0 21) = x1 then (
  if (σ.1 0 22) = x2 then (
  some σ) else (
  f_Mo_findRow_J17 σ x1 x2)) else (
  f_Mo_findRow_J17 σ x1 x2)
set_option maxHeartbeats 4000000 in
set_option maxRecDepth 100000 in
theorem c_Mo_findRow (l : Launch) (D : va_G) (cA ad : Nat → Nat) (σ : mS) (x1 : Int32) (x2 : Int32) (o : mS) (h : f_Mo_findRow σ x1 x2 = some o) : mCv l ⟨"LeastPathsModel", "findRow", "(II)V"⟩ (Cond.code ⟨"LeastPathsModel", "findRow", "(II)V"⟩ prog_12_method_39_code 4 (Option.none : Option Jvm.ClassFile.FieldType) :: tlG) rm_Mo_findRow D clX (tyK cA) 23 (tbY cA) ad σ [.ref (ad 0), .int x1, .int x2] o := by
  intro sz
  refine m_of (cc := prog_12_method_39_code) (maxL := 4) (Qc := mQv D clX (tyK cA) 23 (tbY cA) ad o) (by decide) (Nat.le_of_ble_eq_true rfl) (fun p e s m args below meth c ls S hr hlk hnm hl M => ?_) sz
  have hl : lv_has ls 4 [(0, .ref (ad 0)), (1, .int x1), (2, .int x2)] := hl
  generalize hQ : MQ _ _ _ _ _ _ _ = Q
  skip
  unfold f_Mo_findRow at h
  refine lv_aload_n S.1 S.2.1 d_Mo_findRow_0 rfl (lv_at hl 0 rfl) ?_
  refine m_gi S M (j := 21) ok_Mo (by decide) rfl (by decide) rfl kw_385 rfl d_Mo_findRow_1 ?_
  refine lv_iload_n S.1 S.2.1 d_Mo_findRow_4 rfl (lv_at hl 1 rfl) ?_
  have J17 : ∀ (ls : Array Slot) (H : Heap) (locs : List Loc), f_Mo_findRow_J17 σ x1 x2 = some o → lv_has ls 4 [(0, .ref (ad 0)), (1, .int x1), (2, .int x2)] → mM D clX (tyK cA) (mA 23 ad s.heap.size) s 23 (tbY cA) ad σ H locs → W p l e rm_Mo_findRow s m args below meth c H locs 0 0 Q (F0 m 17 ls []) := by
    intro ls H locs h hl M
    unfold f_Mo_findRow_J17 at h
    refine lv_aload_n S.1 S.2.1 d_Mo_findRow_17 rfl (lv_at hl 0 rfl) ?_
    refine lv_iload_n S.1 S.2.1 d_Mo_findRow_18 rfl (lv_at hl 1 rfl) ?_
    refine m_pi S M (j := 21) ok_Mo (by decide) rfl (by decide) rfl kw_385 rfl rfl rfl d_Mo_findRow_19 h (fun σ1 H locs h M => ?_)
    refine lv_aload_n S.1 S.2.1 d_Mo_findRow_22 rfl (lv_at hl 0 rfl) ?_
    refine lv_iload_n S.1 S.2.1 d_Mo_findRow_23 rfl (lv_at hl 2 rfl) ?_
    refine m_pi S M (j := 22) ok_Mo (by decide) rfl (by decide) rfl kw_474 rfl rfl rfl d_Mo_findRow_24 h (fun σ2 H locs h M => ?_)
    refine lv_aload_n S.1 S.2.1 d_Mo_findRow_27 rfl (lv_at hl 0 rfl) ?_
    refine lv_iconst (v := 0) S.1 S.2.1 d_Mo_findRow_28 (by decide) ?_
    refine m_pi S M (j := 23) ok_Mo (by decide) rfl (by decide) rfl kw_469 rfl rfl rfl d_Mo_findRow_29 h (fun σ3 H locs h M => ?_)
    refine lv_aload_n S.1 S.2.1 d_Mo_findRow_32 rfl (lv_at hl 0 rfl) ?_
    refine lv_iconst (v := (-1)) S.1 S.2.1 d_Mo_findRow_33 (by decide) ?_
    refine m_pi S M (j := 19) ok_Mo (by decide) rfl (by decide) rfl kw_453 rfl rfl rfl d_Mo_findRow_34 h (fun σ4 H locs h M => ?_)
    refine lv_aload_n S.1 S.2.1 d_Mo_findRow_37 rfl (lv_at hl 0 rfl) ?_
    refine lv_iload_n S.1 S.2.1 d_Mo_findRow_38 rfl (lv_at hl 1 rfl) ?_
    refine lv_iload_n S.1 S.2.1 d_Mo_findRow_39 rfl (lv_at hl 2 rfl) ?_
    refine lv_iconst (v := (-1)) S.1 S.2.1 d_Mo_findRow_40 (by decide) ?_
    refine m_xi h (fun o ho => m_rV (As := [.int x1, .int x2, .int ((-1))]) (rest := []) S M hl.1 (cwG (n := 3) S.2.2.2.2 kw_475 kw_476 kw_477 kw_391 kw_478 (by decide) ⟨Nat.le_of_ble_eq_true rfl, Nat.le_of_ble_eq_true rfl⟩) ok_Mo (by decide) rfl (c_Mo_nextWay l D cA ad σ4 x1 x2 ((-1)) o ho _) rfl rfl (Nat.le_of_ble_eq_true rfl) d_Mo_findRow_41 ⟨Nat.zero_le _, Nat.zero_le _⟩) M (fun o5 H locs h M => ?_)
    refine lv_istore_n (lv' := [(3, .int o5.1), (0, .ref (ad 0)), (1, .int x1), (2, .int x2)]) S.1 S.2.1 d_Mo_findRow_44 rfl hl (by decide) rfl (fun ls hl => ?_)
    obtain ⟨u45, q45, h⟩ := Option.bind_eq_some_iff.mp h
    refine lpN_W1 (st := f_Mo_findRow_L45 x1 x2) (fun (t45 : Int32 × mS) => ∀ (ls : Array Slot) (H : Heap) (locs : List Loc), lv_has ls 4 [(3, .int t45.1), (0, .ref (ad 0)), (1, .int x1), (2, .int x2)] → mM D clX (tyK cA) (mA 23 ad s.heap.size) s 23 (tbY cA) ad t45.2 H locs → W p l e rm_Mo_findRow s m args below meth c H locs 0 0 Q (F0 m 45 ls [])) (fun (u45 : Int32 × mS) => ∀ (ls : Array Slot) (H : Heap) (locs : List Loc), lv_has ls 4 [(3, .int u45.1), (0, .ref (ad 0)), (1, .int x1), (2, .int x2)] → mM D clX (tyK cA) (mA 23 ad s.heap.size) s 23 (tbY cA) ad u45.2 H locs → W p l e rm_Mo_findRow s m args below meth c H locs 0 0 Q (F0 m 77 ls [])) ?_ fuB ((o5.1, o5.2) : Int32 × mS) u45 q45 ?_ ls _ _ (lv_sub hl [0, 1, 2, 3] rfl) M
    · intro t45 oo45 h K1 K2 ls H locs hl M
      unfold f_Mo_findRow_L45 at h
      refine lv_iload_n S.1 S.2.1 d_Mo_findRow_45 rfl (lv_at hl 0 rfl) ?_
      refine m_ifeq (tgt := 77) S d_Mo_findRow_46 (by decide) h (fun h => ?_) (fun h => ?_)
      · exact K2 _ (Option.some.inj h).symm ls _ _ (lv_sub hl [0, 1, 2, 3] rfl) M
      · refine lv_aload_n S.1 S.2.1 d_Mo_findRow_49 rfl (lv_at hl 1 rfl) ?_
        refine m_xv h (fun o ho => m_rV (As := []) (rest := []) S M hl.1 (cwG (n := 0) S.2.2.2.2 kw_479 kw_480 kw_481 kw_391 kw_482 (by decide) ⟨Nat.le_of_ble_eq_true rfl, Nat.le_of_ble_eq_true rfl⟩) ok_Mo (by decide) rfl (c_Mo_keep l D cA ad t45.2 o ho _) rfl rfl (Nat.le_of_ble_eq_true rfl) d_Mo_findRow_50 ⟨Nat.zero_le _, Nat.zero_le _⟩) M (fun σ6 H locs h M => ?_)
        refine lv_iload_n S.1 S.2.1 d_Mo_findRow_53 rfl (lv_at hl 2 rfl) ?_
        refine lv_iload_n S.1 S.2.1 d_Mo_findRow_54 rfl (lv_at hl 3 rfl) ?_
        refine m_ieq (tgt := 72) S d_Mo_findRow_55 (by decide) h (fun h => ?_) (fun h => ?_)
        · refine lv_iconst (v := 0) S.1 S.2.1 d_Mo_findRow_72 (by decide) ?_
          refine lv_istore_n (lv' := [(3, .int 0), (0, .ref (ad 0)), (1, .int x1), (2, .int x2)]) S.1 S.2.1 d_Mo_findRow_73 rfl hl (by decide) rfl (fun ls hl => ?_)
          refine lv_goto (tgt := 45) S.1 S.2.1 d_Mo_findRow_74 (by decide) ?_
          exact K1 _ (Option.some.inj h).symm ls _ _ (lv_sub hl [0, 1, 2, 3] rfl) M
        · refine lv_aload_n S.1 S.2.1 d_Mo_findRow_58 rfl (lv_at hl 1 rfl) ?_
          refine lv_iload_n S.1 S.2.1 d_Mo_findRow_59 rfl (lv_at hl 2 rfl) ?_
          refine lv_iload_n S.1 S.2.1 d_Mo_findRow_60 rfl (lv_at hl 3 rfl) ?_
          refine lv_iconst (v := (-1)) S.1 S.2.1 d_Mo_findRow_61 (by decide) ?_
          refine m_xi h (fun o ho => m_rV (As := [.int x1, .int x2, .int ((-1))]) (rest := []) S M hl.1 (cwG (n := 3) S.2.2.2.2 kw_475 kw_476 kw_477 kw_391 kw_478 (by decide) ⟨Nat.le_of_ble_eq_true rfl, Nat.le_of_ble_eq_true rfl⟩) ok_Mo (by decide) rfl (c_Mo_nextWay l D cA ad σ6 x1 x2 ((-1)) o ho _) rfl rfl (Nat.le_of_ble_eq_true rfl) d_Mo_findRow_62 ⟨Nat.zero_le _, Nat.zero_le _⟩) M (fun o7 H locs h M => ?_)
          refine m_ifeq (tgt := 72) S d_Mo_findRow_65 (by decide) h (fun h => ?_) (fun h => ?_)
          · refine lv_iconst (v := 0) S.1 S.2.1 d_Mo_findRow_72 (by decide) ?_
            refine lv_istore_n (lv' := [(3, .int 0), (0, .ref (ad 0)), (1, .int x1), (2, .int x2)]) S.1 S.2.1 d_Mo_findRow_73 rfl hl (by decide) rfl (fun ls hl => ?_)
            refine lv_goto (tgt := 45) S.1 S.2.1 d_Mo_findRow_74 (by decide) ?_
            exact K1 _ (Option.some.inj h).symm ls _ _ (lv_sub hl [0, 1, 2, 3] rfl) M
          · refine lv_iconst (v := 1) S.1 S.2.1 d_Mo_findRow_68 (by decide) ?_
            refine lv_goto (tgt := 73) S.1 S.2.1 d_Mo_findRow_69 (by decide) ?_
            refine lv_istore_n (lv' := [(3, .int 1), (0, .ref (ad 0)), (1, .int x1), (2, .int x2)]) S.1 S.2.1 d_Mo_findRow_73 rfl hl (by decide) rfl (fun ls hl => ?_)
            refine lv_goto (tgt := 45) S.1 S.2.1 d_Mo_findRow_74 (by decide) ?_
            exact K1 _ (Option.some.inj h).symm ls _ _ (lv_sub hl [0, 1, 2, 3] rfl) M
    · intro ls H locs hl M
      subst hQ; exact m_vret S hr hlk M (Option.some.inj h) d_Mo_findRow_77
  refine m_ine (tgt := 17) S d_Mo_findRow_5 (by decide) h (fun h => ?_) (fun h => ?_)
  · exact J17 ls _ _ h (lv_sub hl [0, 1, 2] rfl) M
  · refine lv_aload_n S.1 S.2.1 d_Mo_findRow_8 rfl (lv_at hl 0 rfl) ?_
    refine m_gi S M (j := 22) ok_Mo (by decide) rfl (by decide) rfl kw_474 rfl d_Mo_findRow_9 ?_
    refine lv_iload_n S.1 S.2.1 d_Mo_findRow_12 rfl (lv_at hl 2 rfl) ?_
    refine m_ine (tgt := 17) S d_Mo_findRow_13 (by decide) h (fun h => ?_) (fun h => ?_)
    · exact J17 ls _ _ h (lv_sub hl [0, 1, 2] rfl) M
    · subst hQ; exact m_vret S hr hlk M (Option.some.inj h) d_Mo_findRow_16
theorem d_Mo_kth_0 : decode prog_12_method_40_code 0 = .ok (.aload_n 0, 1) := by decide +kernel
theorem d_Mo_kth_1 : decode prog_12_method_40_code 1 = .ok (.iload_n 1, 1) := by decide +kernel
theorem d_Mo_kth_2 : decode prog_12_method_40_code 2 = .ok (.invokevirtual 94, 3) := by decide +kernel
theorem d_Mo_kth_5 : decode prog_12_method_40_code 5 = .ok (.ifCond .eq 11, 3) := by decide +kernel
theorem d_Mo_kth_8 : decode prog_12_method_40_code 8 = .ok (.aload_n 0, 1) := by decide +kernel
theorem d_Mo_kth_9 : decode prog_12_method_40_code 9 = .ok (.iload_n 2, 1) := by decide +kernel
theorem d_Mo_kth_10 : decode prog_12_method_40_code 10 = .ok (.invokevirtual 94, 3) := by decide +kernel
theorem d_Mo_kth_13 : decode prog_12_method_40_code 13 = .ok (.ifCond .ne 5, 3) := by decide +kernel
theorem d_Mo_kth_16 : decode prog_12_method_40_code 16 = .ok (.iconst (-1), 1) := by decide +kernel
theorem d_Mo_kth_17 : decode prog_12_method_40_code 17 = .ok (.ireturn, 1) := by decide +kernel
theorem d_Mo_kth_18 : decode prog_12_method_40_code 18 = .ok (.iload_n 3, 1) := by decide +kernel
theorem d_Mo_kth_19 : decode prog_12_method_40_code 19 = .ok (.ifCond .lt 9, 3) := by decide +kernel
theorem d_Mo_kth_22 : decode prog_12_method_40_code 22 = .ok (.iload_n 3, 1) := by decide +kernel
theorem d_Mo_kth_23 : decode prog_12_method_40_code 23 = .ok (.bipush 29, 2) := by decide +kernel
theorem d_Mo_kth_25 : decode prog_12_method_40_code 25 = .ok (.if_icmp .le 6, 3) := by decide +kernel
theorem d_Mo_kth_28 : decode prog_12_method_40_code 28 = .ok (.bipush (-2), 2) := by decide +kernel
theorem d_Mo_kth_30 : decode prog_12_method_40_code 30 = .ok (.ireturn, 1) := by decide +kernel
theorem d_Mo_kth_31 : decode prog_12_method_40_code 31 = .ok (.aload_n 0, 1) := by decide +kernel
theorem d_Mo_kth_32 : decode prog_12_method_40_code 32 = .ok (.iload_n 1, 1) := by decide +kernel
theorem d_Mo_kth_33 : decode prog_12_method_40_code 33 = .ok (.iload_n 2, 1) := by decide +kernel
theorem d_Mo_kth_34 : decode prog_12_method_40_code 34 = .ok (.invokevirtual 168, 3) := by decide +kernel
theorem d_Mo_kth_37 : decode prog_12_method_40_code 37 = .ok (.iload_n 3, 1) := by decide +kernel
theorem d_Mo_kth_38 : decode prog_12_method_40_code 38 = .ok (.aload_n 0, 1) := by decide +kernel
theorem d_Mo_kth_39 : decode prog_12_method_40_code 39 = .ok (.getfield 153, 3) := by decide +kernel
theorem d_Mo_kth_42 : decode prog_12_method_40_code 42 = .ok (.if_icmp .ge 12, 3) := by decide +kernel
theorem d_Mo_kth_45 : decode prog_12_method_40_code 45 = .ok (.aload_n 0, 1) := by decide +kernel
theorem d_Mo_kth_46 : decode prog_12_method_40_code 46 = .ok (.getfield 63, 3) := by decide +kernel
theorem d_Mo_kth_49 : decode prog_12_method_40_code 49 = .ok (.iload_n 3, 1) := by decide +kernel
theorem d_Mo_kth_50 : decode prog_12_method_40_code 50 = .ok (.iaload, 1) := by decide +kernel
theorem d_Mo_kth_51 : decode prog_12_method_40_code 51 = .ok (.goto 5, 3) := by decide +kernel
theorem d_Mo_kth_54 : decode prog_12_method_40_code 54 = .ok (.bipush (-3), 2) := by decide +kernel
theorem d_Mo_kth_56 : decode prog_12_method_40_code 56 = .ok (.ireturn, 1) := by decide +kernel
def rm_Mo_kth : Room := { frames := 3, cells := 0, slots := 0, locals := 71 }
def f_Mo_kth (σ : mS) (x1 : Int32) (x2 : Int32) (x3 : Int32) : Option (Int32 × mS) :=
  (f_Mo_isNode σ x1).bind fun v1 =>
  if v1 = 0 then (
  some ((-1), σ)) else (
  (f_Mo_isNode σ x2).bind fun v2 =>
  if v2 = 0 then (
  some ((-1), σ)) else (
  if x3 < 0 then (
  some ((-2), σ)) else (
  if x3 ≤ 29 then (
  (f_Mo_findRow σ x1 x2).bind fun σ3 =>
  if (σ3.1 0 23) ≤ x3 then (
  some ((-3), σ3)) else (
  gd (inb x3 31) (
  some (σ3.1 17 x3.toNatClampNeg, σ3)))) else (
  some ((-2), σ)))))
set_option maxHeartbeats 4000000 in
set_option maxRecDepth 100000 in
theorem c_Mo_kth (l : Launch) (D : va_G) (cA ad : Nat → Nat) (σ : mS) (x1 : Int32) (x2 : Int32) (x3 : Int32) (o : Int32 × mS) (h : f_Mo_kth σ x1 x2 x3 = some o) : mCi l ⟨"LeastPathsModel", "kth", "(III)I"⟩ (Cond.code ⟨"LeastPathsModel", "kth", "(III)I"⟩ prog_12_method_40_code 4 (Option.some Jvm.ClassFile.FieldType.int) :: tlG) rm_Mo_kth D clX (tyK cA) 23 (tbY cA) ad σ [.ref (ad 0), .int x1, .int x2, .int x3] o := by
  intro sz
  refine m_of (cc := prog_12_method_40_code) (maxL := 4) (Qc := mQi D clX (tyK cA) 23 (tbY cA) ad o) (by decide) (Nat.le_of_ble_eq_true rfl) (fun p e s m args below meth c ls S hr hlk hnm hl M => ?_) sz
  have hl : lv_has ls 4 [(0, .ref (ad 0)), (1, .int x1), (2, .int x2), (3, .int x3)] := hl
  generalize hQ : MQ _ _ _ _ _ _ _ = Q
  skip
  unfold f_Mo_kth at h
  refine lv_aload_n S.1 S.2.1 d_Mo_kth_0 rfl (lv_at hl 0 rfl) ?_
  refine lv_iload_n S.1 S.2.1 d_Mo_kth_1 rfl (lv_at hl 1 rfl) ?_
  refine m_xip h (fun o ho => m_rV (As := [.int x1]) (rest := []) S M hl.1 (cwG (n := 1) S.2.2.2.2 kw_393 kw_394 kw_395 kw_391 kw_396 (by decide) ⟨Nat.le_of_ble_eq_true rfl, Nat.le_of_ble_eq_true rfl⟩) ok_Mo (by decide) rfl (c_Mo_isNode l D cA ad σ x1 o ho _) rfl rfl (Nat.le_of_ble_eq_true rfl) d_Mo_kth_2 ⟨Nat.zero_le _, Nat.zero_le _⟩) M (fun v1 H locs h M => ?_)
  refine m_ifeq (tgt := 16) S d_Mo_kth_5 (by decide) h (fun h => ?_) (fun h => ?_)
  · refine lv_iconst (v := (-1)) S.1 S.2.1 d_Mo_kth_16 (by decide) ?_
    subst hQ; exact m_iret S hr hlk M (Option.some.inj h) d_Mo_kth_17
  · refine lv_aload_n S.1 S.2.1 d_Mo_kth_8 rfl (lv_at hl 0 rfl) ?_
    refine lv_iload_n S.1 S.2.1 d_Mo_kth_9 rfl (lv_at hl 2 rfl) ?_
    refine m_xip h (fun o ho => m_rV (As := [.int x2]) (rest := []) S M hl.1 (cwG (n := 1) S.2.2.2.2 kw_393 kw_394 kw_395 kw_391 kw_396 (by decide) ⟨Nat.le_of_ble_eq_true rfl, Nat.le_of_ble_eq_true rfl⟩) ok_Mo (by decide) rfl (c_Mo_isNode l D cA ad σ x2 o ho _) rfl rfl (Nat.le_of_ble_eq_true rfl) d_Mo_kth_10 ⟨Nat.zero_le _, Nat.zero_le _⟩) M (fun v2 H locs h M => ?_)
    refine m_ifne (tgt := 18) S d_Mo_kth_13 (by decide) h (fun h => ?_) (fun h => ?_)
    · refine lv_iload_n S.1 S.2.1 d_Mo_kth_18 rfl (lv_at hl 3 rfl) ?_
      refine m_iflt (tgt := 28) S d_Mo_kth_19 (by decide) h (fun h => ?_) (fun h => ?_)
      · refine lv_bipush (v := (-2)) S.1 S.2.1 d_Mo_kth_28 (by decide) ?_
        subst hQ; exact m_iret S hr hlk M (Option.some.inj h) d_Mo_kth_30
      · refine lv_iload_n S.1 S.2.1 d_Mo_kth_22 rfl (lv_at hl 3 rfl) ?_
        refine lv_bipush (v := 29) S.1 S.2.1 d_Mo_kth_23 (by decide) ?_
        refine m_ile (tgt := 31) S d_Mo_kth_25 (by decide) h (fun h => ?_) (fun h => ?_)
        · refine lv_aload_n S.1 S.2.1 d_Mo_kth_31 rfl (lv_at hl 0 rfl) ?_
          refine lv_iload_n S.1 S.2.1 d_Mo_kth_32 rfl (lv_at hl 1 rfl) ?_
          refine lv_iload_n S.1 S.2.1 d_Mo_kth_33 rfl (lv_at hl 2 rfl) ?_
          refine m_xv h (fun o ho => m_rV (As := [.int x1, .int x2]) (rest := []) S M hl.1 (cwG (n := 2) S.2.2.2.2 kw_483 kw_484 kw_485 kw_391 kw_486 (by decide) ⟨Nat.le_of_ble_eq_true rfl, Nat.le_of_ble_eq_true rfl⟩) ok_Mo (by decide) rfl (c_Mo_findRow l D cA ad σ x1 x2 o ho _) rfl rfl (Nat.le_of_ble_eq_true rfl) d_Mo_kth_34 ⟨Nat.zero_le _, Nat.zero_le _⟩) M (fun σ3 H locs h M => ?_)
          refine lv_iload_n S.1 S.2.1 d_Mo_kth_37 rfl (lv_at hl 3 rfl) ?_
          refine lv_aload_n S.1 S.2.1 d_Mo_kth_38 rfl (lv_at hl 0 rfl) ?_
          refine m_gi S M (j := 23) ok_Mo (by decide) rfl (by decide) rfl kw_469 rfl d_Mo_kth_39 ?_
          refine m_ige (tgt := 54) S d_Mo_kth_42 (by decide) h (fun h => ?_) (fun h => ?_)
          · refine lv_bipush (v := (-3)) S.1 S.2.1 d_Mo_kth_54 (by decide) ?_
            subst hQ; exact m_iret S hr hlk M (Option.some.inj h) d_Mo_kth_56
          · refine lv_aload_n S.1 S.2.1 d_Mo_kth_45 rfl (lv_at hl 0 rfl) ?_
            refine m_gs (t := 17) S M (j := 24) ok_Mo (by decide) rfl (by decide) rfl kw_466 rfl d_Mo_kth_46 ?_
            refine lv_iload_n S.1 S.2.1 d_Mo_kth_49 rfl (lv_at hl 3 rfl) ?_
            refine m_ial (t0 := 0) S M (by decide) rfl rfl h d_Mo_kth_50 (fun h => ?_)
            refine lv_goto (tgt := 56) S.1 S.2.1 d_Mo_kth_51 (by decide) ?_
            subst hQ; exact m_iret S hr hlk M (Option.some.inj h) d_Mo_kth_56
        · refine lv_bipush (v := (-2)) S.1 S.2.1 d_Mo_kth_28 (by decide) ?_
          subst hQ; exact m_iret S hr hlk M (Option.some.inj h) d_Mo_kth_30
    · refine lv_iconst (v := (-1)) S.1 S.2.1 d_Mo_kth_16 (by decide) ?_
      subst hQ; exact m_iret S hr hlk M (Option.some.inj h) d_Mo_kth_17
theorem d_Mo_kthArc_0 : decode prog_12_method_41_code 0 = .ok (.aload_n 0, 1) := by decide +kernel
theorem d_Mo_kthArc_1 : decode prog_12_method_41_code 1 = .ok (.iload_n 1, 1) := by decide +kernel
theorem d_Mo_kthArc_2 : decode prog_12_method_41_code 2 = .ok (.iload_n 2, 1) := by decide +kernel
theorem d_Mo_kthArc_3 : decode prog_12_method_41_code 3 = .ok (.iload_n 3, 1) := by decide +kernel
theorem d_Mo_kthArc_4 : decode prog_12_method_41_code 4 = .ok (.invokevirtual 171, 3) := by decide +kernel
theorem d_Mo_kthArc_7 : decode prog_12_method_41_code 7 = .ok (.istore 5, 2) := by decide +kernel
theorem d_Mo_kthArc_9 : decode prog_12_method_41_code 9 = .ok (.iload 5, 2) := by decide +kernel
theorem d_Mo_kthArc_11 : decode prog_12_method_41_code 11 = .ok (.ifCond .ge 6, 3) := by decide +kernel
theorem d_Mo_kthArc_14 : decode prog_12_method_41_code 14 = .ok (.iload 5, 2) := by decide +kernel
theorem d_Mo_kthArc_16 : decode prog_12_method_41_code 16 = .ok (.ireturn, 1) := by decide +kernel
theorem d_Mo_kthArc_17 : decode prog_12_method_41_code 17 = .ok (.iload 4, 2) := by decide +kernel
theorem d_Mo_kthArc_19 : decode prog_12_method_41_code 19 = .ok (.ifCond .lt 29, 3) := by decide +kernel
theorem d_Mo_kthArc_22 : decode prog_12_method_41_code 22 = .ok (.iload 4, 2) := by decide +kernel
theorem d_Mo_kthArc_24 : decode prog_12_method_41_code 24 = .ok (.aload_n 0, 1) := by decide +kernel
theorem d_Mo_kthArc_25 : decode prog_12_method_41_code 25 = .ok (.getfield 66, 3) := by decide +kernel
theorem d_Mo_kthArc_28 : decode prog_12_method_41_code 28 = .ok (.iload_n 3, 1) := by decide +kernel
theorem d_Mo_kthArc_29 : decode prog_12_method_41_code 29 = .ok (.iaload, 1) := by decide +kernel
theorem d_Mo_kthArc_30 : decode prog_12_method_41_code 30 = .ok (.if_icmp .ge 18, 3) := by decide +kernel
theorem d_Mo_kthArc_33 : decode prog_12_method_41_code 33 = .ok (.aload_n 0, 1) := by decide +kernel
theorem d_Mo_kthArc_34 : decode prog_12_method_41_code 34 = .ok (.getfield 69, 3) := by decide +kernel
theorem d_Mo_kthArc_37 : decode prog_12_method_41_code 37 = .ok (.bipush 10, 2) := by decide +kernel
theorem d_Mo_kthArc_39 : decode prog_12_method_41_code 39 = .ok (.iload_n 3, 1) := by decide +kernel
theorem d_Mo_kthArc_40 : decode prog_12_method_41_code 40 = .ok (.imul, 1) := by decide +kernel
theorem d_Mo_kthArc_41 : decode prog_12_method_41_code 41 = .ok (.iload 4, 2) := by decide +kernel
theorem d_Mo_kthArc_43 : decode prog_12_method_41_code 43 = .ok (.iadd, 1) := by decide +kernel
theorem d_Mo_kthArc_44 : decode prog_12_method_41_code 44 = .ok (.iaload, 1) := by decide +kernel
theorem d_Mo_kthArc_45 : decode prog_12_method_41_code 45 = .ok (.goto 4, 3) := by decide +kernel
theorem d_Mo_kthArc_48 : decode prog_12_method_41_code 48 = .ok (.iconst (-1), 1) := by decide +kernel
theorem d_Mo_kthArc_49 : decode prog_12_method_41_code 49 = .ok (.ireturn, 1) := by decide +kernel
def rm_Mo_kthArc : Room := { frames := 4, cells := 0, slots := 0, locals := 94 }
def f_Mo_kthArc (σ : mS) (x1 : Int32) (x2 : Int32) (x3 : Int32) (x4 : Int32) : Option (Int32 × mS) :=
  (f_Mo_kth σ x1 x2 x3).bind fun o1 =>
  if 0 ≤ o1.1 then (
  if x4 < 0 then (
  some ((-1), o1.2)) else (
  gd (inb x3 31) (
  if (o1.2.1 18 x3.toNatClampNeg) ≤ x4 then (
  some ((-1), o1.2)) else (
  gd (inb ((10 * x3) + x4) 310) (
  some (o1.2.1 19 ((10 * x3) + x4).toNatClampNeg, o1.2)))))) else (
  some (o1.1, o1.2))
set_option maxHeartbeats 4000000 in
set_option maxRecDepth 100000 in
theorem c_Mo_kthArc (l : Launch) (D : va_G) (cA ad : Nat → Nat) (σ : mS) (x1 : Int32) (x2 : Int32) (x3 : Int32) (x4 : Int32) (o : Int32 × mS) (h : f_Mo_kthArc σ x1 x2 x3 x4 = some o) : mCi l ⟨"LeastPathsModel", "kthArc", "(IIII)I"⟩ (Cond.code ⟨"LeastPathsModel", "kthArc", "(IIII)I"⟩ prog_12_method_41_code 6 (Option.some Jvm.ClassFile.FieldType.int) :: tlG) rm_Mo_kthArc D clX (tyK cA) 23 (tbY cA) ad σ [.ref (ad 0), .int x1, .int x2, .int x3, .int x4] o := by
  intro sz
  refine m_of (cc := prog_12_method_41_code) (maxL := 6) (Qc := mQi D clX (tyK cA) 23 (tbY cA) ad o) (by decide) (Nat.le_of_ble_eq_true rfl) (fun p e s m args below meth c ls S hr hlk hnm hl M => ?_) sz
  have hl : lv_has ls 6 [(0, .ref (ad 0)), (1, .int x1), (2, .int x2), (3, .int x3), (4, .int x4)] := hl
  generalize hQ : MQ _ _ _ _ _ _ _ = Q
  skip
  unfold f_Mo_kthArc at h
  refine lv_aload_n S.1 S.2.1 d_Mo_kthArc_0 rfl (lv_at hl 0 rfl) ?_
  refine lv_iload_n S.1 S.2.1 d_Mo_kthArc_1 rfl (lv_at hl 1 rfl) ?_
  refine lv_iload_n S.1 S.2.1 d_Mo_kthArc_2 rfl (lv_at hl 2 rfl) ?_
  refine lv_iload_n S.1 S.2.1 d_Mo_kthArc_3 rfl (lv_at hl 3 rfl) ?_
  refine m_xi h (fun o ho => m_rV (As := [.int x1, .int x2, .int x3]) (rest := []) S M hl.1 (cwG (n := 3) S.2.2.2.2 kw_487 kw_488 kw_489 kw_391 kw_490 (by decide) ⟨Nat.le_of_ble_eq_true rfl, Nat.le_of_ble_eq_true rfl⟩) ok_Mo (by decide) rfl (c_Mo_kth l D cA ad σ x1 x2 x3 o ho _) rfl rfl (Nat.le_of_ble_eq_true rfl) d_Mo_kthArc_4 ⟨Nat.zero_le _, Nat.zero_le _⟩) M (fun o1 H locs h M => ?_)
  refine lv_istore (lv' := [(5, .int o1.1), (0, .ref (ad 0)), (1, .int x1), (2, .int x2), (3, .int x3), (4, .int x4)]) S.1 S.2.1 d_Mo_kthArc_7 hl (by decide) rfl (fun ls hl => ?_)
  refine lv_iload S.1 S.2.1 d_Mo_kthArc_9 (lv_at hl 0 rfl) ?_
  refine m_ifge (tgt := 17) S d_Mo_kthArc_11 (by decide) h (fun h => ?_) (fun h => ?_)
  · refine lv_iload S.1 S.2.1 d_Mo_kthArc_17 (lv_at hl 5 rfl) ?_
    refine m_iflt (tgt := 48) S d_Mo_kthArc_19 (by decide) h (fun h => ?_) (fun h => ?_)
    · refine lv_iconst (v := (-1)) S.1 S.2.1 d_Mo_kthArc_48 (by decide) ?_
      subst hQ; exact m_iret S hr hlk M (Option.some.inj h) d_Mo_kthArc_49
    · refine lv_iload S.1 S.2.1 d_Mo_kthArc_22 (lv_at hl 5 rfl) ?_
      refine lv_aload_n S.1 S.2.1 d_Mo_kthArc_24 rfl (lv_at hl 1 rfl) ?_
      refine m_gs (t := 18) S M (j := 25) ok_Mo (by decide) rfl (by decide) rfl kw_467 rfl d_Mo_kthArc_25 ?_
      refine lv_iload_n S.1 S.2.1 d_Mo_kthArc_28 rfl (lv_at hl 4 rfl) ?_
      refine m_ial (t0 := 0) S M (by decide) rfl rfl h d_Mo_kthArc_29 (fun h => ?_)
      refine m_ige (tgt := 48) S d_Mo_kthArc_30 (by decide) h (fun h => ?_) (fun h => ?_)
      · refine lv_iconst (v := (-1)) S.1 S.2.1 d_Mo_kthArc_48 (by decide) ?_
        subst hQ; exact m_iret S hr hlk M (Option.some.inj h) d_Mo_kthArc_49
      · refine lv_aload_n S.1 S.2.1 d_Mo_kthArc_33 rfl (lv_at hl 1 rfl) ?_
        refine m_gs (t := 19) S M (j := 26) ok_Mo (by decide) rfl (by decide) rfl kw_468 rfl d_Mo_kthArc_34 ?_
        refine lv_bipush (v := 10) S.1 S.2.1 d_Mo_kthArc_37 (by decide) ?_
        refine lv_iload_n S.1 S.2.1 d_Mo_kthArc_39 rfl (lv_at hl 4 rfl) ?_
        refine lv_imul S.1 S.2.1 d_Mo_kthArc_40 ?_
        refine lv_iload S.1 S.2.1 d_Mo_kthArc_41 (lv_at hl 5 rfl) ?_
        refine lv_iadd S.1 S.2.1 d_Mo_kthArc_43 ?_
        refine m_ial (t0 := 0) S M (by decide) rfl rfl h d_Mo_kthArc_44 (fun h => ?_)
        refine lv_goto (tgt := 49) S.1 S.2.1 d_Mo_kthArc_45 (by decide) ?_
        subst hQ; exact m_iret S hr hlk M (Option.some.inj h) d_Mo_kthArc_49
  · refine lv_iload S.1 S.2.1 d_Mo_kthArc_14 (lv_at hl 0 rfl) ?_
    subst hQ; exact m_iret S hr hlk M (Option.some.inj h) d_Mo_kthArc_16
