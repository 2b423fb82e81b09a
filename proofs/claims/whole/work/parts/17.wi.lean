theorem d_Wi_spread_0 : decode prog_10_method_2_code 0 = .ok (.iconst 0, 1) := by decide +kernel
theorem d_Wi_spread_1 : decode prog_10_method_2_code 1 = .ok (.istore_n 2, 1) := by decide +kernel
theorem d_Wi_spread_2 : decode prog_10_method_2_code 2 = .ok (.iload_n 2, 1) := by decide +kernel
theorem d_Wi_spread_3 : decode prog_10_method_2_code 3 = .ok (.bipush 10, 2) := by decide +kernel
theorem d_Wi_spread_5 : decode prog_10_method_2_code 5 = .ok (.if_icmp .ge 26, 3) := by decide +kernel
theorem d_Wi_spread_8 : decode prog_10_method_2_code 8 = .ok (.aload_n 0, 1) := by decide +kernel
theorem d_Wi_spread_9 : decode prog_10_method_2_code 9 = .ok (.getfield 9, 3) := by decide +kernel
theorem d_Wi_spread_12 : decode prog_10_method_2_code 12 = .ok (.iload_n 2, 1) := by decide +kernel
theorem d_Wi_spread_13 : decode prog_10_method_2_code 13 = .ok (.iload_n 2, 1) := by decide +kernel
theorem d_Wi_spread_14 : decode prog_10_method_2_code 14 = .ok (.iload_n 1, 1) := by decide +kernel
theorem d_Wi_spread_15 : decode prog_10_method_2_code 15 = .ok (.if_icmp .ne 8, 3) := by decide +kernel
theorem d_Wi_spread_18 : decode prog_10_method_2_code 18 = .ok (.ldc 19, 2) := by decide +kernel
theorem d_Wi_spread_20 : decode prog_10_method_2_code 20 = .ok (.goto 4, 3) := by decide +kernel
theorem d_Wi_spread_23 : decode prog_10_method_2_code 23 = .ok (.iconst (-1), 1) := by decide +kernel
theorem d_Wi_spread_24 : decode prog_10_method_2_code 24 = .ok (.iastore, 1) := by decide +kernel
theorem d_Wi_spread_25 : decode prog_10_method_2_code 25 = .ok (.iinc 2 1, 3) := by decide +kernel
theorem d_Wi_spread_28 : decode prog_10_method_2_code 28 = .ok (.goto (-26), 3) := by decide +kernel
theorem d_Wi_spread_31 : decode prog_10_method_2_code 31 = .ok (.iconst 1, 1) := by decide +kernel
theorem d_Wi_spread_32 : decode prog_10_method_2_code 32 = .ok (.istore_n 2, 1) := by decide +kernel
theorem d_Wi_spread_33 : decode prog_10_method_2_code 33 = .ok (.iload_n 2, 1) := by decide +kernel
theorem d_Wi_spread_34 : decode prog_10_method_2_code 34 = .ok (.aload_n 0, 1) := by decide +kernel
theorem d_Wi_spread_35 : decode prog_10_method_2_code 35 = .ok (.getfield 15, 3) := by decide +kernel
theorem d_Wi_spread_38 : decode prog_10_method_2_code 38 = .ok (.getfield 20, 3) := by decide +kernel
theorem d_Wi_spread_41 : decode prog_10_method_2_code 41 = .ok (.if_icmp .ge 100, 3) := by decide +kernel
theorem d_Wi_spread_44 : decode prog_10_method_2_code 44 = .ok (.iconst 0, 1) := by decide +kernel
theorem d_Wi_spread_45 : decode prog_10_method_2_code 45 = .ok (.istore_n 3, 1) := by decide +kernel
theorem d_Wi_spread_46 : decode prog_10_method_2_code 46 = .ok (.iload_n 3, 1) := by decide +kernel
theorem d_Wi_spread_47 : decode prog_10_method_2_code 47 = .ok (.aload_n 0, 1) := by decide +kernel
theorem d_Wi_spread_48 : decode prog_10_method_2_code 48 = .ok (.getfield 15, 3) := by decide +kernel
theorem d_Wi_spread_51 : decode prog_10_method_2_code 51 = .ok (.getfield 26, 3) := by decide +kernel
theorem d_Wi_spread_54 : decode prog_10_method_2_code 54 = .ok (.if_icmp .ge 81, 3) := by decide +kernel
theorem d_Wi_spread_57 : decode prog_10_method_2_code 57 = .ok (.aload_n 0, 1) := by decide +kernel
theorem d_Wi_spread_58 : decode prog_10_method_2_code 58 = .ok (.getfield 15, 3) := by decide +kernel
theorem d_Wi_spread_61 : decode prog_10_method_2_code 61 = .ok (.iload_n 3, 1) := by decide +kernel
theorem d_Wi_spread_62 : decode prog_10_method_2_code 62 = .ok (.invokevirtual 29, 3) := by decide +kernel
theorem d_Wi_spread_65 : decode prog_10_method_2_code 65 = .ok (.ifCond .eq 64, 3) := by decide +kernel
theorem d_Wi_spread_68 : decode prog_10_method_2_code 68 = .ok (.aload_n 0, 1) := by decide +kernel
theorem d_Wi_spread_69 : decode prog_10_method_2_code 69 = .ok (.getfield 9, 3) := by decide +kernel
theorem d_Wi_spread_72 : decode prog_10_method_2_code 72 = .ok (.aload_n 0, 1) := by decide +kernel
theorem d_Wi_spread_73 : decode prog_10_method_2_code 73 = .ok (.getfield 15, 3) := by decide +kernel
theorem d_Wi_spread_76 : decode prog_10_method_2_code 76 = .ok (.getfield 33, 3) := by decide +kernel
theorem d_Wi_spread_79 : decode prog_10_method_2_code 79 = .ok (.iload_n 3, 1) := by decide +kernel
theorem d_Wi_spread_80 : decode prog_10_method_2_code 80 = .ok (.iaload, 1) := by decide +kernel
theorem d_Wi_spread_81 : decode prog_10_method_2_code 81 = .ok (.iaload, 1) := by decide +kernel
theorem d_Wi_spread_82 : decode prog_10_method_2_code 82 = .ok (.aload_n 0, 1) := by decide +kernel
theorem d_Wi_spread_83 : decode prog_10_method_2_code 83 = .ok (.getfield 15, 3) := by decide +kernel
theorem d_Wi_spread_86 : decode prog_10_method_2_code 86 = .ok (.getfield 36, 3) := by decide +kernel
theorem d_Wi_spread_89 : decode prog_10_method_2_code 89 = .ok (.iload_n 3, 1) := by decide +kernel
theorem d_Wi_spread_90 : decode prog_10_method_2_code 90 = .ok (.iaload, 1) := by decide +kernel
theorem d_Wi_spread_91 : decode prog_10_method_2_code 91 = .ok (.invokestatic 39, 3) := by decide +kernel
theorem d_Wi_spread_94 : decode prog_10_method_2_code 94 = .ok (.istore 4, 2) := by decide +kernel
theorem d_Wi_spread_96 : decode prog_10_method_2_code 96 = .ok (.aload_n 0, 1) := by decide +kernel
theorem d_Wi_spread_97 : decode prog_10_method_2_code 97 = .ok (.getfield 9, 3) := by decide +kernel
theorem d_Wi_spread_100 : decode prog_10_method_2_code 100 = .ok (.aload_n 0, 1) := by decide +kernel
theorem d_Wi_spread_101 : decode prog_10_method_2_code 101 = .ok (.getfield 15, 3) := by decide +kernel
theorem d_Wi_spread_104 : decode prog_10_method_2_code 104 = .ok (.getfield 45, 3) := by decide +kernel
theorem d_Wi_spread_107 : decode prog_10_method_2_code 107 = .ok (.iload_n 3, 1) := by decide +kernel
theorem d_Wi_spread_108 : decode prog_10_method_2_code 108 = .ok (.iaload, 1) := by decide +kernel
theorem d_Wi_spread_109 : decode prog_10_method_2_code 109 = .ok (.aload_n 0, 1) := by decide +kernel
theorem d_Wi_spread_110 : decode prog_10_method_2_code 110 = .ok (.getfield 9, 3) := by decide +kernel
theorem d_Wi_spread_113 : decode prog_10_method_2_code 113 = .ok (.aload_n 0, 1) := by decide +kernel
theorem d_Wi_spread_114 : decode prog_10_method_2_code 114 = .ok (.getfield 15, 3) := by decide +kernel
theorem d_Wi_spread_117 : decode prog_10_method_2_code 117 = .ok (.getfield 45, 3) := by decide +kernel
theorem d_Wi_spread_120 : decode prog_10_method_2_code 120 = .ok (.iload_n 3, 1) := by decide +kernel
theorem d_Wi_spread_121 : decode prog_10_method_2_code 121 = .ok (.iaload, 1) := by decide +kernel
theorem d_Wi_spread_122 : decode prog_10_method_2_code 122 = .ok (.iaload, 1) := by decide +kernel
theorem d_Wi_spread_123 : decode prog_10_method_2_code 123 = .ok (.iload 4, 2) := by decide +kernel
theorem d_Wi_spread_125 : decode prog_10_method_2_code 125 = .ok (.invokestatic 48, 3) := by decide +kernel
theorem d_Wi_spread_128 : decode prog_10_method_2_code 128 = .ok (.iastore, 1) := by decide +kernel
theorem d_Wi_spread_129 : decode prog_10_method_2_code 129 = .ok (.iinc 3 1, 3) := by decide +kernel
theorem d_Wi_spread_132 : decode prog_10_method_2_code 132 = .ok (.goto (-86), 3) := by decide +kernel
theorem d_Wi_spread_135 : decode prog_10_method_2_code 135 = .ok (.iinc 2 1, 3) := by decide +kernel
theorem d_Wi_spread_138 : decode prog_10_method_2_code 138 = .ok (.goto (-105), 3) := by decide +kernel
theorem d_Wi_spread_141 : decode prog_10_method_2_code 141 = .ok (.return_, 1) := by decide +kernel
def rm_Wi_spread : Room := { frames := 1, cells := 0, slots := 0, locals := 21 }
def f_Wi_spread_L2 (x1 : Int32) : (Int32 × mS) → Option ((Int32 × mS) ⊕ (Int32 × mS)) := fun t2 =>
  if 10 ≤ t2.1 then (
  some (.inr (t2.1, t2.2))) else (
  if t2.1 = x1 then (
  gd (inb t2.1 10) ((nm (sI t2.2 95 t2.1.toNatClampNeg 2147483647) fun σ2 =>
  some (.inl (t2.1 + 1, σ2))))) else (
  gd (inb t2.1 10) ((nm (sI t2.2 95 t2.1.toNatClampNeg ((-1))) fun σ1 =>
  some (.inl (t2.1 + 1, σ1))))))
def f_Wi_spread_L46 : (Int32 × mS) → Option ((Int32 × mS) ⊕ (Int32 × mS)) := fun t46 =>
  if (t46.2.1 1 7) ≤ t46.1 then (
  some (.inr (t46.1, t46.2))) else (
  (f_Gr_hasArc t46.2 t46.1).bind fun v3 =>
  if v3 = 0 then (
  some (.inl (t46.1 + 1, t46.2))) else (
  gd (inb t46.1 40) (
  gd (inb (t46.2.1 2 t46.1.toNatClampNeg) 10) (
  gd (inb t46.1 40) (
  nm (if (t46.2.1 4 t46.1.toNatClampNeg) < (t46.2.1 95 (t46.2.1 2 t46.1.toNatClampNeg).toNatClampNeg) then (t46.2.1 4 t46.1.toNatClampNeg) else (t46.2.1 95 (t46.2.1 2 t46.1.toNatClampNeg).toNatClampNeg)) fun v4 =>
  gd (inb t46.1 40) (
  gd (inb t46.1 40) (
  gd (inb (t46.2.1 3 t46.1.toNatClampNeg) 10) (
  gd (inb (t46.2.1 3 t46.1.toNatClampNeg) 10) ((nm (sI t46.2 95 (t46.2.1 3 t46.1.toNatClampNeg).toNatClampNeg (if (t46.2.1 95 (t46.2.1 3 t46.1.toNatClampNeg).toNatClampNeg) < v4 then v4 else (t46.2.1 95 (t46.2.1 3 t46.1.toNatClampNeg).toNatClampNeg))) fun σ5 =>
  some (.inl (t46.1 + 1, σ5))))))))))))
def f_Wi_spread_L33 : (Int32 × mS) → Option ((Int32 × mS) ⊕ (Int32 × mS)) := fun t33 =>
  if (t33.2.1 1 6) ≤ t33.1 then (
  some (.inr (t33.1, t33.2))) else (
  (lpN (f_Wi_spread_L46) fuS (0, t33.2)).bind fun u46 =>
  some (.inl (t33.1 + 1, u46.2)))
def f_Wi_spread (σ : mS) (x1 : Int32) : Option (mS) :=
  (lpN (f_Wi_spread_L2 x1) fuS (0, σ)).bind fun u2 =>
  (lpN (f_Wi_spread_L33) fuS (1, u2.2)).bind fun u33 =>
  some u33.2
set_option maxHeartbeats 4000000 in
set_option maxRecDepth 100000 in
theorem c_Wi_spread (l : Launch) (D : va_G) (cA ad : Nat → Nat) (σ : mS) (x1 : Int32) (o : mS) (h : f_Wi_spread σ x1 = some o) : mCv l ⟨"LeastPaths$Widths", "spread", "(I)V"⟩ (Cond.code ⟨"LeastPaths$Widths", "spread", "(I)V"⟩ prog_10_method_2_code 5 (Option.none : Option Jvm.ClassFile.FieldType) :: tlG) rm_Wi_spread D clX (tyK cA) 99 (tbX cA) ad σ [.ref (ad 94), .int x1] o := by
  intro sz
  refine m_of (cc := prog_10_method_2_code) (maxL := 5) (Qc := mQv D clX (tyK cA) 99 (tbX cA) ad o) (by decide) (Nat.le_of_ble_eq_true rfl) (fun p e s m args below meth c ls S hr hlk hnm hl M => ?_) sz
  have hl : lv_has ls 5 [(0, .ref (ad 94)), (1, .int x1)] := hl
  generalize hQ : MQ _ _ _ _ _ _ _ = Q
  skip
  unfold f_Wi_spread at h
  refine lv_iconst (v := 0) S.1 S.2.1 d_Wi_spread_0 (by decide) ?_
  refine lv_istore_n (lv' := [(2, .int 0), (0, .ref (ad 94)), (1, .int x1)]) S.1 S.2.1 d_Wi_spread_1 rfl hl (by decide) rfl (fun ls hl => ?_)
  obtain ⟨u2, q2, h⟩ := Option.bind_eq_some_iff.mp h
  refine lpN_W1 (st := f_Wi_spread_L2 x1) (fun (t2 : Int32 × mS) => ∀ (ls : Array Slot) (H : Heap) (locs : List Loc), lv_has ls 5 [(2, .int t2.1), (0, .ref (ad 94)), (1, .int x1)] → mM D clX (tyK cA) (mA 99 ad s.heap.size) s 99 (tbX cA) ad t2.2 H locs → W p l e rm_Wi_spread s m args below meth c H locs 0 0 Q (F0 m 2 ls [])) (fun (u2 : Int32 × mS) => ∀ (ls : Array Slot) (H : Heap) (locs : List Loc), lv_has ls 5 [(2, .int u2.1), (0, .ref (ad 94)), (1, .int x1)] → mM D clX (tyK cA) (mA 99 ad s.heap.size) s 99 (tbX cA) ad u2.2 H locs → W p l e rm_Wi_spread s m args below meth c H locs 0 0 Q (F0 m 31 ls [])) ?_ fuS ((0, σ) : Int32 × mS) u2 q2 ?_ ls _ _ (lv_sub hl [0, 1, 2] rfl) M
  · intro t2 oo2 h K1 K2 ls H locs hl M
    unfold f_Wi_spread_L2 at h
    refine lv_iload_n S.1 S.2.1 d_Wi_spread_2 rfl (lv_at hl 0 rfl) ?_
    refine lv_bipush (v := 10) S.1 S.2.1 d_Wi_spread_3 (by decide) ?_
    refine m_ige (tgt := 31) S d_Wi_spread_5 (by decide) h (fun h => ?_) (fun h => ?_)
    · exact K2 _ (Option.some.inj h).symm ls _ _ (lv_sub hl [0, 1, 2] rfl) M
    · refine lv_aload_n S.1 S.2.1 d_Wi_spread_8 rfl (lv_at hl 1 rfl) ?_
      refine m_gs (t := 95) S M (j := 1) ok_Wi (by decide) rfl (by decide) rfl kw_157 rfl d_Wi_spread_9 ?_
      refine lv_iload_n S.1 S.2.1 d_Wi_spread_12 rfl (lv_at hl 0 rfl) ?_
      refine lv_iload_n S.1 S.2.1 d_Wi_spread_13 rfl (lv_at hl 0 rfl) ?_
      refine lv_iload_n S.1 S.2.1 d_Wi_spread_14 rfl (lv_at hl 2 rfl) ?_
      refine m_ine (tgt := 23) S d_Wi_spread_15 (by decide) h (fun h => ?_) (fun h => ?_)
      · refine lv_iconst (v := (-1)) S.1 S.2.1 d_Wi_spread_23 (by decide) ?_
        refine m_ias (t0 := 0) S M (by decide) rfl rfl h d_Wi_spread_24 (fun σ1 H locs h M => ?_)
        refine lv_iinc (v := t2.1 + 1) (lv' := [(2, .int (t2.1 + 1)), (0, .ref (ad 94)), (1, .int x1)]) S.1 S.2.1 d_Wi_spread_25 hl (k := 0) rfl rfl (by decide) rfl (fun ls hl => ?_)
        refine lv_goto (tgt := 2) S.1 S.2.1 d_Wi_spread_28 (by decide) ?_
        exact K1 _ (Option.some.inj h).symm ls _ _ (lv_sub hl [0, 1, 2] rfl) M
      · refine lv_ldc (v := 2147483647) S.1 S.2.1 S.2.2.2.1 (S.2.2.2.2 _ kw_158) d_Wi_spread_18 ?_
        refine lv_goto (tgt := 24) S.1 S.2.1 d_Wi_spread_20 (by decide) ?_
        refine m_ias (t0 := 0) S M (by decide) rfl rfl h d_Wi_spread_24 (fun σ2 H locs h M => ?_)
        refine lv_iinc (v := t2.1 + 1) (lv' := [(2, .int (t2.1 + 1)), (0, .ref (ad 94)), (1, .int x1)]) S.1 S.2.1 d_Wi_spread_25 hl (k := 0) rfl rfl (by decide) rfl (fun ls hl => ?_)
        refine lv_goto (tgt := 2) S.1 S.2.1 d_Wi_spread_28 (by decide) ?_
        exact K1 _ (Option.some.inj h).symm ls _ _ (lv_sub hl [0, 1, 2] rfl) M
  · intro ls H locs hl M
    refine lv_iconst (v := 1) S.1 S.2.1 d_Wi_spread_31 (by decide) ?_
    refine lv_istore_n (lv' := [(2, .int 1), (0, .ref (ad 94)), (1, .int x1)]) S.1 S.2.1 d_Wi_spread_32 rfl hl (by decide) rfl (fun ls hl => ?_)
    obtain ⟨u33, q33, h⟩ := Option.bind_eq_some_iff.mp h
    refine lpN_W1 (st := f_Wi_spread_L33) (fun (t33 : Int32 × mS) => ∀ (ls : Array Slot) (H : Heap) (locs : List Loc), lv_has ls 5 [(2, .int t33.1), (0, .ref (ad 94)), (1, .int x1)] → mM D clX (tyK cA) (mA 99 ad s.heap.size) s 99 (tbX cA) ad t33.2 H locs → W p l e rm_Wi_spread s m args below meth c H locs 0 0 Q (F0 m 33 ls [])) (fun (u33 : Int32 × mS) => ∀ (ls : Array Slot) (H : Heap) (locs : List Loc), lv_has ls 5 [(2, .int u33.1), (0, .ref (ad 94)), (1, .int x1)] → mM D clX (tyK cA) (mA 99 ad s.heap.size) s 99 (tbX cA) ad u33.2 H locs → W p l e rm_Wi_spread s m args below meth c H locs 0 0 Q (F0 m 141 ls [])) ?_ fuS ((1, u2.2) : Int32 × mS) u33 q33 ?_ ls _ _ (lv_sub hl [0, 1, 2] rfl) M
    · intro t33 oo33 h K1 K2 ls H locs hl M
      unfold f_Wi_spread_L33 at h
      refine lv_iload_n S.1 S.2.1 d_Wi_spread_33 rfl (lv_at hl 0 rfl) ?_
      refine lv_aload_n S.1 S.2.1 d_Wi_spread_34 rfl (lv_at hl 1 rfl) ?_
      refine m_gs (t := 1) S M (j := 0) ok_Wi (by decide) rfl (by decide) rfl kw_159 rfl d_Wi_spread_35 ?_
      refine m_gi S M (j := 6) ok_Gr (by decide) rfl (by decide) rfl kw_160 rfl d_Wi_spread_38 ?_
      refine m_ige (tgt := 141) S d_Wi_spread_41 (by decide) h (fun h => ?_) (fun h => ?_)
      · exact K2 _ (Option.some.inj h).symm ls _ _ (lv_sub hl [0, 1, 2] rfl) M
      · refine lv_iconst (v := 0) S.1 S.2.1 d_Wi_spread_44 (by decide) ?_
        refine lv_istore_n (lv' := [(3, .int 0), (2, .int t33.1), (0, .ref (ad 94)), (1, .int x1)]) S.1 S.2.1 d_Wi_spread_45 rfl hl (by decide) rfl (fun ls hl => ?_)
        obtain ⟨u46, q46, h⟩ := Option.bind_eq_some_iff.mp h
        refine lpN_W1 (st := f_Wi_spread_L46) (fun (t46 : Int32 × mS) => ∀ (ls : Array Slot) (H : Heap) (locs : List Loc), lv_has ls 5 [(3, .int t46.1), (2, .int t33.1), (0, .ref (ad 94)), (1, .int x1)] → mM D clX (tyK cA) (mA 99 ad s.heap.size) s 99 (tbX cA) ad t46.2 H locs → W p l e rm_Wi_spread s m args below meth c H locs 0 0 Q (F0 m 46 ls [])) (fun (u46 : Int32 × mS) => ∀ (ls : Array Slot) (H : Heap) (locs : List Loc), lv_has ls 5 [(3, .int u46.1), (2, .int t33.1), (0, .ref (ad 94)), (1, .int x1)] → mM D clX (tyK cA) (mA 99 ad s.heap.size) s 99 (tbX cA) ad u46.2 H locs → W p l e rm_Wi_spread s m args below meth c H locs 0 0 Q (F0 m 135 ls [])) ?_ fuS ((0, t33.2) : Int32 × mS) u46 q46 ?_ ls _ _ (lv_sub hl [0, 1, 2, 3] rfl) M
        · intro t46 oo46 h K1 K2 ls H locs hl M
          unfold f_Wi_spread_L46 at h
          refine lv_iload_n S.1 S.2.1 d_Wi_spread_46 rfl (lv_at hl 0 rfl) ?_
          refine lv_aload_n S.1 S.2.1 d_Wi_spread_47 rfl (lv_at hl 2 rfl) ?_
          refine m_gs (t := 1) S M (j := 0) ok_Wi (by decide) rfl (by decide) rfl kw_159 rfl d_Wi_spread_48 ?_
          refine m_gi S M (j := 7) ok_Gr (by decide) rfl (by decide) rfl kw_161 rfl d_Wi_spread_51 ?_
          refine m_ige (tgt := 135) S d_Wi_spread_54 (by decide) h (fun h => ?_) (fun h => ?_)
          · exact K2 _ (Option.some.inj h).symm ls _ _ (lv_sub hl [0, 1, 2, 3] rfl) M
          · refine lv_aload_n S.1 S.2.1 d_Wi_spread_57 rfl (lv_at hl 2 rfl) ?_
            refine m_gs (t := 1) S M (j := 0) ok_Wi (by decide) rfl (by decide) rfl kw_159 rfl d_Wi_spread_58 ?_
            refine lv_iload_n S.1 S.2.1 d_Wi_spread_61 rfl (lv_at hl 0 rfl) ?_
            refine m_xip h (fun o ho => m_rV (As := [.int t46.1]) (rest := []) S M hl.1 (cwG (n := 1) S.2.2.2.2 kw_162 kw_13 kw_14 kw_15 kw_16 (by decide) ⟨Nat.le_of_ble_eq_true rfl, Nat.le_of_ble_eq_true rfl⟩) ok_Gr (by decide) rfl (c_Gr_hasArc l D cA ad t46.2 t46.1 o ho _) rfl rfl (Nat.le_of_ble_eq_true rfl) d_Wi_spread_62 ⟨Nat.zero_le _, Nat.zero_le _⟩) M (fun v3 H locs h M => ?_)
            refine m_ifeq (tgt := 129) S d_Wi_spread_65 (by decide) h (fun h => ?_) (fun h => ?_)
            · refine lv_iinc (v := t46.1 + 1) (lv' := [(3, .int (t46.1 + 1)), (2, .int t33.1), (0, .ref (ad 94)), (1, .int x1)]) S.1 S.2.1 d_Wi_spread_129 hl (k := 0) rfl rfl (by decide) rfl (fun ls hl => ?_)
              refine lv_goto (tgt := 46) S.1 S.2.1 d_Wi_spread_132 (by decide) ?_
              exact K1 _ (Option.some.inj h).symm ls _ _ (lv_sub hl [0, 1, 2, 3] rfl) M
            · refine lv_aload_n S.1 S.2.1 d_Wi_spread_68 rfl (lv_at hl 2 rfl) ?_
              refine m_gs (t := 95) S M (j := 1) ok_Wi (by decide) rfl (by decide) rfl kw_157 rfl d_Wi_spread_69 ?_
              refine lv_aload_n S.1 S.2.1 d_Wi_spread_72 rfl (lv_at hl 2 rfl) ?_
              refine m_gs (t := 1) S M (j := 0) ok_Wi (by decide) rfl (by decide) rfl kw_159 rfl d_Wi_spread_73 ?_
              refine m_gs (t := 2) S M (j := 0) ok_Gr (by decide) rfl (by decide) rfl kw_163 rfl d_Wi_spread_76 ?_
              refine lv_iload_n S.1 S.2.1 d_Wi_spread_79 rfl (lv_at hl 0 rfl) ?_
              refine m_ial (t0 := 0) S M (by decide) rfl rfl h d_Wi_spread_80 (fun h => ?_)
              refine m_ial (t0 := 0) S M (by decide) rfl rfl h d_Wi_spread_81 (fun h => ?_)
              refine lv_aload_n S.1 S.2.1 d_Wi_spread_82 rfl (lv_at hl 2 rfl) ?_
              refine m_gs (t := 1) S M (j := 0) ok_Wi (by decide) rfl (by decide) rfl kw_159 rfl d_Wi_spread_83 ?_
              refine m_gs (t := 4) S M (j := 2) ok_Gr (by decide) rfl (by decide) rfl kw_164 rfl d_Wi_spread_86 ?_
              refine lv_iload_n S.1 S.2.1 d_Wi_spread_89 rfl (lv_at hl 0 rfl) ?_
              refine m_ial (t0 := 0) S M (by decide) rfl rfl h d_Wi_spread_90 (fun h => ?_)
              refine va_mmin (rest := []) S.1 S.2.1 (S.2.2.1.trans hl.1.symm) S.2.2.2.1 (S.2.2.2.2 _ kw_165) (S.2.2.2.2 _ kw_137) (S.2.2.2.2 _ kw_138) (S.2.2.2.2 _ kw_139) (Nat.le_of_ble_eq_true rfl) (Nat.le_of_ble_eq_true rfl) (Nat.zero_le _) (Nat.zero_le _) d_Wi_spread_91 ?_
              refine m_ni h (fun v4 h => ?_)
              refine lv_istore (lv' := [(4, .int v4), (3, .int t46.1), (2, .int t33.1), (0, .ref (ad 94)), (1, .int x1)]) S.1 S.2.1 d_Wi_spread_94 hl (by decide) rfl (fun ls hl => ?_)
              refine lv_aload_n S.1 S.2.1 d_Wi_spread_96 rfl (lv_at hl 3 rfl) ?_
              refine m_gs (t := 95) S M (j := 1) ok_Wi (by decide) rfl (by decide) rfl kw_157 rfl d_Wi_spread_97 ?_
              refine lv_aload_n S.1 S.2.1 d_Wi_spread_100 rfl (lv_at hl 3 rfl) ?_
              refine m_gs (t := 1) S M (j := 0) ok_Wi (by decide) rfl (by decide) rfl kw_159 rfl d_Wi_spread_101 ?_
              refine m_gs (t := 3) S M (j := 1) ok_Gr (by decide) rfl (by decide) rfl kw_166 rfl d_Wi_spread_104 ?_
              refine lv_iload_n S.1 S.2.1 d_Wi_spread_107 rfl (lv_at hl 1 rfl) ?_
              refine m_ial (t0 := 0) S M (by decide) rfl rfl h d_Wi_spread_108 (fun h => ?_)
              refine lv_aload_n S.1 S.2.1 d_Wi_spread_109 rfl (lv_at hl 3 rfl) ?_
              refine m_gs (t := 95) S M (j := 1) ok_Wi (by decide) rfl (by decide) rfl kw_157 rfl d_Wi_spread_110 ?_
              refine lv_aload_n S.1 S.2.1 d_Wi_spread_113 rfl (lv_at hl 3 rfl) ?_
              refine m_gs (t := 1) S M (j := 0) ok_Wi (by decide) rfl (by decide) rfl kw_159 rfl d_Wi_spread_114 ?_
              refine m_gs (t := 3) S M (j := 1) ok_Gr (by decide) rfl (by decide) rfl kw_166 rfl d_Wi_spread_117 ?_
              refine lv_iload_n S.1 S.2.1 d_Wi_spread_120 rfl (lv_at hl 1 rfl) ?_
              refine m_ial (t0 := 0) S M (by decide) rfl rfl h d_Wi_spread_121 (fun h => ?_)
              refine m_ial (t0 := 0) S M (by decide) rfl rfl h d_Wi_spread_122 (fun h => ?_)
              refine lv_iload S.1 S.2.1 d_Wi_spread_123 (lv_at hl 0 rfl) ?_
              refine va_mmax (rest := [.int (t46.2.1 3 t46.1.toNatClampNeg), .ref (ad 95)]) S.1 S.2.1 (S.2.2.1.trans hl.1.symm) S.2.2.2.1 (S.2.2.2.2 _ kw_167) (S.2.2.2.2 _ kw_168) (S.2.2.2.2 _ kw_138) (S.2.2.2.2 _ kw_169) (Nat.le_of_ble_eq_true rfl) (Nat.le_of_ble_eq_true rfl) (Nat.zero_le _) (Nat.zero_le _) d_Wi_spread_125 ?_
              refine m_ias (t0 := 0) S M (by decide) rfl rfl h d_Wi_spread_128 (fun σ5 H locs h M => ?_)
              refine lv_iinc (v := t46.1 + 1) (lv' := [(3, .int (t46.1 + 1)), (4, .int v4), (2, .int t33.1), (0, .ref (ad 94)), (1, .int x1)]) S.1 S.2.1 d_Wi_spread_129 hl (k := 1) rfl rfl (by decide) rfl (fun ls hl => ?_)
              refine lv_goto (tgt := 46) S.1 S.2.1 d_Wi_spread_132 (by decide) ?_
              exact K1 _ (Option.some.inj h).symm ls _ _ (lv_sub hl [0, 2, 3, 4] rfl) M
        · intro ls H locs hl M
          refine lv_iinc (v := t33.1 + 1) (lv' := [(2, .int (t33.1 + 1)), (3, .int u46.1), (0, .ref (ad 94)), (1, .int x1)]) S.1 S.2.1 d_Wi_spread_135 hl (k := 1) rfl rfl (by decide) rfl (fun ls hl => ?_)
          refine lv_goto (tgt := 33) S.1 S.2.1 d_Wi_spread_138 (by decide) ?_
          exact K1 _ (Option.some.inj h).symm ls _ _ (lv_sub hl [0, 2, 3] rfl) M
    · intro ls H locs hl M
      subst hQ; exact m_vret S hr hlk M (Option.some.inj h) d_Wi_spread_141
