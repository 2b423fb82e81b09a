theorem d_Mo_clear_0 : decode prog_12_method_12_code 0 = .ok (.aload_n 0, 1) := by decide +kernel
theorem d_Mo_clear_1 : decode prog_12_method_12_code 1 = .ok (.getfield 85, 3) := by decide +kernel
theorem d_Mo_clear_4 : decode prog_12_method_12_code 4 = .ok (.istore_n 1, 1) := by decide +kernel
theorem d_Mo_clear_5 : decode prog_12_method_12_code 5 = .ok (.aload_n 0, 1) := by decide +kernel
theorem d_Mo_clear_6 : decode prog_12_method_12_code 6 = .ok (.iconst 0, 1) := by decide +kernel
theorem d_Mo_clear_7 : decode prog_12_method_12_code 7 = .ok (.putfield 85, 3) := by decide +kernel
theorem d_Mo_clear_10 : decode prog_12_method_12_code 10 = .ok (.aload_n 0, 1) := by decide +kernel
theorem d_Mo_clear_11 : decode prog_12_method_12_code 11 = .ok (.iconst 0, 1) := by decide +kernel
theorem d_Mo_clear_12 : decode prog_12_method_12_code 12 = .ok (.putfield 88, 3) := by decide +kernel
theorem d_Mo_clear_15 : decode prog_12_method_12_code 15 = .ok (.aload_n 0, 1) := by decide +kernel
theorem d_Mo_clear_16 : decode prog_12_method_12_code 16 = .ok (.invokevirtual 91, 3) := by decide +kernel
theorem d_Mo_clear_19 : decode prog_12_method_12_code 19 = .ok (.iload_n 1, 1) := by decide +kernel
theorem d_Mo_clear_20 : decode prog_12_method_12_code 20 = .ok (.ireturn, 1) := by decide +kernel
def rm_Mo_clear : Room := { frames := 1, cells := 0, slots := 0, locals := 20 }
def f_Mo_clear (σ : mS) : Option (Int32 × mS) :=
  nm (σ.1 0 1) fun v1 =>
  nm (sI σ 0 1 0) fun σ2 =>
  nm (sI σ2 0 2 0) fun σ3 =>
  (f_Mo_change σ3).bind fun σ4 =>
  some (v1, σ4)
set_option maxHeartbeats 4000000 in
set_option maxRecDepth 100000 in
theorem c_Mo_clear (l : Launch) (D : va_G) (cA ad : Nat → Nat) (σ : mS) (o : Int32 × mS) (h : f_Mo_clear σ = some o) : mCi l ⟨"LeastPathsModel", "clear", "()I"⟩ (Cond.code ⟨"LeastPathsModel", "clear", "()I"⟩ prog_12_method_12_code 2 (Option.some Jvm.ClassFile.FieldType.int) :: tlG) rm_Mo_clear D clX (tyK cA) 23 (tbY cA) ad σ [.ref (ad 0)] o := by
  intro sz
  refine m_of (cc := prog_12_method_12_code) (maxL := 2) (Qc := mQi D clX (tyK cA) 23 (tbY cA) ad o) (by decide) (Nat.le_of_ble_eq_true rfl) (fun p e s m args below meth c ls S hr hlk hnm hl M => ?_) sz
  have hl : lv_has ls 2 [(0, .ref (ad 0))] := hl
  generalize hQ : MQ _ _ _ _ _ _ _ = Q
  skip
  unfold f_Mo_clear at h
  refine lv_aload_n S.1 S.2.1 d_Mo_clear_0 rfl (lv_at hl 0 rfl) ?_
  refine m_gi S M (j := 1) ok_Mo (by decide) rfl (by decide) rfl kw_382 rfl d_Mo_clear_1 ?_
  refine m_ni h (fun v1 h => ?_)
  refine lv_istore_n (lv' := [(1, .int v1), (0, .ref (ad 0))]) S.1 S.2.1 d_Mo_clear_4 rfl hl (by decide) rfl (fun ls hl => ?_)
  refine lv_aload_n S.1 S.2.1 d_Mo_clear_5 rfl (lv_at hl 1 rfl) ?_
  refine lv_iconst (v := 0) S.1 S.2.1 d_Mo_clear_6 (by decide) ?_
  refine m_pi S M (j := 1) ok_Mo (by decide) rfl (by decide) rfl kw_382 rfl rfl rfl d_Mo_clear_7 h (fun σ2 H locs h M => ?_)
  refine lv_aload_n S.1 S.2.1 d_Mo_clear_10 rfl (lv_at hl 1 rfl) ?_
  refine lv_iconst (v := 0) S.1 S.2.1 d_Mo_clear_11 (by decide) ?_
  refine m_pi S M (j := 2) ok_Mo (by decide) rfl (by decide) rfl kw_383 rfl rfl rfl d_Mo_clear_12 h (fun σ3 H locs h M => ?_)
  refine lv_aload_n S.1 S.2.1 d_Mo_clear_15 rfl (lv_at hl 1 rfl) ?_
  refine m_xv h (fun o ho => m_rV (As := []) (rest := []) S M hl.1 (cwG (n := 0) S.2.2.2.2 kw_388 kw_389 kw_390 kw_391 kw_392 (by decide) ⟨Nat.le_of_ble_eq_true rfl, Nat.le_of_ble_eq_true rfl⟩) ok_Mo (by decide) rfl (c_Mo_change l D cA ad σ3 o ho _) rfl rfl (Nat.le_of_ble_eq_true rfl) d_Mo_clear_16 ⟨Nat.zero_le _, Nat.zero_le _⟩) M (fun σ4 H locs h M => ?_)
  refine lv_iload_n S.1 S.2.1 d_Mo_clear_19 rfl (lv_at hl 0 rfl) ?_
  subst hQ; exact m_iret S hr hlk M (Option.some.inj h) d_Mo_clear_20
theorem d_Mo_relax_0 : decode prog_12_method_14_code 0 = .ok (.iconst 1, 1) := by decide +kernel
theorem d_Mo_relax_1 : decode prog_12_method_14_code 1 = .ok (.istore_n 2, 1) := by decide +kernel
theorem d_Mo_relax_2 : decode prog_12_method_14_code 2 = .ok (.iload_n 2, 1) := by decide +kernel
theorem d_Mo_relax_3 : decode prog_12_method_14_code 3 = .ok (.ifCond .eq 155, 3) := by decide +kernel
theorem d_Mo_relax_6 : decode prog_12_method_14_code 6 = .ok (.iconst 0, 1) := by decide +kernel
theorem d_Mo_relax_7 : decode prog_12_method_14_code 7 = .ok (.istore_n 2, 1) := by decide +kernel
theorem d_Mo_relax_8 : decode prog_12_method_14_code 8 = .ok (.iconst 0, 1) := by decide +kernel
theorem d_Mo_relax_9 : decode prog_12_method_14_code 9 = .ok (.istore_n 3, 1) := by decide +kernel
theorem d_Mo_relax_10 : decode prog_12_method_14_code 10 = .ok (.iload_n 3, 1) := by decide +kernel
theorem d_Mo_relax_11 : decode prog_12_method_14_code 11 = .ok (.aload_n 0, 1) := by decide +kernel
theorem d_Mo_relax_12 : decode prog_12_method_14_code 12 = .ok (.getfield 88, 3) := by decide +kernel
theorem d_Mo_relax_15 : decode prog_12_method_14_code 15 = .ok (.if_icmp .ge 140, 3) := by decide +kernel
theorem d_Mo_relax_18 : decode prog_12_method_14_code 18 = .ok (.aload_n 0, 1) := by decide +kernel
theorem d_Mo_relax_19 : decode prog_12_method_14_code 19 = .ok (.getfield 7, 3) := by decide +kernel
theorem d_Mo_relax_22 : decode prog_12_method_14_code 22 = .ok (.iload_n 3, 1) := by decide +kernel
theorem d_Mo_relax_23 : decode prog_12_method_14_code 23 = .ok (.iaload, 1) := by decide +kernel
theorem d_Mo_relax_24 : decode prog_12_method_14_code 24 = .ok (.istore 4, 2) := by decide +kernel
theorem d_Mo_relax_26 : decode prog_12_method_14_code 26 = .ok (.aload_n 0, 1) := by decide +kernel
theorem d_Mo_relax_27 : decode prog_12_method_14_code 27 = .ok (.getfield 13, 3) := by decide +kernel
theorem d_Mo_relax_30 : decode prog_12_method_14_code 30 = .ok (.iload_n 3, 1) := by decide +kernel
theorem d_Mo_relax_31 : decode prog_12_method_14_code 31 = .ok (.iaload, 1) := by decide +kernel
theorem d_Mo_relax_32 : decode prog_12_method_14_code 32 = .ok (.istore 5, 2) := by decide +kernel
theorem d_Mo_relax_34 : decode prog_12_method_14_code 34 = .ok (.aload_n 0, 1) := by decide +kernel
theorem d_Mo_relax_35 : decode prog_12_method_14_code 35 = .ok (.getfield 25, 3) := by decide +kernel
theorem d_Mo_relax_38 : decode prog_12_method_14_code 38 = .ok (.iload_n 3, 1) := by decide +kernel
theorem d_Mo_relax_39 : decode prog_12_method_14_code 39 = .ok (.baload, 1) := by decide +kernel
theorem d_Mo_relax_40 : decode prog_12_method_14_code 40 = .ok (.ifCond .eq 109, 3) := by decide +kernel
theorem d_Mo_relax_43 : decode prog_12_method_14_code 43 = .ok (.iload_n 3, 1) := by decide +kernel
theorem d_Mo_relax_44 : decode prog_12_method_14_code 44 = .ok (.iload_n 1, 1) := by decide +kernel
theorem d_Mo_relax_45 : decode prog_12_method_14_code 45 = .ok (.if_icmp .eq 104, 3) := by decide +kernel
theorem d_Mo_relax_48 : decode prog_12_method_14_code 48 = .ok (.aload_n 0, 1) := by decide +kernel
theorem d_Mo_relax_49 : decode prog_12_method_14_code 49 = .ok (.getfield 35, 3) := by decide +kernel
theorem d_Mo_relax_52 : decode prog_12_method_14_code 52 = .ok (.iload 4, 2) := by decide +kernel
theorem d_Mo_relax_54 : decode prog_12_method_14_code 54 = .ok (.iaload, 1) := by decide +kernel
theorem d_Mo_relax_55 : decode prog_12_method_14_code 55 = .ok (.ldc 102, 2) := by decide +kernel
theorem d_Mo_relax_57 : decode prog_12_method_14_code 57 = .ok (.if_icmp .ne 6, 3) := by decide +kernel
theorem d_Mo_relax_60 : decode prog_12_method_14_code 60 = .ok (.goto 89, 3) := by decide +kernel
theorem d_Mo_relax_63 : decode prog_12_method_14_code 63 = .ok (.aload_n 0, 1) := by decide +kernel
theorem d_Mo_relax_64 : decode prog_12_method_14_code 64 = .ok (.getfield 35, 3) := by decide +kernel
theorem d_Mo_relax_67 : decode prog_12_method_14_code 67 = .ok (.iload 4, 2) := by decide +kernel
theorem d_Mo_relax_69 : decode prog_12_method_14_code 69 = .ok (.iaload, 1) := by decide +kernel
theorem d_Mo_relax_70 : decode prog_12_method_14_code 70 = .ok (.aload_n 0, 1) := by decide +kernel
theorem d_Mo_relax_71 : decode prog_12_method_14_code 71 = .ok (.getfield 16, 3) := by decide +kernel
theorem d_Mo_relax_74 : decode prog_12_method_14_code 74 = .ok (.iload_n 3, 1) := by decide +kernel
theorem d_Mo_relax_75 : decode prog_12_method_14_code 75 = .ok (.iaload, 1) := by decide +kernel
theorem d_Mo_relax_76 : decode prog_12_method_14_code 76 = .ok (.iadd, 1) := by decide +kernel
theorem d_Mo_relax_77 : decode prog_12_method_14_code 77 = .ok (.istore 6, 2) := by decide +kernel
theorem d_Mo_relax_79 : decode prog_12_method_14_code 79 = .ok (.iload 6, 2) := by decide +kernel
theorem d_Mo_relax_81 : decode prog_12_method_14_code 81 = .ok (.aload_n 0, 1) := by decide +kernel
theorem d_Mo_relax_82 : decode prog_12_method_14_code 82 = .ok (.getfield 35, 3) := by decide +kernel
theorem d_Mo_relax_85 : decode prog_12_method_14_code 85 = .ok (.iload 5, 2) := by decide +kernel
theorem d_Mo_relax_87 : decode prog_12_method_14_code 87 = .ok (.iaload, 1) := by decide +kernel
theorem d_Mo_relax_88 : decode prog_12_method_14_code 88 = .ok (.if_icmp .lt 34, 3) := by decide +kernel
theorem d_Mo_relax_91 : decode prog_12_method_14_code 91 = .ok (.iload 6, 2) := by decide +kernel
theorem d_Mo_relax_93 : decode prog_12_method_14_code 93 = .ok (.aload_n 0, 1) := by decide +kernel
theorem d_Mo_relax_94 : decode prog_12_method_14_code 94 = .ok (.getfield 35, 3) := by decide +kernel
theorem d_Mo_relax_97 : decode prog_12_method_14_code 97 = .ok (.iload 5, 2) := by decide +kernel
theorem d_Mo_relax_99 : decode prog_12_method_14_code 99 = .ok (.iaload, 1) := by decide +kernel
theorem d_Mo_relax_100 : decode prog_12_method_14_code 100 = .ok (.if_icmp .ne 49, 3) := by decide +kernel
theorem d_Mo_relax_103 : decode prog_12_method_14_code 103 = .ok (.aload_n 0, 1) := by decide +kernel
theorem d_Mo_relax_104 : decode prog_12_method_14_code 104 = .ok (.getfield 38, 3) := by decide +kernel
theorem d_Mo_relax_107 : decode prog_12_method_14_code 107 = .ok (.iload 4, 2) := by decide +kernel
theorem d_Mo_relax_109 : decode prog_12_method_14_code 109 = .ok (.iaload, 1) := by decide +kernel
theorem d_Mo_relax_110 : decode prog_12_method_14_code 110 = .ok (.iconst 1, 1) := by decide +kernel
theorem d_Mo_relax_111 : decode prog_12_method_14_code 111 = .ok (.iadd, 1) := by decide +kernel
theorem d_Mo_relax_112 : decode prog_12_method_14_code 112 = .ok (.aload_n 0, 1) := by decide +kernel
theorem d_Mo_relax_113 : decode prog_12_method_14_code 113 = .ok (.getfield 38, 3) := by decide +kernel
theorem d_Mo_relax_116 : decode prog_12_method_14_code 116 = .ok (.iload 5, 2) := by decide +kernel
theorem d_Mo_relax_118 : decode prog_12_method_14_code 118 = .ok (.iaload, 1) := by decide +kernel
theorem d_Mo_relax_119 : decode prog_12_method_14_code 119 = .ok (.if_icmp .ge 30, 3) := by decide +kernel
theorem d_Mo_relax_122 : decode prog_12_method_14_code 122 = .ok (.aload_n 0, 1) := by decide +kernel
theorem d_Mo_relax_123 : decode prog_12_method_14_code 123 = .ok (.getfield 35, 3) := by decide +kernel
theorem d_Mo_relax_126 : decode prog_12_method_14_code 126 = .ok (.iload 5, 2) := by decide +kernel
theorem d_Mo_relax_128 : decode prog_12_method_14_code 128 = .ok (.iload 6, 2) := by decide +kernel
theorem d_Mo_relax_130 : decode prog_12_method_14_code 130 = .ok (.iastore, 1) := by decide +kernel
theorem d_Mo_relax_131 : decode prog_12_method_14_code 131 = .ok (.aload_n 0, 1) := by decide +kernel
theorem d_Mo_relax_132 : decode prog_12_method_14_code 132 = .ok (.getfield 38, 3) := by decide +kernel
theorem d_Mo_relax_135 : decode prog_12_method_14_code 135 = .ok (.iload 5, 2) := by decide +kernel
theorem d_Mo_relax_137 : decode prog_12_method_14_code 137 = .ok (.aload_n 0, 1) := by decide +kernel
theorem d_Mo_relax_138 : decode prog_12_method_14_code 138 = .ok (.getfield 38, 3) := by decide +kernel
theorem d_Mo_relax_141 : decode prog_12_method_14_code 141 = .ok (.iload 4, 2) := by decide +kernel
theorem d_Mo_relax_143 : decode prog_12_method_14_code 143 = .ok (.iaload, 1) := by decide +kernel
theorem d_Mo_relax_144 : decode prog_12_method_14_code 144 = .ok (.iconst 1, 1) := by decide +kernel
theorem d_Mo_relax_145 : decode prog_12_method_14_code 145 = .ok (.iadd, 1) := by decide +kernel
theorem d_Mo_relax_146 : decode prog_12_method_14_code 146 = .ok (.iastore, 1) := by decide +kernel
theorem d_Mo_relax_147 : decode prog_12_method_14_code 147 = .ok (.iconst 1, 1) := by decide +kernel
theorem d_Mo_relax_148 : decode prog_12_method_14_code 148 = .ok (.istore_n 2, 1) := by decide +kernel
theorem d_Mo_relax_149 : decode prog_12_method_14_code 149 = .ok (.iinc 3 1, 3) := by decide +kernel
theorem d_Mo_relax_152 : decode prog_12_method_14_code 152 = .ok (.goto (-142), 3) := by decide +kernel
theorem d_Mo_relax_155 : decode prog_12_method_14_code 155 = .ok (.goto (-153), 3) := by decide +kernel
theorem d_Mo_relax_158 : decode prog_12_method_14_code 158 = .ok (.return_, 1) := by decide +kernel
def rm_Mo_relax : Room := { frames := 0, cells := 0, slots := 0, locals := 0 }
def f_Mo_relax_L10 (x1 : Int32) : (Int32 × Int32 × mS) → Option ((Int32 × Int32 × mS) ⊕ (Int32 × Int32 × mS)) := fun t10 =>
  if (t10.2.2.1 0 2) ≤ t10.2.1 then (
  some (.inr (t10.1, t10.2.1, t10.2.2))) else (
  gd (inb t10.2.1 40) (
  nm (t10.2.2.1 1 t10.2.1.toNatClampNeg) fun v1 =>
  gd (inb t10.2.1 40) (
  nm (t10.2.2.1 2 t10.2.1.toNatClampNeg) fun v2 =>
  gd (inb t10.2.1 40) (
  if (t10.2.2.1 6 t10.2.1.toNatClampNeg) = 0 then (
  some (.inl (t10.1, t10.2.1 + 1, t10.2.2))) else (
  if t10.2.1 = x1 then (
  some (.inl (t10.1, t10.2.1 + 1, t10.2.2))) else (
  gd (inb v1 10) (
  if (t10.2.2.1 9 v1.toNatClampNeg) = 1000000000 then (
  some (.inl (t10.1, t10.2.1 + 1, t10.2.2))) else (
  gd (inb v1 10) (
  gd (inb t10.2.1 40) (
  nm ((t10.2.2.1 9 v1.toNatClampNeg) + (t10.2.2.1 3 t10.2.1.toNatClampNeg)) fun v3 =>
  gd (inb v2 10) (
  if v3 < (t10.2.2.1 9 v2.toNatClampNeg) then (
  gd (inb v2 10) ((nm (sI t10.2.2 9 v2.toNatClampNeg v3) fun σ4 =>
  gd (inb v1 10) (
  gd (inb v2 10) ((nm (sI σ4 10 v2.toNatClampNeg ((σ4.1 10 v1.toNatClampNeg) + 1)) fun σ5 =>
  some (.inl (1, t10.2.1 + 1, σ5)))))))) else (
  gd (inb v2 10) (
  if v3 = (t10.2.2.1 9 v2.toNatClampNeg) then (
  gd (inb v1 10) (
  gd (inb v2 10) (
  if (t10.2.2.1 10 v2.toNatClampNeg) ≤ ((t10.2.2.1 10 v1.toNatClampNeg) + 1) then (
  some (.inl (t10.1, t10.2.1 + 1, t10.2.2))) else (
  gd (inb v2 10) ((nm (sI t10.2.2 9 v2.toNatClampNeg v3) fun σ6 =>
  gd (inb v1 10) (
  gd (inb v2 10) ((nm (sI σ6 10 v2.toNatClampNeg ((σ6.1 10 v1.toNatClampNeg) + 1)) fun σ7 =>
  some (.inl (1, t10.2.1 + 1, σ7))))))))))) else (
  some (.inl (t10.1, t10.2.1 + 1, t10.2.2))))))))))))))))
def f_Mo_relax_L2 (x1 : Int32) : (Int32 × mS) → Option ((Int32 × mS) ⊕ (Int32 × mS)) := fun t2 =>
  if t2.1 = 0 then (
  some (.inr (t2.1, t2.2))) else (
  (lpN (f_Mo_relax_L10 x1) fuB (0, 0, t2.2)).bind fun u10 =>
  some (.inl (u10.1, u10.2.2)))
def f_Mo_relax (σ : mS) (x1 : Int32) : Option (mS) :=
  (lpN (f_Mo_relax_L2 x1) fuB (1, σ)).bind fun u2 =>
  some u2.2
set_option maxHeartbeats 4000000 in
set_option maxRecDepth 100000 in
theorem c_Mo_relax (l : Launch) (D : va_G) (cA ad : Nat → Nat) (σ : mS) (x1 : Int32) (o : mS) (h : f_Mo_relax σ x1 = some o) : mCv l ⟨"LeastPathsModel", "relax", "(I)V"⟩ (Cond.code ⟨"LeastPathsModel", "relax", "(I)V"⟩ prog_12_method_14_code 7 (Option.none : Option Jvm.ClassFile.FieldType) :: tlG) rm_Mo_relax D clX (tyK cA) 23 (tbY cA) ad σ [.ref (ad 0), .int x1] o := by
  intro sz
  refine m_of (cc := prog_12_method_14_code) (maxL := 7) (Qc := mQv D clX (tyK cA) 23 (tbY cA) ad o) (by decide) (Nat.le_of_ble_eq_true rfl) (fun p e s m args below meth c ls S hr hlk hnm hl M => ?_) sz
  have hl : lv_has ls 7 [(0, .ref (ad 0)), (1, .int x1)] := hl
  generalize hQ : MQ _ _ _ _ _ _ _ = Q
  skip
  unfold f_Mo_relax at h
  refine lv_iconst (v := 1) S.1 S.2.1 d_Mo_relax_0 (by decide) ?_
  refine lv_istore_n (lv' := [(2, .int 1), (0, .ref (ad 0)), (1, .int x1)]) S.1 S.2.1 d_Mo_relax_1 rfl hl (by decide) rfl (fun ls hl => ?_)
  obtain ⟨u2, q2, h⟩ := Option.bind_eq_some_iff.mp h
  refine lpN_W1 (st := f_Mo_relax_L2 x1) (fun (t2 : Int32 × mS) => ∀ (ls : Array Slot) (H : Heap) (locs : List Loc), lv_has ls 7 [(2, .int t2.1), (0, .ref (ad 0)), (1, .int x1)] → mM D clX (tyK cA) (mA 23 ad s.heap.size) s 23 (tbY cA) ad t2.2 H locs → W p l e rm_Mo_relax s m args below meth c H locs 0 0 Q (F0 m 2 ls [])) (fun (u2 : Int32 × mS) => ∀ (ls : Array Slot) (H : Heap) (locs : List Loc), lv_has ls 7 [(2, .int u2.1), (0, .ref (ad 0)), (1, .int x1)] → mM D clX (tyK cA) (mA 23 ad s.heap.size) s 23 (tbY cA) ad u2.2 H locs → W p l e rm_Mo_relax s m args below meth c H locs 0 0 Q (F0 m 158 ls [])) ?_ fuB ((1, σ) : Int32 × mS) u2 q2 ?_ ls _ _ (lv_sub hl [0, 1, 2] rfl) M
  · intro t2 oo2 h K1 K2 ls H locs hl M
    unfold f_Mo_relax_L2 at h
    refine lv_iload_n S.1 S.2.1 d_Mo_relax_2 rfl (lv_at hl 0 rfl) ?_
    refine m_ifeq (tgt := 158) S d_Mo_relax_3 (by decide) h (fun h => ?_) (fun h => ?_)
    · exact K2 _ (Option.some.inj h).symm ls _ _ (lv_sub hl [0, 1, 2] rfl) M
    · refine lv_iconst (v := 0) S.1 S.2.1 d_Mo_relax_6 (by decide) ?_
      refine lv_istore_n (lv' := [(2, .int 0), (0, .ref (ad 0)), (1, .int x1)]) S.1 S.2.1 d_Mo_relax_7 rfl hl (by decide) rfl (fun ls hl => ?_)
      refine lv_iconst (v := 0) S.1 S.2.1 d_Mo_relax_8 (by decide) ?_
      refine lv_istore_n (lv' := [(3, .int 0), (2, .int 0), (0, .ref (ad 0)), (1, .int x1)]) S.1 S.2.1 d_Mo_relax_9 rfl hl (by decide) rfl (fun ls hl => ?_)
      obtain ⟨u10, q10, h⟩ := Option.bind_eq_some_iff.mp h
      refine lpN_W1 (st := f_Mo_relax_L10 x1) (fun (t10 : Int32 × Int32 × mS) => ∀ (ls : Array Slot) (H : Heap) (locs : List Loc), lv_has ls 7 [(3, .int t10.2.1), (2, .int t10.1), (0, .ref (ad 0)), (1, .int x1)] → mM D clX (tyK cA) (mA 23 ad s.heap.size) s 23 (tbY cA) ad t10.2.2 H locs → W p l e rm_Mo_relax s m args below meth c H locs 0 0 Q (F0 m 10 ls [])) (fun (u10 : Int32 × Int32 × mS) => ∀ (ls : Array Slot) (H : Heap) (locs : List Loc), lv_has ls 7 [(3, .int u10.2.1), (2, .int u10.1), (0, .ref (ad 0)), (1, .int x1)] → mM D clX (tyK cA) (mA 23 ad s.heap.size) s 23 (tbY cA) ad u10.2.2 H locs → W p l e rm_Mo_relax s m args below meth c H locs 0 0 Q (F0 m 155 ls [])) ?_ fuB ((0, 0, t2.2) : Int32 × Int32 × mS) u10 q10 ?_ ls _ _ (lv_sub hl [0, 1, 2, 3] rfl) M
      · intro t10 oo10 h K1 K2 ls H locs hl M
        unfold f_Mo_relax_L10 at h
        refine lv_iload_n S.1 S.2.1 d_Mo_relax_10 rfl (lv_at hl 0 rfl) ?_
        refine lv_aload_n S.1 S.2.1 d_Mo_relax_11 rfl (lv_at hl 2 rfl) ?_
        refine m_gi S M (j := 2) ok_Mo (by decide) rfl (by decide) rfl kw_383 rfl d_Mo_relax_12 ?_
        refine m_ige (tgt := 155) S d_Mo_relax_15 (by decide) h (fun h => ?_) (fun h => ?_)
        · exact K2 _ (Option.some.inj h).symm ls _ _ (lv_sub hl [0, 1, 2, 3] rfl) M
        · refine lv_aload_n S.1 S.2.1 d_Mo_relax_18 rfl (lv_at hl 2 rfl) ?_
          refine m_gs (t := 1) S M (j := 3) ok_Mo (by decide) rfl (by decide) rfl kw_398 rfl d_Mo_relax_19 ?_
          refine lv_iload_n S.1 S.2.1 d_Mo_relax_22 rfl (lv_at hl 0 rfl) ?_
          refine m_ial (t0 := 0) S M (by decide) rfl rfl h d_Mo_relax_23 (fun h => ?_)
          refine m_ni h (fun v1 h => ?_)
          refine lv_istore (lv' := [(4, .int v1), (3, .int t10.2.1), (2, .int t10.1), (0, .ref (ad 0)), (1, .int x1)]) S.1 S.2.1 d_Mo_relax_24 hl (by decide) rfl (fun ls hl => ?_)
          refine lv_aload_n S.1 S.2.1 d_Mo_relax_26 rfl (lv_at hl 3 rfl) ?_
          refine m_gs (t := 2) S M (j := 4) ok_Mo (by decide) rfl (by decide) rfl kw_399 rfl d_Mo_relax_27 ?_
          refine lv_iload_n S.1 S.2.1 d_Mo_relax_30 rfl (lv_at hl 1 rfl) ?_
          refine m_ial (t0 := 0) S M (by decide) rfl rfl h d_Mo_relax_31 (fun h => ?_)
          refine m_ni h (fun v2 h => ?_)
          refine lv_istore (lv' := [(5, .int v2), (4, .int v1), (3, .int t10.2.1), (2, .int t10.1), (0, .ref (ad 0)), (1, .int x1)]) S.1 S.2.1 d_Mo_relax_32 hl (by decide) rfl (fun ls hl => ?_)
          refine lv_aload_n S.1 S.2.1 d_Mo_relax_34 rfl (lv_at hl 4 rfl) ?_
          refine m_gs (t := 6) S M (j := 8) ok_Mo (by decide) rfl (by decide) rfl kw_384 rfl d_Mo_relax_35 ?_
          refine lv_iload_n S.1 S.2.1 d_Mo_relax_38 rfl (lv_at hl 2 rfl) ?_
          refine m_zal (t0 := 2) S M (by decide) rfl rfl h d_Mo_relax_39 (fun h => ?_)
          refine m_ifeq (tgt := 149) S d_Mo_relax_40 (by decide) h (fun h => ?_) (fun h => ?_)
          · refine lv_iinc (v := t10.2.1 + 1) (lv' := [(3, .int (t10.2.1 + 1)), (5, .int v2), (4, .int v1), (2, .int t10.1), (0, .ref (ad 0)), (1, .int x1)]) S.1 S.2.1 d_Mo_relax_149 hl (k := 2) rfl rfl (by decide) rfl (fun ls hl => ?_)
            refine lv_goto (tgt := 10) S.1 S.2.1 d_Mo_relax_152 (by decide) ?_
            exact K1 _ (Option.some.inj h).symm ls _ _ (lv_sub hl [0, 3, 4, 5] rfl) M
          · refine lv_iload_n S.1 S.2.1 d_Mo_relax_43 rfl (lv_at hl 2 rfl) ?_
            refine lv_iload_n S.1 S.2.1 d_Mo_relax_44 rfl (lv_at hl 5 rfl) ?_
            refine m_ieq (tgt := 149) S d_Mo_relax_45 (by decide) h (fun h => ?_) (fun h => ?_)
            · refine lv_iinc (v := t10.2.1 + 1) (lv' := [(3, .int (t10.2.1 + 1)), (5, .int v2), (4, .int v1), (2, .int t10.1), (0, .ref (ad 0)), (1, .int x1)]) S.1 S.2.1 d_Mo_relax_149 hl (k := 2) rfl rfl (by decide) rfl (fun ls hl => ?_)
              refine lv_goto (tgt := 10) S.1 S.2.1 d_Mo_relax_152 (by decide) ?_
              exact K1 _ (Option.some.inj h).symm ls _ _ (lv_sub hl [0, 3, 4, 5] rfl) M
            · refine lv_aload_n S.1 S.2.1 d_Mo_relax_48 rfl (lv_at hl 4 rfl) ?_
              refine m_gs (t := 9) S M (j := 11) ok_Mo (by decide) rfl (by decide) rfl kw_407 rfl d_Mo_relax_49 ?_
              refine lv_iload S.1 S.2.1 d_Mo_relax_52 (lv_at hl 1 rfl) ?_
              refine m_ial (t0 := 0) S M (by decide) rfl rfl h d_Mo_relax_54 (fun h => ?_)
              refine lv_ldc (v := 1000000000) S.1 S.2.1 S.2.2.2.1 (S.2.2.2.2 _ kw_408) d_Mo_relax_55 ?_
              refine m_ine (tgt := 63) S d_Mo_relax_57 (by decide) h (fun h => ?_) (fun h => ?_)
              · refine lv_aload_n S.1 S.2.1 d_Mo_relax_63 rfl (lv_at hl 4 rfl) ?_
                refine m_gs (t := 9) S M (j := 11) ok_Mo (by decide) rfl (by decide) rfl kw_407 rfl d_Mo_relax_64 ?_
                refine lv_iload S.1 S.2.1 d_Mo_relax_67 (lv_at hl 1 rfl) ?_
                refine m_ial (t0 := 0) S M (by decide) rfl rfl h d_Mo_relax_69 (fun h => ?_)
                refine lv_aload_n S.1 S.2.1 d_Mo_relax_70 rfl (lv_at hl 4 rfl) ?_
                refine m_gs (t := 3) S M (j := 5) ok_Mo (by decide) rfl (by decide) rfl kw_400 rfl d_Mo_relax_71 ?_
                refine lv_iload_n S.1 S.2.1 d_Mo_relax_74 rfl (lv_at hl 2 rfl) ?_
                refine m_ial (t0 := 0) S M (by decide) rfl rfl h d_Mo_relax_75 (fun h => ?_)
                refine lv_iadd S.1 S.2.1 d_Mo_relax_76 ?_
                refine m_ni h (fun v3 h => ?_)
                refine lv_istore (lv' := [(6, .int v3), (5, .int v2), (4, .int v1), (3, .int t10.2.1), (2, .int t10.1), (0, .ref (ad 0)), (1, .int x1)]) S.1 S.2.1 d_Mo_relax_77 hl (by decide) rfl (fun ls hl => ?_)
                refine lv_iload S.1 S.2.1 d_Mo_relax_79 (lv_at hl 0 rfl) ?_
                refine lv_aload_n S.1 S.2.1 d_Mo_relax_81 rfl (lv_at hl 5 rfl) ?_
                refine m_gs (t := 9) S M (j := 11) ok_Mo (by decide) rfl (by decide) rfl kw_407 rfl d_Mo_relax_82 ?_
                refine lv_iload S.1 S.2.1 d_Mo_relax_85 (lv_at hl 1 rfl) ?_
                refine m_ial (t0 := 0) S M (by decide) rfl rfl h d_Mo_relax_87 (fun h => ?_)
                refine m_ilt (tgt := 122) S d_Mo_relax_88 (by decide) h (fun h => ?_) (fun h => ?_)
                · refine lv_aload_n S.1 S.2.1 d_Mo_relax_122 rfl (lv_at hl 5 rfl) ?_
                  refine m_gs (t := 9) S M (j := 11) ok_Mo (by decide) rfl (by decide) rfl kw_407 rfl d_Mo_relax_123 ?_
                  refine lv_iload S.1 S.2.1 d_Mo_relax_126 (lv_at hl 1 rfl) ?_
                  refine lv_iload S.1 S.2.1 d_Mo_relax_128 (lv_at hl 0 rfl) ?_
                  refine m_ias (t0 := 0) S M (by decide) rfl rfl h d_Mo_relax_130 (fun σ4 H locs h M => ?_)
                  refine lv_aload_n S.1 S.2.1 d_Mo_relax_131 rfl (lv_at hl 5 rfl) ?_
                  refine m_gs (t := 10) S M (j := 12) ok_Mo (by decide) rfl (by decide) rfl kw_409 rfl d_Mo_relax_132 ?_
                  refine lv_iload S.1 S.2.1 d_Mo_relax_135 (lv_at hl 1 rfl) ?_
                  refine lv_aload_n S.1 S.2.1 d_Mo_relax_137 rfl (lv_at hl 5 rfl) ?_
                  refine m_gs (t := 10) S M (j := 12) ok_Mo (by decide) rfl (by decide) rfl kw_409 rfl d_Mo_relax_138 ?_
                  refine lv_iload S.1 S.2.1 d_Mo_relax_141 (lv_at hl 2 rfl) ?_
                  refine m_ial (t0 := 0) S M (by decide) rfl rfl h d_Mo_relax_143 (fun h => ?_)
                  refine lv_iconst (v := 1) S.1 S.2.1 d_Mo_relax_144 (by decide) ?_
                  refine lv_iadd S.1 S.2.1 d_Mo_relax_145 ?_
                  refine m_ias (t0 := 0) S M (by decide) rfl rfl h d_Mo_relax_146 (fun σ5 H locs h M => ?_)
                  refine lv_iconst (v := 1) S.1 S.2.1 d_Mo_relax_147 (by decide) ?_
                  refine lv_istore_n (lv' := [(2, .int 1), (6, .int v3), (5, .int v2), (4, .int v1), (3, .int t10.2.1), (0, .ref (ad 0)), (1, .int x1)]) S.1 S.2.1 d_Mo_relax_148 rfl hl (by decide) rfl (fun ls hl => ?_)
                  refine lv_iinc (v := t10.2.1 + 1) (lv' := [(3, .int (t10.2.1 + 1)), (2, .int 1), (6, .int v3), (5, .int v2), (4, .int v1), (0, .ref (ad 0)), (1, .int x1)]) S.1 S.2.1 d_Mo_relax_149 hl (k := 4) rfl rfl (by decide) rfl (fun ls hl => ?_)
                  refine lv_goto (tgt := 10) S.1 S.2.1 d_Mo_relax_152 (by decide) ?_
                  exact K1 _ (Option.some.inj h).symm ls _ _ (lv_sub hl [0, 1, 5, 6] rfl) M
                · refine lv_iload S.1 S.2.1 d_Mo_relax_91 (lv_at hl 0 rfl) ?_
                  refine lv_aload_n S.1 S.2.1 d_Mo_relax_93 rfl (lv_at hl 5 rfl) ?_
                  refine m_gs (t := 9) S M (j := 11) ok_Mo (by decide) rfl (by decide) rfl kw_407 rfl d_Mo_relax_94 ?_
                  refine lv_iload S.1 S.2.1 d_Mo_relax_97 (lv_at hl 1 rfl) ?_
                  refine m_ial (t0 := 0) S M (by decide) rfl rfl h d_Mo_relax_99 (fun h => ?_)
                  refine m_ine (tgt := 149) S d_Mo_relax_100 (by decide) h (fun h => ?_) (fun h => ?_)
                  · refine lv_iinc (v := t10.2.1 + 1) (lv' := [(3, .int (t10.2.1 + 1)), (6, .int v3), (5, .int v2), (4, .int v1), (2, .int t10.1), (0, .ref (ad 0)), (1, .int x1)]) S.1 S.2.1 d_Mo_relax_149 hl (k := 3) rfl rfl (by decide) rfl (fun ls hl => ?_)
                    refine lv_goto (tgt := 10) S.1 S.2.1 d_Mo_relax_152 (by decide) ?_
                    exact K1 _ (Option.some.inj h).symm ls _ _ (lv_sub hl [0, 4, 5, 6] rfl) M
                  · refine lv_aload_n S.1 S.2.1 d_Mo_relax_103 rfl (lv_at hl 5 rfl) ?_
                    refine m_gs (t := 10) S M (j := 12) ok_Mo (by decide) rfl (by decide) rfl kw_409 rfl d_Mo_relax_104 ?_
                    refine lv_iload S.1 S.2.1 d_Mo_relax_107 (lv_at hl 2 rfl) ?_
                    refine m_ial (t0 := 0) S M (by decide) rfl rfl h d_Mo_relax_109 (fun h => ?_)
                    refine lv_iconst (v := 1) S.1 S.2.1 d_Mo_relax_110 (by decide) ?_
                    refine lv_iadd S.1 S.2.1 d_Mo_relax_111 ?_
                    refine lv_aload_n S.1 S.2.1 d_Mo_relax_112 rfl (lv_at hl 5 rfl) ?_
                    refine m_gs (t := 10) S M (j := 12) ok_Mo (by decide) rfl (by decide) rfl kw_409 rfl d_Mo_relax_113 ?_
                    refine lv_iload S.1 S.2.1 d_Mo_relax_116 (lv_at hl 1 rfl) ?_
                    refine m_ial (t0 := 0) S M (by decide) rfl rfl h d_Mo_relax_118 (fun h => ?_)
                    refine m_ige (tgt := 149) S d_Mo_relax_119 (by decide) h (fun h => ?_) (fun h => ?_)
                    · refine lv_iinc (v := t10.2.1 + 1) (lv' := [(3, .int (t10.2.1 + 1)), (6, .int v3), (5, .int v2), (4, .int v1), (2, .int t10.1), (0, .ref (ad 0)), (1, .int x1)]) S.1 S.2.1 d_Mo_relax_149 hl (k := 3) rfl rfl (by decide) rfl (fun ls hl => ?_)
                      refine lv_goto (tgt := 10) S.1 S.2.1 d_Mo_relax_152 (by decide) ?_
                      exact K1 _ (Option.some.inj h).symm ls _ _ (lv_sub hl [0, 4, 5, 6] rfl) M
                    · refine lv_aload_n S.1 S.2.1 d_Mo_relax_122 rfl (lv_at hl 5 rfl) ?_
                      refine m_gs (t := 9) S M (j := 11) ok_Mo (by decide) rfl (by decide) rfl kw_407 rfl d_Mo_relax_123 ?_
                      refine lv_iload S.1 S.2.1 d_Mo_relax_126 (lv_at hl 1 rfl) ?_
                      refine lv_iload S.1 S.2.1 d_Mo_relax_128 (lv_at hl 0 rfl) ?_
                      refine m_ias (t0 := 0) S M (by decide) rfl rfl h d_Mo_relax_130 (fun σ6 H locs h M => ?_)
                      refine lv_aload_n S.1 S.2.1 d_Mo_relax_131 rfl (lv_at hl 5 rfl) ?_
                      refine m_gs (t := 10) S M (j := 12) ok_Mo (by decide) rfl (by decide) rfl kw_409 rfl d_Mo_relax_132 ?_
                      refine lv_iload S.1 S.2.1 d_Mo_relax_135 (lv_at hl 1 rfl) ?_
                      refine lv_aload_n S.1 S.2.1 d_Mo_relax_137 rfl (lv_at hl 5 rfl) ?_
                      refine m_gs (t := 10) S M (j := 12) ok_Mo (by decide) rfl (by decide) rfl kw_409 rfl d_Mo_relax_138 ?_
                      refine lv_iload S.1 S.2.1 d_Mo_relax_141 (lv_at hl 2 rfl) ?_
                      refine m_ial (t0 := 0) S M (by decide) rfl rfl h d_Mo_relax_143 (fun h => ?_)
                      refine lv_iconst (v := 1) S.1 S.2.1 d_Mo_relax_144 (by decide) ?_
                      refine lv_iadd S.1 S.2.1 d_Mo_relax_145 ?_
                      refine m_ias (t0 := 0) S M (by decide) rfl rfl h d_Mo_relax_146 (fun σ7 H locs h M => ?_)
                      refine lv_iconst (v := 1) S.1 S.2.1 d_Mo_relax_147 (by decide) ?_
                      refine lv_istore_n (lv' := [(2, .int 1), (6, .int v3), (5, .int v2), (4, .int v1), (3, .int t10.2.1), (0, .ref (ad 0)), (1, .int x1)]) S.1 S.2.1 d_Mo_relax_148 rfl hl (by decide) rfl (fun ls hl => ?_)
                      refine lv_iinc (v := t10.2.1 + 1) (lv' := [(3, .int (t10.2.1 + 1)), (2, .int 1), (6, .int v3), (5, .int v2), (4, .int v1), (0, .ref (ad 0)), (1, .int x1)]) S.1 S.2.1 d_Mo_relax_149 hl (k := 4) rfl rfl (by decide) rfl (fun ls hl => ?_)
                      refine lv_goto (tgt := 10) S.1 S.2.1 d_Mo_relax_152 (by decide) ?_
                      exact K1 _ (Option.some.inj h).symm ls _ _ (lv_sub hl [0, 1, 5, 6] rfl) M
              · refine lv_goto (tgt := 149) S.1 S.2.1 d_Mo_relax_60 (by decide) ?_
                refine lv_iinc (v := t10.2.1 + 1) (lv' := [(3, .int (t10.2.1 + 1)), (5, .int v2), (4, .int v1), (2, .int t10.1), (0, .ref (ad 0)), (1, .int x1)]) S.1 S.2.1 d_Mo_relax_149 hl (k := 2) rfl rfl (by decide) rfl (fun ls hl => ?_)
                refine lv_goto (tgt := 10) S.1 S.2.1 d_Mo_relax_152 (by decide) ?_
                exact K1 _ (Option.some.inj h).symm ls _ _ (lv_sub hl [0, 3, 4, 5] rfl) M
      · intro ls H locs hl M
        refine lv_goto (tgt := 2) S.1 S.2.1 d_Mo_relax_155 (by decide) ?_
        exact K1 _ (Option.some.inj h).symm ls _ _ (lv_sub hl [1, 2, 3] rfl) M
  · intro ls H locs hl M
    subst hQ; exact m_vret S hr hlk M (Option.some.inj h) d_Mo_relax_158
theorem d_Mo_findFar_0 : decode prog_12_method_13_code 0 = .ok (.iconst 0, 1) := by decide +kernel
theorem d_Mo_findFar_1 : decode prog_12_method_13_code 1 = .ok (.istore_n 1, 1) := by decide +kernel
theorem d_Mo_findFar_2 : decode prog_12_method_13_code 2 = .ok (.iload_n 1, 1) := by decide +kernel
theorem d_Mo_findFar_3 : decode prog_12_method_13_code 3 = .ok (.aload_n 0, 1) := by decide +kernel
theorem d_Mo_findFar_4 : decode prog_12_method_13_code 4 = .ok (.getfield 85, 3) := by decide +kernel
theorem d_Mo_findFar_7 : decode prog_12_method_13_code 7 = .ok (.if_icmp .ge 37, 3) := by decide +kernel
theorem d_Mo_findFar_10 : decode prog_12_method_13_code 10 = .ok (.aload_n 0, 1) := by decide +kernel
theorem d_Mo_findFar_11 : decode prog_12_method_13_code 11 = .ok (.getfield 35, 3) := by decide +kernel
theorem d_Mo_findFar_14 : decode prog_12_method_13_code 14 = .ok (.iload_n 1, 1) := by decide +kernel
theorem d_Mo_findFar_15 : decode prog_12_method_13_code 15 = .ok (.aload_n 0, 1) := by decide +kernel
theorem d_Mo_findFar_16 : decode prog_12_method_13_code 16 = .ok (.getfield 29, 3) := by decide +kernel
theorem d_Mo_findFar_19 : decode prog_12_method_13_code 19 = .ok (.iload_n 1, 1) := by decide +kernel
theorem d_Mo_findFar_20 : decode prog_12_method_13_code 20 = .ok (.baload, 1) := by decide +kernel
theorem d_Mo_findFar_21 : decode prog_12_method_13_code 21 = .ok (.ifCond .eq 7, 3) := by decide +kernel
theorem d_Mo_findFar_24 : decode prog_12_method_13_code 24 = .ok (.iconst 0, 1) := by decide +kernel
theorem d_Mo_findFar_25 : decode prog_12_method_13_code 25 = .ok (.goto 5, 3) := by decide +kernel
theorem d_Mo_findFar_28 : decode prog_12_method_13_code 28 = .ok (.ldc 102, 2) := by decide +kernel
theorem d_Mo_findFar_30 : decode prog_12_method_13_code 30 = .ok (.iastore, 1) := by decide +kernel
theorem d_Mo_findFar_31 : decode prog_12_method_13_code 31 = .ok (.aload_n 0, 1) := by decide +kernel
theorem d_Mo_findFar_32 : decode prog_12_method_13_code 32 = .ok (.getfield 38, 3) := by decide +kernel
theorem d_Mo_findFar_35 : decode prog_12_method_13_code 35 = .ok (.iload_n 1, 1) := by decide +kernel
theorem d_Mo_findFar_36 : decode prog_12_method_13_code 36 = .ok (.iconst 0, 1) := by decide +kernel
theorem d_Mo_findFar_37 : decode prog_12_method_13_code 37 = .ok (.iastore, 1) := by decide +kernel
theorem d_Mo_findFar_38 : decode prog_12_method_13_code 38 = .ok (.iinc 1 1, 3) := by decide +kernel
theorem d_Mo_findFar_41 : decode prog_12_method_13_code 41 = .ok (.goto (-39), 3) := by decide +kernel
theorem d_Mo_findFar_44 : decode prog_12_method_13_code 44 = .ok (.aload_n 0, 1) := by decide +kernel
theorem d_Mo_findFar_45 : decode prog_12_method_13_code 45 = .ok (.iconst (-1), 1) := by decide +kernel
theorem d_Mo_findFar_46 : decode prog_12_method_13_code 46 = .ok (.invokevirtual 103, 3) := by decide +kernel
theorem d_Mo_findFar_49 : decode prog_12_method_13_code 49 = .ok (.return_, 1) := by decide +kernel
def rm_Mo_findFar : Room := { frames := 1, cells := 0, slots := 0, locals := 26 }
def f_Mo_findFar_J30 (t2 : Int32 × mS) (j1 : Int32) : Option ((Int32 × mS) ⊕ (Int32 × mS)) :=
  gd (inb t2.1 10) ((nm (sI t2.2 9 t2.1.toNatClampNeg j1) fun σ2 =>
  gd (inb t2.1 10) ((nm (sI σ2 10 t2.1.toNatClampNeg 0) fun σ3 =>
  some (.inl (t2.1 + 1, σ3))))))
def f_Mo_findFar_L2 : (Int32 × mS) → Option ((Int32 × mS) ⊕ (Int32 × mS)) := fun t2 =>
  if (t2.2.1 0 1) ≤ t2.1 then (
  some (.inr (t2.1, t2.2))) else (
  gd (inb t2.1 10) (
  if (t2.2.1 7 t2.1.toNatClampNeg) = 0 then (
  f_Mo_findFar_J30 t2 1000000000) else (
  f_Mo_findFar_J30 t2 0)))
def f_Mo_findFar (σ : mS) : Option (mS) :=
  (lpN (f_Mo_findFar_L2) fuB (0, σ)).bind fun u2 =>
  (f_Mo_relax u2.2 ((-1))).bind fun σ4 =>
  some σ4
set_option maxHeartbeats 4000000 in
set_option maxRecDepth 100000 in
theorem c_Mo_findFar (l : Launch) (D : va_G) (cA ad : Nat → Nat) (σ : mS) (o : mS) (h : f_Mo_findFar σ = some o) : mCv l ⟨"LeastPathsModel", "findFar", "()V"⟩ (Cond.code ⟨"LeastPathsModel", "findFar", "()V"⟩ prog_12_method_13_code 2 (Option.none : Option Jvm.ClassFile.FieldType) :: tlG) rm_Mo_findFar D clX (tyK cA) 23 (tbY cA) ad σ [.ref (ad 0)] o := by
  intro sz
  refine m_of (cc := prog_12_method_13_code) (maxL := 2) (Qc := mQv D clX (tyK cA) 23 (tbY cA) ad o) (by decide) (Nat.le_of_ble_eq_true rfl) (fun p e s m args below meth c ls S hr hlk hnm hl M => ?_) sz
  have hl : lv_has ls 2 [(0, .ref (ad 0))] := hl
  generalize hQ : MQ _ _ _ _ _ _ _ = Q
  skip
  unfold f_Mo_findFar at h
  refine lv_iconst (v := 0) S.1 S.2.1 d_Mo_findFar_0 (by decide) ?_
  refine lv_istore_n (lv' := [(1, .int 0), (0, .ref (ad 0))]) S.1 S.2.1 d_Mo_findFar_1 rfl hl (by decide) rfl (fun ls hl => ?_)
  obtain ⟨u2, q2, h⟩ := Option.bind_eq_some_iff.mp h
  refine lpN_W1 (st := f_Mo_findFar_L2) (fun (t2 : Int32 × mS) => ∀ (ls : Array Slot) (H : Heap) (locs : List Loc), lv_has ls 2 [(1, .int t2.1), (0, .ref (ad 0))] → mM D clX (tyK cA) (mA 23 ad s.heap.size) s 23 (tbY cA) ad t2.2 H locs → W p l e rm_Mo_findFar s m args below meth c H locs 0 0 Q (F0 m 2 ls [])) (fun (u2 : Int32 × mS) => ∀ (ls : Array Slot) (H : Heap) (locs : List Loc), lv_has ls 2 [(1, .int u2.1), (0, .ref (ad 0))] → mM D clX (tyK cA) (mA 23 ad s.heap.size) s 23 (tbY cA) ad u2.2 H locs → W p l e rm_Mo_findFar s m args below meth c H locs 0 0 Q (F0 m 44 ls [])) ?_ fuB ((0, σ) : Int32 × mS) u2 q2 ?_ ls _ _ (lv_sub hl [0, 1] rfl) M
  · intro t2 oo2 h K1 K2 ls H locs hl M
    unfold f_Mo_findFar_L2 at h
    refine lv_iload_n S.1 S.2.1 d_Mo_findFar_2 rfl (lv_at hl 0 rfl) ?_
    refine lv_aload_n S.1 S.2.1 d_Mo_findFar_3 rfl (lv_at hl 1 rfl) ?_
    refine m_gi S M (j := 1) ok_Mo (by decide) rfl (by decide) rfl kw_382 rfl d_Mo_findFar_4 ?_
    refine m_ige (tgt := 44) S d_Mo_findFar_7 (by decide) h (fun h => ?_) (fun h => ?_)
    · exact K2 _ (Option.some.inj h).symm ls _ _ (lv_sub hl [0, 1] rfl) M
    · refine lv_aload_n S.1 S.2.1 d_Mo_findFar_10 rfl (lv_at hl 1 rfl) ?_
      refine m_gs (t := 9) S M (j := 11) ok_Mo (by decide) rfl (by decide) rfl kw_407 rfl d_Mo_findFar_11 ?_
      refine lv_iload_n S.1 S.2.1 d_Mo_findFar_14 rfl (lv_at hl 0 rfl) ?_
      refine lv_aload_n S.1 S.2.1 d_Mo_findFar_15 rfl (lv_at hl 1 rfl) ?_
      refine m_gs (t := 7) S M (j := 9) ok_Mo (by decide) rfl (by decide) rfl kw_386 rfl d_Mo_findFar_16 ?_
      refine lv_iload_n S.1 S.2.1 d_Mo_findFar_19 rfl (lv_at hl 0 rfl) ?_
      refine m_zal (t0 := 2) S M (by decide) rfl rfl h d_Mo_findFar_20 (fun h => ?_)
      have J30 : ∀ (j1 : Int32) (ls : Array Slot) (H : Heap) (locs : List Loc), f_Mo_findFar_J30 t2 j1 = some oo2 → lv_has ls 2 [(1, .int t2.1), (0, .ref (ad 0))] → mM D clX (tyK cA) (mA 23 ad s.heap.size) s 23 (tbY cA) ad t2.2 H locs → W p l e rm_Mo_findFar s m args below meth c H locs 0 0 Q (F0 m 30 ls [.int j1, .int t2.1, .ref (ad 9)]) := by
        intro j1 ls H locs h hl M
        unfold f_Mo_findFar_J30 at h
        refine m_ias (t0 := 0) S M (by decide) rfl rfl h d_Mo_findFar_30 (fun σ2 H locs h M => ?_)
        refine lv_aload_n S.1 S.2.1 d_Mo_findFar_31 rfl (lv_at hl 1 rfl) ?_
        refine m_gs (t := 10) S M (j := 12) ok_Mo (by decide) rfl (by decide) rfl kw_409 rfl d_Mo_findFar_32 ?_
        refine lv_iload_n S.1 S.2.1 d_Mo_findFar_35 rfl (lv_at hl 0 rfl) ?_
        refine lv_iconst (v := 0) S.1 S.2.1 d_Mo_findFar_36 (by decide) ?_
        refine m_ias (t0 := 0) S M (by decide) rfl rfl h d_Mo_findFar_37 (fun σ3 H locs h M => ?_)
        refine lv_iinc (v := t2.1 + 1) (lv' := [(1, .int (t2.1 + 1)), (0, .ref (ad 0))]) S.1 S.2.1 d_Mo_findFar_38 hl (k := 0) rfl rfl (by decide) rfl (fun ls hl => ?_)
        refine lv_goto (tgt := 2) S.1 S.2.1 d_Mo_findFar_41 (by decide) ?_
        exact K1 _ (Option.some.inj h).symm ls _ _ (lv_sub hl [0, 1] rfl) M
      refine m_ifeq (tgt := 28) S d_Mo_findFar_21 (by decide) h (fun h => ?_) (fun h => ?_)
      · refine lv_ldc (v := 1000000000) S.1 S.2.1 S.2.2.2.1 (S.2.2.2.2 _ kw_408) d_Mo_findFar_28 ?_
        exact J30 _ ls _ _ h (lv_sub hl [0, 1] rfl) M
      · refine lv_iconst (v := 0) S.1 S.2.1 d_Mo_findFar_24 (by decide) ?_
        refine lv_goto (tgt := 30) S.1 S.2.1 d_Mo_findFar_25 (by decide) ?_
        exact J30 _ ls _ _ h (lv_sub hl [0, 1] rfl) M
  · intro ls H locs hl M
    refine lv_aload_n S.1 S.2.1 d_Mo_findFar_44 rfl (lv_at hl 1 rfl) ?_
    refine lv_iconst (v := (-1)) S.1 S.2.1 d_Mo_findFar_45 (by decide) ?_
    refine m_xv h (fun o ho => m_rV (As := [.int ((-1))]) (rest := []) S M hl.1 (cwG (n := 1) S.2.2.2.2 kw_410 kw_411 kw_412 kw_391 kw_413 (by decide) ⟨Nat.le_of_ble_eq_true rfl, Nat.le_of_ble_eq_true rfl⟩) ok_Mo (by decide) rfl (c_Mo_relax l D cA ad u2.2 ((-1)) o ho _) rfl rfl (Nat.le_of_ble_eq_true rfl) d_Mo_findFar_46 ⟨Nat.zero_le _, Nat.zero_le _⟩) M (fun σ4 H locs h M => ?_)
    subst hQ; exact m_vret S hr hlk M (Option.some.inj h) d_Mo_findFar_49
theorem d_Mo_stepOf_0 : decode prog_12_method_15_code 0 = .ok (.iconst 0, 1) := by decide +kernel
theorem d_Mo_stepOf_1 : decode prog_12_method_15_code 1 = .ok (.istore_n 2, 1) := by decide +kernel
theorem d_Mo_stepOf_2 : decode prog_12_method_15_code 2 = .ok (.iload_n 2, 1) := by decide +kernel
theorem d_Mo_stepOf_3 : decode prog_12_method_15_code 3 = .ok (.aload_n 0, 1) := by decide +kernel
theorem d_Mo_stepOf_4 : decode prog_12_method_15_code 4 = .ok (.getfield 88, 3) := by decide +kernel
theorem d_Mo_stepOf_7 : decode prog_12_method_15_code 7 = .ok (.if_icmp .ge 87, 3) := by decide +kernel
theorem d_Mo_stepOf_10 : decode prog_12_method_15_code 10 = .ok (.aload_n 0, 1) := by decide +kernel
theorem d_Mo_stepOf_11 : decode prog_12_method_15_code 11 = .ok (.getfield 7, 3) := by decide +kernel
theorem d_Mo_stepOf_14 : decode prog_12_method_15_code 14 = .ok (.iload_n 2, 1) := by decide +kernel
theorem d_Mo_stepOf_15 : decode prog_12_method_15_code 15 = .ok (.iaload, 1) := by decide +kernel
theorem d_Mo_stepOf_16 : decode prog_12_method_15_code 16 = .ok (.istore_n 3, 1) := by decide +kernel
theorem d_Mo_stepOf_17 : decode prog_12_method_15_code 17 = .ok (.aload_n 0, 1) := by decide +kernel
theorem d_Mo_stepOf_18 : decode prog_12_method_15_code 18 = .ok (.getfield 25, 3) := by decide +kernel
theorem d_Mo_stepOf_21 : decode prog_12_method_15_code 21 = .ok (.iload_n 2, 1) := by decide +kernel
theorem d_Mo_stepOf_22 : decode prog_12_method_15_code 22 = .ok (.baload, 1) := by decide +kernel
theorem d_Mo_stepOf_23 : decode prog_12_method_15_code 23 = .ok (.ifCond .eq 65, 3) := by decide +kernel
theorem d_Mo_stepOf_26 : decode prog_12_method_15_code 26 = .ok (.aload_n 0, 1) := by decide +kernel
theorem d_Mo_stepOf_27 : decode prog_12_method_15_code 27 = .ok (.getfield 13, 3) := by decide +kernel
theorem d_Mo_stepOf_30 : decode prog_12_method_15_code 30 = .ok (.iload_n 2, 1) := by decide +kernel
theorem d_Mo_stepOf_31 : decode prog_12_method_15_code 31 = .ok (.iaload, 1) := by decide +kernel
theorem d_Mo_stepOf_32 : decode prog_12_method_15_code 32 = .ok (.iload_n 1, 1) := by decide +kernel
theorem d_Mo_stepOf_33 : decode prog_12_method_15_code 33 = .ok (.if_icmp .ne 55, 3) := by decide +kernel
theorem d_Mo_stepOf_36 : decode prog_12_method_15_code 36 = .ok (.aload_n 0, 1) := by decide +kernel
theorem d_Mo_stepOf_37 : decode prog_12_method_15_code 37 = .ok (.getfield 35, 3) := by decide +kernel
theorem d_Mo_stepOf_40 : decode prog_12_method_15_code 40 = .ok (.iload_n 3, 1) := by decide +kernel
theorem d_Mo_stepOf_41 : decode prog_12_method_15_code 41 = .ok (.iaload, 1) := by decide +kernel
theorem d_Mo_stepOf_42 : decode prog_12_method_15_code 42 = .ok (.ldc 102, 2) := by decide +kernel
theorem d_Mo_stepOf_44 : decode prog_12_method_15_code 44 = .ok (.if_icmp .ge 44, 3) := by decide +kernel
theorem d_Mo_stepOf_47 : decode prog_12_method_15_code 47 = .ok (.aload_n 0, 1) := by decide +kernel
theorem d_Mo_stepOf_48 : decode prog_12_method_15_code 48 = .ok (.getfield 35, 3) := by decide +kernel
theorem d_Mo_stepOf_51 : decode prog_12_method_15_code 51 = .ok (.iload_n 3, 1) := by decide +kernel
theorem d_Mo_stepOf_52 : decode prog_12_method_15_code 52 = .ok (.iaload, 1) := by decide +kernel
theorem d_Mo_stepOf_53 : decode prog_12_method_15_code 53 = .ok (.aload_n 0, 1) := by decide +kernel
theorem d_Mo_stepOf_54 : decode prog_12_method_15_code 54 = .ok (.getfield 16, 3) := by decide +kernel
theorem d_Mo_stepOf_57 : decode prog_12_method_15_code 57 = .ok (.iload_n 2, 1) := by decide +kernel
theorem d_Mo_stepOf_58 : decode prog_12_method_15_code 58 = .ok (.iaload, 1) := by decide +kernel
theorem d_Mo_stepOf_59 : decode prog_12_method_15_code 59 = .ok (.iadd, 1) := by decide +kernel
theorem d_Mo_stepOf_60 : decode prog_12_method_15_code 60 = .ok (.aload_n 0, 1) := by decide +kernel
theorem d_Mo_stepOf_61 : decode prog_12_method_15_code 61 = .ok (.getfield 35, 3) := by decide +kernel
theorem d_Mo_stepOf_64 : decode prog_12_method_15_code 64 = .ok (.iload_n 1, 1) := by decide +kernel
theorem d_Mo_stepOf_65 : decode prog_12_method_15_code 65 = .ok (.iaload, 1) := by decide +kernel
theorem d_Mo_stepOf_66 : decode prog_12_method_15_code 66 = .ok (.if_icmp .ne 22, 3) := by decide +kernel
theorem d_Mo_stepOf_69 : decode prog_12_method_15_code 69 = .ok (.aload_n 0, 1) := by decide +kernel
theorem d_Mo_stepOf_70 : decode prog_12_method_15_code 70 = .ok (.getfield 38, 3) := by decide +kernel
theorem d_Mo_stepOf_73 : decode prog_12_method_15_code 73 = .ok (.iload_n 3, 1) := by decide +kernel
theorem d_Mo_stepOf_74 : decode prog_12_method_15_code 74 = .ok (.iaload, 1) := by decide +kernel
theorem d_Mo_stepOf_75 : decode prog_12_method_15_code 75 = .ok (.iconst 1, 1) := by decide +kernel
theorem d_Mo_stepOf_76 : decode prog_12_method_15_code 76 = .ok (.iadd, 1) := by decide +kernel
theorem d_Mo_stepOf_77 : decode prog_12_method_15_code 77 = .ok (.aload_n 0, 1) := by decide +kernel
theorem d_Mo_stepOf_78 : decode prog_12_method_15_code 78 = .ok (.getfield 38, 3) := by decide +kernel
theorem d_Mo_stepOf_81 : decode prog_12_method_15_code 81 = .ok (.iload_n 1, 1) := by decide +kernel
theorem d_Mo_stepOf_82 : decode prog_12_method_15_code 82 = .ok (.iaload, 1) := by decide +kernel
theorem d_Mo_stepOf_83 : decode prog_12_method_15_code 83 = .ok (.if_icmp .ne 5, 3) := by decide +kernel
theorem d_Mo_stepOf_86 : decode prog_12_method_15_code 86 = .ok (.iload_n 2, 1) := by decide +kernel
theorem d_Mo_stepOf_87 : decode prog_12_method_15_code 87 = .ok (.ireturn, 1) := by decide +kernel
theorem d_Mo_stepOf_88 : decode prog_12_method_15_code 88 = .ok (.iinc 2 1, 3) := by decide +kernel
theorem d_Mo_stepOf_91 : decode prog_12_method_15_code 91 = .ok (.goto (-89), 3) := by decide +kernel
theorem d_Mo_stepOf_94 : decode prog_12_method_15_code 94 = .ok (.iconst (-1), 1) := by decide +kernel
theorem d_Mo_stepOf_95 : decode prog_12_method_15_code 95 = .ok (.ireturn, 1) := by decide +kernel
def rm_Mo_stepOf : Room := { frames := 0, cells := 0, slots := 0, locals := 0 }
def f_Mo_stepOf_L2 (σ : mS) (x1 : Int32) : (Int32) → Option ((Int32) ⊕ ((Int32) ⊕ (Int32))) := fun t2 =>
  if (σ.1 0 2) ≤ t2 then (
  some (.inr (.inl (t2)))) else (
  gd (inb t2 40) (
  nm (σ.1 1 t2.toNatClampNeg) fun v1 =>
  gd (inb t2 40) (
  if (σ.1 6 t2.toNatClampNeg) = 0 then (
  some (.inl (t2 + 1))) else (
  gd (inb t2 40) (
  if (σ.1 2 t2.toNatClampNeg) = x1 then (
  gd (inb v1 10) (
  if 1000000000 ≤ (σ.1 9 v1.toNatClampNeg) then (
  some (.inl (t2 + 1))) else (
  gd (inb v1 10) (
  gd (inb t2 40) (
  gd (inb x1 10) (
  if ((σ.1 9 v1.toNatClampNeg) + (σ.1 3 t2.toNatClampNeg)) = (σ.1 9 x1.toNatClampNeg) then (
  gd (inb v1 10) (
  gd (inb x1 10) (
  if ((σ.1 10 v1.toNatClampNeg) + 1) = (σ.1 10 x1.toNatClampNeg) then (
  some (.inr (.inr t2))) else (
  some (.inl (t2 + 1)))))) else (
  some (.inl (t2 + 1))))))))) else (
  some (.inl (t2 + 1))))))))
def f_Mo_stepOf (σ : mS) (x1 : Int32) : Option (Int32) :=
  (lpN (f_Mo_stepOf_L2 σ x1) fuB (0)).bind fun u2 => Sum.elim (fun e2 =>
  some ((-1)))
  (fun y2 => some y2) u2
set_option maxHeartbeats 4000000 in
set_option maxRecDepth 100000 in
theorem c_Mo_stepOf (l : Launch) (D : va_G) (cA ad : Nat → Nat) (σ : mS) (x1 : Int32) (o : Int32) (h : f_Mo_stepOf σ x1 = some o) : mCi l ⟨"LeastPathsModel", "stepOf", "(I)I"⟩ (Cond.code ⟨"LeastPathsModel", "stepOf", "(I)I"⟩ prog_12_method_15_code 4 (Option.some Jvm.ClassFile.FieldType.int) :: tlG) rm_Mo_stepOf D clX (tyK cA) 23 (tbY cA) ad σ [.ref (ad 0), .int x1] (o, σ) := by
  intro sz
  refine m_of (cc := prog_12_method_15_code) (maxL := 4) (Qc := mQi D clX (tyK cA) 23 (tbY cA) ad (o, σ)) (by decide) (Nat.le_of_ble_eq_true rfl) (fun p e s m args below meth c ls S hr hlk hnm hl M => ?_) sz
  have hl : lv_has ls 4 [(0, .ref (ad 0)), (1, .int x1)] := hl
  generalize hQ : MQ _ _ _ _ _ _ _ = Q
  skip
  unfold f_Mo_stepOf at h
  refine lv_iconst (v := 0) S.1 S.2.1 d_Mo_stepOf_0 (by decide) ?_
  refine lv_istore_n (lv' := [(2, .int 0), (0, .ref (ad 0)), (1, .int x1)]) S.1 S.2.1 d_Mo_stepOf_1 rfl hl (by decide) rfl (fun ls hl => ?_)
  obtain ⟨u2, q2, h⟩ := Option.bind_eq_some_iff.mp h
  refine lpN_W2 (st := f_Mo_stepOf_L2 σ x1) (fun (t2 : Int32) => ∀ (ls : Array Slot) (H : Heap) (locs : List Loc), lv_has ls 4 [(2, .int t2), (0, .ref (ad 0)), (1, .int x1)] → mM D clX (tyK cA) (mA 23 ad s.heap.size) s 23 (tbY cA) ad σ H locs → W p l e rm_Mo_stepOf s m args below meth c H locs 0 0 Q (F0 m 2 ls [])) (fun (e2 : Int32) => ∀ (ls : Array Slot) (H : Heap) (locs : List Loc), lv_has ls 4 [(2, .int e2), (0, .ref (ad 0)), (1, .int x1)] → mM D clX (tyK cA) (mA 23 ad s.heap.size) s 23 (tbY cA) ad σ H locs → W p l e rm_Mo_stepOf s m args below meth c H locs 0 0 Q (F0 m 94 ls [])) (fun (y2 : Int32) => ∀ (pc : Nat) (ls : Array Slot) (H : Heap) (locs : List Loc), decode prog_12_method_15_code pc = .ok (.ireturn, 1) → mM D clX (tyK cA) (mA 23 ad s.heap.size) s 23 (tbY cA) ad σ H locs → W p l e rm_Mo_stepOf s m args below meth c H locs 0 0 Q (F0 m pc ls [.int y2])) ?_ fuB ((0) : Int32) u2 q2 ?_ ?_ ls _ _ (lv_sub hl [0, 1, 2] rfl) M
  · intro t2 oo2 h K1 K2 K3 ls H locs hl M
    unfold f_Mo_stepOf_L2 at h
    refine lv_iload_n S.1 S.2.1 d_Mo_stepOf_2 rfl (lv_at hl 0 rfl) ?_
    refine lv_aload_n S.1 S.2.1 d_Mo_stepOf_3 rfl (lv_at hl 1 rfl) ?_
    refine m_gi S M (j := 2) ok_Mo (by decide) rfl (by decide) rfl kw_383 rfl d_Mo_stepOf_4 ?_
    refine m_ige (tgt := 94) S d_Mo_stepOf_7 (by decide) h (fun h => ?_) (fun h => ?_)
    · exact K2 _ (Option.some.inj h).symm ls _ _ (lv_sub hl [0, 1, 2] rfl) M
    · refine lv_aload_n S.1 S.2.1 d_Mo_stepOf_10 rfl (lv_at hl 1 rfl) ?_
      refine m_gs (t := 1) S M (j := 3) ok_Mo (by decide) rfl (by decide) rfl kw_398 rfl d_Mo_stepOf_11 ?_
      refine lv_iload_n S.1 S.2.1 d_Mo_stepOf_14 rfl (lv_at hl 0 rfl) ?_
      refine m_ial (t0 := 0) S M (by decide) rfl rfl h d_Mo_stepOf_15 (fun h => ?_)
      refine m_ni h (fun v1 h => ?_)
      refine lv_istore_n (lv' := [(3, .int v1), (2, .int t2), (0, .ref (ad 0)), (1, .int x1)]) S.1 S.2.1 d_Mo_stepOf_16 rfl hl (by decide) rfl (fun ls hl => ?_)
      refine lv_aload_n S.1 S.2.1 d_Mo_stepOf_17 rfl (lv_at hl 2 rfl) ?_
      refine m_gs (t := 6) S M (j := 8) ok_Mo (by decide) rfl (by decide) rfl kw_384 rfl d_Mo_stepOf_18 ?_
      refine lv_iload_n S.1 S.2.1 d_Mo_stepOf_21 rfl (lv_at hl 1 rfl) ?_
      refine m_zal (t0 := 2) S M (by decide) rfl rfl h d_Mo_stepOf_22 (fun h => ?_)
      refine m_ifeq (tgt := 88) S d_Mo_stepOf_23 (by decide) h (fun h => ?_) (fun h => ?_)
      · refine lv_iinc (v := t2 + 1) (lv' := [(2, .int (t2 + 1)), (3, .int v1), (0, .ref (ad 0)), (1, .int x1)]) S.1 S.2.1 d_Mo_stepOf_88 hl (k := 1) rfl rfl (by decide) rfl (fun ls hl => ?_)
        refine lv_goto (tgt := 2) S.1 S.2.1 d_Mo_stepOf_91 (by decide) ?_
        exact K1 _ (Option.some.inj h).symm ls _ _ (lv_sub hl [0, 2, 3] rfl) M
      · refine lv_aload_n S.1 S.2.1 d_Mo_stepOf_26 rfl (lv_at hl 2 rfl) ?_
        refine m_gs (t := 2) S M (j := 4) ok_Mo (by decide) rfl (by decide) rfl kw_399 rfl d_Mo_stepOf_27 ?_
        refine lv_iload_n S.1 S.2.1 d_Mo_stepOf_30 rfl (lv_at hl 1 rfl) ?_
        refine m_ial (t0 := 0) S M (by decide) rfl rfl h d_Mo_stepOf_31 (fun h => ?_)
        refine lv_iload_n S.1 S.2.1 d_Mo_stepOf_32 rfl (lv_at hl 3 rfl) ?_
        refine m_ine (tgt := 88) S d_Mo_stepOf_33 (by decide) h (fun h => ?_) (fun h => ?_)
        · refine lv_iinc (v := t2 + 1) (lv' := [(2, .int (t2 + 1)), (3, .int v1), (0, .ref (ad 0)), (1, .int x1)]) S.1 S.2.1 d_Mo_stepOf_88 hl (k := 1) rfl rfl (by decide) rfl (fun ls hl => ?_)
          refine lv_goto (tgt := 2) S.1 S.2.1 d_Mo_stepOf_91 (by decide) ?_
          exact K1 _ (Option.some.inj h).symm ls _ _ (lv_sub hl [0, 2, 3] rfl) M
        · refine lv_aload_n S.1 S.2.1 d_Mo_stepOf_36 rfl (lv_at hl 2 rfl) ?_
          refine m_gs (t := 9) S M (j := 11) ok_Mo (by decide) rfl (by decide) rfl kw_407 rfl d_Mo_stepOf_37 ?_
          refine lv_iload_n S.1 S.2.1 d_Mo_stepOf_40 rfl (lv_at hl 0 rfl) ?_
          refine m_ial (t0 := 0) S M (by decide) rfl rfl h d_Mo_stepOf_41 (fun h => ?_)
          refine lv_ldc (v := 1000000000) S.1 S.2.1 S.2.2.2.1 (S.2.2.2.2 _ kw_408) d_Mo_stepOf_42 ?_
          refine m_ige (tgt := 88) S d_Mo_stepOf_44 (by decide) h (fun h => ?_) (fun h => ?_)
          · refine lv_iinc (v := t2 + 1) (lv' := [(2, .int (t2 + 1)), (3, .int v1), (0, .ref (ad 0)), (1, .int x1)]) S.1 S.2.1 d_Mo_stepOf_88 hl (k := 1) rfl rfl (by decide) rfl (fun ls hl => ?_)
            refine lv_goto (tgt := 2) S.1 S.2.1 d_Mo_stepOf_91 (by decide) ?_
            exact K1 _ (Option.some.inj h).symm ls _ _ (lv_sub hl [0, 2, 3] rfl) M
          · refine lv_aload_n S.1 S.2.1 d_Mo_stepOf_47 rfl (lv_at hl 2 rfl) ?_
            refine m_gs (t := 9) S M (j := 11) ok_Mo (by decide) rfl (by decide) rfl kw_407 rfl d_Mo_stepOf_48 ?_
            refine lv_iload_n S.1 S.2.1 d_Mo_stepOf_51 rfl (lv_at hl 0 rfl) ?_
            refine m_ial (t0 := 0) S M (by decide) rfl rfl h d_Mo_stepOf_52 (fun h => ?_)
            refine lv_aload_n S.1 S.2.1 d_Mo_stepOf_53 rfl (lv_at hl 2 rfl) ?_
            refine m_gs (t := 3) S M (j := 5) ok_Mo (by decide) rfl (by decide) rfl kw_400 rfl d_Mo_stepOf_54 ?_
            refine lv_iload_n S.1 S.2.1 d_Mo_stepOf_57 rfl (lv_at hl 1 rfl) ?_
            refine m_ial (t0 := 0) S M (by decide) rfl rfl h d_Mo_stepOf_58 (fun h => ?_)
            refine lv_iadd S.1 S.2.1 d_Mo_stepOf_59 ?_
            refine lv_aload_n S.1 S.2.1 d_Mo_stepOf_60 rfl (lv_at hl 2 rfl) ?_
            refine m_gs (t := 9) S M (j := 11) ok_Mo (by decide) rfl (by decide) rfl kw_407 rfl d_Mo_stepOf_61 ?_
            refine lv_iload_n S.1 S.2.1 d_Mo_stepOf_64 rfl (lv_at hl 3 rfl) ?_
            refine m_ial (t0 := 0) S M (by decide) rfl rfl h d_Mo_stepOf_65 (fun h => ?_)
            refine m_ine (tgt := 88) S d_Mo_stepOf_66 (by decide) h (fun h => ?_) (fun h => ?_)
            · refine lv_iinc (v := t2 + 1) (lv' := [(2, .int (t2 + 1)), (3, .int v1), (0, .ref (ad 0)), (1, .int x1)]) S.1 S.2.1 d_Mo_stepOf_88 hl (k := 1) rfl rfl (by decide) rfl (fun ls hl => ?_)
              refine lv_goto (tgt := 2) S.1 S.2.1 d_Mo_stepOf_91 (by decide) ?_
              exact K1 _ (Option.some.inj h).symm ls _ _ (lv_sub hl [0, 2, 3] rfl) M
            · refine lv_aload_n S.1 S.2.1 d_Mo_stepOf_69 rfl (lv_at hl 2 rfl) ?_
              refine m_gs (t := 10) S M (j := 12) ok_Mo (by decide) rfl (by decide) rfl kw_409 rfl d_Mo_stepOf_70 ?_
              refine lv_iload_n S.1 S.2.1 d_Mo_stepOf_73 rfl (lv_at hl 0 rfl) ?_
              refine m_ial (t0 := 0) S M (by decide) rfl rfl h d_Mo_stepOf_74 (fun h => ?_)
              refine lv_iconst (v := 1) S.1 S.2.1 d_Mo_stepOf_75 (by decide) ?_
              refine lv_iadd S.1 S.2.1 d_Mo_stepOf_76 ?_
              refine lv_aload_n S.1 S.2.1 d_Mo_stepOf_77 rfl (lv_at hl 2 rfl) ?_
              refine m_gs (t := 10) S M (j := 12) ok_Mo (by decide) rfl (by decide) rfl kw_409 rfl d_Mo_stepOf_78 ?_
              refine lv_iload_n S.1 S.2.1 d_Mo_stepOf_81 rfl (lv_at hl 3 rfl) ?_
              refine m_ial (t0 := 0) S M (by decide) rfl rfl h d_Mo_stepOf_82 (fun h => ?_)
              refine m_ine (tgt := 88) S d_Mo_stepOf_83 (by decide) h (fun h => ?_) (fun h => ?_)
              · refine lv_iinc (v := t2 + 1) (lv' := [(2, .int (t2 + 1)), (3, .int v1), (0, .ref (ad 0)), (1, .int x1)]) S.1 S.2.1 d_Mo_stepOf_88 hl (k := 1) rfl rfl (by decide) rfl (fun ls hl => ?_)
                refine lv_goto (tgt := 2) S.1 S.2.1 d_Mo_stepOf_91 (by decide) ?_
                exact K1 _ (Option.some.inj h).symm ls _ _ (lv_sub hl [0, 2, 3] rfl) M
              · refine lv_iload_n S.1 S.2.1 d_Mo_stepOf_86 rfl (lv_at hl 1 rfl) ?_
                exact K3 _ (Option.some.inj h).symm _ ls _ _ d_Mo_stepOf_87 M
  · intro e2 q ls H locs hl M
    subst q
    dsimp only [Sum.elim_inl] at h
    refine lv_iconst (v := (-1)) S.1 S.2.1 d_Mo_stepOf_94 (by decide) ?_
    subst hQ; exact m_iret S hr hlk M (by rw [Option.some.inj h]) d_Mo_stepOf_95
  · intro y2 q
    subst q
    dsimp only [Sum.elim_inr] at h
    intro pc ls H locs hd M
    subst hQ; exact m_iret S hr hlk M (by rw [Option.some.inj h]) hd
theorem d_Mo_distance_0 : decode prog_12_method_16_code 0 = .ok (.aload_n 0, 1) := by decide +kernel
theorem d_Mo_distance_1 : decode prog_12_method_16_code 1 = .ok (.iload_n 1, 1) := by decide +kernel
theorem d_Mo_distance_2 : decode prog_12_method_16_code 2 = .ok (.invokevirtual 94, 3) := by decide +kernel
theorem d_Mo_distance_5 : decode prog_12_method_16_code 5 = .ok (.ifCond .ne 5, 3) := by decide +kernel
theorem d_Mo_distance_8 : decode prog_12_method_16_code 8 = .ok (.iconst (-1), 1) := by decide +kernel
theorem d_Mo_distance_9 : decode prog_12_method_16_code 9 = .ok (.ireturn, 1) := by decide +kernel
theorem d_Mo_distance_10 : decode prog_12_method_16_code 10 = .ok (.aload_n 0, 1) := by decide +kernel
theorem d_Mo_distance_11 : decode prog_12_method_16_code 11 = .ok (.invokevirtual 107, 3) := by decide +kernel
theorem d_Mo_distance_14 : decode prog_12_method_16_code 14 = .ok (.aload_n 0, 1) := by decide +kernel
theorem d_Mo_distance_15 : decode prog_12_method_16_code 15 = .ok (.getfield 35, 3) := by decide +kernel
theorem d_Mo_distance_18 : decode prog_12_method_16_code 18 = .ok (.iload_n 1, 1) := by decide +kernel
theorem d_Mo_distance_19 : decode prog_12_method_16_code 19 = .ok (.iaload, 1) := by decide +kernel
theorem d_Mo_distance_20 : decode prog_12_method_16_code 20 = .ok (.ldc 102, 2) := by decide +kernel
theorem d_Mo_distance_22 : decode prog_12_method_16_code 22 = .ok (.if_icmp .ne 8, 3) := by decide +kernel
theorem d_Mo_distance_25 : decode prog_12_method_16_code 25 = .ok (.bipush (-3), 2) := by decide +kernel
theorem d_Mo_distance_27 : decode prog_12_method_16_code 27 = .ok (.goto 9, 3) := by decide +kernel
theorem d_Mo_distance_30 : decode prog_12_method_16_code 30 = .ok (.aload_n 0, 1) := by decide +kernel
theorem d_Mo_distance_31 : decode prog_12_method_16_code 31 = .ok (.getfield 35, 3) := by decide +kernel
theorem d_Mo_distance_34 : decode prog_12_method_16_code 34 = .ok (.iload_n 1, 1) := by decide +kernel
theorem d_Mo_distance_35 : decode prog_12_method_16_code 35 = .ok (.iaload, 1) := by decide +kernel
theorem d_Mo_distance_36 : decode prog_12_method_16_code 36 = .ok (.ireturn, 1) := by decide +kernel
def rm_Mo_distance : Room := { frames := 2, cells := 0, slots := 0, locals := 47 }
def f_Mo_distance (σ : mS) (x1 : Int32) : Option (Int32 × mS) :=
  (f_Mo_isNode σ x1).bind fun v1 =>
  if v1 = 0 then (
  some ((-1), σ)) else (
  (f_Mo_findFar σ).bind fun σ2 =>
  gd (inb x1 10) (
  if (σ2.1 9 x1.toNatClampNeg) = 1000000000 then (
  some ((-3), σ2)) else (
  gd (inb x1 10) (
  some (σ2.1 9 x1.toNatClampNeg, σ2)))))
set_option maxHeartbeats 4000000 in
set_option maxRecDepth 100000 in
theorem c_Mo_distance (l : Launch) (D : va_G) (cA ad : Nat → Nat) (σ : mS) (x1 : Int32) (o : Int32 × mS) (h : f_Mo_distance σ x1 = some o) : mCi l ⟨"LeastPathsModel", "distance", "(I)I"⟩ (Cond.code ⟨"LeastPathsModel", "distance", "(I)I"⟩ prog_12_method_16_code 2 (Option.some Jvm.ClassFile.FieldType.int) :: tlG) rm_Mo_distance D clX (tyK cA) 23 (tbY cA) ad σ [.ref (ad 0), .int x1] o := by
  intro sz
  refine m_of (cc := prog_12_method_16_code) (maxL := 2) (Qc := mQi D clX (tyK cA) 23 (tbY cA) ad o) (by decide) (Nat.le_of_ble_eq_true rfl) (fun p e s m args below meth c ls S hr hlk hnm hl M => ?_) sz
  have hl : lv_has ls 2 [(0, .ref (ad 0)), (1, .int x1)] := hl
  generalize hQ : MQ _ _ _ _ _ _ _ = Q
  skip
  unfold f_Mo_distance at h
  refine lv_aload_n S.1 S.2.1 d_Mo_distance_0 rfl (lv_at hl 0 rfl) ?_
  refine lv_iload_n S.1 S.2.1 d_Mo_distance_1 rfl (lv_at hl 1 rfl) ?_
  refine m_xip h (fun o ho => m_rV (As := [.int x1]) (rest := []) S M hl.1 (cwG (n := 1) S.2.2.2.2 kw_393 kw_394 kw_395 kw_391 kw_396 (by decide) ⟨Nat.le_of_ble_eq_true rfl, Nat.le_of_ble_eq_true rfl⟩) ok_Mo (by decide) rfl (c_Mo_isNode l D cA ad σ x1 o ho _) rfl rfl (Nat.le_of_ble_eq_true rfl) d_Mo_distance_2 ⟨Nat.zero_le _, Nat.zero_le _⟩) M (fun v1 H locs h M => ?_)
  refine m_ifne (tgt := 10) S d_Mo_distance_5 (by decide) h (fun h => ?_) (fun h => ?_)
  · refine lv_aload_n S.1 S.2.1 d_Mo_distance_10 rfl (lv_at hl 0 rfl) ?_
    refine m_xv h (fun o ho => m_rV (As := []) (rest := []) S M hl.1 (cwG (n := 0) S.2.2.2.2 kw_414 kw_415 kw_416 kw_391 kw_417 (by decide) ⟨Nat.le_of_ble_eq_true rfl, Nat.le_of_ble_eq_true rfl⟩) ok_Mo (by decide) rfl (c_Mo_findFar l D cA ad σ o ho _) rfl rfl (Nat.le_of_ble_eq_true rfl) d_Mo_distance_11 ⟨Nat.zero_le _, Nat.zero_le _⟩) M (fun σ2 H locs h M => ?_)
    refine lv_aload_n S.1 S.2.1 d_Mo_distance_14 rfl (lv_at hl 0 rfl) ?_
    refine m_gs (t := 9) S M (j := 11) ok_Mo (by decide) rfl (by decide) rfl kw_407 rfl d_Mo_distance_15 ?_
    refine lv_iload_n S.1 S.2.1 d_Mo_distance_18 rfl (lv_at hl 1 rfl) ?_
    refine m_ial (t0 := 0) S M (by decide) rfl rfl h d_Mo_distance_19 (fun h => ?_)
    refine lv_ldc (v := 1000000000) S.1 S.2.1 S.2.2.2.1 (S.2.2.2.2 _ kw_408) d_Mo_distance_20 ?_
    refine m_ine (tgt := 30) S d_Mo_distance_22 (by decide) h (fun h => ?_) (fun h => ?_)
    · refine lv_aload_n S.1 S.2.1 d_Mo_distance_30 rfl (lv_at hl 0 rfl) ?_
      refine m_gs (t := 9) S M (j := 11) ok_Mo (by decide) rfl (by decide) rfl kw_407 rfl d_Mo_distance_31 ?_
      refine lv_iload_n S.1 S.2.1 d_Mo_distance_34 rfl (lv_at hl 1 rfl) ?_
      refine m_ial (t0 := 0) S M (by decide) rfl rfl h d_Mo_distance_35 (fun h => ?_)
      subst hQ; exact m_iret S hr hlk M (Option.some.inj h) d_Mo_distance_36
    · refine lv_bipush (v := (-3)) S.1 S.2.1 d_Mo_distance_25 (by decide) ?_
      refine lv_goto (tgt := 36) S.1 S.2.1 d_Mo_distance_27 (by decide) ?_
      subst hQ; exact m_iret S hr hlk M (Option.some.inj h) d_Mo_distance_36
  · refine lv_iconst (v := (-1)) S.1 S.2.1 d_Mo_distance_8 (by decide) ?_
    subst hQ; exact m_iret S hr hlk M (Option.some.inj h) d_Mo_distance_9
theorem d_Mo_hops_0 : decode prog_12_method_17_code 0 = .ok (.aload_n 0, 1) := by decide +kernel
theorem d_Mo_hops_1 : decode prog_12_method_17_code 1 = .ok (.iload_n 1, 1) := by decide +kernel
theorem d_Mo_hops_2 : decode prog_12_method_17_code 2 = .ok (.invokevirtual 94, 3) := by decide +kernel
theorem d_Mo_hops_5 : decode prog_12_method_17_code 5 = .ok (.ifCond .ne 5, 3) := by decide +kernel
theorem d_Mo_hops_8 : decode prog_12_method_17_code 8 = .ok (.iconst (-1), 1) := by decide +kernel
theorem d_Mo_hops_9 : decode prog_12_method_17_code 9 = .ok (.ireturn, 1) := by decide +kernel
theorem d_Mo_hops_10 : decode prog_12_method_17_code 10 = .ok (.aload_n 0, 1) := by decide +kernel
theorem d_Mo_hops_11 : decode prog_12_method_17_code 11 = .ok (.invokevirtual 107, 3) := by decide +kernel
theorem d_Mo_hops_14 : decode prog_12_method_17_code 14 = .ok (.aload_n 0, 1) := by decide +kernel
theorem d_Mo_hops_15 : decode prog_12_method_17_code 15 = .ok (.getfield 35, 3) := by decide +kernel
theorem d_Mo_hops_18 : decode prog_12_method_17_code 18 = .ok (.iload_n 1, 1) := by decide +kernel
theorem d_Mo_hops_19 : decode prog_12_method_17_code 19 = .ok (.iaload, 1) := by decide +kernel
theorem d_Mo_hops_20 : decode prog_12_method_17_code 20 = .ok (.ldc 102, 2) := by decide +kernel
theorem d_Mo_hops_22 : decode prog_12_method_17_code 22 = .ok (.if_icmp .ne 8, 3) := by decide +kernel
theorem d_Mo_hops_25 : decode prog_12_method_17_code 25 = .ok (.bipush (-3), 2) := by decide +kernel
theorem d_Mo_hops_27 : decode prog_12_method_17_code 27 = .ok (.goto 9, 3) := by decide +kernel
theorem d_Mo_hops_30 : decode prog_12_method_17_code 30 = .ok (.aload_n 0, 1) := by decide +kernel
theorem d_Mo_hops_31 : decode prog_12_method_17_code 31 = .ok (.getfield 38, 3) := by decide +kernel
theorem d_Mo_hops_34 : decode prog_12_method_17_code 34 = .ok (.iload_n 1, 1) := by decide +kernel
theorem d_Mo_hops_35 : decode prog_12_method_17_code 35 = .ok (.iaload, 1) := by decide +kernel
theorem d_Mo_hops_36 : decode prog_12_method_17_code 36 = .ok (.ireturn, 1) := by decide +kernel
def rm_Mo_hops : Room := { frames := 2, cells := 0, slots := 0, locals := 47 }
def f_Mo_hops (σ : mS) (x1 : Int32) : Option (Int32 × mS) :=
  (f_Mo_isNode σ x1).bind fun v1 =>
  if v1 = 0 then (
  some ((-1), σ)) else (
  (f_Mo_findFar σ).bind fun σ2 =>
  gd (inb x1 10) (
  if (σ2.1 9 x1.toNatClampNeg) = 1000000000 then (
  some ((-3), σ2)) else (
  gd (inb x1 10) (
  some (σ2.1 10 x1.toNatClampNeg, σ2)))))
set_option maxHeartbeats 4000000 in
set_option maxRecDepth 100000 in
theorem c_Mo_hops (l : Launch) (D : va_G) (cA ad : Nat → Nat) (σ : mS) (x1 : Int32) (o : Int32 × mS) (h : f_Mo_hops σ x1 = some o) : mCi l ⟨"LeastPathsModel", "hops", "(I)I"⟩ (Cond.code ⟨"LeastPathsModel", "hops", "(I)I"⟩ prog_12_method_17_code 2 (Option.some Jvm.ClassFile.FieldType.int) :: tlG) rm_Mo_hops D clX (tyK cA) 23 (tbY cA) ad σ [.ref (ad 0), .int x1] o := by
  intro sz
  refine m_of (cc := prog_12_method_17_code) (maxL := 2) (Qc := mQi D clX (tyK cA) 23 (tbY cA) ad o) (by decide) (Nat.le_of_ble_eq_true rfl) (fun p e s m args below meth c ls S hr hlk hnm hl M => ?_) sz
  have hl : lv_has ls 2 [(0, .ref (ad 0)), (1, .int x1)] := hl
  generalize hQ : MQ _ _ _ _ _ _ _ = Q
  skip
  unfold f_Mo_hops at h
  refine lv_aload_n S.1 S.2.1 d_Mo_hops_0 rfl (lv_at hl 0 rfl) ?_
  refine lv_iload_n S.1 S.2.1 d_Mo_hops_1 rfl (lv_at hl 1 rfl) ?_
  refine m_xip h (fun o ho => m_rV (As := [.int x1]) (rest := []) S M hl.1 (cwG (n := 1) S.2.2.2.2 kw_393 kw_394 kw_395 kw_391 kw_396 (by decide) ⟨Nat.le_of_ble_eq_true rfl, Nat.le_of_ble_eq_true rfl⟩) ok_Mo (by decide) rfl (c_Mo_isNode l D cA ad σ x1 o ho _) rfl rfl (Nat.le_of_ble_eq_true rfl) d_Mo_hops_2 ⟨Nat.zero_le _, Nat.zero_le _⟩) M (fun v1 H locs h M => ?_)
  refine m_ifne (tgt := 10) S d_Mo_hops_5 (by decide) h (fun h => ?_) (fun h => ?_)
  · refine lv_aload_n S.1 S.2.1 d_Mo_hops_10 rfl (lv_at hl 0 rfl) ?_
    refine m_xv h (fun o ho => m_rV (As := []) (rest := []) S M hl.1 (cwG (n := 0) S.2.2.2.2 kw_414 kw_415 kw_416 kw_391 kw_417 (by decide) ⟨Nat.le_of_ble_eq_true rfl, Nat.le_of_ble_eq_true rfl⟩) ok_Mo (by decide) rfl (c_Mo_findFar l D cA ad σ o ho _) rfl rfl (Nat.le_of_ble_eq_true rfl) d_Mo_hops_11 ⟨Nat.zero_le _, Nat.zero_le _⟩) M (fun σ2 H locs h M => ?_)
    refine lv_aload_n S.1 S.2.1 d_Mo_hops_14 rfl (lv_at hl 0 rfl) ?_
    refine m_gs (t := 9) S M (j := 11) ok_Mo (by decide) rfl (by decide) rfl kw_407 rfl d_Mo_hops_15 ?_
    refine lv_iload_n S.1 S.2.1 d_Mo_hops_18 rfl (lv_at hl 1 rfl) ?_
    refine m_ial (t0 := 0) S M (by decide) rfl rfl h d_Mo_hops_19 (fun h => ?_)
    refine lv_ldc (v := 1000000000) S.1 S.2.1 S.2.2.2.1 (S.2.2.2.2 _ kw_408) d_Mo_hops_20 ?_
    refine m_ine (tgt := 30) S d_Mo_hops_22 (by decide) h (fun h => ?_) (fun h => ?_)
    · refine lv_aload_n S.1 S.2.1 d_Mo_hops_30 rfl (lv_at hl 0 rfl) ?_
      refine m_gs (t := 10) S M (j := 12) ok_Mo (by decide) rfl (by decide) rfl kw_409 rfl d_Mo_hops_31 ?_
      refine lv_iload_n S.1 S.2.1 d_Mo_hops_34 rfl (lv_at hl 1 rfl) ?_
      refine m_ial (t0 := 0) S M (by decide) rfl rfl h d_Mo_hops_35 (fun h => ?_)
      subst hQ; exact m_iret S hr hlk M (Option.some.inj h) d_Mo_hops_36
    · refine lv_bipush (v := (-3)) S.1 S.2.1 d_Mo_hops_25 (by decide) ?_
      refine lv_goto (tgt := 36) S.1 S.2.1 d_Mo_hops_27 (by decide) ?_
      subst hQ; exact m_iret S hr hlk M (Option.some.inj h) d_Mo_hops_36
  · refine lv_iconst (v := (-1)) S.1 S.2.1 d_Mo_hops_8 (by decide) ?_
    subst hQ; exact m_iret S hr hlk M (Option.some.inj h) d_Mo_hops_9
theorem d_Mo_step_0 : decode prog_12_method_18_code 0 = .ok (.aload_n 0, 1) := by decide +kernel
theorem d_Mo_step_1 : decode prog_12_method_18_code 1 = .ok (.iload_n 1, 1) := by decide +kernel
theorem d_Mo_step_2 : decode prog_12_method_18_code 2 = .ok (.invokevirtual 94, 3) := by decide +kernel
theorem d_Mo_step_5 : decode prog_12_method_18_code 5 = .ok (.ifCond .ne 5, 3) := by decide +kernel
theorem d_Mo_step_8 : decode prog_12_method_18_code 8 = .ok (.iconst (-1), 1) := by decide +kernel
theorem d_Mo_step_9 : decode prog_12_method_18_code 9 = .ok (.ireturn, 1) := by decide +kernel
theorem d_Mo_step_10 : decode prog_12_method_18_code 10 = .ok (.aload_n 0, 1) := by decide +kernel
theorem d_Mo_step_11 : decode prog_12_method_18_code 11 = .ok (.invokevirtual 107, 3) := by decide +kernel
theorem d_Mo_step_14 : decode prog_12_method_18_code 14 = .ok (.aload_n 0, 1) := by decide +kernel
theorem d_Mo_step_15 : decode prog_12_method_18_code 15 = .ok (.getfield 35, 3) := by decide +kernel
theorem d_Mo_step_18 : decode prog_12_method_18_code 18 = .ok (.iload_n 1, 1) := by decide +kernel
theorem d_Mo_step_19 : decode prog_12_method_18_code 19 = .ok (.iaload, 1) := by decide +kernel
theorem d_Mo_step_20 : decode prog_12_method_18_code 20 = .ok (.ldc 102, 2) := by decide +kernel
theorem d_Mo_step_22 : decode prog_12_method_18_code 22 = .ok (.if_icmp .eq 12, 3) := by decide +kernel
theorem d_Mo_step_25 : decode prog_12_method_18_code 25 = .ok (.aload_n 0, 1) := by decide +kernel
theorem d_Mo_step_26 : decode prog_12_method_18_code 26 = .ok (.getfield 38, 3) := by decide +kernel
theorem d_Mo_step_29 : decode prog_12_method_18_code 29 = .ok (.iload_n 1, 1) := by decide +kernel
theorem d_Mo_step_30 : decode prog_12_method_18_code 30 = .ok (.iaload, 1) := by decide +kernel
theorem d_Mo_step_31 : decode prog_12_method_18_code 31 = .ok (.ifCond .ne 6, 3) := by decide +kernel
theorem d_Mo_step_34 : decode prog_12_method_18_code 34 = .ok (.bipush (-3), 2) := by decide +kernel
theorem d_Mo_step_36 : decode prog_12_method_18_code 36 = .ok (.ireturn, 1) := by decide +kernel
theorem d_Mo_step_37 : decode prog_12_method_18_code 37 = .ok (.aload_n 0, 1) := by decide +kernel
theorem d_Mo_step_38 : decode prog_12_method_18_code 38 = .ok (.iload_n 1, 1) := by decide +kernel
theorem d_Mo_step_39 : decode prog_12_method_18_code 39 = .ok (.invokevirtual 110, 3) := by decide +kernel
theorem d_Mo_step_42 : decode prog_12_method_18_code 42 = .ok (.ireturn, 1) := by decide +kernel
def rm_Mo_step : Room := { frames := 2, cells := 0, slots := 0, locals := 47 }
def f_Mo_step (σ : mS) (x1 : Int32) : Option (Int32 × mS) :=
  (f_Mo_isNode σ x1).bind fun v1 =>
  if v1 = 0 then (
  some ((-1), σ)) else (
  (f_Mo_findFar σ).bind fun σ2 =>
  gd (inb x1 10) (
  if (σ2.1 9 x1.toNatClampNeg) = 1000000000 then (
  some ((-3), σ2)) else (
  gd (inb x1 10) (
  if (σ2.1 10 x1.toNatClampNeg) = 0 then (
  some ((-3), σ2)) else (
  (f_Mo_stepOf σ2 x1).bind fun v3 =>
  some (v3, σ2))))))
set_option maxHeartbeats 4000000 in
set_option maxRecDepth 100000 in
theorem c_Mo_step (l : Launch) (D : va_G) (cA ad : Nat → Nat) (σ : mS) (x1 : Int32) (o : Int32 × mS) (h : f_Mo_step σ x1 = some o) : mCi l ⟨"LeastPathsModel", "step", "(I)I"⟩ (Cond.code ⟨"LeastPathsModel", "step", "(I)I"⟩ prog_12_method_18_code 2 (Option.some Jvm.ClassFile.FieldType.int) :: tlG) rm_Mo_step D clX (tyK cA) 23 (tbY cA) ad σ [.ref (ad 0), .int x1] o := by
  intro sz
  refine m_of (cc := prog_12_method_18_code) (maxL := 2) (Qc := mQi D clX (tyK cA) 23 (tbY cA) ad o) (by decide) (Nat.le_of_ble_eq_true rfl) (fun p e s m args below meth c ls S hr hlk hnm hl M => ?_) sz
  have hl : lv_has ls 2 [(0, .ref (ad 0)), (1, .int x1)] := hl
  generalize hQ : MQ _ _ _ _ _ _ _ = Q
  skip
  unfold f_Mo_step at h
  refine lv_aload_n S.1 S.2.1 d_Mo_step_0 rfl (lv_at hl 0 rfl) ?_
  refine lv_iload_n S.1 S.2.1 d_Mo_step_1 rfl (lv_at hl 1 rfl) ?_
  refine m_xip h (fun o ho => m_rV (As := [.int x1]) (rest := []) S M hl.1 (cwG (n := 1) S.2.2.2.2 kw_393 kw_394 kw_395 kw_391 kw_396 (by decide) ⟨Nat.le_of_ble_eq_true rfl, Nat.le_of_ble_eq_true rfl⟩) ok_Mo (by decide) rfl (c_Mo_isNode l D cA ad σ x1 o ho _) rfl rfl (Nat.le_of_ble_eq_true rfl) d_Mo_step_2 ⟨Nat.zero_le _, Nat.zero_le _⟩) M (fun v1 H locs h M => ?_)
  refine m_ifne (tgt := 10) S d_Mo_step_5 (by decide) h (fun h => ?_) (fun h => ?_)
  · refine lv_aload_n S.1 S.2.1 d_Mo_step_10 rfl (lv_at hl 0 rfl) ?_
    refine m_xv h (fun o ho => m_rV (As := []) (rest := []) S M hl.1 (cwG (n := 0) S.2.2.2.2 kw_414 kw_415 kw_416 kw_391 kw_417 (by decide) ⟨Nat.le_of_ble_eq_true rfl, Nat.le_of_ble_eq_true rfl⟩) ok_Mo (by decide) rfl (c_Mo_findFar l D cA ad σ o ho _) rfl rfl (Nat.le_of_ble_eq_true rfl) d_Mo_step_11 ⟨Nat.zero_le _, Nat.zero_le _⟩) M (fun σ2 H locs h M => ?_)
    refine lv_aload_n S.1 S.2.1 d_Mo_step_14 rfl (lv_at hl 0 rfl) ?_
    refine m_gs (t := 9) S M (j := 11) ok_Mo (by decide) rfl (by decide) rfl kw_407 rfl d_Mo_step_15 ?_
    refine lv_iload_n S.1 S.2.1 d_Mo_step_18 rfl (lv_at hl 1 rfl) ?_
    refine m_ial (t0 := 0) S M (by decide) rfl rfl h d_Mo_step_19 (fun h => ?_)
    refine lv_ldc (v := 1000000000) S.1 S.2.1 S.2.2.2.1 (S.2.2.2.2 _ kw_408) d_Mo_step_20 ?_
    refine m_ieq (tgt := 34) S d_Mo_step_22 (by decide) h (fun h => ?_) (fun h => ?_)
    · refine lv_bipush (v := (-3)) S.1 S.2.1 d_Mo_step_34 (by decide) ?_
      subst hQ; exact m_iret S hr hlk M (Option.some.inj h) d_Mo_step_36
    · refine lv_aload_n S.1 S.2.1 d_Mo_step_25 rfl (lv_at hl 0 rfl) ?_
      refine m_gs (t := 10) S M (j := 12) ok_Mo (by decide) rfl (by decide) rfl kw_409 rfl d_Mo_step_26 ?_
      refine lv_iload_n S.1 S.2.1 d_Mo_step_29 rfl (lv_at hl 1 rfl) ?_
      refine m_ial (t0 := 0) S M (by decide) rfl rfl h d_Mo_step_30 (fun h => ?_)
      refine m_ifne (tgt := 37) S d_Mo_step_31 (by decide) h (fun h => ?_) (fun h => ?_)
      · refine lv_aload_n S.1 S.2.1 d_Mo_step_37 rfl (lv_at hl 0 rfl) ?_
        refine lv_iload_n S.1 S.2.1 d_Mo_step_38 rfl (lv_at hl 1 rfl) ?_
        refine m_xip h (fun o ho => m_rV (As := [.int x1]) (rest := []) S M hl.1 (cwG (n := 1) S.2.2.2.2 kw_418 kw_419 kw_420 kw_391 kw_421 (by decide) ⟨Nat.le_of_ble_eq_true rfl, Nat.le_of_ble_eq_true rfl⟩) ok_Mo (by decide) rfl (c_Mo_stepOf l D cA ad σ2 x1 o ho _) rfl rfl (Nat.le_of_ble_eq_true rfl) d_Mo_step_39 ⟨Nat.zero_le _, Nat.zero_le _⟩) M (fun v3 H locs h M => ?_)
        subst hQ; exact m_iret S hr hlk M (Option.some.inj h) d_Mo_step_42
      · refine lv_bipush (v := (-3)) S.1 S.2.1 d_Mo_step_34 (by decide) ?_
        subst hQ; exact m_iret S hr hlk M (Option.some.inj h) d_Mo_step_36
  · refine lv_iconst (v := (-1)) S.1 S.2.1 d_Mo_step_8 (by decide) ?_
    subst hQ; exact m_iret S hr hlk M (Option.some.inj h) d_Mo_step_9
