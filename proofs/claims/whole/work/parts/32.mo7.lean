theorem d_Mo_widest_0 : decode prog_12_method_42_code 0 = .ok (.aload_n 0, 1) := by decide +kernel
theorem d_Mo_widest_1 : decode prog_12_method_42_code 1 = .ok (.iload_n 1, 1) := by decide +kernel
theorem d_Mo_widest_2 : decode prog_12_method_42_code 2 = .ok (.invokevirtual 94, 3) := by decide +kernel
theorem d_Mo_widest_5 : decode prog_12_method_42_code 5 = .ok (.ifCond .eq 16, 3) := by decide +kernel
theorem d_Mo_widest_8 : decode prog_12_method_42_code 8 = .ok (.aload_n 0, 1) := by decide +kernel
theorem d_Mo_widest_9 : decode prog_12_method_42_code 9 = .ok (.iload_n 2, 1) := by decide +kernel
theorem d_Mo_widest_10 : decode prog_12_method_42_code 10 = .ok (.invokevirtual 94, 3) := by decide +kernel
theorem d_Mo_widest_13 : decode prog_12_method_42_code 13 = .ok (.ifCond .eq 8, 3) := by decide +kernel
theorem d_Mo_widest_16 : decode prog_12_method_42_code 16 = .ok (.iload_n 1, 1) := by decide +kernel
theorem d_Mo_widest_17 : decode prog_12_method_42_code 17 = .ok (.iload_n 2, 1) := by decide +kernel
theorem d_Mo_widest_18 : decode prog_12_method_42_code 18 = .ok (.if_icmp .ne 5, 3) := by decide +kernel
theorem d_Mo_widest_21 : decode prog_12_method_42_code 21 = .ok (.iconst (-1), 1) := by decide +kernel
theorem d_Mo_widest_22 : decode prog_12_method_42_code 22 = .ok (.ireturn, 1) := by decide +kernel
theorem d_Mo_widest_23 : decode prog_12_method_42_code 23 = .ok (.iconst 0, 1) := by decide +kernel
theorem d_Mo_widest_24 : decode prog_12_method_42_code 24 = .ok (.istore_n 3, 1) := by decide +kernel
theorem d_Mo_widest_25 : decode prog_12_method_42_code 25 = .ok (.iload_n 3, 1) := by decide +kernel
theorem d_Mo_widest_26 : decode prog_12_method_42_code 26 = .ok (.aload_n 0, 1) := by decide +kernel
theorem d_Mo_widest_27 : decode prog_12_method_42_code 27 = .ok (.getfield 85, 3) := by decide +kernel
theorem d_Mo_widest_30 : decode prog_12_method_42_code 30 = .ok (.if_icmp .ge 26, 3) := by decide +kernel
theorem d_Mo_widest_33 : decode prog_12_method_42_code 33 = .ok (.aload_n 0, 1) := by decide +kernel
theorem d_Mo_widest_34 : decode prog_12_method_42_code 34 = .ok (.getfield 35, 3) := by decide +kernel
theorem d_Mo_widest_37 : decode prog_12_method_42_code 37 = .ok (.iload_n 3, 1) := by decide +kernel
theorem d_Mo_widest_38 : decode prog_12_method_42_code 38 = .ok (.iload_n 3, 1) := by decide +kernel
theorem d_Mo_widest_39 : decode prog_12_method_42_code 39 = .ok (.iload_n 1, 1) := by decide +kernel
theorem d_Mo_widest_40 : decode prog_12_method_42_code 40 = .ok (.if_icmp .ne 8, 3) := by decide +kernel
theorem d_Mo_widest_43 : decode prog_12_method_42_code 43 = .ok (.ldc 102, 2) := by decide +kernel
theorem d_Mo_widest_45 : decode prog_12_method_42_code 45 = .ok (.goto 4, 3) := by decide +kernel
theorem d_Mo_widest_48 : decode prog_12_method_42_code 48 = .ok (.iconst (-1), 1) := by decide +kernel
theorem d_Mo_widest_49 : decode prog_12_method_42_code 49 = .ok (.iastore, 1) := by decide +kernel
theorem d_Mo_widest_50 : decode prog_12_method_42_code 50 = .ok (.iinc 3 1, 3) := by decide +kernel
theorem d_Mo_widest_53 : decode prog_12_method_42_code 53 = .ok (.goto (-28), 3) := by decide +kernel
theorem d_Mo_widest_56 : decode prog_12_method_42_code 56 = .ok (.iconst 1, 1) := by decide +kernel
theorem d_Mo_widest_57 : decode prog_12_method_42_code 57 = .ok (.istore_n 3, 1) := by decide +kernel
theorem d_Mo_widest_58 : decode prog_12_method_42_code 58 = .ok (.iload_n 3, 1) := by decide +kernel
theorem d_Mo_widest_59 : decode prog_12_method_42_code 59 = .ok (.ifCond .eq 115, 3) := by decide +kernel
theorem d_Mo_widest_62 : decode prog_12_method_42_code 62 = .ok (.iconst 0, 1) := by decide +kernel
theorem d_Mo_widest_63 : decode prog_12_method_42_code 63 = .ok (.istore_n 3, 1) := by decide +kernel
theorem d_Mo_widest_64 : decode prog_12_method_42_code 64 = .ok (.iconst 0, 1) := by decide +kernel
theorem d_Mo_widest_65 : decode prog_12_method_42_code 65 = .ok (.istore 4, 2) := by decide +kernel
theorem d_Mo_widest_67 : decode prog_12_method_42_code 67 = .ok (.iload 4, 2) := by decide +kernel
theorem d_Mo_widest_69 : decode prog_12_method_42_code 69 = .ok (.aload_n 0, 1) := by decide +kernel
theorem d_Mo_widest_70 : decode prog_12_method_42_code 70 = .ok (.getfield 88, 3) := by decide +kernel
theorem d_Mo_widest_73 : decode prog_12_method_42_code 73 = .ok (.if_icmp .ge 98, 3) := by decide +kernel
theorem d_Mo_widest_76 : decode prog_12_method_42_code 76 = .ok (.aload_n 0, 1) := by decide +kernel
theorem d_Mo_widest_77 : decode prog_12_method_42_code 77 = .ok (.getfield 35, 3) := by decide +kernel
theorem d_Mo_widest_80 : decode prog_12_method_42_code 80 = .ok (.aload_n 0, 1) := by decide +kernel
theorem d_Mo_widest_81 : decode prog_12_method_42_code 81 = .ok (.getfield 7, 3) := by decide +kernel
theorem d_Mo_widest_84 : decode prog_12_method_42_code 84 = .ok (.iload 4, 2) := by decide +kernel
theorem d_Mo_widest_86 : decode prog_12_method_42_code 86 = .ok (.iaload, 1) := by decide +kernel
theorem d_Mo_widest_87 : decode prog_12_method_42_code 87 = .ok (.iaload, 1) := by decide +kernel
theorem d_Mo_widest_88 : decode prog_12_method_42_code 88 = .ok (.aload_n 0, 1) := by decide +kernel
theorem d_Mo_widest_89 : decode prog_12_method_42_code 89 = .ok (.getfield 16, 3) := by decide +kernel
theorem d_Mo_widest_92 : decode prog_12_method_42_code 92 = .ok (.iload 4, 2) := by decide +kernel
theorem d_Mo_widest_94 : decode prog_12_method_42_code 94 = .ok (.iaload, 1) := by decide +kernel
theorem d_Mo_widest_95 : decode prog_12_method_42_code 95 = .ok (.if_icmp .ge 18, 3) := by decide +kernel
theorem d_Mo_widest_98 : decode prog_12_method_42_code 98 = .ok (.aload_n 0, 1) := by decide +kernel
theorem d_Mo_widest_99 : decode prog_12_method_42_code 99 = .ok (.getfield 35, 3) := by decide +kernel
theorem d_Mo_widest_102 : decode prog_12_method_42_code 102 = .ok (.aload_n 0, 1) := by decide +kernel
theorem d_Mo_widest_103 : decode prog_12_method_42_code 103 = .ok (.getfield 7, 3) := by decide +kernel
theorem d_Mo_widest_106 : decode prog_12_method_42_code 106 = .ok (.iload 4, 2) := by decide +kernel
theorem d_Mo_widest_108 : decode prog_12_method_42_code 108 = .ok (.iaload, 1) := by decide +kernel
theorem d_Mo_widest_109 : decode prog_12_method_42_code 109 = .ok (.iaload, 1) := by decide +kernel
theorem d_Mo_widest_110 : decode prog_12_method_42_code 110 = .ok (.goto 10, 3) := by decide +kernel
theorem d_Mo_widest_113 : decode prog_12_method_42_code 113 = .ok (.aload_n 0, 1) := by decide +kernel
theorem d_Mo_widest_114 : decode prog_12_method_42_code 114 = .ok (.getfield 16, 3) := by decide +kernel
theorem d_Mo_widest_117 : decode prog_12_method_42_code 117 = .ok (.iload 4, 2) := by decide +kernel
theorem d_Mo_widest_119 : decode prog_12_method_42_code 119 = .ok (.iaload, 1) := by decide +kernel
theorem d_Mo_widest_120 : decode prog_12_method_42_code 120 = .ok (.istore 5, 2) := by decide +kernel
theorem d_Mo_widest_122 : decode prog_12_method_42_code 122 = .ok (.aload_n 0, 1) := by decide +kernel
theorem d_Mo_widest_123 : decode prog_12_method_42_code 123 = .ok (.getfield 25, 3) := by decide +kernel
theorem d_Mo_widest_126 : decode prog_12_method_42_code 126 = .ok (.iload 4, 2) := by decide +kernel
theorem d_Mo_widest_128 : decode prog_12_method_42_code 128 = .ok (.baload, 1) := by decide +kernel
theorem d_Mo_widest_129 : decode prog_12_method_42_code 129 = .ok (.ifCond .eq 36, 3) := by decide +kernel
theorem d_Mo_widest_132 : decode prog_12_method_42_code 132 = .ok (.iload 5, 2) := by decide +kernel
theorem d_Mo_widest_134 : decode prog_12_method_42_code 134 = .ok (.aload_n 0, 1) := by decide +kernel
theorem d_Mo_widest_135 : decode prog_12_method_42_code 135 = .ok (.getfield 35, 3) := by decide +kernel
theorem d_Mo_widest_138 : decode prog_12_method_42_code 138 = .ok (.aload_n 0, 1) := by decide +kernel
theorem d_Mo_widest_139 : decode prog_12_method_42_code 139 = .ok (.getfield 13, 3) := by decide +kernel
theorem d_Mo_widest_142 : decode prog_12_method_42_code 142 = .ok (.iload 4, 2) := by decide +kernel
theorem d_Mo_widest_144 : decode prog_12_method_42_code 144 = .ok (.iaload, 1) := by decide +kernel
theorem d_Mo_widest_145 : decode prog_12_method_42_code 145 = .ok (.iaload, 1) := by decide +kernel
theorem d_Mo_widest_146 : decode prog_12_method_42_code 146 = .ok (.if_icmp .le 19, 3) := by decide +kernel
theorem d_Mo_widest_149 : decode prog_12_method_42_code 149 = .ok (.aload_n 0, 1) := by decide +kernel
theorem d_Mo_widest_150 : decode prog_12_method_42_code 150 = .ok (.getfield 35, 3) := by decide +kernel
theorem d_Mo_widest_153 : decode prog_12_method_42_code 153 = .ok (.aload_n 0, 1) := by decide +kernel
theorem d_Mo_widest_154 : decode prog_12_method_42_code 154 = .ok (.getfield 13, 3) := by decide +kernel
theorem d_Mo_widest_157 : decode prog_12_method_42_code 157 = .ok (.iload 4, 2) := by decide +kernel
theorem d_Mo_widest_159 : decode prog_12_method_42_code 159 = .ok (.iaload, 1) := by decide +kernel
theorem d_Mo_widest_160 : decode prog_12_method_42_code 160 = .ok (.iload 5, 2) := by decide +kernel
theorem d_Mo_widest_162 : decode prog_12_method_42_code 162 = .ok (.iastore, 1) := by decide +kernel
theorem d_Mo_widest_163 : decode prog_12_method_42_code 163 = .ok (.iconst 1, 1) := by decide +kernel
theorem d_Mo_widest_164 : decode prog_12_method_42_code 164 = .ok (.istore_n 3, 1) := by decide +kernel
theorem d_Mo_widest_165 : decode prog_12_method_42_code 165 = .ok (.iinc 4 1, 3) := by decide +kernel
theorem d_Mo_widest_168 : decode prog_12_method_42_code 168 = .ok (.goto (-101), 3) := by decide +kernel
theorem d_Mo_widest_171 : decode prog_12_method_42_code 171 = .ok (.goto (-113), 3) := by decide +kernel
theorem d_Mo_widest_174 : decode prog_12_method_42_code 174 = .ok (.aload_n 0, 1) := by decide +kernel
theorem d_Mo_widest_175 : decode prog_12_method_42_code 175 = .ok (.getfield 35, 3) := by decide +kernel
theorem d_Mo_widest_178 : decode prog_12_method_42_code 178 = .ok (.iload_n 2, 1) := by decide +kernel
theorem d_Mo_widest_179 : decode prog_12_method_42_code 179 = .ok (.iaload, 1) := by decide +kernel
theorem d_Mo_widest_180 : decode prog_12_method_42_code 180 = .ok (.ifCond .ge 8, 3) := by decide +kernel
theorem d_Mo_widest_183 : decode prog_12_method_42_code 183 = .ok (.bipush (-3), 2) := by decide +kernel
theorem d_Mo_widest_185 : decode prog_12_method_42_code 185 = .ok (.goto 9, 3) := by decide +kernel
theorem d_Mo_widest_188 : decode prog_12_method_42_code 188 = .ok (.aload_n 0, 1) := by decide +kernel
theorem d_Mo_widest_189 : decode prog_12_method_42_code 189 = .ok (.getfield 35, 3) := by decide +kernel
theorem d_Mo_widest_192 : decode prog_12_method_42_code 192 = .ok (.iload_n 2, 1) := by decide +kernel
theorem d_Mo_widest_193 : decode prog_12_method_42_code 193 = .ok (.iaload, 1) := by decide +kernel
theorem d_Mo_widest_194 : decode prog_12_method_42_code 194 = .ok (.ireturn, 1) := by decide +kernel
def rm_Mo_widest : Room := { frames := 1, cells := 0, slots := 0, locals := 21 }
def f_Mo_widest_L25 (x1 : Int32) : (Int32 × mS) → Option ((Int32 × mS) ⊕ (Int32 × mS)) := fun t25 =>
  if (t25.2.1 0 1) ≤ t25.1 then (
  some (.inr (t25.1, t25.2))) else (
  if t25.1 = x1 then (
  gd (inb t25.1 10) ((nm (sI t25.2 9 t25.1.toNatClampNeg 1000000000) fun σ4 =>
  some (.inl (t25.1 + 1, σ4))))) else (
  gd (inb t25.1 10) ((nm (sI t25.2 9 t25.1.toNatClampNeg ((-1))) fun σ3 =>
  some (.inl (t25.1 + 1, σ3))))))
def f_Mo_widest_J120 (t67 : Int32 × Int32 × mS) (j5 : Int32) : Option ((Int32 × Int32 × mS) ⊕ (Int32 × Int32 × mS)) :=
  gd (inb t67.2.1 40) (
  if (t67.2.2.1 6 t67.2.1.toNatClampNeg) = 0 then (
  some (.inl (t67.1, t67.2.1 + 1, t67.2.2))) else (
  gd (inb t67.2.1 40) (
  gd (inb (t67.2.2.1 2 t67.2.1.toNatClampNeg) 10) (
  if j5 ≤ (t67.2.2.1 9 (t67.2.2.1 2 t67.2.1.toNatClampNeg).toNatClampNeg) then (
  some (.inl (t67.1, t67.2.1 + 1, t67.2.2))) else (
  gd (inb t67.2.1 40) (
  gd (inb (t67.2.2.1 2 t67.2.1.toNatClampNeg) 10) ((nm (sI t67.2.2 9 (t67.2.2.1 2 t67.2.1.toNatClampNeg).toNatClampNeg j5) fun σ6 =>
  some (.inl (1, t67.2.1 + 1, σ6))))))))))
def f_Mo_widest_L67 : (Int32 × Int32 × mS) → Option ((Int32 × Int32 × mS) ⊕ (Int32 × Int32 × mS)) := fun t67 =>
  if (t67.2.2.1 0 2) ≤ t67.2.1 then (
  some (.inr (t67.1, t67.2.1, t67.2.2))) else (
  gd (inb t67.2.1 40) (
  gd (inb (t67.2.2.1 1 t67.2.1.toNatClampNeg) 10) (
  gd (inb t67.2.1 40) (
  if (t67.2.2.1 3 t67.2.1.toNatClampNeg) ≤ (t67.2.2.1 9 (t67.2.2.1 1 t67.2.1.toNatClampNeg).toNatClampNeg) then (
  gd (inb t67.2.1 40) (
  f_Mo_widest_J120 t67 (t67.2.2.1 3 t67.2.1.toNatClampNeg))) else (
  gd (inb t67.2.1 40) (
  gd (inb (t67.2.2.1 1 t67.2.1.toNatClampNeg) 10) (
  f_Mo_widest_J120 t67 (t67.2.2.1 9 (t67.2.2.1 1 t67.2.1.toNatClampNeg).toNatClampNeg))))))))
def f_Mo_widest_L58 : (Int32 × mS) → Option ((Int32 × mS) ⊕ (Int32 × mS)) := fun t58 =>
  if t58.1 = 0 then (
  some (.inr (t58.1, t58.2))) else (
  (lpN (f_Mo_widest_L67) fuB (0, 0, t58.2)).bind fun u67 =>
  some (.inl (u67.1, u67.2.2)))
def f_Mo_widest (σ : mS) (x1 : Int32) (x2 : Int32) : Option (Int32 × mS) :=
  (f_Mo_isNode σ x1).bind fun v1 =>
  if v1 = 0 then (
  some ((-1), σ)) else (
  (f_Mo_isNode σ x2).bind fun v2 =>
  if v2 = 0 then (
  some ((-1), σ)) else (
  if x1 = x2 then (
  some ((-1), σ)) else (
  (lpN (f_Mo_widest_L25 x1) fuB (0, σ)).bind fun u25 =>
  (lpN (f_Mo_widest_L58) fuB (1, u25.2)).bind fun u58 =>
  gd (inb x2 10) (
  if 0 ≤ (u58.2.1 9 x2.toNatClampNeg) then (
  gd (inb x2 10) (
  some (u58.2.1 9 x2.toNatClampNeg, u58.2))) else (
  some ((-3), u58.2))))))
set_option maxHeartbeats 4000000 in
set_option maxRecDepth 100000 in
theorem c_Mo_widest (l : Launch) (D : va_G) (cA ad : Nat → Nat) (σ : mS) (x1 : Int32) (x2 : Int32) (o : Int32 × mS) (h : f_Mo_widest σ x1 x2 = some o) : mCi l ⟨"LeastPathsModel", "widest", "(II)I"⟩ (Cond.code ⟨"LeastPathsModel", "widest", "(II)I"⟩ prog_12_method_42_code 6 (Option.some Jvm.ClassFile.FieldType.int) :: tlG) rm_Mo_widest D clX (tyK cA) 23 (tbY cA) ad σ [.ref (ad 0), .int x1, .int x2] o := by
  intro sz
  refine m_of (cc := prog_12_method_42_code) (maxL := 6) (Qc := mQi D clX (tyK cA) 23 (tbY cA) ad o) (by decide) (Nat.le_of_ble_eq_true rfl) (fun p e s m args below meth c ls S hr hlk hnm hl M => ?_) sz
  have hl : lv_has ls 6 [(0, .ref (ad 0)), (1, .int x1), (2, .int x2)] := hl
  generalize hQ : MQ _ _ _ _ _ _ _ = Q
  skip
  unfold f_Mo_widest at h
  refine lv_aload_n S.1 S.2.1 d_Mo_widest_0 rfl (lv_at hl 0 rfl) ?_
  refine lv_iload_n S.1 S.2.1 d_Mo_widest_1 rfl (lv_at hl 1 rfl) ?_
  refine m_xip h (fun o ho => m_rV (As := [.int x1]) (rest := []) S M hl.1 (cwG (n := 1) S.2.2.2.2 kw_393 kw_394 kw_395 kw_391 kw_396 (by decide) ⟨Nat.le_of_ble_eq_true rfl, Nat.le_of_ble_eq_true rfl⟩) ok_Mo (by decide) rfl (c_Mo_isNode l D cA ad σ x1 o ho _) rfl rfl (Nat.le_of_ble_eq_true rfl) d_Mo_widest_2 ⟨Nat.zero_le _, Nat.zero_le _⟩) M (fun v1 H locs h M => ?_)
  refine m_ifeq (tgt := 21) S d_Mo_widest_5 (by decide) h (fun h => ?_) (fun h => ?_)
  · refine lv_iconst (v := (-1)) S.1 S.2.1 d_Mo_widest_21 (by decide) ?_
    subst hQ; exact m_iret S hr hlk M (Option.some.inj h) d_Mo_widest_22
  · refine lv_aload_n S.1 S.2.1 d_Mo_widest_8 rfl (lv_at hl 0 rfl) ?_
    refine lv_iload_n S.1 S.2.1 d_Mo_widest_9 rfl (lv_at hl 2 rfl) ?_
    refine m_xip h (fun o ho => m_rV (As := [.int x2]) (rest := []) S M hl.1 (cwG (n := 1) S.2.2.2.2 kw_393 kw_394 kw_395 kw_391 kw_396 (by decide) ⟨Nat.le_of_ble_eq_true rfl, Nat.le_of_ble_eq_true rfl⟩) ok_Mo (by decide) rfl (c_Mo_isNode l D cA ad σ x2 o ho _) rfl rfl (Nat.le_of_ble_eq_true rfl) d_Mo_widest_10 ⟨Nat.zero_le _, Nat.zero_le _⟩) M (fun v2 H locs h M => ?_)
    refine m_ifeq (tgt := 21) S d_Mo_widest_13 (by decide) h (fun h => ?_) (fun h => ?_)
    · refine lv_iconst (v := (-1)) S.1 S.2.1 d_Mo_widest_21 (by decide) ?_
      subst hQ; exact m_iret S hr hlk M (Option.some.inj h) d_Mo_widest_22
    · refine lv_iload_n S.1 S.2.1 d_Mo_widest_16 rfl (lv_at hl 1 rfl) ?_
      refine lv_iload_n S.1 S.2.1 d_Mo_widest_17 rfl (lv_at hl 2 rfl) ?_
      refine m_ine (tgt := 23) S d_Mo_widest_18 (by decide) h (fun h => ?_) (fun h => ?_)
      · refine lv_iconst (v := 0) S.1 S.2.1 d_Mo_widest_23 (by decide) ?_
        refine lv_istore_n (lv' := [(3, .int 0), (0, .ref (ad 0)), (1, .int x1), (2, .int x2)]) S.1 S.2.1 d_Mo_widest_24 rfl hl (by decide) rfl (fun ls hl => ?_)
        obtain ⟨u25, q25, h⟩ := Option.bind_eq_some_iff.mp h
        refine lpN_W1 (st := f_Mo_widest_L25 x1) (fun (t25 : Int32 × mS) => ∀ (ls : Array Slot) (H : Heap) (locs : List Loc), lv_has ls 6 [(3, .int t25.1), (0, .ref (ad 0)), (1, .int x1), (2, .int x2)] → mM D clX (tyK cA) (mA 23 ad s.heap.size) s 23 (tbY cA) ad t25.2 H locs → W p l e rm_Mo_widest s m args below meth c H locs 0 0 Q (F0 m 25 ls [])) (fun (u25 : Int32 × mS) => ∀ (ls : Array Slot) (H : Heap) (locs : List Loc), lv_has ls 6 [(3, .int u25.1), (0, .ref (ad 0)), (1, .int x1), (2, .int x2)] → mM D clX (tyK cA) (mA 23 ad s.heap.size) s 23 (tbY cA) ad u25.2 H locs → W p l e rm_Mo_widest s m args below meth c H locs 0 0 Q (F0 m 56 ls [])) ?_ fuB ((0, σ) : Int32 × mS) u25 q25 ?_ ls _ _ (lv_sub hl [0, 1, 2, 3] rfl) M
        · intro t25 oo25 h K1 K2 ls H locs hl M
          unfold f_Mo_widest_L25 at h
          refine lv_iload_n S.1 S.2.1 d_Mo_widest_25 rfl (lv_at hl 0 rfl) ?_
          refine lv_aload_n S.1 S.2.1 d_Mo_widest_26 rfl (lv_at hl 1 rfl) ?_
          refine m_gi S M (j := 1) ok_Mo (by decide) rfl (by decide) rfl kw_382 rfl d_Mo_widest_27 ?_
          refine m_ige (tgt := 56) S d_Mo_widest_30 (by decide) h (fun h => ?_) (fun h => ?_)
          · exact K2 _ (Option.some.inj h).symm ls _ _ (lv_sub hl [0, 1, 2, 3] rfl) M
          · refine lv_aload_n S.1 S.2.1 d_Mo_widest_33 rfl (lv_at hl 1 rfl) ?_
            refine m_gs (t := 9) S M (j := 11) ok_Mo (by decide) rfl (by decide) rfl kw_407 rfl d_Mo_widest_34 ?_
            refine lv_iload_n S.1 S.2.1 d_Mo_widest_37 rfl (lv_at hl 0 rfl) ?_
            refine lv_iload_n S.1 S.2.1 d_Mo_widest_38 rfl (lv_at hl 0 rfl) ?_
            refine lv_iload_n S.1 S.2.1 d_Mo_widest_39 rfl (lv_at hl 2 rfl) ?_
            refine m_ine (tgt := 48) S d_Mo_widest_40 (by decide) h (fun h => ?_) (fun h => ?_)
            · refine lv_iconst (v := (-1)) S.1 S.2.1 d_Mo_widest_48 (by decide) ?_
              refine m_ias (t0 := 0) S M (by decide) rfl rfl h d_Mo_widest_49 (fun σ3 H locs h M => ?_)
              refine lv_iinc (v := t25.1 + 1) (lv' := [(3, .int (t25.1 + 1)), (0, .ref (ad 0)), (1, .int x1), (2, .int x2)]) S.1 S.2.1 d_Mo_widest_50 hl (k := 0) rfl rfl (by decide) rfl (fun ls hl => ?_)
              refine lv_goto (tgt := 25) S.1 S.2.1 d_Mo_widest_53 (by decide) ?_
              exact K1 _ (Option.some.inj h).symm ls _ _ (lv_sub hl [0, 1, 2, 3] rfl) M
            · refine lv_ldc (v := 1000000000) S.1 S.2.1 S.2.2.2.1 (S.2.2.2.2 _ kw_408) d_Mo_widest_43 ?_
              refine lv_goto (tgt := 49) S.1 S.2.1 d_Mo_widest_45 (by decide) ?_
              refine m_ias (t0 := 0) S M (by decide) rfl rfl h d_Mo_widest_49 (fun σ4 H locs h M => ?_)
              refine lv_iinc (v := t25.1 + 1) (lv' := [(3, .int (t25.1 + 1)), (0, .ref (ad 0)), (1, .int x1), (2, .int x2)]) S.1 S.2.1 d_Mo_widest_50 hl (k := 0) rfl rfl (by decide) rfl (fun ls hl => ?_)
              refine lv_goto (tgt := 25) S.1 S.2.1 d_Mo_widest_53 (by decide) ?_
              exact K1 _ (Option.some.inj h).symm ls _ _ (lv_sub hl [0, 1, 2, 3] rfl) M
        · intro ls H locs hl M
          refine lv_iconst (v := 1) S.1 S.2.1 d_Mo_widest_56 (by decide) ?_
          refine lv_istore_n (lv' := [(3, .int 1), (0, .ref (ad 0)), (1, .int x1), (2, .int x2)]) S.1 S.2.1 d_Mo_widest_57 rfl hl (by decide) rfl (fun ls hl => ?_)
          obtain ⟨u58, q58, h⟩ := Option.bind_eq_some_iff.mp h
          refine lpN_W1 (st := f_Mo_widest_L58) (fun (t58 : Int32 × mS) => ∀ (ls : Array Slot) (H : Heap) (locs : List Loc), lv_has ls 6 [(3, .int t58.1), (0, .ref (ad 0)), (1, .int x1), (2, .int x2)] → mM D clX (tyK cA) (mA 23 ad s.heap.size) s 23 (tbY cA) ad t58.2 H locs → W p l e rm_Mo_widest s m args below meth c H locs 0 0 Q (F0 m 58 ls [])) (fun (u58 : Int32 × mS) => ∀ (ls : Array Slot) (H : Heap) (locs : List Loc), lv_has ls 6 [(3, .int u58.1), (0, .ref (ad 0)), (1, .int x1), (2, .int x2)] → mM D clX (tyK cA) (mA 23 ad s.heap.size) s 23 (tbY cA) ad u58.2 H locs → W p l e rm_Mo_widest s m args below meth c H locs 0 0 Q (F0 m 174 ls [])) ?_ fuB ((1, u25.2) : Int32 × mS) u58 q58 ?_ ls _ _ (lv_sub hl [0, 1, 2, 3] rfl) M
          · intro t58 oo58 h K1 K2 ls H locs hl M
            unfold f_Mo_widest_L58 at h
            refine lv_iload_n S.1 S.2.1 d_Mo_widest_58 rfl (lv_at hl 0 rfl) ?_
            refine m_ifeq (tgt := 174) S d_Mo_widest_59 (by decide) h (fun h => ?_) (fun h => ?_)
            · exact K2 _ (Option.some.inj h).symm ls _ _ (lv_sub hl [0, 1, 2, 3] rfl) M
            · refine lv_iconst (v := 0) S.1 S.2.1 d_Mo_widest_62 (by decide) ?_
              refine lv_istore_n (lv' := [(3, .int 0), (0, .ref (ad 0)), (1, .int x1), (2, .int x2)]) S.1 S.2.1 d_Mo_widest_63 rfl hl (by decide) rfl (fun ls hl => ?_)
              refine lv_iconst (v := 0) S.1 S.2.1 d_Mo_widest_64 (by decide) ?_
              refine lv_istore (lv' := [(4, .int 0), (3, .int 0), (0, .ref (ad 0)), (1, .int x1), (2, .int x2)]) S.1 S.2.1 d_Mo_widest_65 hl (by decide) rfl (fun ls hl => ?_)
              obtain ⟨u67, q67, h⟩ := Option.bind_eq_some_iff.mp h
              refine lpN_W1 (st := f_Mo_widest_L67) (fun (t67 : Int32 × Int32 × mS) => ∀ (ls : Array Slot) (H : Heap) (locs : List Loc), lv_has ls 6 [(4, .int t67.2.1), (3, .int t67.1), (0, .ref (ad 0)), (1, .int x1), (2, .int x2)] → mM D clX (tyK cA) (mA 23 ad s.heap.size) s 23 (tbY cA) ad t67.2.2 H locs → W p l e rm_Mo_widest s m args below meth c H locs 0 0 Q (F0 m 67 ls [])) (fun (u67 : Int32 × Int32 × mS) => ∀ (ls : Array Slot) (H : Heap) (locs : List Loc), lv_has ls 6 [(4, .int u67.2.1), (3, .int u67.1), (0, .ref (ad 0)), (1, .int x1), (2, .int x2)] → mM D clX (tyK cA) (mA 23 ad s.heap.size) s 23 (tbY cA) ad u67.2.2 H locs → W p l e rm_Mo_widest s m args below meth c H locs 0 0 Q (F0 m 171 ls [])) ?_ fuB ((0, 0, t58.2) : Int32 × Int32 × mS) u67 q67 ?_ ls _ _ (lv_sub hl [0, 1, 2, 3, 4] rfl) M
              · intro t67 oo67 h K1 K2 ls H locs hl M
                unfold f_Mo_widest_L67 at h
                refine lv_iload S.1 S.2.1 d_Mo_widest_67 (lv_at hl 0 rfl) ?_
                refine lv_aload_n S.1 S.2.1 d_Mo_widest_69 rfl (lv_at hl 2 rfl) ?_
                refine m_gi S M (j := 2) ok_Mo (by decide) rfl (by decide) rfl kw_383 rfl d_Mo_widest_70 ?_
                refine m_ige (tgt := 171) S d_Mo_widest_73 (by decide) h (fun h => ?_) (fun h => ?_)
                · exact K2 _ (Option.some.inj h).symm ls _ _ (lv_sub hl [0, 1, 2, 3, 4] rfl) M
                · refine lv_aload_n S.1 S.2.1 d_Mo_widest_76 rfl (lv_at hl 2 rfl) ?_
                  refine m_gs (t := 9) S M (j := 11) ok_Mo (by decide) rfl (by decide) rfl kw_407 rfl d_Mo_widest_77 ?_
                  refine lv_aload_n S.1 S.2.1 d_Mo_widest_80 rfl (lv_at hl 2 rfl) ?_
                  refine m_gs (t := 1) S M (j := 3) ok_Mo (by decide) rfl (by decide) rfl kw_398 rfl d_Mo_widest_81 ?_
                  refine lv_iload S.1 S.2.1 d_Mo_widest_84 (lv_at hl 0 rfl) ?_
                  refine m_ial (t0 := 0) S M (by decide) rfl rfl h d_Mo_widest_86 (fun h => ?_)
                  refine m_ial (t0 := 0) S M (by decide) rfl rfl h d_Mo_widest_87 (fun h => ?_)
                  refine lv_aload_n S.1 S.2.1 d_Mo_widest_88 rfl (lv_at hl 2 rfl) ?_
                  refine m_gs (t := 3) S M (j := 5) ok_Mo (by decide) rfl (by decide) rfl kw_400 rfl d_Mo_widest_89 ?_
                  refine lv_iload S.1 S.2.1 d_Mo_widest_92 (lv_at hl 0 rfl) ?_
                  refine m_ial (t0 := 0) S M (by decide) rfl rfl h d_Mo_widest_94 (fun h => ?_)
                  have J120 : ∀ (j5 : Int32) (ls : Array Slot) (H : Heap) (locs : List Loc), f_Mo_widest_J120 t67 j5 = some oo67 → lv_has ls 6 [(4, .int t67.2.1), (3, .int t67.1), (0, .ref (ad 0)), (1, .int x1), (2, .int x2)] → mM D clX (tyK cA) (mA 23 ad s.heap.size) s 23 (tbY cA) ad t67.2.2 H locs → W p l e rm_Mo_widest s m args below meth c H locs 0 0 Q (F0 m 120 ls [.int j5]) := by
                    intro j5 ls H locs h hl M
                    unfold f_Mo_widest_J120 at h
                    refine lv_istore (lv' := [(5, .int j5), (4, .int t67.2.1), (3, .int t67.1), (0, .ref (ad 0)), (1, .int x1), (2, .int x2)]) S.1 S.2.1 d_Mo_widest_120 hl (by decide) rfl (fun ls hl => ?_)
                    refine lv_aload_n S.1 S.2.1 d_Mo_widest_122 rfl (lv_at hl 3 rfl) ?_
                    refine m_gs (t := 6) S M (j := 8) ok_Mo (by decide) rfl (by decide) rfl kw_384 rfl d_Mo_widest_123 ?_
                    refine lv_iload S.1 S.2.1 d_Mo_widest_126 (lv_at hl 1 rfl) ?_
                    refine m_zal (t0 := 2) S M (by decide) rfl rfl h d_Mo_widest_128 (fun h => ?_)
                    refine m_ifeq (tgt := 165) S d_Mo_widest_129 (by decide) h (fun h => ?_) (fun h => ?_)
                    · refine lv_iinc (v := t67.2.1 + 1) (lv' := [(4, .int (t67.2.1 + 1)), (5, .int j5), (3, .int t67.1), (0, .ref (ad 0)), (1, .int x1), (2, .int x2)]) S.1 S.2.1 d_Mo_widest_165 hl (k := 1) rfl rfl (by decide) rfl (fun ls hl => ?_)
                      refine lv_goto (tgt := 67) S.1 S.2.1 d_Mo_widest_168 (by decide) ?_
                      exact K1 _ (Option.some.inj h).symm ls _ _ (lv_sub hl [0, 2, 3, 4, 5] rfl) M
                    · refine lv_iload S.1 S.2.1 d_Mo_widest_132 (lv_at hl 0 rfl) ?_
                      refine lv_aload_n S.1 S.2.1 d_Mo_widest_134 rfl (lv_at hl 3 rfl) ?_
                      refine m_gs (t := 9) S M (j := 11) ok_Mo (by decide) rfl (by decide) rfl kw_407 rfl d_Mo_widest_135 ?_
                      refine lv_aload_n S.1 S.2.1 d_Mo_widest_138 rfl (lv_at hl 3 rfl) ?_
                      refine m_gs (t := 2) S M (j := 4) ok_Mo (by decide) rfl (by decide) rfl kw_399 rfl d_Mo_widest_139 ?_
                      refine lv_iload S.1 S.2.1 d_Mo_widest_142 (lv_at hl 1 rfl) ?_
                      refine m_ial (t0 := 0) S M (by decide) rfl rfl h d_Mo_widest_144 (fun h => ?_)
                      refine m_ial (t0 := 0) S M (by decide) rfl rfl h d_Mo_widest_145 (fun h => ?_)
                      refine m_ile (tgt := 165) S d_Mo_widest_146 (by decide) h (fun h => ?_) (fun h => ?_)
                      · refine lv_iinc (v := t67.2.1 + 1) (lv' := [(4, .int (t67.2.1 + 1)), (5, .int j5), (3, .int t67.1), (0, .ref (ad 0)), (1, .int x1), (2, .int x2)]) S.1 S.2.1 d_Mo_widest_165 hl (k := 1) rfl rfl (by decide) rfl (fun ls hl => ?_)
                        refine lv_goto (tgt := 67) S.1 S.2.1 d_Mo_widest_168 (by decide) ?_
                        exact K1 _ (Option.some.inj h).symm ls _ _ (lv_sub hl [0, 2, 3, 4, 5] rfl) M
                      · refine lv_aload_n S.1 S.2.1 d_Mo_widest_149 rfl (lv_at hl 3 rfl) ?_
                        refine m_gs (t := 9) S M (j := 11) ok_Mo (by decide) rfl (by decide) rfl kw_407 rfl d_Mo_widest_150 ?_
                        refine lv_aload_n S.1 S.2.1 d_Mo_widest_153 rfl (lv_at hl 3 rfl) ?_
                        refine m_gs (t := 2) S M (j := 4) ok_Mo (by decide) rfl (by decide) rfl kw_399 rfl d_Mo_widest_154 ?_
                        refine lv_iload S.1 S.2.1 d_Mo_widest_157 (lv_at hl 1 rfl) ?_
                        refine m_ial (t0 := 0) S M (by decide) rfl rfl h d_Mo_widest_159 (fun h => ?_)
                        refine lv_iload S.1 S.2.1 d_Mo_widest_160 (lv_at hl 0 rfl) ?_
                        refine m_ias (t0 := 0) S M (by decide) rfl rfl h d_Mo_widest_162 (fun σ6 H locs h M => ?_)
                        refine lv_iconst (v := 1) S.1 S.2.1 d_Mo_widest_163 (by decide) ?_
                        refine lv_istore_n (lv' := [(3, .int 1), (5, .int j5), (4, .int t67.2.1), (0, .ref (ad 0)), (1, .int x1), (2, .int x2)]) S.1 S.2.1 d_Mo_widest_164 rfl hl (by decide) rfl (fun ls hl => ?_)
                        refine lv_iinc (v := t67.2.1 + 1) (lv' := [(4, .int (t67.2.1 + 1)), (3, .int 1), (5, .int j5), (0, .ref (ad 0)), (1, .int x1), (2, .int x2)]) S.1 S.2.1 d_Mo_widest_165 hl (k := 2) rfl rfl (by decide) rfl (fun ls hl => ?_)
                        refine lv_goto (tgt := 67) S.1 S.2.1 d_Mo_widest_168 (by decide) ?_
                        exact K1 _ (Option.some.inj h).symm ls _ _ (lv_sub hl [0, 1, 3, 4, 5] rfl) M
                  refine m_ige (tgt := 113) S d_Mo_widest_95 (by decide) h (fun h => ?_) (fun h => ?_)
                  · refine lv_aload_n S.1 S.2.1 d_Mo_widest_113 rfl (lv_at hl 2 rfl) ?_
                    refine m_gs (t := 3) S M (j := 5) ok_Mo (by decide) rfl (by decide) rfl kw_400 rfl d_Mo_widest_114 ?_
                    refine lv_iload S.1 S.2.1 d_Mo_widest_117 (lv_at hl 0 rfl) ?_
                    refine m_ial (t0 := 0) S M (by decide) rfl rfl h d_Mo_widest_119 (fun h => ?_)
                    exact J120 _ ls _ _ h (lv_sub hl [0, 1, 2, 3, 4] rfl) M
                  · refine lv_aload_n S.1 S.2.1 d_Mo_widest_98 rfl (lv_at hl 2 rfl) ?_
                    refine m_gs (t := 9) S M (j := 11) ok_Mo (by decide) rfl (by decide) rfl kw_407 rfl d_Mo_widest_99 ?_
                    refine lv_aload_n S.1 S.2.1 d_Mo_widest_102 rfl (lv_at hl 2 rfl) ?_
                    refine m_gs (t := 1) S M (j := 3) ok_Mo (by decide) rfl (by decide) rfl kw_398 rfl d_Mo_widest_103 ?_
                    refine lv_iload S.1 S.2.1 d_Mo_widest_106 (lv_at hl 0 rfl) ?_
                    refine m_ial (t0 := 0) S M (by decide) rfl rfl h d_Mo_widest_108 (fun h => ?_)
                    refine m_ial (t0 := 0) S M (by decide) rfl rfl h d_Mo_widest_109 (fun h => ?_)
                    refine lv_goto (tgt := 120) S.1 S.2.1 d_Mo_widest_110 (by decide) ?_
                    exact J120 _ ls _ _ h (lv_sub hl [0, 1, 2, 3, 4] rfl) M
              · intro ls H locs hl M
                refine lv_goto (tgt := 58) S.1 S.2.1 d_Mo_widest_171 (by decide) ?_
                exact K1 _ (Option.some.inj h).symm ls _ _ (lv_sub hl [1, 2, 3, 4] rfl) M
          · intro ls H locs hl M
            refine lv_aload_n S.1 S.2.1 d_Mo_widest_174 rfl (lv_at hl 1 rfl) ?_
            refine m_gs (t := 9) S M (j := 11) ok_Mo (by decide) rfl (by decide) rfl kw_407 rfl d_Mo_widest_175 ?_
            refine lv_iload_n S.1 S.2.1 d_Mo_widest_178 rfl (lv_at hl 3 rfl) ?_
            refine m_ial (t0 := 0) S M (by decide) rfl rfl h d_Mo_widest_179 (fun h => ?_)
            refine m_ifge (tgt := 188) S d_Mo_widest_180 (by decide) h (fun h => ?_) (fun h => ?_)
            · refine lv_aload_n S.1 S.2.1 d_Mo_widest_188 rfl (lv_at hl 1 rfl) ?_
              refine m_gs (t := 9) S M (j := 11) ok_Mo (by decide) rfl (by decide) rfl kw_407 rfl d_Mo_widest_189 ?_
              refine lv_iload_n S.1 S.2.1 d_Mo_widest_192 rfl (lv_at hl 3 rfl) ?_
              refine m_ial (t0 := 0) S M (by decide) rfl rfl h d_Mo_widest_193 (fun h => ?_)
              subst hQ; exact m_iret S hr hlk M (Option.some.inj h) d_Mo_widest_194
            · refine lv_bipush (v := (-3)) S.1 S.2.1 d_Mo_widest_183 (by decide) ?_
              refine lv_goto (tgt := 194) S.1 S.2.1 d_Mo_widest_185 (by decide) ?_
              subst hQ; exact m_iret S hr hlk M (Option.some.inj h) d_Mo_widest_194
      · refine lv_iconst (v := (-1)) S.1 S.2.1 d_Mo_widest_21 (by decide) ?_
        subst hQ; exact m_iret S hr hlk M (Option.some.inj h) d_Mo_widest_22
theorem d_Mo_common_0 : decode prog_12_method_43_code 0 = .ok (.lload_n 0, 1) := by decide +kernel
theorem d_Mo_common_1 : decode prog_12_method_43_code 1 = .ok (.lstore 4, 2) := by decide +kernel
theorem d_Mo_common_3 : decode prog_12_method_43_code 3 = .ok (.lload_n 2, 1) := by decide +kernel
theorem d_Mo_common_4 : decode prog_12_method_43_code 4 = .ok (.lstore 6, 2) := by decide +kernel
theorem d_Mo_common_6 : decode prog_12_method_43_code 6 = .ok (.lload 6, 2) := by decide +kernel
theorem d_Mo_common_8 : decode prog_12_method_43_code 8 = .ok (.lconst 0, 1) := by decide +kernel
theorem d_Mo_common_9 : decode prog_12_method_43_code 9 = .ok (.lcmp, 1) := by decide +kernel
theorem d_Mo_common_10 : decode prog_12_method_43_code 10 = .ok (.ifCond .eq 21, 3) := by decide +kernel
theorem d_Mo_common_13 : decode prog_12_method_43_code 13 = .ok (.lload 4, 2) := by decide +kernel
theorem d_Mo_common_15 : decode prog_12_method_43_code 15 = .ok (.lload 6, 2) := by decide +kernel
theorem d_Mo_common_17 : decode prog_12_method_43_code 17 = .ok (.lrem, 1) := by decide +kernel
theorem d_Mo_common_18 : decode prog_12_method_43_code 18 = .ok (.lstore 8, 2) := by decide +kernel
theorem d_Mo_common_20 : decode prog_12_method_43_code 20 = .ok (.lload 6, 2) := by decide +kernel
theorem d_Mo_common_22 : decode prog_12_method_43_code 22 = .ok (.lstore 4, 2) := by decide +kernel
theorem d_Mo_common_24 : decode prog_12_method_43_code 24 = .ok (.lload 8, 2) := by decide +kernel
theorem d_Mo_common_26 : decode prog_12_method_43_code 26 = .ok (.lstore 6, 2) := by decide +kernel
theorem d_Mo_common_28 : decode prog_12_method_43_code 28 = .ok (.goto (-22), 3) := by decide +kernel
theorem d_Mo_common_31 : decode prog_12_method_43_code 31 = .ok (.lload 4, 2) := by decide +kernel
theorem d_Mo_common_33 : decode prog_12_method_43_code 33 = .ok (.lreturn, 1) := by decide +kernel
def rm_Mo_common : Room := { frames := 0, cells := 0, slots := 0, locals := 0 }
def f_Mo_common_L6 : (Int64 × Int64) → Option ((Int64 × Int64) ⊕ (Int64 × Int64)) := fun t6 =>
  if (lg_cmp t6.2 0) = 0 then (
  some (.inr (t6.1, t6.2))) else (
  gd (isNl t6.2) (
  nm (t6.1 - t6.1 / t6.2 * t6.2) fun v1 =>
  some (.inl (t6.2, v1))))
def f_Mo_common (σ : mS) (x0 : Int64) (x2 : Int64) : Option (Int64) :=
  (lpN (f_Mo_common_L6) fuB (x0, x2)).bind fun u6 =>
  some u6.1
set_option maxHeartbeats 4000000 in
set_option maxRecDepth 100000 in
theorem c_Mo_common (l : Launch) (D : va_G) (cA ad : Nat → Nat) (σ : mS) (x0 : Int64) (x2 : Int64) (o : Int64) (h : f_Mo_common σ x0 x2 = some o) : mCl l ⟨"LeastPathsModel", "common", "(JJ)J"⟩ (Cond.code ⟨"LeastPathsModel", "common", "(JJ)J"⟩ prog_12_method_43_code 10 (Option.some Jvm.ClassFile.FieldType.long) :: tlG) rm_Mo_common D clX (tyK cA) 23 (tbY cA) ad σ [.long x0, .long x2] (o, σ) := by
  intro sz
  refine m_of (cc := prog_12_method_43_code) (maxL := 10) (Qc := mQl D clX (tyK cA) 23 (tbY cA) ad (o, σ)) (by decide) (Nat.le_of_ble_eq_true rfl) (fun p e s m args below meth c ls S hr hlk hnm hl M => ?_) sz
  have hl : lv_has ls 10 [(0, .long x0), (2, .long x2)] := hl
  generalize hQ : MQ _ _ _ _ _ _ _ = Q
  skip
  unfold f_Mo_common at h
  refine lv_lload_n S.1 S.2.1 d_Mo_common_0 rfl (lv_at hl 0 rfl) ?_
  refine lv_lstore (lv' := [(4, .long x0), (0, .long x0), (2, .long x2)]) S.1 S.2.1 d_Mo_common_1 hl (by decide) rfl (fun ls hl => ?_)
  refine lv_lload_n S.1 S.2.1 d_Mo_common_3 rfl (lv_at hl 2 rfl) ?_
  refine lv_lstore (lv' := [(6, .long x2), (4, .long x0), (0, .long x0), (2, .long x2)]) S.1 S.2.1 d_Mo_common_4 hl (by decide) rfl (fun ls hl => ?_)
  obtain ⟨u6, q6, h⟩ := Option.bind_eq_some_iff.mp h
  refine lpN_W1 (st := f_Mo_common_L6) (fun (t6 : Int64 × Int64) => ∀ (ls : Array Slot) (H : Heap) (locs : List Loc), lv_has ls 10 [(6, .long t6.2), (4, .long t6.1), (0, .long x0), (2, .long x2)] → mM D clX (tyK cA) (mA 23 ad s.heap.size) s 23 (tbY cA) ad σ H locs → W p l e rm_Mo_common s m args below meth c H locs 0 0 Q (F0 m 6 ls [])) (fun (u6 : Int64 × Int64) => ∀ (ls : Array Slot) (H : Heap) (locs : List Loc), lv_has ls 10 [(6, .long u6.2), (4, .long u6.1), (0, .long x0), (2, .long x2)] → mM D clX (tyK cA) (mA 23 ad s.heap.size) s 23 (tbY cA) ad σ H locs → W p l e rm_Mo_common s m args below meth c H locs 0 0 Q (F0 m 31 ls [])) ?_ fuB ((x0, x2) : Int64 × Int64) u6 q6 ?_ ls _ _ (lv_sub hl [0, 1, 2, 3] rfl) M
  · intro t6 oo6 h K1 K2 ls H locs hl M
    unfold f_Mo_common_L6 at h
    refine lv_lload S.1 S.2.1 d_Mo_common_6 (lv_at hl 0 rfl) ?_
    refine lv_lconst (v := 0) S.1 S.2.1 d_Mo_common_8 (by decide) ?_
    refine W.lcmp S.1 S.2.1 d_Mo_common_9 ?_
    refine m_ifeq (tgt := 31) S d_Mo_common_10 (by decide) h (fun h => ?_) (fun h => ?_)
    · exact K2 _ (Option.some.inj h).symm ls _ _ (lv_sub hl [0, 1, 2, 3] rfl) M
    · refine lv_lload S.1 S.2.1 d_Mo_common_13 (lv_at hl 1 rfl) ?_
      refine lv_lload S.1 S.2.1 d_Mo_common_15 (lv_at hl 0 rfl) ?_
      refine m_lrem S d_Mo_common_17 h (fun h => ?_)
      refine m_nl h (fun v1 h => ?_)
      refine lv_lstore (lv' := [(8, .long v1), (6, .long t6.2), (4, .long t6.1), (0, .long x0), (2, .long x2)]) S.1 S.2.1 d_Mo_common_18 hl (by decide) rfl (fun ls hl => ?_)
      refine lv_lload S.1 S.2.1 d_Mo_common_20 (lv_at hl 1 rfl) ?_
      refine lv_lstore (lv' := [(4, .long t6.2), (8, .long v1), (6, .long t6.2), (0, .long x0), (2, .long x2)]) S.1 S.2.1 d_Mo_common_22 hl (by decide) rfl (fun ls hl => ?_)
      refine lv_lload S.1 S.2.1 d_Mo_common_24 (lv_at hl 1 rfl) ?_
      refine lv_lstore (lv' := [(6, .long v1), (4, .long t6.2), (8, .long v1), (0, .long x0), (2, .long x2)]) S.1 S.2.1 d_Mo_common_26 hl (by decide) rfl (fun ls hl => ?_)
      refine lv_goto (tgt := 6) S.1 S.2.1 d_Mo_common_28 (by decide) ?_
      exact K1 _ (Option.some.inj h).symm ls _ _ (lv_sub hl [0, 1, 3, 4] rfl) M
  · intro ls H locs hl M
    refine lv_lload S.1 S.2.1 d_Mo_common_31 (lv_at hl 1 rfl) ?_
    subst hQ; exact m_lret S hr hlk M (by rw [Option.some.inj h]) d_Mo_common_33
