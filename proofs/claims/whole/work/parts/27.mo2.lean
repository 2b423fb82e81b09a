theorem d_Mo_ways_0 : decode prog_12_method_19_code 0 = .ok (.aload_n 0, 1) := by decide +kernel
theorem d_Mo_ways_1 : decode prog_12_method_19_code 1 = .ok (.iload_n 1, 1) := by decide +kernel
theorem d_Mo_ways_2 : decode prog_12_method_19_code 2 = .ok (.invokevirtual 94, 3) := by decide +kernel
theorem d_Mo_ways_5 : decode prog_12_method_19_code 5 = .ok (.ifCond .ne 5, 3) := by decide +kernel
theorem d_Mo_ways_8 : decode prog_12_method_19_code 8 = .ok (.iconst (-1), 1) := by decide +kernel
theorem d_Mo_ways_9 : decode prog_12_method_19_code 9 = .ok (.ireturn, 1) := by decide +kernel
theorem d_Mo_ways_10 : decode prog_12_method_19_code 10 = .ok (.aload_n 0, 1) := by decide +kernel
theorem d_Mo_ways_11 : decode prog_12_method_19_code 11 = .ok (.invokevirtual 107, 3) := by decide +kernel
theorem d_Mo_ways_14 : decode prog_12_method_19_code 14 = .ok (.iconst 0, 1) := by decide +kernel
theorem d_Mo_ways_15 : decode prog_12_method_19_code 15 = .ok (.istore_n 2, 1) := by decide +kernel
theorem d_Mo_ways_16 : decode prog_12_method_19_code 16 = .ok (.iload_n 2, 1) := by decide +kernel
theorem d_Mo_ways_17 : decode prog_12_method_19_code 17 = .ok (.aload_n 0, 1) := by decide +kernel
theorem d_Mo_ways_18 : decode prog_12_method_19_code 18 = .ok (.getfield 85, 3) := by decide +kernel
theorem d_Mo_ways_21 : decode prog_12_method_19_code 21 = .ok (.if_icmp .ge 40, 3) := by decide +kernel
theorem d_Mo_ways_24 : decode prog_12_method_19_code 24 = .ok (.aload_n 0, 1) := by decide +kernel
theorem d_Mo_ways_25 : decode prog_12_method_19_code 25 = .ok (.getfield 41, 3) := by decide +kernel
theorem d_Mo_ways_28 : decode prog_12_method_19_code 28 = .ok (.iload_n 2, 1) := by decide +kernel
theorem d_Mo_ways_29 : decode prog_12_method_19_code 29 = .ok (.aload_n 0, 1) := by decide +kernel
theorem d_Mo_ways_30 : decode prog_12_method_19_code 30 = .ok (.getfield 35, 3) := by decide +kernel
theorem d_Mo_ways_33 : decode prog_12_method_19_code 33 = .ok (.iload_n 2, 1) := by decide +kernel
theorem d_Mo_ways_34 : decode prog_12_method_19_code 34 = .ok (.iaload, 1) := by decide +kernel
theorem d_Mo_ways_35 : decode prog_12_method_19_code 35 = .ok (.ldc 102, 2) := by decide +kernel
theorem d_Mo_ways_37 : decode prog_12_method_19_code 37 = .ok (.if_icmp .ge 16, 3) := by decide +kernel
theorem d_Mo_ways_40 : decode prog_12_method_19_code 40 = .ok (.aload_n 0, 1) := by decide +kernel
theorem d_Mo_ways_41 : decode prog_12_method_19_code 41 = .ok (.getfield 38, 3) := by decide +kernel
theorem d_Mo_ways_44 : decode prog_12_method_19_code 44 = .ok (.iload_n 2, 1) := by decide +kernel
theorem d_Mo_ways_45 : decode prog_12_method_19_code 45 = .ok (.iaload, 1) := by decide +kernel
theorem d_Mo_ways_46 : decode prog_12_method_19_code 46 = .ok (.ifCond .ne 7, 3) := by decide +kernel
theorem d_Mo_ways_49 : decode prog_12_method_19_code 49 = .ok (.iconst 1, 1) := by decide +kernel
theorem d_Mo_ways_50 : decode prog_12_method_19_code 50 = .ok (.goto 4, 3) := by decide +kernel
theorem d_Mo_ways_53 : decode prog_12_method_19_code 53 = .ok (.iconst 0, 1) := by decide +kernel
theorem d_Mo_ways_54 : decode prog_12_method_19_code 54 = .ok (.iastore, 1) := by decide +kernel
theorem d_Mo_ways_55 : decode prog_12_method_19_code 55 = .ok (.iinc 2 1, 3) := by decide +kernel
theorem d_Mo_ways_58 : decode prog_12_method_19_code 58 = .ok (.goto (-42), 3) := by decide +kernel
theorem d_Mo_ways_61 : decode prog_12_method_19_code 61 = .ok (.iconst 1, 1) := by decide +kernel
theorem d_Mo_ways_62 : decode prog_12_method_19_code 62 = .ok (.istore_n 2, 1) := by decide +kernel
theorem d_Mo_ways_63 : decode prog_12_method_19_code 63 = .ok (.iload_n 2, 1) := by decide +kernel
theorem d_Mo_ways_64 : decode prog_12_method_19_code 64 = .ok (.bipush 10, 2) := by decide +kernel
theorem d_Mo_ways_66 : decode prog_12_method_19_code 66 = .ok (.if_icmp .ge 127, 3) := by decide +kernel
theorem d_Mo_ways_69 : decode prog_12_method_19_code 69 = .ok (.iconst 0, 1) := by decide +kernel
theorem d_Mo_ways_70 : decode prog_12_method_19_code 70 = .ok (.istore_n 3, 1) := by decide +kernel
theorem d_Mo_ways_71 : decode prog_12_method_19_code 71 = .ok (.iload_n 3, 1) := by decide +kernel
theorem d_Mo_ways_72 : decode prog_12_method_19_code 72 = .ok (.aload_n 0, 1) := by decide +kernel
theorem d_Mo_ways_73 : decode prog_12_method_19_code 73 = .ok (.getfield 88, 3) := by decide +kernel
theorem d_Mo_ways_76 : decode prog_12_method_19_code 76 = .ok (.if_icmp .ge 111, 3) := by decide +kernel
theorem d_Mo_ways_79 : decode prog_12_method_19_code 79 = .ok (.aload_n 0, 1) := by decide +kernel
theorem d_Mo_ways_80 : decode prog_12_method_19_code 80 = .ok (.getfield 7, 3) := by decide +kernel
theorem d_Mo_ways_83 : decode prog_12_method_19_code 83 = .ok (.iload_n 3, 1) := by decide +kernel
theorem d_Mo_ways_84 : decode prog_12_method_19_code 84 = .ok (.iaload, 1) := by decide +kernel
theorem d_Mo_ways_85 : decode prog_12_method_19_code 85 = .ok (.istore 4, 2) := by decide +kernel
theorem d_Mo_ways_87 : decode prog_12_method_19_code 87 = .ok (.aload_n 0, 1) := by decide +kernel
theorem d_Mo_ways_88 : decode prog_12_method_19_code 88 = .ok (.getfield 13, 3) := by decide +kernel
theorem d_Mo_ways_91 : decode prog_12_method_19_code 91 = .ok (.iload_n 3, 1) := by decide +kernel
theorem d_Mo_ways_92 : decode prog_12_method_19_code 92 = .ok (.iaload, 1) := by decide +kernel
theorem d_Mo_ways_93 : decode prog_12_method_19_code 93 = .ok (.istore 5, 2) := by decide +kernel
theorem d_Mo_ways_95 : decode prog_12_method_19_code 95 = .ok (.aload_n 0, 1) := by decide +kernel
theorem d_Mo_ways_96 : decode prog_12_method_19_code 96 = .ok (.getfield 25, 3) := by decide +kernel
theorem d_Mo_ways_99 : decode prog_12_method_19_code 99 = .ok (.iload_n 3, 1) := by decide +kernel
theorem d_Mo_ways_100 : decode prog_12_method_19_code 100 = .ok (.baload, 1) := by decide +kernel
theorem d_Mo_ways_101 : decode prog_12_method_19_code 101 = .ok (.ifCond .eq 80, 3) := by decide +kernel
theorem d_Mo_ways_104 : decode prog_12_method_19_code 104 = .ok (.aload_n 0, 1) := by decide +kernel
theorem d_Mo_ways_105 : decode prog_12_method_19_code 105 = .ok (.getfield 35, 3) := by decide +kernel
theorem d_Mo_ways_108 : decode prog_12_method_19_code 108 = .ok (.iload 4, 2) := by decide +kernel
theorem d_Mo_ways_110 : decode prog_12_method_19_code 110 = .ok (.iaload, 1) := by decide +kernel
theorem d_Mo_ways_111 : decode prog_12_method_19_code 111 = .ok (.ldc 102, 2) := by decide +kernel
theorem d_Mo_ways_113 : decode prog_12_method_19_code 113 = .ok (.if_icmp .ge 68, 3) := by decide +kernel
theorem d_Mo_ways_116 : decode prog_12_method_19_code 116 = .ok (.aload_n 0, 1) := by decide +kernel
theorem d_Mo_ways_117 : decode prog_12_method_19_code 117 = .ok (.getfield 35, 3) := by decide +kernel
theorem d_Mo_ways_120 : decode prog_12_method_19_code 120 = .ok (.iload 5, 2) := by decide +kernel
theorem d_Mo_ways_122 : decode prog_12_method_19_code 122 = .ok (.iaload, 1) := by decide +kernel
theorem d_Mo_ways_123 : decode prog_12_method_19_code 123 = .ok (.aload_n 0, 1) := by decide +kernel
theorem d_Mo_ways_124 : decode prog_12_method_19_code 124 = .ok (.getfield 35, 3) := by decide +kernel
theorem d_Mo_ways_127 : decode prog_12_method_19_code 127 = .ok (.iload 4, 2) := by decide +kernel
theorem d_Mo_ways_129 : decode prog_12_method_19_code 129 = .ok (.iaload, 1) := by decide +kernel
theorem d_Mo_ways_130 : decode prog_12_method_19_code 130 = .ok (.aload_n 0, 1) := by decide +kernel
theorem d_Mo_ways_131 : decode prog_12_method_19_code 131 = .ok (.getfield 16, 3) := by decide +kernel
theorem d_Mo_ways_134 : decode prog_12_method_19_code 134 = .ok (.iload_n 3, 1) := by decide +kernel
theorem d_Mo_ways_135 : decode prog_12_method_19_code 135 = .ok (.iaload, 1) := by decide +kernel
theorem d_Mo_ways_136 : decode prog_12_method_19_code 136 = .ok (.iadd, 1) := by decide +kernel
theorem d_Mo_ways_137 : decode prog_12_method_19_code 137 = .ok (.if_icmp .ne 44, 3) := by decide +kernel
theorem d_Mo_ways_140 : decode prog_12_method_19_code 140 = .ok (.aload_n 0, 1) := by decide +kernel
theorem d_Mo_ways_141 : decode prog_12_method_19_code 141 = .ok (.getfield 38, 3) := by decide +kernel
theorem d_Mo_ways_144 : decode prog_12_method_19_code 144 = .ok (.iload 5, 2) := by decide +kernel
theorem d_Mo_ways_146 : decode prog_12_method_19_code 146 = .ok (.iaload, 1) := by decide +kernel
theorem d_Mo_ways_147 : decode prog_12_method_19_code 147 = .ok (.iload_n 2, 1) := by decide +kernel
theorem d_Mo_ways_148 : decode prog_12_method_19_code 148 = .ok (.if_icmp .ne 33, 3) := by decide +kernel
theorem d_Mo_ways_151 : decode prog_12_method_19_code 151 = .ok (.aload_n 0, 1) := by decide +kernel
theorem d_Mo_ways_152 : decode prog_12_method_19_code 152 = .ok (.getfield 38, 3) := by decide +kernel
theorem d_Mo_ways_155 : decode prog_12_method_19_code 155 = .ok (.iload 4, 2) := by decide +kernel
theorem d_Mo_ways_157 : decode prog_12_method_19_code 157 = .ok (.iaload, 1) := by decide +kernel
theorem d_Mo_ways_158 : decode prog_12_method_19_code 158 = .ok (.iload_n 2, 1) := by decide +kernel
theorem d_Mo_ways_159 : decode prog_12_method_19_code 159 = .ok (.iconst 1, 1) := by decide +kernel
theorem d_Mo_ways_160 : decode prog_12_method_19_code 160 = .ok (.isub, 1) := by decide +kernel
theorem d_Mo_ways_161 : decode prog_12_method_19_code 161 = .ok (.if_icmp .ne 20, 3) := by decide +kernel
theorem d_Mo_ways_164 : decode prog_12_method_19_code 164 = .ok (.aload_n 0, 1) := by decide +kernel
theorem d_Mo_ways_165 : decode prog_12_method_19_code 165 = .ok (.getfield 41, 3) := by decide +kernel
theorem d_Mo_ways_168 : decode prog_12_method_19_code 168 = .ok (.iload 5, 2) := by decide +kernel
theorem d_Mo_ways_170 : decode prog_12_method_19_code 170 = .ok (.dup2, 1) := by decide +kernel
theorem d_Mo_ways_171 : decode prog_12_method_19_code 171 = .ok (.iaload, 1) := by decide +kernel
theorem d_Mo_ways_172 : decode prog_12_method_19_code 172 = .ok (.aload_n 0, 1) := by decide +kernel
theorem d_Mo_ways_173 : decode prog_12_method_19_code 173 = .ok (.getfield 41, 3) := by decide +kernel
theorem d_Mo_ways_176 : decode prog_12_method_19_code 176 = .ok (.iload 4, 2) := by decide +kernel
theorem d_Mo_ways_178 : decode prog_12_method_19_code 178 = .ok (.iaload, 1) := by decide +kernel
theorem d_Mo_ways_179 : decode prog_12_method_19_code 179 = .ok (.iadd, 1) := by decide +kernel
theorem d_Mo_ways_180 : decode prog_12_method_19_code 180 = .ok (.iastore, 1) := by decide +kernel
theorem d_Mo_ways_181 : decode prog_12_method_19_code 181 = .ok (.iinc 3 1, 3) := by decide +kernel
theorem d_Mo_ways_184 : decode prog_12_method_19_code 184 = .ok (.goto (-113), 3) := by decide +kernel
theorem d_Mo_ways_187 : decode prog_12_method_19_code 187 = .ok (.iinc 2 1, 3) := by decide +kernel
theorem d_Mo_ways_190 : decode prog_12_method_19_code 190 = .ok (.goto (-127), 3) := by decide +kernel
theorem d_Mo_ways_193 : decode prog_12_method_19_code 193 = .ok (.aload_n 0, 1) := by decide +kernel
theorem d_Mo_ways_194 : decode prog_12_method_19_code 194 = .ok (.getfield 35, 3) := by decide +kernel
theorem d_Mo_ways_197 : decode prog_12_method_19_code 197 = .ok (.iload_n 1, 1) := by decide +kernel
theorem d_Mo_ways_198 : decode prog_12_method_19_code 198 = .ok (.iaload, 1) := by decide +kernel
theorem d_Mo_ways_199 : decode prog_12_method_19_code 199 = .ok (.ldc 102, 2) := by decide +kernel
theorem d_Mo_ways_201 : decode prog_12_method_19_code 201 = .ok (.if_icmp .ne 7, 3) := by decide +kernel
theorem d_Mo_ways_204 : decode prog_12_method_19_code 204 = .ok (.iconst 0, 1) := by decide +kernel
theorem d_Mo_ways_205 : decode prog_12_method_19_code 205 = .ok (.goto 9, 3) := by decide +kernel
theorem d_Mo_ways_208 : decode prog_12_method_19_code 208 = .ok (.aload_n 0, 1) := by decide +kernel
theorem d_Mo_ways_209 : decode prog_12_method_19_code 209 = .ok (.getfield 41, 3) := by decide +kernel
theorem d_Mo_ways_212 : decode prog_12_method_19_code 212 = .ok (.iload_n 1, 1) := by decide +kernel
theorem d_Mo_ways_213 : decode prog_12_method_19_code 213 = .ok (.iaload, 1) := by decide +kernel
theorem d_Mo_ways_214 : decode prog_12_method_19_code 214 = .ok (.ireturn, 1) := by decide +kernel
def rm_Mo_ways : Room := { frames := 2, cells := 0, slots := 0, locals := 47 }
def f_Mo_ways_L16 : (Int32 × mS) → Option ((Int32 × mS) ⊕ (Int32 × mS)) := fun t16 =>
  if (t16.2.1 0 1) ≤ t16.1 then (
  some (.inr (t16.1, t16.2))) else (
  gd (inb t16.1 10) (
  if 1000000000 ≤ (t16.2.1 9 t16.1.toNatClampNeg) then (
  gd (inb t16.1 10) ((nm (sI t16.2 11 t16.1.toNatClampNeg 0) fun σ3 =>
  some (.inl (t16.1 + 1, σ3))))) else (
  gd (inb t16.1 10) (
  if (t16.2.1 10 t16.1.toNatClampNeg) = 0 then (
  gd (inb t16.1 10) ((nm (sI t16.2 11 t16.1.toNatClampNeg 1) fun σ5 =>
  some (.inl (t16.1 + 1, σ5))))) else (
  gd (inb t16.1 10) ((nm (sI t16.2 11 t16.1.toNatClampNeg 0) fun σ4 =>
  some (.inl (t16.1 + 1, σ4)))))))))
def f_Mo_ways_L71 (t63 : Int32 × mS) : (Int32 × mS) → Option ((Int32 × mS) ⊕ (Int32 × mS)) := fun t71 =>
  if (t71.2.1 0 2) ≤ t71.1 then (
  some (.inr (t71.1, t71.2))) else (
  gd (inb t71.1 40) (
  nm (t71.2.1 1 t71.1.toNatClampNeg) fun v6 =>
  gd (inb t71.1 40) (
  nm (t71.2.1 2 t71.1.toNatClampNeg) fun v7 =>
  gd (inb t71.1 40) (
  if (t71.2.1 6 t71.1.toNatClampNeg) = 0 then (
  some (.inl (t71.1 + 1, t71.2))) else (
  gd (inb v6 10) (
  if 1000000000 ≤ (t71.2.1 9 v6.toNatClampNeg) then (
  some (.inl (t71.1 + 1, t71.2))) else (
  gd (inb v7 10) (
  gd (inb v6 10) (
  gd (inb t71.1 40) (
  if (t71.2.1 9 v7.toNatClampNeg) = ((t71.2.1 9 v6.toNatClampNeg) + (t71.2.1 3 t71.1.toNatClampNeg)) then (
  gd (inb v7 10) (
  if (t71.2.1 10 v7.toNatClampNeg) = t63.1 then (
  gd (inb v6 10) (
  if (t71.2.1 10 v6.toNatClampNeg) = (t63.1 - 1) then (
  gd (inb v7 10) (
  gd (inb v6 10) (
  gd (inb v7 10) ((nm (sI t71.2 11 v7.toNatClampNeg ((t71.2.1 11 v7.toNatClampNeg) + (t71.2.1 11 v6.toNatClampNeg))) fun σ8 =>
  some (.inl (t71.1 + 1, σ8))))))) else (
  some (.inl (t71.1 + 1, t71.2))))) else (
  some (.inl (t71.1 + 1, t71.2))))) else (
  some (.inl (t71.1 + 1, t71.2)))))))))))))
def f_Mo_ways_L63 : (Int32 × mS) → Option ((Int32 × mS) ⊕ (Int32 × mS)) := fun t63 =>
  if 10 ≤ t63.1 then (
  some (.inr (t63.1, t63.2))) else (
  (lpN (f_Mo_ways_L71 t63) fuB (0, t63.2)).bind fun u71 =>
  some (.inl (t63.1 + 1, u71.2)))
def f_Mo_ways (σ : mS) (x1 : Int32) : Option (Int32 × mS) :=
  (f_Mo_isNode σ x1).bind fun v1 =>
  if v1 = 0 then (
  some ((-1), σ)) else (
  (f_Mo_findFar σ).bind fun σ2 =>
  (lpN (f_Mo_ways_L16) fuB (0, σ2)).bind fun u16 =>
  (lpN (f_Mo_ways_L63) fuB (1, u16.2)).bind fun u63 =>
  gd (inb x1 10) (
  if (u63.2.1 9 x1.toNatClampNeg) = 1000000000 then (
  some (0, u63.2)) else (
  gd (inb x1 10) (
  some (u63.2.1 11 x1.toNatClampNeg, u63.2)))))
set_option maxHeartbeats 4000000 in
set_option maxRecDepth 100000 in
theorem c_Mo_ways (l : Launch) (D : va_G) (cA ad : Nat → Nat) (σ : mS) (x1 : Int32) (o : Int32 × mS) (h : f_Mo_ways σ x1 = some o) : mCi l ⟨"LeastPathsModel", "ways", "(I)I"⟩ (Cond.code ⟨"LeastPathsModel", "ways", "(I)I"⟩ prog_12_method_19_code 6 (Option.some Jvm.ClassFile.FieldType.int) :: tlG) rm_Mo_ways D clX (tyK cA) 23 (tbY cA) ad σ [.ref (ad 0), .int x1] o := by
  intro sz
  refine m_of (cc := prog_12_method_19_code) (maxL := 6) (Qc := mQi D clX (tyK cA) 23 (tbY cA) ad o) (by decide) (Nat.le_of_ble_eq_true rfl) (fun p e s m args below meth c ls S hr hlk hnm hl M => ?_) sz
  have hl : lv_has ls 6 [(0, .ref (ad 0)), (1, .int x1)] := hl
  generalize hQ : MQ _ _ _ _ _ _ _ = Q
  skip
  unfold f_Mo_ways at h
  refine lv_aload_n S.1 S.2.1 d_Mo_ways_0 rfl (lv_at hl 0 rfl) ?_
  refine lv_iload_n S.1 S.2.1 d_Mo_ways_1 rfl (lv_at hl 1 rfl) ?_
  refine m_xip h (fun o ho => m_rV (As := [.int x1]) (rest := []) S M hl.1 (cwG (n := 1) S.2.2.2.2 kw_393 kw_394 kw_395 kw_391 kw_396 (by decide) ⟨Nat.le_of_ble_eq_true rfl, Nat.le_of_ble_eq_true rfl⟩) ok_Mo (by decide) rfl (c_Mo_isNode l D cA ad σ x1 o ho _) rfl rfl (Nat.le_of_ble_eq_true rfl) d_Mo_ways_2 ⟨Nat.zero_le _, Nat.zero_le _⟩) M (fun v1 H locs h M => ?_)
  refine m_ifne (tgt := 10) S d_Mo_ways_5 (by decide) h (fun h => ?_) (fun h => ?_)
  · refine lv_aload_n S.1 S.2.1 d_Mo_ways_10 rfl (lv_at hl 0 rfl) ?_
    refine m_xv h (fun o ho => m_rV (As := []) (rest := []) S M hl.1 (cwG (n := 0) S.2.2.2.2 kw_414 kw_415 kw_416 kw_391 kw_417 (by decide) ⟨Nat.le_of_ble_eq_true rfl, Nat.le_of_ble_eq_true rfl⟩) ok_Mo (by decide) rfl (c_Mo_findFar l D cA ad σ o ho _) rfl rfl (Nat.le_of_ble_eq_true rfl) d_Mo_ways_11 ⟨Nat.zero_le _, Nat.zero_le _⟩) M (fun σ2 H locs h M => ?_)
    refine lv_iconst (v := 0) S.1 S.2.1 d_Mo_ways_14 (by decide) ?_
    refine lv_istore_n (lv' := [(2, .int 0), (0, .ref (ad 0)), (1, .int x1)]) S.1 S.2.1 d_Mo_ways_15 rfl hl (by decide) rfl (fun ls hl => ?_)
    obtain ⟨u16, q16, h⟩ := Option.bind_eq_some_iff.mp h
    refine lpN_W1 (st := f_Mo_ways_L16) (fun (t16 : Int32 × mS) => ∀ (ls : Array Slot) (H : Heap) (locs : List Loc), lv_has ls 6 [(2, .int t16.1), (0, .ref (ad 0)), (1, .int x1)] → mM D clX (tyK cA) (mA 23 ad s.heap.size) s 23 (tbY cA) ad t16.2 H locs → W p l e rm_Mo_ways s m args below meth c H locs 0 0 Q (F0 m 16 ls [])) (fun (u16 : Int32 × mS) => ∀ (ls : Array Slot) (H : Heap) (locs : List Loc), lv_has ls 6 [(2, .int u16.1), (0, .ref (ad 0)), (1, .int x1)] → mM D clX (tyK cA) (mA 23 ad s.heap.size) s 23 (tbY cA) ad u16.2 H locs → W p l e rm_Mo_ways s m args below meth c H locs 0 0 Q (F0 m 61 ls [])) ?_ fuB ((0, σ2) : Int32 × mS) u16 q16 ?_ ls _ _ (lv_sub hl [0, 1, 2] rfl) M
    · intro t16 oo16 h K1 K2 ls H locs hl M
      unfold f_Mo_ways_L16 at h
      refine lv_iload_n S.1 S.2.1 d_Mo_ways_16 rfl (lv_at hl 0 rfl) ?_
      refine lv_aload_n S.1 S.2.1 d_Mo_ways_17 rfl (lv_at hl 1 rfl) ?_
      refine m_gi S M (j := 1) ok_Mo (by decide) rfl (by decide) rfl kw_382 rfl d_Mo_ways_18 ?_
      refine m_ige (tgt := 61) S d_Mo_ways_21 (by decide) h (fun h => ?_) (fun h => ?_)
      · exact K2 _ (Option.some.inj h).symm ls _ _ (lv_sub hl [0, 1, 2] rfl) M
      · refine lv_aload_n S.1 S.2.1 d_Mo_ways_24 rfl (lv_at hl 1 rfl) ?_
        refine m_gs (t := 11) S M (j := 13) ok_Mo (by decide) rfl (by decide) rfl kw_422 rfl d_Mo_ways_25 ?_
        refine lv_iload_n S.1 S.2.1 d_Mo_ways_28 rfl (lv_at hl 0 rfl) ?_
        refine lv_aload_n S.1 S.2.1 d_Mo_ways_29 rfl (lv_at hl 1 rfl) ?_
        refine m_gs (t := 9) S M (j := 11) ok_Mo (by decide) rfl (by decide) rfl kw_407 rfl d_Mo_ways_30 ?_
        refine lv_iload_n S.1 S.2.1 d_Mo_ways_33 rfl (lv_at hl 0 rfl) ?_
        refine m_ial (t0 := 0) S M (by decide) rfl rfl h d_Mo_ways_34 (fun h => ?_)
        refine lv_ldc (v := 1000000000) S.1 S.2.1 S.2.2.2.1 (S.2.2.2.2 _ kw_408) d_Mo_ways_35 ?_
        refine m_ige (tgt := 53) S d_Mo_ways_37 (by decide) h (fun h => ?_) (fun h => ?_)
        · refine lv_iconst (v := 0) S.1 S.2.1 d_Mo_ways_53 (by decide) ?_
          refine m_ias (t0 := 0) S M (by decide) rfl rfl h d_Mo_ways_54 (fun σ3 H locs h M => ?_)
          refine lv_iinc (v := t16.1 + 1) (lv' := [(2, .int (t16.1 + 1)), (0, .ref (ad 0)), (1, .int x1)]) S.1 S.2.1 d_Mo_ways_55 hl (k := 0) rfl rfl (by decide) rfl (fun ls hl => ?_)
          refine lv_goto (tgt := 16) S.1 S.2.1 d_Mo_ways_58 (by decide) ?_
          exact K1 _ (Option.some.inj h).symm ls _ _ (lv_sub hl [0, 1, 2] rfl) M
        · refine lv_aload_n S.1 S.2.1 d_Mo_ways_40 rfl (lv_at hl 1 rfl) ?_
          refine m_gs (t := 10) S M (j := 12) ok_Mo (by decide) rfl (by decide) rfl kw_409 rfl d_Mo_ways_41 ?_
          refine lv_iload_n S.1 S.2.1 d_Mo_ways_44 rfl (lv_at hl 0 rfl) ?_
          refine m_ial (t0 := 0) S M (by decide) rfl rfl h d_Mo_ways_45 (fun h => ?_)
          refine m_ifne (tgt := 53) S d_Mo_ways_46 (by decide) h (fun h => ?_) (fun h => ?_)
          · refine lv_iconst (v := 0) S.1 S.2.1 d_Mo_ways_53 (by decide) ?_
            refine m_ias (t0 := 0) S M (by decide) rfl rfl h d_Mo_ways_54 (fun σ4 H locs h M => ?_)
            refine lv_iinc (v := t16.1 + 1) (lv' := [(2, .int (t16.1 + 1)), (0, .ref (ad 0)), (1, .int x1)]) S.1 S.2.1 d_Mo_ways_55 hl (k := 0) rfl rfl (by decide) rfl (fun ls hl => ?_)
            refine lv_goto (tgt := 16) S.1 S.2.1 d_Mo_ways_58 (by decide) ?_
            exact K1 _ (Option.some.inj h).symm ls _ _ (lv_sub hl [0, 1, 2] rfl) M
          · refine lv_iconst (v := 1) S.1 S.2.1 d_Mo_ways_49 (by decide) ?_
            refine lv_goto (tgt := 54) S.1 S.2.1 d_Mo_ways_50 (by decide) ?_
            refine m_ias (t0 := 0) S M (by decide) rfl rfl h d_Mo_ways_54 (fun σ5 H locs h M => ?_)
            refine lv_iinc (v := t16.1 + 1) (lv' := [(2, .int (t16.1 + 1)), (0, .ref (ad 0)), (1, .int x1)]) S.1 S.2.1 d_Mo_ways_55 hl (k := 0) rfl rfl (by decide) rfl (fun ls hl => ?_)
            refine lv_goto (tgt := 16) S.1 S.2.1 d_Mo_ways_58 (by decide) ?_
            exact K1 _ (Option.some.inj h).symm ls _ _ (lv_sub hl [0, 1, 2] rfl) M
    · intro ls H locs hl M
      refine lv_iconst (v := 1) S.1 S.2.1 d_Mo_ways_61 (by decide) ?_
      refine lv_istore_n (lv' := [(2, .int 1), (0, .ref (ad 0)), (1, .int x1)]) S.1 S.2.1 d_Mo_ways_62 rfl hl (by decide) rfl (fun ls hl => ?_)
      obtain ⟨u63, q63, h⟩ := Option.bind_eq_some_iff.mp h
      refine lpN_W1 (st := f_Mo_ways_L63) (fun (t63 : Int32 × mS) => ∀ (ls : Array Slot) (H : Heap) (locs : List Loc), lv_has ls 6 [(2, .int t63.1), (0, .ref (ad 0)), (1, .int x1)] → mM D clX (tyK cA) (mA 23 ad s.heap.size) s 23 (tbY cA) ad t63.2 H locs → W p l e rm_Mo_ways s m args below meth c H locs 0 0 Q (F0 m 63 ls [])) (fun (u63 : Int32 × mS) => ∀ (ls : Array Slot) (H : Heap) (locs : List Loc), lv_has ls 6 [(2, .int u63.1), (0, .ref (ad 0)), (1, .int x1)] → mM D clX (tyK cA) (mA 23 ad s.heap.size) s 23 (tbY cA) ad u63.2 H locs → W p l e rm_Mo_ways s m args below meth c H locs 0 0 Q (F0 m 193 ls [])) ?_ fuB ((1, u16.2) : Int32 × mS) u63 q63 ?_ ls _ _ (lv_sub hl [0, 1, 2] rfl) M
      · intro t63 oo63 h K1 K2 ls H locs hl M
        unfold f_Mo_ways_L63 at h
        refine lv_iload_n S.1 S.2.1 d_Mo_ways_63 rfl (lv_at hl 0 rfl) ?_
        refine lv_bipush (v := 10) S.1 S.2.1 d_Mo_ways_64 (by decide) ?_
        refine m_ige (tgt := 193) S d_Mo_ways_66 (by decide) h (fun h => ?_) (fun h => ?_)
        · exact K2 _ (Option.some.inj h).symm ls _ _ (lv_sub hl [0, 1, 2] rfl) M
        · refine lv_iconst (v := 0) S.1 S.2.1 d_Mo_ways_69 (by decide) ?_
          refine lv_istore_n (lv' := [(3, .int 0), (2, .int t63.1), (0, .ref (ad 0)), (1, .int x1)]) S.1 S.2.1 d_Mo_ways_70 rfl hl (by decide) rfl (fun ls hl => ?_)
          obtain ⟨u71, q71, h⟩ := Option.bind_eq_some_iff.mp h
          refine lpN_W1 (st := f_Mo_ways_L71 t63) (fun (t71 : Int32 × mS) => ∀ (ls : Array Slot) (H : Heap) (locs : List Loc), lv_has ls 6 [(3, .int t71.1), (2, .int t63.1), (0, .ref (ad 0)), (1, .int x1)] → mM D clX (tyK cA) (mA 23 ad s.heap.size) s 23 (tbY cA) ad t71.2 H locs → W p l e rm_Mo_ways s m args below meth c H locs 0 0 Q (F0 m 71 ls [])) (fun (u71 : Int32 × mS) => ∀ (ls : Array Slot) (H : Heap) (locs : List Loc), lv_has ls 6 [(3, .int u71.1), (2, .int t63.1), (0, .ref (ad 0)), (1, .int x1)] → mM D clX (tyK cA) (mA 23 ad s.heap.size) s 23 (tbY cA) ad u71.2 H locs → W p l e rm_Mo_ways s m args below meth c H locs 0 0 Q (F0 m 187 ls [])) ?_ fuB ((0, t63.2) : Int32 × mS) u71 q71 ?_ ls _ _ (lv_sub hl [0, 1, 2, 3] rfl) M
          · intro t71 oo71 h K1 K2 ls H locs hl M
            unfold f_Mo_ways_L71 at h
            refine lv_iload_n S.1 S.2.1 d_Mo_ways_71 rfl (lv_at hl 0 rfl) ?_
            refine lv_aload_n S.1 S.2.1 d_Mo_ways_72 rfl (lv_at hl 2 rfl) ?_
            refine m_gi S M (j := 2) ok_Mo (by decide) rfl (by decide) rfl kw_383 rfl d_Mo_ways_73 ?_
            refine m_ige (tgt := 187) S d_Mo_ways_76 (by decide) h (fun h => ?_) (fun h => ?_)
            · exact K2 _ (Option.some.inj h).symm ls _ _ (lv_sub hl [0, 1, 2, 3] rfl) M
            · refine lv_aload_n S.1 S.2.1 d_Mo_ways_79 rfl (lv_at hl 2 rfl) ?_
              refine m_gs (t := 1) S M (j := 3) ok_Mo (by decide) rfl (by decide) rfl kw_398 rfl d_Mo_ways_80 ?_
              refine lv_iload_n S.1 S.2.1 d_Mo_ways_83 rfl (lv_at hl 0 rfl) ?_
              refine m_ial (t0 := 0) S M (by decide) rfl rfl h d_Mo_ways_84 (fun h => ?_)
              refine m_ni h (fun v6 h => ?_)
              refine lv_istore (lv' := [(4, .int v6), (3, .int t71.1), (2, .int t63.1), (0, .ref (ad 0)), (1, .int x1)]) S.1 S.2.1 d_Mo_ways_85 hl (by decide) rfl (fun ls hl => ?_)
              refine lv_aload_n S.1 S.2.1 d_Mo_ways_87 rfl (lv_at hl 3 rfl) ?_
              refine m_gs (t := 2) S M (j := 4) ok_Mo (by decide) rfl (by decide) rfl kw_399 rfl d_Mo_ways_88 ?_
              refine lv_iload_n S.1 S.2.1 d_Mo_ways_91 rfl (lv_at hl 1 rfl) ?_
              refine m_ial (t0 := 0) S M (by decide) rfl rfl h d_Mo_ways_92 (fun h => ?_)
              refine m_ni h (fun v7 h => ?_)
              refine lv_istore (lv' := [(5, .int v7), (4, .int v6), (3, .int t71.1), (2, .int t63.1), (0, .ref (ad 0)), (1, .int x1)]) S.1 S.2.1 d_Mo_ways_93 hl (by decide) rfl (fun ls hl => ?_)
              refine lv_aload_n S.1 S.2.1 d_Mo_ways_95 rfl (lv_at hl 4 rfl) ?_
              refine m_gs (t := 6) S M (j := 8) ok_Mo (by decide) rfl (by decide) rfl kw_384 rfl d_Mo_ways_96 ?_
              refine lv_iload_n S.1 S.2.1 d_Mo_ways_99 rfl (lv_at hl 2 rfl) ?_
              refine m_zal (t0 := 2) S M (by decide) rfl rfl h d_Mo_ways_100 (fun h => ?_)
              refine m_ifeq (tgt := 181) S d_Mo_ways_101 (by decide) h (fun h => ?_) (fun h => ?_)
              · refine lv_iinc (v := t71.1 + 1) (lv' := [(3, .int (t71.1 + 1)), (5, .int v7), (4, .int v6), (2, .int t63.1), (0, .ref (ad 0)), (1, .int x1)]) S.1 S.2.1 d_Mo_ways_181 hl (k := 2) rfl rfl (by decide) rfl (fun ls hl => ?_)
                refine lv_goto (tgt := 71) S.1 S.2.1 d_Mo_ways_184 (by decide) ?_
                exact K1 _ (Option.some.inj h).symm ls _ _ (lv_sub hl [0, 3, 4, 5] rfl) M
              · refine lv_aload_n S.1 S.2.1 d_Mo_ways_104 rfl (lv_at hl 4 rfl) ?_
                refine m_gs (t := 9) S M (j := 11) ok_Mo (by decide) rfl (by decide) rfl kw_407 rfl d_Mo_ways_105 ?_
                refine lv_iload S.1 S.2.1 d_Mo_ways_108 (lv_at hl 1 rfl) ?_
                refine m_ial (t0 := 0) S M (by decide) rfl rfl h d_Mo_ways_110 (fun h => ?_)
                refine lv_ldc (v := 1000000000) S.1 S.2.1 S.2.2.2.1 (S.2.2.2.2 _ kw_408) d_Mo_ways_111 ?_
                refine m_ige (tgt := 181) S d_Mo_ways_113 (by decide) h (fun h => ?_) (fun h => ?_)
                · refine lv_iinc (v := t71.1 + 1) (lv' := [(3, .int (t71.1 + 1)), (5, .int v7), (4, .int v6), (2, .int t63.1), (0, .ref (ad 0)), (1, .int x1)]) S.1 S.2.1 d_Mo_ways_181 hl (k := 2) rfl rfl (by decide) rfl (fun ls hl => ?_)
                  refine lv_goto (tgt := 71) S.1 S.2.1 d_Mo_ways_184 (by decide) ?_
                  exact K1 _ (Option.some.inj h).symm ls _ _ (lv_sub hl [0, 3, 4, 5] rfl) M
                · refine lv_aload_n S.1 S.2.1 d_Mo_ways_116 rfl (lv_at hl 4 rfl) ?_
                  refine m_gs (t := 9) S M (j := 11) ok_Mo (by decide) rfl (by decide) rfl kw_407 rfl d_Mo_ways_117 ?_
                  refine lv_iload S.1 S.2.1 d_Mo_ways_120 (lv_at hl 0 rfl) ?_
                  refine m_ial (t0 := 0) S M (by decide) rfl rfl h d_Mo_ways_122 (fun h => ?_)
                  refine lv_aload_n S.1 S.2.1 d_Mo_ways_123 rfl (lv_at hl 4 rfl) ?_
                  refine m_gs (t := 9) S M (j := 11) ok_Mo (by decide) rfl (by decide) rfl kw_407 rfl d_Mo_ways_124 ?_
                  refine lv_iload S.1 S.2.1 d_Mo_ways_127 (lv_at hl 1 rfl) ?_
                  refine m_ial (t0 := 0) S M (by decide) rfl rfl h d_Mo_ways_129 (fun h => ?_)
                  refine lv_aload_n S.1 S.2.1 d_Mo_ways_130 rfl (lv_at hl 4 rfl) ?_
                  refine m_gs (t := 3) S M (j := 5) ok_Mo (by decide) rfl (by decide) rfl kw_400 rfl d_Mo_ways_131 ?_
                  refine lv_iload_n S.1 S.2.1 d_Mo_ways_134 rfl (lv_at hl 2 rfl) ?_
                  refine m_ial (t0 := 0) S M (by decide) rfl rfl h d_Mo_ways_135 (fun h => ?_)
                  refine lv_iadd S.1 S.2.1 d_Mo_ways_136 ?_
                  refine m_ine (tgt := 181) S d_Mo_ways_137 (by decide) h (fun h => ?_) (fun h => ?_)
                  · refine lv_iinc (v := t71.1 + 1) (lv' := [(3, .int (t71.1 + 1)), (5, .int v7), (4, .int v6), (2, .int t63.1), (0, .ref (ad 0)), (1, .int x1)]) S.1 S.2.1 d_Mo_ways_181 hl (k := 2) rfl rfl (by decide) rfl (fun ls hl => ?_)
                    refine lv_goto (tgt := 71) S.1 S.2.1 d_Mo_ways_184 (by decide) ?_
                    exact K1 _ (Option.some.inj h).symm ls _ _ (lv_sub hl [0, 3, 4, 5] rfl) M
                  · refine lv_aload_n S.1 S.2.1 d_Mo_ways_140 rfl (lv_at hl 4 rfl) ?_
                    refine m_gs (t := 10) S M (j := 12) ok_Mo (by decide) rfl (by decide) rfl kw_409 rfl d_Mo_ways_141 ?_
                    refine lv_iload S.1 S.2.1 d_Mo_ways_144 (lv_at hl 0 rfl) ?_
                    refine m_ial (t0 := 0) S M (by decide) rfl rfl h d_Mo_ways_146 (fun h => ?_)
                    refine lv_iload_n S.1 S.2.1 d_Mo_ways_147 rfl (lv_at hl 3 rfl) ?_
                    refine m_ine (tgt := 181) S d_Mo_ways_148 (by decide) h (fun h => ?_) (fun h => ?_)
                    · refine lv_iinc (v := t71.1 + 1) (lv' := [(3, .int (t71.1 + 1)), (5, .int v7), (4, .int v6), (2, .int t63.1), (0, .ref (ad 0)), (1, .int x1)]) S.1 S.2.1 d_Mo_ways_181 hl (k := 2) rfl rfl (by decide) rfl (fun ls hl => ?_)
                      refine lv_goto (tgt := 71) S.1 S.2.1 d_Mo_ways_184 (by decide) ?_
                      exact K1 _ (Option.some.inj h).symm ls _ _ (lv_sub hl [0, 3, 4, 5] rfl) M
                    · refine lv_aload_n S.1 S.2.1 d_Mo_ways_151 rfl (lv_at hl 4 rfl) ?_
                      refine m_gs (t := 10) S M (j := 12) ok_Mo (by decide) rfl (by decide) rfl kw_409 rfl d_Mo_ways_152 ?_
                      refine lv_iload S.1 S.2.1 d_Mo_ways_155 (lv_at hl 1 rfl) ?_
                      refine m_ial (t0 := 0) S M (by decide) rfl rfl h d_Mo_ways_157 (fun h => ?_)
                      refine lv_iload_n S.1 S.2.1 d_Mo_ways_158 rfl (lv_at hl 3 rfl) ?_
                      refine lv_iconst (v := 1) S.1 S.2.1 d_Mo_ways_159 (by decide) ?_
                      refine lv_isub S.1 S.2.1 d_Mo_ways_160 ?_
                      refine m_ine (tgt := 181) S d_Mo_ways_161 (by decide) h (fun h => ?_) (fun h => ?_)
                      · refine lv_iinc (v := t71.1 + 1) (lv' := [(3, .int (t71.1 + 1)), (5, .int v7), (4, .int v6), (2, .int t63.1), (0, .ref (ad 0)), (1, .int x1)]) S.1 S.2.1 d_Mo_ways_181 hl (k := 2) rfl rfl (by decide) rfl (fun ls hl => ?_)
                        refine lv_goto (tgt := 71) S.1 S.2.1 d_Mo_ways_184 (by decide) ?_
                        exact K1 _ (Option.some.inj h).symm ls _ _ (lv_sub hl [0, 3, 4, 5] rfl) M
                      · refine lv_aload_n S.1 S.2.1 d_Mo_ways_164 rfl (lv_at hl 4 rfl) ?_
                        refine m_gs (t := 11) S M (j := 13) ok_Mo (by decide) rfl (by decide) rfl kw_422 rfl d_Mo_ways_165 ?_
                        refine lv_iload S.1 S.2.1 d_Mo_ways_168 (lv_at hl 0 rfl) ?_
                        refine lv_dup2_11 S.1 S.2.1 d_Mo_ways_170 rfl rfl ?_
                        refine m_ial (t0 := 0) S M (by decide) rfl rfl h d_Mo_ways_171 (fun h => ?_)
                        refine lv_aload_n S.1 S.2.1 d_Mo_ways_172 rfl (lv_at hl 4 rfl) ?_
                        refine m_gs (t := 11) S M (j := 13) ok_Mo (by decide) rfl (by decide) rfl kw_422 rfl d_Mo_ways_173 ?_
                        refine lv_iload S.1 S.2.1 d_Mo_ways_176 (lv_at hl 1 rfl) ?_
                        refine m_ial (t0 := 0) S M (by decide) rfl rfl h d_Mo_ways_178 (fun h => ?_)
                        refine lv_iadd S.1 S.2.1 d_Mo_ways_179 ?_
                        refine m_ias (t0 := 0) S M (by decide) rfl rfl h d_Mo_ways_180 (fun σ8 H locs h M => ?_)
                        refine lv_iinc (v := t71.1 + 1) (lv' := [(3, .int (t71.1 + 1)), (5, .int v7), (4, .int v6), (2, .int t63.1), (0, .ref (ad 0)), (1, .int x1)]) S.1 S.2.1 d_Mo_ways_181 hl (k := 2) rfl rfl (by decide) rfl (fun ls hl => ?_)
                        refine lv_goto (tgt := 71) S.1 S.2.1 d_Mo_ways_184 (by decide) ?_
                        exact K1 _ (Option.some.inj h).symm ls _ _ (lv_sub hl [0, 3, 4, 5] rfl) M
          · intro ls H locs hl M
            refine lv_iinc (v := t63.1 + 1) (lv' := [(2, .int (t63.1 + 1)), (3, .int u71.1), (0, .ref (ad 0)), (1, .int x1)]) S.1 S.2.1 d_Mo_ways_187 hl (k := 1) rfl rfl (by decide) rfl (fun ls hl => ?_)
            refine lv_goto (tgt := 63) S.1 S.2.1 d_Mo_ways_190 (by decide) ?_
            exact K1 _ (Option.some.inj h).symm ls _ _ (lv_sub hl [0, 2, 3] rfl) M
      · intro ls H locs hl M
        refine lv_aload_n S.1 S.2.1 d_Mo_ways_193 rfl (lv_at hl 1 rfl) ?_
        refine m_gs (t := 9) S M (j := 11) ok_Mo (by decide) rfl (by decide) rfl kw_407 rfl d_Mo_ways_194 ?_
        refine lv_iload_n S.1 S.2.1 d_Mo_ways_197 rfl (lv_at hl 2 rfl) ?_
        refine m_ial (t0 := 0) S M (by decide) rfl rfl h d_Mo_ways_198 (fun h => ?_)
        refine lv_ldc (v := 1000000000) S.1 S.2.1 S.2.2.2.1 (S.2.2.2.2 _ kw_408) d_Mo_ways_199 ?_
        refine m_ine (tgt := 208) S d_Mo_ways_201 (by decide) h (fun h => ?_) (fun h => ?_)
        · refine lv_aload_n S.1 S.2.1 d_Mo_ways_208 rfl (lv_at hl 1 rfl) ?_
          refine m_gs (t := 11) S M (j := 13) ok_Mo (by decide) rfl (by decide) rfl kw_422 rfl d_Mo_ways_209 ?_
          refine lv_iload_n S.1 S.2.1 d_Mo_ways_212 rfl (lv_at hl 2 rfl) ?_
          refine m_ial (t0 := 0) S M (by decide) rfl rfl h d_Mo_ways_213 (fun h => ?_)
          subst hQ; exact m_iret S hr hlk M (Option.some.inj h) d_Mo_ways_214
        · refine lv_iconst (v := 0) S.1 S.2.1 d_Mo_ways_204 (by decide) ?_
          refine lv_goto (tgt := 214) S.1 S.2.1 d_Mo_ways_205 (by decide) ?_
          subst hQ; exact m_iret S hr hlk M (Option.some.inj h) d_Mo_ways_214
  · refine lv_iconst (v := (-1)) S.1 S.2.1 d_Mo_ways_8 (by decide) ?_
    subst hQ; exact m_iret S hr hlk M (Option.some.inj h) d_Mo_ways_9
theorem d_Mo_tree_0 : decode prog_12_method_20_code 0 = .ok (.aload_n 0, 1) := by decide +kernel
theorem d_Mo_tree_1 : decode prog_12_method_20_code 1 = .ok (.iload_n 1, 1) := by decide +kernel
theorem d_Mo_tree_2 : decode prog_12_method_20_code 2 = .ok (.invokevirtual 94, 3) := by decide +kernel
theorem d_Mo_tree_5 : decode prog_12_method_20_code 5 = .ok (.ifCond .ne 5, 3) := by decide +kernel
theorem d_Mo_tree_8 : decode prog_12_method_20_code 8 = .ok (.iconst (-1), 1) := by decide +kernel
theorem d_Mo_tree_9 : decode prog_12_method_20_code 9 = .ok (.ireturn, 1) := by decide +kernel
theorem d_Mo_tree_10 : decode prog_12_method_20_code 10 = .ok (.aload_n 0, 1) := by decide +kernel
theorem d_Mo_tree_11 : decode prog_12_method_20_code 11 = .ok (.invokevirtual 107, 3) := by decide +kernel
theorem d_Mo_tree_14 : decode prog_12_method_20_code 14 = .ok (.aload_n 0, 1) := by decide +kernel
theorem d_Mo_tree_15 : decode prog_12_method_20_code 15 = .ok (.getfield 35, 3) := by decide +kernel
theorem d_Mo_tree_18 : decode prog_12_method_20_code 18 = .ok (.iload_n 1, 1) := by decide +kernel
theorem d_Mo_tree_19 : decode prog_12_method_20_code 19 = .ok (.iaload, 1) := by decide +kernel
theorem d_Mo_tree_20 : decode prog_12_method_20_code 20 = .ok (.ldc 102, 2) := by decide +kernel
theorem d_Mo_tree_22 : decode prog_12_method_20_code 22 = .ok (.if_icmp .ne 6, 3) := by decide +kernel
theorem d_Mo_tree_25 : decode prog_12_method_20_code 25 = .ok (.bipush (-3), 2) := by decide +kernel
theorem d_Mo_tree_27 : decode prog_12_method_20_code 27 = .ok (.ireturn, 1) := by decide +kernel
theorem d_Mo_tree_28 : decode prog_12_method_20_code 28 = .ok (.iload_n 2, 1) := by decide +kernel
theorem d_Mo_tree_29 : decode prog_12_method_20_code 29 = .ok (.ifCond .lt 13, 3) := by decide +kernel
theorem d_Mo_tree_32 : decode prog_12_method_20_code 32 = .ok (.iload_n 2, 1) := by decide +kernel
theorem d_Mo_tree_33 : decode prog_12_method_20_code 33 = .ok (.aload_n 0, 1) := by decide +kernel
theorem d_Mo_tree_34 : decode prog_12_method_20_code 34 = .ok (.getfield 38, 3) := by decide +kernel
theorem d_Mo_tree_37 : decode prog_12_method_20_code 37 = .ok (.iload_n 1, 1) := by decide +kernel
theorem d_Mo_tree_38 : decode prog_12_method_20_code 38 = .ok (.iaload, 1) := by decide +kernel
theorem d_Mo_tree_39 : decode prog_12_method_20_code 39 = .ok (.if_icmp .lt 5, 3) := by decide +kernel
theorem d_Mo_tree_42 : decode prog_12_method_20_code 42 = .ok (.iconst (-1), 1) := by decide +kernel
theorem d_Mo_tree_43 : decode prog_12_method_20_code 43 = .ok (.ireturn, 1) := by decide +kernel
theorem d_Mo_tree_44 : decode prog_12_method_20_code 44 = .ok (.iload_n 1, 1) := by decide +kernel
theorem d_Mo_tree_45 : decode prog_12_method_20_code 45 = .ok (.istore_n 3, 1) := by decide +kernel
theorem d_Mo_tree_46 : decode prog_12_method_20_code 46 = .ok (.aload_n 0, 1) := by decide +kernel
theorem d_Mo_tree_47 : decode prog_12_method_20_code 47 = .ok (.iload_n 3, 1) := by decide +kernel
theorem d_Mo_tree_48 : decode prog_12_method_20_code 48 = .ok (.invokevirtual 110, 3) := by decide +kernel
theorem d_Mo_tree_51 : decode prog_12_method_20_code 51 = .ok (.istore 4, 2) := by decide +kernel
theorem d_Mo_tree_53 : decode prog_12_method_20_code 53 = .ok (.aload_n 0, 1) := by decide +kernel
theorem d_Mo_tree_54 : decode prog_12_method_20_code 54 = .ok (.getfield 38, 3) := by decide +kernel
theorem d_Mo_tree_57 : decode prog_12_method_20_code 57 = .ok (.iload_n 3, 1) := by decide +kernel
theorem d_Mo_tree_58 : decode prog_12_method_20_code 58 = .ok (.iaload, 1) := by decide +kernel
theorem d_Mo_tree_59 : decode prog_12_method_20_code 59 = .ok (.iload_n 2, 1) := by decide +kernel
theorem d_Mo_tree_60 : decode prog_12_method_20_code 60 = .ok (.iconst 1, 1) := by decide +kernel
theorem d_Mo_tree_61 : decode prog_12_method_20_code 61 = .ok (.iadd, 1) := by decide +kernel
theorem d_Mo_tree_62 : decode prog_12_method_20_code 62 = .ok (.if_icmp .le 21, 3) := by decide +kernel
theorem d_Mo_tree_65 : decode prog_12_method_20_code 65 = .ok (.aload_n 0, 1) := by decide +kernel
theorem d_Mo_tree_66 : decode prog_12_method_20_code 66 = .ok (.getfield 7, 3) := by decide +kernel
theorem d_Mo_tree_69 : decode prog_12_method_20_code 69 = .ok (.iload 4, 2) := by decide +kernel
theorem d_Mo_tree_71 : decode prog_12_method_20_code 71 = .ok (.iaload, 1) := by decide +kernel
theorem d_Mo_tree_72 : decode prog_12_method_20_code 72 = .ok (.istore_n 3, 1) := by decide +kernel
theorem d_Mo_tree_73 : decode prog_12_method_20_code 73 = .ok (.aload_n 0, 1) := by decide +kernel
theorem d_Mo_tree_74 : decode prog_12_method_20_code 74 = .ok (.iload_n 3, 1) := by decide +kernel
theorem d_Mo_tree_75 : decode prog_12_method_20_code 75 = .ok (.invokevirtual 110, 3) := by decide +kernel
theorem d_Mo_tree_78 : decode prog_12_method_20_code 78 = .ok (.istore 4, 2) := by decide +kernel
theorem d_Mo_tree_80 : decode prog_12_method_20_code 80 = .ok (.goto (-27), 3) := by decide +kernel
theorem d_Mo_tree_83 : decode prog_12_method_20_code 83 = .ok (.iload 4, 2) := by decide +kernel
theorem d_Mo_tree_85 : decode prog_12_method_20_code 85 = .ok (.ireturn, 1) := by decide +kernel
def rm_Mo_tree : Room := { frames := 2, cells := 0, slots := 0, locals := 47 }
def f_Mo_tree_L53 (x2 : Int32) (σ2 : mS) : (Int32 × Int32) → Option ((Int32 × Int32) ⊕ (Int32 × Int32)) := fun t53 =>
  gd (inb t53.1 10) (
  if (σ2.1 10 t53.1.toNatClampNeg) ≤ (x2 + 1) then (
  some (.inr (t53.1, t53.2))) else (
  gd (inb t53.2 40) (
  nm (σ2.1 1 t53.2.toNatClampNeg) fun v4 =>
  (f_Mo_stepOf σ2 v4).bind fun v5 =>
  some (.inl (v4, v5)))))
def f_Mo_tree (σ : mS) (x1 : Int32) (x2 : Int32) : Option (Int32 × mS) :=
  (f_Mo_isNode σ x1).bind fun v1 =>
  if v1 = 0 then (
  some ((-1), σ)) else (
  (f_Mo_findFar σ).bind fun σ2 =>
  gd (inb x1 10) (
  if (σ2.1 9 x1.toNatClampNeg) = 1000000000 then (
  some ((-3), σ2)) else (
  if x2 < 0 then (
  some ((-1), σ2)) else (
  gd (inb x1 10) (
  if x2 < (σ2.1 10 x1.toNatClampNeg) then (
  (f_Mo_stepOf σ2 x1).bind fun v3 =>
  (lpN (f_Mo_tree_L53 x2 σ2) fuB (x1, v3)).bind fun u53 =>
  some (u53.2, σ2)) else (
  some ((-1), σ2)))))))
set_option maxHeartbeats 4000000 in
set_option maxRecDepth 100000 in
theorem c_Mo_tree (l : Launch) (D : va_G) (cA ad : Nat → Nat) (σ : mS) (x1 : Int32) (x2 : Int32) (o : Int32 × mS) (h : f_Mo_tree σ x1 x2 = some o) : mCi l ⟨"LeastPathsModel", "tree", "(II)I"⟩ (Cond.code ⟨"LeastPathsModel", "tree", "(II)I"⟩ prog_12_method_20_code 5 (Option.some Jvm.ClassFile.FieldType.int) :: tlG) rm_Mo_tree D clX (tyK cA) 23 (tbY cA) ad σ [.ref (ad 0), .int x1, .int x2] o := by
  intro sz
  refine m_of (cc := prog_12_method_20_code) (maxL := 5) (Qc := mQi D clX (tyK cA) 23 (tbY cA) ad o) (by decide) (Nat.le_of_ble_eq_true rfl) (fun p e s m args below meth c ls S hr hlk hnm hl M => ?_) sz
  have hl : lv_has ls 5 [(0, .ref (ad 0)), (1, .int x1), (2, .int x2)] := hl
  generalize hQ : MQ _ _ _ _ _ _ _ = Q
  skip
  unfold f_Mo_tree at h
  refine lv_aload_n S.1 S.2.1 d_Mo_tree_0 rfl (lv_at hl 0 rfl) ?_
  refine lv_iload_n S.1 S.2.1 d_Mo_tree_1 rfl (lv_at hl 1 rfl) ?_
  refine m_xip h (fun o ho => m_rV (As := [.int x1]) (rest := []) S M hl.1 (cwG (n := 1) S.2.2.2.2 kw_393 kw_394 kw_395 kw_391 kw_396 (by decide) ⟨Nat.le_of_ble_eq_true rfl, Nat.le_of_ble_eq_true rfl⟩) ok_Mo (by decide) rfl (c_Mo_isNode l D cA ad σ x1 o ho _) rfl rfl (Nat.le_of_ble_eq_true rfl) d_Mo_tree_2 ⟨Nat.zero_le _, Nat.zero_le _⟩) M (fun v1 H locs h M => ?_)
  refine m_ifne (tgt := 10) S d_Mo_tree_5 (by decide) h (fun h => ?_) (fun h => ?_)
  · refine lv_aload_n S.1 S.2.1 d_Mo_tree_10 rfl (lv_at hl 0 rfl) ?_
    refine m_xv h (fun o ho => m_rV (As := []) (rest := []) S M hl.1 (cwG (n := 0) S.2.2.2.2 kw_414 kw_415 kw_416 kw_391 kw_417 (by decide) ⟨Nat.le_of_ble_eq_true rfl, Nat.le_of_ble_eq_true rfl⟩) ok_Mo (by decide) rfl (c_Mo_findFar l D cA ad σ o ho _) rfl rfl (Nat.le_of_ble_eq_true rfl) d_Mo_tree_11 ⟨Nat.zero_le _, Nat.zero_le _⟩) M (fun σ2 H locs h M => ?_)
    refine lv_aload_n S.1 S.2.1 d_Mo_tree_14 rfl (lv_at hl 0 rfl) ?_
    refine m_gs (t := 9) S M (j := 11) ok_Mo (by decide) rfl (by decide) rfl kw_407 rfl d_Mo_tree_15 ?_
    refine lv_iload_n S.1 S.2.1 d_Mo_tree_18 rfl (lv_at hl 1 rfl) ?_
    refine m_ial (t0 := 0) S M (by decide) rfl rfl h d_Mo_tree_19 (fun h => ?_)
    refine lv_ldc (v := 1000000000) S.1 S.2.1 S.2.2.2.1 (S.2.2.2.2 _ kw_408) d_Mo_tree_20 ?_
    refine m_ine (tgt := 28) S d_Mo_tree_22 (by decide) h (fun h => ?_) (fun h => ?_)
    · refine lv_iload_n S.1 S.2.1 d_Mo_tree_28 rfl (lv_at hl 2 rfl) ?_
      refine m_iflt (tgt := 42) S d_Mo_tree_29 (by decide) h (fun h => ?_) (fun h => ?_)
      · refine lv_iconst (v := (-1)) S.1 S.2.1 d_Mo_tree_42 (by decide) ?_
        subst hQ; exact m_iret S hr hlk M (Option.some.inj h) d_Mo_tree_43
      · refine lv_iload_n S.1 S.2.1 d_Mo_tree_32 rfl (lv_at hl 2 rfl) ?_
        refine lv_aload_n S.1 S.2.1 d_Mo_tree_33 rfl (lv_at hl 0 rfl) ?_
        refine m_gs (t := 10) S M (j := 12) ok_Mo (by decide) rfl (by decide) rfl kw_409 rfl d_Mo_tree_34 ?_
        refine lv_iload_n S.1 S.2.1 d_Mo_tree_37 rfl (lv_at hl 1 rfl) ?_
        refine m_ial (t0 := 0) S M (by decide) rfl rfl h d_Mo_tree_38 (fun h => ?_)
        refine m_ilt (tgt := 44) S d_Mo_tree_39 (by decide) h (fun h => ?_) (fun h => ?_)
        · refine lv_iload_n S.1 S.2.1 d_Mo_tree_44 rfl (lv_at hl 1 rfl) ?_
          refine lv_istore_n (lv' := [(3, .int x1), (0, .ref (ad 0)), (1, .int x1), (2, .int x2)]) S.1 S.2.1 d_Mo_tree_45 rfl hl (by decide) rfl (fun ls hl => ?_)
          refine lv_aload_n S.1 S.2.1 d_Mo_tree_46 rfl (lv_at hl 1 rfl) ?_
          refine lv_iload_n S.1 S.2.1 d_Mo_tree_47 rfl (lv_at hl 0 rfl) ?_
          refine m_xip h (fun o ho => m_rV (As := [.int x1]) (rest := []) S M hl.1 (cwG (n := 1) S.2.2.2.2 kw_418 kw_419 kw_420 kw_391 kw_421 (by decide) ⟨Nat.le_of_ble_eq_true rfl, Nat.le_of_ble_eq_true rfl⟩) ok_Mo (by decide) rfl (c_Mo_stepOf l D cA ad σ2 x1 o ho _) rfl rfl (Nat.le_of_ble_eq_true rfl) d_Mo_tree_48 ⟨Nat.zero_le _, Nat.zero_le _⟩) M (fun v3 H locs h M => ?_)
          refine lv_istore (lv' := [(4, .int v3), (3, .int x1), (0, .ref (ad 0)), (1, .int x1), (2, .int x2)]) S.1 S.2.1 d_Mo_tree_51 hl (by decide) rfl (fun ls hl => ?_)
          obtain ⟨u53, q53, h⟩ := Option.bind_eq_some_iff.mp h
          refine lpN_W1 (st := f_Mo_tree_L53 x2 σ2) (fun (t53 : Int32 × Int32) => ∀ (ls : Array Slot) (H : Heap) (locs : List Loc), lv_has ls 5 [(4, .int t53.2), (3, .int t53.1), (0, .ref (ad 0)), (1, .int x1), (2, .int x2)] → mM D clX (tyK cA) (mA 23 ad s.heap.size) s 23 (tbY cA) ad σ2 H locs → W p l e rm_Mo_tree s m args below meth c H locs 0 0 Q (F0 m 53 ls [])) (fun (u53 : Int32 × Int32) => ∀ (ls : Array Slot) (H : Heap) (locs : List Loc), lv_has ls 5 [(4, .int u53.2), (3, .int u53.1), (0, .ref (ad 0)), (1, .int x1), (2, .int x2)] → mM D clX (tyK cA) (mA 23 ad s.heap.size) s 23 (tbY cA) ad σ2 H locs → W p l e rm_Mo_tree s m args below meth c H locs 0 0 Q (F0 m 83 ls [])) ?_ fuB ((x1, v3) : Int32 × Int32) u53 q53 ?_ ls _ _ (lv_sub hl [0, 1, 2, 3, 4] rfl) M
          · intro t53 oo53 h K1 K2 ls H locs hl M
            unfold f_Mo_tree_L53 at h
            refine lv_aload_n S.1 S.2.1 d_Mo_tree_53 rfl (lv_at hl 2 rfl) ?_
            refine m_gs (t := 10) S M (j := 12) ok_Mo (by decide) rfl (by decide) rfl kw_409 rfl d_Mo_tree_54 ?_
            refine lv_iload_n S.1 S.2.1 d_Mo_tree_57 rfl (lv_at hl 1 rfl) ?_
            refine m_ial (t0 := 0) S M (by decide) rfl rfl h d_Mo_tree_58 (fun h => ?_)
            refine lv_iload_n S.1 S.2.1 d_Mo_tree_59 rfl (lv_at hl 4 rfl) ?_
            refine lv_iconst (v := 1) S.1 S.2.1 d_Mo_tree_60 (by decide) ?_
            refine lv_iadd S.1 S.2.1 d_Mo_tree_61 ?_
            refine m_ile (tgt := 83) S d_Mo_tree_62 (by decide) h (fun h => ?_) (fun h => ?_)
            · exact K2 _ (Option.some.inj h).symm ls _ _ (lv_sub hl [0, 1, 2, 3, 4] rfl) M
            · refine lv_aload_n S.1 S.2.1 d_Mo_tree_65 rfl (lv_at hl 2 rfl) ?_
              refine m_gs (t := 1) S M (j := 3) ok_Mo (by decide) rfl (by decide) rfl kw_398 rfl d_Mo_tree_66 ?_
              refine lv_iload S.1 S.2.1 d_Mo_tree_69 (lv_at hl 0 rfl) ?_
              refine m_ial (t0 := 0) S M (by decide) rfl rfl h d_Mo_tree_71 (fun h => ?_)
              refine m_ni h (fun v4 h => ?_)
              refine lv_istore_n (lv' := [(3, .int v4), (4, .int t53.2), (0, .ref (ad 0)), (1, .int x1), (2, .int x2)]) S.1 S.2.1 d_Mo_tree_72 rfl hl (by decide) rfl (fun ls hl => ?_)
              refine lv_aload_n S.1 S.2.1 d_Mo_tree_73 rfl (lv_at hl 2 rfl) ?_
              refine lv_iload_n S.1 S.2.1 d_Mo_tree_74 rfl (lv_at hl 0 rfl) ?_
              refine m_xip h (fun o ho => m_rV (As := [.int v4]) (rest := []) S M hl.1 (cwG (n := 1) S.2.2.2.2 kw_418 kw_419 kw_420 kw_391 kw_421 (by decide) ⟨Nat.le_of_ble_eq_true rfl, Nat.le_of_ble_eq_true rfl⟩) ok_Mo (by decide) rfl (c_Mo_stepOf l D cA ad σ2 v4 o ho _) rfl rfl (Nat.le_of_ble_eq_true rfl) d_Mo_tree_75 ⟨Nat.zero_le _, Nat.zero_le _⟩) M (fun v5 H locs h M => ?_)
              refine lv_istore (lv' := [(4, .int v5), (3, .int v4), (0, .ref (ad 0)), (1, .int x1), (2, .int x2)]) S.1 S.2.1 d_Mo_tree_78 hl (by decide) rfl (fun ls hl => ?_)
              refine lv_goto (tgt := 53) S.1 S.2.1 d_Mo_tree_80 (by decide) ?_
              exact K1 _ (Option.some.inj h).symm ls _ _ (lv_sub hl [0, 1, 2, 3, 4] rfl) M
          · intro ls H locs hl M
            refine lv_iload S.1 S.2.1 d_Mo_tree_83 (lv_at hl 0 rfl) ?_
            subst hQ; exact m_iret S hr hlk M (Option.some.inj h) d_Mo_tree_85
        · refine lv_iconst (v := (-1)) S.1 S.2.1 d_Mo_tree_42 (by decide) ?_
          subst hQ; exact m_iret S hr hlk M (Option.some.inj h) d_Mo_tree_43
    · refine lv_bipush (v := (-3)) S.1 S.2.1 d_Mo_tree_25 (by decide) ?_
      subst hQ; exact m_iret S hr hlk M (Option.some.inj h) d_Mo_tree_27
  · refine lv_iconst (v := (-1)) S.1 S.2.1 d_Mo_tree_8 (by decide) ?_
    subst hQ; exact m_iret S hr hlk M (Option.some.inj h) d_Mo_tree_9
theorem d_Mo_reached_0 : decode prog_12_method_21_code 0 = .ok (.aload_n 0, 1) := by decide +kernel
theorem d_Mo_reached_1 : decode prog_12_method_21_code 1 = .ok (.invokevirtual 107, 3) := by decide +kernel
theorem d_Mo_reached_4 : decode prog_12_method_21_code 4 = .ok (.iconst 0, 1) := by decide +kernel
theorem d_Mo_reached_5 : decode prog_12_method_21_code 5 = .ok (.istore_n 1, 1) := by decide +kernel
theorem d_Mo_reached_6 : decode prog_12_method_21_code 6 = .ok (.iconst 0, 1) := by decide +kernel
theorem d_Mo_reached_7 : decode prog_12_method_21_code 7 = .ok (.istore_n 2, 1) := by decide +kernel
theorem d_Mo_reached_8 : decode prog_12_method_21_code 8 = .ok (.iload_n 2, 1) := by decide +kernel
theorem d_Mo_reached_9 : decode prog_12_method_21_code 9 = .ok (.aload_n 0, 1) := by decide +kernel
theorem d_Mo_reached_10 : decode prog_12_method_21_code 10 = .ok (.getfield 85, 3) := by decide +kernel
theorem d_Mo_reached_13 : decode prog_12_method_21_code 13 = .ok (.if_icmp .ge 30, 3) := by decide +kernel
theorem d_Mo_reached_16 : decode prog_12_method_21_code 16 = .ok (.iload_n 1, 1) := by decide +kernel
theorem d_Mo_reached_17 : decode prog_12_method_21_code 17 = .ok (.aload_n 0, 1) := by decide +kernel
theorem d_Mo_reached_18 : decode prog_12_method_21_code 18 = .ok (.getfield 35, 3) := by decide +kernel
theorem d_Mo_reached_21 : decode prog_12_method_21_code 21 = .ok (.iload_n 2, 1) := by decide +kernel
theorem d_Mo_reached_22 : decode prog_12_method_21_code 22 = .ok (.iaload, 1) := by decide +kernel
theorem d_Mo_reached_23 : decode prog_12_method_21_code 23 = .ok (.ldc 102, 2) := by decide +kernel
theorem d_Mo_reached_25 : decode prog_12_method_21_code 25 = .ok (.if_icmp .ge 9, 3) := by decide +kernel
theorem d_Mo_reached_28 : decode prog_12_method_21_code 28 = .ok (.iconst 1, 1) := by decide +kernel
theorem d_Mo_reached_29 : decode prog_12_method_21_code 29 = .ok (.iload_n 2, 1) := by decide +kernel
theorem d_Mo_reached_30 : decode prog_12_method_21_code 30 = .ok (.ishl, 1) := by decide +kernel
theorem d_Mo_reached_31 : decode prog_12_method_21_code 31 = .ok (.goto 4, 3) := by decide +kernel
theorem d_Mo_reached_34 : decode prog_12_method_21_code 34 = .ok (.iconst 0, 1) := by decide +kernel
theorem d_Mo_reached_35 : decode prog_12_method_21_code 35 = .ok (.ior, 1) := by decide +kernel
theorem d_Mo_reached_36 : decode prog_12_method_21_code 36 = .ok (.istore_n 1, 1) := by decide +kernel
theorem d_Mo_reached_37 : decode prog_12_method_21_code 37 = .ok (.iinc 2 1, 3) := by decide +kernel
theorem d_Mo_reached_40 : decode prog_12_method_21_code 40 = .ok (.goto (-32), 3) := by decide +kernel
theorem d_Mo_reached_43 : decode prog_12_method_21_code 43 = .ok (.iload_n 1, 1) := by decide +kernel
theorem d_Mo_reached_44 : decode prog_12_method_21_code 44 = .ok (.ireturn, 1) := by decide +kernel
def rm_Mo_reached : Room := { frames := 2, cells := 0, slots := 0, locals := 47 }
def f_Mo_reached_L8 (σ1 : mS) : (Int32 × Int32) → Option ((Int32 × Int32) ⊕ (Int32 × Int32)) := fun t8 =>
  if (σ1.1 0 1) ≤ t8.2 then (
  some (.inr (t8.1, t8.2))) else (
  gd (inb t8.2 10) (
  if 1000000000 ≤ (σ1.1 9 t8.2.toNatClampNeg) then (
  nm (t8.1 ||| 0) fun v2 =>
  some (.inl (v2, t8.2 + 1))) else (
  nm (t8.1 ||| (1 <<< (t8.2 &&& 31))) fun v3 =>
  some (.inl (v3, t8.2 + 1)))))
def f_Mo_reached (σ : mS) : Option (Int32 × mS) :=
  (f_Mo_findFar σ).bind fun σ1 =>
  (lpN (f_Mo_reached_L8 σ1) fuB (0, 0)).bind fun u8 =>
  some (u8.1, σ1)
set_option maxHeartbeats 4000000 in
set_option maxRecDepth 100000 in
theorem c_Mo_reached (l : Launch) (D : va_G) (cA ad : Nat → Nat) (σ : mS) (o : Int32 × mS) (h : f_Mo_reached σ = some o) : mCi l ⟨"LeastPathsModel", "reached", "()I"⟩ (Cond.code ⟨"LeastPathsModel", "reached", "()I"⟩ prog_12_method_21_code 3 (Option.some Jvm.ClassFile.FieldType.int) :: tlG) rm_Mo_reached D clX (tyK cA) 23 (tbY cA) ad σ [.ref (ad 0)] o := by
  intro sz
  refine m_of (cc := prog_12_method_21_code) (maxL := 3) (Qc := mQi D clX (tyK cA) 23 (tbY cA) ad o) (by decide) (Nat.le_of_ble_eq_true rfl) (fun p e s m args below meth c ls S hr hlk hnm hl M => ?_) sz
  have hl : lv_has ls 3 [(0, .ref (ad 0))] := hl
  generalize hQ : MQ _ _ _ _ _ _ _ = Q
  skip
  unfold f_Mo_reached at h
  refine lv_aload_n S.1 S.2.1 d_Mo_reached_0 rfl (lv_at hl 0 rfl) ?_
  refine m_xv h (fun o ho => m_rV (As := []) (rest := []) S M hl.1 (cwG (n := 0) S.2.2.2.2 kw_414 kw_415 kw_416 kw_391 kw_417 (by decide) ⟨Nat.le_of_ble_eq_true rfl, Nat.le_of_ble_eq_true rfl⟩) ok_Mo (by decide) rfl (c_Mo_findFar l D cA ad σ o ho _) rfl rfl (Nat.le_of_ble_eq_true rfl) d_Mo_reached_1 ⟨Nat.zero_le _, Nat.zero_le _⟩) M (fun σ1 H locs h M => ?_)
  refine lv_iconst (v := 0) S.1 S.2.1 d_Mo_reached_4 (by decide) ?_
  refine lv_istore_n (lv' := [(1, .int 0), (0, .ref (ad 0))]) S.1 S.2.1 d_Mo_reached_5 rfl hl (by decide) rfl (fun ls hl => ?_)
  refine lv_iconst (v := 0) S.1 S.2.1 d_Mo_reached_6 (by decide) ?_
  refine lv_istore_n (lv' := [(2, .int 0), (1, .int 0), (0, .ref (ad 0))]) S.1 S.2.1 d_Mo_reached_7 rfl hl (by decide) rfl (fun ls hl => ?_)
  obtain ⟨u8, q8, h⟩ := Option.bind_eq_some_iff.mp h
  refine lpN_W1 (st := f_Mo_reached_L8 σ1) (fun (t8 : Int32 × Int32) => ∀ (ls : Array Slot) (H : Heap) (locs : List Loc), lv_has ls 3 [(2, .int t8.2), (1, .int t8.1), (0, .ref (ad 0))] → mM D clX (tyK cA) (mA 23 ad s.heap.size) s 23 (tbY cA) ad σ1 H locs → W p l e rm_Mo_reached s m args below meth c H locs 0 0 Q (F0 m 8 ls [])) (fun (u8 : Int32 × Int32) => ∀ (ls : Array Slot) (H : Heap) (locs : List Loc), lv_has ls 3 [(2, .int u8.2), (1, .int u8.1), (0, .ref (ad 0))] → mM D clX (tyK cA) (mA 23 ad s.heap.size) s 23 (tbY cA) ad σ1 H locs → W p l e rm_Mo_reached s m args below meth c H locs 0 0 Q (F0 m 43 ls [])) ?_ fuB ((0, 0) : Int32 × Int32) u8 q8 ?_ ls _ _ (lv_sub hl [0, 1, 2] rfl) M
  · intro t8 oo8 h K1 K2 ls H locs hl M
    unfold f_Mo_reached_L8 at h
    refine lv_iload_n S.1 S.2.1 d_Mo_reached_8 rfl (lv_at hl 0 rfl) ?_
    refine lv_aload_n S.1 S.2.1 d_Mo_reached_9 rfl (lv_at hl 2 rfl) ?_
    refine m_gi S M (j := 1) ok_Mo (by decide) rfl (by decide) rfl kw_382 rfl d_Mo_reached_10 ?_
    refine m_ige (tgt := 43) S d_Mo_reached_13 (by decide) h (fun h => ?_) (fun h => ?_)
    · exact K2 _ (Option.some.inj h).symm ls _ _ (lv_sub hl [0, 1, 2] rfl) M
    · refine lv_iload_n S.1 S.2.1 d_Mo_reached_16 rfl (lv_at hl 1 rfl) ?_
      refine lv_aload_n S.1 S.2.1 d_Mo_reached_17 rfl (lv_at hl 2 rfl) ?_
      refine m_gs (t := 9) S M (j := 11) ok_Mo (by decide) rfl (by decide) rfl kw_407 rfl d_Mo_reached_18 ?_
      refine lv_iload_n S.1 S.2.1 d_Mo_reached_21 rfl (lv_at hl 0 rfl) ?_
      refine m_ial (t0 := 0) S M (by decide) rfl rfl h d_Mo_reached_22 (fun h => ?_)
      refine lv_ldc (v := 1000000000) S.1 S.2.1 S.2.2.2.1 (S.2.2.2.2 _ kw_408) d_Mo_reached_23 ?_
      refine m_ige (tgt := 34) S d_Mo_reached_25 (by decide) h (fun h => ?_) (fun h => ?_)
      · refine lv_iconst (v := 0) S.1 S.2.1 d_Mo_reached_34 (by decide) ?_
        refine lv_ior S.1 S.2.1 d_Mo_reached_35 ?_
        refine m_ni h (fun v2 h => ?_)
        refine lv_istore_n (lv' := [(1, .int v2), (2, .int t8.2), (0, .ref (ad 0))]) S.1 S.2.1 d_Mo_reached_36 rfl hl (by decide) rfl (fun ls hl => ?_)
        refine lv_iinc (v := t8.2 + 1) (lv' := [(2, .int (t8.2 + 1)), (1, .int v2), (0, .ref (ad 0))]) S.1 S.2.1 d_Mo_reached_37 hl (k := 1) rfl rfl (by decide) rfl (fun ls hl => ?_)
        refine lv_goto (tgt := 8) S.1 S.2.1 d_Mo_reached_40 (by decide) ?_
        exact K1 _ (Option.some.inj h).symm ls _ _ (lv_sub hl [0, 1, 2] rfl) M
      · refine lv_iconst (v := 1) S.1 S.2.1 d_Mo_reached_28 (by decide) ?_
        refine lv_iload_n S.1 S.2.1 d_Mo_reached_29 rfl (lv_at hl 0 rfl) ?_
        refine lv_ishl S.1 S.2.1 d_Mo_reached_30 ?_
        refine lv_goto (tgt := 35) S.1 S.2.1 d_Mo_reached_31 (by decide) ?_
        refine lv_ior S.1 S.2.1 d_Mo_reached_35 ?_
        refine m_ni h (fun v3 h => ?_)
        refine lv_istore_n (lv' := [(1, .int v3), (2, .int t8.2), (0, .ref (ad 0))]) S.1 S.2.1 d_Mo_reached_36 rfl hl (by decide) rfl (fun ls hl => ?_)
        refine lv_iinc (v := t8.2 + 1) (lv' := [(2, .int (t8.2 + 1)), (1, .int v3), (0, .ref (ad 0))]) S.1 S.2.1 d_Mo_reached_37 hl (k := 1) rfl rfl (by decide) rfl (fun ls hl => ?_)
        refine lv_goto (tgt := 8) S.1 S.2.1 d_Mo_reached_40 (by decide) ?_
        exact K1 _ (Option.some.inj h).symm ls _ _ (lv_sub hl [0, 1, 2] rfl) M
  · intro ls H locs hl M
    refine lv_iload_n S.1 S.2.1 d_Mo_reached_43 rfl (lv_at hl 1 rfl) ?_
    subst hQ; exact m_iret S hr hlk M (Option.some.inj h) d_Mo_reached_44
theorem d_Mo_beginSearch_0 : decode prog_12_method_22_code 0 = .ok (.iconst 0, 1) := by decide +kernel
theorem d_Mo_beginSearch_1 : decode prog_12_method_22_code 1 = .ok (.istore_n 3, 1) := by decide +kernel
theorem d_Mo_beginSearch_2 : decode prog_12_method_22_code 2 = .ok (.iload_n 3, 1) := by decide +kernel
theorem d_Mo_beginSearch_3 : decode prog_12_method_22_code 3 = .ok (.bipush 10, 2) := by decide +kernel
theorem d_Mo_beginSearch_5 : decode prog_12_method_22_code 5 = .ok (.if_icmp .ge 34, 3) := by decide +kernel
theorem d_Mo_beginSearch_8 : decode prog_12_method_22_code 8 = .ok (.aload_n 0, 1) := by decide +kernel
theorem d_Mo_beginSearch_9 : decode prog_12_method_22_code 9 = .ok (.getfield 44, 3) := by decide +kernel
theorem d_Mo_beginSearch_12 : decode prog_12_method_22_code 12 = .ok (.bipush 10, 2) := by decide +kernel
theorem d_Mo_beginSearch_14 : decode prog_12_method_22_code 14 = .ok (.iload_n 1, 1) := by decide +kernel
theorem d_Mo_beginSearch_15 : decode prog_12_method_22_code 15 = .ok (.imul, 1) := by decide +kernel
theorem d_Mo_beginSearch_16 : decode prog_12_method_22_code 16 = .ok (.iload_n 3, 1) := by decide +kernel
theorem d_Mo_beginSearch_17 : decode prog_12_method_22_code 17 = .ok (.iadd, 1) := by decide +kernel
theorem d_Mo_beginSearch_18 : decode prog_12_method_22_code 18 = .ok (.ldc 102, 2) := by decide +kernel
theorem d_Mo_beginSearch_20 : decode prog_12_method_22_code 20 = .ok (.iastore, 1) := by decide +kernel
theorem d_Mo_beginSearch_21 : decode prog_12_method_22_code 21 = .ok (.aload_n 0, 1) := by decide +kernel
theorem d_Mo_beginSearch_22 : decode prog_12_method_22_code 22 = .ok (.getfield 47, 3) := by decide +kernel
theorem d_Mo_beginSearch_25 : decode prog_12_method_22_code 25 = .ok (.bipush 10, 2) := by decide +kernel
theorem d_Mo_beginSearch_27 : decode prog_12_method_22_code 27 = .ok (.iload_n 1, 1) := by decide +kernel
theorem d_Mo_beginSearch_28 : decode prog_12_method_22_code 28 = .ok (.imul, 1) := by decide +kernel
theorem d_Mo_beginSearch_29 : decode prog_12_method_22_code 29 = .ok (.iload_n 3, 1) := by decide +kernel
theorem d_Mo_beginSearch_30 : decode prog_12_method_22_code 30 = .ok (.iadd, 1) := by decide +kernel
theorem d_Mo_beginSearch_31 : decode prog_12_method_22_code 31 = .ok (.iconst 0, 1) := by decide +kernel
theorem d_Mo_beginSearch_32 : decode prog_12_method_22_code 32 = .ok (.bastore, 1) := by decide +kernel
theorem d_Mo_beginSearch_33 : decode prog_12_method_22_code 33 = .ok (.iinc 3 1, 3) := by decide +kernel
theorem d_Mo_beginSearch_36 : decode prog_12_method_22_code 36 = .ok (.goto (-34), 3) := by decide +kernel
theorem d_Mo_beginSearch_39 : decode prog_12_method_22_code 39 = .ok (.aload_n 0, 1) := by decide +kernel
theorem d_Mo_beginSearch_40 : decode prog_12_method_22_code 40 = .ok (.getfield 44, 3) := by decide +kernel
theorem d_Mo_beginSearch_43 : decode prog_12_method_22_code 43 = .ok (.bipush 10, 2) := by decide +kernel
theorem d_Mo_beginSearch_45 : decode prog_12_method_22_code 45 = .ok (.iload_n 1, 1) := by decide +kernel
theorem d_Mo_beginSearch_46 : decode prog_12_method_22_code 46 = .ok (.imul, 1) := by decide +kernel
theorem d_Mo_beginSearch_47 : decode prog_12_method_22_code 47 = .ok (.iload_n 2, 1) := by decide +kernel
theorem d_Mo_beginSearch_48 : decode prog_12_method_22_code 48 = .ok (.iadd, 1) := by decide +kernel
theorem d_Mo_beginSearch_49 : decode prog_12_method_22_code 49 = .ok (.iconst 0, 1) := by decide +kernel
theorem d_Mo_beginSearch_50 : decode prog_12_method_22_code 50 = .ok (.iastore, 1) := by decide +kernel
theorem d_Mo_beginSearch_51 : decode prog_12_method_22_code 51 = .ok (.return_, 1) := by decide +kernel
def rm_Mo_beginSearch : Room := { frames := 0, cells := 0, slots := 0, locals := 0 }
def f_Mo_beginSearch_L2 (x1 : Int32) : (Int32 × mS) → Option ((Int32 × mS) ⊕ (Int32 × mS)) := fun t2 =>
  if 10 ≤ t2.1 then (
  some (.inr (t2.1, t2.2))) else (
  gd (inb ((10 * x1) + t2.1) 20) ((nm (sI t2.2 12 ((10 * x1) + t2.1).toNatClampNeg 1000000000) fun σ1 =>
  gd (inb ((10 * x1) + t2.1) 20) (gd (isB 0) (nm (sI σ1 13 ((10 * x1) + t2.1).toNatClampNeg 0) fun σ2 =>
  some (.inl (t2.1 + 1, σ2)))))))
def f_Mo_beginSearch (σ : mS) (x1 : Int32) (x2 : Int32) : Option (mS) :=
  (lpN (f_Mo_beginSearch_L2 x1) fuB (0, σ)).bind fun u2 =>
  gd (inb ((10 * x1) + x2) 20) ((nm (sI u2.2 12 ((10 * x1) + x2).toNatClampNeg 0) fun σ3 =>
  some σ3))
set_option maxHeartbeats 4000000 in
set_option maxRecDepth 100000 in
theorem c_Mo_beginSearch (l : Launch) (D : va_G) (cA ad : Nat → Nat) (σ : mS) (x1 : Int32) (x2 : Int32) (o : mS) (h : f_Mo_beginSearch σ x1 x2 = some o) : mCv l ⟨"LeastPathsModel", "beginSearch", "(II)V"⟩ (Cond.code ⟨"LeastPathsModel", "beginSearch", "(II)V"⟩ prog_12_method_22_code 4 (Option.none : Option Jvm.ClassFile.FieldType) :: tlG) rm_Mo_beginSearch D clX (tyK cA) 23 (tbY cA) ad σ [.ref (ad 0), .int x1, .int x2] o := by
  intro sz
  refine m_of (cc := prog_12_method_22_code) (maxL := 4) (Qc := mQv D clX (tyK cA) 23 (tbY cA) ad o) (by decide) (Nat.le_of_ble_eq_true rfl) (fun p e s m args below meth c ls S hr hlk hnm hl M => ?_) sz
  have hl : lv_has ls 4 [(0, .ref (ad 0)), (1, .int x1), (2, .int x2)] := hl
  generalize hQ : MQ _ _ _ _ _ _ _ = Q
  skip
  unfold f_Mo_beginSearch at h
  refine lv_iconst (v := 0) S.1 S.2.1 d_Mo_beginSearch_0 (by decide) ?_
  refine lv_istore_n (lv' := [(3, .int 0), (0, .ref (ad 0)), (1, .int x1), (2, .int x2)]) S.1 S.2.1 d_Mo_beginSearch_1 rfl hl (by decide) rfl (fun ls hl => ?_)
  obtain ⟨u2, q2, h⟩ := Option.bind_eq_some_iff.mp h
  refine lpN_W1 (st := f_Mo_beginSearch_L2 x1) (fun (t2 : Int32 × mS) => ∀ (ls : Array Slot) (H : Heap) (locs : List Loc), lv_has ls 4 [(3, .int t2.1), (0, .ref (ad 0)), (1, .int x1), (2, .int x2)] → mM D clX (tyK cA) (mA 23 ad s.heap.size) s 23 (tbY cA) ad t2.2 H locs → W p l e rm_Mo_beginSearch s m args below meth c H locs 0 0 Q (F0 m 2 ls [])) (fun (u2 : Int32 × mS) => ∀ (ls : Array Slot) (H : Heap) (locs : List Loc), lv_has ls 4 [(3, .int u2.1), (0, .ref (ad 0)), (1, .int x1), (2, .int x2)] → mM D clX (tyK cA) (mA 23 ad s.heap.size) s 23 (tbY cA) ad u2.2 H locs → W p l e rm_Mo_beginSearch s m args below meth c H locs 0 0 Q (F0 m 39 ls [])) ?_ fuB ((0, σ) : Int32 × mS) u2 q2 ?_ ls _ _ (lv_sub hl [0, 1, 2, 3] rfl) M
  · intro t2 oo2 h K1 K2 ls H locs hl M
    unfold f_Mo_beginSearch_L2 at h
    refine lv_iload_n S.1 S.2.1 d_Mo_beginSearch_2 rfl (lv_at hl 0 rfl) ?_
    refine lv_bipush (v := 10) S.1 S.2.1 d_Mo_beginSearch_3 (by decide) ?_
    refine m_ige (tgt := 39) S d_Mo_beginSearch_5 (by decide) h (fun h => ?_) (fun h => ?_)
    · exact K2 _ (Option.some.inj h).symm ls _ _ (lv_sub hl [0, 1, 2, 3] rfl) M
    · refine lv_aload_n S.1 S.2.1 d_Mo_beginSearch_8 rfl (lv_at hl 1 rfl) ?_
      refine m_gs (t := 12) S M (j := 14) ok_Mo (by decide) rfl (by decide) rfl kw_423 rfl d_Mo_beginSearch_9 ?_
      refine lv_bipush (v := 10) S.1 S.2.1 d_Mo_beginSearch_12 (by decide) ?_
      refine lv_iload_n S.1 S.2.1 d_Mo_beginSearch_14 rfl (lv_at hl 2 rfl) ?_
      refine lv_imul S.1 S.2.1 d_Mo_beginSearch_15 ?_
      refine lv_iload_n S.1 S.2.1 d_Mo_beginSearch_16 rfl (lv_at hl 0 rfl) ?_
      refine lv_iadd S.1 S.2.1 d_Mo_beginSearch_17 ?_
      refine lv_ldc (v := 1000000000) S.1 S.2.1 S.2.2.2.1 (S.2.2.2.2 _ kw_408) d_Mo_beginSearch_18 ?_
      refine m_ias (t0 := 0) S M (by decide) rfl rfl h d_Mo_beginSearch_20 (fun σ1 H locs h M => ?_)
      refine lv_aload_n S.1 S.2.1 d_Mo_beginSearch_21 rfl (lv_at hl 1 rfl) ?_
      refine m_gs (t := 13) S M (j := 15) ok_Mo (by decide) rfl (by decide) rfl kw_424 rfl d_Mo_beginSearch_22 ?_
      refine lv_bipush (v := 10) S.1 S.2.1 d_Mo_beginSearch_25 (by decide) ?_
      refine lv_iload_n S.1 S.2.1 d_Mo_beginSearch_27 rfl (lv_at hl 2 rfl) ?_
      refine lv_imul S.1 S.2.1 d_Mo_beginSearch_28 ?_
      refine lv_iload_n S.1 S.2.1 d_Mo_beginSearch_29 rfl (lv_at hl 0 rfl) ?_
      refine lv_iadd S.1 S.2.1 d_Mo_beginSearch_30 ?_
      refine lv_iconst (v := 0) S.1 S.2.1 d_Mo_beginSearch_31 (by decide) ?_
      refine m_zas (t0 := 2) S M (by decide) rfl rfl h d_Mo_beginSearch_32 (fun σ2 H locs h M => ?_)
      refine lv_iinc (v := t2.1 + 1) (lv' := [(3, .int (t2.1 + 1)), (0, .ref (ad 0)), (1, .int x1), (2, .int x2)]) S.1 S.2.1 d_Mo_beginSearch_33 hl (k := 0) rfl rfl (by decide) rfl (fun ls hl => ?_)
      refine lv_goto (tgt := 2) S.1 S.2.1 d_Mo_beginSearch_36 (by decide) ?_
      exact K1 _ (Option.some.inj h).symm ls _ _ (lv_sub hl [0, 1, 2, 3] rfl) M
  · intro ls H locs hl M
    refine lv_aload_n S.1 S.2.1 d_Mo_beginSearch_39 rfl (lv_at hl 1 rfl) ?_
    refine m_gs (t := 12) S M (j := 14) ok_Mo (by decide) rfl (by decide) rfl kw_423 rfl d_Mo_beginSearch_40 ?_
    refine lv_bipush (v := 10) S.1 S.2.1 d_Mo_beginSearch_43 (by decide) ?_
    refine lv_iload_n S.1 S.2.1 d_Mo_beginSearch_45 rfl (lv_at hl 2 rfl) ?_
    refine lv_imul S.1 S.2.1 d_Mo_beginSearch_46 ?_
    refine lv_iload_n S.1 S.2.1 d_Mo_beginSearch_47 rfl (lv_at hl 3 rfl) ?_
    refine lv_iadd S.1 S.2.1 d_Mo_beginSearch_48 ?_
    refine lv_iconst (v := 0) S.1 S.2.1 d_Mo_beginSearch_49 (by decide) ?_
    refine m_ias (t0 := 0) S M (by decide) rfl rfl h d_Mo_beginSearch_50 (fun σ3 H locs h M => ?_)
    subst hQ; exact m_vret S hr hlk M (Option.some.inj h) d_Mo_beginSearch_51
