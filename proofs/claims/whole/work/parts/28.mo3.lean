theorem d_Mo_leastOf_0 : decode prog_12_method_23_code 0 = .ok (.iconst (-1), 1) := by decide +kernel
theorem d_Mo_leastOf_1 : decode prog_12_method_23_code 1 = .ok (.istore_n 3, 1) := by decide +kernel
theorem d_Mo_leastOf_2 : decode prog_12_method_23_code 2 = .ok (.iconst 0, 1) := by decide +kernel
theorem d_Mo_leastOf_3 : decode prog_12_method_23_code 3 = .ok (.istore 4, 2) := by decide +kernel
theorem d_Mo_leastOf_5 : decode prog_12_method_23_code 5 = .ok (.iload 4, 2) := by decide +kernel
theorem d_Mo_leastOf_7 : decode prog_12_method_23_code 7 = .ok (.aload_n 0, 1) := by decide +kernel
theorem d_Mo_leastOf_8 : decode prog_12_method_23_code 8 = .ok (.getfield 85, 3) := by decide +kernel
theorem d_Mo_leastOf_11 : decode prog_12_method_23_code 11 = .ok (.if_icmp .ge 106, 3) := by decide +kernel
theorem d_Mo_leastOf_14 : decode prog_12_method_23_code 14 = .ok (.bipush 10, 2) := by decide +kernel
theorem d_Mo_leastOf_16 : decode prog_12_method_23_code 16 = .ok (.iload_n 1, 1) := by decide +kernel
theorem d_Mo_leastOf_17 : decode prog_12_method_23_code 17 = .ok (.imul, 1) := by decide +kernel
theorem d_Mo_leastOf_18 : decode prog_12_method_23_code 18 = .ok (.iload 4, 2) := by decide +kernel
theorem d_Mo_leastOf_20 : decode prog_12_method_23_code 20 = .ok (.iadd, 1) := by decide +kernel
theorem d_Mo_leastOf_21 : decode prog_12_method_23_code 21 = .ok (.istore 5, 2) := by decide +kernel
theorem d_Mo_leastOf_23 : decode prog_12_method_23_code 23 = .ok (.aload_n 0, 1) := by decide +kernel
theorem d_Mo_leastOf_24 : decode prog_12_method_23_code 24 = .ok (.getfield 47, 3) := by decide +kernel
theorem d_Mo_leastOf_27 : decode prog_12_method_23_code 27 = .ok (.iload 5, 2) := by decide +kernel
theorem d_Mo_leastOf_29 : decode prog_12_method_23_code 29 = .ok (.baload, 1) := by decide +kernel
theorem d_Mo_leastOf_30 : decode prog_12_method_23_code 30 = .ok (.ifCond .ne 81, 3) := by decide +kernel
theorem d_Mo_leastOf_33 : decode prog_12_method_23_code 33 = .ok (.aload_n 0, 1) := by decide +kernel
theorem d_Mo_leastOf_34 : decode prog_12_method_23_code 34 = .ok (.getfield 44, 3) := by decide +kernel
theorem d_Mo_leastOf_37 : decode prog_12_method_23_code 37 = .ok (.iload 5, 2) := by decide +kernel
theorem d_Mo_leastOf_39 : decode prog_12_method_23_code 39 = .ok (.iaload, 1) := by decide +kernel
theorem d_Mo_leastOf_40 : decode prog_12_method_23_code 40 = .ok (.ldc 102, 2) := by decide +kernel
theorem d_Mo_leastOf_42 : decode prog_12_method_23_code 42 = .ok (.if_icmp .ne 6, 3) := by decide +kernel
theorem d_Mo_leastOf_45 : decode prog_12_method_23_code 45 = .ok (.goto 66, 3) := by decide +kernel
theorem d_Mo_leastOf_48 : decode prog_12_method_23_code 48 = .ok (.aload_n 0, 1) := by decide +kernel
theorem d_Mo_leastOf_49 : decode prog_12_method_23_code 49 = .ok (.getfield 44, 3) := by decide +kernel
theorem d_Mo_leastOf_52 : decode prog_12_method_23_code 52 = .ok (.iload 5, 2) := by decide +kernel
theorem d_Mo_leastOf_54 : decode prog_12_method_23_code 54 = .ok (.iaload, 1) := by decide +kernel
theorem d_Mo_leastOf_55 : decode prog_12_method_23_code 55 = .ok (.iload_n 2, 1) := by decide +kernel
theorem d_Mo_leastOf_56 : decode prog_12_method_23_code 56 = .ok (.ifCond .eq 13, 3) := by decide +kernel
theorem d_Mo_leastOf_59 : decode prog_12_method_23_code 59 = .ok (.aload_n 0, 1) := by decide +kernel
theorem d_Mo_leastOf_60 : decode prog_12_method_23_code 60 = .ok (.getfield 32, 3) := by decide +kernel
theorem d_Mo_leastOf_63 : decode prog_12_method_23_code 63 = .ok (.iload 4, 2) := by decide +kernel
theorem d_Mo_leastOf_65 : decode prog_12_method_23_code 65 = .ok (.iaload, 1) := by decide +kernel
theorem d_Mo_leastOf_66 : decode prog_12_method_23_code 66 = .ok (.goto 4, 3) := by decide +kernel
theorem d_Mo_leastOf_69 : decode prog_12_method_23_code 69 = .ok (.iconst 0, 1) := by decide +kernel
theorem d_Mo_leastOf_70 : decode prog_12_method_23_code 70 = .ok (.iadd, 1) := by decide +kernel
theorem d_Mo_leastOf_71 : decode prog_12_method_23_code 71 = .ok (.istore 6, 2) := by decide +kernel
theorem d_Mo_leastOf_73 : decode prog_12_method_23_code 73 = .ok (.iload_n 3, 1) := by decide +kernel
theorem d_Mo_leastOf_74 : decode prog_12_method_23_code 74 = .ok (.ifCond .lt 34, 3) := by decide +kernel
theorem d_Mo_leastOf_77 : decode prog_12_method_23_code 77 = .ok (.iload 6, 2) := by decide +kernel
theorem d_Mo_leastOf_79 : decode prog_12_method_23_code 79 = .ok (.aload_n 0, 1) := by decide +kernel
theorem d_Mo_leastOf_80 : decode prog_12_method_23_code 80 = .ok (.getfield 44, 3) := by decide +kernel
theorem d_Mo_leastOf_83 : decode prog_12_method_23_code 83 = .ok (.bipush 10, 2) := by decide +kernel
theorem d_Mo_leastOf_85 : decode prog_12_method_23_code 85 = .ok (.iload_n 1, 1) := by decide +kernel
theorem d_Mo_leastOf_86 : decode prog_12_method_23_code 86 = .ok (.imul, 1) := by decide +kernel
theorem d_Mo_leastOf_87 : decode prog_12_method_23_code 87 = .ok (.iload_n 3, 1) := by decide +kernel
theorem d_Mo_leastOf_88 : decode prog_12_method_23_code 88 = .ok (.iadd, 1) := by decide +kernel
theorem d_Mo_leastOf_89 : decode prog_12_method_23_code 89 = .ok (.iaload, 1) := by decide +kernel
theorem d_Mo_leastOf_90 : decode prog_12_method_23_code 90 = .ok (.iload_n 2, 1) := by decide +kernel
theorem d_Mo_leastOf_91 : decode prog_12_method_23_code 91 = .ok (.ifCond .eq 12, 3) := by decide +kernel
theorem d_Mo_leastOf_94 : decode prog_12_method_23_code 94 = .ok (.aload_n 0, 1) := by decide +kernel
theorem d_Mo_leastOf_95 : decode prog_12_method_23_code 95 = .ok (.getfield 32, 3) := by decide +kernel
theorem d_Mo_leastOf_98 : decode prog_12_method_23_code 98 = .ok (.iload_n 3, 1) := by decide +kernel
theorem d_Mo_leastOf_99 : decode prog_12_method_23_code 99 = .ok (.iaload, 1) := by decide +kernel
theorem d_Mo_leastOf_100 : decode prog_12_method_23_code 100 = .ok (.goto 4, 3) := by decide +kernel
theorem d_Mo_leastOf_103 : decode prog_12_method_23_code 103 = .ok (.iconst 0, 1) := by decide +kernel
theorem d_Mo_leastOf_104 : decode prog_12_method_23_code 104 = .ok (.iadd, 1) := by decide +kernel
theorem d_Mo_leastOf_105 : decode prog_12_method_23_code 105 = .ok (.if_icmp .ge 6, 3) := by decide +kernel
theorem d_Mo_leastOf_108 : decode prog_12_method_23_code 108 = .ok (.iload 4, 2) := by decide +kernel
theorem d_Mo_leastOf_110 : decode prog_12_method_23_code 110 = .ok (.istore_n 3, 1) := by decide +kernel
theorem d_Mo_leastOf_111 : decode prog_12_method_23_code 111 = .ok (.iinc 4 1, 3) := by decide +kernel
theorem d_Mo_leastOf_114 : decode prog_12_method_23_code 114 = .ok (.goto (-109), 3) := by decide +kernel
theorem d_Mo_leastOf_117 : decode prog_12_method_23_code 117 = .ok (.iload_n 3, 1) := by decide +kernel
theorem d_Mo_leastOf_118 : decode prog_12_method_23_code 118 = .ok (.ireturn, 1) := by decide +kernel
def rm_Mo_leastOf : Room := { frames := 0, cells := 0, slots := 0, locals := 0 }
def f_Mo_leastOf_J70 (σ : mS) (x1 : Int32) (x2 : Int32) (t5 : Int32 × Int32) (v1 : Int32) (j2 : Int32) : Option ((Int32 × Int32) ⊕ (Int32 × Int32)) :=
  nm ((σ.1 12 v1.toNatClampNeg) + j2) fun v3 =>
  if t5.1 < 0 then (
  some (.inl (t5.2, t5.2 + 1))) else (
  gd (inb ((10 * x1) + t5.1) 20) (
  if x2 = 0 then (
  if ((σ.1 12 ((10 * x1) + t5.1).toNatClampNeg) + 0) ≤ v3 then (
  some (.inl (t5.1, t5.2 + 1))) else (
  some (.inl (t5.2, t5.2 + 1)))) else (
  gd (inb t5.1 10) (
  if ((σ.1 12 ((10 * x1) + t5.1).toNatClampNeg) + (σ.1 8 t5.1.toNatClampNeg)) ≤ v3 then (
  some (.inl (t5.1, t5.2 + 1))) else (
  some (.inl (t5.2, t5.2 + 1)))))))
def f_Mo_leastOf_L5 (σ : mS) (x1 : Int32) (x2 : Int32) : (Int32 × Int32) → Option ((Int32 × Int32) ⊕ (Int32 × Int32)) := fun t5 =>
  if (σ.1 0 1) ≤ t5.2 then (
  some (.inr (t5.1, t5.2))) else (
  nm ((10 * x1) + t5.2) fun v1 =>
  gd (inb v1 20) (
  if (σ.1 13 v1.toNatClampNeg) = 0 then (
  gd (inb v1 20) (
  if (σ.1 12 v1.toNatClampNeg) = 1000000000 then (
  some (.inl (t5.1, t5.2 + 1))) else (
  gd (inb v1 20) (
  if x2 = 0 then (
  f_Mo_leastOf_J70 σ x1 x2 t5 v1 0) else (
  gd (inb t5.2 10) (
  f_Mo_leastOf_J70 σ x1 x2 t5 v1 (σ.1 8 t5.2.toNatClampNeg))))))) else (
  some (.inl (t5.1, t5.2 + 1)))))
def f_Mo_leastOf (σ : mS) (x1 : Int32) (x2 : Int32) : Option (Int32) :=
  (lpN (f_Mo_leastOf_L5 σ x1 x2) fuB ((-1), 0)).bind fun u5 =>
  some u5.1
set_option maxHeartbeats 4000000 in
set_option maxRecDepth 100000 in
theorem c_Mo_leastOf (l : Launch) (D : va_G) (cA ad : Nat → Nat) (σ : mS) (x1 : Int32) (x2 : Int32) (o : Int32) (h : f_Mo_leastOf σ x1 x2 = some o) : mCi l ⟨"LeastPathsModel", "leastOf", "(IZ)I"⟩ (Cond.code ⟨"LeastPathsModel", "leastOf", "(IZ)I"⟩ prog_12_method_23_code 7 (Option.some Jvm.ClassFile.FieldType.int) :: tlG) rm_Mo_leastOf D clX (tyK cA) 23 (tbY cA) ad σ [.ref (ad 0), .int x1, .int x2] (o, σ) := by
  intro sz
  refine m_of (cc := prog_12_method_23_code) (maxL := 7) (Qc := mQi D clX (tyK cA) 23 (tbY cA) ad (o, σ)) (by decide) (Nat.le_of_ble_eq_true rfl) (fun p e s m args below meth c ls S hr hlk hnm hl M => ?_) sz
  have hl : lv_has ls 7 [(0, .ref (ad 0)), (1, .int x1), (2, .int x2)] := hl
  generalize hQ : MQ _ _ _ _ _ _ _ = Q
  skip
  unfold f_Mo_leastOf at h
  refine lv_iconst (v := (-1)) S.1 S.2.1 d_Mo_leastOf_0 (by decide) ?_
  refine lv_istore_n (lv' := [(3, .int ((-1))), (0, .ref (ad 0)), (1, .int x1), (2, .int x2)]) S.1 S.2.1 d_Mo_leastOf_1 rfl hl (by decide) rfl (fun ls hl => ?_)
  refine lv_iconst (v := 0) S.1 S.2.1 d_Mo_leastOf_2 (by decide) ?_
  refine lv_istore (lv' := [(4, .int 0), (3, .int ((-1))), (0, .ref (ad 0)), (1, .int x1), (2, .int x2)]) S.1 S.2.1 d_Mo_leastOf_3 hl (by decide) rfl (fun ls hl => ?_)
  obtain ⟨u5, q5, h⟩ := Option.bind_eq_some_iff.mp h
  refine lpN_W1 (st := f_Mo_leastOf_L5 σ x1 x2) (fun (t5 : Int32 × Int32) => ∀ (ls : Array Slot) (H : Heap) (locs : List Loc), lv_has ls 7 [(4, .int t5.2), (3, .int t5.1), (0, .ref (ad 0)), (1, .int x1), (2, .int x2)] → mM D clX (tyK cA) (mA 23 ad s.heap.size) s 23 (tbY cA) ad σ H locs → W p l e rm_Mo_leastOf s m args below meth c H locs 0 0 Q (F0 m 5 ls [])) (fun (u5 : Int32 × Int32) => ∀ (ls : Array Slot) (H : Heap) (locs : List Loc), lv_has ls 7 [(4, .int u5.2), (3, .int u5.1), (0, .ref (ad 0)), (1, .int x1), (2, .int x2)] → mM D clX (tyK cA) (mA 23 ad s.heap.size) s 23 (tbY cA) ad σ H locs → W p l e rm_Mo_leastOf s m args below meth c H locs 0 0 Q (F0 m 117 ls [])) ?_ fuB (((-1), 0) : Int32 × Int32) u5 q5 ?_ ls _ _ (lv_sub hl [0, 1, 2, 3, 4] rfl) M
  · intro t5 oo5 h K1 K2 ls H locs hl M
    unfold f_Mo_leastOf_L5 at h
    refine lv_iload S.1 S.2.1 d_Mo_leastOf_5 (lv_at hl 0 rfl) ?_
    refine lv_aload_n S.1 S.2.1 d_Mo_leastOf_7 rfl (lv_at hl 2 rfl) ?_
    refine m_gi S M (j := 1) ok_Mo (by decide) rfl (by decide) rfl kw_382 rfl d_Mo_leastOf_8 ?_
    refine m_ige (tgt := 117) S d_Mo_leastOf_11 (by decide) h (fun h => ?_) (fun h => ?_)
    · exact K2 _ (Option.some.inj h).symm ls _ _ (lv_sub hl [0, 1, 2, 3, 4] rfl) M
    · refine lv_bipush (v := 10) S.1 S.2.1 d_Mo_leastOf_14 (by decide) ?_
      refine lv_iload_n S.1 S.2.1 d_Mo_leastOf_16 rfl (lv_at hl 3 rfl) ?_
      refine lv_imul S.1 S.2.1 d_Mo_leastOf_17 ?_
      refine lv_iload S.1 S.2.1 d_Mo_leastOf_18 (lv_at hl 0 rfl) ?_
      refine lv_iadd S.1 S.2.1 d_Mo_leastOf_20 ?_
      refine m_ni h (fun v1 h => ?_)
      refine lv_istore (lv' := [(5, .int v1), (4, .int t5.2), (3, .int t5.1), (0, .ref (ad 0)), (1, .int x1), (2, .int x2)]) S.1 S.2.1 d_Mo_leastOf_21 hl (by decide) rfl (fun ls hl => ?_)
      refine lv_aload_n S.1 S.2.1 d_Mo_leastOf_23 rfl (lv_at hl 3 rfl) ?_
      refine m_gs (t := 13) S M (j := 15) ok_Mo (by decide) rfl (by decide) rfl kw_424 rfl d_Mo_leastOf_24 ?_
      refine lv_iload S.1 S.2.1 d_Mo_leastOf_27 (lv_at hl 0 rfl) ?_
      refine m_zal (t0 := 2) S M (by decide) rfl rfl h d_Mo_leastOf_29 (fun h => ?_)
      refine m_ifne (tgt := 111) S d_Mo_leastOf_30 (by decide) h (fun h => ?_) (fun h => ?_)
      · refine lv_iinc (v := t5.2 + 1) (lv' := [(4, .int (t5.2 + 1)), (5, .int v1), (3, .int t5.1), (0, .ref (ad 0)), (1, .int x1), (2, .int x2)]) S.1 S.2.1 d_Mo_leastOf_111 hl (k := 1) rfl rfl (by decide) rfl (fun ls hl => ?_)
        refine lv_goto (tgt := 5) S.1 S.2.1 d_Mo_leastOf_114 (by decide) ?_
        exact K1 _ (Option.some.inj h).symm ls _ _ (lv_sub hl [0, 2, 3, 4, 5] rfl) M
      · refine lv_aload_n S.1 S.2.1 d_Mo_leastOf_33 rfl (lv_at hl 3 rfl) ?_
        refine m_gs (t := 12) S M (j := 14) ok_Mo (by decide) rfl (by decide) rfl kw_423 rfl d_Mo_leastOf_34 ?_
        refine lv_iload S.1 S.2.1 d_Mo_leastOf_37 (lv_at hl 0 rfl) ?_
        refine m_ial (t0 := 0) S M (by decide) rfl rfl h d_Mo_leastOf_39 (fun h => ?_)
        refine lv_ldc (v := 1000000000) S.1 S.2.1 S.2.2.2.1 (S.2.2.2.2 _ kw_408) d_Mo_leastOf_40 ?_
        refine m_ine (tgt := 48) S d_Mo_leastOf_42 (by decide) h (fun h => ?_) (fun h => ?_)
        · refine lv_aload_n S.1 S.2.1 d_Mo_leastOf_48 rfl (lv_at hl 3 rfl) ?_
          refine m_gs (t := 12) S M (j := 14) ok_Mo (by decide) rfl (by decide) rfl kw_423 rfl d_Mo_leastOf_49 ?_
          refine lv_iload S.1 S.2.1 d_Mo_leastOf_52 (lv_at hl 0 rfl) ?_
          refine m_ial (t0 := 0) S M (by decide) rfl rfl h d_Mo_leastOf_54 (fun h => ?_)
          refine lv_iload_n S.1 S.2.1 d_Mo_leastOf_55 rfl (lv_at hl 5 rfl) ?_
          have J70 : ∀ (j2 : Int32) (ls : Array Slot) (H : Heap) (locs : List Loc), f_Mo_leastOf_J70 σ x1 x2 t5 v1 j2 = some oo5 → lv_has ls 7 [(5, .int v1), (4, .int t5.2), (3, .int t5.1), (0, .ref (ad 0)), (1, .int x1), (2, .int x2)] → mM D clX (tyK cA) (mA 23 ad s.heap.size) s 23 (tbY cA) ad σ H locs → W p l e rm_Mo_leastOf s m args below meth c H locs 0 0 Q (F0 m 70 ls [.int j2, .int (σ.1 12 v1.toNatClampNeg)]) := by
            intro j2 ls H locs h hl M
            unfold f_Mo_leastOf_J70 at h
            refine lv_iadd S.1 S.2.1 d_Mo_leastOf_70 ?_
            refine m_ni h (fun v3 h => ?_)
            refine lv_istore (lv' := [(6, .int v3), (5, .int v1), (4, .int t5.2), (3, .int t5.1), (0, .ref (ad 0)), (1, .int x1), (2, .int x2)]) S.1 S.2.1 d_Mo_leastOf_71 hl (by decide) rfl (fun ls hl => ?_)
            refine lv_iload_n S.1 S.2.1 d_Mo_leastOf_73 rfl (lv_at hl 3 rfl) ?_
            refine m_iflt (tgt := 108) S d_Mo_leastOf_74 (by decide) h (fun h => ?_) (fun h => ?_)
            · refine lv_iload S.1 S.2.1 d_Mo_leastOf_108 (lv_at hl 2 rfl) ?_
              refine lv_istore_n (lv' := [(3, .int t5.2), (6, .int v3), (5, .int v1), (4, .int t5.2), (0, .ref (ad 0)), (1, .int x1), (2, .int x2)]) S.1 S.2.1 d_Mo_leastOf_110 rfl hl (by decide) rfl (fun ls hl => ?_)
              refine lv_iinc (v := t5.2 + 1) (lv' := [(4, .int (t5.2 + 1)), (3, .int t5.2), (6, .int v3), (5, .int v1), (0, .ref (ad 0)), (1, .int x1), (2, .int x2)]) S.1 S.2.1 d_Mo_leastOf_111 hl (k := 3) rfl rfl (by decide) rfl (fun ls hl => ?_)
              refine lv_goto (tgt := 5) S.1 S.2.1 d_Mo_leastOf_114 (by decide) ?_
              exact K1 _ (Option.some.inj h).symm ls _ _ (lv_sub hl [0, 1, 4, 5, 6] rfl) M
            · refine lv_iload S.1 S.2.1 d_Mo_leastOf_77 (lv_at hl 0 rfl) ?_
              refine lv_aload_n S.1 S.2.1 d_Mo_leastOf_79 rfl (lv_at hl 4 rfl) ?_
              refine m_gs (t := 12) S M (j := 14) ok_Mo (by decide) rfl (by decide) rfl kw_423 rfl d_Mo_leastOf_80 ?_
              refine lv_bipush (v := 10) S.1 S.2.1 d_Mo_leastOf_83 (by decide) ?_
              refine lv_iload_n S.1 S.2.1 d_Mo_leastOf_85 rfl (lv_at hl 5 rfl) ?_
              refine lv_imul S.1 S.2.1 d_Mo_leastOf_86 ?_
              refine lv_iload_n S.1 S.2.1 d_Mo_leastOf_87 rfl (lv_at hl 3 rfl) ?_
              refine lv_iadd S.1 S.2.1 d_Mo_leastOf_88 ?_
              refine m_ial (t0 := 0) S M (by decide) rfl rfl h d_Mo_leastOf_89 (fun h => ?_)
              refine lv_iload_n S.1 S.2.1 d_Mo_leastOf_90 rfl (lv_at hl 6 rfl) ?_
              refine m_ifeq (tgt := 103) S d_Mo_leastOf_91 (by decide) h (fun h => ?_) (fun h => ?_)
              · refine lv_iconst (v := 0) S.1 S.2.1 d_Mo_leastOf_103 (by decide) ?_
                refine lv_iadd S.1 S.2.1 d_Mo_leastOf_104 ?_
                refine m_ige (tgt := 111) S d_Mo_leastOf_105 (by decide) h (fun h => ?_) (fun h => ?_)
                · refine lv_iinc (v := t5.2 + 1) (lv' := [(4, .int (t5.2 + 1)), (6, .int v3), (5, .int v1), (3, .int t5.1), (0, .ref (ad 0)), (1, .int x1), (2, .int x2)]) S.1 S.2.1 d_Mo_leastOf_111 hl (k := 2) rfl rfl (by decide) rfl (fun ls hl => ?_)
                  refine lv_goto (tgt := 5) S.1 S.2.1 d_Mo_leastOf_114 (by decide) ?_
                  exact K1 _ (Option.some.inj h).symm ls _ _ (lv_sub hl [0, 3, 4, 5, 6] rfl) M
                · refine lv_iload S.1 S.2.1 d_Mo_leastOf_108 (lv_at hl 2 rfl) ?_
                  refine lv_istore_n (lv' := [(3, .int t5.2), (6, .int v3), (5, .int v1), (4, .int t5.2), (0, .ref (ad 0)), (1, .int x1), (2, .int x2)]) S.1 S.2.1 d_Mo_leastOf_110 rfl hl (by decide) rfl (fun ls hl => ?_)
                  refine lv_iinc (v := t5.2 + 1) (lv' := [(4, .int (t5.2 + 1)), (3, .int t5.2), (6, .int v3), (5, .int v1), (0, .ref (ad 0)), (1, .int x1), (2, .int x2)]) S.1 S.2.1 d_Mo_leastOf_111 hl (k := 3) rfl rfl (by decide) rfl (fun ls hl => ?_)
                  refine lv_goto (tgt := 5) S.1 S.2.1 d_Mo_leastOf_114 (by decide) ?_
                  exact K1 _ (Option.some.inj h).symm ls _ _ (lv_sub hl [0, 1, 4, 5, 6] rfl) M
              · refine lv_aload_n S.1 S.2.1 d_Mo_leastOf_94 rfl (lv_at hl 4 rfl) ?_
                refine m_gs (t := 8) S M (j := 10) ok_Mo (by decide) rfl (by decide) rfl kw_387 rfl d_Mo_leastOf_95 ?_
                refine lv_iload_n S.1 S.2.1 d_Mo_leastOf_98 rfl (lv_at hl 3 rfl) ?_
                refine m_ial (t0 := 0) S M (by decide) rfl rfl h d_Mo_leastOf_99 (fun h => ?_)
                refine lv_goto (tgt := 104) S.1 S.2.1 d_Mo_leastOf_100 (by decide) ?_
                refine lv_iadd S.1 S.2.1 d_Mo_leastOf_104 ?_
                refine m_ige (tgt := 111) S d_Mo_leastOf_105 (by decide) h (fun h => ?_) (fun h => ?_)
                · refine lv_iinc (v := t5.2 + 1) (lv' := [(4, .int (t5.2 + 1)), (6, .int v3), (5, .int v1), (3, .int t5.1), (0, .ref (ad 0)), (1, .int x1), (2, .int x2)]) S.1 S.2.1 d_Mo_leastOf_111 hl (k := 2) rfl rfl (by decide) rfl (fun ls hl => ?_)
                  refine lv_goto (tgt := 5) S.1 S.2.1 d_Mo_leastOf_114 (by decide) ?_
                  exact K1 _ (Option.some.inj h).symm ls _ _ (lv_sub hl [0, 3, 4, 5, 6] rfl) M
                · refine lv_iload S.1 S.2.1 d_Mo_leastOf_108 (lv_at hl 2 rfl) ?_
                  refine lv_istore_n (lv' := [(3, .int t5.2), (6, .int v3), (5, .int v1), (4, .int t5.2), (0, .ref (ad 0)), (1, .int x1), (2, .int x2)]) S.1 S.2.1 d_Mo_leastOf_110 rfl hl (by decide) rfl (fun ls hl => ?_)
                  refine lv_iinc (v := t5.2 + 1) (lv' := [(4, .int (t5.2 + 1)), (3, .int t5.2), (6, .int v3), (5, .int v1), (0, .ref (ad 0)), (1, .int x1), (2, .int x2)]) S.1 S.2.1 d_Mo_leastOf_111 hl (k := 3) rfl rfl (by decide) rfl (fun ls hl => ?_)
                  refine lv_goto (tgt := 5) S.1 S.2.1 d_Mo_leastOf_114 (by decide) ?_
                  exact K1 _ (Option.some.inj h).symm ls _ _ (lv_sub hl [0, 1, 4, 5, 6] rfl) M
          refine m_ifeq (tgt := 69) S d_Mo_leastOf_56 (by decide) h (fun h => ?_) (fun h => ?_)
          · refine lv_iconst (v := 0) S.1 S.2.1 d_Mo_leastOf_69 (by decide) ?_
            exact J70 _ ls _ _ h (lv_sub hl [0, 1, 2, 3, 4, 5] rfl) M
          · refine lv_aload_n S.1 S.2.1 d_Mo_leastOf_59 rfl (lv_at hl 3 rfl) ?_
            refine m_gs (t := 8) S M (j := 10) ok_Mo (by decide) rfl (by decide) rfl kw_387 rfl d_Mo_leastOf_60 ?_
            refine lv_iload S.1 S.2.1 d_Mo_leastOf_63 (lv_at hl 1 rfl) ?_
            refine m_ial (t0 := 0) S M (by decide) rfl rfl h d_Mo_leastOf_65 (fun h => ?_)
            refine lv_goto (tgt := 70) S.1 S.2.1 d_Mo_leastOf_66 (by decide) ?_
            exact J70 _ ls _ _ h (lv_sub hl [0, 1, 2, 3, 4, 5] rfl) M
        · refine lv_goto (tgt := 111) S.1 S.2.1 d_Mo_leastOf_45 (by decide) ?_
          refine lv_iinc (v := t5.2 + 1) (lv' := [(4, .int (t5.2 + 1)), (5, .int v1), (3, .int t5.1), (0, .ref (ad 0)), (1, .int x1), (2, .int x2)]) S.1 S.2.1 d_Mo_leastOf_111 hl (k := 1) rfl rfl (by decide) rfl (fun ls hl => ?_)
          refine lv_goto (tgt := 5) S.1 S.2.1 d_Mo_leastOf_114 (by decide) ?_
          exact K1 _ (Option.some.inj h).symm ls _ _ (lv_sub hl [0, 2, 3, 4, 5] rfl) M
  · intro ls H locs hl M
    refine lv_iload_n S.1 S.2.1 d_Mo_leastOf_117 rfl (lv_at hl 1 rfl) ?_
    subst hQ; exact m_iret S hr hlk M (by rw [Option.some.inj h]) d_Mo_leastOf_118
theorem d_Mo_settle_0 : decode prog_12_method_24_code 0 = .ok (.aload_n 0, 1) := by decide +kernel
theorem d_Mo_settle_1 : decode prog_12_method_24_code 1 = .ok (.getfield 47, 3) := by decide +kernel
theorem d_Mo_settle_4 : decode prog_12_method_24_code 4 = .ok (.bipush 10, 2) := by decide +kernel
theorem d_Mo_settle_6 : decode prog_12_method_24_code 6 = .ok (.iload_n 1, 1) := by decide +kernel
theorem d_Mo_settle_7 : decode prog_12_method_24_code 7 = .ok (.imul, 1) := by decide +kernel
theorem d_Mo_settle_8 : decode prog_12_method_24_code 8 = .ok (.iload_n 2, 1) := by decide +kernel
theorem d_Mo_settle_9 : decode prog_12_method_24_code 9 = .ok (.iadd, 1) := by decide +kernel
theorem d_Mo_settle_10 : decode prog_12_method_24_code 10 = .ok (.iconst 1, 1) := by decide +kernel
theorem d_Mo_settle_11 : decode prog_12_method_24_code 11 = .ok (.bastore, 1) := by decide +kernel
theorem d_Mo_settle_12 : decode prog_12_method_24_code 12 = .ok (.return_, 1) := by decide +kernel
def rm_Mo_settle : Room := { frames := 0, cells := 0, slots := 0, locals := 0 }
def f_Mo_settle (σ : mS) (x1 : Int32) (x2 : Int32) : Option (mS) :=
  gd (inb ((10 * x1) + x2) 20) (gd (isB 1) (nm (sI σ 13 ((10 * x1) + x2).toNatClampNeg 1) fun σ1 =>
  some σ1))
set_option maxHeartbeats 4000000 in
set_option maxRecDepth 100000 in
theorem c_Mo_settle (l : Launch) (D : va_G) (cA ad : Nat → Nat) (σ : mS) (x1 : Int32) (x2 : Int32) (o : mS) (h : f_Mo_settle σ x1 x2 = some o) : mCv l ⟨"LeastPathsModel", "settle", "(II)V"⟩ (Cond.code ⟨"LeastPathsModel", "settle", "(II)V"⟩ prog_12_method_24_code 3 (Option.none : Option Jvm.ClassFile.FieldType) :: tlG) rm_Mo_settle D clX (tyK cA) 23 (tbY cA) ad σ [.ref (ad 0), .int x1, .int x2] o := by
  intro sz
  refine m_of (cc := prog_12_method_24_code) (maxL := 3) (Qc := mQv D clX (tyK cA) 23 (tbY cA) ad o) (by decide) (Nat.le_of_ble_eq_true rfl) (fun p e s m args below meth c ls S hr hlk hnm hl M => ?_) sz
  have hl : lv_has ls 3 [(0, .ref (ad 0)), (1, .int x1), (2, .int x2)] := hl
  generalize hQ : MQ _ _ _ _ _ _ _ = Q
  skip
  unfold f_Mo_settle at h
  refine lv_aload_n S.1 S.2.1 d_Mo_settle_0 rfl (lv_at hl 0 rfl) ?_
  refine m_gs (t := 13) S M (j := 15) ok_Mo (by decide) rfl (by decide) rfl kw_424 rfl d_Mo_settle_1 ?_
  refine lv_bipush (v := 10) S.1 S.2.1 d_Mo_settle_4 (by decide) ?_
  refine lv_iload_n S.1 S.2.1 d_Mo_settle_6 rfl (lv_at hl 1 rfl) ?_
  refine lv_imul S.1 S.2.1 d_Mo_settle_7 ?_
  refine lv_iload_n S.1 S.2.1 d_Mo_settle_8 rfl (lv_at hl 2 rfl) ?_
  refine lv_iadd S.1 S.2.1 d_Mo_settle_9 ?_
  refine lv_iconst (v := 1) S.1 S.2.1 d_Mo_settle_10 (by decide) ?_
  refine m_zas (t0 := 2) S M (by decide) rfl rfl h d_Mo_settle_11 (fun σ1 H locs h M => ?_)
  subst hQ; exact m_vret S hr hlk M (Option.some.inj h) d_Mo_settle_12
theorem d_Mo_spread_0 : decode prog_12_method_25_code 0 = .ok (.iconst 0, 1) := by decide +kernel
theorem d_Mo_spread_1 : decode prog_12_method_25_code 1 = .ok (.istore_n 3, 1) := by decide +kernel
theorem d_Mo_spread_2 : decode prog_12_method_25_code 2 = .ok (.iload_n 3, 1) := by decide +kernel
theorem d_Mo_spread_3 : decode prog_12_method_25_code 3 = .ok (.aload_n 0, 1) := by decide +kernel
theorem d_Mo_spread_4 : decode prog_12_method_25_code 4 = .ok (.getfield 88, 3) := by decide +kernel
theorem d_Mo_spread_7 : decode prog_12_method_25_code 7 = .ok (.if_icmp .ge 135, 3) := by decide +kernel
theorem d_Mo_spread_10 : decode prog_12_method_25_code 10 = .ok (.iload_n 1, 1) := by decide +kernel
theorem d_Mo_spread_11 : decode prog_12_method_25_code 11 = .ok (.ifCond .ne 12, 3) := by decide +kernel
theorem d_Mo_spread_14 : decode prog_12_method_25_code 14 = .ok (.aload_n 0, 1) := by decide +kernel
theorem d_Mo_spread_15 : decode prog_12_method_25_code 15 = .ok (.getfield 7, 3) := by decide +kernel
theorem d_Mo_spread_18 : decode prog_12_method_25_code 18 = .ok (.iload_n 3, 1) := by decide +kernel
theorem d_Mo_spread_19 : decode prog_12_method_25_code 19 = .ok (.iaload, 1) := by decide +kernel
theorem d_Mo_spread_20 : decode prog_12_method_25_code 20 = .ok (.goto 9, 3) := by decide +kernel
theorem d_Mo_spread_23 : decode prog_12_method_25_code 23 = .ok (.aload_n 0, 1) := by decide +kernel
theorem d_Mo_spread_24 : decode prog_12_method_25_code 24 = .ok (.getfield 13, 3) := by decide +kernel
theorem d_Mo_spread_27 : decode prog_12_method_25_code 27 = .ok (.iload_n 3, 1) := by decide +kernel
theorem d_Mo_spread_28 : decode prog_12_method_25_code 28 = .ok (.iaload, 1) := by decide +kernel
theorem d_Mo_spread_29 : decode prog_12_method_25_code 29 = .ok (.istore 4, 2) := by decide +kernel
theorem d_Mo_spread_31 : decode prog_12_method_25_code 31 = .ok (.iload_n 1, 1) := by decide +kernel
theorem d_Mo_spread_32 : decode prog_12_method_25_code 32 = .ok (.ifCond .ne 12, 3) := by decide +kernel
theorem d_Mo_spread_35 : decode prog_12_method_25_code 35 = .ok (.aload_n 0, 1) := by decide +kernel
theorem d_Mo_spread_36 : decode prog_12_method_25_code 36 = .ok (.getfield 13, 3) := by decide +kernel
theorem d_Mo_spread_39 : decode prog_12_method_25_code 39 = .ok (.iload_n 3, 1) := by decide +kernel
theorem d_Mo_spread_40 : decode prog_12_method_25_code 40 = .ok (.iaload, 1) := by decide +kernel
theorem d_Mo_spread_41 : decode prog_12_method_25_code 41 = .ok (.goto 9, 3) := by decide +kernel
theorem d_Mo_spread_44 : decode prog_12_method_25_code 44 = .ok (.aload_n 0, 1) := by decide +kernel
theorem d_Mo_spread_45 : decode prog_12_method_25_code 45 = .ok (.getfield 7, 3) := by decide +kernel
theorem d_Mo_spread_48 : decode prog_12_method_25_code 48 = .ok (.iload_n 3, 1) := by decide +kernel
theorem d_Mo_spread_49 : decode prog_12_method_25_code 49 = .ok (.iaload, 1) := by decide +kernel
theorem d_Mo_spread_50 : decode prog_12_method_25_code 50 = .ok (.istore 5, 2) := by decide +kernel
theorem d_Mo_spread_52 : decode prog_12_method_25_code 52 = .ok (.aload_n 0, 1) := by decide +kernel
theorem d_Mo_spread_53 : decode prog_12_method_25_code 53 = .ok (.getfield 25, 3) := by decide +kernel
theorem d_Mo_spread_56 : decode prog_12_method_25_code 56 = .ok (.iload_n 3, 1) := by decide +kernel
theorem d_Mo_spread_57 : decode prog_12_method_25_code 57 = .ok (.baload, 1) := by decide +kernel
theorem d_Mo_spread_58 : decode prog_12_method_25_code 58 = .ok (.ifCond .eq 78, 3) := by decide +kernel
theorem d_Mo_spread_61 : decode prog_12_method_25_code 61 = .ok (.iload 4, 2) := by decide +kernel
theorem d_Mo_spread_63 : decode prog_12_method_25_code 63 = .ok (.iload_n 2, 1) := by decide +kernel
theorem d_Mo_spread_64 : decode prog_12_method_25_code 64 = .ok (.if_icmp .ne 72, 3) := by decide +kernel
theorem d_Mo_spread_67 : decode prog_12_method_25_code 67 = .ok (.aload_n 0, 1) := by decide +kernel
theorem d_Mo_spread_68 : decode prog_12_method_25_code 68 = .ok (.getfield 47, 3) := by decide +kernel
theorem d_Mo_spread_71 : decode prog_12_method_25_code 71 = .ok (.bipush 10, 2) := by decide +kernel
theorem d_Mo_spread_73 : decode prog_12_method_25_code 73 = .ok (.iload_n 1, 1) := by decide +kernel
theorem d_Mo_spread_74 : decode prog_12_method_25_code 74 = .ok (.imul, 1) := by decide +kernel
theorem d_Mo_spread_75 : decode prog_12_method_25_code 75 = .ok (.iload 5, 2) := by decide +kernel
theorem d_Mo_spread_77 : decode prog_12_method_25_code 77 = .ok (.iadd, 1) := by decide +kernel
theorem d_Mo_spread_78 : decode prog_12_method_25_code 78 = .ok (.baload, 1) := by decide +kernel
theorem d_Mo_spread_79 : decode prog_12_method_25_code 79 = .ok (.ifCond .eq 6, 3) := by decide +kernel
theorem d_Mo_spread_82 : decode prog_12_method_25_code 82 = .ok (.goto 54, 3) := by decide +kernel
theorem d_Mo_spread_85 : decode prog_12_method_25_code 85 = .ok (.aload_n 0, 1) := by decide +kernel
theorem d_Mo_spread_86 : decode prog_12_method_25_code 86 = .ok (.getfield 44, 3) := by decide +kernel
theorem d_Mo_spread_89 : decode prog_12_method_25_code 89 = .ok (.bipush 10, 2) := by decide +kernel
theorem d_Mo_spread_91 : decode prog_12_method_25_code 91 = .ok (.iload_n 1, 1) := by decide +kernel
theorem d_Mo_spread_92 : decode prog_12_method_25_code 92 = .ok (.imul, 1) := by decide +kernel
theorem d_Mo_spread_93 : decode prog_12_method_25_code 93 = .ok (.iload_n 2, 1) := by decide +kernel
theorem d_Mo_spread_94 : decode prog_12_method_25_code 94 = .ok (.iadd, 1) := by decide +kernel
theorem d_Mo_spread_95 : decode prog_12_method_25_code 95 = .ok (.iaload, 1) := by decide +kernel
theorem d_Mo_spread_96 : decode prog_12_method_25_code 96 = .ok (.aload_n 0, 1) := by decide +kernel
theorem d_Mo_spread_97 : decode prog_12_method_25_code 97 = .ok (.getfield 16, 3) := by decide +kernel
theorem d_Mo_spread_100 : decode prog_12_method_25_code 100 = .ok (.iload_n 3, 1) := by decide +kernel
theorem d_Mo_spread_101 : decode prog_12_method_25_code 101 = .ok (.iaload, 1) := by decide +kernel
theorem d_Mo_spread_102 : decode prog_12_method_25_code 102 = .ok (.iadd, 1) := by decide +kernel
theorem d_Mo_spread_103 : decode prog_12_method_25_code 103 = .ok (.istore 6, 2) := by decide +kernel
theorem d_Mo_spread_105 : decode prog_12_method_25_code 105 = .ok (.iload 6, 2) := by decide +kernel
theorem d_Mo_spread_107 : decode prog_12_method_25_code 107 = .ok (.aload_n 0, 1) := by decide +kernel
theorem d_Mo_spread_108 : decode prog_12_method_25_code 108 = .ok (.getfield 44, 3) := by decide +kernel
theorem d_Mo_spread_111 : decode prog_12_method_25_code 111 = .ok (.bipush 10, 2) := by decide +kernel
theorem d_Mo_spread_113 : decode prog_12_method_25_code 113 = .ok (.iload_n 1, 1) := by decide +kernel
theorem d_Mo_spread_114 : decode prog_12_method_25_code 114 = .ok (.imul, 1) := by decide +kernel
theorem d_Mo_spread_115 : decode prog_12_method_25_code 115 = .ok (.iload 5, 2) := by decide +kernel
theorem d_Mo_spread_117 : decode prog_12_method_25_code 117 = .ok (.iadd, 1) := by decide +kernel
theorem d_Mo_spread_118 : decode prog_12_method_25_code 118 = .ok (.iaload, 1) := by decide +kernel
theorem d_Mo_spread_119 : decode prog_12_method_25_code 119 = .ok (.if_icmp .ge 17, 3) := by decide +kernel
theorem d_Mo_spread_122 : decode prog_12_method_25_code 122 = .ok (.aload_n 0, 1) := by decide +kernel
theorem d_Mo_spread_123 : decode prog_12_method_25_code 123 = .ok (.getfield 44, 3) := by decide +kernel
theorem d_Mo_spread_126 : decode prog_12_method_25_code 126 = .ok (.bipush 10, 2) := by decide +kernel
theorem d_Mo_spread_128 : decode prog_12_method_25_code 128 = .ok (.iload_n 1, 1) := by decide +kernel
theorem d_Mo_spread_129 : decode prog_12_method_25_code 129 = .ok (.imul, 1) := by decide +kernel
theorem d_Mo_spread_130 : decode prog_12_method_25_code 130 = .ok (.iload 5, 2) := by decide +kernel
theorem d_Mo_spread_132 : decode prog_12_method_25_code 132 = .ok (.iadd, 1) := by decide +kernel
theorem d_Mo_spread_133 : decode prog_12_method_25_code 133 = .ok (.iload 6, 2) := by decide +kernel
theorem d_Mo_spread_135 : decode prog_12_method_25_code 135 = .ok (.iastore, 1) := by decide +kernel
theorem d_Mo_spread_136 : decode prog_12_method_25_code 136 = .ok (.iinc 3 1, 3) := by decide +kernel
theorem d_Mo_spread_139 : decode prog_12_method_25_code 139 = .ok (.goto (-137), 3) := by decide +kernel
theorem d_Mo_spread_142 : decode prog_12_method_25_code 142 = .ok (.return_, 1) := by decide +kernel
def rm_Mo_spread : Room := { frames := 0, cells := 0, slots := 0, locals := 0 }
def f_Mo_spread_J50 (x1 : Int32) (x2 : Int32) (t2 : Int32 × mS) (j1 : Int32) (j2 : Int32) : Option ((Int32 × mS) ⊕ (Int32 × mS)) :=
  gd (inb t2.1 40) (
  if (t2.2.1 6 t2.1.toNatClampNeg) = 0 then (
  some (.inl (t2.1 + 1, t2.2))) else (
  if j1 = x2 then (
  gd (inb ((10 * x1) + j2) 20) (
  if (t2.2.1 13 ((10 * x1) + j2).toNatClampNeg) = 0 then (
  gd (inb ((10 * x1) + x2) 20) (
  gd (inb t2.1 40) (
  nm ((t2.2.1 12 ((10 * x1) + x2).toNatClampNeg) + (t2.2.1 3 t2.1.toNatClampNeg)) fun v3 =>
  gd (inb ((10 * x1) + j2) 20) (
  if (t2.2.1 12 ((10 * x1) + j2).toNatClampNeg) ≤ v3 then (
  some (.inl (t2.1 + 1, t2.2))) else (
  gd (inb ((10 * x1) + j2) 20) ((nm (sI t2.2 12 ((10 * x1) + j2).toNatClampNeg v3) fun σ4 =>
  some (.inl (t2.1 + 1, σ4))))))))) else (
  some (.inl (t2.1 + 1, t2.2))))) else (
  some (.inl (t2.1 + 1, t2.2)))))
def f_Mo_spread_J29 (x1 : Int32) (x2 : Int32) (t2 : Int32 × mS) (j1 : Int32) : Option ((Int32 × mS) ⊕ (Int32 × mS)) :=
  if x1 = 0 then (
  gd (inb t2.1 40) (
  f_Mo_spread_J50 x1 x2 t2 j1 (t2.2.1 2 t2.1.toNatClampNeg))) else (
  gd (inb t2.1 40) (
  f_Mo_spread_J50 x1 x2 t2 j1 (t2.2.1 1 t2.1.toNatClampNeg)))
def f_Mo_spread_L2 (x1 : Int32) (x2 : Int32) : (Int32 × mS) → Option ((Int32 × mS) ⊕ (Int32 × mS)) := fun t2 =>
  if (t2.2.1 0 2) ≤ t2.1 then (
  some (.inr (t2.1, t2.2))) else (
  if x1 = 0 then (
  gd (inb t2.1 40) (
  f_Mo_spread_J29 x1 x2 t2 (t2.2.1 1 t2.1.toNatClampNeg))) else (
  gd (inb t2.1 40) (
  f_Mo_spread_J29 x1 x2 t2 (t2.2.1 2 t2.1.toNatClampNeg))))
def f_Mo_spread (σ : mS) (x1 : Int32) (x2 : Int32) : Option (mS) :=
  (lpN (f_Mo_spread_L2 x1 x2) fuB (0, σ)).bind fun u2 =>
  some u2.2
set_option maxHeartbeats 4000000 in
set_option maxRecDepth 100000 in
theorem c_Mo_spread (l : Launch) (D : va_G) (cA ad : Nat → Nat) (σ : mS) (x1 : Int32) (x2 : Int32) (o : mS) (h : f_Mo_spread σ x1 x2 = some o) : mCv l ⟨"LeastPathsModel", "spread", "(II)V"⟩ (Cond.code ⟨"LeastPathsModel", "spread", "(II)V"⟩ prog_12_method_25_code 7 (Option.none : Option Jvm.ClassFile.FieldType) :: tlG) rm_Mo_spread D clX (tyK cA) 23 (tbY cA) ad σ [.ref (ad 0), .int x1, .int x2] o := by
  intro sz
  refine m_of (cc := prog_12_method_25_code) (maxL := 7) (Qc := mQv D clX (tyK cA) 23 (tbY cA) ad o) (by decide) (Nat.le_of_ble_eq_true rfl) (fun p e s m args below meth c ls S hr hlk hnm hl M => ?_) sz
  have hl : lv_has ls 7 [(0, .ref (ad 0)), (1, .int x1), (2, .int x2)] := hl
  generalize hQ : MQ _ _ _ _ _ _ _ = Q
  skip
  unfold f_Mo_spread at h
  refine lv_iconst (v := 0) S.1 S.2.1 d_Mo_spread_0 (by decide) ?_
  refine lv_istore_n (lv' := [(3, .int 0), (0, .ref (ad 0)), (1, .int x1), (2, .int x2)]) S.1 S.2.1 d_Mo_spread_1 rfl hl (by decide) rfl (fun ls hl => ?_)
  obtain ⟨u2, q2, h⟩ := Option.bind_eq_some_iff.mp h
  refine lpN_W1 (st := f_Mo_spread_L2 x1 x2) (fun (t2 : Int32 × mS) => ∀ (ls : Array Slot) (H : Heap) (locs : List Loc), lv_has ls 7 [(3, .int t2.1), (0, .ref (ad 0)), (1, .int x1), (2, .int x2)] → mM D clX (tyK cA) (mA 23 ad s.heap.size) s 23 (tbY cA) ad t2.2 H locs → W p l e rm_Mo_spread s m args below meth c H locs 0 0 Q (F0 m 2 ls [])) (fun (u2 : Int32 × mS) => ∀ (ls : Array Slot) (H : Heap) (locs : List Loc), lv_has ls 7 [(3, .int u2.1), (0, .ref (ad 0)), (1, .int x1), (2, .int x2)] → mM D clX (tyK cA) (mA 23 ad s.heap.size) s 23 (tbY cA) ad u2.2 H locs → W p l e rm_Mo_spread s m args below meth c H locs 0 0 Q (F0 m 142 ls [])) ?_ fuB ((0, σ) : Int32 × mS) u2 q2 ?_ ls _ _ (lv_sub hl [0, 1, 2, 3] rfl) M
  · intro t2 oo2 h K1 K2 ls H locs hl M
    unfold f_Mo_spread_L2 at h
    refine lv_iload_n S.1 S.2.1 d_Mo_spread_2 rfl (lv_at hl 0 rfl) ?_
    refine lv_aload_n S.1 S.2.1 d_Mo_spread_3 rfl (lv_at hl 1 rfl) ?_
    refine m_gi S M (j := 2) ok_Mo (by decide) rfl (by decide) rfl kw_383 rfl d_Mo_spread_4 ?_
    refine m_ige (tgt := 142) S d_Mo_spread_7 (by decide) h (fun h => ?_) (fun h => ?_)
    · exact K2 _ (Option.some.inj h).symm ls _ _ (lv_sub hl [0, 1, 2, 3] rfl) M
    · refine lv_iload_n S.1 S.2.1 d_Mo_spread_10 rfl (lv_at hl 2 rfl) ?_
      have J29 : ∀ (j1 : Int32) (ls : Array Slot) (H : Heap) (locs : List Loc), f_Mo_spread_J29 x1 x2 t2 j1 = some oo2 → lv_has ls 7 [(3, .int t2.1), (0, .ref (ad 0)), (1, .int x1), (2, .int x2)] → mM D clX (tyK cA) (mA 23 ad s.heap.size) s 23 (tbY cA) ad t2.2 H locs → W p l e rm_Mo_spread s m args below meth c H locs 0 0 Q (F0 m 29 ls [.int j1]) := by
        intro j1 ls H locs h hl M
        unfold f_Mo_spread_J29 at h
        refine lv_istore (lv' := [(4, .int j1), (3, .int t2.1), (0, .ref (ad 0)), (1, .int x1), (2, .int x2)]) S.1 S.2.1 d_Mo_spread_29 hl (by decide) rfl (fun ls hl => ?_)
        refine lv_iload_n S.1 S.2.1 d_Mo_spread_31 rfl (lv_at hl 3 rfl) ?_
        have J50 : ∀ (j2 : Int32) (ls : Array Slot) (H : Heap) (locs : List Loc), f_Mo_spread_J50 x1 x2 t2 j1 j2 = some oo2 → lv_has ls 7 [(4, .int j1), (3, .int t2.1), (0, .ref (ad 0)), (1, .int x1), (2, .int x2)] → mM D clX (tyK cA) (mA 23 ad s.heap.size) s 23 (tbY cA) ad t2.2 H locs → W p l e rm_Mo_spread s m args below meth c H locs 0 0 Q (F0 m 50 ls [.int j2]) := by
          intro j2 ls H locs h hl M
          unfold f_Mo_spread_J50 at h
          refine lv_istore (lv' := [(5, .int j2), (4, .int j1), (3, .int t2.1), (0, .ref (ad 0)), (1, .int x1), (2, .int x2)]) S.1 S.2.1 d_Mo_spread_50 hl (by decide) rfl (fun ls hl => ?_)
          refine lv_aload_n S.1 S.2.1 d_Mo_spread_52 rfl (lv_at hl 3 rfl) ?_
          refine m_gs (t := 6) S M (j := 8) ok_Mo (by decide) rfl (by decide) rfl kw_384 rfl d_Mo_spread_53 ?_
          refine lv_iload_n S.1 S.2.1 d_Mo_spread_56 rfl (lv_at hl 2 rfl) ?_
          refine m_zal (t0 := 2) S M (by decide) rfl rfl h d_Mo_spread_57 (fun h => ?_)
          refine m_ifeq (tgt := 136) S d_Mo_spread_58 (by decide) h (fun h => ?_) (fun h => ?_)
          · refine lv_iinc (v := t2.1 + 1) (lv' := [(3, .int (t2.1 + 1)), (5, .int j2), (4, .int j1), (0, .ref (ad 0)), (1, .int x1), (2, .int x2)]) S.1 S.2.1 d_Mo_spread_136 hl (k := 2) rfl rfl (by decide) rfl (fun ls hl => ?_)
            refine lv_goto (tgt := 2) S.1 S.2.1 d_Mo_spread_139 (by decide) ?_
            exact K1 _ (Option.some.inj h).symm ls _ _ (lv_sub hl [0, 3, 4, 5] rfl) M
          · refine lv_iload S.1 S.2.1 d_Mo_spread_61 (lv_at hl 1 rfl) ?_
            refine lv_iload_n S.1 S.2.1 d_Mo_spread_63 rfl (lv_at hl 5 rfl) ?_
            refine m_ine (tgt := 136) S d_Mo_spread_64 (by decide) h (fun h => ?_) (fun h => ?_)
            · refine lv_iinc (v := t2.1 + 1) (lv' := [(3, .int (t2.1 + 1)), (5, .int j2), (4, .int j1), (0, .ref (ad 0)), (1, .int x1), (2, .int x2)]) S.1 S.2.1 d_Mo_spread_136 hl (k := 2) rfl rfl (by decide) rfl (fun ls hl => ?_)
              refine lv_goto (tgt := 2) S.1 S.2.1 d_Mo_spread_139 (by decide) ?_
              exact K1 _ (Option.some.inj h).symm ls _ _ (lv_sub hl [0, 3, 4, 5] rfl) M
            · refine lv_aload_n S.1 S.2.1 d_Mo_spread_67 rfl (lv_at hl 3 rfl) ?_
              refine m_gs (t := 13) S M (j := 15) ok_Mo (by decide) rfl (by decide) rfl kw_424 rfl d_Mo_spread_68 ?_
              refine lv_bipush (v := 10) S.1 S.2.1 d_Mo_spread_71 (by decide) ?_
              refine lv_iload_n S.1 S.2.1 d_Mo_spread_73 rfl (lv_at hl 4 rfl) ?_
              refine lv_imul S.1 S.2.1 d_Mo_spread_74 ?_
              refine lv_iload S.1 S.2.1 d_Mo_spread_75 (lv_at hl 0 rfl) ?_
              refine lv_iadd S.1 S.2.1 d_Mo_spread_77 ?_
              refine m_zal (t0 := 2) S M (by decide) rfl rfl h d_Mo_spread_78 (fun h => ?_)
              refine m_ifeq (tgt := 85) S d_Mo_spread_79 (by decide) h (fun h => ?_) (fun h => ?_)
              · refine lv_aload_n S.1 S.2.1 d_Mo_spread_85 rfl (lv_at hl 3 rfl) ?_
                refine m_gs (t := 12) S M (j := 14) ok_Mo (by decide) rfl (by decide) rfl kw_423 rfl d_Mo_spread_86 ?_
                refine lv_bipush (v := 10) S.1 S.2.1 d_Mo_spread_89 (by decide) ?_
                refine lv_iload_n S.1 S.2.1 d_Mo_spread_91 rfl (lv_at hl 4 rfl) ?_
                refine lv_imul S.1 S.2.1 d_Mo_spread_92 ?_
                refine lv_iload_n S.1 S.2.1 d_Mo_spread_93 rfl (lv_at hl 5 rfl) ?_
                refine lv_iadd S.1 S.2.1 d_Mo_spread_94 ?_
                refine m_ial (t0 := 0) S M (by decide) rfl rfl h d_Mo_spread_95 (fun h => ?_)
                refine lv_aload_n S.1 S.2.1 d_Mo_spread_96 rfl (lv_at hl 3 rfl) ?_
                refine m_gs (t := 3) S M (j := 5) ok_Mo (by decide) rfl (by decide) rfl kw_400 rfl d_Mo_spread_97 ?_
                refine lv_iload_n S.1 S.2.1 d_Mo_spread_100 rfl (lv_at hl 2 rfl) ?_
                refine m_ial (t0 := 0) S M (by decide) rfl rfl h d_Mo_spread_101 (fun h => ?_)
                refine lv_iadd S.1 S.2.1 d_Mo_spread_102 ?_
                refine m_ni h (fun v3 h => ?_)
                refine lv_istore (lv' := [(6, .int v3), (5, .int j2), (4, .int j1), (3, .int t2.1), (0, .ref (ad 0)), (1, .int x1), (2, .int x2)]) S.1 S.2.1 d_Mo_spread_103 hl (by decide) rfl (fun ls hl => ?_)
                refine lv_iload S.1 S.2.1 d_Mo_spread_105 (lv_at hl 0 rfl) ?_
                refine lv_aload_n S.1 S.2.1 d_Mo_spread_107 rfl (lv_at hl 4 rfl) ?_
                refine m_gs (t := 12) S M (j := 14) ok_Mo (by decide) rfl (by decide) rfl kw_423 rfl d_Mo_spread_108 ?_
                refine lv_bipush (v := 10) S.1 S.2.1 d_Mo_spread_111 (by decide) ?_
                refine lv_iload_n S.1 S.2.1 d_Mo_spread_113 rfl (lv_at hl 5 rfl) ?_
                refine lv_imul S.1 S.2.1 d_Mo_spread_114 ?_
                refine lv_iload S.1 S.2.1 d_Mo_spread_115 (lv_at hl 1 rfl) ?_
                refine lv_iadd S.1 S.2.1 d_Mo_spread_117 ?_
                refine m_ial (t0 := 0) S M (by decide) rfl rfl h d_Mo_spread_118 (fun h => ?_)
                refine m_ige (tgt := 136) S d_Mo_spread_119 (by decide) h (fun h => ?_) (fun h => ?_)
                · refine lv_iinc (v := t2.1 + 1) (lv' := [(3, .int (t2.1 + 1)), (6, .int v3), (5, .int j2), (4, .int j1), (0, .ref (ad 0)), (1, .int x1), (2, .int x2)]) S.1 S.2.1 d_Mo_spread_136 hl (k := 3) rfl rfl (by decide) rfl (fun ls hl => ?_)
                  refine lv_goto (tgt := 2) S.1 S.2.1 d_Mo_spread_139 (by decide) ?_
                  exact K1 _ (Option.some.inj h).symm ls _ _ (lv_sub hl [0, 4, 5, 6] rfl) M
                · refine lv_aload_n S.1 S.2.1 d_Mo_spread_122 rfl (lv_at hl 4 rfl) ?_
                  refine m_gs (t := 12) S M (j := 14) ok_Mo (by decide) rfl (by decide) rfl kw_423 rfl d_Mo_spread_123 ?_
                  refine lv_bipush (v := 10) S.1 S.2.1 d_Mo_spread_126 (by decide) ?_
                  refine lv_iload_n S.1 S.2.1 d_Mo_spread_128 rfl (lv_at hl 5 rfl) ?_
                  refine lv_imul S.1 S.2.1 d_Mo_spread_129 ?_
                  refine lv_iload S.1 S.2.1 d_Mo_spread_130 (lv_at hl 1 rfl) ?_
                  refine lv_iadd S.1 S.2.1 d_Mo_spread_132 ?_
                  refine lv_iload S.1 S.2.1 d_Mo_spread_133 (lv_at hl 0 rfl) ?_
                  refine m_ias (t0 := 0) S M (by decide) rfl rfl h d_Mo_spread_135 (fun σ4 H locs h M => ?_)
                  refine lv_iinc (v := t2.1 + 1) (lv' := [(3, .int (t2.1 + 1)), (6, .int v3), (5, .int j2), (4, .int j1), (0, .ref (ad 0)), (1, .int x1), (2, .int x2)]) S.1 S.2.1 d_Mo_spread_136 hl (k := 3) rfl rfl (by decide) rfl (fun ls hl => ?_)
                  refine lv_goto (tgt := 2) S.1 S.2.1 d_Mo_spread_139 (by decide) ?_
                  exact K1 _ (Option.some.inj h).symm ls _ _ (lv_sub hl [0, 4, 5, 6] rfl) M
              · refine lv_goto (tgt := 136) S.1 S.2.1 d_Mo_spread_82 (by decide) ?_
                refine lv_iinc (v := t2.1 + 1) (lv' := [(3, .int (t2.1 + 1)), (5, .int j2), (4, .int j1), (0, .ref (ad 0)), (1, .int x1), (2, .int x2)]) S.1 S.2.1 d_Mo_spread_136 hl (k := 2) rfl rfl (by decide) rfl (fun ls hl => ?_)
                refine lv_goto (tgt := 2) S.1 S.2.1 d_Mo_spread_139 (by decide) ?_
                exact K1 _ (Option.some.inj h).symm ls _ _ (lv_sub hl [0, 3, 4, 5] rfl) M
        refine m_ifne (tgt := 44) S d_Mo_spread_32 (by decide) h (fun h => ?_) (fun h => ?_)
        · refine lv_aload_n S.1 S.2.1 d_Mo_spread_44 rfl (lv_at hl 2 rfl) ?_
          refine m_gs (t := 1) S M (j := 3) ok_Mo (by decide) rfl (by decide) rfl kw_398 rfl d_Mo_spread_45 ?_
          refine lv_iload_n S.1 S.2.1 d_Mo_spread_48 rfl (lv_at hl 1 rfl) ?_
          refine m_ial (t0 := 0) S M (by decide) rfl rfl h d_Mo_spread_49 (fun h => ?_)
          exact J50 _ ls _ _ h (lv_sub hl [0, 1, 2, 3, 4] rfl) M
        · refine lv_aload_n S.1 S.2.1 d_Mo_spread_35 rfl (lv_at hl 2 rfl) ?_
          refine m_gs (t := 2) S M (j := 4) ok_Mo (by decide) rfl (by decide) rfl kw_399 rfl d_Mo_spread_36 ?_
          refine lv_iload_n S.1 S.2.1 d_Mo_spread_39 rfl (lv_at hl 1 rfl) ?_
          refine m_ial (t0 := 0) S M (by decide) rfl rfl h d_Mo_spread_40 (fun h => ?_)
          refine lv_goto (tgt := 50) S.1 S.2.1 d_Mo_spread_41 (by decide) ?_
          exact J50 _ ls _ _ h (lv_sub hl [0, 1, 2, 3, 4] rfl) M
      refine m_ifne (tgt := 23) S d_Mo_spread_11 (by decide) h (fun h => ?_) (fun h => ?_)
      · refine lv_aload_n S.1 S.2.1 d_Mo_spread_23 rfl (lv_at hl 1 rfl) ?_
        refine m_gs (t := 2) S M (j := 4) ok_Mo (by decide) rfl (by decide) rfl kw_399 rfl d_Mo_spread_24 ?_
        refine lv_iload_n S.1 S.2.1 d_Mo_spread_27 rfl (lv_at hl 0 rfl) ?_
        refine m_ial (t0 := 0) S M (by decide) rfl rfl h d_Mo_spread_28 (fun h => ?_)
        exact J29 _ ls _ _ h (lv_sub hl [0, 1, 2, 3] rfl) M
      · refine lv_aload_n S.1 S.2.1 d_Mo_spread_14 rfl (lv_at hl 1 rfl) ?_
        refine m_gs (t := 1) S M (j := 3) ok_Mo (by decide) rfl (by decide) rfl kw_398 rfl d_Mo_spread_15 ?_
        refine lv_iload_n S.1 S.2.1 d_Mo_spread_18 rfl (lv_at hl 0 rfl) ?_
        refine m_ial (t0 := 0) S M (by decide) rfl rfl h d_Mo_spread_19 (fun h => ?_)
        refine lv_goto (tgt := 29) S.1 S.2.1 d_Mo_spread_20 (by decide) ?_
        exact J29 _ ls _ _ h (lv_sub hl [0, 1, 2, 3] rfl) M
  · intro ls H locs hl M
    subst hQ; exact m_vret S hr hlk M (Option.some.inj h) d_Mo_spread_142
theorem d_Mo_search_0 : decode prog_12_method_26_code 0 = .ok (.aload_n 0, 1) := by decide +kernel
theorem d_Mo_search_1 : decode prog_12_method_26_code 1 = .ok (.iconst 0, 1) := by decide +kernel
theorem d_Mo_search_2 : decode prog_12_method_26_code 2 = .ok (.iload_n 1, 1) := by decide +kernel
theorem d_Mo_search_3 : decode prog_12_method_26_code 3 = .ok (.invokevirtual 114, 3) := by decide +kernel
theorem d_Mo_search_6 : decode prog_12_method_26_code 6 = .ok (.iconst 0, 1) := by decide +kernel
theorem d_Mo_search_7 : decode prog_12_method_26_code 7 = .ok (.istore_n 3, 1) := by decide +kernel
theorem d_Mo_search_8 : decode prog_12_method_26_code 8 = .ok (.aload_n 0, 1) := by decide +kernel
theorem d_Mo_search_9 : decode prog_12_method_26_code 9 = .ok (.iconst 0, 1) := by decide +kernel
theorem d_Mo_search_10 : decode prog_12_method_26_code 10 = .ok (.iconst 1, 1) := by decide +kernel
theorem d_Mo_search_11 : decode prog_12_method_26_code 11 = .ok (.invokevirtual 118, 3) := by decide +kernel
theorem d_Mo_search_14 : decode prog_12_method_26_code 14 = .ok (.istore 4, 2) := by decide +kernel
theorem d_Mo_search_16 : decode prog_12_method_26_code 16 = .ok (.iload 4, 2) := by decide +kernel
theorem d_Mo_search_18 : decode prog_12_method_26_code 18 = .ok (.ifCond .lt 39, 3) := by decide +kernel
theorem d_Mo_search_21 : decode prog_12_method_26_code 21 = .ok (.aload_n 0, 1) := by decide +kernel
theorem d_Mo_search_22 : decode prog_12_method_26_code 22 = .ok (.iconst 0, 1) := by decide +kernel
theorem d_Mo_search_23 : decode prog_12_method_26_code 23 = .ok (.iload 4, 2) := by decide +kernel
theorem d_Mo_search_25 : decode prog_12_method_26_code 25 = .ok (.invokevirtual 122, 3) := by decide +kernel
theorem d_Mo_search_28 : decode prog_12_method_26_code 28 = .ok (.iinc 3 1, 3) := by decide +kernel
theorem d_Mo_search_31 : decode prog_12_method_26_code 31 = .ok (.iload 4, 2) := by decide +kernel
theorem d_Mo_search_33 : decode prog_12_method_26_code 33 = .ok (.iload_n 2, 1) := by decide +kernel
theorem d_Mo_search_34 : decode prog_12_method_26_code 34 = .ok (.if_icmp .ne 5, 3) := by decide +kernel
theorem d_Mo_search_37 : decode prog_12_method_26_code 37 = .ok (.iload_n 3, 1) := by decide +kernel
theorem d_Mo_search_38 : decode prog_12_method_26_code 38 = .ok (.ireturn, 1) := by decide +kernel
theorem d_Mo_search_39 : decode prog_12_method_26_code 39 = .ok (.aload_n 0, 1) := by decide +kernel
theorem d_Mo_search_40 : decode prog_12_method_26_code 40 = .ok (.iconst 0, 1) := by decide +kernel
theorem d_Mo_search_41 : decode prog_12_method_26_code 41 = .ok (.iload 4, 2) := by decide +kernel
theorem d_Mo_search_43 : decode prog_12_method_26_code 43 = .ok (.invokevirtual 125, 3) := by decide +kernel
theorem d_Mo_search_46 : decode prog_12_method_26_code 46 = .ok (.aload_n 0, 1) := by decide +kernel
theorem d_Mo_search_47 : decode prog_12_method_26_code 47 = .ok (.iconst 0, 1) := by decide +kernel
theorem d_Mo_search_48 : decode prog_12_method_26_code 48 = .ok (.iconst 1, 1) := by decide +kernel
theorem d_Mo_search_49 : decode prog_12_method_26_code 49 = .ok (.invokevirtual 118, 3) := by decide +kernel
theorem d_Mo_search_52 : decode prog_12_method_26_code 52 = .ok (.istore 4, 2) := by decide +kernel
theorem d_Mo_search_54 : decode prog_12_method_26_code 54 = .ok (.goto (-38), 3) := by decide +kernel
theorem d_Mo_search_57 : decode prog_12_method_26_code 57 = .ok (.iload_n 3, 1) := by decide +kernel
theorem d_Mo_search_58 : decode prog_12_method_26_code 58 = .ok (.ireturn, 1) := by decide +kernel
def rm_Mo_search : Room := { frames := 1, cells := 0, slots := 0, locals := 26 }
def f_Mo_search_L16 (x2 : Int32) : (Int32 × Int32 × mS) → Option ((Int32 × Int32 × mS) ⊕ ((Int32 × Int32 × mS) ⊕ (Int32 × mS))) := fun t16 =>
  if t16.2.1 < 0 then (
  some (.inr (.inl (t16.1, t16.2.1, t16.2.2)))) else (
  (f_Mo_settle t16.2.2 0 t16.2.1).bind fun σ3 =>
  if t16.2.1 = x2 then (
  some (.inr (.inr (t16.1 + 1, σ3)))) else (
  (f_Mo_spread σ3 0 t16.2.1).bind fun σ4 =>
  (f_Mo_leastOf σ4 0 1).bind fun v5 =>
  some (.inl (t16.1 + 1, v5, σ4))))
def f_Mo_search (σ : mS) (x1 : Int32) (x2 : Int32) : Option (Int32 × mS) :=
  (f_Mo_beginSearch σ 0 x1).bind fun σ1 =>
  (f_Mo_leastOf σ1 0 1).bind fun v2 =>
  (lpN (f_Mo_search_L16 x2) fuB (0, v2, σ1)).bind fun u16 => Sum.elim (fun e16 =>
  some (e16.1, e16.2.2))
  (fun y16 => some y16) u16
set_option maxHeartbeats 4000000 in
set_option maxRecDepth 100000 in
theorem c_Mo_search (l : Launch) (D : va_G) (cA ad : Nat → Nat) (σ : mS) (x1 : Int32) (x2 : Int32) (o : Int32 × mS) (h : f_Mo_search σ x1 x2 = some o) : mCi l ⟨"LeastPathsModel", "search", "(II)I"⟩ (Cond.code ⟨"LeastPathsModel", "search", "(II)I"⟩ prog_12_method_26_code 5 (Option.some Jvm.ClassFile.FieldType.int) :: tlG) rm_Mo_search D clX (tyK cA) 23 (tbY cA) ad σ [.ref (ad 0), .int x1, .int x2] o := by
  intro sz
  refine m_of (cc := prog_12_method_26_code) (maxL := 5) (Qc := mQi D clX (tyK cA) 23 (tbY cA) ad o) (by decide) (Nat.le_of_ble_eq_true rfl) (fun p e s m args below meth c ls S hr hlk hnm hl M => ?_) sz
  have hl : lv_has ls 5 [(0, .ref (ad 0)), (1, .int x1), (2, .int x2)] := hl
  generalize hQ : MQ _ _ _ _ _ _ _ = Q
  skip
  unfold f_Mo_search at h
  refine lv_aload_n S.1 S.2.1 d_Mo_search_0 rfl (lv_at hl 0 rfl) ?_
  refine lv_iconst (v := 0) S.1 S.2.1 d_Mo_search_1 (by decide) ?_
  refine lv_iload_n S.1 S.2.1 d_Mo_search_2 rfl (lv_at hl 1 rfl) ?_
  refine m_xv h (fun o ho => m_rV (As := [.int 0, .int x1]) (rest := []) S M hl.1 (cwG (n := 2) S.2.2.2.2 kw_425 kw_426 kw_427 kw_391 kw_428 (by decide) ⟨Nat.le_of_ble_eq_true rfl, Nat.le_of_ble_eq_true rfl⟩) ok_Mo (by decide) rfl (c_Mo_beginSearch l D cA ad σ 0 x1 o ho _) rfl rfl (Nat.le_of_ble_eq_true rfl) d_Mo_search_3 ⟨Nat.zero_le _, Nat.zero_le _⟩) M (fun σ1 H locs h M => ?_)
  refine lv_iconst (v := 0) S.1 S.2.1 d_Mo_search_6 (by decide) ?_
  refine lv_istore_n (lv' := [(3, .int 0), (0, .ref (ad 0)), (1, .int x1), (2, .int x2)]) S.1 S.2.1 d_Mo_search_7 rfl hl (by decide) rfl (fun ls hl => ?_)
  refine lv_aload_n S.1 S.2.1 d_Mo_search_8 rfl (lv_at hl 1 rfl) ?_
  refine lv_iconst (v := 0) S.1 S.2.1 d_Mo_search_9 (by decide) ?_
  refine lv_iconst (v := 1) S.1 S.2.1 d_Mo_search_10 (by decide) ?_
  refine m_xip h (fun o ho => m_rV (As := [.int 0, .int 1]) (rest := []) S M hl.1 (cwG (n := 2) S.2.2.2.2 kw_429 kw_430 kw_431 kw_391 kw_432 (by decide) ⟨Nat.le_of_ble_eq_true rfl, Nat.le_of_ble_eq_true rfl⟩) ok_Mo (by decide) rfl (c_Mo_leastOf l D cA ad σ1 0 1 o ho _) rfl rfl (Nat.le_of_ble_eq_true rfl) d_Mo_search_11 ⟨Nat.zero_le _, Nat.zero_le _⟩) M (fun v2 H locs h M => ?_)
  refine lv_istore (lv' := [(4, .int v2), (3, .int 0), (0, .ref (ad 0)), (1, .int x1), (2, .int x2)]) S.1 S.2.1 d_Mo_search_14 hl (by decide) rfl (fun ls hl => ?_)
  obtain ⟨u16, q16, h⟩ := Option.bind_eq_some_iff.mp h
  refine lpN_W2 (st := f_Mo_search_L16 x2) (fun (t16 : Int32 × Int32 × mS) => ∀ (ls : Array Slot) (H : Heap) (locs : List Loc), lv_has ls 5 [(4, .int t16.2.1), (3, .int t16.1), (0, .ref (ad 0)), (1, .int x1), (2, .int x2)] → mM D clX (tyK cA) (mA 23 ad s.heap.size) s 23 (tbY cA) ad t16.2.2 H locs → W p l e rm_Mo_search s m args below meth c H locs 0 0 Q (F0 m 16 ls [])) (fun (e16 : Int32 × Int32 × mS) => ∀ (ls : Array Slot) (H : Heap) (locs : List Loc), lv_has ls 5 [(4, .int e16.2.1), (3, .int e16.1), (0, .ref (ad 0)), (1, .int x1), (2, .int x2)] → mM D clX (tyK cA) (mA 23 ad s.heap.size) s 23 (tbY cA) ad e16.2.2 H locs → W p l e rm_Mo_search s m args below meth c H locs 0 0 Q (F0 m 57 ls [])) (fun (y16 : Int32 × mS) => ∀ (pc : Nat) (ls : Array Slot) (H : Heap) (locs : List Loc), decode prog_12_method_26_code pc = .ok (.ireturn, 1) → mM D clX (tyK cA) (mA 23 ad s.heap.size) s 23 (tbY cA) ad y16.2 H locs → W p l e rm_Mo_search s m args below meth c H locs 0 0 Q (F0 m pc ls [.int y16.1])) ?_ fuB ((0, v2, σ1) : Int32 × Int32 × mS) u16 q16 ?_ ?_ ls _ _ (lv_sub hl [0, 1, 2, 3, 4] rfl) M
  · intro t16 oo16 h K1 K2 K3 ls H locs hl M
    unfold f_Mo_search_L16 at h
    refine lv_iload S.1 S.2.1 d_Mo_search_16 (lv_at hl 0 rfl) ?_
    refine m_iflt (tgt := 57) S d_Mo_search_18 (by decide) h (fun h => ?_) (fun h => ?_)
    · exact K2 _ (Option.some.inj h).symm ls _ _ (lv_sub hl [0, 1, 2, 3, 4] rfl) M
    · refine lv_aload_n S.1 S.2.1 d_Mo_search_21 rfl (lv_at hl 2 rfl) ?_
      refine lv_iconst (v := 0) S.1 S.2.1 d_Mo_search_22 (by decide) ?_
      refine lv_iload S.1 S.2.1 d_Mo_search_23 (lv_at hl 0 rfl) ?_
      refine m_xv h (fun o ho => m_rV (As := [.int 0, .int t16.2.1]) (rest := []) S M hl.1 (cwG (n := 2) S.2.2.2.2 kw_433 kw_434 kw_435 kw_391 kw_436 (by decide) ⟨Nat.le_of_ble_eq_true rfl, Nat.le_of_ble_eq_true rfl⟩) ok_Mo (by decide) rfl (c_Mo_settle l D cA ad t16.2.2 0 t16.2.1 o ho _) rfl rfl (Nat.le_of_ble_eq_true rfl) d_Mo_search_25 ⟨Nat.zero_le _, Nat.zero_le _⟩) M (fun σ3 H locs h M => ?_)
      refine lv_iinc (v := t16.1 + 1) (lv' := [(3, .int (t16.1 + 1)), (4, .int t16.2.1), (0, .ref (ad 0)), (1, .int x1), (2, .int x2)]) S.1 S.2.1 d_Mo_search_28 hl (k := 1) rfl rfl (by decide) rfl (fun ls hl => ?_)
      refine lv_iload S.1 S.2.1 d_Mo_search_31 (lv_at hl 1 rfl) ?_
      refine lv_iload_n S.1 S.2.1 d_Mo_search_33 rfl (lv_at hl 4 rfl) ?_
      refine m_ine (tgt := 39) S d_Mo_search_34 (by decide) h (fun h => ?_) (fun h => ?_)
      · refine lv_aload_n S.1 S.2.1 d_Mo_search_39 rfl (lv_at hl 2 rfl) ?_
        refine lv_iconst (v := 0) S.1 S.2.1 d_Mo_search_40 (by decide) ?_
        refine lv_iload S.1 S.2.1 d_Mo_search_41 (lv_at hl 1 rfl) ?_
        refine m_xv h (fun o ho => m_rV (As := [.int 0, .int t16.2.1]) (rest := []) S M hl.1 (cwG (n := 2) S.2.2.2.2 kw_437 kw_438 kw_439 kw_391 kw_440 (by decide) ⟨Nat.le_of_ble_eq_true rfl, Nat.le_of_ble_eq_true rfl⟩) ok_Mo (by decide) rfl (c_Mo_spread l D cA ad σ3 0 t16.2.1 o ho _) rfl rfl (Nat.le_of_ble_eq_true rfl) d_Mo_search_43 ⟨Nat.zero_le _, Nat.zero_le _⟩) M (fun σ4 H locs h M => ?_)
        refine lv_aload_n S.1 S.2.1 d_Mo_search_46 rfl (lv_at hl 2 rfl) ?_
        refine lv_iconst (v := 0) S.1 S.2.1 d_Mo_search_47 (by decide) ?_
        refine lv_iconst (v := 1) S.1 S.2.1 d_Mo_search_48 (by decide) ?_
        refine m_xip h (fun o ho => m_rV (As := [.int 0, .int 1]) (rest := []) S M hl.1 (cwG (n := 2) S.2.2.2.2 kw_429 kw_430 kw_431 kw_391 kw_432 (by decide) ⟨Nat.le_of_ble_eq_true rfl, Nat.le_of_ble_eq_true rfl⟩) ok_Mo (by decide) rfl (c_Mo_leastOf l D cA ad σ4 0 1 o ho _) rfl rfl (Nat.le_of_ble_eq_true rfl) d_Mo_search_49 ⟨Nat.zero_le _, Nat.zero_le _⟩) M (fun v5 H locs h M => ?_)
        refine lv_istore (lv' := [(4, .int v5), (3, .int (t16.1 + 1)), (0, .ref (ad 0)), (1, .int x1), (2, .int x2)]) S.1 S.2.1 d_Mo_search_52 hl (by decide) rfl (fun ls hl => ?_)
        refine lv_goto (tgt := 16) S.1 S.2.1 d_Mo_search_54 (by decide) ?_
        exact K1 _ (Option.some.inj h).symm ls _ _ (lv_sub hl [0, 1, 2, 3, 4] rfl) M
      · refine lv_iload_n S.1 S.2.1 d_Mo_search_37 rfl (lv_at hl 0 rfl) ?_
        exact K3 _ (Option.some.inj h).symm _ ls _ _ d_Mo_search_38 M
  · intro e16 q ls H locs hl M
    subst q
    dsimp only [Sum.elim_inl] at h
    refine lv_iload_n S.1 S.2.1 d_Mo_search_57 rfl (lv_at hl 1 rfl) ?_
    subst hQ; exact m_iret S hr hlk M (Option.some.inj h) d_Mo_search_58
  · intro y16 q
    subst q
    dsimp only [Sum.elim_inr] at h
    intro pc ls H locs hd M
    subst hQ; exact m_iret S hr hlk M (Option.some.inj h) hd
theorem d_Mo_good_0 : decode prog_12_method_27_code 0 = .ok (.aload_n 0, 1) := by decide +kernel
theorem d_Mo_good_1 : decode prog_12_method_27_code 1 = .ok (.iload_n 1, 1) := by decide +kernel
theorem d_Mo_good_2 : decode prog_12_method_27_code 2 = .ok (.invokevirtual 94, 3) := by decide +kernel
theorem d_Mo_good_5 : decode prog_12_method_27_code 5 = .ok (.ifCond .ne 5, 3) := by decide +kernel
theorem d_Mo_good_8 : decode prog_12_method_27_code 8 = .ok (.iconst (-1), 1) := by decide +kernel
theorem d_Mo_good_9 : decode prog_12_method_27_code 9 = .ok (.ireturn, 1) := by decide +kernel
theorem d_Mo_good_10 : decode prog_12_method_27_code 10 = .ok (.aload_n 0, 1) := by decide +kernel
theorem d_Mo_good_11 : decode prog_12_method_27_code 11 = .ok (.getfield 32, 3) := by decide +kernel
theorem d_Mo_good_14 : decode prog_12_method_27_code 14 = .ok (.iload_n 1, 1) := by decide +kernel
theorem d_Mo_good_15 : decode prog_12_method_27_code 15 = .ok (.iaload, 1) := by decide +kernel
theorem d_Mo_good_16 : decode prog_12_method_27_code 16 = .ok (.ifCond .ne 7, 3) := by decide +kernel
theorem d_Mo_good_19 : decode prog_12_method_27_code 19 = .ok (.iconst 1, 1) := by decide +kernel
theorem d_Mo_good_20 : decode prog_12_method_27_code 20 = .ok (.goto 4, 3) := by decide +kernel
theorem d_Mo_good_23 : decode prog_12_method_27_code 23 = .ok (.iconst 0, 1) := by decide +kernel
theorem d_Mo_good_24 : decode prog_12_method_27_code 24 = .ok (.istore_n 2, 1) := by decide +kernel
theorem d_Mo_good_25 : decode prog_12_method_27_code 25 = .ok (.iconst 0, 1) := by decide +kernel
theorem d_Mo_good_26 : decode prog_12_method_27_code 26 = .ok (.istore_n 3, 1) := by decide +kernel
theorem d_Mo_good_27 : decode prog_12_method_27_code 27 = .ok (.iload_n 3, 1) := by decide +kernel
theorem d_Mo_good_28 : decode prog_12_method_27_code 28 = .ok (.aload_n 0, 1) := by decide +kernel
theorem d_Mo_good_29 : decode prog_12_method_27_code 29 = .ok (.getfield 88, 3) := by decide +kernel
theorem d_Mo_good_32 : decode prog_12_method_27_code 32 = .ok (.if_icmp .ge 60, 3) := by decide +kernel
theorem d_Mo_good_35 : decode prog_12_method_27_code 35 = .ok (.iload_n 2, 1) := by decide +kernel
theorem d_Mo_good_36 : decode prog_12_method_27_code 36 = .ok (.ifCond .eq 48, 3) := by decide +kernel
theorem d_Mo_good_39 : decode prog_12_method_27_code 39 = .ok (.aload_n 0, 1) := by decide +kernel
theorem d_Mo_good_40 : decode prog_12_method_27_code 40 = .ok (.getfield 25, 3) := by decide +kernel
theorem d_Mo_good_43 : decode prog_12_method_27_code 43 = .ok (.iload_n 3, 1) := by decide +kernel
theorem d_Mo_good_44 : decode prog_12_method_27_code 44 = .ok (.baload, 1) := by decide +kernel
theorem d_Mo_good_45 : decode prog_12_method_27_code 45 = .ok (.ifCond .eq 35, 3) := by decide +kernel
theorem d_Mo_good_48 : decode prog_12_method_27_code 48 = .ok (.aload_n 0, 1) := by decide +kernel
theorem d_Mo_good_49 : decode prog_12_method_27_code 49 = .ok (.getfield 32, 3) := by decide +kernel
theorem d_Mo_good_52 : decode prog_12_method_27_code 52 = .ok (.aload_n 0, 1) := by decide +kernel
theorem d_Mo_good_53 : decode prog_12_method_27_code 53 = .ok (.getfield 7, 3) := by decide +kernel
theorem d_Mo_good_56 : decode prog_12_method_27_code 56 = .ok (.iload_n 3, 1) := by decide +kernel
theorem d_Mo_good_57 : decode prog_12_method_27_code 57 = .ok (.iaload, 1) := by decide +kernel
theorem d_Mo_good_58 : decode prog_12_method_27_code 58 = .ok (.iaload, 1) := by decide +kernel
theorem d_Mo_good_59 : decode prog_12_method_27_code 59 = .ok (.aload_n 0, 1) := by decide +kernel
theorem d_Mo_good_60 : decode prog_12_method_27_code 60 = .ok (.getfield 16, 3) := by decide +kernel
theorem d_Mo_good_63 : decode prog_12_method_27_code 63 = .ok (.iload_n 3, 1) := by decide +kernel
theorem d_Mo_good_64 : decode prog_12_method_27_code 64 = .ok (.iaload, 1) := by decide +kernel
theorem d_Mo_good_65 : decode prog_12_method_27_code 65 = .ok (.aload_n 0, 1) := by decide +kernel
theorem d_Mo_good_66 : decode prog_12_method_27_code 66 = .ok (.getfield 32, 3) := by decide +kernel
theorem d_Mo_good_69 : decode prog_12_method_27_code 69 = .ok (.aload_n 0, 1) := by decide +kernel
theorem d_Mo_good_70 : decode prog_12_method_27_code 70 = .ok (.getfield 13, 3) := by decide +kernel
theorem d_Mo_good_73 : decode prog_12_method_27_code 73 = .ok (.iload_n 3, 1) := by decide +kernel
theorem d_Mo_good_74 : decode prog_12_method_27_code 74 = .ok (.iaload, 1) := by decide +kernel
theorem d_Mo_good_75 : decode prog_12_method_27_code 75 = .ok (.iaload, 1) := by decide +kernel
theorem d_Mo_good_76 : decode prog_12_method_27_code 76 = .ok (.iadd, 1) := by decide +kernel
theorem d_Mo_good_77 : decode prog_12_method_27_code 77 = .ok (.if_icmp .gt 7, 3) := by decide +kernel
theorem d_Mo_good_80 : decode prog_12_method_27_code 80 = .ok (.iconst 1, 1) := by decide +kernel
theorem d_Mo_good_81 : decode prog_12_method_27_code 81 = .ok (.goto 4, 3) := by decide +kernel
theorem d_Mo_good_84 : decode prog_12_method_27_code 84 = .ok (.iconst 0, 1) := by decide +kernel
theorem d_Mo_good_85 : decode prog_12_method_27_code 85 = .ok (.istore_n 2, 1) := by decide +kernel
theorem d_Mo_good_86 : decode prog_12_method_27_code 86 = .ok (.iinc 3 1, 3) := by decide +kernel
theorem d_Mo_good_89 : decode prog_12_method_27_code 89 = .ok (.goto (-62), 3) := by decide +kernel
theorem d_Mo_good_92 : decode prog_12_method_27_code 92 = .ok (.iload_n 2, 1) := by decide +kernel
theorem d_Mo_good_93 : decode prog_12_method_27_code 93 = .ok (.ifCond .eq 7, 3) := by decide +kernel
theorem d_Mo_good_96 : decode prog_12_method_27_code 96 = .ok (.iconst 1, 1) := by decide +kernel
theorem d_Mo_good_97 : decode prog_12_method_27_code 97 = .ok (.goto 4, 3) := by decide +kernel
theorem d_Mo_good_100 : decode prog_12_method_27_code 100 = .ok (.iconst 0, 1) := by decide +kernel
theorem d_Mo_good_101 : decode prog_12_method_27_code 101 = .ok (.ireturn, 1) := by decide +kernel
def rm_Mo_good : Room := { frames := 1, cells := 0, slots := 0, locals := 21 }
def f_Mo_good_L27 (σ : mS) : (Int32 × Int32) → Option ((Int32 × Int32) ⊕ (Int32 × Int32)) := fun t27 =>
  if (σ.1 0 2) ≤ t27.2 then (
  some (.inr (t27.1, t27.2))) else (
  if t27.1 = 0 then (
  some (.inl (0, t27.2 + 1))) else (
  gd (inb t27.2 40) (
  if (σ.1 6 t27.2.toNatClampNeg) = 0 then (
  some (.inl (1, t27.2 + 1))) else (
  gd (inb t27.2 40) (
  gd (inb (σ.1 1 t27.2.toNatClampNeg) 10) (
  gd (inb t27.2 40) (
  gd (inb t27.2 40) (
  gd (inb (σ.1 2 t27.2.toNatClampNeg) 10) (
  if ((σ.1 3 t27.2.toNatClampNeg) + (σ.1 8 (σ.1 2 t27.2.toNatClampNeg).toNatClampNeg)) < (σ.1 8 (σ.1 1 t27.2.toNatClampNeg).toNatClampNeg) then (
  some (.inl (0, t27.2 + 1))) else (
  some (.inl (1, t27.2 + 1))))))))))))
def f_Mo_good_J24 (σ : mS) (j2 : Int32) : Option (Int32) :=
  (lpN (f_Mo_good_L27 σ) fuB (j2, 0)).bind fun u27 =>
  if u27.1 = 0 then (
  some 0) else (
  some 1)
def f_Mo_good (σ : mS) (x1 : Int32) : Option (Int32) :=
  (f_Mo_isNode σ x1).bind fun v1 =>
  if v1 = 0 then (
  some ((-1))) else (
  gd (inb x1 10) (
  if (σ.1 8 x1.toNatClampNeg) = 0 then (
  f_Mo_good_J24 σ 1) else (
  f_Mo_good_J24 σ 0)))
set_option maxHeartbeats 4000000 in
set_option maxRecDepth 100000 in
theorem c_Mo_good (l : Launch) (D : va_G) (cA ad : Nat → Nat) (σ : mS) (x1 : Int32) (o : Int32) (h : f_Mo_good σ x1 = some o) : mCi l ⟨"LeastPathsModel", "good", "(I)I"⟩ (Cond.code ⟨"LeastPathsModel", "good", "(I)I"⟩ prog_12_method_27_code 4 (Option.some Jvm.ClassFile.FieldType.int) :: tlG) rm_Mo_good D clX (tyK cA) 23 (tbY cA) ad σ [.ref (ad 0), .int x1] (o, σ) := by
  intro sz
  refine m_of (cc := prog_12_method_27_code) (maxL := 4) (Qc := mQi D clX (tyK cA) 23 (tbY cA) ad (o, σ)) (by decide) (Nat.le_of_ble_eq_true rfl) (fun p e s m args below meth c ls S hr hlk hnm hl M => ?_) sz
  have hl : lv_has ls 4 [(0, .ref (ad 0)), (1, .int x1)] := hl
  generalize hQ : MQ _ _ _ _ _ _ _ = Q
  skip
  unfold f_Mo_good at h
  refine lv_aload_n S.1 S.2.1 d_Mo_good_0 rfl (lv_at hl 0 rfl) ?_
  refine lv_iload_n S.1 S.2.1 d_Mo_good_1 rfl (lv_at hl 1 rfl) ?_
  refine m_xip h (fun o ho => m_rV (As := [.int x1]) (rest := []) S M hl.1 (cwG (n := 1) S.2.2.2.2 kw_393 kw_394 kw_395 kw_391 kw_396 (by decide) ⟨Nat.le_of_ble_eq_true rfl, Nat.le_of_ble_eq_true rfl⟩) ok_Mo (by decide) rfl (c_Mo_isNode l D cA ad σ x1 o ho _) rfl rfl (Nat.le_of_ble_eq_true rfl) d_Mo_good_2 ⟨Nat.zero_le _, Nat.zero_le _⟩) M (fun v1 H locs h M => ?_)
  refine m_ifne (tgt := 10) S d_Mo_good_5 (by decide) h (fun h => ?_) (fun h => ?_)
  · refine lv_aload_n S.1 S.2.1 d_Mo_good_10 rfl (lv_at hl 0 rfl) ?_
    refine m_gs (t := 8) S M (j := 10) ok_Mo (by decide) rfl (by decide) rfl kw_387 rfl d_Mo_good_11 ?_
    refine lv_iload_n S.1 S.2.1 d_Mo_good_14 rfl (lv_at hl 1 rfl) ?_
    refine m_ial (t0 := 0) S M (by decide) rfl rfl h d_Mo_good_15 (fun h => ?_)
    have J24 : ∀ (j2 : Int32) (ls : Array Slot) (H : Heap) (locs : List Loc), f_Mo_good_J24 σ j2 = some o → lv_has ls 4 [(0, .ref (ad 0)), (1, .int x1)] → mM D clX (tyK cA) (mA 23 ad s.heap.size) s 23 (tbY cA) ad σ H locs → W p l e rm_Mo_good s m args below meth c H locs 0 0 Q (F0 m 24 ls [.int j2]) := by
      intro j2 ls H locs h hl M
      unfold f_Mo_good_J24 at h
      refine lv_istore_n (lv' := [(2, .int j2), (0, .ref (ad 0)), (1, .int x1)]) S.1 S.2.1 d_Mo_good_24 rfl hl (by decide) rfl (fun ls hl => ?_)
      refine lv_iconst (v := 0) S.1 S.2.1 d_Mo_good_25 (by decide) ?_
      refine lv_istore_n (lv' := [(3, .int 0), (2, .int j2), (0, .ref (ad 0)), (1, .int x1)]) S.1 S.2.1 d_Mo_good_26 rfl hl (by decide) rfl (fun ls hl => ?_)
      obtain ⟨u27, q27, h⟩ := Option.bind_eq_some_iff.mp h
      refine lpN_W1 (st := f_Mo_good_L27 σ) (fun (t27 : Int32 × Int32) => ∀ (ls : Array Slot) (H : Heap) (locs : List Loc), lv_has ls 4 [(3, .int t27.2), (2, .int t27.1), (0, .ref (ad 0)), (1, .int x1)] → mM D clX (tyK cA) (mA 23 ad s.heap.size) s 23 (tbY cA) ad σ H locs → W p l e rm_Mo_good s m args below meth c H locs 0 0 Q (F0 m 27 ls [])) (fun (u27 : Int32 × Int32) => ∀ (ls : Array Slot) (H : Heap) (locs : List Loc), lv_has ls 4 [(3, .int u27.2), (2, .int u27.1), (0, .ref (ad 0)), (1, .int x1)] → mM D clX (tyK cA) (mA 23 ad s.heap.size) s 23 (tbY cA) ad σ H locs → W p l e rm_Mo_good s m args below meth c H locs 0 0 Q (F0 m 92 ls [])) ?_ fuB ((j2, 0) : Int32 × Int32) u27 q27 ?_ ls _ _ (lv_sub hl [0, 1, 2, 3] rfl) M
      · intro t27 oo27 h K1 K2 ls H locs hl M
        unfold f_Mo_good_L27 at h
        refine lv_iload_n S.1 S.2.1 d_Mo_good_27 rfl (lv_at hl 0 rfl) ?_
        refine lv_aload_n S.1 S.2.1 d_Mo_good_28 rfl (lv_at hl 2 rfl) ?_
        refine m_gi S M (j := 2) ok_Mo (by decide) rfl (by decide) rfl kw_383 rfl d_Mo_good_29 ?_
        refine m_ige (tgt := 92) S d_Mo_good_32 (by decide) h (fun h => ?_) (fun h => ?_)
        · exact K2 _ (Option.some.inj h).symm ls _ _ (lv_sub hl [0, 1, 2, 3] rfl) M
        · refine lv_iload_n S.1 S.2.1 d_Mo_good_35 rfl (lv_at hl 1 rfl) ?_
          refine m_ifeq (tgt := 84) S d_Mo_good_36 (by decide) h (fun h => ?_) (fun h => ?_)
          · refine lv_iconst (v := 0) S.1 S.2.1 d_Mo_good_84 (by decide) ?_
            refine lv_istore_n (lv' := [(2, .int 0), (3, .int t27.2), (0, .ref (ad 0)), (1, .int x1)]) S.1 S.2.1 d_Mo_good_85 rfl hl (by decide) rfl (fun ls hl => ?_)
            refine lv_iinc (v := t27.2 + 1) (lv' := [(3, .int (t27.2 + 1)), (2, .int 0), (0, .ref (ad 0)), (1, .int x1)]) S.1 S.2.1 d_Mo_good_86 hl (k := 1) rfl rfl (by decide) rfl (fun ls hl => ?_)
            refine lv_goto (tgt := 27) S.1 S.2.1 d_Mo_good_89 (by decide) ?_
            exact K1 _ (Option.some.inj h).symm ls _ _ (lv_sub hl [0, 1, 2, 3] rfl) M
          · refine lv_aload_n S.1 S.2.1 d_Mo_good_39 rfl (lv_at hl 2 rfl) ?_
            refine m_gs (t := 6) S M (j := 8) ok_Mo (by decide) rfl (by decide) rfl kw_384 rfl d_Mo_good_40 ?_
            refine lv_iload_n S.1 S.2.1 d_Mo_good_43 rfl (lv_at hl 0 rfl) ?_
            refine m_zal (t0 := 2) S M (by decide) rfl rfl h d_Mo_good_44 (fun h => ?_)
            refine m_ifeq (tgt := 80) S d_Mo_good_45 (by decide) h (fun h => ?_) (fun h => ?_)
            · refine lv_iconst (v := 1) S.1 S.2.1 d_Mo_good_80 (by decide) ?_
              refine lv_goto (tgt := 85) S.1 S.2.1 d_Mo_good_81 (by decide) ?_
              refine lv_istore_n (lv' := [(2, .int 1), (3, .int t27.2), (0, .ref (ad 0)), (1, .int x1)]) S.1 S.2.1 d_Mo_good_85 rfl hl (by decide) rfl (fun ls hl => ?_)
              refine lv_iinc (v := t27.2 + 1) (lv' := [(3, .int (t27.2 + 1)), (2, .int 1), (0, .ref (ad 0)), (1, .int x1)]) S.1 S.2.1 d_Mo_good_86 hl (k := 1) rfl rfl (by decide) rfl (fun ls hl => ?_)
              refine lv_goto (tgt := 27) S.1 S.2.1 d_Mo_good_89 (by decide) ?_
              exact K1 _ (Option.some.inj h).symm ls _ _ (lv_sub hl [0, 1, 2, 3] rfl) M
            · refine lv_aload_n S.1 S.2.1 d_Mo_good_48 rfl (lv_at hl 2 rfl) ?_
              refine m_gs (t := 8) S M (j := 10) ok_Mo (by decide) rfl (by decide) rfl kw_387 rfl d_Mo_good_49 ?_
              refine lv_aload_n S.1 S.2.1 d_Mo_good_52 rfl (lv_at hl 2 rfl) ?_
              refine m_gs (t := 1) S M (j := 3) ok_Mo (by decide) rfl (by decide) rfl kw_398 rfl d_Mo_good_53 ?_
              refine lv_iload_n S.1 S.2.1 d_Mo_good_56 rfl (lv_at hl 0 rfl) ?_
              refine m_ial (t0 := 0) S M (by decide) rfl rfl h d_Mo_good_57 (fun h => ?_)
              refine m_ial (t0 := 0) S M (by decide) rfl rfl h d_Mo_good_58 (fun h => ?_)
              refine lv_aload_n S.1 S.2.1 d_Mo_good_59 rfl (lv_at hl 2 rfl) ?_
              refine m_gs (t := 3) S M (j := 5) ok_Mo (by decide) rfl (by decide) rfl kw_400 rfl d_Mo_good_60 ?_
              refine lv_iload_n S.1 S.2.1 d_Mo_good_63 rfl (lv_at hl 0 rfl) ?_
              refine m_ial (t0 := 0) S M (by decide) rfl rfl h d_Mo_good_64 (fun h => ?_)
              refine lv_aload_n S.1 S.2.1 d_Mo_good_65 rfl (lv_at hl 2 rfl) ?_
              refine m_gs (t := 8) S M (j := 10) ok_Mo (by decide) rfl (by decide) rfl kw_387 rfl d_Mo_good_66 ?_
              refine lv_aload_n S.1 S.2.1 d_Mo_good_69 rfl (lv_at hl 2 rfl) ?_
              refine m_gs (t := 2) S M (j := 4) ok_Mo (by decide) rfl (by decide) rfl kw_399 rfl d_Mo_good_70 ?_
              refine lv_iload_n S.1 S.2.1 d_Mo_good_73 rfl (lv_at hl 0 rfl) ?_
              refine m_ial (t0 := 0) S M (by decide) rfl rfl h d_Mo_good_74 (fun h => ?_)
              refine m_ial (t0 := 0) S M (by decide) rfl rfl h d_Mo_good_75 (fun h => ?_)
              refine lv_iadd S.1 S.2.1 d_Mo_good_76 ?_
              refine m_igt (tgt := 84) S d_Mo_good_77 (by decide) h (fun h => ?_) (fun h => ?_)
              · refine lv_iconst (v := 0) S.1 S.2.1 d_Mo_good_84 (by decide) ?_
                refine lv_istore_n (lv' := [(2, .int 0), (3, .int t27.2), (0, .ref (ad 0)), (1, .int x1)]) S.1 S.2.1 d_Mo_good_85 rfl hl (by decide) rfl (fun ls hl => ?_)
                refine lv_iinc (v := t27.2 + 1) (lv' := [(3, .int (t27.2 + 1)), (2, .int 0), (0, .ref (ad 0)), (1, .int x1)]) S.1 S.2.1 d_Mo_good_86 hl (k := 1) rfl rfl (by decide) rfl (fun ls hl => ?_)
                refine lv_goto (tgt := 27) S.1 S.2.1 d_Mo_good_89 (by decide) ?_
                exact K1 _ (Option.some.inj h).symm ls _ _ (lv_sub hl [0, 1, 2, 3] rfl) M
              · refine lv_iconst (v := 1) S.1 S.2.1 d_Mo_good_80 (by decide) ?_
                refine lv_goto (tgt := 85) S.1 S.2.1 d_Mo_good_81 (by decide) ?_
                refine lv_istore_n (lv' := [(2, .int 1), (3, .int t27.2), (0, .ref (ad 0)), (1, .int x1)]) S.1 S.2.1 d_Mo_good_85 rfl hl (by decide) rfl (fun ls hl => ?_)
                refine lv_iinc (v := t27.2 + 1) (lv' := [(3, .int (t27.2 + 1)), (2, .int 1), (0, .ref (ad 0)), (1, .int x1)]) S.1 S.2.1 d_Mo_good_86 hl (k := 1) rfl rfl (by decide) rfl (fun ls hl => ?_)
                refine lv_goto (tgt := 27) S.1 S.2.1 d_Mo_good_89 (by decide) ?_
                exact K1 _ (Option.some.inj h).symm ls _ _ (lv_sub hl [0, 1, 2, 3] rfl) M
      · intro ls H locs hl M
        refine lv_iload_n S.1 S.2.1 d_Mo_good_92 rfl (lv_at hl 1 rfl) ?_
        refine m_ifeq (tgt := 100) S d_Mo_good_93 (by decide) h (fun h => ?_) (fun h => ?_)
        · refine lv_iconst (v := 0) S.1 S.2.1 d_Mo_good_100 (by decide) ?_
          subst hQ; exact m_iret S hr hlk M (by rw [Option.some.inj h]) d_Mo_good_101
        · refine lv_iconst (v := 1) S.1 S.2.1 d_Mo_good_96 (by decide) ?_
          refine lv_goto (tgt := 101) S.1 S.2.1 d_Mo_good_97 (by decide) ?_
          subst hQ; exact m_iret S hr hlk M (by rw [Option.some.inj h]) d_Mo_good_101
    refine m_ifne (tgt := 23) S d_Mo_good_16 (by decide) h (fun h => ?_) (fun h => ?_)
    · refine lv_iconst (v := 0) S.1 S.2.1 d_Mo_good_23 (by decide) ?_
      exact J24 _ ls _ _ h (lv_sub hl [0, 1] rfl) M
    · refine lv_iconst (v := 1) S.1 S.2.1 d_Mo_good_19 (by decide) ?_
      refine lv_goto (tgt := 24) S.1 S.2.1 d_Mo_good_20 (by decide) ?_
      exact J24 _ ls _ _ h (lv_sub hl [0, 1] rfl) M
  · refine lv_iconst (v := (-1)) S.1 S.2.1 d_Mo_good_8 (by decide) ?_
    subst hQ; exact m_iret S hr hlk M (by rw [Option.some.inj h]) d_Mo_good_9
