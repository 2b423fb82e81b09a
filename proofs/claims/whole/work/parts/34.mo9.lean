theorem d_Mo_isBetterRing_0 : decode prog_12_method_45_code 0 = .ok (.aload_n 0, 1) := by decide +kernel
theorem d_Mo_isBetterRing_1 : decode prog_12_method_45_code 1 = .ok (.getfield 142, 3) := by decide +kernel
theorem d_Mo_isBetterRing_4 : decode prog_12_method_45_code 4 = .ok (.aload_n 0, 1) := by decide +kernel
theorem d_Mo_isBetterRing_5 : decode prog_12_method_45_code 5 = .ok (.getfield 16, 3) := by decide +kernel
theorem d_Mo_isBetterRing_8 : decode prog_12_method_45_code 8 = .ok (.iload_n 1, 1) := by decide +kernel
theorem d_Mo_isBetterRing_9 : decode prog_12_method_45_code 9 = .ok (.iaload, 1) := by decide +kernel
theorem d_Mo_isBetterRing_10 : decode prog_12_method_45_code 10 = .ok (.iadd, 1) := by decide +kernel
theorem d_Mo_isBetterRing_11 : decode prog_12_method_45_code 11 = .ok (.istore_n 2, 1) := by decide +kernel
theorem d_Mo_isBetterRing_12 : decode prog_12_method_45_code 12 = .ok (.aload_n 0, 1) := by decide +kernel
theorem d_Mo_isBetterRing_13 : decode prog_12_method_45_code 13 = .ok (.getfield 181, 3) := by decide +kernel
theorem d_Mo_isBetterRing_16 : decode prog_12_method_45_code 16 = .ok (.ifCond .eq 11, 3) := by decide +kernel
theorem d_Mo_isBetterRing_19 : decode prog_12_method_45_code 19 = .ok (.iload_n 2, 1) := by decide +kernel
theorem d_Mo_isBetterRing_20 : decode prog_12_method_45_code 20 = .ok (.aload_n 0, 1) := by decide +kernel
theorem d_Mo_isBetterRing_21 : decode prog_12_method_45_code 21 = .ok (.getfield 184, 3) := by decide +kernel
theorem d_Mo_isBetterRing_24 : decode prog_12_method_45_code 24 = .ok (.if_icmp .eq 24, 3) := by decide +kernel
theorem d_Mo_isBetterRing_27 : decode prog_12_method_45_code 27 = .ok (.aload_n 0, 1) := by decide +kernel
theorem d_Mo_isBetterRing_28 : decode prog_12_method_45_code 28 = .ok (.getfield 181, 3) := by decide +kernel
theorem d_Mo_isBetterRing_31 : decode prog_12_method_45_code 31 = .ok (.ifCond .eq 11, 3) := by decide +kernel
theorem d_Mo_isBetterRing_34 : decode prog_12_method_45_code 34 = .ok (.iload_n 2, 1) := by decide +kernel
theorem d_Mo_isBetterRing_35 : decode prog_12_method_45_code 35 = .ok (.aload_n 0, 1) := by decide +kernel
theorem d_Mo_isBetterRing_36 : decode prog_12_method_45_code 36 = .ok (.getfield 184, 3) := by decide +kernel
theorem d_Mo_isBetterRing_39 : decode prog_12_method_45_code 39 = .ok (.if_icmp .ge 7, 3) := by decide +kernel
theorem d_Mo_isBetterRing_42 : decode prog_12_method_45_code 42 = .ok (.iconst 1, 1) := by decide +kernel
theorem d_Mo_isBetterRing_43 : decode prog_12_method_45_code 43 = .ok (.goto 4, 3) := by decide +kernel
theorem d_Mo_isBetterRing_46 : decode prog_12_method_45_code 46 = .ok (.iconst 0, 1) := by decide +kernel
theorem d_Mo_isBetterRing_47 : decode prog_12_method_45_code 47 = .ok (.ireturn, 1) := by decide +kernel
theorem d_Mo_isBetterRing_48 : decode prog_12_method_45_code 48 = .ok (.aload_n 0, 1) := by decide +kernel
theorem d_Mo_isBetterRing_49 : decode prog_12_method_45_code 49 = .ok (.getfield 139, 3) := by decide +kernel
theorem d_Mo_isBetterRing_52 : decode prog_12_method_45_code 52 = .ok (.iconst 1, 1) := by decide +kernel
theorem d_Mo_isBetterRing_53 : decode prog_12_method_45_code 53 = .ok (.iadd, 1) := by decide +kernel
theorem d_Mo_isBetterRing_54 : decode prog_12_method_45_code 54 = .ok (.aload_n 0, 1) := by decide +kernel
theorem d_Mo_isBetterRing_55 : decode prog_12_method_45_code 55 = .ok (.getfield 181, 3) := by decide +kernel
theorem d_Mo_isBetterRing_58 : decode prog_12_method_45_code 58 = .ok (.if_icmp .eq 22, 3) := by decide +kernel
theorem d_Mo_isBetterRing_61 : decode prog_12_method_45_code 61 = .ok (.aload_n 0, 1) := by decide +kernel
theorem d_Mo_isBetterRing_62 : decode prog_12_method_45_code 62 = .ok (.getfield 139, 3) := by decide +kernel
theorem d_Mo_isBetterRing_65 : decode prog_12_method_45_code 65 = .ok (.iconst 1, 1) := by decide +kernel
theorem d_Mo_isBetterRing_66 : decode prog_12_method_45_code 66 = .ok (.iadd, 1) := by decide +kernel
theorem d_Mo_isBetterRing_67 : decode prog_12_method_45_code 67 = .ok (.aload_n 0, 1) := by decide +kernel
theorem d_Mo_isBetterRing_68 : decode prog_12_method_45_code 68 = .ok (.getfield 181, 3) := by decide +kernel
theorem d_Mo_isBetterRing_71 : decode prog_12_method_45_code 71 = .ok (.if_icmp .ge 7, 3) := by decide +kernel
theorem d_Mo_isBetterRing_74 : decode prog_12_method_45_code 74 = .ok (.iconst 1, 1) := by decide +kernel
theorem d_Mo_isBetterRing_75 : decode prog_12_method_45_code 75 = .ok (.goto 4, 3) := by decide +kernel
theorem d_Mo_isBetterRing_78 : decode prog_12_method_45_code 78 = .ok (.iconst 0, 1) := by decide +kernel
theorem d_Mo_isBetterRing_79 : decode prog_12_method_45_code 79 = .ok (.ireturn, 1) := by decide +kernel
theorem d_Mo_isBetterRing_80 : decode prog_12_method_45_code 80 = .ok (.iload_n 1, 1) := by decide +kernel
theorem d_Mo_isBetterRing_81 : decode prog_12_method_45_code 81 = .ok (.aload_n 0, 1) := by decide +kernel
theorem d_Mo_isBetterRing_82 : decode prog_12_method_45_code 82 = .ok (.getfield 79, 3) := by decide +kernel
theorem d_Mo_isBetterRing_85 : decode prog_12_method_45_code 85 = .ok (.iconst 0, 1) := by decide +kernel
theorem d_Mo_isBetterRing_86 : decode prog_12_method_45_code 86 = .ok (.iaload, 1) := by decide +kernel
theorem d_Mo_isBetterRing_87 : decode prog_12_method_45_code 87 = .ok (.if_icmp .eq 19, 3) := by decide +kernel
theorem d_Mo_isBetterRing_90 : decode prog_12_method_45_code 90 = .ok (.iload_n 1, 1) := by decide +kernel
theorem d_Mo_isBetterRing_91 : decode prog_12_method_45_code 91 = .ok (.aload_n 0, 1) := by decide +kernel
theorem d_Mo_isBetterRing_92 : decode prog_12_method_45_code 92 = .ok (.getfield 79, 3) := by decide +kernel
theorem d_Mo_isBetterRing_95 : decode prog_12_method_45_code 95 = .ok (.iconst 0, 1) := by decide +kernel
theorem d_Mo_isBetterRing_96 : decode prog_12_method_45_code 96 = .ok (.iaload, 1) := by decide +kernel
theorem d_Mo_isBetterRing_97 : decode prog_12_method_45_code 97 = .ok (.if_icmp .ge 7, 3) := by decide +kernel
theorem d_Mo_isBetterRing_100 : decode prog_12_method_45_code 100 = .ok (.iconst 1, 1) := by decide +kernel
theorem d_Mo_isBetterRing_101 : decode prog_12_method_45_code 101 = .ok (.goto 4, 3) := by decide +kernel
theorem d_Mo_isBetterRing_104 : decode prog_12_method_45_code 104 = .ok (.iconst 0, 1) := by decide +kernel
theorem d_Mo_isBetterRing_105 : decode prog_12_method_45_code 105 = .ok (.ireturn, 1) := by decide +kernel
theorem d_Mo_isBetterRing_106 : decode prog_12_method_45_code 106 = .ok (.iconst 0, 1) := by decide +kernel
theorem d_Mo_isBetterRing_107 : decode prog_12_method_45_code 107 = .ok (.istore_n 3, 1) := by decide +kernel
theorem d_Mo_isBetterRing_108 : decode prog_12_method_45_code 108 = .ok (.iload_n 3, 1) := by decide +kernel
theorem d_Mo_isBetterRing_109 : decode prog_12_method_45_code 109 = .ok (.aload_n 0, 1) := by decide +kernel
theorem d_Mo_isBetterRing_110 : decode prog_12_method_45_code 110 = .ok (.getfield 139, 3) := by decide +kernel
theorem d_Mo_isBetterRing_113 : decode prog_12_method_45_code 113 = .ok (.if_icmp .ge 49, 3) := by decide +kernel
theorem d_Mo_isBetterRing_116 : decode prog_12_method_45_code 116 = .ok (.aload_n 0, 1) := by decide +kernel
theorem d_Mo_isBetterRing_117 : decode prog_12_method_45_code 117 = .ok (.getfield 50, 3) := by decide +kernel
theorem d_Mo_isBetterRing_120 : decode prog_12_method_45_code 120 = .ok (.iload_n 3, 1) := by decide +kernel
theorem d_Mo_isBetterRing_121 : decode prog_12_method_45_code 121 = .ok (.iaload, 1) := by decide +kernel
theorem d_Mo_isBetterRing_122 : decode prog_12_method_45_code 122 = .ok (.aload_n 0, 1) := by decide +kernel
theorem d_Mo_isBetterRing_123 : decode prog_12_method_45_code 123 = .ok (.getfield 79, 3) := by decide +kernel
theorem d_Mo_isBetterRing_126 : decode prog_12_method_45_code 126 = .ok (.iload_n 3, 1) := by decide +kernel
theorem d_Mo_isBetterRing_127 : decode prog_12_method_45_code 127 = .ok (.iconst 1, 1) := by decide +kernel
theorem d_Mo_isBetterRing_128 : decode prog_12_method_45_code 128 = .ok (.iadd, 1) := by decide +kernel
theorem d_Mo_isBetterRing_129 : decode prog_12_method_45_code 129 = .ok (.iaload, 1) := by decide +kernel
theorem d_Mo_isBetterRing_130 : decode prog_12_method_45_code 130 = .ok (.if_icmp .eq 26, 3) := by decide +kernel
theorem d_Mo_isBetterRing_133 : decode prog_12_method_45_code 133 = .ok (.aload_n 0, 1) := by decide +kernel
theorem d_Mo_isBetterRing_134 : decode prog_12_method_45_code 134 = .ok (.getfield 50, 3) := by decide +kernel
theorem d_Mo_isBetterRing_137 : decode prog_12_method_45_code 137 = .ok (.iload_n 3, 1) := by decide +kernel
theorem d_Mo_isBetterRing_138 : decode prog_12_method_45_code 138 = .ok (.iaload, 1) := by decide +kernel
theorem d_Mo_isBetterRing_139 : decode prog_12_method_45_code 139 = .ok (.aload_n 0, 1) := by decide +kernel
theorem d_Mo_isBetterRing_140 : decode prog_12_method_45_code 140 = .ok (.getfield 79, 3) := by decide +kernel
theorem d_Mo_isBetterRing_143 : decode prog_12_method_45_code 143 = .ok (.iload_n 3, 1) := by decide +kernel
theorem d_Mo_isBetterRing_144 : decode prog_12_method_45_code 144 = .ok (.iconst 1, 1) := by decide +kernel
theorem d_Mo_isBetterRing_145 : decode prog_12_method_45_code 145 = .ok (.iadd, 1) := by decide +kernel
theorem d_Mo_isBetterRing_146 : decode prog_12_method_45_code 146 = .ok (.iaload, 1) := by decide +kernel
theorem d_Mo_isBetterRing_147 : decode prog_12_method_45_code 147 = .ok (.if_icmp .ge 7, 3) := by decide +kernel
theorem d_Mo_isBetterRing_150 : decode prog_12_method_45_code 150 = .ok (.iconst 1, 1) := by decide +kernel
theorem d_Mo_isBetterRing_151 : decode prog_12_method_45_code 151 = .ok (.goto 4, 3) := by decide +kernel
theorem d_Mo_isBetterRing_154 : decode prog_12_method_45_code 154 = .ok (.iconst 0, 1) := by decide +kernel
theorem d_Mo_isBetterRing_155 : decode prog_12_method_45_code 155 = .ok (.ireturn, 1) := by decide +kernel
theorem d_Mo_isBetterRing_156 : decode prog_12_method_45_code 156 = .ok (.iinc 3 1, 3) := by decide +kernel
theorem d_Mo_isBetterRing_159 : decode prog_12_method_45_code 159 = .ok (.goto (-51), 3) := by decide +kernel
theorem d_Mo_isBetterRing_162 : decode prog_12_method_45_code 162 = .ok (.iconst 0, 1) := by decide +kernel
theorem d_Mo_isBetterRing_163 : decode prog_12_method_45_code 163 = .ok (.ireturn, 1) := by decide +kernel
def rm_Mo_isBetterRing : Room := { frames := 0, cells := 0, slots := 0, locals := 0 }
def f_Mo_isBetterRing_L108 (σ : mS) : (Int32) → Option ((Int32) ⊕ ((Int32) ⊕ (Int32))) := fun t108 =>
  if (σ.1 0 19) ≤ t108 then (
  some (.inr (.inr 0))) else (
  gd (inb t108 12) (
  gd (inb (t108 + 1) 12) (
  if (σ.1 14 t108.toNatClampNeg) = (σ.1 22 (t108 + 1).toNatClampNeg) then (
  some (.inl (t108 + 1))) else (
  some (.inr (.inl (t108)))))))
def f_Mo_isBetterRing (σ : mS) (x1 : Int32) : Option (Int32) :=
  gd (inb x1 40) (
  nm ((σ.1 0 20) + (σ.1 3 x1.toNatClampNeg)) fun v1 =>
  if (σ.1 0 30) = 0 then (
  if (σ.1 0 30) = 0 then (
  some 1) else (
  if (σ.1 0 29) ≤ v1 then (
  some 0) else (
  some 1))) else (
  if v1 = (σ.1 0 29) then (
  if ((σ.1 0 19) + 1) = (σ.1 0 30) then (
  gd (inb 0 12) (
  if x1 = (σ.1 22 (0 : Int32).toNatClampNeg) then (
  (lpN (f_Mo_isBetterRing_L108 σ) fuB (0)).bind fun u108 => Sum.elim (fun e108 =>
  gd (inb e108 12) (
  gd (inb (e108 + 1) 12) (
  if (σ.1 22 (e108 + 1).toNatClampNeg) ≤ (σ.1 14 e108.toNatClampNeg) then (
  some 0) else (
  some 1))))
  (fun y108 => some y108) u108) else (
  gd (inb 0 12) (
  if (σ.1 22 (0 : Int32).toNatClampNeg) ≤ x1 then (
  some 0) else (
  some 1))))) else (
  if (σ.1 0 30) ≤ ((σ.1 0 19) + 1) then (
  some 0) else (
  some 1))) else (
  if (σ.1 0 30) = 0 then (
  some 1) else (
  if (σ.1 0 29) ≤ v1 then (
  some 0) else (
  some 1)))))
set_option maxHeartbeats 4000000 in
set_option maxRecDepth 100000 in
theorem c_Mo_isBetterRing (l : Launch) (D : va_G) (cA ad : Nat → Nat) (σ : mS) (x1 : Int32) (o : Int32) (h : f_Mo_isBetterRing σ x1 = some o) : mCi l ⟨"LeastPathsModel", "isBetterRing", "(I)Z"⟩ (Cond.code ⟨"LeastPathsModel", "isBetterRing", "(I)Z"⟩ prog_12_method_45_code 4 (Option.some Jvm.ClassFile.FieldType.boolean) :: tlG) rm_Mo_isBetterRing D clX (tyK cA) 23 (tbY cA) ad σ [.ref (ad 0), .int x1] (o, σ) := by
  intro sz
  refine m_of (cc := prog_12_method_45_code) (maxL := 4) (Qc := mQi D clX (tyK cA) 23 (tbY cA) ad (o, σ)) (by decide) (Nat.le_of_ble_eq_true rfl) (fun p e s m args below meth c ls S hr hlk hnm hl M => ?_) sz
  have hl : lv_has ls 4 [(0, .ref (ad 0)), (1, .int x1)] := hl
  generalize hQ : MQ _ _ _ _ _ _ _ = Q
  skip
  unfold f_Mo_isBetterRing at h
  refine lv_aload_n S.1 S.2.1 d_Mo_isBetterRing_0 rfl (lv_at hl 0 rfl) ?_
  refine m_gi S M (j := 20) ok_Mo (by decide) rfl (by decide) rfl kw_454 rfl d_Mo_isBetterRing_1 ?_
  refine lv_aload_n S.1 S.2.1 d_Mo_isBetterRing_4 rfl (lv_at hl 0 rfl) ?_
  refine m_gs (t := 3) S M (j := 5) ok_Mo (by decide) rfl (by decide) rfl kw_400 rfl d_Mo_isBetterRing_5 ?_
  refine lv_iload_n S.1 S.2.1 d_Mo_isBetterRing_8 rfl (lv_at hl 1 rfl) ?_
  refine m_ial (t0 := 0) S M (by decide) rfl rfl h d_Mo_isBetterRing_9 (fun h => ?_)
  refine lv_iadd S.1 S.2.1 d_Mo_isBetterRing_10 ?_
  refine m_ni h (fun v1 h => ?_)
  refine lv_istore_n (lv' := [(2, .int v1), (0, .ref (ad 0)), (1, .int x1)]) S.1 S.2.1 d_Mo_isBetterRing_11 rfl hl (by decide) rfl (fun ls hl => ?_)
  refine lv_aload_n S.1 S.2.1 d_Mo_isBetterRing_12 rfl (lv_at hl 1 rfl) ?_
  refine m_gi S M (j := 30) ok_Mo (by decide) rfl (by decide) rfl kw_497 rfl d_Mo_isBetterRing_13 ?_
  refine m_ifeq (tgt := 27) S d_Mo_isBetterRing_16 (by decide) h (fun h => ?_) (fun h => ?_)
  · refine lv_aload_n S.1 S.2.1 d_Mo_isBetterRing_27 rfl (lv_at hl 1 rfl) ?_
    refine m_gi S M (j := 30) ok_Mo (by decide) rfl (by decide) rfl kw_497 rfl d_Mo_isBetterRing_28 ?_
    refine m_ifeq (tgt := 42) S d_Mo_isBetterRing_31 (by decide) h (fun h => ?_) (fun h => ?_)
    · refine lv_iconst (v := 1) S.1 S.2.1 d_Mo_isBetterRing_42 (by decide) ?_
      refine lv_goto (tgt := 47) S.1 S.2.1 d_Mo_isBetterRing_43 (by decide) ?_
      subst hQ; exact m_zret S hr hlk M (by rw [Option.some.inj h]) rfl d_Mo_isBetterRing_47
    · refine lv_iload_n S.1 S.2.1 d_Mo_isBetterRing_34 rfl (lv_at hl 0 rfl) ?_
      refine lv_aload_n S.1 S.2.1 d_Mo_isBetterRing_35 rfl (lv_at hl 1 rfl) ?_
      refine m_gi S M (j := 29) ok_Mo (by decide) rfl (by decide) rfl kw_498 rfl d_Mo_isBetterRing_36 ?_
      refine m_ige (tgt := 46) S d_Mo_isBetterRing_39 (by decide) h (fun h => ?_) (fun h => ?_)
      · refine lv_iconst (v := 0) S.1 S.2.1 d_Mo_isBetterRing_46 (by decide) ?_
        subst hQ; exact m_zret S hr hlk M (by rw [Option.some.inj h]) rfl d_Mo_isBetterRing_47
      · refine lv_iconst (v := 1) S.1 S.2.1 d_Mo_isBetterRing_42 (by decide) ?_
        refine lv_goto (tgt := 47) S.1 S.2.1 d_Mo_isBetterRing_43 (by decide) ?_
        subst hQ; exact m_zret S hr hlk M (by rw [Option.some.inj h]) rfl d_Mo_isBetterRing_47
  · refine lv_iload_n S.1 S.2.1 d_Mo_isBetterRing_19 rfl (lv_at hl 0 rfl) ?_
    refine lv_aload_n S.1 S.2.1 d_Mo_isBetterRing_20 rfl (lv_at hl 1 rfl) ?_
    refine m_gi S M (j := 29) ok_Mo (by decide) rfl (by decide) rfl kw_498 rfl d_Mo_isBetterRing_21 ?_
    refine m_ieq (tgt := 48) S d_Mo_isBetterRing_24 (by decide) h (fun h => ?_) (fun h => ?_)
    · refine lv_aload_n S.1 S.2.1 d_Mo_isBetterRing_48 rfl (lv_at hl 1 rfl) ?_
      refine m_gi S M (j := 19) ok_Mo (by decide) rfl (by decide) rfl kw_453 rfl d_Mo_isBetterRing_49 ?_
      refine lv_iconst (v := 1) S.1 S.2.1 d_Mo_isBetterRing_52 (by decide) ?_
      refine lv_iadd S.1 S.2.1 d_Mo_isBetterRing_53 ?_
      refine lv_aload_n S.1 S.2.1 d_Mo_isBetterRing_54 rfl (lv_at hl 1 rfl) ?_
      refine m_gi S M (j := 30) ok_Mo (by decide) rfl (by decide) rfl kw_497 rfl d_Mo_isBetterRing_55 ?_
      refine m_ieq (tgt := 80) S d_Mo_isBetterRing_58 (by decide) h (fun h => ?_) (fun h => ?_)
      · refine lv_iload_n S.1 S.2.1 d_Mo_isBetterRing_80 rfl (lv_at hl 2 rfl) ?_
        refine lv_aload_n S.1 S.2.1 d_Mo_isBetterRing_81 rfl (lv_at hl 1 rfl) ?_
        refine m_gs (t := 22) S M (j := 31) ok_Mo (by decide) rfl (by decide) rfl kw_499 rfl d_Mo_isBetterRing_82 ?_
        refine lv_iconst (v := 0) S.1 S.2.1 d_Mo_isBetterRing_85 (by decide) ?_
        refine m_ial (t0 := 0) S M (by decide) rfl rfl h d_Mo_isBetterRing_86 (fun h => ?_)
        refine m_ieq (tgt := 106) S d_Mo_isBetterRing_87 (by decide) h (fun h => ?_) (fun h => ?_)
        · refine lv_iconst (v := 0) S.1 S.2.1 d_Mo_isBetterRing_106 (by decide) ?_
          refine lv_istore_n (lv' := [(3, .int 0), (2, .int v1), (0, .ref (ad 0)), (1, .int x1)]) S.1 S.2.1 d_Mo_isBetterRing_107 rfl hl (by decide) rfl (fun ls hl => ?_)
          obtain ⟨u108, q108, h⟩ := Option.bind_eq_some_iff.mp h
          refine lpN_W2 (st := f_Mo_isBetterRing_L108 σ) (fun (t108 : Int32) => ∀ (ls : Array Slot) (H : Heap) (locs : List Loc), lv_has ls 4 [(3, .int t108), (2, .int v1), (0, .ref (ad 0)), (1, .int x1)] → mM D clX (tyK cA) (mA 23 ad s.heap.size) s 23 (tbY cA) ad σ H locs → W p l e rm_Mo_isBetterRing s m args below meth c H locs 0 0 Q (F0 m 108 ls [])) (fun (e108 : Int32) => ∀ (ls : Array Slot) (H : Heap) (locs : List Loc), lv_has ls 4 [(3, .int e108), (2, .int v1), (0, .ref (ad 0)), (1, .int x1)] → mM D clX (tyK cA) (mA 23 ad s.heap.size) s 23 (tbY cA) ad σ H locs → W p l e rm_Mo_isBetterRing s m args below meth c H locs 0 0 Q (F0 m 133 ls [])) (fun (y108 : Int32) => ∀ (pc : Nat) (ls : Array Slot) (H : Heap) (locs : List Loc), decode prog_12_method_45_code pc = .ok (.ireturn, 1) → isB y108 = true → mM D clX (tyK cA) (mA 23 ad s.heap.size) s 23 (tbY cA) ad σ H locs → W p l e rm_Mo_isBetterRing s m args below meth c H locs 0 0 Q (F0 m pc ls [.int y108])) ?_ fuB ((0) : Int32) u108 q108 ?_ ?_ ls _ _ (lv_sub hl [0, 1, 2, 3] rfl) M
          · intro t108 oo108 h K1 K2 K3 ls H locs hl M
            unfold f_Mo_isBetterRing_L108 at h
            refine lv_iload_n S.1 S.2.1 d_Mo_isBetterRing_108 rfl (lv_at hl 0 rfl) ?_
            refine lv_aload_n S.1 S.2.1 d_Mo_isBetterRing_109 rfl (lv_at hl 2 rfl) ?_
            refine m_gi S M (j := 19) ok_Mo (by decide) rfl (by decide) rfl kw_453 rfl d_Mo_isBetterRing_110 ?_
            refine m_ige (tgt := 162) S d_Mo_isBetterRing_113 (by decide) h (fun h => ?_) (fun h => ?_)
            · refine lv_iconst (v := 0) S.1 S.2.1 d_Mo_isBetterRing_162 (by decide) ?_
              exact K3 _ (Option.some.inj h).symm _ ls _ _ d_Mo_isBetterRing_163 rfl M
            · refine lv_aload_n S.1 S.2.1 d_Mo_isBetterRing_116 rfl (lv_at hl 2 rfl) ?_
              refine m_gs (t := 14) S M (j := 16) ok_Mo (by decide) rfl (by decide) rfl kw_455 rfl d_Mo_isBetterRing_117 ?_
              refine lv_iload_n S.1 S.2.1 d_Mo_isBetterRing_120 rfl (lv_at hl 0 rfl) ?_
              refine m_ial (t0 := 0) S M (by decide) rfl rfl h d_Mo_isBetterRing_121 (fun h => ?_)
              refine lv_aload_n S.1 S.2.1 d_Mo_isBetterRing_122 rfl (lv_at hl 2 rfl) ?_
              refine m_gs (t := 22) S M (j := 31) ok_Mo (by decide) rfl (by decide) rfl kw_499 rfl d_Mo_isBetterRing_123 ?_
              refine lv_iload_n S.1 S.2.1 d_Mo_isBetterRing_126 rfl (lv_at hl 0 rfl) ?_
              refine lv_iconst (v := 1) S.1 S.2.1 d_Mo_isBetterRing_127 (by decide) ?_
              refine lv_iadd S.1 S.2.1 d_Mo_isBetterRing_128 ?_
              refine m_ial (t0 := 0) S M (by decide) rfl rfl h d_Mo_isBetterRing_129 (fun h => ?_)
              refine m_ieq (tgt := 156) S d_Mo_isBetterRing_130 (by decide) h (fun h => ?_) (fun h => ?_)
              · refine lv_iinc (v := t108 + 1) (lv' := [(3, .int (t108 + 1)), (2, .int v1), (0, .ref (ad 0)), (1, .int x1)]) S.1 S.2.1 d_Mo_isBetterRing_156 hl (k := 0) rfl rfl (by decide) rfl (fun ls hl => ?_)
                refine lv_goto (tgt := 108) S.1 S.2.1 d_Mo_isBetterRing_159 (by decide) ?_
                exact K1 _ (Option.some.inj h).symm ls _ _ (lv_sub hl [0, 1, 2, 3] rfl) M
              · exact K2 _ (Option.some.inj h).symm ls _ _ (lv_sub hl [0, 1, 2, 3] rfl) M
          · intro e108 q ls H locs hl M
            subst q
            dsimp only [Sum.elim_inl] at h
            refine lv_aload_n S.1 S.2.1 d_Mo_isBetterRing_133 rfl (lv_at hl 2 rfl) ?_
            refine m_gs (t := 14) S M (j := 16) ok_Mo (by decide) rfl (by decide) rfl kw_455 rfl d_Mo_isBetterRing_134 ?_
            refine lv_iload_n S.1 S.2.1 d_Mo_isBetterRing_137 rfl (lv_at hl 0 rfl) ?_
            refine m_ial (t0 := 0) S M (by decide) rfl rfl h d_Mo_isBetterRing_138 (fun h => ?_)
            refine lv_aload_n S.1 S.2.1 d_Mo_isBetterRing_139 rfl (lv_at hl 2 rfl) ?_
            refine m_gs (t := 22) S M (j := 31) ok_Mo (by decide) rfl (by decide) rfl kw_499 rfl d_Mo_isBetterRing_140 ?_
            refine lv_iload_n S.1 S.2.1 d_Mo_isBetterRing_143 rfl (lv_at hl 0 rfl) ?_
            refine lv_iconst (v := 1) S.1 S.2.1 d_Mo_isBetterRing_144 (by decide) ?_
            refine lv_iadd S.1 S.2.1 d_Mo_isBetterRing_145 ?_
            refine m_ial (t0 := 0) S M (by decide) rfl rfl h d_Mo_isBetterRing_146 (fun h => ?_)
            refine m_ige (tgt := 154) S d_Mo_isBetterRing_147 (by decide) h (fun h => ?_) (fun h => ?_)
            · refine lv_iconst (v := 0) S.1 S.2.1 d_Mo_isBetterRing_154 (by decide) ?_
              subst hQ; exact m_zret S hr hlk M (by rw [Option.some.inj h]) rfl d_Mo_isBetterRing_155
            · refine lv_iconst (v := 1) S.1 S.2.1 d_Mo_isBetterRing_150 (by decide) ?_
              refine lv_goto (tgt := 155) S.1 S.2.1 d_Mo_isBetterRing_151 (by decide) ?_
              subst hQ; exact m_zret S hr hlk M (by rw [Option.some.inj h]) rfl d_Mo_isBetterRing_155
          · intro y108 q
            subst q
            dsimp only [Sum.elim_inr] at h
            intro pc ls H locs hd hB M
            subst hQ; exact m_zret S hr hlk M (by rw [Option.some.inj h]) hB hd
        · refine lv_iload_n S.1 S.2.1 d_Mo_isBetterRing_90 rfl (lv_at hl 2 rfl) ?_
          refine lv_aload_n S.1 S.2.1 d_Mo_isBetterRing_91 rfl (lv_at hl 1 rfl) ?_
          refine m_gs (t := 22) S M (j := 31) ok_Mo (by decide) rfl (by decide) rfl kw_499 rfl d_Mo_isBetterRing_92 ?_
          refine lv_iconst (v := 0) S.1 S.2.1 d_Mo_isBetterRing_95 (by decide) ?_
          refine m_ial (t0 := 0) S M (by decide) rfl rfl h d_Mo_isBetterRing_96 (fun h => ?_)
          refine m_ige (tgt := 104) S d_Mo_isBetterRing_97 (by decide) h (fun h => ?_) (fun h => ?_)
          · refine lv_iconst (v := 0) S.1 S.2.1 d_Mo_isBetterRing_104 (by decide) ?_
            subst hQ; exact m_zret S hr hlk M (by rw [Option.some.inj h]) rfl d_Mo_isBetterRing_105
          · refine lv_iconst (v := 1) S.1 S.2.1 d_Mo_isBetterRing_100 (by decide) ?_
            refine lv_goto (tgt := 105) S.1 S.2.1 d_Mo_isBetterRing_101 (by decide) ?_
            subst hQ; exact m_zret S hr hlk M (by rw [Option.some.inj h]) rfl d_Mo_isBetterRing_105
      · refine lv_aload_n S.1 S.2.1 d_Mo_isBetterRing_61 rfl (lv_at hl 1 rfl) ?_
        refine m_gi S M (j := 19) ok_Mo (by decide) rfl (by decide) rfl kw_453 rfl d_Mo_isBetterRing_62 ?_
        refine lv_iconst (v := 1) S.1 S.2.1 d_Mo_isBetterRing_65 (by decide) ?_
        refine lv_iadd S.1 S.2.1 d_Mo_isBetterRing_66 ?_
        refine lv_aload_n S.1 S.2.1 d_Mo_isBetterRing_67 rfl (lv_at hl 1 rfl) ?_
        refine m_gi S M (j := 30) ok_Mo (by decide) rfl (by decide) rfl kw_497 rfl d_Mo_isBetterRing_68 ?_
        refine m_ige (tgt := 78) S d_Mo_isBetterRing_71 (by decide) h (fun h => ?_) (fun h => ?_)
        · refine lv_iconst (v := 0) S.1 S.2.1 d_Mo_isBetterRing_78 (by decide) ?_
          subst hQ; exact m_zret S hr hlk M (by rw [Option.some.inj h]) rfl d_Mo_isBetterRing_79
        · refine lv_iconst (v := 1) S.1 S.2.1 d_Mo_isBetterRing_74 (by decide) ?_
          refine lv_goto (tgt := 79) S.1 S.2.1 d_Mo_isBetterRing_75 (by decide) ?_
          subst hQ; exact m_zret S hr hlk M (by rw [Option.some.inj h]) rfl d_Mo_isBetterRing_79
    · refine lv_aload_n S.1 S.2.1 d_Mo_isBetterRing_27 rfl (lv_at hl 1 rfl) ?_
      refine m_gi S M (j := 30) ok_Mo (by decide) rfl (by decide) rfl kw_497 rfl d_Mo_isBetterRing_28 ?_
      refine m_ifeq (tgt := 42) S d_Mo_isBetterRing_31 (by decide) h (fun h => ?_) (fun h => ?_)
      · refine lv_iconst (v := 1) S.1 S.2.1 d_Mo_isBetterRing_42 (by decide) ?_
        refine lv_goto (tgt := 47) S.1 S.2.1 d_Mo_isBetterRing_43 (by decide) ?_
        subst hQ; exact m_zret S hr hlk M (by rw [Option.some.inj h]) rfl d_Mo_isBetterRing_47
      · refine lv_iload_n S.1 S.2.1 d_Mo_isBetterRing_34 rfl (lv_at hl 0 rfl) ?_
        refine lv_aload_n S.1 S.2.1 d_Mo_isBetterRing_35 rfl (lv_at hl 1 rfl) ?_
        refine m_gi S M (j := 29) ok_Mo (by decide) rfl (by decide) rfl kw_498 rfl d_Mo_isBetterRing_36 ?_
        refine m_ige (tgt := 46) S d_Mo_isBetterRing_39 (by decide) h (fun h => ?_) (fun h => ?_)
        · refine lv_iconst (v := 0) S.1 S.2.1 d_Mo_isBetterRing_46 (by decide) ?_
          subst hQ; exact m_zret S hr hlk M (by rw [Option.some.inj h]) rfl d_Mo_isBetterRing_47
        · refine lv_iconst (v := 1) S.1 S.2.1 d_Mo_isBetterRing_42 (by decide) ?_
          refine lv_goto (tgt := 47) S.1 S.2.1 d_Mo_isBetterRing_43 (by decide) ?_
          subst hQ; exact m_zret S hr hlk M (by rw [Option.some.inj h]) rfl d_Mo_isBetterRing_47
theorem d_Mo_findRing_0 : decode prog_12_method_46_code 0 = .ok (.aload_n 0, 1) := by decide +kernel
theorem d_Mo_findRing_1 : decode prog_12_method_46_code 1 = .ok (.iconst 0, 1) := by decide +kernel
theorem d_Mo_findRing_2 : decode prog_12_method_46_code 2 = .ok (.putfield 181, 3) := by decide +kernel
theorem d_Mo_findRing_5 : decode prog_12_method_46_code 5 = .ok (.iconst 0, 1) := by decide +kernel
theorem d_Mo_findRing_6 : decode prog_12_method_46_code 6 = .ok (.istore_n 1, 1) := by decide +kernel
theorem d_Mo_findRing_7 : decode prog_12_method_46_code 7 = .ok (.iload_n 1, 1) := by decide +kernel
theorem d_Mo_findRing_8 : decode prog_12_method_46_code 8 = .ok (.aload_n 0, 1) := by decide +kernel
theorem d_Mo_findRing_9 : decode prog_12_method_46_code 9 = .ok (.getfield 88, 3) := by decide +kernel
theorem d_Mo_findRing_12 : decode prog_12_method_46_code 12 = .ok (.if_icmp .ge 119, 3) := by decide +kernel
theorem d_Mo_findRing_15 : decode prog_12_method_46_code 15 = .ok (.aload_n 0, 1) := by decide +kernel
theorem d_Mo_findRing_16 : decode prog_12_method_46_code 16 = .ok (.getfield 25, 3) := by decide +kernel
theorem d_Mo_findRing_19 : decode prog_12_method_46_code 19 = .ok (.iload_n 1, 1) := by decide +kernel
theorem d_Mo_findRing_20 : decode prog_12_method_46_code 20 = .ok (.baload, 1) := by decide +kernel
theorem d_Mo_findRing_21 : decode prog_12_method_46_code 21 = .ok (.ifCond .ne 6, 3) := by decide +kernel
theorem d_Mo_findRing_24 : decode prog_12_method_46_code 24 = .ok (.goto 101, 3) := by decide +kernel
theorem d_Mo_findRing_27 : decode prog_12_method_46_code 27 = .ok (.aload_n 0, 1) := by decide +kernel
theorem d_Mo_findRing_28 : decode prog_12_method_46_code 28 = .ok (.iconst (-1), 1) := by decide +kernel
theorem d_Mo_findRing_29 : decode prog_12_method_46_code 29 = .ok (.putfield 139, 3) := by decide +kernel
theorem d_Mo_findRing_32 : decode prog_12_method_46_code 32 = .ok (.aload_n 0, 1) := by decide +kernel
theorem d_Mo_findRing_33 : decode prog_12_method_46_code 33 = .ok (.aload_n 0, 1) := by decide +kernel
theorem d_Mo_findRing_34 : decode prog_12_method_46_code 34 = .ok (.getfield 13, 3) := by decide +kernel
theorem d_Mo_findRing_37 : decode prog_12_method_46_code 37 = .ok (.iload_n 1, 1) := by decide +kernel
theorem d_Mo_findRing_38 : decode prog_12_method_46_code 38 = .ok (.iaload, 1) := by decide +kernel
theorem d_Mo_findRing_39 : decode prog_12_method_46_code 39 = .ok (.aload_n 0, 1) := by decide +kernel
theorem d_Mo_findRing_40 : decode prog_12_method_46_code 40 = .ok (.getfield 7, 3) := by decide +kernel
theorem d_Mo_findRing_43 : decode prog_12_method_46_code 43 = .ok (.iload_n 1, 1) := by decide +kernel
theorem d_Mo_findRing_44 : decode prog_12_method_46_code 44 = .ok (.iaload, 1) := by decide +kernel
theorem d_Mo_findRing_45 : decode prog_12_method_46_code 45 = .ok (.iload_n 1, 1) := by decide +kernel
theorem d_Mo_findRing_46 : decode prog_12_method_46_code 46 = .ok (.invokevirtual 162, 3) := by decide +kernel
theorem d_Mo_findRing_49 : decode prog_12_method_46_code 49 = .ok (.ifCond .eq 76, 3) := by decide +kernel
theorem d_Mo_findRing_52 : decode prog_12_method_46_code 52 = .ok (.aload_n 0, 1) := by decide +kernel
theorem d_Mo_findRing_53 : decode prog_12_method_46_code 53 = .ok (.iload_n 1, 1) := by decide +kernel
theorem d_Mo_findRing_54 : decode prog_12_method_46_code 54 = .ok (.invokevirtual 187, 3) := by decide +kernel
theorem d_Mo_findRing_57 : decode prog_12_method_46_code 57 = .ok (.ifCond .eq (-25), 3) := by decide +kernel
theorem d_Mo_findRing_60 : decode prog_12_method_46_code 60 = .ok (.aload_n 0, 1) := by decide +kernel
theorem d_Mo_findRing_61 : decode prog_12_method_46_code 61 = .ok (.aload_n 0, 1) := by decide +kernel
theorem d_Mo_findRing_62 : decode prog_12_method_46_code 62 = .ok (.getfield 142, 3) := by decide +kernel
theorem d_Mo_findRing_65 : decode prog_12_method_46_code 65 = .ok (.aload_n 0, 1) := by decide +kernel
theorem d_Mo_findRing_66 : decode prog_12_method_46_code 66 = .ok (.getfield 16, 3) := by decide +kernel
theorem d_Mo_findRing_69 : decode prog_12_method_46_code 69 = .ok (.iload_n 1, 1) := by decide +kernel
theorem d_Mo_findRing_70 : decode prog_12_method_46_code 70 = .ok (.iaload, 1) := by decide +kernel
theorem d_Mo_findRing_71 : decode prog_12_method_46_code 71 = .ok (.iadd, 1) := by decide +kernel
theorem d_Mo_findRing_72 : decode prog_12_method_46_code 72 = .ok (.putfield 184, 3) := by decide +kernel
theorem d_Mo_findRing_75 : decode prog_12_method_46_code 75 = .ok (.aload_n 0, 1) := by decide +kernel
theorem d_Mo_findRing_76 : decode prog_12_method_46_code 76 = .ok (.aload_n 0, 1) := by decide +kernel
theorem d_Mo_findRing_77 : decode prog_12_method_46_code 77 = .ok (.getfield 139, 3) := by decide +kernel
theorem d_Mo_findRing_80 : decode prog_12_method_46_code 80 = .ok (.iconst 1, 1) := by decide +kernel
theorem d_Mo_findRing_81 : decode prog_12_method_46_code 81 = .ok (.iadd, 1) := by decide +kernel
theorem d_Mo_findRing_82 : decode prog_12_method_46_code 82 = .ok (.putfield 181, 3) := by decide +kernel
theorem d_Mo_findRing_85 : decode prog_12_method_46_code 85 = .ok (.aload_n 0, 1) := by decide +kernel
theorem d_Mo_findRing_86 : decode prog_12_method_46_code 86 = .ok (.getfield 79, 3) := by decide +kernel
theorem d_Mo_findRing_89 : decode prog_12_method_46_code 89 = .ok (.iconst 0, 1) := by decide +kernel
theorem d_Mo_findRing_90 : decode prog_12_method_46_code 90 = .ok (.iload_n 1, 1) := by decide +kernel
theorem d_Mo_findRing_91 : decode prog_12_method_46_code 91 = .ok (.iastore, 1) := by decide +kernel
theorem d_Mo_findRing_92 : decode prog_12_method_46_code 92 = .ok (.iconst 0, 1) := by decide +kernel
theorem d_Mo_findRing_93 : decode prog_12_method_46_code 93 = .ok (.istore_n 2, 1) := by decide +kernel
theorem d_Mo_findRing_94 : decode prog_12_method_46_code 94 = .ok (.iload_n 2, 1) := by decide +kernel
theorem d_Mo_findRing_95 : decode prog_12_method_46_code 95 = .ok (.aload_n 0, 1) := by decide +kernel
theorem d_Mo_findRing_96 : decode prog_12_method_46_code 96 = .ok (.getfield 139, 3) := by decide +kernel
theorem d_Mo_findRing_99 : decode prog_12_method_46_code 99 = .ok (.if_icmp .ge 23, 3) := by decide +kernel
theorem d_Mo_findRing_102 : decode prog_12_method_46_code 102 = .ok (.aload_n 0, 1) := by decide +kernel
theorem d_Mo_findRing_103 : decode prog_12_method_46_code 103 = .ok (.getfield 79, 3) := by decide +kernel
theorem d_Mo_findRing_106 : decode prog_12_method_46_code 106 = .ok (.iload_n 2, 1) := by decide +kernel
theorem d_Mo_findRing_107 : decode prog_12_method_46_code 107 = .ok (.iconst 1, 1) := by decide +kernel
theorem d_Mo_findRing_108 : decode prog_12_method_46_code 108 = .ok (.iadd, 1) := by decide +kernel
theorem d_Mo_findRing_109 : decode prog_12_method_46_code 109 = .ok (.aload_n 0, 1) := by decide +kernel
theorem d_Mo_findRing_110 : decode prog_12_method_46_code 110 = .ok (.getfield 50, 3) := by decide +kernel
theorem d_Mo_findRing_113 : decode prog_12_method_46_code 113 = .ok (.iload_n 2, 1) := by decide +kernel
theorem d_Mo_findRing_114 : decode prog_12_method_46_code 114 = .ok (.iaload, 1) := by decide +kernel
theorem d_Mo_findRing_115 : decode prog_12_method_46_code 115 = .ok (.iastore, 1) := by decide +kernel
theorem d_Mo_findRing_116 : decode prog_12_method_46_code 116 = .ok (.iinc 2 1, 3) := by decide +kernel
theorem d_Mo_findRing_119 : decode prog_12_method_46_code 119 = .ok (.goto (-25), 3) := by decide +kernel
theorem d_Mo_findRing_122 : decode prog_12_method_46_code 122 = .ok (.goto (-90), 3) := by decide +kernel
theorem d_Mo_findRing_125 : decode prog_12_method_46_code 125 = .ok (.iinc 1 1, 3) := by decide +kernel
theorem d_Mo_findRing_128 : decode prog_12_method_46_code 128 = .ok (.goto (-121), 3) := by decide +kernel
theorem d_Mo_findRing_131 : decode prog_12_method_46_code 131 = .ok (.return_, 1) := by decide +kernel
def rm_Mo_findRing : Room := { frames := 2, cells := 0, slots := 0, locals := 48 }
def f_Mo_findRing_L94 : (Int32 × mS) → Option ((Int32 × mS) ⊕ (Int32 × mS)) := fun t94 =>
  if (t94.2.1 0 19) ≤ t94.1 then (
  some (.inr (t94.1, t94.2))) else (
  gd (inb t94.1 12) (
  gd (inb (t94.1 + 1) 12) ((nm (sI t94.2 22 (t94.1 + 1).toNatClampNeg (t94.2.1 14 t94.1.toNatClampNeg)) fun σ8 =>
  some (.inl (t94.1 + 1, σ8))))))
def f_Mo_findRing_L32 (t7 : Int32 × mS) : (mS) → Option ((mS) ⊕ (mS)) := fun t32 =>
  gd (inb t7.1 40) (
  gd (inb t7.1 40) (
  (f_Mo_nextWay t32 (t32.1 2 t7.1.toNatClampNeg) (t32.1 1 t7.1.toNatClampNeg) t7.1).bind fun o3 =>
  if o3.1 = 0 then (
  some (.inr (o3.2))) else (
  (f_Mo_isBetterRing o3.2 t7.1).bind fun v4 =>
  if v4 = 0 then (
  some (.inl (o3.2))) else (
  gd (inb t7.1 40) (
  nm (sI o3.2 0 29 ((o3.2.1 0 20) + (o3.2.1 3 t7.1.toNatClampNeg))) fun σ5 =>
  nm (sI σ5 0 30 ((σ5.1 0 19) + 1)) fun σ6 =>
  gd (inb 0 12) ((nm (sI σ6 22 (0 : Int32).toNatClampNeg t7.1) fun σ7 =>
  (lpN (f_Mo_findRing_L94) fuB (0, σ7)).bind fun u94 =>
  some (.inl (u94.2)))))))))
def f_Mo_findRing_L7 : (Int32 × mS) → Option ((Int32 × mS) ⊕ (Int32 × mS)) := fun t7 =>
  if (t7.2.1 0 2) ≤ t7.1 then (
  some (.inr (t7.1, t7.2))) else (
  gd (inb t7.1 40) (
  if (t7.2.1 6 t7.1.toNatClampNeg) = 0 then (
  some (.inl (t7.1 + 1, t7.2))) else (
  nm (sI t7.2 0 19 ((-1))) fun σ2 =>
  (lpN (f_Mo_findRing_L32 t7) fuB (σ2)).bind fun u32 =>
  some (.inl (t7.1 + 1, u32)))))
def f_Mo_findRing (σ : mS) : Option (mS) :=
  nm (sI σ 0 30 0) fun σ1 =>
  (lpN (f_Mo_findRing_L7) fuB (0, σ1)).bind fun u7 =>
  some u7.2
set_option maxHeartbeats 4000000 in
set_option maxRecDepth 100000 in
theorem c_Mo_findRing (l : Launch) (D : va_G) (cA ad : Nat → Nat) (σ : mS) (o : mS) (h : f_Mo_findRing σ = some o) : mCv l ⟨"LeastPathsModel", "findRing", "()V"⟩ (Cond.code ⟨"LeastPathsModel", "findRing", "()V"⟩ prog_12_method_46_code 3 (Option.none : Option Jvm.ClassFile.FieldType) :: tlG) rm_Mo_findRing D clX (tyK cA) 23 (tbY cA) ad σ [.ref (ad 0)] o := by
  intro sz
  refine m_of (cc := prog_12_method_46_code) (maxL := 3) (Qc := mQv D clX (tyK cA) 23 (tbY cA) ad o) (by decide) (Nat.le_of_ble_eq_true rfl) (fun p e s m args below meth c ls S hr hlk hnm hl M => ?_) sz
  have hl : lv_has ls 3 [(0, .ref (ad 0))] := hl
  generalize hQ : MQ _ _ _ _ _ _ _ = Q
  skip
  unfold f_Mo_findRing at h
  refine lv_aload_n S.1 S.2.1 d_Mo_findRing_0 rfl (lv_at hl 0 rfl) ?_
  refine lv_iconst (v := 0) S.1 S.2.1 d_Mo_findRing_1 (by decide) ?_
  refine m_pi S M (j := 30) ok_Mo (by decide) rfl (by decide) rfl kw_497 rfl rfl rfl d_Mo_findRing_2 h (fun σ1 H locs h M => ?_)
  refine lv_iconst (v := 0) S.1 S.2.1 d_Mo_findRing_5 (by decide) ?_
  refine lv_istore_n (lv' := [(1, .int 0), (0, .ref (ad 0))]) S.1 S.2.1 d_Mo_findRing_6 rfl hl (by decide) rfl (fun ls hl => ?_)
  obtain ⟨u7, q7, h⟩ := Option.bind_eq_some_iff.mp h
  refine lpN_W1 (st := f_Mo_findRing_L7) (fun (t7 : Int32 × mS) => ∀ (ls : Array Slot) (H : Heap) (locs : List Loc), lv_has ls 3 [(1, .int t7.1), (0, .ref (ad 0))] → mM D clX (tyK cA) (mA 23 ad s.heap.size) s 23 (tbY cA) ad t7.2 H locs → W p l e rm_Mo_findRing s m args below meth c H locs 0 0 Q (F0 m 7 ls [])) (fun (u7 : Int32 × mS) => ∀ (ls : Array Slot) (H : Heap) (locs : List Loc), lv_has ls 3 [(1, .int u7.1), (0, .ref (ad 0))] → mM D clX (tyK cA) (mA 23 ad s.heap.size) s 23 (tbY cA) ad u7.2 H locs → W p l e rm_Mo_findRing s m args below meth c H locs 0 0 Q (F0 m 131 ls [])) ?_ fuB ((0, σ1) : Int32 × mS) u7 q7 ?_ ls _ _ (lv_sub hl [0, 1] rfl) M
  · intro t7 oo7 h K1 K2 ls H locs hl M
    unfold f_Mo_findRing_L7 at h
    refine lv_iload_n S.1 S.2.1 d_Mo_findRing_7 rfl (lv_at hl 0 rfl) ?_
    refine lv_aload_n S.1 S.2.1 d_Mo_findRing_8 rfl (lv_at hl 1 rfl) ?_
    refine m_gi S M (j := 2) ok_Mo (by decide) rfl (by decide) rfl kw_383 rfl d_Mo_findRing_9 ?_
    refine m_ige (tgt := 131) S d_Mo_findRing_12 (by decide) h (fun h => ?_) (fun h => ?_)
    · exact K2 _ (Option.some.inj h).symm ls _ _ (lv_sub hl [0, 1] rfl) M
    · refine lv_aload_n S.1 S.2.1 d_Mo_findRing_15 rfl (lv_at hl 1 rfl) ?_
      refine m_gs (t := 6) S M (j := 8) ok_Mo (by decide) rfl (by decide) rfl kw_384 rfl d_Mo_findRing_16 ?_
      refine lv_iload_n S.1 S.2.1 d_Mo_findRing_19 rfl (lv_at hl 0 rfl) ?_
      refine m_zal (t0 := 2) S M (by decide) rfl rfl h d_Mo_findRing_20 (fun h => ?_)
      refine m_ifne (tgt := 27) S d_Mo_findRing_21 (by decide) h (fun h => ?_) (fun h => ?_)
      · refine lv_aload_n S.1 S.2.1 d_Mo_findRing_27 rfl (lv_at hl 1 rfl) ?_
        refine lv_iconst (v := (-1)) S.1 S.2.1 d_Mo_findRing_28 (by decide) ?_
        refine m_pi S M (j := 19) ok_Mo (by decide) rfl (by decide) rfl kw_453 rfl rfl rfl d_Mo_findRing_29 h (fun σ2 H locs h M => ?_)
        obtain ⟨u32, q32, h⟩ := Option.bind_eq_some_iff.mp h
        refine lpN_W1 (st := f_Mo_findRing_L32 t7) (fun (t32 : mS) => ∀ (ls : Array Slot) (H : Heap) (locs : List Loc), lv_has ls 3 [(1, .int t7.1), (0, .ref (ad 0))] → mM D clX (tyK cA) (mA 23 ad s.heap.size) s 23 (tbY cA) ad t32 H locs → W p l e rm_Mo_findRing s m args below meth c H locs 0 0 Q (F0 m 32 ls [])) (fun (u32 : mS) => ∀ (ls : Array Slot) (H : Heap) (locs : List Loc), lv_has ls 3 [(1, .int t7.1), (0, .ref (ad 0))] → mM D clX (tyK cA) (mA 23 ad s.heap.size) s 23 (tbY cA) ad u32 H locs → W p l e rm_Mo_findRing s m args below meth c H locs 0 0 Q (F0 m 125 ls [])) ?_ fuB ((σ2) : mS) u32 q32 ?_ ls _ _ (lv_sub hl [0, 1] rfl) M
        · intro t32 oo32 h K1 K2 ls H locs hl M
          unfold f_Mo_findRing_L32 at h
          refine lv_aload_n S.1 S.2.1 d_Mo_findRing_32 rfl (lv_at hl 1 rfl) ?_
          refine lv_aload_n S.1 S.2.1 d_Mo_findRing_33 rfl (lv_at hl 1 rfl) ?_
          refine m_gs (t := 2) S M (j := 4) ok_Mo (by decide) rfl (by decide) rfl kw_399 rfl d_Mo_findRing_34 ?_
          refine lv_iload_n S.1 S.2.1 d_Mo_findRing_37 rfl (lv_at hl 0 rfl) ?_
          refine m_ial (t0 := 0) S M (by decide) rfl rfl h d_Mo_findRing_38 (fun h => ?_)
          refine lv_aload_n S.1 S.2.1 d_Mo_findRing_39 rfl (lv_at hl 1 rfl) ?_
          refine m_gs (t := 1) S M (j := 3) ok_Mo (by decide) rfl (by decide) rfl kw_398 rfl d_Mo_findRing_40 ?_
          refine lv_iload_n S.1 S.2.1 d_Mo_findRing_43 rfl (lv_at hl 0 rfl) ?_
          refine m_ial (t0 := 0) S M (by decide) rfl rfl h d_Mo_findRing_44 (fun h => ?_)
          refine lv_iload_n S.1 S.2.1 d_Mo_findRing_45 rfl (lv_at hl 0 rfl) ?_
          refine m_xi h (fun o ho => m_rV (As := [.int (t32.1 2 t7.1.toNatClampNeg), .int (t32.1 1 t7.1.toNatClampNeg), .int t7.1]) (rest := []) S M hl.1 (cwG (n := 3) S.2.2.2.2 kw_475 kw_476 kw_477 kw_391 kw_478 (by decide) ⟨Nat.le_of_ble_eq_true rfl, Nat.le_of_ble_eq_true rfl⟩) ok_Mo (by decide) rfl (c_Mo_nextWay l D cA ad t32 (t32.1 2 t7.1.toNatClampNeg) (t32.1 1 t7.1.toNatClampNeg) t7.1 o ho _) rfl rfl (Nat.le_of_ble_eq_true rfl) d_Mo_findRing_46 ⟨Nat.zero_le _, Nat.zero_le _⟩) M (fun o3 H locs h M => ?_)
          refine m_ifeq (tgt := 125) S d_Mo_findRing_49 (by decide) h (fun h => ?_) (fun h => ?_)
          · exact K2 _ (Option.some.inj h).symm ls _ _ (lv_sub hl [0, 1] rfl) M
          · refine lv_aload_n S.1 S.2.1 d_Mo_findRing_52 rfl (lv_at hl 1 rfl) ?_
            refine lv_iload_n S.1 S.2.1 d_Mo_findRing_53 rfl (lv_at hl 0 rfl) ?_
            refine m_xip h (fun o ho => m_rV (As := [.int t7.1]) (rest := []) S M hl.1 (cwG (n := 1) S.2.2.2.2 kw_500 kw_501 kw_502 kw_391 kw_503 (by decide) ⟨Nat.le_of_ble_eq_true rfl, Nat.le_of_ble_eq_true rfl⟩) ok_Mo (by decide) rfl (c_Mo_isBetterRing l D cA ad o3.2 t7.1 o ho _) rfl rfl (Nat.le_of_ble_eq_true rfl) d_Mo_findRing_54 ⟨Nat.zero_le _, Nat.zero_le _⟩) M (fun v4 H locs h M => ?_)
            refine m_ifeq (tgt := 32) S d_Mo_findRing_57 (by decide) h (fun h => ?_) (fun h => ?_)
            · exact K1 _ (Option.some.inj h).symm ls _ _ (lv_sub hl [0, 1] rfl) M
            · refine lv_aload_n S.1 S.2.1 d_Mo_findRing_60 rfl (lv_at hl 1 rfl) ?_
              refine lv_aload_n S.1 S.2.1 d_Mo_findRing_61 rfl (lv_at hl 1 rfl) ?_
              refine m_gi S M (j := 20) ok_Mo (by decide) rfl (by decide) rfl kw_454 rfl d_Mo_findRing_62 ?_
              refine lv_aload_n S.1 S.2.1 d_Mo_findRing_65 rfl (lv_at hl 1 rfl) ?_
              refine m_gs (t := 3) S M (j := 5) ok_Mo (by decide) rfl (by decide) rfl kw_400 rfl d_Mo_findRing_66 ?_
              refine lv_iload_n S.1 S.2.1 d_Mo_findRing_69 rfl (lv_at hl 0 rfl) ?_
              refine m_ial (t0 := 0) S M (by decide) rfl rfl h d_Mo_findRing_70 (fun h => ?_)
              refine lv_iadd S.1 S.2.1 d_Mo_findRing_71 ?_
              refine m_pi S M (j := 29) ok_Mo (by decide) rfl (by decide) rfl kw_498 rfl rfl rfl d_Mo_findRing_72 h (fun σ5 H locs h M => ?_)
              refine lv_aload_n S.1 S.2.1 d_Mo_findRing_75 rfl (lv_at hl 1 rfl) ?_
              refine lv_aload_n S.1 S.2.1 d_Mo_findRing_76 rfl (lv_at hl 1 rfl) ?_
              refine m_gi S M (j := 19) ok_Mo (by decide) rfl (by decide) rfl kw_453 rfl d_Mo_findRing_77 ?_
              refine lv_iconst (v := 1) S.1 S.2.1 d_Mo_findRing_80 (by decide) ?_
              refine lv_iadd S.1 S.2.1 d_Mo_findRing_81 ?_
              refine m_pi S M (j := 30) ok_Mo (by decide) rfl (by decide) rfl kw_497 rfl rfl rfl d_Mo_findRing_82 h (fun σ6 H locs h M => ?_)
              refine lv_aload_n S.1 S.2.1 d_Mo_findRing_85 rfl (lv_at hl 1 rfl) ?_
              refine m_gs (t := 22) S M (j := 31) ok_Mo (by decide) rfl (by decide) rfl kw_499 rfl d_Mo_findRing_86 ?_
              refine lv_iconst (v := 0) S.1 S.2.1 d_Mo_findRing_89 (by decide) ?_
              refine lv_iload_n S.1 S.2.1 d_Mo_findRing_90 rfl (lv_at hl 0 rfl) ?_
              refine m_ias (t0 := 0) S M (by decide) rfl rfl h d_Mo_findRing_91 (fun σ7 H locs h M => ?_)
              refine lv_iconst (v := 0) S.1 S.2.1 d_Mo_findRing_92 (by decide) ?_
              refine lv_istore_n (lv' := [(2, .int 0), (1, .int t7.1), (0, .ref (ad 0))]) S.1 S.2.1 d_Mo_findRing_93 rfl hl (by decide) rfl (fun ls hl => ?_)
              obtain ⟨u94, q94, h⟩ := Option.bind_eq_some_iff.mp h
              refine lpN_W1 (st := f_Mo_findRing_L94) (fun (t94 : Int32 × mS) => ∀ (ls : Array Slot) (H : Heap) (locs : List Loc), lv_has ls 3 [(2, .int t94.1), (1, .int t7.1), (0, .ref (ad 0))] → mM D clX (tyK cA) (mA 23 ad s.heap.size) s 23 (tbY cA) ad t94.2 H locs → W p l e rm_Mo_findRing s m args below meth c H locs 0 0 Q (F0 m 94 ls [])) (fun (u94 : Int32 × mS) => ∀ (ls : Array Slot) (H : Heap) (locs : List Loc), lv_has ls 3 [(2, .int u94.1), (1, .int t7.1), (0, .ref (ad 0))] → mM D clX (tyK cA) (mA 23 ad s.heap.size) s 23 (tbY cA) ad u94.2 H locs → W p l e rm_Mo_findRing s m args below meth c H locs 0 0 Q (F0 m 122 ls [])) ?_ fuB ((0, σ7) : Int32 × mS) u94 q94 ?_ ls _ _ (lv_sub hl [0, 1, 2] rfl) M
              · intro t94 oo94 h K1 K2 ls H locs hl M
                unfold f_Mo_findRing_L94 at h
                refine lv_iload_n S.1 S.2.1 d_Mo_findRing_94 rfl (lv_at hl 0 rfl) ?_
                refine lv_aload_n S.1 S.2.1 d_Mo_findRing_95 rfl (lv_at hl 2 rfl) ?_
                refine m_gi S M (j := 19) ok_Mo (by decide) rfl (by decide) rfl kw_453 rfl d_Mo_findRing_96 ?_
                refine m_ige (tgt := 122) S d_Mo_findRing_99 (by decide) h (fun h => ?_) (fun h => ?_)
                · exact K2 _ (Option.some.inj h).symm ls _ _ (lv_sub hl [0, 1, 2] rfl) M
                · refine lv_aload_n S.1 S.2.1 d_Mo_findRing_102 rfl (lv_at hl 2 rfl) ?_
                  refine m_gs (t := 22) S M (j := 31) ok_Mo (by decide) rfl (by decide) rfl kw_499 rfl d_Mo_findRing_103 ?_
                  refine lv_iload_n S.1 S.2.1 d_Mo_findRing_106 rfl (lv_at hl 0 rfl) ?_
                  refine lv_iconst (v := 1) S.1 S.2.1 d_Mo_findRing_107 (by decide) ?_
                  refine lv_iadd S.1 S.2.1 d_Mo_findRing_108 ?_
                  refine lv_aload_n S.1 S.2.1 d_Mo_findRing_109 rfl (lv_at hl 2 rfl) ?_
                  refine m_gs (t := 14) S M (j := 16) ok_Mo (by decide) rfl (by decide) rfl kw_455 rfl d_Mo_findRing_110 ?_
                  refine lv_iload_n S.1 S.2.1 d_Mo_findRing_113 rfl (lv_at hl 0 rfl) ?_
                  refine m_ial (t0 := 0) S M (by decide) rfl rfl h d_Mo_findRing_114 (fun h => ?_)
                  refine m_ias (t0 := 0) S M (by decide) rfl rfl h d_Mo_findRing_115 (fun σ8 H locs h M => ?_)
                  refine lv_iinc (v := t94.1 + 1) (lv' := [(2, .int (t94.1 + 1)), (1, .int t7.1), (0, .ref (ad 0))]) S.1 S.2.1 d_Mo_findRing_116 hl (k := 0) rfl rfl (by decide) rfl (fun ls hl => ?_)
                  refine lv_goto (tgt := 94) S.1 S.2.1 d_Mo_findRing_119 (by decide) ?_
                  exact K1 _ (Option.some.inj h).symm ls _ _ (lv_sub hl [0, 1, 2] rfl) M
              · intro ls H locs hl M
                refine lv_goto (tgt := 32) S.1 S.2.1 d_Mo_findRing_122 (by decide) ?_
                exact K1 _ (Option.some.inj h).symm ls _ _ (lv_sub hl [1, 2] rfl) M
        · intro ls H locs hl M
          refine lv_iinc (v := t7.1 + 1) (lv' := [(1, .int (t7.1 + 1)), (0, .ref (ad 0))]) S.1 S.2.1 d_Mo_findRing_125 hl (k := 0) rfl rfl (by decide) rfl (fun ls hl => ?_)
          refine lv_goto (tgt := 7) S.1 S.2.1 d_Mo_findRing_128 (by decide) ?_
          exact K1 _ (Option.some.inj h).symm ls _ _ (lv_sub hl [0, 1] rfl) M
      · refine lv_goto (tgt := 125) S.1 S.2.1 d_Mo_findRing_24 (by decide) ?_
        refine lv_iinc (v := t7.1 + 1) (lv' := [(1, .int (t7.1 + 1)), (0, .ref (ad 0))]) S.1 S.2.1 d_Mo_findRing_125 hl (k := 0) rfl rfl (by decide) rfl (fun ls hl => ?_)
        refine lv_goto (tgt := 7) S.1 S.2.1 d_Mo_findRing_128 (by decide) ?_
        exact K1 _ (Option.some.inj h).symm ls _ _ (lv_sub hl [0, 1] rfl) M
  · intro ls H locs hl M
    subst hQ; exact m_vret S hr hlk M (Option.some.inj h) d_Mo_findRing_131
theorem d_Mo_ring_0 : decode prog_12_method_47_code 0 = .ok (.aload_n 0, 1) := by decide +kernel
theorem d_Mo_ring_1 : decode prog_12_method_47_code 1 = .ok (.invokevirtual 190, 3) := by decide +kernel
theorem d_Mo_ring_4 : decode prog_12_method_47_code 4 = .ok (.aload_n 0, 1) := by decide +kernel
theorem d_Mo_ring_5 : decode prog_12_method_47_code 5 = .ok (.getfield 181, 3) := by decide +kernel
theorem d_Mo_ring_8 : decode prog_12_method_47_code 8 = .ok (.ifCond .ne 8, 3) := by decide +kernel
theorem d_Mo_ring_11 : decode prog_12_method_47_code 11 = .ok (.bipush (-3), 2) := by decide +kernel
theorem d_Mo_ring_13 : decode prog_12_method_47_code 13 = .ok (.goto 7, 3) := by decide +kernel
theorem d_Mo_ring_16 : decode prog_12_method_47_code 16 = .ok (.aload_n 0, 1) := by decide +kernel
theorem d_Mo_ring_17 : decode prog_12_method_47_code 17 = .ok (.getfield 184, 3) := by decide +kernel
theorem d_Mo_ring_20 : decode prog_12_method_47_code 20 = .ok (.ireturn, 1) := by decide +kernel
def rm_Mo_ring : Room := { frames := 3, cells := 0, slots := 0, locals := 70 }
def f_Mo_ring (σ : mS) : Option (Int32 × mS) :=
  (f_Mo_findRing σ).bind fun σ1 =>
  if (σ1.1 0 30) = 0 then (
  some ((-3), σ1)) else (
  some (σ1.1 0 29, σ1))
set_option maxHeartbeats 4000000 in
set_option maxRecDepth 100000 in
theorem c_Mo_ring (l : Launch) (D : va_G) (cA ad : Nat → Nat) (σ : mS) (o : Int32 × mS) (h : f_Mo_ring σ = some o) : mCi l ⟨"LeastPathsModel", "ring", "()I"⟩ (Cond.code ⟨"LeastPathsModel", "ring", "()I"⟩ prog_12_method_47_code 1 (Option.some Jvm.ClassFile.FieldType.int) :: tlG) rm_Mo_ring D clX (tyK cA) 23 (tbY cA) ad σ [.ref (ad 0)] o := by
  intro sz
  refine m_of (cc := prog_12_method_47_code) (maxL := 1) (Qc := mQi D clX (tyK cA) 23 (tbY cA) ad o) (by decide) (Nat.le_of_ble_eq_true rfl) (fun p e s m args below meth c ls S hr hlk hnm hl M => ?_) sz
  have hl : lv_has ls 1 [(0, .ref (ad 0))] := hl
  generalize hQ : MQ _ _ _ _ _ _ _ = Q
  skip
  unfold f_Mo_ring at h
  refine lv_aload_n S.1 S.2.1 d_Mo_ring_0 rfl (lv_at hl 0 rfl) ?_
  refine m_xv h (fun o ho => m_rV (As := []) (rest := []) S M hl.1 (cwG (n := 0) S.2.2.2.2 kw_504 kw_505 kw_506 kw_391 kw_507 (by decide) ⟨Nat.le_of_ble_eq_true rfl, Nat.le_of_ble_eq_true rfl⟩) ok_Mo (by decide) rfl (c_Mo_findRing l D cA ad σ o ho _) rfl rfl (Nat.le_of_ble_eq_true rfl) d_Mo_ring_1 ⟨Nat.zero_le _, Nat.zero_le _⟩) M (fun σ1 H locs h M => ?_)
  refine lv_aload_n S.1 S.2.1 d_Mo_ring_4 rfl (lv_at hl 0 rfl) ?_
  refine m_gi S M (j := 30) ok_Mo (by decide) rfl (by decide) rfl kw_497 rfl d_Mo_ring_5 ?_
  refine m_ifne (tgt := 16) S d_Mo_ring_8 (by decide) h (fun h => ?_) (fun h => ?_)
  · refine lv_aload_n S.1 S.2.1 d_Mo_ring_16 rfl (lv_at hl 0 rfl) ?_
    refine m_gi S M (j := 29) ok_Mo (by decide) rfl (by decide) rfl kw_498 rfl d_Mo_ring_17 ?_
    subst hQ; exact m_iret S hr hlk M (Option.some.inj h) d_Mo_ring_20
  · refine lv_bipush (v := (-3)) S.1 S.2.1 d_Mo_ring_11 (by decide) ?_
    refine lv_goto (tgt := 20) S.1 S.2.1 d_Mo_ring_13 (by decide) ?_
    subst hQ; exact m_iret S hr hlk M (Option.some.inj h) d_Mo_ring_20
theorem d_Mo_ringArc_0 : decode prog_12_method_48_code 0 = .ok (.aload_n 0, 1) := by decide +kernel
theorem d_Mo_ringArc_1 : decode prog_12_method_48_code 1 = .ok (.invokevirtual 190, 3) := by decide +kernel
theorem d_Mo_ringArc_4 : decode prog_12_method_48_code 4 = .ok (.aload_n 0, 1) := by decide +kernel
theorem d_Mo_ringArc_5 : decode prog_12_method_48_code 5 = .ok (.getfield 181, 3) := by decide +kernel
theorem d_Mo_ringArc_8 : decode prog_12_method_48_code 8 = .ok (.ifCond .ne 8, 3) := by decide +kernel
theorem d_Mo_ringArc_11 : decode prog_12_method_48_code 11 = .ok (.bipush (-3), 2) := by decide +kernel
theorem d_Mo_ringArc_13 : decode prog_12_method_48_code 13 = .ok (.goto 25, 3) := by decide +kernel
theorem d_Mo_ringArc_16 : decode prog_12_method_48_code 16 = .ok (.iload_n 1, 1) := by decide +kernel
theorem d_Mo_ringArc_17 : decode prog_12_method_48_code 17 = .ok (.ifCond .lt 20, 3) := by decide +kernel
theorem d_Mo_ringArc_20 : decode prog_12_method_48_code 20 = .ok (.iload_n 1, 1) := by decide +kernel
theorem d_Mo_ringArc_21 : decode prog_12_method_48_code 21 = .ok (.aload_n 0, 1) := by decide +kernel
theorem d_Mo_ringArc_22 : decode prog_12_method_48_code 22 = .ok (.getfield 181, 3) := by decide +kernel
theorem d_Mo_ringArc_25 : decode prog_12_method_48_code 25 = .ok (.if_icmp .ge 12, 3) := by decide +kernel
theorem d_Mo_ringArc_28 : decode prog_12_method_48_code 28 = .ok (.aload_n 0, 1) := by decide +kernel
theorem d_Mo_ringArc_29 : decode prog_12_method_48_code 29 = .ok (.getfield 79, 3) := by decide +kernel
theorem d_Mo_ringArc_32 : decode prog_12_method_48_code 32 = .ok (.iload_n 1, 1) := by decide +kernel
theorem d_Mo_ringArc_33 : decode prog_12_method_48_code 33 = .ok (.iaload, 1) := by decide +kernel
theorem d_Mo_ringArc_34 : decode prog_12_method_48_code 34 = .ok (.goto 4, 3) := by decide +kernel
theorem d_Mo_ringArc_37 : decode prog_12_method_48_code 37 = .ok (.iconst (-1), 1) := by decide +kernel
theorem d_Mo_ringArc_38 : decode prog_12_method_48_code 38 = .ok (.ireturn, 1) := by decide +kernel
def rm_Mo_ringArc : Room := { frames := 3, cells := 0, slots := 0, locals := 70 }
def f_Mo_ringArc (σ : mS) (x1 : Int32) : Option (Int32 × mS) :=
  (f_Mo_findRing σ).bind fun σ1 =>
  if (σ1.1 0 30) = 0 then (
  some ((-3), σ1)) else (
  if x1 < 0 then (
  some ((-1), σ1)) else (
  if (σ1.1 0 30) ≤ x1 then (
  some ((-1), σ1)) else (
  gd (inb x1 12) (
  some (σ1.1 22 x1.toNatClampNeg, σ1)))))
set_option maxHeartbeats 4000000 in
set_option maxRecDepth 100000 in
theorem c_Mo_ringArc (l : Launch) (D : va_G) (cA ad : Nat → Nat) (σ : mS) (x1 : Int32) (o : Int32 × mS) (h : f_Mo_ringArc σ x1 = some o) : mCi l ⟨"LeastPathsModel", "ringArc", "(I)I"⟩ (Cond.code ⟨"LeastPathsModel", "ringArc", "(I)I"⟩ prog_12_method_48_code 2 (Option.some Jvm.ClassFile.FieldType.int) :: tlG) rm_Mo_ringArc D clX (tyK cA) 23 (tbY cA) ad σ [.ref (ad 0), .int x1] o := by
  intro sz
  refine m_of (cc := prog_12_method_48_code) (maxL := 2) (Qc := mQi D clX (tyK cA) 23 (tbY cA) ad o) (by decide) (Nat.le_of_ble_eq_true rfl) (fun p e s m args below meth c ls S hr hlk hnm hl M => ?_) sz
  have hl : lv_has ls 2 [(0, .ref (ad 0)), (1, .int x1)] := hl
  generalize hQ : MQ _ _ _ _ _ _ _ = Q
  skip
  unfold f_Mo_ringArc at h
  refine lv_aload_n S.1 S.2.1 d_Mo_ringArc_0 rfl (lv_at hl 0 rfl) ?_
  refine m_xv h (fun o ho => m_rV (As := []) (rest := []) S M hl.1 (cwG (n := 0) S.2.2.2.2 kw_504 kw_505 kw_506 kw_391 kw_507 (by decide) ⟨Nat.le_of_ble_eq_true rfl, Nat.le_of_ble_eq_true rfl⟩) ok_Mo (by decide) rfl (c_Mo_findRing l D cA ad σ o ho _) rfl rfl (Nat.le_of_ble_eq_true rfl) d_Mo_ringArc_1 ⟨Nat.zero_le _, Nat.zero_le _⟩) M (fun σ1 H locs h M => ?_)
  refine lv_aload_n S.1 S.2.1 d_Mo_ringArc_4 rfl (lv_at hl 0 rfl) ?_
  refine m_gi S M (j := 30) ok_Mo (by decide) rfl (by decide) rfl kw_497 rfl d_Mo_ringArc_5 ?_
  refine m_ifne (tgt := 16) S d_Mo_ringArc_8 (by decide) h (fun h => ?_) (fun h => ?_)
  · refine lv_iload_n S.1 S.2.1 d_Mo_ringArc_16 rfl (lv_at hl 1 rfl) ?_
    refine m_iflt (tgt := 37) S d_Mo_ringArc_17 (by decide) h (fun h => ?_) (fun h => ?_)
    · refine lv_iconst (v := (-1)) S.1 S.2.1 d_Mo_ringArc_37 (by decide) ?_
      subst hQ; exact m_iret S hr hlk M (Option.some.inj h) d_Mo_ringArc_38
    · refine lv_iload_n S.1 S.2.1 d_Mo_ringArc_20 rfl (lv_at hl 1 rfl) ?_
      refine lv_aload_n S.1 S.2.1 d_Mo_ringArc_21 rfl (lv_at hl 0 rfl) ?_
      refine m_gi S M (j := 30) ok_Mo (by decide) rfl (by decide) rfl kw_497 rfl d_Mo_ringArc_22 ?_
      refine m_ige (tgt := 37) S d_Mo_ringArc_25 (by decide) h (fun h => ?_) (fun h => ?_)
      · refine lv_iconst (v := (-1)) S.1 S.2.1 d_Mo_ringArc_37 (by decide) ?_
        subst hQ; exact m_iret S hr hlk M (Option.some.inj h) d_Mo_ringArc_38
      · refine lv_aload_n S.1 S.2.1 d_Mo_ringArc_28 rfl (lv_at hl 0 rfl) ?_
        refine m_gs (t := 22) S M (j := 31) ok_Mo (by decide) rfl (by decide) rfl kw_499 rfl d_Mo_ringArc_29 ?_
        refine lv_iload_n S.1 S.2.1 d_Mo_ringArc_32 rfl (lv_at hl 1 rfl) ?_
        refine m_ial (t0 := 0) S M (by decide) rfl rfl h d_Mo_ringArc_33 (fun h => ?_)
        refine lv_goto (tgt := 38) S.1 S.2.1 d_Mo_ringArc_34 (by decide) ?_
        subst hQ; exact m_iret S hr hlk M (Option.some.inj h) d_Mo_ringArc_38
  · refine lv_bipush (v := (-3)) S.1 S.2.1 d_Mo_ringArc_11 (by decide) ?_
    refine lv_goto (tgt := 38) S.1 S.2.1 d_Mo_ringArc_13 (by decide) ?_
    subst hQ; exact m_iret S hr hlk M (Option.some.inj h) d_Mo_ringArc_38
theorem d_Mo_lengthWithout_0 : decode prog_12_method_49_code 0 = .ok (.iconst 0, 1) := by decide +kernel
theorem d_Mo_lengthWithout_1 : decode prog_12_method_49_code 1 = .ok (.istore 4, 2) := by decide +kernel
theorem d_Mo_lengthWithout_3 : decode prog_12_method_49_code 3 = .ok (.iload 4, 2) := by decide +kernel
theorem d_Mo_lengthWithout_5 : decode prog_12_method_49_code 5 = .ok (.aload_n 0, 1) := by decide +kernel
theorem d_Mo_lengthWithout_6 : decode prog_12_method_49_code 6 = .ok (.getfield 85, 3) := by decide +kernel
theorem d_Mo_lengthWithout_9 : decode prog_12_method_49_code 9 = .ok (.if_icmp .ge 36, 3) := by decide +kernel
theorem d_Mo_lengthWithout_12 : decode prog_12_method_49_code 12 = .ok (.aload_n 0, 1) := by decide +kernel
theorem d_Mo_lengthWithout_13 : decode prog_12_method_49_code 13 = .ok (.getfield 35, 3) := by decide +kernel
theorem d_Mo_lengthWithout_16 : decode prog_12_method_49_code 16 = .ok (.iload 4, 2) := by decide +kernel
theorem d_Mo_lengthWithout_18 : decode prog_12_method_49_code 18 = .ok (.iload 4, 2) := by decide +kernel
theorem d_Mo_lengthWithout_20 : decode prog_12_method_49_code 20 = .ok (.iload_n 1, 1) := by decide +kernel
theorem d_Mo_lengthWithout_21 : decode prog_12_method_49_code 21 = .ok (.if_icmp .ne 7, 3) := by decide +kernel
theorem d_Mo_lengthWithout_24 : decode prog_12_method_49_code 24 = .ok (.iconst 0, 1) := by decide +kernel
theorem d_Mo_lengthWithout_25 : decode prog_12_method_49_code 25 = .ok (.goto 5, 3) := by decide +kernel
theorem d_Mo_lengthWithout_28 : decode prog_12_method_49_code 28 = .ok (.ldc 102, 2) := by decide +kernel
theorem d_Mo_lengthWithout_30 : decode prog_12_method_49_code 30 = .ok (.iastore, 1) := by decide +kernel
theorem d_Mo_lengthWithout_31 : decode prog_12_method_49_code 31 = .ok (.aload_n 0, 1) := by decide +kernel
theorem d_Mo_lengthWithout_32 : decode prog_12_method_49_code 32 = .ok (.getfield 38, 3) := by decide +kernel
theorem d_Mo_lengthWithout_35 : decode prog_12_method_49_code 35 = .ok (.iload 4, 2) := by decide +kernel
theorem d_Mo_lengthWithout_37 : decode prog_12_method_49_code 37 = .ok (.iconst 0, 1) := by decide +kernel
theorem d_Mo_lengthWithout_38 : decode prog_12_method_49_code 38 = .ok (.iastore, 1) := by decide +kernel
theorem d_Mo_lengthWithout_39 : decode prog_12_method_49_code 39 = .ok (.iinc 4 1, 3) := by decide +kernel
theorem d_Mo_lengthWithout_42 : decode prog_12_method_49_code 42 = .ok (.goto (-39), 3) := by decide +kernel
theorem d_Mo_lengthWithout_45 : decode prog_12_method_49_code 45 = .ok (.aload_n 0, 1) := by decide +kernel
theorem d_Mo_lengthWithout_46 : decode prog_12_method_49_code 46 = .ok (.iload_n 3, 1) := by decide +kernel
theorem d_Mo_lengthWithout_47 : decode prog_12_method_49_code 47 = .ok (.invokevirtual 103, 3) := by decide +kernel
theorem d_Mo_lengthWithout_50 : decode prog_12_method_49_code 50 = .ok (.aload_n 0, 1) := by decide +kernel
theorem d_Mo_lengthWithout_51 : decode prog_12_method_49_code 51 = .ok (.getfield 35, 3) := by decide +kernel
theorem d_Mo_lengthWithout_54 : decode prog_12_method_49_code 54 = .ok (.iload_n 2, 1) := by decide +kernel
theorem d_Mo_lengthWithout_55 : decode prog_12_method_49_code 55 = .ok (.iaload, 1) := by decide +kernel
theorem d_Mo_lengthWithout_56 : decode prog_12_method_49_code 56 = .ok (.ireturn, 1) := by decide +kernel
def rm_Mo_lengthWithout : Room := { frames := 1, cells := 0, slots := 0, locals := 26 }
def f_Mo_lengthWithout_J30 (t3 : Int32 × mS) (j1 : Int32) : Option ((Int32 × mS) ⊕ (Int32 × mS)) :=
  gd (inb t3.1 10) ((nm (sI t3.2 9 t3.1.toNatClampNeg j1) fun σ2 =>
  gd (inb t3.1 10) ((nm (sI σ2 10 t3.1.toNatClampNeg 0) fun σ3 =>
  some (.inl (t3.1 + 1, σ3))))))
def f_Mo_lengthWithout_L3 (x1 : Int32) : (Int32 × mS) → Option ((Int32 × mS) ⊕ (Int32 × mS)) := fun t3 =>
  if (t3.2.1 0 1) ≤ t3.1 then (
  some (.inr (t3.1, t3.2))) else (
  if t3.1 = x1 then (
  f_Mo_lengthWithout_J30 t3 0) else (
  f_Mo_lengthWithout_J30 t3 1000000000))
def f_Mo_lengthWithout (σ : mS) (x1 : Int32) (x2 : Int32) (x3 : Int32) : Option (Int32 × mS) :=
  (lpN (f_Mo_lengthWithout_L3 x1) fuB (0, σ)).bind fun u3 =>
  (f_Mo_relax u3.2 x3).bind fun σ4 =>
  gd (inb x2 10) (
  some (σ4.1 9 x2.toNatClampNeg, σ4))
set_option maxHeartbeats 4000000 in
set_option maxRecDepth 100000 in
theorem c_Mo_lengthWithout (l : Launch) (D : va_G) (cA ad : Nat → Nat) (σ : mS) (x1 : Int32) (x2 : Int32) (x3 : Int32) (o : Int32 × mS) (h : f_Mo_lengthWithout σ x1 x2 x3 = some o) : mCi l ⟨"LeastPathsModel", "lengthWithout", "(III)I"⟩ (Cond.code ⟨"LeastPathsModel", "lengthWithout", "(III)I"⟩ prog_12_method_49_code 5 (Option.some Jvm.ClassFile.FieldType.int) :: tlG) rm_Mo_lengthWithout D clX (tyK cA) 23 (tbY cA) ad σ [.ref (ad 0), .int x1, .int x2, .int x3] o := by
  intro sz
  refine m_of (cc := prog_12_method_49_code) (maxL := 5) (Qc := mQi D clX (tyK cA) 23 (tbY cA) ad o) (by decide) (Nat.le_of_ble_eq_true rfl) (fun p e s m args below meth c ls S hr hlk hnm hl M => ?_) sz
  have hl : lv_has ls 5 [(0, .ref (ad 0)), (1, .int x1), (2, .int x2), (3, .int x3)] := hl
  generalize hQ : MQ _ _ _ _ _ _ _ = Q
  skip
  unfold f_Mo_lengthWithout at h
  refine lv_iconst (v := 0) S.1 S.2.1 d_Mo_lengthWithout_0 (by decide) ?_
  refine lv_istore (lv' := [(4, .int 0), (0, .ref (ad 0)), (1, .int x1), (2, .int x2), (3, .int x3)]) S.1 S.2.1 d_Mo_lengthWithout_1 hl (by decide) rfl (fun ls hl => ?_)
  obtain ⟨u3, q3, h⟩ := Option.bind_eq_some_iff.mp h
  refine lpN_W1 (st := f_Mo_lengthWithout_L3 x1) (fun (t3 : Int32 × mS) => ∀ (ls : Array Slot) (H : Heap) (locs : List Loc), lv_has ls 5 [(4, .int t3.1), (0, .ref (ad 0)), (1, .int x1), (2, .int x2), (3, .int x3)] → mM D clX (tyK cA) (mA 23 ad s.heap.size) s 23 (tbY cA) ad t3.2 H locs → W p l e rm_Mo_lengthWithout s m args below meth c H locs 0 0 Q (F0 m 3 ls [])) (fun (u3 : Int32 × mS) => ∀ (ls : Array Slot) (H : Heap) (locs : List Loc), lv_has ls 5 [(4, .int u3.1), (0, .ref (ad 0)), (1, .int x1), (2, .int x2), (3, .int x3)] → mM D clX (tyK cA) (mA 23 ad s.heap.size) s 23 (tbY cA) ad u3.2 H locs → W p l e rm_Mo_lengthWithout s m args below meth c H locs 0 0 Q (F0 m 45 ls [])) ?_ fuB ((0, σ) : Int32 × mS) u3 q3 ?_ ls _ _ (lv_sub hl [0, 1, 2, 3, 4] rfl) M
  · intro t3 oo3 h K1 K2 ls H locs hl M
    unfold f_Mo_lengthWithout_L3 at h
    refine lv_iload S.1 S.2.1 d_Mo_lengthWithout_3 (lv_at hl 0 rfl) ?_
    refine lv_aload_n S.1 S.2.1 d_Mo_lengthWithout_5 rfl (lv_at hl 1 rfl) ?_
    refine m_gi S M (j := 1) ok_Mo (by decide) rfl (by decide) rfl kw_382 rfl d_Mo_lengthWithout_6 ?_
    refine m_ige (tgt := 45) S d_Mo_lengthWithout_9 (by decide) h (fun h => ?_) (fun h => ?_)
    · exact K2 _ (Option.some.inj h).symm ls _ _ (lv_sub hl [0, 1, 2, 3, 4] rfl) M
    · refine lv_aload_n S.1 S.2.1 d_Mo_lengthWithout_12 rfl (lv_at hl 1 rfl) ?_
      refine m_gs (t := 9) S M (j := 11) ok_Mo (by decide) rfl (by decide) rfl kw_407 rfl d_Mo_lengthWithout_13 ?_
      refine lv_iload S.1 S.2.1 d_Mo_lengthWithout_16 (lv_at hl 0 rfl) ?_
      refine lv_iload S.1 S.2.1 d_Mo_lengthWithout_18 (lv_at hl 0 rfl) ?_
      refine lv_iload_n S.1 S.2.1 d_Mo_lengthWithout_20 rfl (lv_at hl 2 rfl) ?_
      have J30 : ∀ (j1 : Int32) (ls : Array Slot) (H : Heap) (locs : List Loc), f_Mo_lengthWithout_J30 t3 j1 = some oo3 → lv_has ls 5 [(4, .int t3.1), (0, .ref (ad 0)), (1, .int x1), (2, .int x2), (3, .int x3)] → mM D clX (tyK cA) (mA 23 ad s.heap.size) s 23 (tbY cA) ad t3.2 H locs → W p l e rm_Mo_lengthWithout s m args below meth c H locs 0 0 Q (F0 m 30 ls [.int j1, .int t3.1, .ref (ad 9)]) := by
        intro j1 ls H locs h hl M
        unfold f_Mo_lengthWithout_J30 at h
        refine m_ias (t0 := 0) S M (by decide) rfl rfl h d_Mo_lengthWithout_30 (fun σ2 H locs h M => ?_)
        refine lv_aload_n S.1 S.2.1 d_Mo_lengthWithout_31 rfl (lv_at hl 1 rfl) ?_
        refine m_gs (t := 10) S M (j := 12) ok_Mo (by decide) rfl (by decide) rfl kw_409 rfl d_Mo_lengthWithout_32 ?_
        refine lv_iload S.1 S.2.1 d_Mo_lengthWithout_35 (lv_at hl 0 rfl) ?_
        refine lv_iconst (v := 0) S.1 S.2.1 d_Mo_lengthWithout_37 (by decide) ?_
        refine m_ias (t0 := 0) S M (by decide) rfl rfl h d_Mo_lengthWithout_38 (fun σ3 H locs h M => ?_)
        refine lv_iinc (v := t3.1 + 1) (lv' := [(4, .int (t3.1 + 1)), (0, .ref (ad 0)), (1, .int x1), (2, .int x2), (3, .int x3)]) S.1 S.2.1 d_Mo_lengthWithout_39 hl (k := 0) rfl rfl (by decide) rfl (fun ls hl => ?_)
        refine lv_goto (tgt := 3) S.1 S.2.1 d_Mo_lengthWithout_42 (by decide) ?_
        exact K1 _ (Option.some.inj h).symm ls _ _ (lv_sub hl [0, 1, 2, 3, 4] rfl) M
      refine m_ine (tgt := 28) S d_Mo_lengthWithout_21 (by decide) h (fun h => ?_) (fun h => ?_)
      · refine lv_ldc (v := 1000000000) S.1 S.2.1 S.2.2.2.1 (S.2.2.2.2 _ kw_408) d_Mo_lengthWithout_28 ?_
        exact J30 _ ls _ _ h (lv_sub hl [0, 1, 2, 3, 4] rfl) M
      · refine lv_iconst (v := 0) S.1 S.2.1 d_Mo_lengthWithout_24 (by decide) ?_
        refine lv_goto (tgt := 30) S.1 S.2.1 d_Mo_lengthWithout_25 (by decide) ?_
        exact J30 _ ls _ _ h (lv_sub hl [0, 1, 2, 3, 4] rfl) M
  · intro ls H locs hl M
    refine lv_aload_n S.1 S.2.1 d_Mo_lengthWithout_45 rfl (lv_at hl 1 rfl) ?_
    refine lv_iload_n S.1 S.2.1 d_Mo_lengthWithout_46 rfl (lv_at hl 4 rfl) ?_
    refine m_xv h (fun o ho => m_rV (As := [.int x3]) (rest := []) S M hl.1 (cwG (n := 1) S.2.2.2.2 kw_410 kw_411 kw_412 kw_391 kw_413 (by decide) ⟨Nat.le_of_ble_eq_true rfl, Nat.le_of_ble_eq_true rfl⟩) ok_Mo (by decide) rfl (c_Mo_relax l D cA ad u3.2 x3 o ho _) rfl rfl (Nat.le_of_ble_eq_true rfl) d_Mo_lengthWithout_47 ⟨Nat.zero_le _, Nat.zero_le _⟩) M (fun σ4 H locs h M => ?_)
    refine lv_aload_n S.1 S.2.1 d_Mo_lengthWithout_50 rfl (lv_at hl 1 rfl) ?_
    refine m_gs (t := 9) S M (j := 11) ok_Mo (by decide) rfl (by decide) rfl kw_407 rfl d_Mo_lengthWithout_51 ?_
    refine lv_iload_n S.1 S.2.1 d_Mo_lengthWithout_54 rfl (lv_at hl 3 rfl) ?_
    refine m_ial (t0 := 0) S M (by decide) rfl rfl h d_Mo_lengthWithout_55 (fun h => ?_)
    subst hQ; exact m_iret S hr hlk M (Option.some.inj h) d_Mo_lengthWithout_56
