theorem d_Mo_canGo_0 : decode prog_12_method_36_code 0 = .ok (.aload_n 0, 1) := by decide +kernel
theorem d_Mo_canGo_1 : decode prog_12_method_36_code 1 = .ok (.getfield 25, 3) := by decide +kernel
theorem d_Mo_canGo_4 : decode prog_12_method_36_code 4 = .ok (.iload_n 1, 1) := by decide +kernel
theorem d_Mo_canGo_5 : decode prog_12_method_36_code 5 = .ok (.baload, 1) := by decide +kernel
theorem d_Mo_canGo_6 : decode prog_12_method_36_code 6 = .ok (.ifCond .eq 26, 3) := by decide +kernel
theorem d_Mo_canGo_9 : decode prog_12_method_36_code 9 = .ok (.iload_n 1, 1) := by decide +kernel
theorem d_Mo_canGo_10 : decode prog_12_method_36_code 10 = .ok (.iload_n 2, 1) := by decide +kernel
theorem d_Mo_canGo_11 : decode prog_12_method_36_code 11 = .ok (.if_icmp .le 21, 3) := by decide +kernel
theorem d_Mo_canGo_14 : decode prog_12_method_36_code 14 = .ok (.aload_n 0, 1) := by decide +kernel
theorem d_Mo_canGo_15 : decode prog_12_method_36_code 15 = .ok (.getfield 7, 3) := by decide +kernel
theorem d_Mo_canGo_18 : decode prog_12_method_36_code 18 = .ok (.iload_n 1, 1) := by decide +kernel
theorem d_Mo_canGo_19 : decode prog_12_method_36_code 19 = .ok (.iaload, 1) := by decide +kernel
theorem d_Mo_canGo_20 : decode prog_12_method_36_code 20 = .ok (.aload_n 0, 1) := by decide +kernel
theorem d_Mo_canGo_21 : decode prog_12_method_36_code 21 = .ok (.getfield 56, 3) := by decide +kernel
theorem d_Mo_canGo_24 : decode prog_12_method_36_code 24 = .ok (.aload_n 0, 1) := by decide +kernel
theorem d_Mo_canGo_25 : decode prog_12_method_36_code 25 = .ok (.getfield 139, 3) := by decide +kernel
theorem d_Mo_canGo_28 : decode prog_12_method_36_code 28 = .ok (.iaload, 1) := by decide +kernel
theorem d_Mo_canGo_29 : decode prog_12_method_36_code 29 = .ok (.if_icmp .eq 5, 3) := by decide +kernel
theorem d_Mo_canGo_32 : decode prog_12_method_36_code 32 = .ok (.iconst 0, 1) := by decide +kernel
theorem d_Mo_canGo_33 : decode prog_12_method_36_code 33 = .ok (.ireturn, 1) := by decide +kernel
theorem d_Mo_canGo_34 : decode prog_12_method_36_code 34 = .ok (.iconst 0, 1) := by decide +kernel
theorem d_Mo_canGo_35 : decode prog_12_method_36_code 35 = .ok (.istore 4, 2) := by decide +kernel
theorem d_Mo_canGo_37 : decode prog_12_method_36_code 37 = .ok (.iload 4, 2) := by decide +kernel
theorem d_Mo_canGo_39 : decode prog_12_method_36_code 39 = .ok (.aload_n 0, 1) := by decide +kernel
theorem d_Mo_canGo_40 : decode prog_12_method_36_code 40 = .ok (.getfield 139, 3) := by decide +kernel
theorem d_Mo_canGo_43 : decode prog_12_method_36_code 43 = .ok (.if_icmp .gt 27, 3) := by decide +kernel
theorem d_Mo_canGo_46 : decode prog_12_method_36_code 46 = .ok (.aload_n 0, 1) := by decide +kernel
theorem d_Mo_canGo_47 : decode prog_12_method_36_code 47 = .ok (.getfield 56, 3) := by decide +kernel
theorem d_Mo_canGo_50 : decode prog_12_method_36_code 50 = .ok (.iload 4, 2) := by decide +kernel
theorem d_Mo_canGo_52 : decode prog_12_method_36_code 52 = .ok (.iaload, 1) := by decide +kernel
theorem d_Mo_canGo_53 : decode prog_12_method_36_code 53 = .ok (.aload_n 0, 1) := by decide +kernel
theorem d_Mo_canGo_54 : decode prog_12_method_36_code 54 = .ok (.getfield 13, 3) := by decide +kernel
theorem d_Mo_canGo_57 : decode prog_12_method_36_code 57 = .ok (.iload_n 1, 1) := by decide +kernel
theorem d_Mo_canGo_58 : decode prog_12_method_36_code 58 = .ok (.iaload, 1) := by decide +kernel
theorem d_Mo_canGo_59 : decode prog_12_method_36_code 59 = .ok (.if_icmp .ne 5, 3) := by decide +kernel
theorem d_Mo_canGo_62 : decode prog_12_method_36_code 62 = .ok (.iconst 0, 1) := by decide +kernel
theorem d_Mo_canGo_63 : decode prog_12_method_36_code 63 = .ok (.ireturn, 1) := by decide +kernel
theorem d_Mo_canGo_64 : decode prog_12_method_36_code 64 = .ok (.iinc 4 1, 3) := by decide +kernel
theorem d_Mo_canGo_67 : decode prog_12_method_36_code 67 = .ok (.goto (-30), 3) := by decide +kernel
theorem d_Mo_canGo_70 : decode prog_12_method_36_code 70 = .ok (.iconst 1, 1) := by decide +kernel
theorem d_Mo_canGo_71 : decode prog_12_method_36_code 71 = .ok (.ireturn, 1) := by decide +kernel
def rm_Mo_canGo : Room := { frames := 0, cells := 0, slots := 0, locals := 0 }
def f_Mo_canGo_L37 (σ : mS) (x1 : Int32) : (Int32) → Option ((Int32) ⊕ ((Int32) ⊕ (Int32))) := fun t37 =>
  if (σ.1 0 19) < t37 then (
  some (.inr (.inl (t37)))) else (
  gd (inb t37 12) (
  gd (inb x1 40) (
  if (σ.1 16 t37.toNatClampNeg) = (σ.1 2 x1.toNatClampNeg) then (
  some (.inr (.inr 0))) else (
  some (.inl (t37 + 1))))))
def f_Mo_canGo (σ : mS) (x1 : Int32) (x2 : Int32) (x3 : Int32) : Option (Int32) :=
  gd (inb x1 40) (
  if (σ.1 6 x1.toNatClampNeg) = 0 then (
  some 0) else (
  if x1 ≤ x2 then (
  some 0) else (
  gd (inb x1 40) (
  gd (inb (σ.1 0 19) 12) (
  if (σ.1 1 x1.toNatClampNeg) = (σ.1 16 (σ.1 0 19).toNatClampNeg) then (
  (lpN (f_Mo_canGo_L37 σ x1) fuB (0)).bind fun u37 => Sum.elim (fun e37 =>
  some 1)
  (fun y37 => some y37) u37) else (
  some 0))))))
set_option maxHeartbeats 4000000 in
set_option maxRecDepth 100000 in
theorem c_Mo_canGo (l : Launch) (D : va_G) (cA ad : Nat → Nat) (σ : mS) (x1 : Int32) (x2 : Int32) (x3 : Int32) (o : Int32) (h : f_Mo_canGo σ x1 x2 x3 = some o) : mCi l ⟨"LeastPathsModel", "canGo", "(III)Z"⟩ (Cond.code ⟨"LeastPathsModel", "canGo", "(III)Z"⟩ prog_12_method_36_code 5 (Option.some Jvm.ClassFile.FieldType.boolean) :: tlG) rm_Mo_canGo D clX (tyK cA) 23 (tbY cA) ad σ [.ref (ad 0), .int x1, .int x2, .int x3] (o, σ) := by
  intro sz
  refine m_of (cc := prog_12_method_36_code) (maxL := 5) (Qc := mQi D clX (tyK cA) 23 (tbY cA) ad (o, σ)) (by decide) (Nat.le_of_ble_eq_true rfl) (fun p e s m args below meth c ls S hr hlk hnm hl M => ?_) sz
  have hl : lv_has ls 5 [(0, .ref (ad 0)), (1, .int x1), (2, .int x2), (3, .int x3)] := hl
  generalize hQ : MQ _ _ _ _ _ _ _ = Q
  skip
  unfold f_Mo_canGo at h
  refine lv_aload_n S.1 S.2.1 d_Mo_canGo_0 rfl (lv_at hl 0 rfl) ?_
  refine m_gs (t := 6) S M (j := 8) ok_Mo (by decide) rfl (by decide) rfl kw_384 rfl d_Mo_canGo_1 ?_
  refine lv_iload_n S.1 S.2.1 d_Mo_canGo_4 rfl (lv_at hl 1 rfl) ?_
  refine m_zal (t0 := 2) S M (by decide) rfl rfl h d_Mo_canGo_5 (fun h => ?_)
  refine m_ifeq (tgt := 32) S d_Mo_canGo_6 (by decide) h (fun h => ?_) (fun h => ?_)
  · refine lv_iconst (v := 0) S.1 S.2.1 d_Mo_canGo_32 (by decide) ?_
    subst hQ; exact m_zret S hr hlk M (by rw [Option.some.inj h]) rfl d_Mo_canGo_33
  · refine lv_iload_n S.1 S.2.1 d_Mo_canGo_9 rfl (lv_at hl 1 rfl) ?_
    refine lv_iload_n S.1 S.2.1 d_Mo_canGo_10 rfl (lv_at hl 2 rfl) ?_
    refine m_ile (tgt := 32) S d_Mo_canGo_11 (by decide) h (fun h => ?_) (fun h => ?_)
    · refine lv_iconst (v := 0) S.1 S.2.1 d_Mo_canGo_32 (by decide) ?_
      subst hQ; exact m_zret S hr hlk M (by rw [Option.some.inj h]) rfl d_Mo_canGo_33
    · refine lv_aload_n S.1 S.2.1 d_Mo_canGo_14 rfl (lv_at hl 0 rfl) ?_
      refine m_gs (t := 1) S M (j := 3) ok_Mo (by decide) rfl (by decide) rfl kw_398 rfl d_Mo_canGo_15 ?_
      refine lv_iload_n S.1 S.2.1 d_Mo_canGo_18 rfl (lv_at hl 1 rfl) ?_
      refine m_ial (t0 := 0) S M (by decide) rfl rfl h d_Mo_canGo_19 (fun h => ?_)
      refine lv_aload_n S.1 S.2.1 d_Mo_canGo_20 rfl (lv_at hl 0 rfl) ?_
      refine m_gs (t := 16) S M (j := 18) ok_Mo (by decide) rfl (by decide) rfl kw_456 rfl d_Mo_canGo_21 ?_
      refine lv_aload_n S.1 S.2.1 d_Mo_canGo_24 rfl (lv_at hl 0 rfl) ?_
      refine m_gi S M (j := 19) ok_Mo (by decide) rfl (by decide) rfl kw_453 rfl d_Mo_canGo_25 ?_
      refine m_ial (t0 := 0) S M (by decide) rfl rfl h d_Mo_canGo_28 (fun h => ?_)
      refine m_ieq (tgt := 34) S d_Mo_canGo_29 (by decide) h (fun h => ?_) (fun h => ?_)
      · refine lv_iconst (v := 0) S.1 S.2.1 d_Mo_canGo_34 (by decide) ?_
        refine lv_istore (lv' := [(4, .int 0), (0, .ref (ad 0)), (1, .int x1), (2, .int x2), (3, .int x3)]) S.1 S.2.1 d_Mo_canGo_35 hl (by decide) rfl (fun ls hl => ?_)
        obtain ⟨u37, q37, h⟩ := Option.bind_eq_some_iff.mp h
        refine lpN_W2 (st := f_Mo_canGo_L37 σ x1) (fun (t37 : Int32) => ∀ (ls : Array Slot) (H : Heap) (locs : List Loc), lv_has ls 5 [(4, .int t37), (0, .ref (ad 0)), (1, .int x1), (2, .int x2), (3, .int x3)] → mM D clX (tyK cA) (mA 23 ad s.heap.size) s 23 (tbY cA) ad σ H locs → W p l e rm_Mo_canGo s m args below meth c H locs 0 0 Q (F0 m 37 ls [])) (fun (e37 : Int32) => ∀ (ls : Array Slot) (H : Heap) (locs : List Loc), lv_has ls 5 [(4, .int e37), (0, .ref (ad 0)), (1, .int x1), (2, .int x2), (3, .int x3)] → mM D clX (tyK cA) (mA 23 ad s.heap.size) s 23 (tbY cA) ad σ H locs → W p l e rm_Mo_canGo s m args below meth c H locs 0 0 Q (F0 m 70 ls [])) (fun (y37 : Int32) => ∀ (pc : Nat) (ls : Array Slot) (H : Heap) (locs : List Loc), decode prog_12_method_36_code pc = .ok (.ireturn, 1) → isB y37 = true → mM D clX (tyK cA) (mA 23 ad s.heap.size) s 23 (tbY cA) ad σ H locs → W p l e rm_Mo_canGo s m args below meth c H locs 0 0 Q (F0 m pc ls [.int y37])) ?_ fuB ((0) : Int32) u37 q37 ?_ ?_ ls _ _ (lv_sub hl [0, 1, 2, 3, 4] rfl) M
        · intro t37 oo37 h K1 K2 K3 ls H locs hl M
          unfold f_Mo_canGo_L37 at h
          refine lv_iload S.1 S.2.1 d_Mo_canGo_37 (lv_at hl 0 rfl) ?_
          refine lv_aload_n S.1 S.2.1 d_Mo_canGo_39 rfl (lv_at hl 1 rfl) ?_
          refine m_gi S M (j := 19) ok_Mo (by decide) rfl (by decide) rfl kw_453 rfl d_Mo_canGo_40 ?_
          refine m_igt (tgt := 70) S d_Mo_canGo_43 (by decide) h (fun h => ?_) (fun h => ?_)
          · exact K2 _ (Option.some.inj h).symm ls _ _ (lv_sub hl [0, 1, 2, 3, 4] rfl) M
          · refine lv_aload_n S.1 S.2.1 d_Mo_canGo_46 rfl (lv_at hl 1 rfl) ?_
            refine m_gs (t := 16) S M (j := 18) ok_Mo (by decide) rfl (by decide) rfl kw_456 rfl d_Mo_canGo_47 ?_
            refine lv_iload S.1 S.2.1 d_Mo_canGo_50 (lv_at hl 0 rfl) ?_
            refine m_ial (t0 := 0) S M (by decide) rfl rfl h d_Mo_canGo_52 (fun h => ?_)
            refine lv_aload_n S.1 S.2.1 d_Mo_canGo_53 rfl (lv_at hl 1 rfl) ?_
            refine m_gs (t := 2) S M (j := 4) ok_Mo (by decide) rfl (by decide) rfl kw_399 rfl d_Mo_canGo_54 ?_
            refine lv_iload_n S.1 S.2.1 d_Mo_canGo_57 rfl (lv_at hl 2 rfl) ?_
            refine m_ial (t0 := 0) S M (by decide) rfl rfl h d_Mo_canGo_58 (fun h => ?_)
            refine m_ine (tgt := 64) S d_Mo_canGo_59 (by decide) h (fun h => ?_) (fun h => ?_)
            · refine lv_iinc (v := t37 + 1) (lv' := [(4, .int (t37 + 1)), (0, .ref (ad 0)), (1, .int x1), (2, .int x2), (3, .int x3)]) S.1 S.2.1 d_Mo_canGo_64 hl (k := 0) rfl rfl (by decide) rfl (fun ls hl => ?_)
              refine lv_goto (tgt := 37) S.1 S.2.1 d_Mo_canGo_67 (by decide) ?_
              exact K1 _ (Option.some.inj h).symm ls _ _ (lv_sub hl [0, 1, 2, 3, 4] rfl) M
            · refine lv_iconst (v := 0) S.1 S.2.1 d_Mo_canGo_62 (by decide) ?_
              exact K3 _ (Option.some.inj h).symm _ ls _ _ d_Mo_canGo_63 rfl M
        · intro e37 q ls H locs hl M
          subst q
          dsimp only [Sum.elim_inl] at h
          refine lv_iconst (v := 1) S.1 S.2.1 d_Mo_canGo_70 (by decide) ?_
          subst hQ; exact m_zret S hr hlk M (by rw [Option.some.inj h]) rfl d_Mo_canGo_71
        · intro y37 q
          subst q
          dsimp only [Sum.elim_inr] at h
          intro pc ls H locs hd hB M
          subst hQ; exact m_zret S hr hlk M (by rw [Option.some.inj h]) hB hd
      · refine lv_iconst (v := 0) S.1 S.2.1 d_Mo_canGo_32 (by decide) ?_
        subst hQ; exact m_zret S hr hlk M (by rw [Option.some.inj h]) rfl d_Mo_canGo_33
theorem d_Mo_nextWay_0 : decode prog_12_method_34_code 0 = .ok (.aload_n 0, 1) := by decide +kernel
theorem d_Mo_nextWay_1 : decode prog_12_method_34_code 1 = .ok (.getfield 139, 3) := by decide +kernel
theorem d_Mo_nextWay_4 : decode prog_12_method_34_code 4 = .ok (.ifCond .ge 34, 3) := by decide +kernel
theorem d_Mo_nextWay_7 : decode prog_12_method_34_code 7 = .ok (.aload_n 0, 1) := by decide +kernel
theorem d_Mo_nextWay_8 : decode prog_12_method_34_code 8 = .ok (.iconst 0, 1) := by decide +kernel
theorem d_Mo_nextWay_9 : decode prog_12_method_34_code 9 = .ok (.putfield 139, 3) := by decide +kernel
theorem d_Mo_nextWay_12 : decode prog_12_method_34_code 12 = .ok (.aload_n 0, 1) := by decide +kernel
theorem d_Mo_nextWay_13 : decode prog_12_method_34_code 13 = .ok (.iconst 0, 1) := by decide +kernel
theorem d_Mo_nextWay_14 : decode prog_12_method_34_code 14 = .ok (.putfield 142, 3) := by decide +kernel
theorem d_Mo_nextWay_17 : decode prog_12_method_34_code 17 = .ok (.aload_n 0, 1) := by decide +kernel
theorem d_Mo_nextWay_18 : decode prog_12_method_34_code 18 = .ok (.getfield 56, 3) := by decide +kernel
theorem d_Mo_nextWay_21 : decode prog_12_method_34_code 21 = .ok (.iconst 0, 1) := by decide +kernel
theorem d_Mo_nextWay_22 : decode prog_12_method_34_code 22 = .ok (.iload_n 1, 1) := by decide +kernel
theorem d_Mo_nextWay_23 : decode prog_12_method_34_code 23 = .ok (.iastore, 1) := by decide +kernel
theorem d_Mo_nextWay_24 : decode prog_12_method_34_code 24 = .ok (.aload_n 0, 1) := by decide +kernel
theorem d_Mo_nextWay_25 : decode prog_12_method_34_code 25 = .ok (.getfield 53, 3) := by decide +kernel
theorem d_Mo_nextWay_28 : decode prog_12_method_34_code 28 = .ok (.iconst 0, 1) := by decide +kernel
theorem d_Mo_nextWay_29 : decode prog_12_method_34_code 29 = .ok (.iconst (-1), 1) := by decide +kernel
theorem d_Mo_nextWay_30 : decode prog_12_method_34_code 30 = .ok (.iastore, 1) := by decide +kernel
theorem d_Mo_nextWay_31 : decode prog_12_method_34_code 31 = .ok (.iload_n 1, 1) := by decide +kernel
theorem d_Mo_nextWay_32 : decode prog_12_method_34_code 32 = .ok (.iload_n 2, 1) := by decide +kernel
theorem d_Mo_nextWay_33 : decode prog_12_method_34_code 33 = .ok (.if_icmp .ne 14, 3) := by decide +kernel
theorem d_Mo_nextWay_36 : decode prog_12_method_34_code 36 = .ok (.iconst 1, 1) := by decide +kernel
theorem d_Mo_nextWay_37 : decode prog_12_method_34_code 37 = .ok (.ireturn, 1) := by decide +kernel
theorem d_Mo_nextWay_38 : decode prog_12_method_34_code 38 = .ok (.aload_n 0, 1) := by decide +kernel
theorem d_Mo_nextWay_39 : decode prog_12_method_34_code 39 = .ok (.invokevirtual 145, 3) := by decide +kernel
theorem d_Mo_nextWay_42 : decode prog_12_method_34_code 42 = .ok (.ifCond .ne 5, 3) := by decide +kernel
theorem d_Mo_nextWay_45 : decode prog_12_method_34_code 45 = .ok (.iconst 0, 1) := by decide +kernel
theorem d_Mo_nextWay_46 : decode prog_12_method_34_code 46 = .ok (.ireturn, 1) := by decide +kernel
theorem d_Mo_nextWay_47 : decode prog_12_method_34_code 47 = .ok (.aload_n 0, 1) := by decide +kernel
theorem d_Mo_nextWay_48 : decode prog_12_method_34_code 48 = .ok (.getfield 53, 3) := by decide +kernel
theorem d_Mo_nextWay_51 : decode prog_12_method_34_code 51 = .ok (.aload_n 0, 1) := by decide +kernel
theorem d_Mo_nextWay_52 : decode prog_12_method_34_code 52 = .ok (.getfield 139, 3) := by decide +kernel
theorem d_Mo_nextWay_55 : decode prog_12_method_34_code 55 = .ok (.iaload, 1) := by decide +kernel
theorem d_Mo_nextWay_56 : decode prog_12_method_34_code 56 = .ok (.iconst 1, 1) := by decide +kernel
theorem d_Mo_nextWay_57 : decode prog_12_method_34_code 57 = .ok (.iadd, 1) := by decide +kernel
theorem d_Mo_nextWay_58 : decode prog_12_method_34_code 58 = .ok (.istore 4, 2) := by decide +kernel
theorem d_Mo_nextWay_60 : decode prog_12_method_34_code 60 = .ok (.iload 4, 2) := by decide +kernel
theorem d_Mo_nextWay_62 : decode prog_12_method_34_code 62 = .ok (.aload_n 0, 1) := by decide +kernel
theorem d_Mo_nextWay_63 : decode prog_12_method_34_code 63 = .ok (.getfield 88, 3) := by decide +kernel
theorem d_Mo_nextWay_66 : decode prog_12_method_34_code 66 = .ok (.if_icmp .ge 20, 3) := by decide +kernel
theorem d_Mo_nextWay_69 : decode prog_12_method_34_code 69 = .ok (.aload_n 0, 1) := by decide +kernel
theorem d_Mo_nextWay_70 : decode prog_12_method_34_code 70 = .ok (.iload 4, 2) := by decide +kernel
theorem d_Mo_nextWay_72 : decode prog_12_method_34_code 72 = .ok (.iload_n 3, 1) := by decide +kernel
theorem d_Mo_nextWay_73 : decode prog_12_method_34_code 73 = .ok (.iload_n 2, 1) := by decide +kernel
theorem d_Mo_nextWay_74 : decode prog_12_method_34_code 74 = .ok (.invokevirtual 149, 3) := by decide +kernel
theorem d_Mo_nextWay_77 : decode prog_12_method_34_code 77 = .ok (.ifCond .ne 9, 3) := by decide +kernel
theorem d_Mo_nextWay_80 : decode prog_12_method_34_code 80 = .ok (.iinc 4 1, 3) := by decide +kernel
theorem d_Mo_nextWay_83 : decode prog_12_method_34_code 83 = .ok (.goto (-23), 3) := by decide +kernel
theorem d_Mo_nextWay_86 : decode prog_12_method_34_code 86 = .ok (.aload_n 0, 1) := by decide +kernel
theorem d_Mo_nextWay_87 : decode prog_12_method_34_code 87 = .ok (.getfield 53, 3) := by decide +kernel
theorem d_Mo_nextWay_90 : decode prog_12_method_34_code 90 = .ok (.aload_n 0, 1) := by decide +kernel
theorem d_Mo_nextWay_91 : decode prog_12_method_34_code 91 = .ok (.getfield 139, 3) := by decide +kernel
theorem d_Mo_nextWay_94 : decode prog_12_method_34_code 94 = .ok (.iload 4, 2) := by decide +kernel
theorem d_Mo_nextWay_96 : decode prog_12_method_34_code 96 = .ok (.iastore, 1) := by decide +kernel
theorem d_Mo_nextWay_97 : decode prog_12_method_34_code 97 = .ok (.iload 4, 2) := by decide +kernel
theorem d_Mo_nextWay_99 : decode prog_12_method_34_code 99 = .ok (.aload_n 0, 1) := by decide +kernel
theorem d_Mo_nextWay_100 : decode prog_12_method_34_code 100 = .ok (.getfield 88, 3) := by decide +kernel
theorem d_Mo_nextWay_103 : decode prog_12_method_34_code 103 = .ok (.if_icmp .ne 12, 3) := by decide +kernel
theorem d_Mo_nextWay_106 : decode prog_12_method_34_code 106 = .ok (.aload_n 0, 1) := by decide +kernel
theorem d_Mo_nextWay_107 : decode prog_12_method_34_code 107 = .ok (.invokevirtual 145, 3) := by decide +kernel
theorem d_Mo_nextWay_110 : decode prog_12_method_34_code 110 = .ok (.ifCond .ne 81, 3) := by decide +kernel
theorem d_Mo_nextWay_113 : decode prog_12_method_34_code 113 = .ok (.iconst 0, 1) := by decide +kernel
theorem d_Mo_nextWay_114 : decode prog_12_method_34_code 114 = .ok (.ireturn, 1) := by decide +kernel
theorem d_Mo_nextWay_115 : decode prog_12_method_34_code 115 = .ok (.aload_n 0, 1) := by decide +kernel
theorem d_Mo_nextWay_116 : decode prog_12_method_34_code 116 = .ok (.getfield 50, 3) := by decide +kernel
theorem d_Mo_nextWay_119 : decode prog_12_method_34_code 119 = .ok (.aload_n 0, 1) := by decide +kernel
theorem d_Mo_nextWay_120 : decode prog_12_method_34_code 120 = .ok (.getfield 139, 3) := by decide +kernel
theorem d_Mo_nextWay_123 : decode prog_12_method_34_code 123 = .ok (.iload 4, 2) := by decide +kernel
theorem d_Mo_nextWay_125 : decode prog_12_method_34_code 125 = .ok (.iastore, 1) := by decide +kernel
theorem d_Mo_nextWay_126 : decode prog_12_method_34_code 126 = .ok (.aload_n 0, 1) := by decide +kernel
theorem d_Mo_nextWay_127 : decode prog_12_method_34_code 127 = .ok (.dup, 1) := by decide +kernel
theorem d_Mo_nextWay_128 : decode prog_12_method_34_code 128 = .ok (.getfield 142, 3) := by decide +kernel
theorem d_Mo_nextWay_131 : decode prog_12_method_34_code 131 = .ok (.aload_n 0, 1) := by decide +kernel
theorem d_Mo_nextWay_132 : decode prog_12_method_34_code 132 = .ok (.getfield 16, 3) := by decide +kernel
theorem d_Mo_nextWay_135 : decode prog_12_method_34_code 135 = .ok (.iload 4, 2) := by decide +kernel
theorem d_Mo_nextWay_137 : decode prog_12_method_34_code 137 = .ok (.iaload, 1) := by decide +kernel
theorem d_Mo_nextWay_138 : decode prog_12_method_34_code 138 = .ok (.iadd, 1) := by decide +kernel
theorem d_Mo_nextWay_139 : decode prog_12_method_34_code 139 = .ok (.putfield 142, 3) := by decide +kernel
theorem d_Mo_nextWay_142 : decode prog_12_method_34_code 142 = .ok (.aload_n 0, 1) := by decide +kernel
theorem d_Mo_nextWay_143 : decode prog_12_method_34_code 143 = .ok (.dup, 1) := by decide +kernel
theorem d_Mo_nextWay_144 : decode prog_12_method_34_code 144 = .ok (.getfield 139, 3) := by decide +kernel
theorem d_Mo_nextWay_147 : decode prog_12_method_34_code 147 = .ok (.iconst 1, 1) := by decide +kernel
theorem d_Mo_nextWay_148 : decode prog_12_method_34_code 148 = .ok (.iadd, 1) := by decide +kernel
theorem d_Mo_nextWay_149 : decode prog_12_method_34_code 149 = .ok (.putfield 139, 3) := by decide +kernel
theorem d_Mo_nextWay_152 : decode prog_12_method_34_code 152 = .ok (.aload_n 0, 1) := by decide +kernel
theorem d_Mo_nextWay_153 : decode prog_12_method_34_code 153 = .ok (.getfield 56, 3) := by decide +kernel
theorem d_Mo_nextWay_156 : decode prog_12_method_34_code 156 = .ok (.aload_n 0, 1) := by decide +kernel
theorem d_Mo_nextWay_157 : decode prog_12_method_34_code 157 = .ok (.getfield 139, 3) := by decide +kernel
theorem d_Mo_nextWay_160 : decode prog_12_method_34_code 160 = .ok (.aload_n 0, 1) := by decide +kernel
theorem d_Mo_nextWay_161 : decode prog_12_method_34_code 161 = .ok (.getfield 13, 3) := by decide +kernel
theorem d_Mo_nextWay_164 : decode prog_12_method_34_code 164 = .ok (.iload 4, 2) := by decide +kernel
theorem d_Mo_nextWay_166 : decode prog_12_method_34_code 166 = .ok (.iaload, 1) := by decide +kernel
theorem d_Mo_nextWay_167 : decode prog_12_method_34_code 167 = .ok (.iastore, 1) := by decide +kernel
theorem d_Mo_nextWay_168 : decode prog_12_method_34_code 168 = .ok (.aload_n 0, 1) := by decide +kernel
theorem d_Mo_nextWay_169 : decode prog_12_method_34_code 169 = .ok (.getfield 53, 3) := by decide +kernel
theorem d_Mo_nextWay_172 : decode prog_12_method_34_code 172 = .ok (.aload_n 0, 1) := by decide +kernel
theorem d_Mo_nextWay_173 : decode prog_12_method_34_code 173 = .ok (.getfield 139, 3) := by decide +kernel
theorem d_Mo_nextWay_176 : decode prog_12_method_34_code 176 = .ok (.iconst (-1), 1) := by decide +kernel
theorem d_Mo_nextWay_177 : decode prog_12_method_34_code 177 = .ok (.iastore, 1) := by decide +kernel
theorem d_Mo_nextWay_178 : decode prog_12_method_34_code 178 = .ok (.aload_n 0, 1) := by decide +kernel
theorem d_Mo_nextWay_179 : decode prog_12_method_34_code 179 = .ok (.getfield 13, 3) := by decide +kernel
theorem d_Mo_nextWay_182 : decode prog_12_method_34_code 182 = .ok (.iload 4, 2) := by decide +kernel
theorem d_Mo_nextWay_184 : decode prog_12_method_34_code 184 = .ok (.iaload, 1) := by decide +kernel
theorem d_Mo_nextWay_185 : decode prog_12_method_34_code 185 = .ok (.iload_n 2, 1) := by decide +kernel
theorem d_Mo_nextWay_186 : decode prog_12_method_34_code 186 = .ok (.if_icmp .ne 5, 3) := by decide +kernel
theorem d_Mo_nextWay_189 : decode prog_12_method_34_code 189 = .ok (.iconst 1, 1) := by decide +kernel
theorem d_Mo_nextWay_190 : decode prog_12_method_34_code 190 = .ok (.ireturn, 1) := by decide +kernel
theorem d_Mo_nextWay_191 : decode prog_12_method_34_code 191 = .ok (.goto (-144), 3) := by decide +kernel
def rm_Mo_nextWay : Room := { frames := 1, cells := 0, slots := 0, locals := 24 }
def f_Mo_nextWay_L60 (x2 : Int32) (x3 : Int32) (t47 : mS) : (Int32) → Option ((Int32) ⊕ (Int32)) := fun t60 =>
  if (t47.1 0 2) ≤ t60 then (
  some (.inr (t60))) else (
  (f_Mo_canGo t47 t60 x3 x2).bind fun v3 =>
  if v3 = 0 then (
  some (.inl (t60 + 1))) else (
  some (.inr (t60))))
def f_Mo_nextWay_L47 (x2 : Int32) (x3 : Int32) : (mS) → Option ((mS) ⊕ ((mS) ⊕ (Int32 × mS))) := fun t47 =>
  gd (inb (t47.1 0 19) 12) (
  nm ((t47.1 15 (t47.1 0 19).toNatClampNeg) + 1) fun v2 =>
  (lpN (f_Mo_nextWay_L60 x2 x3 t47) fuB (v2)).bind fun u60 =>
  gd (inb (t47.1 0 19) 12) ((nm (sI t47 15 (t47.1 0 19).toNatClampNeg u60) fun σ4 =>
  if u60 = (σ4.1 0 2) then (
  (f_Mo_back σ4).bind fun o10 =>
  if o10.1 = 0 then (
  some (.inr (.inr (0, o10.2)))) else (
  some (.inl (o10.2)))) else (
  gd (inb (σ4.1 0 19) 12) ((nm (sI σ4 14 (σ4.1 0 19).toNatClampNeg u60) fun σ5 =>
  gd (inb u60 40) (
  nm (sI σ5 0 20 ((σ5.1 0 20) + (σ5.1 3 u60.toNatClampNeg))) fun σ6 =>
  nm (sI σ6 0 19 ((σ6.1 0 19) + 1)) fun σ7 =>
  gd (inb u60 40) (
  gd (inb (σ7.1 0 19) 12) ((nm (sI σ7 16 (σ7.1 0 19).toNatClampNeg (σ7.1 2 u60.toNatClampNeg)) fun σ8 =>
  gd (inb (σ8.1 0 19) 12) ((nm (sI σ8 15 (σ8.1 0 19).toNatClampNeg ((-1))) fun σ9 =>
  gd (inb u60 40) (
  if (σ9.1 2 u60.toNatClampNeg) = x2 then (
  some (.inr (.inl (σ9)))) else (
  some (.inl (σ9))))))))))))))))
def f_Mo_nextWay_J47 (x2 : Int32) (x3 : Int32) (σ1 : mS) : Option (Int32 × mS) :=
  (lpN (f_Mo_nextWay_L47 x2 x3) fuB (σ1)).bind fun u47 => Sum.elim (fun e47 =>
  some (1, e47))
  (fun y47 => some y47) u47
def f_Mo_nextWay (σ : mS) (x1 : Int32) (x2 : Int32) (x3 : Int32) : Option (Int32 × mS) :=
  if 0 ≤ (σ.1 0 19) then (
  (f_Mo_back σ).bind fun o11 =>
  if o11.1 = 0 then (
  some (0, o11.2)) else (
  f_Mo_nextWay_J47 x2 x3 o11.2)) else (
  nm (sI σ 0 19 0) fun σ12 =>
  nm (sI σ12 0 20 0) fun σ13 =>
  gd (inb 0 12) ((nm (sI σ13 16 (0 : Int32).toNatClampNeg x1) fun σ14 =>
  gd (inb 0 12) ((nm (sI σ14 15 (0 : Int32).toNatClampNeg ((-1))) fun σ15 =>
  if x1 = x2 then (
  some (1, σ15)) else (
  f_Mo_nextWay_J47 x2 x3 σ15))))))
set_option maxHeartbeats 4000000 in
set_option maxRecDepth 100000 in
theorem c_Mo_nextWay (l : Launch) (D : va_G) (cA ad : Nat → Nat) (σ : mS) (x1 : Int32) (x2 : Int32) (x3 : Int32) (o : Int32 × mS) (h : f_Mo_nextWay σ x1 x2 x3 = some o) : mCi l ⟨"LeastPathsModel", "nextWay", "(III)Z"⟩ (Cond.code ⟨"LeastPathsModel", "nextWay", "(III)Z"⟩ prog_12_method_34_code 5 (Option.some Jvm.ClassFile.FieldType.boolean) :: tlG) rm_Mo_nextWay D clX (tyK cA) 23 (tbY cA) ad σ [.ref (ad 0), .int x1, .int x2, .int x3] o := by
  intro sz
  refine m_of (cc := prog_12_method_34_code) (maxL := 5) (Qc := mQi D clX (tyK cA) 23 (tbY cA) ad o) (by decide) (Nat.le_of_ble_eq_true rfl) (fun p e s m args below meth c ls S hr hlk hnm hl M => ?_) sz
  have hl : lv_has ls 5 [(0, .ref (ad 0)), (1, .int x1), (2, .int x2), (3, .int x3)] := hl
  generalize hQ : MQ _ _ _ _ _ _ _ = Q
  skip
  unfold f_Mo_nextWay at h
  refine lv_aload_n S.1 S.2.1 d_Mo_nextWay_0 rfl (lv_at hl 0 rfl) ?_
  refine m_gi S M (j := 19) ok_Mo (by decide) rfl (by decide) rfl kw_453 rfl d_Mo_nextWay_1 ?_
  have J47 : ∀ (σ1 : mS) (ls : Array Slot) (H : Heap) (locs : List Loc), f_Mo_nextWay_J47 x2 x3 σ1 = some o → lv_has ls 5 [(0, .ref (ad 0)), (1, .int x1), (2, .int x2), (3, .int x3)] → mM D clX (tyK cA) (mA 23 ad s.heap.size) s 23 (tbY cA) ad σ1 H locs → W p l e rm_Mo_nextWay s m args below meth c H locs 0 0 Q (F0 m 47 ls []) := by
    intro σ1 ls H locs h hl M
    unfold f_Mo_nextWay_J47 at h
    obtain ⟨u47, q47, h⟩ := Option.bind_eq_some_iff.mp h
    refine lpN_W2 (st := f_Mo_nextWay_L47 x2 x3) (fun (t47 : mS) => ∀ (ls : Array Slot) (H : Heap) (locs : List Loc), lv_has ls 5 [(0, .ref (ad 0)), (1, .int x1), (2, .int x2), (3, .int x3)] → mM D clX (tyK cA) (mA 23 ad s.heap.size) s 23 (tbY cA) ad t47 H locs → W p l e rm_Mo_nextWay s m args below meth c H locs 0 0 Q (F0 m 47 ls [])) (fun (e47 : mS) => ∀ (ls : Array Slot) (H : Heap) (locs : List Loc), lv_has ls 5 [(0, .ref (ad 0)), (1, .int x1), (2, .int x2), (3, .int x3)] → mM D clX (tyK cA) (mA 23 ad s.heap.size) s 23 (tbY cA) ad e47 H locs → W p l e rm_Mo_nextWay s m args below meth c H locs 0 0 Q (F0 m 189 ls [])) (fun (y47 : Int32 × mS) => ∀ (pc : Nat) (ls : Array Slot) (H : Heap) (locs : List Loc), decode prog_12_method_34_code pc = .ok (.ireturn, 1) → isB y47.1 = true → mM D clX (tyK cA) (mA 23 ad s.heap.size) s 23 (tbY cA) ad y47.2 H locs → W p l e rm_Mo_nextWay s m args below meth c H locs 0 0 Q (F0 m pc ls [.int y47.1])) ?_ fuB ((σ1) : mS) u47 q47 ?_ ?_ ls _ _ (lv_sub hl [0, 1, 2, 3] rfl) M
    · intro t47 oo47 h K1 K2 K3 ls H locs hl M
      unfold f_Mo_nextWay_L47 at h
      refine lv_aload_n S.1 S.2.1 d_Mo_nextWay_47 rfl (lv_at hl 0 rfl) ?_
      refine m_gs (t := 15) S M (j := 17) ok_Mo (by decide) rfl (by decide) rfl kw_461 rfl d_Mo_nextWay_48 ?_
      refine lv_aload_n S.1 S.2.1 d_Mo_nextWay_51 rfl (lv_at hl 0 rfl) ?_
      refine m_gi S M (j := 19) ok_Mo (by decide) rfl (by decide) rfl kw_453 rfl d_Mo_nextWay_52 ?_
      refine m_ial (t0 := 0) S M (by decide) rfl rfl h d_Mo_nextWay_55 (fun h => ?_)
      refine lv_iconst (v := 1) S.1 S.2.1 d_Mo_nextWay_56 (by decide) ?_
      refine lv_iadd S.1 S.2.1 d_Mo_nextWay_57 ?_
      refine m_ni h (fun v2 h => ?_)
      refine lv_istore (lv' := [(4, .int v2), (0, .ref (ad 0)), (1, .int x1), (2, .int x2), (3, .int x3)]) S.1 S.2.1 d_Mo_nextWay_58 hl (by decide) rfl (fun ls hl => ?_)
      obtain ⟨u60, q60, h⟩ := Option.bind_eq_some_iff.mp h
      refine lpN_W1 (st := f_Mo_nextWay_L60 x2 x3 t47) (fun (t60 : Int32) => ∀ (ls : Array Slot) (H : Heap) (locs : List Loc), lv_has ls 5 [(4, .int t60), (0, .ref (ad 0)), (1, .int x1), (2, .int x2), (3, .int x3)] → mM D clX (tyK cA) (mA 23 ad s.heap.size) s 23 (tbY cA) ad t47 H locs → W p l e rm_Mo_nextWay s m args below meth c H locs 0 0 Q (F0 m 60 ls [])) (fun (u60 : Int32) => ∀ (ls : Array Slot) (H : Heap) (locs : List Loc), lv_has ls 5 [(4, .int u60), (0, .ref (ad 0)), (1, .int x1), (2, .int x2), (3, .int x3)] → mM D clX (tyK cA) (mA 23 ad s.heap.size) s 23 (tbY cA) ad t47 H locs → W p l e rm_Mo_nextWay s m args below meth c H locs 0 0 Q (F0 m 86 ls [])) ?_ fuB ((v2) : Int32) u60 q60 ?_ ls _ _ (lv_sub hl [0, 1, 2, 3, 4] rfl) M
      · intro t60 oo60 h K1 K2 ls H locs hl M
        unfold f_Mo_nextWay_L60 at h
        refine lv_iload S.1 S.2.1 d_Mo_nextWay_60 (lv_at hl 0 rfl) ?_
        refine lv_aload_n S.1 S.2.1 d_Mo_nextWay_62 rfl (lv_at hl 1 rfl) ?_
        refine m_gi S M (j := 2) ok_Mo (by decide) rfl (by decide) rfl kw_383 rfl d_Mo_nextWay_63 ?_
        refine m_ige (tgt := 86) S d_Mo_nextWay_66 (by decide) h (fun h => ?_) (fun h => ?_)
        · exact K2 _ (Option.some.inj h).symm ls _ _ (lv_sub hl [0, 1, 2, 3, 4] rfl) M
        · refine lv_aload_n S.1 S.2.1 d_Mo_nextWay_69 rfl (lv_at hl 1 rfl) ?_
          refine lv_iload S.1 S.2.1 d_Mo_nextWay_70 (lv_at hl 0 rfl) ?_
          refine lv_iload_n S.1 S.2.1 d_Mo_nextWay_72 rfl (lv_at hl 4 rfl) ?_
          refine lv_iload_n S.1 S.2.1 d_Mo_nextWay_73 rfl (lv_at hl 3 rfl) ?_
          refine m_xip h (fun o ho => m_rV (As := [.int t60, .int x3, .int x2]) (rest := []) S M hl.1 (cwG (n := 3) S.2.2.2.2 kw_462 kw_463 kw_464 kw_391 kw_465 (by decide) ⟨Nat.le_of_ble_eq_true rfl, Nat.le_of_ble_eq_true rfl⟩) ok_Mo (by decide) rfl (c_Mo_canGo l D cA ad t47 t60 x3 x2 o ho _) rfl rfl (Nat.le_of_ble_eq_true rfl) d_Mo_nextWay_74 ⟨Nat.zero_le _, Nat.zero_le _⟩) M (fun v3 H locs h M => ?_)
          refine m_ifne (tgt := 86) S d_Mo_nextWay_77 (by decide) h (fun h => ?_) (fun h => ?_)
          · exact K2 _ (Option.some.inj h).symm ls _ _ (lv_sub hl [0, 1, 2, 3, 4] rfl) M
          · refine lv_iinc (v := t60 + 1) (lv' := [(4, .int (t60 + 1)), (0, .ref (ad 0)), (1, .int x1), (2, .int x2), (3, .int x3)]) S.1 S.2.1 d_Mo_nextWay_80 hl (k := 0) rfl rfl (by decide) rfl (fun ls hl => ?_)
            refine lv_goto (tgt := 60) S.1 S.2.1 d_Mo_nextWay_83 (by decide) ?_
            exact K1 _ (Option.some.inj h).symm ls _ _ (lv_sub hl [0, 1, 2, 3, 4] rfl) M
      · intro ls H locs hl M
        refine lv_aload_n S.1 S.2.1 d_Mo_nextWay_86 rfl (lv_at hl 1 rfl) ?_
        refine m_gs (t := 15) S M (j := 17) ok_Mo (by decide) rfl (by decide) rfl kw_461 rfl d_Mo_nextWay_87 ?_
        refine lv_aload_n S.1 S.2.1 d_Mo_nextWay_90 rfl (lv_at hl 1 rfl) ?_
        refine m_gi S M (j := 19) ok_Mo (by decide) rfl (by decide) rfl kw_453 rfl d_Mo_nextWay_91 ?_
        refine lv_iload S.1 S.2.1 d_Mo_nextWay_94 (lv_at hl 0 rfl) ?_
        refine m_ias (t0 := 0) S M (by decide) rfl rfl h d_Mo_nextWay_96 (fun σ4 H locs h M => ?_)
        refine lv_iload S.1 S.2.1 d_Mo_nextWay_97 (lv_at hl 0 rfl) ?_
        refine lv_aload_n S.1 S.2.1 d_Mo_nextWay_99 rfl (lv_at hl 1 rfl) ?_
        refine m_gi S M (j := 2) ok_Mo (by decide) rfl (by decide) rfl kw_383 rfl d_Mo_nextWay_100 ?_
        refine m_ine (tgt := 115) S d_Mo_nextWay_103 (by decide) h (fun h => ?_) (fun h => ?_)
        · refine lv_aload_n S.1 S.2.1 d_Mo_nextWay_115 rfl (lv_at hl 1 rfl) ?_
          refine m_gs (t := 14) S M (j := 16) ok_Mo (by decide) rfl (by decide) rfl kw_455 rfl d_Mo_nextWay_116 ?_
          refine lv_aload_n S.1 S.2.1 d_Mo_nextWay_119 rfl (lv_at hl 1 rfl) ?_
          refine m_gi S M (j := 19) ok_Mo (by decide) rfl (by decide) rfl kw_453 rfl d_Mo_nextWay_120 ?_
          refine lv_iload S.1 S.2.1 d_Mo_nextWay_123 (lv_at hl 0 rfl) ?_
          refine m_ias (t0 := 0) S M (by decide) rfl rfl h d_Mo_nextWay_125 (fun σ5 H locs h M => ?_)
          refine lv_aload_n S.1 S.2.1 d_Mo_nextWay_126 rfl (lv_at hl 1 rfl) ?_
          refine lv_dup S.1 S.2.1 d_Mo_nextWay_127 rfl ?_
          refine m_gi S M (j := 20) ok_Mo (by decide) rfl (by decide) rfl kw_454 rfl d_Mo_nextWay_128 ?_
          refine lv_aload_n S.1 S.2.1 d_Mo_nextWay_131 rfl (lv_at hl 1 rfl) ?_
          refine m_gs (t := 3) S M (j := 5) ok_Mo (by decide) rfl (by decide) rfl kw_400 rfl d_Mo_nextWay_132 ?_
          refine lv_iload S.1 S.2.1 d_Mo_nextWay_135 (lv_at hl 0 rfl) ?_
          refine m_ial (t0 := 0) S M (by decide) rfl rfl h d_Mo_nextWay_137 (fun h => ?_)
          refine lv_iadd S.1 S.2.1 d_Mo_nextWay_138 ?_
          refine m_pi S M (j := 20) ok_Mo (by decide) rfl (by decide) rfl kw_454 rfl rfl rfl d_Mo_nextWay_139 h (fun σ6 H locs h M => ?_)
          refine lv_aload_n S.1 S.2.1 d_Mo_nextWay_142 rfl (lv_at hl 1 rfl) ?_
          refine lv_dup S.1 S.2.1 d_Mo_nextWay_143 rfl ?_
          refine m_gi S M (j := 19) ok_Mo (by decide) rfl (by decide) rfl kw_453 rfl d_Mo_nextWay_144 ?_
          refine lv_iconst (v := 1) S.1 S.2.1 d_Mo_nextWay_147 (by decide) ?_
          refine lv_iadd S.1 S.2.1 d_Mo_nextWay_148 ?_
          refine m_pi S M (j := 19) ok_Mo (by decide) rfl (by decide) rfl kw_453 rfl rfl rfl d_Mo_nextWay_149 h (fun σ7 H locs h M => ?_)
          refine lv_aload_n S.1 S.2.1 d_Mo_nextWay_152 rfl (lv_at hl 1 rfl) ?_
          refine m_gs (t := 16) S M (j := 18) ok_Mo (by decide) rfl (by decide) rfl kw_456 rfl d_Mo_nextWay_153 ?_
          refine lv_aload_n S.1 S.2.1 d_Mo_nextWay_156 rfl (lv_at hl 1 rfl) ?_
          refine m_gi S M (j := 19) ok_Mo (by decide) rfl (by decide) rfl kw_453 rfl d_Mo_nextWay_157 ?_
          refine lv_aload_n S.1 S.2.1 d_Mo_nextWay_160 rfl (lv_at hl 1 rfl) ?_
          refine m_gs (t := 2) S M (j := 4) ok_Mo (by decide) rfl (by decide) rfl kw_399 rfl d_Mo_nextWay_161 ?_
          refine lv_iload S.1 S.2.1 d_Mo_nextWay_164 (lv_at hl 0 rfl) ?_
          refine m_ial (t0 := 0) S M (by decide) rfl rfl h d_Mo_nextWay_166 (fun h => ?_)
          refine m_ias (t0 := 0) S M (by decide) rfl rfl h d_Mo_nextWay_167 (fun σ8 H locs h M => ?_)
          refine lv_aload_n S.1 S.2.1 d_Mo_nextWay_168 rfl (lv_at hl 1 rfl) ?_
          refine m_gs (t := 15) S M (j := 17) ok_Mo (by decide) rfl (by decide) rfl kw_461 rfl d_Mo_nextWay_169 ?_
          refine lv_aload_n S.1 S.2.1 d_Mo_nextWay_172 rfl (lv_at hl 1 rfl) ?_
          refine m_gi S M (j := 19) ok_Mo (by decide) rfl (by decide) rfl kw_453 rfl d_Mo_nextWay_173 ?_
          refine lv_iconst (v := (-1)) S.1 S.2.1 d_Mo_nextWay_176 (by decide) ?_
          refine m_ias (t0 := 0) S M (by decide) rfl rfl h d_Mo_nextWay_177 (fun σ9 H locs h M => ?_)
          refine lv_aload_n S.1 S.2.1 d_Mo_nextWay_178 rfl (lv_at hl 1 rfl) ?_
          refine m_gs (t := 2) S M (j := 4) ok_Mo (by decide) rfl (by decide) rfl kw_399 rfl d_Mo_nextWay_179 ?_
          refine lv_iload S.1 S.2.1 d_Mo_nextWay_182 (lv_at hl 0 rfl) ?_
          refine m_ial (t0 := 0) S M (by decide) rfl rfl h d_Mo_nextWay_184 (fun h => ?_)
          refine lv_iload_n S.1 S.2.1 d_Mo_nextWay_185 rfl (lv_at hl 3 rfl) ?_
          refine m_ine (tgt := 191) S d_Mo_nextWay_186 (by decide) h (fun h => ?_) (fun h => ?_)
          · refine lv_goto (tgt := 47) S.1 S.2.1 d_Mo_nextWay_191 (by decide) ?_
            exact K1 _ (Option.some.inj h).symm ls _ _ (lv_sub hl [1, 2, 3, 4] rfl) M
          · exact K2 _ (Option.some.inj h).symm ls _ _ (lv_sub hl [1, 2, 3, 4] rfl) M
        · refine lv_aload_n S.1 S.2.1 d_Mo_nextWay_106 rfl (lv_at hl 1 rfl) ?_
          refine m_xi h (fun o ho => m_rV (As := []) (rest := []) S M hl.1 (cwG (n := 0) S.2.2.2.2 kw_457 kw_458 kw_459 kw_391 kw_460 (by decide) ⟨Nat.le_of_ble_eq_true rfl, Nat.le_of_ble_eq_true rfl⟩) ok_Mo (by decide) rfl (c_Mo_back l D cA ad σ4 o ho _) rfl rfl (Nat.le_of_ble_eq_true rfl) d_Mo_nextWay_107 ⟨Nat.zero_le _, Nat.zero_le _⟩) M (fun o10 H locs h M => ?_)
          refine m_ifne (tgt := 191) S d_Mo_nextWay_110 (by decide) h (fun h => ?_) (fun h => ?_)
          · refine lv_goto (tgt := 47) S.1 S.2.1 d_Mo_nextWay_191 (by decide) ?_
            exact K1 _ (Option.some.inj h).symm ls _ _ (lv_sub hl [1, 2, 3, 4] rfl) M
          · refine lv_iconst (v := 0) S.1 S.2.1 d_Mo_nextWay_113 (by decide) ?_
            exact K3 _ (Option.some.inj h).symm _ ls _ _ d_Mo_nextWay_114 rfl M
    · intro e47 q ls H locs hl M
      subst q
      dsimp only [Sum.elim_inl] at h
      refine lv_iconst (v := 1) S.1 S.2.1 d_Mo_nextWay_189 (by decide) ?_
      subst hQ; exact m_zret S hr hlk M (Option.some.inj h) rfl d_Mo_nextWay_190
    · intro y47 q
      subst q
      dsimp only [Sum.elim_inr] at h
      intro pc ls H locs hd hB M
      subst hQ; exact m_zret S hr hlk M (Option.some.inj h) hB hd
  refine m_ifge (tgt := 38) S d_Mo_nextWay_4 (by decide) h (fun h => ?_) (fun h => ?_)
  · refine lv_aload_n S.1 S.2.1 d_Mo_nextWay_38 rfl (lv_at hl 0 rfl) ?_
    refine m_xi h (fun o ho => m_rV (As := []) (rest := []) S M hl.1 (cwG (n := 0) S.2.2.2.2 kw_457 kw_458 kw_459 kw_391 kw_460 (by decide) ⟨Nat.le_of_ble_eq_true rfl, Nat.le_of_ble_eq_true rfl⟩) ok_Mo (by decide) rfl (c_Mo_back l D cA ad σ o ho _) rfl rfl (Nat.le_of_ble_eq_true rfl) d_Mo_nextWay_39 ⟨Nat.zero_le _, Nat.zero_le _⟩) M (fun o11 H locs h M => ?_)
    refine m_ifne (tgt := 47) S d_Mo_nextWay_42 (by decide) h (fun h => ?_) (fun h => ?_)
    · exact J47 _ ls _ _ h (lv_sub hl [0, 1, 2, 3] rfl) M
    · refine lv_iconst (v := 0) S.1 S.2.1 d_Mo_nextWay_45 (by decide) ?_
      subst hQ; exact m_zret S hr hlk M (Option.some.inj h) rfl d_Mo_nextWay_46
  · refine lv_aload_n S.1 S.2.1 d_Mo_nextWay_7 rfl (lv_at hl 0 rfl) ?_
    refine lv_iconst (v := 0) S.1 S.2.1 d_Mo_nextWay_8 (by decide) ?_
    refine m_pi S M (j := 19) ok_Mo (by decide) rfl (by decide) rfl kw_453 rfl rfl rfl d_Mo_nextWay_9 h (fun σ12 H locs h M => ?_)
    refine lv_aload_n S.1 S.2.1 d_Mo_nextWay_12 rfl (lv_at hl 0 rfl) ?_
    refine lv_iconst (v := 0) S.1 S.2.1 d_Mo_nextWay_13 (by decide) ?_
    refine m_pi S M (j := 20) ok_Mo (by decide) rfl (by decide) rfl kw_454 rfl rfl rfl d_Mo_nextWay_14 h (fun σ13 H locs h M => ?_)
    refine lv_aload_n S.1 S.2.1 d_Mo_nextWay_17 rfl (lv_at hl 0 rfl) ?_
    refine m_gs (t := 16) S M (j := 18) ok_Mo (by decide) rfl (by decide) rfl kw_456 rfl d_Mo_nextWay_18 ?_
    refine lv_iconst (v := 0) S.1 S.2.1 d_Mo_nextWay_21 (by decide) ?_
    refine lv_iload_n S.1 S.2.1 d_Mo_nextWay_22 rfl (lv_at hl 1 rfl) ?_
    refine m_ias (t0 := 0) S M (by decide) rfl rfl h d_Mo_nextWay_23 (fun σ14 H locs h M => ?_)
    refine lv_aload_n S.1 S.2.1 d_Mo_nextWay_24 rfl (lv_at hl 0 rfl) ?_
    refine m_gs (t := 15) S M (j := 17) ok_Mo (by decide) rfl (by decide) rfl kw_461 rfl d_Mo_nextWay_25 ?_
    refine lv_iconst (v := 0) S.1 S.2.1 d_Mo_nextWay_28 (by decide) ?_
    refine lv_iconst (v := (-1)) S.1 S.2.1 d_Mo_nextWay_29 (by decide) ?_
    refine m_ias (t0 := 0) S M (by decide) rfl rfl h d_Mo_nextWay_30 (fun σ15 H locs h M => ?_)
    refine lv_iload_n S.1 S.2.1 d_Mo_nextWay_31 rfl (lv_at hl 1 rfl) ?_
    refine lv_iload_n S.1 S.2.1 d_Mo_nextWay_32 rfl (lv_at hl 2 rfl) ?_
    refine m_ine (tgt := 47) S d_Mo_nextWay_33 (by decide) h (fun h => ?_) (fun h => ?_)
    · exact J47 _ ls _ _ h (lv_sub hl [0, 1, 2, 3] rfl) M
    · refine lv_iconst (v := 1) S.1 S.2.1 d_Mo_nextWay_36 (by decide) ?_
      subst hQ; exact m_zret S hr hlk M (Option.some.inj h) rfl d_Mo_nextWay_37
theorem d_Mo_isAhead_0 : decode prog_12_method_37_code 0 = .ok (.aload_n 0, 1) := by decide +kernel
theorem d_Mo_isAhead_1 : decode prog_12_method_37_code 1 = .ok (.getfield 142, 3) := by decide +kernel
theorem d_Mo_isAhead_4 : decode prog_12_method_37_code 4 = .ok (.aload_n 0, 1) := by decide +kernel
theorem d_Mo_isAhead_5 : decode prog_12_method_37_code 5 = .ok (.getfield 63, 3) := by decide +kernel
theorem d_Mo_isAhead_8 : decode prog_12_method_37_code 8 = .ok (.iload_n 1, 1) := by decide +kernel
theorem d_Mo_isAhead_9 : decode prog_12_method_37_code 9 = .ok (.iaload, 1) := by decide +kernel
theorem d_Mo_isAhead_10 : decode prog_12_method_37_code 10 = .ok (.if_icmp .eq 22, 3) := by decide +kernel
theorem d_Mo_isAhead_13 : decode prog_12_method_37_code 13 = .ok (.aload_n 0, 1) := by decide +kernel
theorem d_Mo_isAhead_14 : decode prog_12_method_37_code 14 = .ok (.getfield 142, 3) := by decide +kernel
theorem d_Mo_isAhead_17 : decode prog_12_method_37_code 17 = .ok (.aload_n 0, 1) := by decide +kernel
theorem d_Mo_isAhead_18 : decode prog_12_method_37_code 18 = .ok (.getfield 63, 3) := by decide +kernel
theorem d_Mo_isAhead_21 : decode prog_12_method_37_code 21 = .ok (.iload_n 1, 1) := by decide +kernel
theorem d_Mo_isAhead_22 : decode prog_12_method_37_code 22 = .ok (.iaload, 1) := by decide +kernel
theorem d_Mo_isAhead_23 : decode prog_12_method_37_code 23 = .ok (.if_icmp .ge 7, 3) := by decide +kernel
theorem d_Mo_isAhead_26 : decode prog_12_method_37_code 26 = .ok (.iconst 1, 1) := by decide +kernel
theorem d_Mo_isAhead_27 : decode prog_12_method_37_code 27 = .ok (.goto 4, 3) := by decide +kernel
theorem d_Mo_isAhead_30 : decode prog_12_method_37_code 30 = .ok (.iconst 0, 1) := by decide +kernel
theorem d_Mo_isAhead_31 : decode prog_12_method_37_code 31 = .ok (.ireturn, 1) := by decide +kernel
theorem d_Mo_isAhead_32 : decode prog_12_method_37_code 32 = .ok (.aload_n 0, 1) := by decide +kernel
theorem d_Mo_isAhead_33 : decode prog_12_method_37_code 33 = .ok (.getfield 139, 3) := by decide +kernel
theorem d_Mo_isAhead_36 : decode prog_12_method_37_code 36 = .ok (.aload_n 0, 1) := by decide +kernel
theorem d_Mo_isAhead_37 : decode prog_12_method_37_code 37 = .ok (.getfield 66, 3) := by decide +kernel
theorem d_Mo_isAhead_40 : decode prog_12_method_37_code 40 = .ok (.iload_n 1, 1) := by decide +kernel
theorem d_Mo_isAhead_41 : decode prog_12_method_37_code 41 = .ok (.iaload, 1) := by decide +kernel
theorem d_Mo_isAhead_42 : decode prog_12_method_37_code 42 = .ok (.if_icmp .eq 22, 3) := by decide +kernel
theorem d_Mo_isAhead_45 : decode prog_12_method_37_code 45 = .ok (.aload_n 0, 1) := by decide +kernel
theorem d_Mo_isAhead_46 : decode prog_12_method_37_code 46 = .ok (.getfield 139, 3) := by decide +kernel
theorem d_Mo_isAhead_49 : decode prog_12_method_37_code 49 = .ok (.aload_n 0, 1) := by decide +kernel
theorem d_Mo_isAhead_50 : decode prog_12_method_37_code 50 = .ok (.getfield 66, 3) := by decide +kernel
theorem d_Mo_isAhead_53 : decode prog_12_method_37_code 53 = .ok (.iload_n 1, 1) := by decide +kernel
theorem d_Mo_isAhead_54 : decode prog_12_method_37_code 54 = .ok (.iaload, 1) := by decide +kernel
theorem d_Mo_isAhead_55 : decode prog_12_method_37_code 55 = .ok (.if_icmp .ge 7, 3) := by decide +kernel
theorem d_Mo_isAhead_58 : decode prog_12_method_37_code 58 = .ok (.iconst 1, 1) := by decide +kernel
theorem d_Mo_isAhead_59 : decode prog_12_method_37_code 59 = .ok (.goto 4, 3) := by decide +kernel
theorem d_Mo_isAhead_62 : decode prog_12_method_37_code 62 = .ok (.iconst 0, 1) := by decide +kernel
theorem d_Mo_isAhead_63 : decode prog_12_method_37_code 63 = .ok (.ireturn, 1) := by decide +kernel
theorem d_Mo_isAhead_64 : decode prog_12_method_37_code 64 = .ok (.iconst 0, 1) := by decide +kernel
theorem d_Mo_isAhead_65 : decode prog_12_method_37_code 65 = .ok (.istore_n 2, 1) := by decide +kernel
theorem d_Mo_isAhead_66 : decode prog_12_method_37_code 66 = .ok (.iload_n 2, 1) := by decide +kernel
theorem d_Mo_isAhead_67 : decode prog_12_method_37_code 67 = .ok (.aload_n 0, 1) := by decide +kernel
theorem d_Mo_isAhead_68 : decode prog_12_method_37_code 68 = .ok (.getfield 139, 3) := by decide +kernel
theorem d_Mo_isAhead_71 : decode prog_12_method_37_code 71 = .ok (.if_icmp .ge 55, 3) := by decide +kernel
theorem d_Mo_isAhead_74 : decode prog_12_method_37_code 74 = .ok (.aload_n 0, 1) := by decide +kernel
theorem d_Mo_isAhead_75 : decode prog_12_method_37_code 75 = .ok (.getfield 50, 3) := by decide +kernel
theorem d_Mo_isAhead_78 : decode prog_12_method_37_code 78 = .ok (.iload_n 2, 1) := by decide +kernel
theorem d_Mo_isAhead_79 : decode prog_12_method_37_code 79 = .ok (.iaload, 1) := by decide +kernel
theorem d_Mo_isAhead_80 : decode prog_12_method_37_code 80 = .ok (.aload_n 0, 1) := by decide +kernel
theorem d_Mo_isAhead_81 : decode prog_12_method_37_code 81 = .ok (.getfield 69, 3) := by decide +kernel
theorem d_Mo_isAhead_84 : decode prog_12_method_37_code 84 = .ok (.bipush 10, 2) := by decide +kernel
theorem d_Mo_isAhead_86 : decode prog_12_method_37_code 86 = .ok (.iload_n 1, 1) := by decide +kernel
theorem d_Mo_isAhead_87 : decode prog_12_method_37_code 87 = .ok (.imul, 1) := by decide +kernel
theorem d_Mo_isAhead_88 : decode prog_12_method_37_code 88 = .ok (.iload_n 2, 1) := by decide +kernel
theorem d_Mo_isAhead_89 : decode prog_12_method_37_code 89 = .ok (.iadd, 1) := by decide +kernel
theorem d_Mo_isAhead_90 : decode prog_12_method_37_code 90 = .ok (.iaload, 1) := by decide +kernel
theorem d_Mo_isAhead_91 : decode prog_12_method_37_code 91 = .ok (.if_icmp .eq 29, 3) := by decide +kernel
theorem d_Mo_isAhead_94 : decode prog_12_method_37_code 94 = .ok (.aload_n 0, 1) := by decide +kernel
theorem d_Mo_isAhead_95 : decode prog_12_method_37_code 95 = .ok (.getfield 50, 3) := by decide +kernel
theorem d_Mo_isAhead_98 : decode prog_12_method_37_code 98 = .ok (.iload_n 2, 1) := by decide +kernel
theorem d_Mo_isAhead_99 : decode prog_12_method_37_code 99 = .ok (.iaload, 1) := by decide +kernel
theorem d_Mo_isAhead_100 : decode prog_12_method_37_code 100 = .ok (.aload_n 0, 1) := by decide +kernel
theorem d_Mo_isAhead_101 : decode prog_12_method_37_code 101 = .ok (.getfield 69, 3) := by decide +kernel
theorem d_Mo_isAhead_104 : decode prog_12_method_37_code 104 = .ok (.bipush 10, 2) := by decide +kernel
theorem d_Mo_isAhead_106 : decode prog_12_method_37_code 106 = .ok (.iload_n 1, 1) := by decide +kernel
theorem d_Mo_isAhead_107 : decode prog_12_method_37_code 107 = .ok (.imul, 1) := by decide +kernel
theorem d_Mo_isAhead_108 : decode prog_12_method_37_code 108 = .ok (.iload_n 2, 1) := by decide +kernel
theorem d_Mo_isAhead_109 : decode prog_12_method_37_code 109 = .ok (.iadd, 1) := by decide +kernel
theorem d_Mo_isAhead_110 : decode prog_12_method_37_code 110 = .ok (.iaload, 1) := by decide +kernel
theorem d_Mo_isAhead_111 : decode prog_12_method_37_code 111 = .ok (.if_icmp .ge 7, 3) := by decide +kernel
theorem d_Mo_isAhead_114 : decode prog_12_method_37_code 114 = .ok (.iconst 1, 1) := by decide +kernel
theorem d_Mo_isAhead_115 : decode prog_12_method_37_code 115 = .ok (.goto 4, 3) := by decide +kernel
theorem d_Mo_isAhead_118 : decode prog_12_method_37_code 118 = .ok (.iconst 0, 1) := by decide +kernel
theorem d_Mo_isAhead_119 : decode prog_12_method_37_code 119 = .ok (.ireturn, 1) := by decide +kernel
theorem d_Mo_isAhead_120 : decode prog_12_method_37_code 120 = .ok (.iinc 2 1, 3) := by decide +kernel
theorem d_Mo_isAhead_123 : decode prog_12_method_37_code 123 = .ok (.goto (-57), 3) := by decide +kernel
theorem d_Mo_isAhead_126 : decode prog_12_method_37_code 126 = .ok (.iconst 0, 1) := by decide +kernel
theorem d_Mo_isAhead_127 : decode prog_12_method_37_code 127 = .ok (.ireturn, 1) := by decide +kernel
def rm_Mo_isAhead : Room := { frames := 0, cells := 0, slots := 0, locals := 0 }
def f_Mo_isAhead_L66 (σ : mS) (x1 : Int32) : (Int32) → Option ((Int32) ⊕ ((Int32) ⊕ (Int32))) := fun t66 =>
  if (σ.1 0 19) ≤ t66 then (
  some (.inr (.inr 0))) else (
  gd (inb t66 12) (
  gd (inb ((10 * x1) + t66) 310) (
  if (σ.1 14 t66.toNatClampNeg) = (σ.1 19 ((10 * x1) + t66).toNatClampNeg) then (
  some (.inl (t66 + 1))) else (
  some (.inr (.inl (t66)))))))
def f_Mo_isAhead (σ : mS) (x1 : Int32) : Option (Int32) :=
  gd (inb x1 31) (
  if (σ.1 0 20) = (σ.1 17 x1.toNatClampNeg) then (
  gd (inb x1 31) (
  if (σ.1 0 19) = (σ.1 18 x1.toNatClampNeg) then (
  (lpN (f_Mo_isAhead_L66 σ x1) fuB (0)).bind fun u66 => Sum.elim (fun e66 =>
  gd (inb e66 12) (
  gd (inb ((10 * x1) + e66) 310) (
  if (σ.1 19 ((10 * x1) + e66).toNatClampNeg) ≤ (σ.1 14 e66.toNatClampNeg) then (
  some 0) else (
  some 1))))
  (fun y66 => some y66) u66) else (
  gd (inb x1 31) (
  if (σ.1 18 x1.toNatClampNeg) ≤ (σ.1 0 19) then (
  some 0) else (
  some 1))))) else (
  gd (inb x1 31) (
  if (σ.1 17 x1.toNatClampNeg) ≤ (σ.1 0 20) then (
  some 0) else (
  some 1))))
set_option maxHeartbeats 4000000 in
set_option maxRecDepth 100000 in
theorem c_Mo_isAhead (l : Launch) (D : va_G) (cA ad : Nat → Nat) (σ : mS) (x1 : Int32) (o : Int32) (h : f_Mo_isAhead σ x1 = some o) : mCi l ⟨"LeastPathsModel", "isAhead", "(I)Z"⟩ (Cond.code ⟨"LeastPathsModel", "isAhead", "(I)Z"⟩ prog_12_method_37_code 3 (Option.some Jvm.ClassFile.FieldType.boolean) :: tlG) rm_Mo_isAhead D clX (tyK cA) 23 (tbY cA) ad σ [.ref (ad 0), .int x1] (o, σ) := by
  intro sz
  refine m_of (cc := prog_12_method_37_code) (maxL := 3) (Qc := mQi D clX (tyK cA) 23 (tbY cA) ad (o, σ)) (by decide) (Nat.le_of_ble_eq_true rfl) (fun p e s m args below meth c ls S hr hlk hnm hl M => ?_) sz
  have hl : lv_has ls 3 [(0, .ref (ad 0)), (1, .int x1)] := hl
  generalize hQ : MQ _ _ _ _ _ _ _ = Q
  skip
  unfold f_Mo_isAhead at h
  refine lv_aload_n S.1 S.2.1 d_Mo_isAhead_0 rfl (lv_at hl 0 rfl) ?_
  refine m_gi S M (j := 20) ok_Mo (by decide) rfl (by decide) rfl kw_454 rfl d_Mo_isAhead_1 ?_
  refine lv_aload_n S.1 S.2.1 d_Mo_isAhead_4 rfl (lv_at hl 0 rfl) ?_
  refine m_gs (t := 17) S M (j := 24) ok_Mo (by decide) rfl (by decide) rfl kw_466 rfl d_Mo_isAhead_5 ?_
  refine lv_iload_n S.1 S.2.1 d_Mo_isAhead_8 rfl (lv_at hl 1 rfl) ?_
  refine m_ial (t0 := 0) S M (by decide) rfl rfl h d_Mo_isAhead_9 (fun h => ?_)
  refine m_ieq (tgt := 32) S d_Mo_isAhead_10 (by decide) h (fun h => ?_) (fun h => ?_)
  · refine lv_aload_n S.1 S.2.1 d_Mo_isAhead_32 rfl (lv_at hl 0 rfl) ?_
    refine m_gi S M (j := 19) ok_Mo (by decide) rfl (by decide) rfl kw_453 rfl d_Mo_isAhead_33 ?_
    refine lv_aload_n S.1 S.2.1 d_Mo_isAhead_36 rfl (lv_at hl 0 rfl) ?_
    refine m_gs (t := 18) S M (j := 25) ok_Mo (by decide) rfl (by decide) rfl kw_467 rfl d_Mo_isAhead_37 ?_
    refine lv_iload_n S.1 S.2.1 d_Mo_isAhead_40 rfl (lv_at hl 1 rfl) ?_
    refine m_ial (t0 := 0) S M (by decide) rfl rfl h d_Mo_isAhead_41 (fun h => ?_)
    refine m_ieq (tgt := 64) S d_Mo_isAhead_42 (by decide) h (fun h => ?_) (fun h => ?_)
    · refine lv_iconst (v := 0) S.1 S.2.1 d_Mo_isAhead_64 (by decide) ?_
      refine lv_istore_n (lv' := [(2, .int 0), (0, .ref (ad 0)), (1, .int x1)]) S.1 S.2.1 d_Mo_isAhead_65 rfl hl (by decide) rfl (fun ls hl => ?_)
      obtain ⟨u66, q66, h⟩ := Option.bind_eq_some_iff.mp h
      refine lpN_W2 (st := f_Mo_isAhead_L66 σ x1) (fun (t66 : Int32) => ∀ (ls : Array Slot) (H : Heap) (locs : List Loc), lv_has ls 3 [(2, .int t66), (0, .ref (ad 0)), (1, .int x1)] → mM D clX (tyK cA) (mA 23 ad s.heap.size) s 23 (tbY cA) ad σ H locs → W p l e rm_Mo_isAhead s m args below meth c H locs 0 0 Q (F0 m 66 ls [])) (fun (e66 : Int32) => ∀ (ls : Array Slot) (H : Heap) (locs : List Loc), lv_has ls 3 [(2, .int e66), (0, .ref (ad 0)), (1, .int x1)] → mM D clX (tyK cA) (mA 23 ad s.heap.size) s 23 (tbY cA) ad σ H locs → W p l e rm_Mo_isAhead s m args below meth c H locs 0 0 Q (F0 m 94 ls [])) (fun (y66 : Int32) => ∀ (pc : Nat) (ls : Array Slot) (H : Heap) (locs : List Loc), decode prog_12_method_37_code pc = .ok (.ireturn, 1) → isB y66 = true → mM D clX (tyK cA) (mA 23 ad s.heap.size) s 23 (tbY cA) ad σ H locs → W p l e rm_Mo_isAhead s m args below meth c H locs 0 0 Q (F0 m pc ls [.int y66])) ?_ fuB ((0) : Int32) u66 q66 ?_ ?_ ls _ _ (lv_sub hl [0, 1, 2] rfl) M
      · intro t66 oo66 h K1 K2 K3 ls H locs hl M
        unfold f_Mo_isAhead_L66 at h
        refine lv_iload_n S.1 S.2.1 d_Mo_isAhead_66 rfl (lv_at hl 0 rfl) ?_
        refine lv_aload_n S.1 S.2.1 d_Mo_isAhead_67 rfl (lv_at hl 1 rfl) ?_
        refine m_gi S M (j := 19) ok_Mo (by decide) rfl (by decide) rfl kw_453 rfl d_Mo_isAhead_68 ?_
        refine m_ige (tgt := 126) S d_Mo_isAhead_71 (by decide) h (fun h => ?_) (fun h => ?_)
        · refine lv_iconst (v := 0) S.1 S.2.1 d_Mo_isAhead_126 (by decide) ?_
          exact K3 _ (Option.some.inj h).symm _ ls _ _ d_Mo_isAhead_127 rfl M
        · refine lv_aload_n S.1 S.2.1 d_Mo_isAhead_74 rfl (lv_at hl 1 rfl) ?_
          refine m_gs (t := 14) S M (j := 16) ok_Mo (by decide) rfl (by decide) rfl kw_455 rfl d_Mo_isAhead_75 ?_
          refine lv_iload_n S.1 S.2.1 d_Mo_isAhead_78 rfl (lv_at hl 0 rfl) ?_
          refine m_ial (t0 := 0) S M (by decide) rfl rfl h d_Mo_isAhead_79 (fun h => ?_)
          refine lv_aload_n S.1 S.2.1 d_Mo_isAhead_80 rfl (lv_at hl 1 rfl) ?_
          refine m_gs (t := 19) S M (j := 26) ok_Mo (by decide) rfl (by decide) rfl kw_468 rfl d_Mo_isAhead_81 ?_
          refine lv_bipush (v := 10) S.1 S.2.1 d_Mo_isAhead_84 (by decide) ?_
          refine lv_iload_n S.1 S.2.1 d_Mo_isAhead_86 rfl (lv_at hl 2 rfl) ?_
          refine lv_imul S.1 S.2.1 d_Mo_isAhead_87 ?_
          refine lv_iload_n S.1 S.2.1 d_Mo_isAhead_88 rfl (lv_at hl 0 rfl) ?_
          refine lv_iadd S.1 S.2.1 d_Mo_isAhead_89 ?_
          refine m_ial (t0 := 0) S M (by decide) rfl rfl h d_Mo_isAhead_90 (fun h => ?_)
          refine m_ieq (tgt := 120) S d_Mo_isAhead_91 (by decide) h (fun h => ?_) (fun h => ?_)
          · refine lv_iinc (v := t66 + 1) (lv' := [(2, .int (t66 + 1)), (0, .ref (ad 0)), (1, .int x1)]) S.1 S.2.1 d_Mo_isAhead_120 hl (k := 0) rfl rfl (by decide) rfl (fun ls hl => ?_)
            refine lv_goto (tgt := 66) S.1 S.2.1 d_Mo_isAhead_123 (by decide) ?_
            exact K1 _ (Option.some.inj h).symm ls _ _ (lv_sub hl [0, 1, 2] rfl) M
          · exact K2 _ (Option.some.inj h).symm ls _ _ (lv_sub hl [0, 1, 2] rfl) M
      · intro e66 q ls H locs hl M
        subst q
        dsimp only [Sum.elim_inl] at h
        refine lv_aload_n S.1 S.2.1 d_Mo_isAhead_94 rfl (lv_at hl 1 rfl) ?_
        refine m_gs (t := 14) S M (j := 16) ok_Mo (by decide) rfl (by decide) rfl kw_455 rfl d_Mo_isAhead_95 ?_
        refine lv_iload_n S.1 S.2.1 d_Mo_isAhead_98 rfl (lv_at hl 0 rfl) ?_
        refine m_ial (t0 := 0) S M (by decide) rfl rfl h d_Mo_isAhead_99 (fun h => ?_)
        refine lv_aload_n S.1 S.2.1 d_Mo_isAhead_100 rfl (lv_at hl 1 rfl) ?_
        refine m_gs (t := 19) S M (j := 26) ok_Mo (by decide) rfl (by decide) rfl kw_468 rfl d_Mo_isAhead_101 ?_
        refine lv_bipush (v := 10) S.1 S.2.1 d_Mo_isAhead_104 (by decide) ?_
        refine lv_iload_n S.1 S.2.1 d_Mo_isAhead_106 rfl (lv_at hl 2 rfl) ?_
        refine lv_imul S.1 S.2.1 d_Mo_isAhead_107 ?_
        refine lv_iload_n S.1 S.2.1 d_Mo_isAhead_108 rfl (lv_at hl 0 rfl) ?_
        refine lv_iadd S.1 S.2.1 d_Mo_isAhead_109 ?_
        refine m_ial (t0 := 0) S M (by decide) rfl rfl h d_Mo_isAhead_110 (fun h => ?_)
        refine m_ige (tgt := 118) S d_Mo_isAhead_111 (by decide) h (fun h => ?_) (fun h => ?_)
        · refine lv_iconst (v := 0) S.1 S.2.1 d_Mo_isAhead_118 (by decide) ?_
          subst hQ; exact m_zret S hr hlk M (by rw [Option.some.inj h]) rfl d_Mo_isAhead_119
        · refine lv_iconst (v := 1) S.1 S.2.1 d_Mo_isAhead_114 (by decide) ?_
          refine lv_goto (tgt := 119) S.1 S.2.1 d_Mo_isAhead_115 (by decide) ?_
          subst hQ; exact m_zret S hr hlk M (by rw [Option.some.inj h]) rfl d_Mo_isAhead_119
      · intro y66 q
        subst q
        dsimp only [Sum.elim_inr] at h
        intro pc ls H locs hd hB M
        subst hQ; exact m_zret S hr hlk M (by rw [Option.some.inj h]) hB hd
    · refine lv_aload_n S.1 S.2.1 d_Mo_isAhead_45 rfl (lv_at hl 0 rfl) ?_
      refine m_gi S M (j := 19) ok_Mo (by decide) rfl (by decide) rfl kw_453 rfl d_Mo_isAhead_46 ?_
      refine lv_aload_n S.1 S.2.1 d_Mo_isAhead_49 rfl (lv_at hl 0 rfl) ?_
      refine m_gs (t := 18) S M (j := 25) ok_Mo (by decide) rfl (by decide) rfl kw_467 rfl d_Mo_isAhead_50 ?_
      refine lv_iload_n S.1 S.2.1 d_Mo_isAhead_53 rfl (lv_at hl 1 rfl) ?_
      refine m_ial (t0 := 0) S M (by decide) rfl rfl h d_Mo_isAhead_54 (fun h => ?_)
      refine m_ige (tgt := 62) S d_Mo_isAhead_55 (by decide) h (fun h => ?_) (fun h => ?_)
      · refine lv_iconst (v := 0) S.1 S.2.1 d_Mo_isAhead_62 (by decide) ?_
        subst hQ; exact m_zret S hr hlk M (by rw [Option.some.inj h]) rfl d_Mo_isAhead_63
      · refine lv_iconst (v := 1) S.1 S.2.1 d_Mo_isAhead_58 (by decide) ?_
        refine lv_goto (tgt := 63) S.1 S.2.1 d_Mo_isAhead_59 (by decide) ?_
        subst hQ; exact m_zret S hr hlk M (by rw [Option.some.inj h]) rfl d_Mo_isAhead_63
  · refine lv_aload_n S.1 S.2.1 d_Mo_isAhead_13 rfl (lv_at hl 0 rfl) ?_
    refine m_gi S M (j := 20) ok_Mo (by decide) rfl (by decide) rfl kw_454 rfl d_Mo_isAhead_14 ?_
    refine lv_aload_n S.1 S.2.1 d_Mo_isAhead_17 rfl (lv_at hl 0 rfl) ?_
    refine m_gs (t := 17) S M (j := 24) ok_Mo (by decide) rfl (by decide) rfl kw_466 rfl d_Mo_isAhead_18 ?_
    refine lv_iload_n S.1 S.2.1 d_Mo_isAhead_21 rfl (lv_at hl 1 rfl) ?_
    refine m_ial (t0 := 0) S M (by decide) rfl rfl h d_Mo_isAhead_22 (fun h => ?_)
    refine m_ige (tgt := 30) S d_Mo_isAhead_23 (by decide) h (fun h => ?_) (fun h => ?_)
    · refine lv_iconst (v := 0) S.1 S.2.1 d_Mo_isAhead_30 (by decide) ?_
      subst hQ; exact m_zret S hr hlk M (by rw [Option.some.inj h]) rfl d_Mo_isAhead_31
    · refine lv_iconst (v := 1) S.1 S.2.1 d_Mo_isAhead_26 (by decide) ?_
      refine lv_goto (tgt := 31) S.1 S.2.1 d_Mo_isAhead_27 (by decide) ?_
      subst hQ; exact m_zret S hr hlk M (by rw [Option.some.inj h]) rfl d_Mo_isAhead_31
