theorem d_JL_bitCount_0 : decode prog_13_method_50_code 0 = .ok (.lload_n 0, 1) := by decide +kernel
theorem d_JL_bitCount_1 : decode prog_13_method_50_code 1 = .ok (.lload_n 0, 1) := by decide +kernel
theorem d_JL_bitCount_2 : decode prog_13_method_50_code 2 = .ok (.iconst 1, 1) := by decide +kernel
theorem d_JL_bitCount_3 : decode prog_13_method_50_code 3 = .ok (.lushr, 1) := by decide +kernel
theorem d_JL_bitCount_4 : decode prog_13_method_50_code 4 = .ok (.ldc2_w 314, 3) := by decide +kernel
theorem d_JL_bitCount_7 : decode prog_13_method_50_code 7 = .ok (.land, 1) := by decide +kernel
theorem d_JL_bitCount_8 : decode prog_13_method_50_code 8 = .ok (.lsub, 1) := by decide +kernel
theorem d_JL_bitCount_9 : decode prog_13_method_50_code 9 = .ok (.lstore_n 0, 1) := by decide +kernel
theorem d_JL_bitCount_10 : decode prog_13_method_50_code 10 = .ok (.lload_n 0, 1) := by decide +kernel
theorem d_JL_bitCount_11 : decode prog_13_method_50_code 11 = .ok (.ldc2_w 316, 3) := by decide +kernel
theorem d_JL_bitCount_14 : decode prog_13_method_50_code 14 = .ok (.land, 1) := by decide +kernel
theorem d_JL_bitCount_15 : decode prog_13_method_50_code 15 = .ok (.lload_n 0, 1) := by decide +kernel
theorem d_JL_bitCount_16 : decode prog_13_method_50_code 16 = .ok (.iconst 2, 1) := by decide +kernel
theorem d_JL_bitCount_17 : decode prog_13_method_50_code 17 = .ok (.lushr, 1) := by decide +kernel
theorem d_JL_bitCount_18 : decode prog_13_method_50_code 18 = .ok (.ldc2_w 316, 3) := by decide +kernel
theorem d_JL_bitCount_21 : decode prog_13_method_50_code 21 = .ok (.land, 1) := by decide +kernel
theorem d_JL_bitCount_22 : decode prog_13_method_50_code 22 = .ok (.ladd, 1) := by decide +kernel
theorem d_JL_bitCount_23 : decode prog_13_method_50_code 23 = .ok (.lstore_n 0, 1) := by decide +kernel
theorem d_JL_bitCount_24 : decode prog_13_method_50_code 24 = .ok (.lload_n 0, 1) := by decide +kernel
theorem d_JL_bitCount_25 : decode prog_13_method_50_code 25 = .ok (.lload_n 0, 1) := by decide +kernel
theorem d_JL_bitCount_26 : decode prog_13_method_50_code 26 = .ok (.iconst 4, 1) := by decide +kernel
theorem d_JL_bitCount_27 : decode prog_13_method_50_code 27 = .ok (.lushr, 1) := by decide +kernel
theorem d_JL_bitCount_28 : decode prog_13_method_50_code 28 = .ok (.ladd, 1) := by decide +kernel
theorem d_JL_bitCount_29 : decode prog_13_method_50_code 29 = .ok (.ldc2_w 318, 3) := by decide +kernel
theorem d_JL_bitCount_32 : decode prog_13_method_50_code 32 = .ok (.land, 1) := by decide +kernel
theorem d_JL_bitCount_33 : decode prog_13_method_50_code 33 = .ok (.lstore_n 0, 1) := by decide +kernel
theorem d_JL_bitCount_34 : decode prog_13_method_50_code 34 = .ok (.lload_n 0, 1) := by decide +kernel
theorem d_JL_bitCount_35 : decode prog_13_method_50_code 35 = .ok (.lload_n 0, 1) := by decide +kernel
theorem d_JL_bitCount_36 : decode prog_13_method_50_code 36 = .ok (.bipush 8, 2) := by decide +kernel
theorem d_JL_bitCount_38 : decode prog_13_method_50_code 38 = .ok (.lushr, 1) := by decide +kernel
theorem d_JL_bitCount_39 : decode prog_13_method_50_code 39 = .ok (.ladd, 1) := by decide +kernel
theorem d_JL_bitCount_40 : decode prog_13_method_50_code 40 = .ok (.lstore_n 0, 1) := by decide +kernel
theorem d_JL_bitCount_41 : decode prog_13_method_50_code 41 = .ok (.lload_n 0, 1) := by decide +kernel
theorem d_JL_bitCount_42 : decode prog_13_method_50_code 42 = .ok (.lload_n 0, 1) := by decide +kernel
theorem d_JL_bitCount_43 : decode prog_13_method_50_code 43 = .ok (.bipush 16, 2) := by decide +kernel
theorem d_JL_bitCount_45 : decode prog_13_method_50_code 45 = .ok (.lushr, 1) := by decide +kernel
theorem d_JL_bitCount_46 : decode prog_13_method_50_code 46 = .ok (.ladd, 1) := by decide +kernel
theorem d_JL_bitCount_47 : decode prog_13_method_50_code 47 = .ok (.lstore_n 0, 1) := by decide +kernel
theorem d_JL_bitCount_48 : decode prog_13_method_50_code 48 = .ok (.lload_n 0, 1) := by decide +kernel
theorem d_JL_bitCount_49 : decode prog_13_method_50_code 49 = .ok (.lload_n 0, 1) := by decide +kernel
theorem d_JL_bitCount_50 : decode prog_13_method_50_code 50 = .ok (.bipush 32, 2) := by decide +kernel
theorem d_JL_bitCount_52 : decode prog_13_method_50_code 52 = .ok (.lushr, 1) := by decide +kernel
theorem d_JL_bitCount_53 : decode prog_13_method_50_code 53 = .ok (.ladd, 1) := by decide +kernel
theorem d_JL_bitCount_54 : decode prog_13_method_50_code 54 = .ok (.lstore_n 0, 1) := by decide +kernel
theorem d_JL_bitCount_55 : decode prog_13_method_50_code 55 = .ok (.lload_n 0, 1) := by decide +kernel
theorem d_JL_bitCount_56 : decode prog_13_method_50_code 56 = .ok (.l2i, 1) := by decide +kernel
theorem d_JL_bitCount_57 : decode prog_13_method_50_code 57 = .ok (.bipush 127, 2) := by decide +kernel
theorem d_JL_bitCount_59 : decode prog_13_method_50_code 59 = .ok (.iand, 1) := by decide +kernel
theorem d_JL_bitCount_60 : decode prog_13_method_50_code 60 = .ok (.ireturn, 1) := by decide +kernel
def rm_JL_bitCount : Room := { frames := 0, cells := 0, slots := 0, locals := 0 }
def f_JL_bitCount (σ : mS) (x0 : Int64) : Option (Int32) :=
  nm (x0 - (((x0.toUInt64 >>> ((1 : Int32).toInt64.toUInt64 &&& Int64.toUInt64 63)).toInt64) &&& 6148914691236517205)) fun v1 =>
  nm ((v1 &&& 3689348814741910323) + (((v1.toUInt64 >>> ((2 : Int32).toInt64.toUInt64 &&& Int64.toUInt64 63)).toInt64) &&& 3689348814741910323)) fun v2 =>
  nm ((v2 + ((v2.toUInt64 >>> ((4 : Int32).toInt64.toUInt64 &&& Int64.toUInt64 63)).toInt64)) &&& 1085102592571150095) fun v3 =>
  nm (v3 + ((v3.toUInt64 >>> ((8 : Int32).toInt64.toUInt64 &&& Int64.toUInt64 63)).toInt64)) fun v4 =>
  nm (v4 + ((v4.toUInt64 >>> ((16 : Int32).toInt64.toUInt64 &&& Int64.toUInt64 63)).toInt64)) fun v5 =>
  nm (v5 + ((v5.toUInt64 >>> ((32 : Int32).toInt64.toUInt64 &&& Int64.toUInt64 63)).toInt64)) fun v6 =>
  some (v6.toInt32 &&& 127)
set_option maxHeartbeats 4000000 in
set_option maxRecDepth 100000 in
theorem c_JL_bitCount (l : Launch) (D : va_G) (cA ad : Nat → Nat) (σ : mS) (x0 : Int64) (o : Int32) (h : f_JL_bitCount σ x0 = some o) : mCi l ⟨"java/lang/Long", "bitCount", "(J)I"⟩ (Cond.code ⟨"java/lang/Long", "bitCount", "(J)I"⟩ prog_13_method_50_code 2 (Option.some Jvm.ClassFile.FieldType.int) :: tlG) rm_JL_bitCount D clX (tyK cA) 99 (tbX cA) ad σ [.long x0] (o, σ) := by
  intro sz
  refine m_of (cc := prog_13_method_50_code) (maxL := 2) (Qc := mQi D clX (tyK cA) 99 (tbX cA) ad (o, σ)) (by decide) (Nat.le_of_ble_eq_true rfl) (fun p e s m args below meth c ls S hr hlk hnm hl M => ?_) sz
  have hl : lv_has ls 2 [(0, .long x0)] := hl
  generalize hQ : MQ _ _ _ _ _ _ _ = Q
  skip
  unfold f_JL_bitCount at h
  refine lv_lload_n S.1 S.2.1 d_JL_bitCount_0 rfl (lv_at hl 0 rfl) ?_
  refine lv_lload_n S.1 S.2.1 d_JL_bitCount_1 rfl (lv_at hl 0 rfl) ?_
  refine lv_iconst (v := 1) S.1 S.2.1 d_JL_bitCount_2 (by decide) ?_
  refine lv_lushr S.1 S.2.1 d_JL_bitCount_3 rfl ?_
  refine lv_ldc2 (v := 6148914691236517205) S.1 S.2.1 S.2.2.2.1 (S.2.2.2.2 _ kw_0) d_JL_bitCount_4 ?_
  refine lv_land S.1 S.2.1 d_JL_bitCount_7 ?_
  refine lv_lsub S.1 S.2.1 d_JL_bitCount_8 ?_
  refine m_nl h (fun v1 h => ?_)
  refine lv_lstore_n (lv' := [(0, .long v1)]) S.1 S.2.1 d_JL_bitCount_9 rfl hl (by decide) rfl (fun ls hl => ?_)
  refine lv_lload_n S.1 S.2.1 d_JL_bitCount_10 rfl (lv_at hl 0 rfl) ?_
  refine lv_ldc2 (v := 3689348814741910323) S.1 S.2.1 S.2.2.2.1 (S.2.2.2.2 _ kw_1) d_JL_bitCount_11 ?_
  refine lv_land S.1 S.2.1 d_JL_bitCount_14 ?_
  refine lv_lload_n S.1 S.2.1 d_JL_bitCount_15 rfl (lv_at hl 0 rfl) ?_
  refine lv_iconst (v := 2) S.1 S.2.1 d_JL_bitCount_16 (by decide) ?_
  refine lv_lushr S.1 S.2.1 d_JL_bitCount_17 rfl ?_
  refine lv_ldc2 (v := 3689348814741910323) S.1 S.2.1 S.2.2.2.1 (S.2.2.2.2 _ kw_1) d_JL_bitCount_18 ?_
  refine lv_land S.1 S.2.1 d_JL_bitCount_21 ?_
  refine lv_ladd S.1 S.2.1 d_JL_bitCount_22 ?_
  refine m_nl h (fun v2 h => ?_)
  refine lv_lstore_n (lv' := [(0, .long v2)]) S.1 S.2.1 d_JL_bitCount_23 rfl hl (by decide) rfl (fun ls hl => ?_)
  refine lv_lload_n S.1 S.2.1 d_JL_bitCount_24 rfl (lv_at hl 0 rfl) ?_
  refine lv_lload_n S.1 S.2.1 d_JL_bitCount_25 rfl (lv_at hl 0 rfl) ?_
  refine lv_iconst (v := 4) S.1 S.2.1 d_JL_bitCount_26 (by decide) ?_
  refine lv_lushr S.1 S.2.1 d_JL_bitCount_27 rfl ?_
  refine lv_ladd S.1 S.2.1 d_JL_bitCount_28 ?_
  refine lv_ldc2 (v := 1085102592571150095) S.1 S.2.1 S.2.2.2.1 (S.2.2.2.2 _ kw_2) d_JL_bitCount_29 ?_
  refine lv_land S.1 S.2.1 d_JL_bitCount_32 ?_
  refine m_nl h (fun v3 h => ?_)
  refine lv_lstore_n (lv' := [(0, .long v3)]) S.1 S.2.1 d_JL_bitCount_33 rfl hl (by decide) rfl (fun ls hl => ?_)
  refine lv_lload_n S.1 S.2.1 d_JL_bitCount_34 rfl (lv_at hl 0 rfl) ?_
  refine lv_lload_n S.1 S.2.1 d_JL_bitCount_35 rfl (lv_at hl 0 rfl) ?_
  refine lv_bipush (v := 8) S.1 S.2.1 d_JL_bitCount_36 (by decide) ?_
  refine lv_lushr S.1 S.2.1 d_JL_bitCount_38 rfl ?_
  refine lv_ladd S.1 S.2.1 d_JL_bitCount_39 ?_
  refine m_nl h (fun v4 h => ?_)
  refine lv_lstore_n (lv' := [(0, .long v4)]) S.1 S.2.1 d_JL_bitCount_40 rfl hl (by decide) rfl (fun ls hl => ?_)
  refine lv_lload_n S.1 S.2.1 d_JL_bitCount_41 rfl (lv_at hl 0 rfl) ?_
  refine lv_lload_n S.1 S.2.1 d_JL_bitCount_42 rfl (lv_at hl 0 rfl) ?_
  refine lv_bipush (v := 16) S.1 S.2.1 d_JL_bitCount_43 (by decide) ?_
  refine lv_lushr S.1 S.2.1 d_JL_bitCount_45 rfl ?_
  refine lv_ladd S.1 S.2.1 d_JL_bitCount_46 ?_
  refine m_nl h (fun v5 h => ?_)
  refine lv_lstore_n (lv' := [(0, .long v5)]) S.1 S.2.1 d_JL_bitCount_47 rfl hl (by decide) rfl (fun ls hl => ?_)
  refine lv_lload_n S.1 S.2.1 d_JL_bitCount_48 rfl (lv_at hl 0 rfl) ?_
  refine lv_lload_n S.1 S.2.1 d_JL_bitCount_49 rfl (lv_at hl 0 rfl) ?_
  refine lv_bipush (v := 32) S.1 S.2.1 d_JL_bitCount_50 (by decide) ?_
  refine lv_lushr S.1 S.2.1 d_JL_bitCount_52 rfl ?_
  refine lv_ladd S.1 S.2.1 d_JL_bitCount_53 ?_
  refine m_nl h (fun v6 h => ?_)
  refine lv_lstore_n (lv' := [(0, .long v6)]) S.1 S.2.1 d_JL_bitCount_54 rfl hl (by decide) rfl (fun ls hl => ?_)
  refine lv_lload_n S.1 S.2.1 d_JL_bitCount_55 rfl (lv_at hl 0 rfl) ?_
  refine lv_l2i S.1 S.2.1 d_JL_bitCount_56 rfl ?_
  refine lv_bipush (v := 127) S.1 S.2.1 d_JL_bitCount_57 (by decide) ?_
  refine lv_iand S.1 S.2.1 d_JL_bitCount_59 ?_
  subst hQ; exact m_iret S hr hlk M (by rw [Option.some.inj h]) d_JL_bitCount_60
