theorem d_Mo_led_0 : decode prog_12_method_28_code 0 = .ok (.aload_n 0, 1) := by decide +kernel
theorem d_Mo_led_1 : decode prog_12_method_28_code 1 = .ok (.iload_n 1, 1) := by decide +kernel
theorem d_Mo_led_2 : decode prog_12_method_28_code 2 = .ok (.invokevirtual 94, 3) := by decide +kernel
theorem d_Mo_led_5 : decode prog_12_method_28_code 5 = .ok (.ifCond .eq 20, 3) := by decide +kernel
theorem d_Mo_led_8 : decode prog_12_method_28_code 8 = .ok (.aload_n 0, 1) := by decide +kernel
theorem d_Mo_led_9 : decode prog_12_method_28_code 9 = .ok (.iload_n 2, 1) := by decide +kernel
theorem d_Mo_led_10 : decode prog_12_method_28_code 10 = .ok (.invokevirtual 94, 3) := by decide +kernel
theorem d_Mo_led_13 : decode prog_12_method_28_code 13 = .ok (.ifCond .eq 12, 3) := by decide +kernel
theorem d_Mo_led_16 : decode prog_12_method_28_code 16 = .ok (.aload_n 0, 1) := by decide +kernel
theorem d_Mo_led_17 : decode prog_12_method_28_code 17 = .ok (.iload_n 1, 1) := by decide +kernel
theorem d_Mo_led_18 : decode prog_12_method_28_code 18 = .ok (.iload_n 2, 1) := by decide +kernel
theorem d_Mo_led_19 : decode prog_12_method_28_code 19 = .ok (.invokevirtual 128, 3) := by decide +kernel
theorem d_Mo_led_22 : decode prog_12_method_28_code 22 = .ok (.goto 4, 3) := by decide +kernel
theorem d_Mo_led_25 : decode prog_12_method_28_code 25 = .ok (.iconst (-1), 1) := by decide +kernel
theorem d_Mo_led_26 : decode prog_12_method_28_code 26 = .ok (.ireturn, 1) := by decide +kernel
def rm_Mo_led : Room := { frames := 2, cells := 0, slots := 0, locals := 50 }
def f_Mo_led (σ : mS) (x1 : Int32) (x2 : Int32) : Option (Int32 × mS) :=
  (f_Mo_isNode σ x1).bind fun v1 =>
  if v1 = 0 then (
  some ((-1), σ)) else (
  (f_Mo_isNode σ x2).bind fun v2 =>
  if v2 = 0 then (
  some ((-1), σ)) else (
  (f_Mo_search σ x1 x2).bind fun o3 =>
  some (o3.1, o3.2)))
set_option maxHeartbeats 4000000 in
set_option maxRecDepth 100000 in
theorem c_Mo_led (l : Launch) (D : va_G) (cA ad : Nat → Nat) (σ : mS) (x1 : Int32) (x2 : Int32) (o : Int32 × mS) (h : f_Mo_led σ x1 x2 = some o) : mCi l ⟨"LeastPathsModel", "led", "(II)I"⟩ (Cond.code ⟨"LeastPathsModel", "led", "(II)I"⟩ prog_12_method_28_code 3 (Option.some Jvm.ClassFile.FieldType.int) :: tlG) rm_Mo_led D clX (tyK cA) 23 (tbY cA) ad σ [.ref (ad 0), .int x1, .int x2] o := by
  intro sz
  refine m_of (cc := prog_12_method_28_code) (maxL := 3) (Qc := mQi D clX (tyK cA) 23 (tbY cA) ad o) (by decide) (Nat.le_of_ble_eq_true rfl) (fun p e s m args below meth c ls S hr hlk hnm hl M => ?_) sz
  have hl : lv_has ls 3 [(0, .ref (ad 0)), (1, .int x1), (2, .int x2)] := hl
  generalize hQ : MQ _ _ _ _ _ _ _ = Q
  skip
  unfold f_Mo_led at h
  refine lv_aload_n S.1 S.2.1 d_Mo_led_0 rfl (lv_at hl 0 rfl) ?_
  refine lv_iload_n S.1 S.2.1 d_Mo_led_1 rfl (lv_at hl 1 rfl) ?_
  refine m_xip h (fun o ho => m_rV (As := [.int x1]) (rest := []) S M hl.1 (cwG (n := 1) S.2.2.2.2 kw_393 kw_394 kw_395 kw_391 kw_396 (by decide) ⟨Nat.le_of_ble_eq_true rfl, Nat.le_of_ble_eq_true rfl⟩) ok_Mo (by decide) rfl (c_Mo_isNode l D cA ad σ x1 o ho _) rfl rfl (Nat.le_of_ble_eq_true rfl) d_Mo_led_2 ⟨Nat.zero_le _, Nat.zero_le _⟩) M (fun v1 H locs h M => ?_)
  refine m_ifeq (tgt := 25) S d_Mo_led_5 (by decide) h (fun h => ?_) (fun h => ?_)
  · refine lv_iconst (v := (-1)) S.1 S.2.1 d_Mo_led_25 (by decide) ?_
    subst hQ; exact m_iret S hr hlk M (Option.some.inj h) d_Mo_led_26
  · refine lv_aload_n S.1 S.2.1 d_Mo_led_8 rfl (lv_at hl 0 rfl) ?_
    refine lv_iload_n S.1 S.2.1 d_Mo_led_9 rfl (lv_at hl 2 rfl) ?_
    refine m_xip h (fun o ho => m_rV (As := [.int x2]) (rest := []) S M hl.1 (cwG (n := 1) S.2.2.2.2 kw_393 kw_394 kw_395 kw_391 kw_396 (by decide) ⟨Nat.le_of_ble_eq_true rfl, Nat.le_of_ble_eq_true rfl⟩) ok_Mo (by decide) rfl (c_Mo_isNode l D cA ad σ x2 o ho _) rfl rfl (Nat.le_of_ble_eq_true rfl) d_Mo_led_10 ⟨Nat.zero_le _, Nat.zero_le _⟩) M (fun v2 H locs h M => ?_)
    refine m_ifeq (tgt := 25) S d_Mo_led_13 (by decide) h (fun h => ?_) (fun h => ?_)
    · refine lv_iconst (v := (-1)) S.1 S.2.1 d_Mo_led_25 (by decide) ?_
      subst hQ; exact m_iret S hr hlk M (Option.some.inj h) d_Mo_led_26
    · refine lv_aload_n S.1 S.2.1 d_Mo_led_16 rfl (lv_at hl 0 rfl) ?_
      refine lv_iload_n S.1 S.2.1 d_Mo_led_17 rfl (lv_at hl 1 rfl) ?_
      refine lv_iload_n S.1 S.2.1 d_Mo_led_18 rfl (lv_at hl 2 rfl) ?_
      refine m_xi h (fun o ho => m_rV (As := [.int x1, .int x2]) (rest := []) S M hl.1 (cwG (n := 2) S.2.2.2.2 kw_441 kw_442 kw_443 kw_391 kw_444 (by decide) ⟨Nat.le_of_ble_eq_true rfl, Nat.le_of_ble_eq_true rfl⟩) ok_Mo (by decide) rfl (c_Mo_search l D cA ad σ x1 x2 o ho _) rfl rfl (Nat.le_of_ble_eq_true rfl) d_Mo_led_19 ⟨Nat.zero_le _, Nat.zero_le _⟩) M (fun o3 H locs h M => ?_)
      refine lv_goto (tgt := 26) S.1 S.2.1 d_Mo_led_22 (by decide) ?_
      subst hQ; exact m_iret S hr hlk M (Option.some.inj h) d_Mo_led_26
theorem d_Mo_ledTo_0 : decode prog_12_method_29_code 0 = .ok (.aload_n 0, 1) := by decide +kernel
theorem d_Mo_ledTo_1 : decode prog_12_method_29_code 1 = .ok (.iload_n 1, 1) := by decide +kernel
theorem d_Mo_ledTo_2 : decode prog_12_method_29_code 2 = .ok (.invokevirtual 94, 3) := by decide +kernel
theorem d_Mo_ledTo_5 : decode prog_12_method_29_code 5 = .ok (.ifCond .eq 11, 3) := by decide +kernel
theorem d_Mo_ledTo_8 : decode prog_12_method_29_code 8 = .ok (.aload_n 0, 1) := by decide +kernel
theorem d_Mo_ledTo_9 : decode prog_12_method_29_code 9 = .ok (.iload_n 2, 1) := by decide +kernel
theorem d_Mo_ledTo_10 : decode prog_12_method_29_code 10 = .ok (.invokevirtual 94, 3) := by decide +kernel
theorem d_Mo_ledTo_13 : decode prog_12_method_29_code 13 = .ok (.ifCond .ne 5, 3) := by decide +kernel
theorem d_Mo_ledTo_16 : decode prog_12_method_29_code 16 = .ok (.iconst (-1), 1) := by decide +kernel
theorem d_Mo_ledTo_17 : decode prog_12_method_29_code 17 = .ok (.ireturn, 1) := by decide +kernel
theorem d_Mo_ledTo_18 : decode prog_12_method_29_code 18 = .ok (.aload_n 0, 1) := by decide +kernel
theorem d_Mo_ledTo_19 : decode prog_12_method_29_code 19 = .ok (.iload_n 1, 1) := by decide +kernel
theorem d_Mo_ledTo_20 : decode prog_12_method_29_code 20 = .ok (.iload_n 2, 1) := by decide +kernel
theorem d_Mo_ledTo_21 : decode prog_12_method_29_code 21 = .ok (.invokevirtual 128, 3) := by decide +kernel
theorem d_Mo_ledTo_24 : decode prog_12_method_29_code 24 = .ok (.istore_n 3, 1) := by decide +kernel
theorem d_Mo_ledTo_25 : decode prog_12_method_29_code 25 = .ok (.aload_n 0, 1) := by decide +kernel
theorem d_Mo_ledTo_26 : decode prog_12_method_29_code 26 = .ok (.getfield 44, 3) := by decide +kernel
theorem d_Mo_ledTo_29 : decode prog_12_method_29_code 29 = .ok (.iload_n 2, 1) := by decide +kernel
theorem d_Mo_ledTo_30 : decode prog_12_method_29_code 30 = .ok (.iaload, 1) := by decide +kernel
theorem d_Mo_ledTo_31 : decode prog_12_method_29_code 31 = .ok (.ldc 102, 2) := by decide +kernel
theorem d_Mo_ledTo_33 : decode prog_12_method_29_code 33 = .ok (.if_icmp .ne 8, 3) := by decide +kernel
theorem d_Mo_ledTo_36 : decode prog_12_method_29_code 36 = .ok (.bipush (-3), 2) := by decide +kernel
theorem d_Mo_ledTo_38 : decode prog_12_method_29_code 38 = .ok (.goto 9, 3) := by decide +kernel
theorem d_Mo_ledTo_41 : decode prog_12_method_29_code 41 = .ok (.aload_n 0, 1) := by decide +kernel
theorem d_Mo_ledTo_42 : decode prog_12_method_29_code 42 = .ok (.getfield 44, 3) := by decide +kernel
theorem d_Mo_ledTo_45 : decode prog_12_method_29_code 45 = .ok (.iload_n 2, 1) := by decide +kernel
theorem d_Mo_ledTo_46 : decode prog_12_method_29_code 46 = .ok (.iaload, 1) := by decide +kernel
theorem d_Mo_ledTo_47 : decode prog_12_method_29_code 47 = .ok (.ireturn, 1) := by decide +kernel
def rm_Mo_ledTo : Room := { frames := 2, cells := 0, slots := 0, locals := 50 }
def f_Mo_ledTo (σ : mS) (x1 : Int32) (x2 : Int32) : Option (Int32 × mS) :=
  (f_Mo_isNode σ x1).bind fun v1 =>
  if v1 = 0 then (
  some ((-1), σ)) else (
  (f_Mo_isNode σ x2).bind fun v2 =>
  if v2 = 0 then (
  some ((-1), σ)) else (
  (f_Mo_search σ x1 x2).bind fun o3 =>
  gd (inb x2 20) (
  if (o3.2.1 12 x2.toNatClampNeg) = 1000000000 then (
  some ((-3), o3.2)) else (
  gd (inb x2 20) (
  some (o3.2.1 12 x2.toNatClampNeg, o3.2))))))
set_option maxHeartbeats 4000000 in
set_option maxRecDepth 100000 in
theorem c_Mo_ledTo (l : Launch) (D : va_G) (cA ad : Nat → Nat) (σ : mS) (x1 : Int32) (x2 : Int32) (o : Int32 × mS) (h : f_Mo_ledTo σ x1 x2 = some o) : mCi l ⟨"LeastPathsModel", "ledTo", "(II)I"⟩ (Cond.code ⟨"LeastPathsModel", "ledTo", "(II)I"⟩ prog_12_method_29_code 4 (Option.some Jvm.ClassFile.FieldType.int) :: tlG) rm_Mo_ledTo D clX (tyK cA) 23 (tbY cA) ad σ [.ref (ad 0), .int x1, .int x2] o := by
  intro sz
  refine m_of (cc := prog_12_method_29_code) (maxL := 4) (Qc := mQi D clX (tyK cA) 23 (tbY cA) ad o) (by decide) (Nat.le_of_ble_eq_true rfl) (fun p e s m args below meth c ls S hr hlk hnm hl M => ?_) sz
  have hl : lv_has ls 4 [(0, .ref (ad 0)), (1, .int x1), (2, .int x2)] := hl
  generalize hQ : MQ _ _ _ _ _ _ _ = Q
  skip
  unfold f_Mo_ledTo at h
  refine lv_aload_n S.1 S.2.1 d_Mo_ledTo_0 rfl (lv_at hl 0 rfl) ?_
  refine lv_iload_n S.1 S.2.1 d_Mo_ledTo_1 rfl (lv_at hl 1 rfl) ?_
  refine m_xip h (fun o ho => m_rV (As := [.int x1]) (rest := []) S M hl.1 (cwG (n := 1) S.2.2.2.2 kw_393 kw_394 kw_395 kw_391 kw_396 (by decide) ⟨Nat.le_of_ble_eq_true rfl, Nat.le_of_ble_eq_true rfl⟩) ok_Mo (by decide) rfl (c_Mo_isNode l D cA ad σ x1 o ho _) rfl rfl (Nat.le_of_ble_eq_true rfl) d_Mo_ledTo_2 ⟨Nat.zero_le _, Nat.zero_le _⟩) M (fun v1 H locs h M => ?_)
  refine m_ifeq (tgt := 16) S d_Mo_ledTo_5 (by decide) h (fun h => ?_) (fun h => ?_)
  · refine lv_iconst (v := (-1)) S.1 S.2.1 d_Mo_ledTo_16 (by decide) ?_
    subst hQ; exact m_iret S hr hlk M (Option.some.inj h) d_Mo_ledTo_17
  · refine lv_aload_n S.1 S.2.1 d_Mo_ledTo_8 rfl (lv_at hl 0 rfl) ?_
    refine lv_iload_n S.1 S.2.1 d_Mo_ledTo_9 rfl (lv_at hl 2 rfl) ?_
    refine m_xip h (fun o ho => m_rV (As := [.int x2]) (rest := []) S M hl.1 (cwG (n := 1) S.2.2.2.2 kw_393 kw_394 kw_395 kw_391 kw_396 (by decide) ⟨Nat.le_of_ble_eq_true rfl, Nat.le_of_ble_eq_true rfl⟩) ok_Mo (by decide) rfl (c_Mo_isNode l D cA ad σ x2 o ho _) rfl rfl (Nat.le_of_ble_eq_true rfl) d_Mo_ledTo_10 ⟨Nat.zero_le _, Nat.zero_le _⟩) M (fun v2 H locs h M => ?_)
    refine m_ifne (tgt := 18) S d_Mo_ledTo_13 (by decide) h (fun h => ?_) (fun h => ?_)
    · refine lv_aload_n S.1 S.2.1 d_Mo_ledTo_18 rfl (lv_at hl 0 rfl) ?_
      refine lv_iload_n S.1 S.2.1 d_Mo_ledTo_19 rfl (lv_at hl 1 rfl) ?_
      refine lv_iload_n S.1 S.2.1 d_Mo_ledTo_20 rfl (lv_at hl 2 rfl) ?_
      refine m_xi h (fun o ho => m_rV (As := [.int x1, .int x2]) (rest := []) S M hl.1 (cwG (n := 2) S.2.2.2.2 kw_441 kw_442 kw_443 kw_391 kw_444 (by decide) ⟨Nat.le_of_ble_eq_true rfl, Nat.le_of_ble_eq_true rfl⟩) ok_Mo (by decide) rfl (c_Mo_search l D cA ad σ x1 x2 o ho _) rfl rfl (Nat.le_of_ble_eq_true rfl) d_Mo_ledTo_21 ⟨Nat.zero_le _, Nat.zero_le _⟩) M (fun o3 H locs h M => ?_)
      refine lv_istore_n (lv' := [(3, .int o3.1), (0, .ref (ad 0)), (1, .int x1), (2, .int x2)]) S.1 S.2.1 d_Mo_ledTo_24 rfl hl (by decide) rfl (fun ls hl => ?_)
      refine lv_aload_n S.1 S.2.1 d_Mo_ledTo_25 rfl (lv_at hl 1 rfl) ?_
      refine m_gs (t := 12) S M (j := 14) ok_Mo (by decide) rfl (by decide) rfl kw_423 rfl d_Mo_ledTo_26 ?_
      refine lv_iload_n S.1 S.2.1 d_Mo_ledTo_29 rfl (lv_at hl 3 rfl) ?_
      refine m_ial (t0 := 0) S M (by decide) rfl rfl h d_Mo_ledTo_30 (fun h => ?_)
      refine lv_ldc (v := 1000000000) S.1 S.2.1 S.2.2.2.1 (S.2.2.2.2 _ kw_408) d_Mo_ledTo_31 ?_
      refine m_ine (tgt := 41) S d_Mo_ledTo_33 (by decide) h (fun h => ?_) (fun h => ?_)
      · refine lv_aload_n S.1 S.2.1 d_Mo_ledTo_41 rfl (lv_at hl 1 rfl) ?_
        refine m_gs (t := 12) S M (j := 14) ok_Mo (by decide) rfl (by decide) rfl kw_423 rfl d_Mo_ledTo_42 ?_
        refine lv_iload_n S.1 S.2.1 d_Mo_ledTo_45 rfl (lv_at hl 3 rfl) ?_
        refine m_ial (t0 := 0) S M (by decide) rfl rfl h d_Mo_ledTo_46 (fun h => ?_)
        subst hQ; exact m_iret S hr hlk M (Option.some.inj h) d_Mo_ledTo_47
      · refine lv_bipush (v := (-3)) S.1 S.2.1 d_Mo_ledTo_36 (by decide) ?_
        refine lv_goto (tgt := 47) S.1 S.2.1 d_Mo_ledTo_38 (by decide) ?_
        subst hQ; exact m_iret S hr hlk M (Option.some.inj h) d_Mo_ledTo_47
    · refine lv_iconst (v := (-1)) S.1 S.2.1 d_Mo_ledTo_16 (by decide) ?_
      subst hQ; exact m_iret S hr hlk M (Option.some.inj h) d_Mo_ledTo_17
theorem d_Mo_best_0 : decode prog_12_method_30_code 0 = .ok (.ldc 102, 2) := by decide +kernel
theorem d_Mo_best_2 : decode prog_12_method_30_code 2 = .ok (.istore_n 1, 1) := by decide +kernel
theorem d_Mo_best_3 : decode prog_12_method_30_code 3 = .ok (.iconst 0, 1) := by decide +kernel
theorem d_Mo_best_4 : decode prog_12_method_30_code 4 = .ok (.istore_n 2, 1) := by decide +kernel
theorem d_Mo_best_5 : decode prog_12_method_30_code 5 = .ok (.iload_n 2, 1) := by decide +kernel
theorem d_Mo_best_6 : decode prog_12_method_30_code 6 = .ok (.aload_n 0, 1) := by decide +kernel
theorem d_Mo_best_7 : decode prog_12_method_30_code 7 = .ok (.getfield 85, 3) := by decide +kernel
theorem d_Mo_best_10 : decode prog_12_method_30_code 10 = .ok (.if_icmp .ge 71, 3) := by decide +kernel
theorem d_Mo_best_13 : decode prog_12_method_30_code 13 = .ok (.aload_n 0, 1) := by decide +kernel
theorem d_Mo_best_14 : decode prog_12_method_30_code 14 = .ok (.getfield 44, 3) := by decide +kernel
theorem d_Mo_best_17 : decode prog_12_method_30_code 17 = .ok (.iload_n 2, 1) := by decide +kernel
theorem d_Mo_best_18 : decode prog_12_method_30_code 18 = .ok (.iaload, 1) := by decide +kernel
theorem d_Mo_best_19 : decode prog_12_method_30_code 19 = .ok (.ldc 102, 2) := by decide +kernel
theorem d_Mo_best_21 : decode prog_12_method_30_code 21 = .ok (.if_icmp .ge 54, 3) := by decide +kernel
theorem d_Mo_best_24 : decode prog_12_method_30_code 24 = .ok (.aload_n 0, 1) := by decide +kernel
theorem d_Mo_best_25 : decode prog_12_method_30_code 25 = .ok (.getfield 44, 3) := by decide +kernel
theorem d_Mo_best_28 : decode prog_12_method_30_code 28 = .ok (.bipush 10, 2) := by decide +kernel
theorem d_Mo_best_30 : decode prog_12_method_30_code 30 = .ok (.iload_n 2, 1) := by decide +kernel
theorem d_Mo_best_31 : decode prog_12_method_30_code 31 = .ok (.iadd, 1) := by decide +kernel
theorem d_Mo_best_32 : decode prog_12_method_30_code 32 = .ok (.iaload, 1) := by decide +kernel
theorem d_Mo_best_33 : decode prog_12_method_30_code 33 = .ok (.ldc 102, 2) := by decide +kernel
theorem d_Mo_best_35 : decode prog_12_method_30_code 35 = .ok (.if_icmp .ge 40, 3) := by decide +kernel
theorem d_Mo_best_38 : decode prog_12_method_30_code 38 = .ok (.aload_n 0, 1) := by decide +kernel
theorem d_Mo_best_39 : decode prog_12_method_30_code 39 = .ok (.getfield 44, 3) := by decide +kernel
theorem d_Mo_best_42 : decode prog_12_method_30_code 42 = .ok (.iload_n 2, 1) := by decide +kernel
theorem d_Mo_best_43 : decode prog_12_method_30_code 43 = .ok (.iaload, 1) := by decide +kernel
theorem d_Mo_best_44 : decode prog_12_method_30_code 44 = .ok (.aload_n 0, 1) := by decide +kernel
theorem d_Mo_best_45 : decode prog_12_method_30_code 45 = .ok (.getfield 44, 3) := by decide +kernel
theorem d_Mo_best_48 : decode prog_12_method_30_code 48 = .ok (.bipush 10, 2) := by decide +kernel
theorem d_Mo_best_50 : decode prog_12_method_30_code 50 = .ok (.iload_n 2, 1) := by decide +kernel
theorem d_Mo_best_51 : decode prog_12_method_30_code 51 = .ok (.iadd, 1) := by decide +kernel
theorem d_Mo_best_52 : decode prog_12_method_30_code 52 = .ok (.iaload, 1) := by decide +kernel
theorem d_Mo_best_53 : decode prog_12_method_30_code 53 = .ok (.iadd, 1) := by decide +kernel
theorem d_Mo_best_54 : decode prog_12_method_30_code 54 = .ok (.iload_n 1, 1) := by decide +kernel
theorem d_Mo_best_55 : decode prog_12_method_30_code 55 = .ok (.if_icmp .ge 20, 3) := by decide +kernel
theorem d_Mo_best_58 : decode prog_12_method_30_code 58 = .ok (.aload_n 0, 1) := by decide +kernel
theorem d_Mo_best_59 : decode prog_12_method_30_code 59 = .ok (.getfield 44, 3) := by decide +kernel
theorem d_Mo_best_62 : decode prog_12_method_30_code 62 = .ok (.iload_n 2, 1) := by decide +kernel
theorem d_Mo_best_63 : decode prog_12_method_30_code 63 = .ok (.iaload, 1) := by decide +kernel
theorem d_Mo_best_64 : decode prog_12_method_30_code 64 = .ok (.aload_n 0, 1) := by decide +kernel
theorem d_Mo_best_65 : decode prog_12_method_30_code 65 = .ok (.getfield 44, 3) := by decide +kernel
theorem d_Mo_best_68 : decode prog_12_method_30_code 68 = .ok (.bipush 10, 2) := by decide +kernel
theorem d_Mo_best_70 : decode prog_12_method_30_code 70 = .ok (.iload_n 2, 1) := by decide +kernel
theorem d_Mo_best_71 : decode prog_12_method_30_code 71 = .ok (.iadd, 1) := by decide +kernel
theorem d_Mo_best_72 : decode prog_12_method_30_code 72 = .ok (.iaload, 1) := by decide +kernel
theorem d_Mo_best_73 : decode prog_12_method_30_code 73 = .ok (.iadd, 1) := by decide +kernel
theorem d_Mo_best_74 : decode prog_12_method_30_code 74 = .ok (.istore_n 1, 1) := by decide +kernel
theorem d_Mo_best_75 : decode prog_12_method_30_code 75 = .ok (.iinc 2 1, 3) := by decide +kernel
theorem d_Mo_best_78 : decode prog_12_method_30_code 78 = .ok (.goto (-73), 3) := by decide +kernel
theorem d_Mo_best_81 : decode prog_12_method_30_code 81 = .ok (.iload_n 1, 1) := by decide +kernel
theorem d_Mo_best_82 : decode prog_12_method_30_code 82 = .ok (.ireturn, 1) := by decide +kernel
def rm_Mo_best : Room := { frames := 0, cells := 0, slots := 0, locals := 0 }
def f_Mo_best_L5 (σ : mS) : (Int32 × Int32) → Option ((Int32 × Int32) ⊕ (Int32 × Int32)) := fun t5 =>
  if (σ.1 0 1) ≤ t5.2 then (
  some (.inr (t5.1, t5.2))) else (
  gd (inb t5.2 20) (
  if 1000000000 ≤ (σ.1 12 t5.2.toNatClampNeg) then (
  some (.inl (t5.1, t5.2 + 1))) else (
  gd (inb (10 + t5.2) 20) (
  if 1000000000 ≤ (σ.1 12 (10 + t5.2).toNatClampNeg) then (
  some (.inl (t5.1, t5.2 + 1))) else (
  gd (inb t5.2 20) (
  gd (inb (10 + t5.2) 20) (
  if t5.1 ≤ ((σ.1 12 t5.2.toNatClampNeg) + (σ.1 12 (10 + t5.2).toNatClampNeg)) then (
  some (.inl (t5.1, t5.2 + 1))) else (
  gd (inb t5.2 20) (
  gd (inb (10 + t5.2) 20) (
  nm ((σ.1 12 t5.2.toNatClampNeg) + (σ.1 12 (10 + t5.2).toNatClampNeg)) fun v1 =>
  some (.inl (v1, t5.2 + 1))))))))))))
def f_Mo_best (σ : mS) : Option (Int32) :=
  (lpN (f_Mo_best_L5 σ) fuB (1000000000, 0)).bind fun u5 =>
  some u5.1
set_option maxHeartbeats 4000000 in
set_option maxRecDepth 100000 in
theorem c_Mo_best (l : Launch) (D : va_G) (cA ad : Nat → Nat) (σ : mS) (o : Int32) (h : f_Mo_best σ = some o) : mCi l ⟨"LeastPathsModel", "best", "()I"⟩ (Cond.code ⟨"LeastPathsModel", "best", "()I"⟩ prog_12_method_30_code 3 (Option.some Jvm.ClassFile.FieldType.int) :: tlG) rm_Mo_best D clX (tyK cA) 23 (tbY cA) ad σ [.ref (ad 0)] (o, σ) := by
  intro sz
  refine m_of (cc := prog_12_method_30_code) (maxL := 3) (Qc := mQi D clX (tyK cA) 23 (tbY cA) ad (o, σ)) (by decide) (Nat.le_of_ble_eq_true rfl) (fun p e s m args below meth c ls S hr hlk hnm hl M => ?_) sz
  have hl : lv_has ls 3 [(0, .ref (ad 0))] := hl
  generalize hQ : MQ _ _ _ _ _ _ _ = Q
  skip
  unfold f_Mo_best at h
  refine lv_ldc (v := 1000000000) S.1 S.2.1 S.2.2.2.1 (S.2.2.2.2 _ kw_408) d_Mo_best_0 ?_
  refine lv_istore_n (lv' := [(1, .int 1000000000), (0, .ref (ad 0))]) S.1 S.2.1 d_Mo_best_2 rfl hl (by decide) rfl (fun ls hl => ?_)
  refine lv_iconst (v := 0) S.1 S.2.1 d_Mo_best_3 (by decide) ?_
  refine lv_istore_n (lv' := [(2, .int 0), (1, .int 1000000000), (0, .ref (ad 0))]) S.1 S.2.1 d_Mo_best_4 rfl hl (by decide) rfl (fun ls hl => ?_)
  obtain ⟨u5, q5, h⟩ := Option.bind_eq_some_iff.mp h
  refine lpN_W1 (st := f_Mo_best_L5 σ) (fun (t5 : Int32 × Int32) => ∀ (ls : Array Slot) (H : Heap) (locs : List Loc), lv_has ls 3 [(2, .int t5.2), (1, .int t5.1), (0, .ref (ad 0))] → mM D clX (tyK cA) (mA 23 ad s.heap.size) s 23 (tbY cA) ad σ H locs → W p l e rm_Mo_best s m args below meth c H locs 0 0 Q (F0 m 5 ls [])) (fun (u5 : Int32 × Int32) => ∀ (ls : Array Slot) (H : Heap) (locs : List Loc), lv_has ls 3 [(2, .int u5.2), (1, .int u5.1), (0, .ref (ad 0))] → mM D clX (tyK cA) (mA 23 ad s.heap.size) s 23 (tbY cA) ad σ H locs → W p l e rm_Mo_best s m args below meth c H locs 0 0 Q (F0 m 81 ls [])) ?_ fuB ((1000000000, 0) : Int32 × Int32) u5 q5 ?_ ls _ _ (lv_sub hl [0, 1, 2] rfl) M
  · intro t5 oo5 h K1 K2 ls H locs hl M
    unfold f_Mo_best_L5 at h
    refine lv_iload_n S.1 S.2.1 d_Mo_best_5 rfl (lv_at hl 0 rfl) ?_
    refine lv_aload_n S.1 S.2.1 d_Mo_best_6 rfl (lv_at hl 2 rfl) ?_
    refine m_gi S M (j := 1) ok_Mo (by decide) rfl (by decide) rfl kw_382 rfl d_Mo_best_7 ?_
    refine m_ige (tgt := 81) S d_Mo_best_10 (by decide) h (fun h => ?_) (fun h => ?_)
    · exact K2 _ (Option.some.inj h).symm ls _ _ (lv_sub hl [0, 1, 2] rfl) M
    · refine lv_aload_n S.1 S.2.1 d_Mo_best_13 rfl (lv_at hl 2 rfl) ?_
      refine m_gs (t := 12) S M (j := 14) ok_Mo (by decide) rfl (by decide) rfl kw_423 rfl d_Mo_best_14 ?_
      refine lv_iload_n S.1 S.2.1 d_Mo_best_17 rfl (lv_at hl 0 rfl) ?_
      refine m_ial (t0 := 0) S M (by decide) rfl rfl h d_Mo_best_18 (fun h => ?_)
      refine lv_ldc (v := 1000000000) S.1 S.2.1 S.2.2.2.1 (S.2.2.2.2 _ kw_408) d_Mo_best_19 ?_
      refine m_ige (tgt := 75) S d_Mo_best_21 (by decide) h (fun h => ?_) (fun h => ?_)
      · refine lv_iinc (v := t5.2 + 1) (lv' := [(2, .int (t5.2 + 1)), (1, .int t5.1), (0, .ref (ad 0))]) S.1 S.2.1 d_Mo_best_75 hl (k := 0) rfl rfl (by decide) rfl (fun ls hl => ?_)
        refine lv_goto (tgt := 5) S.1 S.2.1 d_Mo_best_78 (by decide) ?_
        exact K1 _ (Option.some.inj h).symm ls _ _ (lv_sub hl [0, 1, 2] rfl) M
      · refine lv_aload_n S.1 S.2.1 d_Mo_best_24 rfl (lv_at hl 2 rfl) ?_
        refine m_gs (t := 12) S M (j := 14) ok_Mo (by decide) rfl (by decide) rfl kw_423 rfl d_Mo_best_25 ?_
        refine lv_bipush (v := 10) S.1 S.2.1 d_Mo_best_28 (by decide) ?_
        refine lv_iload_n S.1 S.2.1 d_Mo_best_30 rfl (lv_at hl 0 rfl) ?_
        refine lv_iadd S.1 S.2.1 d_Mo_best_31 ?_
        refine m_ial (t0 := 0) S M (by decide) rfl rfl h d_Mo_best_32 (fun h => ?_)
        refine lv_ldc (v := 1000000000) S.1 S.2.1 S.2.2.2.1 (S.2.2.2.2 _ kw_408) d_Mo_best_33 ?_
        refine m_ige (tgt := 75) S d_Mo_best_35 (by decide) h (fun h => ?_) (fun h => ?_)
        · refine lv_iinc (v := t5.2 + 1) (lv' := [(2, .int (t5.2 + 1)), (1, .int t5.1), (0, .ref (ad 0))]) S.1 S.2.1 d_Mo_best_75 hl (k := 0) rfl rfl (by decide) rfl (fun ls hl => ?_)
          refine lv_goto (tgt := 5) S.1 S.2.1 d_Mo_best_78 (by decide) ?_
          exact K1 _ (Option.some.inj h).symm ls _ _ (lv_sub hl [0, 1, 2] rfl) M
        · refine lv_aload_n S.1 S.2.1 d_Mo_best_38 rfl (lv_at hl 2 rfl) ?_
          refine m_gs (t := 12) S M (j := 14) ok_Mo (by decide) rfl (by decide) rfl kw_423 rfl d_Mo_best_39 ?_
          refine lv_iload_n S.1 S.2.1 d_Mo_best_42 rfl (lv_at hl 0 rfl) ?_
          refine m_ial (t0 := 0) S M (by decide) rfl rfl h d_Mo_best_43 (fun h => ?_)
          refine lv_aload_n S.1 S.2.1 d_Mo_best_44 rfl (lv_at hl 2 rfl) ?_
          refine m_gs (t := 12) S M (j := 14) ok_Mo (by decide) rfl (by decide) rfl kw_423 rfl d_Mo_best_45 ?_
          refine lv_bipush (v := 10) S.1 S.2.1 d_Mo_best_48 (by decide) ?_
          refine lv_iload_n S.1 S.2.1 d_Mo_best_50 rfl (lv_at hl 0 rfl) ?_
          refine lv_iadd S.1 S.2.1 d_Mo_best_51 ?_
          refine m_ial (t0 := 0) S M (by decide) rfl rfl h d_Mo_best_52 (fun h => ?_)
          refine lv_iadd S.1 S.2.1 d_Mo_best_53 ?_
          refine lv_iload_n S.1 S.2.1 d_Mo_best_54 rfl (lv_at hl 1 rfl) ?_
          refine m_ige (tgt := 75) S d_Mo_best_55 (by decide) h (fun h => ?_) (fun h => ?_)
          · refine lv_iinc (v := t5.2 + 1) (lv' := [(2, .int (t5.2 + 1)), (1, .int t5.1), (0, .ref (ad 0))]) S.1 S.2.1 d_Mo_best_75 hl (k := 0) rfl rfl (by decide) rfl (fun ls hl => ?_)
            refine lv_goto (tgt := 5) S.1 S.2.1 d_Mo_best_78 (by decide) ?_
            exact K1 _ (Option.some.inj h).symm ls _ _ (lv_sub hl [0, 1, 2] rfl) M
          · refine lv_aload_n S.1 S.2.1 d_Mo_best_58 rfl (lv_at hl 2 rfl) ?_
            refine m_gs (t := 12) S M (j := 14) ok_Mo (by decide) rfl (by decide) rfl kw_423 rfl d_Mo_best_59 ?_
            refine lv_iload_n S.1 S.2.1 d_Mo_best_62 rfl (lv_at hl 0 rfl) ?_
            refine m_ial (t0 := 0) S M (by decide) rfl rfl h d_Mo_best_63 (fun h => ?_)
            refine lv_aload_n S.1 S.2.1 d_Mo_best_64 rfl (lv_at hl 2 rfl) ?_
            refine m_gs (t := 12) S M (j := 14) ok_Mo (by decide) rfl (by decide) rfl kw_423 rfl d_Mo_best_65 ?_
            refine lv_bipush (v := 10) S.1 S.2.1 d_Mo_best_68 (by decide) ?_
            refine lv_iload_n S.1 S.2.1 d_Mo_best_70 rfl (lv_at hl 0 rfl) ?_
            refine lv_iadd S.1 S.2.1 d_Mo_best_71 ?_
            refine m_ial (t0 := 0) S M (by decide) rfl rfl h d_Mo_best_72 (fun h => ?_)
            refine lv_iadd S.1 S.2.1 d_Mo_best_73 ?_
            refine m_ni h (fun v1 h => ?_)
            refine lv_istore_n (lv' := [(1, .int v1), (2, .int t5.2), (0, .ref (ad 0))]) S.1 S.2.1 d_Mo_best_74 rfl hl (by decide) rfl (fun ls hl => ?_)
            refine lv_iinc (v := t5.2 + 1) (lv' := [(2, .int (t5.2 + 1)), (1, .int v1), (0, .ref (ad 0))]) S.1 S.2.1 d_Mo_best_75 hl (k := 1) rfl rfl (by decide) rfl (fun ls hl => ?_)
            refine lv_goto (tgt := 5) S.1 S.2.1 d_Mo_best_78 (by decide) ?_
            exact K1 _ (Option.some.inj h).symm ls _ _ (lv_sub hl [0, 1, 2] rfl) M
  · intro ls H locs hl M
    refine lv_iload_n S.1 S.2.1 d_Mo_best_81 rfl (lv_at hl 1 rfl) ?_
    subst hQ; exact m_iret S hr hlk M (by rw [Option.some.inj h]) d_Mo_best_82
theorem d_Mo_searchBoth_0 : decode prog_12_method_31_code 0 = .ok (.aload_n 0, 1) := by decide +kernel
theorem d_Mo_searchBoth_1 : decode prog_12_method_31_code 1 = .ok (.iconst 0, 1) := by decide +kernel
theorem d_Mo_searchBoth_2 : decode prog_12_method_31_code 2 = .ok (.iload_n 1, 1) := by decide +kernel
theorem d_Mo_searchBoth_3 : decode prog_12_method_31_code 3 = .ok (.invokevirtual 114, 3) := by decide +kernel
theorem d_Mo_searchBoth_6 : decode prog_12_method_31_code 6 = .ok (.aload_n 0, 1) := by decide +kernel
theorem d_Mo_searchBoth_7 : decode prog_12_method_31_code 7 = .ok (.iconst 1, 1) := by decide +kernel
theorem d_Mo_searchBoth_8 : decode prog_12_method_31_code 8 = .ok (.iload_n 2, 1) := by decide +kernel
theorem d_Mo_searchBoth_9 : decode prog_12_method_31_code 9 = .ok (.invokevirtual 114, 3) := by decide +kernel
theorem d_Mo_searchBoth_12 : decode prog_12_method_31_code 12 = .ok (.iconst 0, 1) := by decide +kernel
theorem d_Mo_searchBoth_13 : decode prog_12_method_31_code 13 = .ok (.istore_n 3, 1) := by decide +kernel
theorem d_Mo_searchBoth_14 : decode prog_12_method_31_code 14 = .ok (.iconst 1, 1) := by decide +kernel
theorem d_Mo_searchBoth_15 : decode prog_12_method_31_code 15 = .ok (.istore 4, 2) := by decide +kernel
theorem d_Mo_searchBoth_17 : decode prog_12_method_31_code 17 = .ok (.iload 4, 2) := by decide +kernel
theorem d_Mo_searchBoth_19 : decode prog_12_method_31_code 19 = .ok (.ifCond .eq 135, 3) := by decide +kernel
theorem d_Mo_searchBoth_22 : decode prog_12_method_31_code 22 = .ok (.aload_n 0, 1) := by decide +kernel
theorem d_Mo_searchBoth_23 : decode prog_12_method_31_code 23 = .ok (.iconst 0, 1) := by decide +kernel
theorem d_Mo_searchBoth_24 : decode prog_12_method_31_code 24 = .ok (.iconst 0, 1) := by decide +kernel
theorem d_Mo_searchBoth_25 : decode prog_12_method_31_code 25 = .ok (.invokevirtual 118, 3) := by decide +kernel
theorem d_Mo_searchBoth_28 : decode prog_12_method_31_code 28 = .ok (.istore 5, 2) := by decide +kernel
theorem d_Mo_searchBoth_30 : decode prog_12_method_31_code 30 = .ok (.aload_n 0, 1) := by decide +kernel
theorem d_Mo_searchBoth_31 : decode prog_12_method_31_code 31 = .ok (.iconst 1, 1) := by decide +kernel
theorem d_Mo_searchBoth_32 : decode prog_12_method_31_code 32 = .ok (.iconst 0, 1) := by decide +kernel
theorem d_Mo_searchBoth_33 : decode prog_12_method_31_code 33 = .ok (.invokevirtual 118, 3) := by decide +kernel
theorem d_Mo_searchBoth_36 : decode prog_12_method_31_code 36 = .ok (.istore 6, 2) := by decide +kernel
theorem d_Mo_searchBoth_38 : decode prog_12_method_31_code 38 = .ok (.iload 5, 2) := by decide +kernel
theorem d_Mo_searchBoth_40 : decode prog_12_method_31_code 40 = .ok (.ifCond .lt 37, 3) := by decide +kernel
theorem d_Mo_searchBoth_43 : decode prog_12_method_31_code 43 = .ok (.iload 6, 2) := by decide +kernel
theorem d_Mo_searchBoth_45 : decode prog_12_method_31_code 45 = .ok (.ifCond .lt 32, 3) := by decide +kernel
theorem d_Mo_searchBoth_48 : decode prog_12_method_31_code 48 = .ok (.aload_n 0, 1) := by decide +kernel
theorem d_Mo_searchBoth_49 : decode prog_12_method_31_code 49 = .ok (.getfield 44, 3) := by decide +kernel
theorem d_Mo_searchBoth_52 : decode prog_12_method_31_code 52 = .ok (.iload 5, 2) := by decide +kernel
theorem d_Mo_searchBoth_54 : decode prog_12_method_31_code 54 = .ok (.iaload, 1) := by decide +kernel
theorem d_Mo_searchBoth_55 : decode prog_12_method_31_code 55 = .ok (.aload_n 0, 1) := by decide +kernel
theorem d_Mo_searchBoth_56 : decode prog_12_method_31_code 56 = .ok (.getfield 44, 3) := by decide +kernel
theorem d_Mo_searchBoth_59 : decode prog_12_method_31_code 59 = .ok (.bipush 10, 2) := by decide +kernel
theorem d_Mo_searchBoth_61 : decode prog_12_method_31_code 61 = .ok (.iload 6, 2) := by decide +kernel
theorem d_Mo_searchBoth_63 : decode prog_12_method_31_code 63 = .ok (.iadd, 1) := by decide +kernel
theorem d_Mo_searchBoth_64 : decode prog_12_method_31_code 64 = .ok (.iaload, 1) := by decide +kernel
theorem d_Mo_searchBoth_65 : decode prog_12_method_31_code 65 = .ok (.iadd, 1) := by decide +kernel
theorem d_Mo_searchBoth_66 : decode prog_12_method_31_code 66 = .ok (.aload_n 0, 1) := by decide +kernel
theorem d_Mo_searchBoth_67 : decode prog_12_method_31_code 67 = .ok (.invokevirtual 132, 3) := by decide +kernel
theorem d_Mo_searchBoth_70 : decode prog_12_method_31_code 70 = .ok (.if_icmp .ge 7, 3) := by decide +kernel
theorem d_Mo_searchBoth_73 : decode prog_12_method_31_code 73 = .ok (.iconst 1, 1) := by decide +kernel
theorem d_Mo_searchBoth_74 : decode prog_12_method_31_code 74 = .ok (.goto 4, 3) := by decide +kernel
theorem d_Mo_searchBoth_77 : decode prog_12_method_31_code 77 = .ok (.iconst 0, 1) := by decide +kernel
theorem d_Mo_searchBoth_78 : decode prog_12_method_31_code 78 = .ok (.istore 4, 2) := by decide +kernel
theorem d_Mo_searchBoth_80 : decode prog_12_method_31_code 80 = .ok (.iload 4, 2) := by decide +kernel
theorem d_Mo_searchBoth_82 : decode prog_12_method_31_code 82 = .ok (.ifCond .eq 69, 3) := by decide +kernel
theorem d_Mo_searchBoth_85 : decode prog_12_method_31_code 85 = .ok (.aload_n 0, 1) := by decide +kernel
theorem d_Mo_searchBoth_86 : decode prog_12_method_31_code 86 = .ok (.getfield 44, 3) := by decide +kernel
theorem d_Mo_searchBoth_89 : decode prog_12_method_31_code 89 = .ok (.bipush 10, 2) := by decide +kernel
theorem d_Mo_searchBoth_91 : decode prog_12_method_31_code 91 = .ok (.iload 6, 2) := by decide +kernel
theorem d_Mo_searchBoth_93 : decode prog_12_method_31_code 93 = .ok (.iadd, 1) := by decide +kernel
theorem d_Mo_searchBoth_94 : decode prog_12_method_31_code 94 = .ok (.iaload, 1) := by decide +kernel
theorem d_Mo_searchBoth_95 : decode prog_12_method_31_code 95 = .ok (.aload_n 0, 1) := by decide +kernel
theorem d_Mo_searchBoth_96 : decode prog_12_method_31_code 96 = .ok (.getfield 44, 3) := by decide +kernel
theorem d_Mo_searchBoth_99 : decode prog_12_method_31_code 99 = .ok (.iload 5, 2) := by decide +kernel
theorem d_Mo_searchBoth_101 : decode prog_12_method_31_code 101 = .ok (.iaload, 1) := by decide +kernel
theorem d_Mo_searchBoth_102 : decode prog_12_method_31_code 102 = .ok (.if_icmp .ge 7, 3) := by decide +kernel
theorem d_Mo_searchBoth_105 : decode prog_12_method_31_code 105 = .ok (.iconst 1, 1) := by decide +kernel
theorem d_Mo_searchBoth_106 : decode prog_12_method_31_code 106 = .ok (.goto 4, 3) := by decide +kernel
theorem d_Mo_searchBoth_109 : decode prog_12_method_31_code 109 = .ok (.iconst 0, 1) := by decide +kernel
theorem d_Mo_searchBoth_110 : decode prog_12_method_31_code 110 = .ok (.istore 7, 2) := by decide +kernel
theorem d_Mo_searchBoth_112 : decode prog_12_method_31_code 112 = .ok (.aload_n 0, 1) := by decide +kernel
theorem d_Mo_searchBoth_113 : decode prog_12_method_31_code 113 = .ok (.iload 7, 2) := by decide +kernel
theorem d_Mo_searchBoth_115 : decode prog_12_method_31_code 115 = .ok (.iload 7, 2) := by decide +kernel
theorem d_Mo_searchBoth_117 : decode prog_12_method_31_code 117 = .ok (.ifCond .ne 8, 3) := by decide +kernel
theorem d_Mo_searchBoth_120 : decode prog_12_method_31_code 120 = .ok (.iload 5, 2) := by decide +kernel
theorem d_Mo_searchBoth_122 : decode prog_12_method_31_code 122 = .ok (.goto 5, 3) := by decide +kernel
theorem d_Mo_searchBoth_125 : decode prog_12_method_31_code 125 = .ok (.iload 6, 2) := by decide +kernel
theorem d_Mo_searchBoth_127 : decode prog_12_method_31_code 127 = .ok (.invokevirtual 122, 3) := by decide +kernel
theorem d_Mo_searchBoth_130 : decode prog_12_method_31_code 130 = .ok (.aload_n 0, 1) := by decide +kernel
theorem d_Mo_searchBoth_131 : decode prog_12_method_31_code 131 = .ok (.iload 7, 2) := by decide +kernel
theorem d_Mo_searchBoth_133 : decode prog_12_method_31_code 133 = .ok (.iload 7, 2) := by decide +kernel
theorem d_Mo_searchBoth_135 : decode prog_12_method_31_code 135 = .ok (.ifCond .ne 8, 3) := by decide +kernel
theorem d_Mo_searchBoth_138 : decode prog_12_method_31_code 138 = .ok (.iload 5, 2) := by decide +kernel
theorem d_Mo_searchBoth_140 : decode prog_12_method_31_code 140 = .ok (.goto 5, 3) := by decide +kernel
theorem d_Mo_searchBoth_143 : decode prog_12_method_31_code 143 = .ok (.iload 6, 2) := by decide +kernel
theorem d_Mo_searchBoth_145 : decode prog_12_method_31_code 145 = .ok (.invokevirtual 125, 3) := by decide +kernel
theorem d_Mo_searchBoth_148 : decode prog_12_method_31_code 148 = .ok (.iinc 3 1, 3) := by decide +kernel
theorem d_Mo_searchBoth_151 : decode prog_12_method_31_code 151 = .ok (.goto (-134), 3) := by decide +kernel
theorem d_Mo_searchBoth_154 : decode prog_12_method_31_code 154 = .ok (.iload_n 3, 1) := by decide +kernel
theorem d_Mo_searchBoth_155 : decode prog_12_method_31_code 155 = .ok (.ireturn, 1) := by decide +kernel
def rm_Mo_searchBoth : Room := { frames := 1, cells := 0, slots := 0, locals := 26 }
def f_Mo_searchBoth_J127 (t17 : Int32 × Int32 × mS) (v3 : Int32) (v4 : Int32) (j5 : Int32) (j6 : Int32) (j7 : Int32) : Option ((Int32 × Int32 × mS) ⊕ (Int32 × Int32 × mS)) :=
  (f_Mo_settle t17.2.2 j6 j7).bind fun σ8 =>
  if j6 = 0 then (
  (f_Mo_spread σ8 j6 v3).bind fun σ10 =>
  some (.inl (t17.1 + 1, j5, σ10))) else (
  (f_Mo_spread σ8 j6 v4).bind fun σ9 =>
  some (.inl (t17.1 + 1, j5, σ9)))
def f_Mo_searchBoth_J110 (t17 : Int32 × Int32 × mS) (v3 : Int32) (v4 : Int32) (j5 : Int32) (j6 : Int32) : Option ((Int32 × Int32 × mS) ⊕ (Int32 × Int32 × mS)) :=
  if j6 = 0 then (
  f_Mo_searchBoth_J127 t17 v3 v4 j5 j6 v3) else (
  f_Mo_searchBoth_J127 t17 v3 v4 j5 j6 v4)
def f_Mo_searchBoth_J78 (t17 : Int32 × Int32 × mS) (v3 : Int32) (v4 : Int32) (j5 : Int32) : Option ((Int32 × Int32 × mS) ⊕ (Int32 × Int32 × mS)) :=
  if j5 = 0 then (
  some (.inl (t17.1, j5, t17.2.2))) else (
  gd (inb (10 + v4) 20) (
  gd (inb v3 20) (
  if (t17.2.2.1 12 v3.toNatClampNeg) ≤ (t17.2.2.1 12 (10 + v4).toNatClampNeg) then (
  f_Mo_searchBoth_J110 t17 v3 v4 j5 0) else (
  f_Mo_searchBoth_J110 t17 v3 v4 j5 1))))
def f_Mo_searchBoth_L17 : (Int32 × Int32 × mS) → Option ((Int32 × Int32 × mS) ⊕ (Int32 × Int32 × mS)) := fun t17 =>
  if t17.2.1 = 0 then (
  some (.inr (t17.1, t17.2.1, t17.2.2))) else (
  (f_Mo_leastOf t17.2.2 0 0).bind fun v3 =>
  (f_Mo_leastOf t17.2.2 1 0).bind fun v4 =>
  if v3 < 0 then (
  f_Mo_searchBoth_J78 t17 v3 v4 0) else (
  if v4 < 0 then (
  f_Mo_searchBoth_J78 t17 v3 v4 0) else (
  gd (inb v3 20) (
  gd (inb (10 + v4) 20) (
  (f_Mo_best t17.2.2).bind fun v11 =>
  if v11 ≤ ((t17.2.2.1 12 v3.toNatClampNeg) + (t17.2.2.1 12 (10 + v4).toNatClampNeg)) then (
  f_Mo_searchBoth_J78 t17 v3 v4 0) else (
  f_Mo_searchBoth_J78 t17 v3 v4 1))))))
def f_Mo_searchBoth (σ : mS) (x1 : Int32) (x2 : Int32) : Option (Int32 × mS) :=
  (f_Mo_beginSearch σ 0 x1).bind fun σ1 =>
  (f_Mo_beginSearch σ1 1 x2).bind fun σ2 =>
  (lpN (f_Mo_searchBoth_L17) fuB (0, 1, σ2)).bind fun u17 =>
  some (u17.1, u17.2.2)
set_option maxHeartbeats 4000000 in
set_option maxRecDepth 100000 in
theorem c_Mo_searchBoth (l : Launch) (D : va_G) (cA ad : Nat → Nat) (σ : mS) (x1 : Int32) (x2 : Int32) (o : Int32 × mS) (h : f_Mo_searchBoth σ x1 x2 = some o) : mCi l ⟨"LeastPathsModel", "searchBoth", "(II)I"⟩ (Cond.code ⟨"LeastPathsModel", "searchBoth", "(II)I"⟩ prog_12_method_31_code 8 (Option.some Jvm.ClassFile.FieldType.int) :: tlG) rm_Mo_searchBoth D clX (tyK cA) 23 (tbY cA) ad σ [.ref (ad 0), .int x1, .int x2] o := by
  intro sz
  refine m_of (cc := prog_12_method_31_code) (maxL := 8) (Qc := mQi D clX (tyK cA) 23 (tbY cA) ad o) (by decide) (Nat.le_of_ble_eq_true rfl) (fun p e s m args below meth c ls S hr hlk hnm hl M => ?_) sz
  have hl : lv_has ls 8 [(0, .ref (ad 0)), (1, .int x1), (2, .int x2)] := hl
  generalize hQ : MQ _ _ _ _ _ _ _ = Q
  skip
  unfold f_Mo_searchBoth at h
  refine lv_aload_n S.1 S.2.1 d_Mo_searchBoth_0 rfl (lv_at hl 0 rfl) ?_
  refine lv_iconst (v := 0) S.1 S.2.1 d_Mo_searchBoth_1 (by decide) ?_
  refine lv_iload_n S.1 S.2.1 d_Mo_searchBoth_2 rfl (lv_at hl 1 rfl) ?_
  refine m_xv h (fun o ho => m_rV (As := [.int 0, .int x1]) (rest := []) S M hl.1 (cwG (n := 2) S.2.2.2.2 kw_425 kw_426 kw_427 kw_391 kw_428 (by decide) ⟨Nat.le_of_ble_eq_true rfl, Nat.le_of_ble_eq_true rfl⟩) ok_Mo (by decide) rfl (c_Mo_beginSearch l D cA ad σ 0 x1 o ho _) rfl rfl (Nat.le_of_ble_eq_true rfl) d_Mo_searchBoth_3 ⟨Nat.zero_le _, Nat.zero_le _⟩) M (fun σ1 H locs h M => ?_)
  refine lv_aload_n S.1 S.2.1 d_Mo_searchBoth_6 rfl (lv_at hl 0 rfl) ?_
  refine lv_iconst (v := 1) S.1 S.2.1 d_Mo_searchBoth_7 (by decide) ?_
  refine lv_iload_n S.1 S.2.1 d_Mo_searchBoth_8 rfl (lv_at hl 2 rfl) ?_
  refine m_xv h (fun o ho => m_rV (As := [.int 1, .int x2]) (rest := []) S M hl.1 (cwG (n := 2) S.2.2.2.2 kw_425 kw_426 kw_427 kw_391 kw_428 (by decide) ⟨Nat.le_of_ble_eq_true rfl, Nat.le_of_ble_eq_true rfl⟩) ok_Mo (by decide) rfl (c_Mo_beginSearch l D cA ad σ1 1 x2 o ho _) rfl rfl (Nat.le_of_ble_eq_true rfl) d_Mo_searchBoth_9 ⟨Nat.zero_le _, Nat.zero_le _⟩) M (fun σ2 H locs h M => ?_)
  refine lv_iconst (v := 0) S.1 S.2.1 d_Mo_searchBoth_12 (by decide) ?_
  refine lv_istore_n (lv' := [(3, .int 0), (0, .ref (ad 0)), (1, .int x1), (2, .int x2)]) S.1 S.2.1 d_Mo_searchBoth_13 rfl hl (by decide) rfl (fun ls hl => ?_)
  refine lv_iconst (v := 1) S.1 S.2.1 d_Mo_searchBoth_14 (by decide) ?_
  refine lv_istore (lv' := [(4, .int 1), (3, .int 0), (0, .ref (ad 0)), (1, .int x1), (2, .int x2)]) S.1 S.2.1 d_Mo_searchBoth_15 hl (by decide) rfl (fun ls hl => ?_)
  obtain ⟨u17, q17, h⟩ := Option.bind_eq_some_iff.mp h
  refine lpN_W1 (st := f_Mo_searchBoth_L17) (fun (t17 : Int32 × Int32 × mS) => ∀ (ls : Array Slot) (H : Heap) (locs : List Loc), lv_has ls 8 [(4, .int t17.2.1), (3, .int t17.1), (0, .ref (ad 0)), (1, .int x1), (2, .int x2)] → mM D clX (tyK cA) (mA 23 ad s.heap.size) s 23 (tbY cA) ad t17.2.2 H locs → W p l e rm_Mo_searchBoth s m args below meth c H locs 0 0 Q (F0 m 17 ls [])) (fun (u17 : Int32 × Int32 × mS) => ∀ (ls : Array Slot) (H : Heap) (locs : List Loc), lv_has ls 8 [(4, .int u17.2.1), (3, .int u17.1), (0, .ref (ad 0)), (1, .int x1), (2, .int x2)] → mM D clX (tyK cA) (mA 23 ad s.heap.size) s 23 (tbY cA) ad u17.2.2 H locs → W p l e rm_Mo_searchBoth s m args below meth c H locs 0 0 Q (F0 m 154 ls [])) ?_ fuB ((0, 1, σ2) : Int32 × Int32 × mS) u17 q17 ?_ ls _ _ (lv_sub hl [0, 1, 2, 3, 4] rfl) M
  · intro t17 oo17 h K1 K2 ls H locs hl M
    unfold f_Mo_searchBoth_L17 at h
    refine lv_iload S.1 S.2.1 d_Mo_searchBoth_17 (lv_at hl 0 rfl) ?_
    refine m_ifeq (tgt := 154) S d_Mo_searchBoth_19 (by decide) h (fun h => ?_) (fun h => ?_)
    · exact K2 _ (Option.some.inj h).symm ls _ _ (lv_sub hl [0, 1, 2, 3, 4] rfl) M
    · refine lv_aload_n S.1 S.2.1 d_Mo_searchBoth_22 rfl (lv_at hl 2 rfl) ?_
      refine lv_iconst (v := 0) S.1 S.2.1 d_Mo_searchBoth_23 (by decide) ?_
      refine lv_iconst (v := 0) S.1 S.2.1 d_Mo_searchBoth_24 (by decide) ?_
      refine m_xip h (fun o ho => m_rV (As := [.int 0, .int 0]) (rest := []) S M hl.1 (cwG (n := 2) S.2.2.2.2 kw_429 kw_430 kw_431 kw_391 kw_432 (by decide) ⟨Nat.le_of_ble_eq_true rfl, Nat.le_of_ble_eq_true rfl⟩) ok_Mo (by decide) rfl (c_Mo_leastOf l D cA ad t17.2.2 0 0 o ho _) rfl rfl (Nat.le_of_ble_eq_true rfl) d_Mo_searchBoth_25 ⟨Nat.zero_le _, Nat.zero_le _⟩) M (fun v3 H locs h M => ?_)
      refine lv_istore (lv' := [(5, .int v3), (4, .int t17.2.1), (3, .int t17.1), (0, .ref (ad 0)), (1, .int x1), (2, .int x2)]) S.1 S.2.1 d_Mo_searchBoth_28 hl (by decide) rfl (fun ls hl => ?_)
      refine lv_aload_n S.1 S.2.1 d_Mo_searchBoth_30 rfl (lv_at hl 3 rfl) ?_
      refine lv_iconst (v := 1) S.1 S.2.1 d_Mo_searchBoth_31 (by decide) ?_
      refine lv_iconst (v := 0) S.1 S.2.1 d_Mo_searchBoth_32 (by decide) ?_
      refine m_xip h (fun o ho => m_rV (As := [.int 1, .int 0]) (rest := []) S M hl.1 (cwG (n := 2) S.2.2.2.2 kw_429 kw_430 kw_431 kw_391 kw_432 (by decide) ⟨Nat.le_of_ble_eq_true rfl, Nat.le_of_ble_eq_true rfl⟩) ok_Mo (by decide) rfl (c_Mo_leastOf l D cA ad t17.2.2 1 0 o ho _) rfl rfl (Nat.le_of_ble_eq_true rfl) d_Mo_searchBoth_33 ⟨Nat.zero_le _, Nat.zero_le _⟩) M (fun v4 H locs h M => ?_)
      refine lv_istore (lv' := [(6, .int v4), (5, .int v3), (4, .int t17.2.1), (3, .int t17.1), (0, .ref (ad 0)), (1, .int x1), (2, .int x2)]) S.1 S.2.1 d_Mo_searchBoth_36 hl (by decide) rfl (fun ls hl => ?_)
      refine lv_iload S.1 S.2.1 d_Mo_searchBoth_38 (lv_at hl 1 rfl) ?_
      have J78 : ∀ (j5 : Int32) (ls : Array Slot) (H : Heap) (locs : List Loc), f_Mo_searchBoth_J78 t17 v3 v4 j5 = some oo17 → lv_has ls 8 [(6, .int v4), (5, .int v3), (4, .int t17.2.1), (3, .int t17.1), (0, .ref (ad 0)), (1, .int x1), (2, .int x2)] → mM D clX (tyK cA) (mA 23 ad s.heap.size) s 23 (tbY cA) ad t17.2.2 H locs → W p l e rm_Mo_searchBoth s m args below meth c H locs 0 0 Q (F0 m 78 ls [.int j5]) := by
        intro j5 ls H locs h hl M
        unfold f_Mo_searchBoth_J78 at h
        refine lv_istore (lv' := [(4, .int j5), (6, .int v4), (5, .int v3), (3, .int t17.1), (0, .ref (ad 0)), (1, .int x1), (2, .int x2)]) S.1 S.2.1 d_Mo_searchBoth_78 hl (by decide) rfl (fun ls hl => ?_)
        refine lv_iload S.1 S.2.1 d_Mo_searchBoth_80 (lv_at hl 0 rfl) ?_
        refine m_ifeq (tgt := 151) S d_Mo_searchBoth_82 (by decide) h (fun h => ?_) (fun h => ?_)
        · refine lv_goto (tgt := 17) S.1 S.2.1 d_Mo_searchBoth_151 (by decide) ?_
          exact K1 _ (Option.some.inj h).symm ls _ _ (lv_sub hl [0, 3, 4, 5, 6] rfl) M
        · refine lv_aload_n S.1 S.2.1 d_Mo_searchBoth_85 rfl (lv_at hl 4 rfl) ?_
          refine m_gs (t := 12) S M (j := 14) ok_Mo (by decide) rfl (by decide) rfl kw_423 rfl d_Mo_searchBoth_86 ?_
          refine lv_bipush (v := 10) S.1 S.2.1 d_Mo_searchBoth_89 (by decide) ?_
          refine lv_iload S.1 S.2.1 d_Mo_searchBoth_91 (lv_at hl 1 rfl) ?_
          refine lv_iadd S.1 S.2.1 d_Mo_searchBoth_93 ?_
          refine m_ial (t0 := 0) S M (by decide) rfl rfl h d_Mo_searchBoth_94 (fun h => ?_)
          refine lv_aload_n S.1 S.2.1 d_Mo_searchBoth_95 rfl (lv_at hl 4 rfl) ?_
          refine m_gs (t := 12) S M (j := 14) ok_Mo (by decide) rfl (by decide) rfl kw_423 rfl d_Mo_searchBoth_96 ?_
          refine lv_iload S.1 S.2.1 d_Mo_searchBoth_99 (lv_at hl 2 rfl) ?_
          refine m_ial (t0 := 0) S M (by decide) rfl rfl h d_Mo_searchBoth_101 (fun h => ?_)
          have J110 : ∀ (j6 : Int32) (ls : Array Slot) (H : Heap) (locs : List Loc), f_Mo_searchBoth_J110 t17 v3 v4 j5 j6 = some oo17 → lv_has ls 8 [(4, .int j5), (6, .int v4), (5, .int v3), (3, .int t17.1), (0, .ref (ad 0)), (1, .int x1), (2, .int x2)] → mM D clX (tyK cA) (mA 23 ad s.heap.size) s 23 (tbY cA) ad t17.2.2 H locs → W p l e rm_Mo_searchBoth s m args below meth c H locs 0 0 Q (F0 m 110 ls [.int j6]) := by
            intro j6 ls H locs h hl M
            unfold f_Mo_searchBoth_J110 at h
            refine lv_istore (lv' := [(7, .int j6), (4, .int j5), (6, .int v4), (5, .int v3), (3, .int t17.1), (0, .ref (ad 0)), (1, .int x1), (2, .int x2)]) S.1 S.2.1 d_Mo_searchBoth_110 hl (by decide) rfl (fun ls hl => ?_)
            refine lv_aload_n S.1 S.2.1 d_Mo_searchBoth_112 rfl (lv_at hl 5 rfl) ?_
            refine lv_iload S.1 S.2.1 d_Mo_searchBoth_113 (lv_at hl 0 rfl) ?_
            refine lv_iload S.1 S.2.1 d_Mo_searchBoth_115 (lv_at hl 0 rfl) ?_
            have J127 : ∀ (j7 : Int32) (ls : Array Slot) (H : Heap) (locs : List Loc), f_Mo_searchBoth_J127 t17 v3 v4 j5 j6 j7 = some oo17 → lv_has ls 8 [(7, .int j6), (4, .int j5), (6, .int v4), (5, .int v3), (3, .int t17.1), (0, .ref (ad 0)), (1, .int x1), (2, .int x2)] → mM D clX (tyK cA) (mA 23 ad s.heap.size) s 23 (tbY cA) ad t17.2.2 H locs → W p l e rm_Mo_searchBoth s m args below meth c H locs 0 0 Q (F0 m 127 ls [.int j7, .int j6, .ref (ad 0)]) := by
              intro j7 ls H locs h hl M
              unfold f_Mo_searchBoth_J127 at h
              refine m_xv h (fun o ho => m_rV (As := [.int j6, .int j7]) (rest := []) S M hl.1 (cwG (n := 2) S.2.2.2.2 kw_433 kw_434 kw_435 kw_391 kw_436 (by decide) ⟨Nat.le_of_ble_eq_true rfl, Nat.le_of_ble_eq_true rfl⟩) ok_Mo (by decide) rfl (c_Mo_settle l D cA ad t17.2.2 j6 j7 o ho _) rfl rfl (Nat.le_of_ble_eq_true rfl) d_Mo_searchBoth_127 ⟨Nat.zero_le _, Nat.zero_le _⟩) M (fun σ8 H locs h M => ?_)
              refine lv_aload_n S.1 S.2.1 d_Mo_searchBoth_130 rfl (lv_at hl 5 rfl) ?_
              refine lv_iload S.1 S.2.1 d_Mo_searchBoth_131 (lv_at hl 0 rfl) ?_
              refine lv_iload S.1 S.2.1 d_Mo_searchBoth_133 (lv_at hl 0 rfl) ?_
              refine m_ifne (tgt := 143) S d_Mo_searchBoth_135 (by decide) h (fun h => ?_) (fun h => ?_)
              · refine lv_iload S.1 S.2.1 d_Mo_searchBoth_143 (lv_at hl 2 rfl) ?_
                refine m_xv h (fun o ho => m_rV (As := [.int j6, .int v4]) (rest := []) S M hl.1 (cwG (n := 2) S.2.2.2.2 kw_437 kw_438 kw_439 kw_391 kw_440 (by decide) ⟨Nat.le_of_ble_eq_true rfl, Nat.le_of_ble_eq_true rfl⟩) ok_Mo (by decide) rfl (c_Mo_spread l D cA ad σ8 j6 v4 o ho _) rfl rfl (Nat.le_of_ble_eq_true rfl) d_Mo_searchBoth_145 ⟨Nat.zero_le _, Nat.zero_le _⟩) M (fun σ9 H locs h M => ?_)
                refine lv_iinc (v := t17.1 + 1) (lv' := [(3, .int (t17.1 + 1)), (7, .int j6), (4, .int j5), (6, .int v4), (5, .int v3), (0, .ref (ad 0)), (1, .int x1), (2, .int x2)]) S.1 S.2.1 d_Mo_searchBoth_148 hl (k := 4) rfl rfl (by decide) rfl (fun ls hl => ?_)
                refine lv_goto (tgt := 17) S.1 S.2.1 d_Mo_searchBoth_151 (by decide) ?_
                exact K1 _ (Option.some.inj h).symm ls _ _ (lv_sub hl [2, 0, 5, 6, 7] rfl) M
              · refine lv_iload S.1 S.2.1 d_Mo_searchBoth_138 (lv_at hl 3 rfl) ?_
                refine lv_goto (tgt := 145) S.1 S.2.1 d_Mo_searchBoth_140 (by decide) ?_
                refine m_xv h (fun o ho => m_rV (As := [.int j6, .int v3]) (rest := []) S M hl.1 (cwG (n := 2) S.2.2.2.2 kw_437 kw_438 kw_439 kw_391 kw_440 (by decide) ⟨Nat.le_of_ble_eq_true rfl, Nat.le_of_ble_eq_true rfl⟩) ok_Mo (by decide) rfl (c_Mo_spread l D cA ad σ8 j6 v3 o ho _) rfl rfl (Nat.le_of_ble_eq_true rfl) d_Mo_searchBoth_145 ⟨Nat.zero_le _, Nat.zero_le _⟩) M (fun σ10 H locs h M => ?_)
                refine lv_iinc (v := t17.1 + 1) (lv' := [(3, .int (t17.1 + 1)), (7, .int j6), (4, .int j5), (6, .int v4), (5, .int v3), (0, .ref (ad 0)), (1, .int x1), (2, .int x2)]) S.1 S.2.1 d_Mo_searchBoth_148 hl (k := 4) rfl rfl (by decide) rfl (fun ls hl => ?_)
                refine lv_goto (tgt := 17) S.1 S.2.1 d_Mo_searchBoth_151 (by decide) ?_
                exact K1 _ (Option.some.inj h).symm ls _ _ (lv_sub hl [2, 0, 5, 6, 7] rfl) M
            refine m_ifne (tgt := 125) S d_Mo_searchBoth_117 (by decide) h (fun h => ?_) (fun h => ?_)
            · refine lv_iload S.1 S.2.1 d_Mo_searchBoth_125 (lv_at hl 2 rfl) ?_
              exact J127 _ ls _ _ h (lv_sub hl [0, 1, 2, 3, 4, 5, 6, 7] rfl) M
            · refine lv_iload S.1 S.2.1 d_Mo_searchBoth_120 (lv_at hl 3 rfl) ?_
              refine lv_goto (tgt := 127) S.1 S.2.1 d_Mo_searchBoth_122 (by decide) ?_
              exact J127 _ ls _ _ h (lv_sub hl [0, 1, 2, 3, 4, 5, 6, 7] rfl) M
          refine m_ige (tgt := 109) S d_Mo_searchBoth_102 (by decide) h (fun h => ?_) (fun h => ?_)
          · refine lv_iconst (v := 0) S.1 S.2.1 d_Mo_searchBoth_109 (by decide) ?_
            exact J110 _ ls _ _ h (lv_sub hl [0, 1, 2, 3, 4, 5, 6] rfl) M
          · refine lv_iconst (v := 1) S.1 S.2.1 d_Mo_searchBoth_105 (by decide) ?_
            refine lv_goto (tgt := 110) S.1 S.2.1 d_Mo_searchBoth_106 (by decide) ?_
            exact J110 _ ls _ _ h (lv_sub hl [0, 1, 2, 3, 4, 5, 6] rfl) M
      refine m_iflt (tgt := 77) S d_Mo_searchBoth_40 (by decide) h (fun h => ?_) (fun h => ?_)
      · refine lv_iconst (v := 0) S.1 S.2.1 d_Mo_searchBoth_77 (by decide) ?_
        exact J78 _ ls _ _ h (lv_sub hl [0, 1, 2, 3, 4, 5, 6] rfl) M
      · refine lv_iload S.1 S.2.1 d_Mo_searchBoth_43 (lv_at hl 0 rfl) ?_
        refine m_iflt (tgt := 77) S d_Mo_searchBoth_45 (by decide) h (fun h => ?_) (fun h => ?_)
        · refine lv_iconst (v := 0) S.1 S.2.1 d_Mo_searchBoth_77 (by decide) ?_
          exact J78 _ ls _ _ h (lv_sub hl [0, 1, 2, 3, 4, 5, 6] rfl) M
        · refine lv_aload_n S.1 S.2.1 d_Mo_searchBoth_48 rfl (lv_at hl 4 rfl) ?_
          refine m_gs (t := 12) S M (j := 14) ok_Mo (by decide) rfl (by decide) rfl kw_423 rfl d_Mo_searchBoth_49 ?_
          refine lv_iload S.1 S.2.1 d_Mo_searchBoth_52 (lv_at hl 1 rfl) ?_
          refine m_ial (t0 := 0) S M (by decide) rfl rfl h d_Mo_searchBoth_54 (fun h => ?_)
          refine lv_aload_n S.1 S.2.1 d_Mo_searchBoth_55 rfl (lv_at hl 4 rfl) ?_
          refine m_gs (t := 12) S M (j := 14) ok_Mo (by decide) rfl (by decide) rfl kw_423 rfl d_Mo_searchBoth_56 ?_
          refine lv_bipush (v := 10) S.1 S.2.1 d_Mo_searchBoth_59 (by decide) ?_
          refine lv_iload S.1 S.2.1 d_Mo_searchBoth_61 (lv_at hl 0 rfl) ?_
          refine lv_iadd S.1 S.2.1 d_Mo_searchBoth_63 ?_
          refine m_ial (t0 := 0) S M (by decide) rfl rfl h d_Mo_searchBoth_64 (fun h => ?_)
          refine lv_iadd S.1 S.2.1 d_Mo_searchBoth_65 ?_
          refine lv_aload_n S.1 S.2.1 d_Mo_searchBoth_66 rfl (lv_at hl 4 rfl) ?_
          refine m_xip h (fun o ho => m_rV (As := []) (rest := [.int ((t17.2.2.1 12 v3.toNatClampNeg) + (t17.2.2.1 12 (10 + v4).toNatClampNeg))]) S M hl.1 (cwG (n := 0) S.2.2.2.2 kw_445 kw_446 kw_447 kw_391 kw_448 (by decide) ⟨Nat.le_of_ble_eq_true rfl, Nat.le_of_ble_eq_true rfl⟩) ok_Mo (by decide) rfl (c_Mo_best l D cA ad t17.2.2 o ho _) rfl rfl (Nat.le_of_ble_eq_true rfl) d_Mo_searchBoth_67 ⟨Nat.zero_le _, Nat.zero_le _⟩) M (fun v11 H locs h M => ?_)
          refine m_ige (tgt := 77) S d_Mo_searchBoth_70 (by decide) h (fun h => ?_) (fun h => ?_)
          · refine lv_iconst (v := 0) S.1 S.2.1 d_Mo_searchBoth_77 (by decide) ?_
            exact J78 _ ls _ _ h (lv_sub hl [0, 1, 2, 3, 4, 5, 6] rfl) M
          · refine lv_iconst (v := 1) S.1 S.2.1 d_Mo_searchBoth_73 (by decide) ?_
            refine lv_goto (tgt := 78) S.1 S.2.1 d_Mo_searchBoth_74 (by decide) ?_
            exact J78 _ ls _ _ h (lv_sub hl [0, 1, 2, 3, 4, 5, 6] rfl) M
  · intro ls H locs hl M
    refine lv_iload_n S.1 S.2.1 d_Mo_searchBoth_154 rfl (lv_at hl 1 rfl) ?_
    subst hQ; exact m_iret S hr hlk M (Option.some.inj h) d_Mo_searchBoth_155
theorem d_Mo_both_0 : decode prog_12_method_32_code 0 = .ok (.aload_n 0, 1) := by decide +kernel
theorem d_Mo_both_1 : decode prog_12_method_32_code 1 = .ok (.iload_n 1, 1) := by decide +kernel
theorem d_Mo_both_2 : decode prog_12_method_32_code 2 = .ok (.invokevirtual 94, 3) := by decide +kernel
theorem d_Mo_both_5 : decode prog_12_method_32_code 5 = .ok (.ifCond .eq 20, 3) := by decide +kernel
theorem d_Mo_both_8 : decode prog_12_method_32_code 8 = .ok (.aload_n 0, 1) := by decide +kernel
theorem d_Mo_both_9 : decode prog_12_method_32_code 9 = .ok (.iload_n 2, 1) := by decide +kernel
theorem d_Mo_both_10 : decode prog_12_method_32_code 10 = .ok (.invokevirtual 94, 3) := by decide +kernel
theorem d_Mo_both_13 : decode prog_12_method_32_code 13 = .ok (.ifCond .eq 12, 3) := by decide +kernel
theorem d_Mo_both_16 : decode prog_12_method_32_code 16 = .ok (.aload_n 0, 1) := by decide +kernel
theorem d_Mo_both_17 : decode prog_12_method_32_code 17 = .ok (.iload_n 1, 1) := by decide +kernel
theorem d_Mo_both_18 : decode prog_12_method_32_code 18 = .ok (.iload_n 2, 1) := by decide +kernel
theorem d_Mo_both_19 : decode prog_12_method_32_code 19 = .ok (.invokevirtual 136, 3) := by decide +kernel
theorem d_Mo_both_22 : decode prog_12_method_32_code 22 = .ok (.goto 4, 3) := by decide +kernel
theorem d_Mo_both_25 : decode prog_12_method_32_code 25 = .ok (.iconst (-1), 1) := by decide +kernel
theorem d_Mo_both_26 : decode prog_12_method_32_code 26 = .ok (.ireturn, 1) := by decide +kernel
def rm_Mo_both : Room := { frames := 2, cells := 0, slots := 0, locals := 53 }
def f_Mo_both (σ : mS) (x1 : Int32) (x2 : Int32) : Option (Int32 × mS) :=
  (f_Mo_isNode σ x1).bind fun v1 =>
  if v1 = 0 then (
  some ((-1), σ)) else (
  (f_Mo_isNode σ x2).bind fun v2 =>
  if v2 = 0 then (
  some ((-1), σ)) else (
  (f_Mo_searchBoth σ x1 x2).bind fun o3 =>
  some (o3.1, o3.2)))
set_option maxHeartbeats 4000000 in
set_option maxRecDepth 100000 in
theorem c_Mo_both (l : Launch) (D : va_G) (cA ad : Nat → Nat) (σ : mS) (x1 : Int32) (x2 : Int32) (o : Int32 × mS) (h : f_Mo_both σ x1 x2 = some o) : mCi l ⟨"LeastPathsModel", "both", "(II)I"⟩ (Cond.code ⟨"LeastPathsModel", "both", "(II)I"⟩ prog_12_method_32_code 3 (Option.some Jvm.ClassFile.FieldType.int) :: tlG) rm_Mo_both D clX (tyK cA) 23 (tbY cA) ad σ [.ref (ad 0), .int x1, .int x2] o := by
  intro sz
  refine m_of (cc := prog_12_method_32_code) (maxL := 3) (Qc := mQi D clX (tyK cA) 23 (tbY cA) ad o) (by decide) (Nat.le_of_ble_eq_true rfl) (fun p e s m args below meth c ls S hr hlk hnm hl M => ?_) sz
  have hl : lv_has ls 3 [(0, .ref (ad 0)), (1, .int x1), (2, .int x2)] := hl
  generalize hQ : MQ _ _ _ _ _ _ _ = Q
  skip
  unfold f_Mo_both at h
  refine lv_aload_n S.1 S.2.1 d_Mo_both_0 rfl (lv_at hl 0 rfl) ?_
  refine lv_iload_n S.1 S.2.1 d_Mo_both_1 rfl (lv_at hl 1 rfl) ?_
  refine m_xip h (fun o ho => m_rV (As := [.int x1]) (rest := []) S M hl.1 (cwG (n := 1) S.2.2.2.2 kw_393 kw_394 kw_395 kw_391 kw_396 (by decide) ⟨Nat.le_of_ble_eq_true rfl, Nat.le_of_ble_eq_true rfl⟩) ok_Mo (by decide) rfl (c_Mo_isNode l D cA ad σ x1 o ho _) rfl rfl (Nat.le_of_ble_eq_true rfl) d_Mo_both_2 ⟨Nat.zero_le _, Nat.zero_le _⟩) M (fun v1 H locs h M => ?_)
  refine m_ifeq (tgt := 25) S d_Mo_both_5 (by decide) h (fun h => ?_) (fun h => ?_)
  · refine lv_iconst (v := (-1)) S.1 S.2.1 d_Mo_both_25 (by decide) ?_
    subst hQ; exact m_iret S hr hlk M (Option.some.inj h) d_Mo_both_26
  · refine lv_aload_n S.1 S.2.1 d_Mo_both_8 rfl (lv_at hl 0 rfl) ?_
    refine lv_iload_n S.1 S.2.1 d_Mo_both_9 rfl (lv_at hl 2 rfl) ?_
    refine m_xip h (fun o ho => m_rV (As := [.int x2]) (rest := []) S M hl.1 (cwG (n := 1) S.2.2.2.2 kw_393 kw_394 kw_395 kw_391 kw_396 (by decide) ⟨Nat.le_of_ble_eq_true rfl, Nat.le_of_ble_eq_true rfl⟩) ok_Mo (by decide) rfl (c_Mo_isNode l D cA ad σ x2 o ho _) rfl rfl (Nat.le_of_ble_eq_true rfl) d_Mo_both_10 ⟨Nat.zero_le _, Nat.zero_le _⟩) M (fun v2 H locs h M => ?_)
    refine m_ifeq (tgt := 25) S d_Mo_both_13 (by decide) h (fun h => ?_) (fun h => ?_)
    · refine lv_iconst (v := (-1)) S.1 S.2.1 d_Mo_both_25 (by decide) ?_
      subst hQ; exact m_iret S hr hlk M (Option.some.inj h) d_Mo_both_26
    · refine lv_aload_n S.1 S.2.1 d_Mo_both_16 rfl (lv_at hl 0 rfl) ?_
      refine lv_iload_n S.1 S.2.1 d_Mo_both_17 rfl (lv_at hl 1 rfl) ?_
      refine lv_iload_n S.1 S.2.1 d_Mo_both_18 rfl (lv_at hl 2 rfl) ?_
      refine m_xi h (fun o ho => m_rV (As := [.int x1, .int x2]) (rest := []) S M hl.1 (cwG (n := 2) S.2.2.2.2 kw_449 kw_450 kw_451 kw_391 kw_452 (by decide) ⟨Nat.le_of_ble_eq_true rfl, Nat.le_of_ble_eq_true rfl⟩) ok_Mo (by decide) rfl (c_Mo_searchBoth l D cA ad σ x1 x2 o ho _) rfl rfl (Nat.le_of_ble_eq_true rfl) d_Mo_both_19 ⟨Nat.zero_le _, Nat.zero_le _⟩) M (fun o3 H locs h M => ?_)
      refine lv_goto (tgt := 26) S.1 S.2.1 d_Mo_both_22 (by decide) ?_
      subst hQ; exact m_iret S hr hlk M (Option.some.inj h) d_Mo_both_26
theorem d_Mo_bothTo_0 : decode prog_12_method_33_code 0 = .ok (.aload_n 0, 1) := by decide +kernel
theorem d_Mo_bothTo_1 : decode prog_12_method_33_code 1 = .ok (.iload_n 1, 1) := by decide +kernel
theorem d_Mo_bothTo_2 : decode prog_12_method_33_code 2 = .ok (.invokevirtual 94, 3) := by decide +kernel
theorem d_Mo_bothTo_5 : decode prog_12_method_33_code 5 = .ok (.ifCond .eq 11, 3) := by decide +kernel
theorem d_Mo_bothTo_8 : decode prog_12_method_33_code 8 = .ok (.aload_n 0, 1) := by decide +kernel
theorem d_Mo_bothTo_9 : decode prog_12_method_33_code 9 = .ok (.iload_n 2, 1) := by decide +kernel
theorem d_Mo_bothTo_10 : decode prog_12_method_33_code 10 = .ok (.invokevirtual 94, 3) := by decide +kernel
theorem d_Mo_bothTo_13 : decode prog_12_method_33_code 13 = .ok (.ifCond .ne 5, 3) := by decide +kernel
theorem d_Mo_bothTo_16 : decode prog_12_method_33_code 16 = .ok (.iconst (-1), 1) := by decide +kernel
theorem d_Mo_bothTo_17 : decode prog_12_method_33_code 17 = .ok (.ireturn, 1) := by decide +kernel
theorem d_Mo_bothTo_18 : decode prog_12_method_33_code 18 = .ok (.aload_n 0, 1) := by decide +kernel
theorem d_Mo_bothTo_19 : decode prog_12_method_33_code 19 = .ok (.iload_n 1, 1) := by decide +kernel
theorem d_Mo_bothTo_20 : decode prog_12_method_33_code 20 = .ok (.iload_n 2, 1) := by decide +kernel
theorem d_Mo_bothTo_21 : decode prog_12_method_33_code 21 = .ok (.invokevirtual 136, 3) := by decide +kernel
theorem d_Mo_bothTo_24 : decode prog_12_method_33_code 24 = .ok (.istore_n 3, 1) := by decide +kernel
theorem d_Mo_bothTo_25 : decode prog_12_method_33_code 25 = .ok (.aload_n 0, 1) := by decide +kernel
theorem d_Mo_bothTo_26 : decode prog_12_method_33_code 26 = .ok (.invokevirtual 132, 3) := by decide +kernel
theorem d_Mo_bothTo_29 : decode prog_12_method_33_code 29 = .ok (.ldc 102, 2) := by decide +kernel
theorem d_Mo_bothTo_31 : decode prog_12_method_33_code 31 = .ok (.if_icmp .ne 8, 3) := by decide +kernel
theorem d_Mo_bothTo_34 : decode prog_12_method_33_code 34 = .ok (.bipush (-3), 2) := by decide +kernel
theorem d_Mo_bothTo_36 : decode prog_12_method_33_code 36 = .ok (.goto 7, 3) := by decide +kernel
theorem d_Mo_bothTo_39 : decode prog_12_method_33_code 39 = .ok (.aload_n 0, 1) := by decide +kernel
theorem d_Mo_bothTo_40 : decode prog_12_method_33_code 40 = .ok (.invokevirtual 132, 3) := by decide +kernel
theorem d_Mo_bothTo_43 : decode prog_12_method_33_code 43 = .ok (.ireturn, 1) := by decide +kernel
def rm_Mo_bothTo : Room := { frames := 2, cells := 0, slots := 0, locals := 53 }
def f_Mo_bothTo (σ : mS) (x1 : Int32) (x2 : Int32) : Option (Int32 × mS) :=
  (f_Mo_isNode σ x1).bind fun v1 =>
  if v1 = 0 then (
  some ((-1), σ)) else (
  (f_Mo_isNode σ x2).bind fun v2 =>
  if v2 = 0 then (
  some ((-1), σ)) else (
  (f_Mo_searchBoth σ x1 x2).bind fun o3 =>
  (f_Mo_best o3.2).bind fun v4 =>
  if v4 = 1000000000 then (
  some ((-3), o3.2)) else (
  (f_Mo_best o3.2).bind fun v5 =>
  some (v5, o3.2))))
set_option maxHeartbeats 4000000 in
set_option maxRecDepth 100000 in
theorem c_Mo_bothTo (l : Launch) (D : va_G) (cA ad : Nat → Nat) (σ : mS) (x1 : Int32) (x2 : Int32) (o : Int32 × mS) (h : f_Mo_bothTo σ x1 x2 = some o) : mCi l ⟨"LeastPathsModel", "bothTo", "(II)I"⟩ (Cond.code ⟨"LeastPathsModel", "bothTo", "(II)I"⟩ prog_12_method_33_code 4 (Option.some Jvm.ClassFile.FieldType.int) :: tlG) rm_Mo_bothTo D clX (tyK cA) 23 (tbY cA) ad σ [.ref (ad 0), .int x1, .int x2] o := by
  intro sz
  refine m_of (cc := prog_12_method_33_code) (maxL := 4) (Qc := mQi D clX (tyK cA) 23 (tbY cA) ad o) (by decide) (Nat.le_of_ble_eq_true rfl) (fun p e s m args below meth c ls S hr hlk hnm hl M => ?_) sz
  have hl : lv_has ls 4 [(0, .ref (ad 0)), (1, .int x1), (2, .int x2)] := hl
  generalize hQ : MQ _ _ _ _ _ _ _ = Q
  skip
  unfold f_Mo_bothTo at h
  refine lv_aload_n S.1 S.2.1 d_Mo_bothTo_0 rfl (lv_at hl 0 rfl) ?_
  refine lv_iload_n S.1 S.2.1 d_Mo_bothTo_1 rfl (lv_at hl 1 rfl) ?_
  refine m_xip h (fun o ho => m_rV (As := [.int x1]) (rest := []) S M hl.1 (cwG (n := 1) S.2.2.2.2 kw_393 kw_394 kw_395 kw_391 kw_396 (by decide) ⟨Nat.le_of_ble_eq_true rfl, Nat.le_of_ble_eq_true rfl⟩) ok_Mo (by decide) rfl (c_Mo_isNode l D cA ad σ x1 o ho _) rfl rfl (Nat.le_of_ble_eq_true rfl) d_Mo_bothTo_2 ⟨Nat.zero_le _, Nat.zero_le _⟩) M (fun v1 H locs h M => ?_)
  refine m_ifeq (tgt := 16) S d_Mo_bothTo_5 (by decide) h (fun h => ?_) (fun h => ?_)
  · refine lv_iconst (v := (-1)) S.1 S.2.1 d_Mo_bothTo_16 (by decide) ?_
    subst hQ; exact m_iret S hr hlk M (Option.some.inj h) d_Mo_bothTo_17
  · refine lv_aload_n S.1 S.2.1 d_Mo_bothTo_8 rfl (lv_at hl 0 rfl) ?_
    refine lv_iload_n S.1 S.2.1 d_Mo_bothTo_9 rfl (lv_at hl 2 rfl) ?_
    refine m_xip h (fun o ho => m_rV (As := [.int x2]) (rest := []) S M hl.1 (cwG (n := 1) S.2.2.2.2 kw_393 kw_394 kw_395 kw_391 kw_396 (by decide) ⟨Nat.le_of_ble_eq_true rfl, Nat.le_of_ble_eq_true rfl⟩) ok_Mo (by decide) rfl (c_Mo_isNode l D cA ad σ x2 o ho _) rfl rfl (Nat.le_of_ble_eq_true rfl) d_Mo_bothTo_10 ⟨Nat.zero_le _, Nat.zero_le _⟩) M (fun v2 H locs h M => ?_)
    refine m_ifne (tgt := 18) S d_Mo_bothTo_13 (by decide) h (fun h => ?_) (fun h => ?_)
    · refine lv_aload_n S.1 S.2.1 d_Mo_bothTo_18 rfl (lv_at hl 0 rfl) ?_
      refine lv_iload_n S.1 S.2.1 d_Mo_bothTo_19 rfl (lv_at hl 1 rfl) ?_
      refine lv_iload_n S.1 S.2.1 d_Mo_bothTo_20 rfl (lv_at hl 2 rfl) ?_
      refine m_xi h (fun o ho => m_rV (As := [.int x1, .int x2]) (rest := []) S M hl.1 (cwG (n := 2) S.2.2.2.2 kw_449 kw_450 kw_451 kw_391 kw_452 (by decide) ⟨Nat.le_of_ble_eq_true rfl, Nat.le_of_ble_eq_true rfl⟩) ok_Mo (by decide) rfl (c_Mo_searchBoth l D cA ad σ x1 x2 o ho _) rfl rfl (Nat.le_of_ble_eq_true rfl) d_Mo_bothTo_21 ⟨Nat.zero_le _, Nat.zero_le _⟩) M (fun o3 H locs h M => ?_)
      refine lv_istore_n (lv' := [(3, .int o3.1), (0, .ref (ad 0)), (1, .int x1), (2, .int x2)]) S.1 S.2.1 d_Mo_bothTo_24 rfl hl (by decide) rfl (fun ls hl => ?_)
      refine lv_aload_n S.1 S.2.1 d_Mo_bothTo_25 rfl (lv_at hl 1 rfl) ?_
      refine m_xip h (fun o ho => m_rV (As := []) (rest := []) S M hl.1 (cwG (n := 0) S.2.2.2.2 kw_445 kw_446 kw_447 kw_391 kw_448 (by decide) ⟨Nat.le_of_ble_eq_true rfl, Nat.le_of_ble_eq_true rfl⟩) ok_Mo (by decide) rfl (c_Mo_best l D cA ad o3.2 o ho _) rfl rfl (Nat.le_of_ble_eq_true rfl) d_Mo_bothTo_26 ⟨Nat.zero_le _, Nat.zero_le _⟩) M (fun v4 H locs h M => ?_)
      refine lv_ldc (v := 1000000000) S.1 S.2.1 S.2.2.2.1 (S.2.2.2.2 _ kw_408) d_Mo_bothTo_29 ?_
      refine m_ine (tgt := 39) S d_Mo_bothTo_31 (by decide) h (fun h => ?_) (fun h => ?_)
      · refine lv_aload_n S.1 S.2.1 d_Mo_bothTo_39 rfl (lv_at hl 1 rfl) ?_
        refine m_xip h (fun o ho => m_rV (As := []) (rest := []) S M hl.1 (cwG (n := 0) S.2.2.2.2 kw_445 kw_446 kw_447 kw_391 kw_448 (by decide) ⟨Nat.le_of_ble_eq_true rfl, Nat.le_of_ble_eq_true rfl⟩) ok_Mo (by decide) rfl (c_Mo_best l D cA ad o3.2 o ho _) rfl rfl (Nat.le_of_ble_eq_true rfl) d_Mo_bothTo_40 ⟨Nat.zero_le _, Nat.zero_le _⟩) M (fun v5 H locs h M => ?_)
        subst hQ; exact m_iret S hr hlk M (Option.some.inj h) d_Mo_bothTo_43
      · refine lv_bipush (v := (-3)) S.1 S.2.1 d_Mo_bothTo_34 (by decide) ?_
        refine lv_goto (tgt := 43) S.1 S.2.1 d_Mo_bothTo_36 (by decide) ?_
        subst hQ; exact m_iret S hr hlk M (Option.some.inj h) d_Mo_bothTo_43
    · refine lv_iconst (v := (-1)) S.1 S.2.1 d_Mo_bothTo_16 (by decide) ?_
      subst hQ; exact m_iret S hr hlk M (Option.some.inj h) d_Mo_bothTo_17
theorem d_Mo_back_0 : decode prog_12_method_35_code 0 = .ok (.aload_n 0, 1) := by decide +kernel
theorem d_Mo_back_1 : decode prog_12_method_35_code 1 = .ok (.getfield 139, 3) := by decide +kernel
theorem d_Mo_back_4 : decode prog_12_method_35_code 4 = .ok (.ifCond .ne 5, 3) := by decide +kernel
theorem d_Mo_back_7 : decode prog_12_method_35_code 7 = .ok (.iconst 0, 1) := by decide +kernel
theorem d_Mo_back_8 : decode prog_12_method_35_code 8 = .ok (.ireturn, 1) := by decide +kernel
theorem d_Mo_back_9 : decode prog_12_method_35_code 9 = .ok (.aload_n 0, 1) := by decide +kernel
theorem d_Mo_back_10 : decode prog_12_method_35_code 10 = .ok (.dup, 1) := by decide +kernel
theorem d_Mo_back_11 : decode prog_12_method_35_code 11 = .ok (.getfield 139, 3) := by decide +kernel
theorem d_Mo_back_14 : decode prog_12_method_35_code 14 = .ok (.iconst 1, 1) := by decide +kernel
theorem d_Mo_back_15 : decode prog_12_method_35_code 15 = .ok (.isub, 1) := by decide +kernel
theorem d_Mo_back_16 : decode prog_12_method_35_code 16 = .ok (.putfield 139, 3) := by decide +kernel
theorem d_Mo_back_19 : decode prog_12_method_35_code 19 = .ok (.aload_n 0, 1) := by decide +kernel
theorem d_Mo_back_20 : decode prog_12_method_35_code 20 = .ok (.dup, 1) := by decide +kernel
theorem d_Mo_back_21 : decode prog_12_method_35_code 21 = .ok (.getfield 142, 3) := by decide +kernel
theorem d_Mo_back_24 : decode prog_12_method_35_code 24 = .ok (.aload_n 0, 1) := by decide +kernel
theorem d_Mo_back_25 : decode prog_12_method_35_code 25 = .ok (.getfield 16, 3) := by decide +kernel
theorem d_Mo_back_28 : decode prog_12_method_35_code 28 = .ok (.aload_n 0, 1) := by decide +kernel
theorem d_Mo_back_29 : decode prog_12_method_35_code 29 = .ok (.getfield 50, 3) := by decide +kernel
theorem d_Mo_back_32 : decode prog_12_method_35_code 32 = .ok (.aload_n 0, 1) := by decide +kernel
theorem d_Mo_back_33 : decode prog_12_method_35_code 33 = .ok (.getfield 139, 3) := by decide +kernel
theorem d_Mo_back_36 : decode prog_12_method_35_code 36 = .ok (.iaload, 1) := by decide +kernel
theorem d_Mo_back_37 : decode prog_12_method_35_code 37 = .ok (.iaload, 1) := by decide +kernel
theorem d_Mo_back_38 : decode prog_12_method_35_code 38 = .ok (.isub, 1) := by decide +kernel
theorem d_Mo_back_39 : decode prog_12_method_35_code 39 = .ok (.putfield 142, 3) := by decide +kernel
theorem d_Mo_back_42 : decode prog_12_method_35_code 42 = .ok (.iconst 1, 1) := by decide +kernel
theorem d_Mo_back_43 : decode prog_12_method_35_code 43 = .ok (.ireturn, 1) := by decide +kernel
def rm_Mo_back : Room := { frames := 0, cells := 0, slots := 0, locals := 0 }
def f_Mo_back (σ : mS) : Option (Int32 × mS) :=
  if (σ.1 0 19) = 0 then (
  some (0, σ)) else (
  nm (sI σ 0 19 ((σ.1 0 19) - 1)) fun σ1 =>
  gd (inb (σ1.1 0 19) 12) (
  gd (inb (σ1.1 14 (σ1.1 0 19).toNatClampNeg) 40) (
  nm (sI σ1 0 20 ((σ1.1 0 20) - (σ1.1 3 (σ1.1 14 (σ1.1 0 19).toNatClampNeg).toNatClampNeg))) fun σ2 =>
  some (1, σ2))))
set_option maxHeartbeats 4000000 in
set_option maxRecDepth 100000 in
theorem c_Mo_back (l : Launch) (D : va_G) (cA ad : Nat → Nat) (σ : mS) (o : Int32 × mS) (h : f_Mo_back σ = some o) : mCi l ⟨"LeastPathsModel", "back", "()Z"⟩ (Cond.code ⟨"LeastPathsModel", "back", "()Z"⟩ prog_12_method_35_code 1 (Option.some Jvm.ClassFile.FieldType.boolean) :: tlG) rm_Mo_back D clX (tyK cA) 23 (tbY cA) ad σ [.ref (ad 0)] o := by
  intro sz
  refine m_of (cc := prog_12_method_35_code) (maxL := 1) (Qc := mQi D clX (tyK cA) 23 (tbY cA) ad o) (by decide) (Nat.le_of_ble_eq_true rfl) (fun p e s m args below meth c ls S hr hlk hnm hl M => ?_) sz
  have hl : lv_has ls 1 [(0, .ref (ad 0))] := hl
  generalize hQ : MQ _ _ _ _ _ _ _ = Q
  skip
  unfold f_Mo_back at h
  refine lv_aload_n S.1 S.2.1 d_Mo_back_0 rfl (lv_at hl 0 rfl) ?_
  refine m_gi S M (j := 19) ok_Mo (by decide) rfl (by decide) rfl kw_453 rfl d_Mo_back_1 ?_
  refine m_ifne (tgt := 9) S d_Mo_back_4 (by decide) h (fun h => ?_) (fun h => ?_)
  · refine lv_aload_n S.1 S.2.1 d_Mo_back_9 rfl (lv_at hl 0 rfl) ?_
    refine lv_dup S.1 S.2.1 d_Mo_back_10 rfl ?_
    refine m_gi S M (j := 19) ok_Mo (by decide) rfl (by decide) rfl kw_453 rfl d_Mo_back_11 ?_
    refine lv_iconst (v := 1) S.1 S.2.1 d_Mo_back_14 (by decide) ?_
    refine lv_isub S.1 S.2.1 d_Mo_back_15 ?_
    refine m_pi S M (j := 19) ok_Mo (by decide) rfl (by decide) rfl kw_453 rfl rfl rfl d_Mo_back_16 h (fun σ1 H locs h M => ?_)
    refine lv_aload_n S.1 S.2.1 d_Mo_back_19 rfl (lv_at hl 0 rfl) ?_
    refine lv_dup S.1 S.2.1 d_Mo_back_20 rfl ?_
    refine m_gi S M (j := 20) ok_Mo (by decide) rfl (by decide) rfl kw_454 rfl d_Mo_back_21 ?_
    refine lv_aload_n S.1 S.2.1 d_Mo_back_24 rfl (lv_at hl 0 rfl) ?_
    refine m_gs (t := 3) S M (j := 5) ok_Mo (by decide) rfl (by decide) rfl kw_400 rfl d_Mo_back_25 ?_
    refine lv_aload_n S.1 S.2.1 d_Mo_back_28 rfl (lv_at hl 0 rfl) ?_
    refine m_gs (t := 14) S M (j := 16) ok_Mo (by decide) rfl (by decide) rfl kw_455 rfl d_Mo_back_29 ?_
    refine lv_aload_n S.1 S.2.1 d_Mo_back_32 rfl (lv_at hl 0 rfl) ?_
    refine m_gi S M (j := 19) ok_Mo (by decide) rfl (by decide) rfl kw_453 rfl d_Mo_back_33 ?_
    refine m_ial (t0 := 0) S M (by decide) rfl rfl h d_Mo_back_36 (fun h => ?_)
    refine m_ial (t0 := 0) S M (by decide) rfl rfl h d_Mo_back_37 (fun h => ?_)
    refine lv_isub S.1 S.2.1 d_Mo_back_38 ?_
    refine m_pi S M (j := 20) ok_Mo (by decide) rfl (by decide) rfl kw_454 rfl rfl rfl d_Mo_back_39 h (fun σ2 H locs h M => ?_)
    refine lv_iconst (v := 1) S.1 S.2.1 d_Mo_back_42 (by decide) ?_
    subst hQ; exact m_zret S hr hlk M (Option.some.inj h) rfl d_Mo_back_43
  · refine lv_iconst (v := 0) S.1 S.2.1 d_Mo_back_7 (by decide) ?_
    subst hQ; exact m_zret S hr hlk M (Option.some.inj h) rfl d_Mo_back_8
