theorem d_Wa_empty_0 : decode prog_8_method_2_code 0 = .ok (.aload_n 0, 1) := by decide +kernel
theorem d_Wa_empty_1 : decode prog_8_method_2_code 1 = .ok (.iconst 0, 1) := by decide +kernel
theorem d_Wa_empty_2 : decode prog_8_method_2_code 2 = .ok (.putfield 32, 3) := by decide +kernel
theorem d_Wa_empty_5 : decode prog_8_method_2_code 5 = .ok (.iconst 0, 1) := by decide +kernel
theorem d_Wa_empty_6 : decode prog_8_method_2_code 6 = .ok (.istore_n 1, 1) := by decide +kernel
theorem d_Wa_empty_7 : decode prog_8_method_2_code 7 = .ok (.iload_n 1, 1) := by decide +kernel
theorem d_Wa_empty_8 : decode prog_8_method_2_code 8 = .ok (.bipush 10, 2) := by decide +kernel
theorem d_Wa_empty_10 : decode prog_8_method_2_code 10 = .ok (.if_icmp .ge 16, 3) := by decide +kernel
theorem d_Wa_empty_13 : decode prog_8_method_2_code 13 = .ok (.aload_n 0, 1) := by decide +kernel
theorem d_Wa_empty_14 : decode prog_8_method_2_code 14 = .ok (.getfield 15, 3) := by decide +kernel
theorem d_Wa_empty_17 : decode prog_8_method_2_code 17 = .ok (.iload_n 1, 1) := by decide +kernel
theorem d_Wa_empty_18 : decode prog_8_method_2_code 18 = .ok (.iconst (-1), 1) := by decide +kernel
theorem d_Wa_empty_19 : decode prog_8_method_2_code 19 = .ok (.iastore, 1) := by decide +kernel
theorem d_Wa_empty_20 : decode prog_8_method_2_code 20 = .ok (.iinc 1 1, 3) := by decide +kernel
theorem d_Wa_empty_23 : decode prog_8_method_2_code 23 = .ok (.goto (-16), 3) := by decide +kernel
theorem d_Wa_empty_26 : decode prog_8_method_2_code 26 = .ok (.return_, 1) := by decide +kernel
def rm_Wa_empty : Room := { frames := 0, cells := 0, slots := 0, locals := 0 }
def f_Wa_empty_L7 (b : Nat) : (Int32 × mS) → Option ((Int32 × mS) ⊕ (Int32 × mS)) := fun t7 =>
  if 10 ≤ t7.1 then (
  some (.inr (t7.1, t7.2))) else (
  gd (inb t7.1 10) ((nm (sI t7.2 ((b + 2)) t7.1.toNatClampNeg ((-1))) fun σ2 =>
  some (.inl (t7.1 + 1, σ2)))))
def f_Wa_empty (b : Nat) (σ : mS) : Option (mS) :=
  nm (sI σ b 4 0) fun σ1 =>
  (lpN (f_Wa_empty_L7 b) fuS (0, σ1)).bind fun u7 =>
  some u7.2
set_option maxHeartbeats 4000000 in
set_option maxRecDepth 100000 in
theorem c_Wa_empty (l : Launch) (D : va_G) (cA ad : Nat → Nat) {b : Nat} (hb : wB b) (σ : mS) (o : mS) (h : f_Wa_empty b σ = some o) : mCv l ⟨"LeastPaths$Waiting", "empty", "()V"⟩ (Cond.code ⟨"LeastPaths$Waiting", "empty", "()V"⟩ prog_8_method_2_code 2 (Option.none : Option Jvm.ClassFile.FieldType) :: tlG) rm_Wa_empty D clX (tyK cA) 99 (tbX cA) ad σ [.ref (ad b)] o := by
  intro sz
  refine m_of (cc := prog_8_method_2_code) (maxL := 2) (Qc := mQv D clX (tyK cA) 99 (tbX cA) ad o) (by decide) (Nat.le_of_ble_eq_true rfl) (fun p e s m args below meth c ls S hr hlk hnm hl M => ?_) sz
  have hl : lv_has ls 2 [(0, .ref (ad b))] := hl
  generalize hQ : MQ _ _ _ _ _ _ _ = Q
  skip
  unfold f_Wa_empty at h
  refine lv_aload_n S.1 S.2.1 d_Wa_empty_0 rfl (lv_at hl 0 rfl) ?_
  refine lv_iconst (v := 0) S.1 S.2.1 d_Wa_empty_1 (by decide) ?_
  refine m_pi S M (j := 4) ok_Wa (lt_W0 hb) (tb_W0 hb) (by decide) rfl kw_17 rfl rfl rfl d_Wa_empty_2 h (fun σ1 H locs h M => ?_)
  refine lv_iconst (v := 0) S.1 S.2.1 d_Wa_empty_5 (by decide) ?_
  refine lv_istore_n (lv' := [(1, .int 0), (0, .ref (ad b))]) S.1 S.2.1 d_Wa_empty_6 rfl hl (by decide) rfl (fun ls hl => ?_)
  obtain ⟨u7, q7, h⟩ := Option.bind_eq_some_iff.mp h
  refine lpN_W1 (st := f_Wa_empty_L7 b) (fun (t7 : Int32 × mS) => ∀ (ls : Array Slot) (H : Heap) (locs : List Loc), lv_has ls 2 [(1, .int t7.1), (0, .ref (ad b))] → mM D clX (tyK cA) (mA 99 ad s.heap.size) s 99 (tbX cA) ad t7.2 H locs → W p l e rm_Wa_empty s m args below meth c H locs 0 0 Q (F0 m 7 ls [])) (fun (u7 : Int32 × mS) => ∀ (ls : Array Slot) (H : Heap) (locs : List Loc), lv_has ls 2 [(1, .int u7.1), (0, .ref (ad b))] → mM D clX (tyK cA) (mA 99 ad s.heap.size) s 99 (tbX cA) ad u7.2 H locs → W p l e rm_Wa_empty s m args below meth c H locs 0 0 Q (F0 m 26 ls [])) ?_ fuS ((0, σ1) : Int32 × mS) u7 q7 ?_ ls _ _ (lv_sub hl [0, 1] rfl) M
  · intro t7 oo7 h K1 K2 ls H locs hl M
    unfold f_Wa_empty_L7 at h
    refine lv_iload_n S.1 S.2.1 d_Wa_empty_7 rfl (lv_at hl 0 rfl) ?_
    refine lv_bipush (v := 10) S.1 S.2.1 d_Wa_empty_8 (by decide) ?_
    refine m_ige (tgt := 26) S d_Wa_empty_10 (by decide) h (fun h => ?_) (fun h => ?_)
    · exact K2 _ (Option.some.inj h).symm ls _ _ (lv_sub hl [0, 1] rfl) M
    · refine lv_aload_n S.1 S.2.1 d_Wa_empty_13 rfl (lv_at hl 1 rfl) ?_
      refine m_gs (t := (b + 2)) S M (j := 2) ok_Wa (lt_W0 hb) (tb_W0 hb) (by decide) rfl kw_18 rfl d_Wa_empty_14 ?_
      refine lv_iload_n S.1 S.2.1 d_Wa_empty_17 rfl (lv_at hl 0 rfl) ?_
      refine lv_iconst (v := (-1)) S.1 S.2.1 d_Wa_empty_18 (by decide) ?_
      refine m_ias (t0 := 0) S M (lt_W2 hb) (tb_W2 hb) rfl h d_Wa_empty_19 (fun σ2 H locs h M => ?_)
      refine lv_iinc (v := t7.1 + 1) (lv' := [(1, .int (t7.1 + 1)), (0, .ref (ad b))]) S.1 S.2.1 d_Wa_empty_20 hl (k := 0) rfl rfl (by decide) rfl (fun ls hl => ?_)
      refine lv_goto (tgt := 7) S.1 S.2.1 d_Wa_empty_23 (by decide) ?_
      exact K1 _ (Option.some.inj h).symm ls _ _ (lv_sub hl [0, 1] rfl) M
  · intro ls H locs hl M
    subst hQ; exact m_vret S hr hlk M (Option.some.inj h) d_Wa_empty_26
theorem d_Wa_isEmpty_0 : decode prog_8_method_3_code 0 = .ok (.aload_n 0, 1) := by decide +kernel
theorem d_Wa_isEmpty_1 : decode prog_8_method_3_code 1 = .ok (.getfield 32, 3) := by decide +kernel
theorem d_Wa_isEmpty_4 : decode prog_8_method_3_code 4 = .ok (.ifCond .ne 7, 3) := by decide +kernel
theorem d_Wa_isEmpty_7 : decode prog_8_method_3_code 7 = .ok (.iconst 1, 1) := by decide +kernel
theorem d_Wa_isEmpty_8 : decode prog_8_method_3_code 8 = .ok (.goto 4, 3) := by decide +kernel
theorem d_Wa_isEmpty_11 : decode prog_8_method_3_code 11 = .ok (.iconst 0, 1) := by decide +kernel
theorem d_Wa_isEmpty_12 : decode prog_8_method_3_code 12 = .ok (.ireturn, 1) := by decide +kernel
def rm_Wa_isEmpty : Room := { frames := 0, cells := 0, slots := 0, locals := 0 }
def f_Wa_isEmpty (b : Nat) (σ : mS) : Option (Int32) :=
  if (σ.1 b 4) = 0 then (
  some 1) else (
  some 0)
set_option maxHeartbeats 4000000 in
set_option maxRecDepth 100000 in
theorem c_Wa_isEmpty (l : Launch) (D : va_G) (cA ad : Nat → Nat) {b : Nat} (hb : wB b) (σ : mS) (o : Int32) (h : f_Wa_isEmpty b σ = some o) : mCi l ⟨"LeastPaths$Waiting", "isEmpty", "()Z"⟩ (Cond.code ⟨"LeastPaths$Waiting", "isEmpty", "()Z"⟩ prog_8_method_3_code 1 (Option.some Jvm.ClassFile.FieldType.boolean) :: tlG) rm_Wa_isEmpty D clX (tyK cA) 99 (tbX cA) ad σ [.ref (ad b)] (o, σ) := by
  intro sz
  refine m_of (cc := prog_8_method_3_code) (maxL := 1) (Qc := mQi D clX (tyK cA) 99 (tbX cA) ad (o, σ)) (by decide) (Nat.le_of_ble_eq_true rfl) (fun p e s m args below meth c ls S hr hlk hnm hl M => ?_) sz
  have hl : lv_has ls 1 [(0, .ref (ad b))] := hl
  generalize hQ : MQ _ _ _ _ _ _ _ = Q
  skip
  unfold f_Wa_isEmpty at h
  refine lv_aload_n S.1 S.2.1 d_Wa_isEmpty_0 rfl (lv_at hl 0 rfl) ?_
  refine m_gi S M (j := 4) ok_Wa (lt_W0 hb) (tb_W0 hb) (by decide) rfl kw_17 rfl d_Wa_isEmpty_1 ?_
  refine m_ifne (tgt := 11) S d_Wa_isEmpty_4 (by decide) h (fun h => ?_) (fun h => ?_)
  · refine lv_iconst (v := 0) S.1 S.2.1 d_Wa_isEmpty_11 (by decide) ?_
    subst hQ; exact m_zret S hr hlk M (by rw [Option.some.inj h]) rfl d_Wa_isEmpty_12
  · refine lv_iconst (v := 1) S.1 S.2.1 d_Wa_isEmpty_7 (by decide) ?_
    refine lv_goto (tgt := 12) S.1 S.2.1 d_Wa_isEmpty_8 (by decide) ?_
    subst hQ; exact m_zret S hr hlk M (by rw [Option.some.inj h]) rfl d_Wa_isEmpty_12
theorem d_Wa_first_0 : decode prog_8_method_4_code 0 = .ok (.aload_n 0, 1) := by decide +kernel
theorem d_Wa_first_1 : decode prog_8_method_4_code 1 = .ok (.getfield 32, 3) := by decide +kernel
theorem d_Wa_first_4 : decode prog_8_method_4_code 4 = .ok (.ifCond .ne 7, 3) := by decide +kernel
theorem d_Wa_first_7 : decode prog_8_method_4_code 7 = .ok (.iconst (-1), 1) := by decide +kernel
theorem d_Wa_first_8 : decode prog_8_method_4_code 8 = .ok (.goto 9, 3) := by decide +kernel
theorem d_Wa_first_11 : decode prog_8_method_4_code 11 = .ok (.aload_n 0, 1) := by decide +kernel
theorem d_Wa_first_12 : decode prog_8_method_4_code 12 = .ok (.getfield 9, 3) := by decide +kernel
theorem d_Wa_first_15 : decode prog_8_method_4_code 15 = .ok (.iconst 0, 1) := by decide +kernel
theorem d_Wa_first_16 : decode prog_8_method_4_code 16 = .ok (.iaload, 1) := by decide +kernel
theorem d_Wa_first_17 : decode prog_8_method_4_code 17 = .ok (.ireturn, 1) := by decide +kernel
def rm_Wa_first : Room := { frames := 0, cells := 0, slots := 0, locals := 0 }
def f_Wa_first (b : Nat) (σ : mS) : Option (Int32) :=
  if (σ.1 b 4) = 0 then (
  some ((-1))) else (
  gd (inb 0 10) (
  some (σ.1 ((b + 1)) (0 : Int32).toNatClampNeg)))
set_option maxHeartbeats 4000000 in
set_option maxRecDepth 100000 in
theorem c_Wa_first (l : Launch) (D : va_G) (cA ad : Nat → Nat) {b : Nat} (hb : wB b) (σ : mS) (o : Int32) (h : f_Wa_first b σ = some o) : mCi l ⟨"LeastPaths$Waiting", "first", "()I"⟩ (Cond.code ⟨"LeastPaths$Waiting", "first", "()I"⟩ prog_8_method_4_code 1 (Option.some Jvm.ClassFile.FieldType.int) :: tlG) rm_Wa_first D clX (tyK cA) 99 (tbX cA) ad σ [.ref (ad b)] (o, σ) := by
  intro sz
  refine m_of (cc := prog_8_method_4_code) (maxL := 1) (Qc := mQi D clX (tyK cA) 99 (tbX cA) ad (o, σ)) (by decide) (Nat.le_of_ble_eq_true rfl) (fun p e s m args below meth c ls S hr hlk hnm hl M => ?_) sz
  have hl : lv_has ls 1 [(0, .ref (ad b))] := hl
  generalize hQ : MQ _ _ _ _ _ _ _ = Q
  skip
  unfold f_Wa_first at h
  refine lv_aload_n S.1 S.2.1 d_Wa_first_0 rfl (lv_at hl 0 rfl) ?_
  refine m_gi S M (j := 4) ok_Wa (lt_W0 hb) (tb_W0 hb) (by decide) rfl kw_17 rfl d_Wa_first_1 ?_
  refine m_ifne (tgt := 11) S d_Wa_first_4 (by decide) h (fun h => ?_) (fun h => ?_)
  · refine lv_aload_n S.1 S.2.1 d_Wa_first_11 rfl (lv_at hl 0 rfl) ?_
    refine m_gs (t := (b + 1)) S M (j := 1) ok_Wa (lt_W0 hb) (tb_W0 hb) (by decide) rfl kw_19 rfl d_Wa_first_12 ?_
    refine lv_iconst (v := 0) S.1 S.2.1 d_Wa_first_15 (by decide) ?_
    refine m_ial (t0 := 0) S M (lt_W1 hb) (tb_W1 hb) rfl h d_Wa_first_16 (fun h => ?_)
    subst hQ; exact m_iret S hr hlk M (by rw [Option.some.inj h]) d_Wa_first_17
  · refine lv_iconst (v := (-1)) S.1 S.2.1 d_Wa_first_7 (by decide) ?_
    refine lv_goto (tgt := 17) S.1 S.2.1 d_Wa_first_8 (by decide) ?_
    subst hQ; exact m_iret S hr hlk M (by rw [Option.some.inj h]) d_Wa_first_17
theorem d_Wa_seat_0 : decode prog_8_method_7_code 0 = .ok (.aload_n 0, 1) := by decide +kernel
theorem d_Wa_seat_1 : decode prog_8_method_7_code 1 = .ok (.getfield 9, 3) := by decide +kernel
theorem d_Wa_seat_4 : decode prog_8_method_7_code 4 = .ok (.iload_n 2, 1) := by decide +kernel
theorem d_Wa_seat_5 : decode prog_8_method_7_code 5 = .ok (.iload_n 1, 1) := by decide +kernel
theorem d_Wa_seat_6 : decode prog_8_method_7_code 6 = .ok (.iastore, 1) := by decide +kernel
theorem d_Wa_seat_7 : decode prog_8_method_7_code 7 = .ok (.aload_n 0, 1) := by decide +kernel
theorem d_Wa_seat_8 : decode prog_8_method_7_code 8 = .ok (.getfield 15, 3) := by decide +kernel
theorem d_Wa_seat_11 : decode prog_8_method_7_code 11 = .ok (.iload_n 1, 1) := by decide +kernel
theorem d_Wa_seat_12 : decode prog_8_method_7_code 12 = .ok (.iload_n 2, 1) := by decide +kernel
theorem d_Wa_seat_13 : decode prog_8_method_7_code 13 = .ok (.iastore, 1) := by decide +kernel
theorem d_Wa_seat_14 : decode prog_8_method_7_code 14 = .ok (.return_, 1) := by decide +kernel
def rm_Wa_seat : Room := { frames := 0, cells := 0, slots := 0, locals := 0 }
def f_Wa_seat (b : Nat) (σ : mS) (x1 : Int32) (x2 : Int32) : Option (mS) :=
  gd (inb x2 10) ((nm (sI σ ((b + 1)) x2.toNatClampNeg x1) fun σ1 =>
  gd (inb x1 10) ((nm (sI σ1 ((b + 2)) x1.toNatClampNeg x2) fun σ2 =>
  some σ2))))
set_option maxHeartbeats 4000000 in
set_option maxRecDepth 100000 in
theorem c_Wa_seat (l : Launch) (D : va_G) (cA ad : Nat → Nat) {b : Nat} (hb : wB b) (σ : mS) (x1 : Int32) (x2 : Int32) (o : mS) (h : f_Wa_seat b σ x1 x2 = some o) : mCv l ⟨"LeastPaths$Waiting", "seat", "(II)V"⟩ (Cond.code ⟨"LeastPaths$Waiting", "seat", "(II)V"⟩ prog_8_method_7_code 3 (Option.none : Option Jvm.ClassFile.FieldType) :: tlG) rm_Wa_seat D clX (tyK cA) 99 (tbX cA) ad σ [.ref (ad b), .int x1, .int x2] o := by
  intro sz
  refine m_of (cc := prog_8_method_7_code) (maxL := 3) (Qc := mQv D clX (tyK cA) 99 (tbX cA) ad o) (by decide) (Nat.le_of_ble_eq_true rfl) (fun p e s m args below meth c ls S hr hlk hnm hl M => ?_) sz
  have hl : lv_has ls 3 [(0, .ref (ad b)), (1, .int x1), (2, .int x2)] := hl
  generalize hQ : MQ _ _ _ _ _ _ _ = Q
  skip
  unfold f_Wa_seat at h
  refine lv_aload_n S.1 S.2.1 d_Wa_seat_0 rfl (lv_at hl 0 rfl) ?_
  refine m_gs (t := (b + 1)) S M (j := 1) ok_Wa (lt_W0 hb) (tb_W0 hb) (by decide) rfl kw_19 rfl d_Wa_seat_1 ?_
  refine lv_iload_n S.1 S.2.1 d_Wa_seat_4 rfl (lv_at hl 2 rfl) ?_
  refine lv_iload_n S.1 S.2.1 d_Wa_seat_5 rfl (lv_at hl 1 rfl) ?_
  refine m_ias (t0 := 0) S M (lt_W1 hb) (tb_W1 hb) rfl h d_Wa_seat_6 (fun σ1 H locs h M => ?_)
  refine lv_aload_n S.1 S.2.1 d_Wa_seat_7 rfl (lv_at hl 0 rfl) ?_
  refine m_gs (t := (b + 2)) S M (j := 2) ok_Wa (lt_W0 hb) (tb_W0 hb) (by decide) rfl kw_18 rfl d_Wa_seat_8 ?_
  refine lv_iload_n S.1 S.2.1 d_Wa_seat_11 rfl (lv_at hl 1 rfl) ?_
  refine lv_iload_n S.1 S.2.1 d_Wa_seat_12 rfl (lv_at hl 2 rfl) ?_
  refine m_ias (t0 := 0) S M (lt_W2 hb) (tb_W2 hb) rfl h d_Wa_seat_13 (fun σ2 H locs h M => ?_)
  subst hQ; exact m_vret S hr hlk M (Option.some.inj h) d_Wa_seat_14
theorem d_Wa_put_0 : decode prog_8_method_5_code 0 = .ok (.aload_n 0, 1) := by decide +kernel
theorem d_Wa_put_1 : decode prog_8_method_5_code 1 = .ok (.getfield 15, 3) := by decide +kernel
theorem d_Wa_put_4 : decode prog_8_method_5_code 4 = .ok (.iload_n 1, 1) := by decide +kernel
theorem d_Wa_put_5 : decode prog_8_method_5_code 5 = .ok (.iaload, 1) := by decide +kernel
theorem d_Wa_put_6 : decode prog_8_method_5_code 6 = .ok (.iconst (-1), 1) := by decide +kernel
theorem d_Wa_put_7 : decode prog_8_method_5_code 7 = .ok (.if_icmp .ne 23, 3) := by decide +kernel
theorem d_Wa_put_10 : decode prog_8_method_5_code 10 = .ok (.aload_n 0, 1) := by decide +kernel
theorem d_Wa_put_11 : decode prog_8_method_5_code 11 = .ok (.getfield 15, 3) := by decide +kernel
theorem d_Wa_put_14 : decode prog_8_method_5_code 14 = .ok (.iload_n 1, 1) := by decide +kernel
theorem d_Wa_put_15 : decode prog_8_method_5_code 15 = .ok (.aload_n 0, 1) := by decide +kernel
theorem d_Wa_put_16 : decode prog_8_method_5_code 16 = .ok (.getfield 32, 3) := by decide +kernel
theorem d_Wa_put_19 : decode prog_8_method_5_code 19 = .ok (.iastore, 1) := by decide +kernel
theorem d_Wa_put_20 : decode prog_8_method_5_code 20 = .ok (.aload_n 0, 1) := by decide +kernel
theorem d_Wa_put_21 : decode prog_8_method_5_code 21 = .ok (.dup, 1) := by decide +kernel
theorem d_Wa_put_22 : decode prog_8_method_5_code 22 = .ok (.getfield 32, 3) := by decide +kernel
theorem d_Wa_put_25 : decode prog_8_method_5_code 25 = .ok (.iconst 1, 1) := by decide +kernel
theorem d_Wa_put_26 : decode prog_8_method_5_code 26 = .ok (.iadd, 1) := by decide +kernel
theorem d_Wa_put_27 : decode prog_8_method_5_code 27 = .ok (.putfield 32, 3) := by decide +kernel
theorem d_Wa_put_30 : decode prog_8_method_5_code 30 = .ok (.aload_n 0, 1) := by decide +kernel
theorem d_Wa_put_31 : decode prog_8_method_5_code 31 = .ok (.getfield 18, 3) := by decide +kernel
theorem d_Wa_put_34 : decode prog_8_method_5_code 34 = .ok (.iload_n 1, 1) := by decide +kernel
theorem d_Wa_put_35 : decode prog_8_method_5_code 35 = .ok (.iload_n 2, 1) := by decide +kernel
theorem d_Wa_put_36 : decode prog_8_method_5_code 36 = .ok (.i2l, 1) := by decide +kernel
theorem d_Wa_put_37 : decode prog_8_method_5_code 37 = .ok (.ldc2_w 35, 3) := by decide +kernel
theorem d_Wa_put_40 : decode prog_8_method_5_code 40 = .ok (.lmul, 1) := by decide +kernel
theorem d_Wa_put_41 : decode prog_8_method_5_code 41 = .ok (.iload_n 1, 1) := by decide +kernel
theorem d_Wa_put_42 : decode prog_8_method_5_code 42 = .ok (.i2l, 1) := by decide +kernel
theorem d_Wa_put_43 : decode prog_8_method_5_code 43 = .ok (.ladd, 1) := by decide +kernel
theorem d_Wa_put_44 : decode prog_8_method_5_code 44 = .ok (.lastore, 1) := by decide +kernel
theorem d_Wa_put_45 : decode prog_8_method_5_code 45 = .ok (.aload_n 0, 1) := by decide +kernel
theorem d_Wa_put_46 : decode prog_8_method_5_code 46 = .ok (.getfield 15, 3) := by decide +kernel
theorem d_Wa_put_49 : decode prog_8_method_5_code 49 = .ok (.iload_n 1, 1) := by decide +kernel
theorem d_Wa_put_50 : decode prog_8_method_5_code 50 = .ok (.iaload, 1) := by decide +kernel
theorem d_Wa_put_51 : decode prog_8_method_5_code 51 = .ok (.istore_n 3, 1) := by decide +kernel
theorem d_Wa_put_52 : decode prog_8_method_5_code 52 = .ok (.iconst 0, 1) := by decide +kernel
theorem d_Wa_put_53 : decode prog_8_method_5_code 53 = .ok (.istore 4, 2) := by decide +kernel
theorem d_Wa_put_55 : decode prog_8_method_5_code 55 = .ok (.iload 4, 2) := by decide +kernel
theorem d_Wa_put_57 : decode prog_8_method_5_code 57 = .ok (.aload_n 0, 1) := by decide +kernel
theorem d_Wa_put_58 : decode prog_8_method_5_code 58 = .ok (.getfield 32, 3) := by decide +kernel
theorem d_Wa_put_61 : decode prog_8_method_5_code 61 = .ok (.if_icmp .ge 63, 3) := by decide +kernel
theorem d_Wa_put_64 : decode prog_8_method_5_code 64 = .ok (.iload_n 3, 1) := by decide +kernel
theorem d_Wa_put_65 : decode prog_8_method_5_code 65 = .ok (.ifCond .le 59, 3) := by decide +kernel
theorem d_Wa_put_68 : decode prog_8_method_5_code 68 = .ok (.iload_n 3, 1) := by decide +kernel
theorem d_Wa_put_69 : decode prog_8_method_5_code 69 = .ok (.iconst 1, 1) := by decide +kernel
theorem d_Wa_put_70 : decode prog_8_method_5_code 70 = .ok (.isub, 1) := by decide +kernel
theorem d_Wa_put_71 : decode prog_8_method_5_code 71 = .ok (.aload_n 0, 1) := by decide +kernel
theorem d_Wa_put_72 : decode prog_8_method_5_code 72 = .ok (.getfield 28, 3) := by decide +kernel
theorem d_Wa_put_75 : decode prog_8_method_5_code 75 = .ok (.idiv, 1) := by decide +kernel
theorem d_Wa_put_76 : decode prog_8_method_5_code 76 = .ok (.istore 5, 2) := by decide +kernel
theorem d_Wa_put_78 : decode prog_8_method_5_code 78 = .ok (.aload_n 0, 1) := by decide +kernel
theorem d_Wa_put_79 : decode prog_8_method_5_code 79 = .ok (.getfield 18, 3) := by decide +kernel
theorem d_Wa_put_82 : decode prog_8_method_5_code 82 = .ok (.aload_n 0, 1) := by decide +kernel
theorem d_Wa_put_83 : decode prog_8_method_5_code 83 = .ok (.getfield 9, 3) := by decide +kernel
theorem d_Wa_put_86 : decode prog_8_method_5_code 86 = .ok (.iload 5, 2) := by decide +kernel
theorem d_Wa_put_88 : decode prog_8_method_5_code 88 = .ok (.iaload, 1) := by decide +kernel
theorem d_Wa_put_89 : decode prog_8_method_5_code 89 = .ok (.laload, 1) := by decide +kernel
theorem d_Wa_put_90 : decode prog_8_method_5_code 90 = .ok (.aload_n 0, 1) := by decide +kernel
theorem d_Wa_put_91 : decode prog_8_method_5_code 91 = .ok (.getfield 18, 3) := by decide +kernel
theorem d_Wa_put_94 : decode prog_8_method_5_code 94 = .ok (.iload_n 1, 1) := by decide +kernel
theorem d_Wa_put_95 : decode prog_8_method_5_code 95 = .ok (.laload, 1) := by decide +kernel
theorem d_Wa_put_96 : decode prog_8_method_5_code 96 = .ok (.lcmp, 1) := by decide +kernel
theorem d_Wa_put_97 : decode prog_8_method_5_code 97 = .ok (.ifCond .ge 6, 3) := by decide +kernel
theorem d_Wa_put_100 : decode prog_8_method_5_code 100 = .ok (.goto 24, 3) := by decide +kernel
theorem d_Wa_put_103 : decode prog_8_method_5_code 103 = .ok (.aload_n 0, 1) := by decide +kernel
theorem d_Wa_put_104 : decode prog_8_method_5_code 104 = .ok (.aload_n 0, 1) := by decide +kernel
theorem d_Wa_put_105 : decode prog_8_method_5_code 105 = .ok (.getfield 9, 3) := by decide +kernel
theorem d_Wa_put_108 : decode prog_8_method_5_code 108 = .ok (.iload 5, 2) := by decide +kernel
theorem d_Wa_put_110 : decode prog_8_method_5_code 110 = .ok (.iaload, 1) := by decide +kernel
theorem d_Wa_put_111 : decode prog_8_method_5_code 111 = .ok (.iload_n 3, 1) := by decide +kernel
theorem d_Wa_put_112 : decode prog_8_method_5_code 112 = .ok (.invokevirtual 37, 3) := by decide +kernel
theorem d_Wa_put_115 : decode prog_8_method_5_code 115 = .ok (.iload 5, 2) := by decide +kernel
theorem d_Wa_put_117 : decode prog_8_method_5_code 117 = .ok (.istore_n 3, 1) := by decide +kernel
theorem d_Wa_put_118 : decode prog_8_method_5_code 118 = .ok (.iinc 4 1, 3) := by decide +kernel
theorem d_Wa_put_121 : decode prog_8_method_5_code 121 = .ok (.goto (-66), 3) := by decide +kernel
theorem d_Wa_put_124 : decode prog_8_method_5_code 124 = .ok (.aload_n 0, 1) := by decide +kernel
theorem d_Wa_put_125 : decode prog_8_method_5_code 125 = .ok (.iload_n 1, 1) := by decide +kernel
theorem d_Wa_put_126 : decode prog_8_method_5_code 126 = .ok (.iload_n 3, 1) := by decide +kernel
theorem d_Wa_put_127 : decode prog_8_method_5_code 127 = .ok (.invokevirtual 37, 3) := by decide +kernel
theorem d_Wa_put_130 : decode prog_8_method_5_code 130 = .ok (.return_, 1) := by decide +kernel
def rm_Wa_put : Room := { frames := 1, cells := 0, slots := 0, locals := 22 }
def f_Wa_put_L55 (b : Nat) (x1 : Int32) : (Int32 × Int32 × mS) → Option ((Int32 × Int32 × mS) ⊕ (Int32 × Int32 × mS)) := fun t55 =>
  if (t55.2.2.1 b 4) ≤ t55.2.1 then (
  some (.inr (t55.1, t55.2.1, t55.2.2))) else (
  if t55.1 ≤ 0 then (
  some (.inr (t55.1, t55.2.1, t55.2.2))) else (
  gd (isN (t55.2.2.1 b 0)) (
  nm ((t55.1 - 1) / (t55.2.2.1 b 0)) fun v4 =>
  gd (inb v4 10) (
  gd (inb (t55.2.2.1 ((b + 1)) v4.toNatClampNeg) 10) (
  gd (inb x1 10) (
  if 0 ≤ (lg_cmp (t55.2.2.2.1 ((b + 3)) (t55.2.2.1 ((b + 1)) v4.toNatClampNeg).toNatClampNeg) (t55.2.2.2.1 ((b + 3)) x1.toNatClampNeg)) then (
  gd (inb v4 10) (
  (f_Wa_seat b t55.2.2 (t55.2.2.1 ((b + 1)) v4.toNatClampNeg) t55.1).bind fun σ5 =>
  some (.inl (v4, t55.2.1 + 1, σ5)))) else (
  some (.inr (t55.1, t55.2.1, t55.2.2)))))))))
def f_Wa_put_J30 (b : Nat) (x1 : Int32) (x2 : Int32) (σ1 : mS) : Option (mS) :=
  gd (inb x1 10) ((nm (sJ σ1 ((b + 3)) x1.toNatClampNeg ((x2.toInt64 * 10) + x1.toInt64)) fun σ2 =>
  gd (inb x1 10) (
  nm (σ2.1 ((b + 2)) x1.toNatClampNeg) fun v3 =>
  (lpN (f_Wa_put_L55 b x1) fuS (v3, 0, σ2)).bind fun u55 =>
  (f_Wa_seat b u55.2.2 x1 u55.1).bind fun σ6 =>
  some σ6)))
def f_Wa_put (b : Nat) (σ : mS) (x1 : Int32) (x2 : Int32) : Option (mS) :=
  gd (inb x1 10) (
  if (σ.1 ((b + 2)) x1.toNatClampNeg) = ((-1)) then (
  gd (inb x1 10) ((nm (sI σ ((b + 2)) x1.toNatClampNeg (σ.1 b 4)) fun σ7 =>
  nm (sI σ7 b 4 ((σ7.1 b 4) + 1)) fun σ8 =>
  f_Wa_put_J30 b x1 x2 σ8))) else (
  f_Wa_put_J30 b x1 x2 σ))
set_option maxHeartbeats 4000000 in
set_option maxRecDepth 100000 in
theorem c_Wa_put (l : Launch) (D : va_G) (cA ad : Nat → Nat) {b : Nat} (hb : wB b) (σ : mS) (x1 : Int32) (x2 : Int32) (o : mS) (h : f_Wa_put b σ x1 x2 = some o) : mCv l ⟨"LeastPaths$Waiting", "put", "(II)V"⟩ (Cond.code ⟨"LeastPaths$Waiting", "put", "(II)V"⟩ prog_8_method_5_code 6 (Option.none : Option Jvm.ClassFile.FieldType) :: tlG) rm_Wa_put D clX (tyK cA) 99 (tbX cA) ad σ [.ref (ad b), .int x1, .int x2] o := by
  intro sz
  refine m_of (cc := prog_8_method_5_code) (maxL := 6) (Qc := mQv D clX (tyK cA) 99 (tbX cA) ad o) (by decide) (Nat.le_of_ble_eq_true rfl) (fun p e s m args below meth c ls S hr hlk hnm hl M => ?_) sz
  have hl : lv_has ls 6 [(0, .ref (ad b)), (1, .int x1), (2, .int x2)] := hl
  generalize hQ : MQ _ _ _ _ _ _ _ = Q
  skip
  unfold f_Wa_put at h
  refine lv_aload_n S.1 S.2.1 d_Wa_put_0 rfl (lv_at hl 0 rfl) ?_
  refine m_gs (t := (b + 2)) S M (j := 2) ok_Wa (lt_W0 hb) (tb_W0 hb) (by decide) rfl kw_18 rfl d_Wa_put_1 ?_
  refine lv_iload_n S.1 S.2.1 d_Wa_put_4 rfl (lv_at hl 1 rfl) ?_
  refine m_ial (t0 := 0) S M (lt_W2 hb) (tb_W2 hb) rfl h d_Wa_put_5 (fun h => ?_)
  refine lv_iconst (v := (-1)) S.1 S.2.1 d_Wa_put_6 (by decide) ?_
  have J30 : ∀ (σ1 : mS) (ls : Array Slot) (H : Heap) (locs : List Loc), f_Wa_put_J30 b x1 x2 σ1 = some o → lv_has ls 6 [(0, .ref (ad b)), (1, .int x1), (2, .int x2)] → mM D clX (tyK cA) (mA 99 ad s.heap.size) s 99 (tbX cA) ad σ1 H locs → W p l e rm_Wa_put s m args below meth c H locs 0 0 Q (F0 m 30 ls []) := by
    intro σ1 ls H locs h hl M
    unfold f_Wa_put_J30 at h
    refine lv_aload_n S.1 S.2.1 d_Wa_put_30 rfl (lv_at hl 0 rfl) ?_
    refine m_gs (t := (b + 3)) S M (j := 3) ok_Wa (lt_W0 hb) (tb_W0 hb) (by decide) rfl kw_20 rfl d_Wa_put_31 ?_
    refine lv_iload_n S.1 S.2.1 d_Wa_put_34 rfl (lv_at hl 1 rfl) ?_
    refine lv_iload_n S.1 S.2.1 d_Wa_put_35 rfl (lv_at hl 2 rfl) ?_
    refine lv_i2l S.1 S.2.1 d_Wa_put_36 rfl ?_
    refine lv_ldc2 (v := 10) S.1 S.2.1 S.2.2.2.1 (S.2.2.2.2 _ kw_21) d_Wa_put_37 ?_
    refine lv_lmul S.1 S.2.1 d_Wa_put_40 ?_
    refine lv_iload_n S.1 S.2.1 d_Wa_put_41 rfl (lv_at hl 1 rfl) ?_
    refine lv_i2l S.1 S.2.1 d_Wa_put_42 rfl ?_
    refine lv_ladd S.1 S.2.1 d_Wa_put_43 ?_
    refine m_las (t0 := 1) S M (lt_W3 hb) (tb_W3 hb) rfl h d_Wa_put_44 (fun σ2 H locs h M => ?_)
    refine lv_aload_n S.1 S.2.1 d_Wa_put_45 rfl (lv_at hl 0 rfl) ?_
    refine m_gs (t := (b + 2)) S M (j := 2) ok_Wa (lt_W0 hb) (tb_W0 hb) (by decide) rfl kw_18 rfl d_Wa_put_46 ?_
    refine lv_iload_n S.1 S.2.1 d_Wa_put_49 rfl (lv_at hl 1 rfl) ?_
    refine m_ial (t0 := 0) S M (lt_W2 hb) (tb_W2 hb) rfl h d_Wa_put_50 (fun h => ?_)
    refine m_ni h (fun v3 h => ?_)
    refine lv_istore_n (lv' := [(3, .int v3), (0, .ref (ad b)), (1, .int x1), (2, .int x2)]) S.1 S.2.1 d_Wa_put_51 rfl hl (by decide) rfl (fun ls hl => ?_)
    refine lv_iconst (v := 0) S.1 S.2.1 d_Wa_put_52 (by decide) ?_
    refine lv_istore (lv' := [(4, .int 0), (3, .int v3), (0, .ref (ad b)), (1, .int x1), (2, .int x2)]) S.1 S.2.1 d_Wa_put_53 hl (by decide) rfl (fun ls hl => ?_)
    obtain ⟨u55, q55, h⟩ := Option.bind_eq_some_iff.mp h
    refine lpN_W1 (st := f_Wa_put_L55 b x1) (fun (t55 : Int32 × Int32 × mS) => ∀ (ls : Array Slot) (H : Heap) (locs : List Loc), lv_has ls 6 [(4, .int t55.2.1), (3, .int t55.1), (0, .ref (ad b)), (1, .int x1), (2, .int x2)] → mM D clX (tyK cA) (mA 99 ad s.heap.size) s 99 (tbX cA) ad t55.2.2 H locs → W p l e rm_Wa_put s m args below meth c H locs 0 0 Q (F0 m 55 ls [])) (fun (u55 : Int32 × Int32 × mS) => ∀ (ls : Array Slot) (H : Heap) (locs : List Loc), lv_has ls 6 [(4, .int u55.2.1), (3, .int u55.1), (0, .ref (ad b)), (1, .int x1), (2, .int x2)] → mM D clX (tyK cA) (mA 99 ad s.heap.size) s 99 (tbX cA) ad u55.2.2 H locs → W p l e rm_Wa_put s m args below meth c H locs 0 0 Q (F0 m 124 ls [])) ?_ fuS ((v3, 0, σ2) : Int32 × Int32 × mS) u55 q55 ?_ ls _ _ (lv_sub hl [0, 1, 2, 3, 4] rfl) M
    · intro t55 oo55 h K1 K2 ls H locs hl M
      unfold f_Wa_put_L55 at h
      refine lv_iload S.1 S.2.1 d_Wa_put_55 (lv_at hl 0 rfl) ?_
      refine lv_aload_n S.1 S.2.1 d_Wa_put_57 rfl (lv_at hl 2 rfl) ?_
      refine m_gi S M (j := 4) ok_Wa (lt_W0 hb) (tb_W0 hb) (by decide) rfl kw_17 rfl d_Wa_put_58 ?_
      refine m_ige (tgt := 124) S d_Wa_put_61 (by decide) h (fun h => ?_) (fun h => ?_)
      · exact K2 _ (Option.some.inj h).symm ls _ _ (lv_sub hl [0, 1, 2, 3, 4] rfl) M
      · refine lv_iload_n S.1 S.2.1 d_Wa_put_64 rfl (lv_at hl 1 rfl) ?_
        refine m_ifle (tgt := 124) S d_Wa_put_65 (by decide) h (fun h => ?_) (fun h => ?_)
        · exact K2 _ (Option.some.inj h).symm ls _ _ (lv_sub hl [0, 1, 2, 3, 4] rfl) M
        · refine lv_iload_n S.1 S.2.1 d_Wa_put_68 rfl (lv_at hl 1 rfl) ?_
          refine lv_iconst (v := 1) S.1 S.2.1 d_Wa_put_69 (by decide) ?_
          refine lv_isub S.1 S.2.1 d_Wa_put_70 ?_
          refine lv_aload_n S.1 S.2.1 d_Wa_put_71 rfl (lv_at hl 2 rfl) ?_
          refine m_gi S M (j := 0) ok_Wa (lt_W0 hb) (tb_W0 hb) (by decide) rfl kw_22 rfl d_Wa_put_72 ?_
          refine m_idiv S d_Wa_put_75 h (fun h => ?_)
          refine m_ni h (fun v4 h => ?_)
          refine lv_istore (lv' := [(5, .int v4), (4, .int t55.2.1), (3, .int t55.1), (0, .ref (ad b)), (1, .int x1), (2, .int x2)]) S.1 S.2.1 d_Wa_put_76 hl (by decide) rfl (fun ls hl => ?_)
          refine lv_aload_n S.1 S.2.1 d_Wa_put_78 rfl (lv_at hl 3 rfl) ?_
          refine m_gs (t := (b + 3)) S M (j := 3) ok_Wa (lt_W0 hb) (tb_W0 hb) (by decide) rfl kw_20 rfl d_Wa_put_79 ?_
          refine lv_aload_n S.1 S.2.1 d_Wa_put_82 rfl (lv_at hl 3 rfl) ?_
          refine m_gs (t := (b + 1)) S M (j := 1) ok_Wa (lt_W0 hb) (tb_W0 hb) (by decide) rfl kw_19 rfl d_Wa_put_83 ?_
          refine lv_iload S.1 S.2.1 d_Wa_put_86 (lv_at hl 0 rfl) ?_
          refine m_ial (t0 := 0) S M (lt_W1 hb) (tb_W1 hb) rfl h d_Wa_put_88 (fun h => ?_)
          refine m_lal (t0 := 1) S M (lt_W3 hb) (tb_W3 hb) rfl h d_Wa_put_89 (fun h => ?_)
          refine lv_aload_n S.1 S.2.1 d_Wa_put_90 rfl (lv_at hl 3 rfl) ?_
          refine m_gs (t := (b + 3)) S M (j := 3) ok_Wa (lt_W0 hb) (tb_W0 hb) (by decide) rfl kw_20 rfl d_Wa_put_91 ?_
          refine lv_iload_n S.1 S.2.1 d_Wa_put_94 rfl (lv_at hl 4 rfl) ?_
          refine m_lal (t0 := 1) S M (lt_W3 hb) (tb_W3 hb) rfl h d_Wa_put_95 (fun h => ?_)
          refine W.lcmp S.1 S.2.1 d_Wa_put_96 ?_
          refine m_ifge (tgt := 103) S d_Wa_put_97 (by decide) h (fun h => ?_) (fun h => ?_)
          · refine lv_aload_n S.1 S.2.1 d_Wa_put_103 rfl (lv_at hl 3 rfl) ?_
            refine lv_aload_n S.1 S.2.1 d_Wa_put_104 rfl (lv_at hl 3 rfl) ?_
            refine m_gs (t := (b + 1)) S M (j := 1) ok_Wa (lt_W0 hb) (tb_W0 hb) (by decide) rfl kw_19 rfl d_Wa_put_105 ?_
            refine lv_iload S.1 S.2.1 d_Wa_put_108 (lv_at hl 0 rfl) ?_
            refine m_ial (t0 := 0) S M (lt_W1 hb) (tb_W1 hb) rfl h d_Wa_put_110 (fun h => ?_)
            refine lv_iload_n S.1 S.2.1 d_Wa_put_111 rfl (lv_at hl 2 rfl) ?_
            refine m_xv h (fun o ho => m_rV (As := [.int (t55.2.2.1 ((b + 1)) v4.toNatClampNeg), .int t55.1]) (rest := []) S M hl.1 (cwG (n := 2) S.2.2.2.2 kw_23 kw_24 kw_25 kw_26 kw_27 (by decide) ⟨Nat.le_of_ble_eq_true rfl, Nat.le_of_ble_eq_true rfl⟩) ok_Wa (lt_W0 hb) (tb_W0 hb) (c_Wa_seat l D cA ad hb t55.2.2 (t55.2.2.1 ((b + 1)) v4.toNatClampNeg) t55.1 o ho _) rfl rfl (Nat.le_of_ble_eq_true rfl) d_Wa_put_112 ⟨Nat.zero_le _, Nat.zero_le _⟩) M (fun σ5 H locs h M => ?_)
            refine lv_iload S.1 S.2.1 d_Wa_put_115 (lv_at hl 0 rfl) ?_
            refine lv_istore_n (lv' := [(3, .int v4), (5, .int v4), (4, .int t55.2.1), (0, .ref (ad b)), (1, .int x1), (2, .int x2)]) S.1 S.2.1 d_Wa_put_117 rfl hl (by decide) rfl (fun ls hl => ?_)
            refine lv_iinc (v := t55.2.1 + 1) (lv' := [(4, .int (t55.2.1 + 1)), (3, .int v4), (5, .int v4), (0, .ref (ad b)), (1, .int x1), (2, .int x2)]) S.1 S.2.1 d_Wa_put_118 hl (k := 2) rfl rfl (by decide) rfl (fun ls hl => ?_)
            refine lv_goto (tgt := 55) S.1 S.2.1 d_Wa_put_121 (by decide) ?_
            exact K1 _ (Option.some.inj h).symm ls _ _ (lv_sub hl [0, 1, 3, 4, 5] rfl) M
          · refine lv_goto (tgt := 124) S.1 S.2.1 d_Wa_put_100 (by decide) ?_
            exact K2 _ (Option.some.inj h).symm ls _ _ (lv_sub hl [1, 2, 3, 4, 5] rfl) M
    · intro ls H locs hl M
      refine lv_aload_n S.1 S.2.1 d_Wa_put_124 rfl (lv_at hl 2 rfl) ?_
      refine lv_iload_n S.1 S.2.1 d_Wa_put_125 rfl (lv_at hl 3 rfl) ?_
      refine lv_iload_n S.1 S.2.1 d_Wa_put_126 rfl (lv_at hl 1 rfl) ?_
      refine m_xv h (fun o ho => m_rV (As := [.int x1, .int u55.1]) (rest := []) S M hl.1 (cwG (n := 2) S.2.2.2.2 kw_23 kw_24 kw_25 kw_26 kw_27 (by decide) ⟨Nat.le_of_ble_eq_true rfl, Nat.le_of_ble_eq_true rfl⟩) ok_Wa (lt_W0 hb) (tb_W0 hb) (c_Wa_seat l D cA ad hb u55.2.2 x1 u55.1 o ho _) rfl rfl (Nat.le_of_ble_eq_true rfl) d_Wa_put_127 ⟨Nat.zero_le _, Nat.zero_le _⟩) M (fun σ6 H locs h M => ?_)
      subst hQ; exact m_vret S hr hlk M (Option.some.inj h) d_Wa_put_130
  refine m_ine (tgt := 30) S d_Wa_put_7 (by decide) h (fun h => ?_) (fun h => ?_)
  · exact J30 _ ls _ _ h (lv_sub hl [0, 1, 2] rfl) M
  · refine lv_aload_n S.1 S.2.1 d_Wa_put_10 rfl (lv_at hl 0 rfl) ?_
    refine m_gs (t := (b + 2)) S M (j := 2) ok_Wa (lt_W0 hb) (tb_W0 hb) (by decide) rfl kw_18 rfl d_Wa_put_11 ?_
    refine lv_iload_n S.1 S.2.1 d_Wa_put_14 rfl (lv_at hl 1 rfl) ?_
    refine lv_aload_n S.1 S.2.1 d_Wa_put_15 rfl (lv_at hl 0 rfl) ?_
    refine m_gi S M (j := 4) ok_Wa (lt_W0 hb) (tb_W0 hb) (by decide) rfl kw_17 rfl d_Wa_put_16 ?_
    refine m_ias (t0 := 0) S M (lt_W2 hb) (tb_W2 hb) rfl h d_Wa_put_19 (fun σ7 H locs h M => ?_)
    refine lv_aload_n S.1 S.2.1 d_Wa_put_20 rfl (lv_at hl 0 rfl) ?_
    refine lv_dup S.1 S.2.1 d_Wa_put_21 rfl ?_
    refine m_gi S M (j := 4) ok_Wa (lt_W0 hb) (tb_W0 hb) (by decide) rfl kw_17 rfl d_Wa_put_22 ?_
    refine lv_iconst (v := 1) S.1 S.2.1 d_Wa_put_25 (by decide) ?_
    refine lv_iadd S.1 S.2.1 d_Wa_put_26 ?_
    refine m_pi S M (j := 4) ok_Wa (lt_W0 hb) (tb_W0 hb) (by decide) rfl kw_17 rfl rfl rfl d_Wa_put_27 h (fun σ8 H locs h M => ?_)
    exact J30 _ ls _ _ h (lv_sub hl [0, 1, 2] rfl) M
theorem d_Wa_firstChild_0 : decode prog_8_method_8_code 0 = .ok (.iconst (-1), 1) := by decide +kernel
theorem d_Wa_firstChild_1 : decode prog_8_method_8_code 1 = .ok (.istore_n 2, 1) := by decide +kernel
theorem d_Wa_firstChild_2 : decode prog_8_method_8_code 2 = .ok (.iload_n 1, 1) := by decide +kernel
theorem d_Wa_firstChild_3 : decode prog_8_method_8_code 3 = .ok (.iconst 1, 1) := by decide +kernel
theorem d_Wa_firstChild_4 : decode prog_8_method_8_code 4 = .ok (.iadd, 1) := by decide +kernel
theorem d_Wa_firstChild_5 : decode prog_8_method_8_code 5 = .ok (.aload_n 0, 1) := by decide +kernel
theorem d_Wa_firstChild_6 : decode prog_8_method_8_code 6 = .ok (.getfield 28, 3) := by decide +kernel
theorem d_Wa_firstChild_9 : decode prog_8_method_8_code 9 = .ok (.imul, 1) := by decide +kernel
theorem d_Wa_firstChild_10 : decode prog_8_method_8_code 10 = .ok (.iconst 1, 1) := by decide +kernel
theorem d_Wa_firstChild_11 : decode prog_8_method_8_code 11 = .ok (.iadd, 1) := by decide +kernel
theorem d_Wa_firstChild_12 : decode prog_8_method_8_code 12 = .ok (.istore_n 3, 1) := by decide +kernel
theorem d_Wa_firstChild_13 : decode prog_8_method_8_code 13 = .ok (.iload_n 1, 1) := by decide +kernel
theorem d_Wa_firstChild_14 : decode prog_8_method_8_code 14 = .ok (.aload_n 0, 1) := by decide +kernel
theorem d_Wa_firstChild_15 : decode prog_8_method_8_code 15 = .ok (.getfield 28, 3) := by decide +kernel
theorem d_Wa_firstChild_18 : decode prog_8_method_8_code 18 = .ok (.imul, 1) := by decide +kernel
theorem d_Wa_firstChild_19 : decode prog_8_method_8_code 19 = .ok (.iconst 1, 1) := by decide +kernel
theorem d_Wa_firstChild_20 : decode prog_8_method_8_code 20 = .ok (.iadd, 1) := by decide +kernel
theorem d_Wa_firstChild_21 : decode prog_8_method_8_code 21 = .ok (.istore 4, 2) := by decide +kernel
theorem d_Wa_firstChild_23 : decode prog_8_method_8_code 23 = .ok (.iload 4, 2) := by decide +kernel
theorem d_Wa_firstChild_25 : decode prog_8_method_8_code 25 = .ok (.iload_n 3, 1) := by decide +kernel
theorem d_Wa_firstChild_26 : decode prog_8_method_8_code 26 = .ok (.if_icmp .ge 53, 3) := by decide +kernel
theorem d_Wa_firstChild_29 : decode prog_8_method_8_code 29 = .ok (.iload 4, 2) := by decide +kernel
theorem d_Wa_firstChild_31 : decode prog_8_method_8_code 31 = .ok (.aload_n 0, 1) := by decide +kernel
theorem d_Wa_firstChild_32 : decode prog_8_method_8_code 32 = .ok (.getfield 32, 3) := by decide +kernel
theorem d_Wa_firstChild_35 : decode prog_8_method_8_code 35 = .ok (.if_icmp .ge 44, 3) := by decide +kernel
theorem d_Wa_firstChild_38 : decode prog_8_method_8_code 38 = .ok (.iload_n 2, 1) := by decide +kernel
theorem d_Wa_firstChild_39 : decode prog_8_method_8_code 39 = .ok (.iconst (-1), 1) := by decide +kernel
theorem d_Wa_firstChild_40 : decode prog_8_method_8_code 40 = .ok (.if_icmp .eq 30, 3) := by decide +kernel
theorem d_Wa_firstChild_43 : decode prog_8_method_8_code 43 = .ok (.aload_n 0, 1) := by decide +kernel
theorem d_Wa_firstChild_44 : decode prog_8_method_8_code 44 = .ok (.getfield 18, 3) := by decide +kernel
theorem d_Wa_firstChild_47 : decode prog_8_method_8_code 47 = .ok (.aload_n 0, 1) := by decide +kernel
theorem d_Wa_firstChild_48 : decode prog_8_method_8_code 48 = .ok (.getfield 9, 3) := by decide +kernel
theorem d_Wa_firstChild_51 : decode prog_8_method_8_code 51 = .ok (.iload 4, 2) := by decide +kernel
theorem d_Wa_firstChild_53 : decode prog_8_method_8_code 53 = .ok (.iaload, 1) := by decide +kernel
theorem d_Wa_firstChild_54 : decode prog_8_method_8_code 54 = .ok (.laload, 1) := by decide +kernel
theorem d_Wa_firstChild_55 : decode prog_8_method_8_code 55 = .ok (.aload_n 0, 1) := by decide +kernel
theorem d_Wa_firstChild_56 : decode prog_8_method_8_code 56 = .ok (.getfield 18, 3) := by decide +kernel
theorem d_Wa_firstChild_59 : decode prog_8_method_8_code 59 = .ok (.aload_n 0, 1) := by decide +kernel
theorem d_Wa_firstChild_60 : decode prog_8_method_8_code 60 = .ok (.getfield 9, 3) := by decide +kernel
theorem d_Wa_firstChild_63 : decode prog_8_method_8_code 63 = .ok (.iload_n 2, 1) := by decide +kernel
theorem d_Wa_firstChild_64 : decode prog_8_method_8_code 64 = .ok (.iaload, 1) := by decide +kernel
theorem d_Wa_firstChild_65 : decode prog_8_method_8_code 65 = .ok (.laload, 1) := by decide +kernel
theorem d_Wa_firstChild_66 : decode prog_8_method_8_code 66 = .ok (.lcmp, 1) := by decide +kernel
theorem d_Wa_firstChild_67 : decode prog_8_method_8_code 67 = .ok (.ifCond .ge 6, 3) := by decide +kernel
theorem d_Wa_firstChild_70 : decode prog_8_method_8_code 70 = .ok (.iload 4, 2) := by decide +kernel
theorem d_Wa_firstChild_72 : decode prog_8_method_8_code 72 = .ok (.istore_n 2, 1) := by decide +kernel
theorem d_Wa_firstChild_73 : decode prog_8_method_8_code 73 = .ok (.iinc 4 1, 3) := by decide +kernel
theorem d_Wa_firstChild_76 : decode prog_8_method_8_code 76 = .ok (.goto (-53), 3) := by decide +kernel
theorem d_Wa_firstChild_79 : decode prog_8_method_8_code 79 = .ok (.iload_n 2, 1) := by decide +kernel
theorem d_Wa_firstChild_80 : decode prog_8_method_8_code 80 = .ok (.ireturn, 1) := by decide +kernel
def rm_Wa_firstChild : Room := { frames := 0, cells := 0, slots := 0, locals := 0 }
def f_Wa_firstChild_L23 (σ : mS) (b : Nat) (v1 : Int32) : (Int32 × Int32) → Option ((Int32 × Int32) ⊕ (Int32 × Int32)) := fun t23 =>
  if v1 ≤ t23.2 then (
  some (.inr (t23.1, t23.2))) else (
  if (σ.1 b 4) ≤ t23.2 then (
  some (.inr (t23.1, t23.2))) else (
  if t23.1 = ((-1)) then (
  some (.inl (t23.2, t23.2 + 1))) else (
  gd (inb t23.2 10) (
  gd (inb (σ.1 ((b + 1)) t23.2.toNatClampNeg) 10) (
  gd (inb t23.1 10) (
  gd (inb (σ.1 ((b + 1)) t23.1.toNatClampNeg) 10) (
  if 0 ≤ (lg_cmp (σ.2.1 ((b + 3)) (σ.1 ((b + 1)) t23.2.toNatClampNeg).toNatClampNeg) (σ.2.1 ((b + 3)) (σ.1 ((b + 1)) t23.1.toNatClampNeg).toNatClampNeg)) then (
  some (.inl (t23.1, t23.2 + 1))) else (
  some (.inl (t23.2, t23.2 + 1))))))))))
def f_Wa_firstChild (b : Nat) (σ : mS) (x1 : Int32) : Option (Int32) :=
  nm (((x1 + 1) * (σ.1 b 0)) + 1) fun v1 =>
  nm ((x1 * (σ.1 b 0)) + 1) fun v2 =>
  (lpN (f_Wa_firstChild_L23 σ b v1) fuS ((-1), v2)).bind fun u23 =>
  some u23.1
set_option maxHeartbeats 4000000 in
set_option maxRecDepth 100000 in
theorem c_Wa_firstChild (l : Launch) (D : va_G) (cA ad : Nat → Nat) {b : Nat} (hb : wB b) (σ : mS) (x1 : Int32) (o : Int32) (h : f_Wa_firstChild b σ x1 = some o) : mCi l ⟨"LeastPaths$Waiting", "firstChild", "(I)I"⟩ (Cond.code ⟨"LeastPaths$Waiting", "firstChild", "(I)I"⟩ prog_8_method_8_code 5 (Option.some Jvm.ClassFile.FieldType.int) :: tlG) rm_Wa_firstChild D clX (tyK cA) 99 (tbX cA) ad σ [.ref (ad b), .int x1] (o, σ) := by
  intro sz
  refine m_of (cc := prog_8_method_8_code) (maxL := 5) (Qc := mQi D clX (tyK cA) 99 (tbX cA) ad (o, σ)) (by decide) (Nat.le_of_ble_eq_true rfl) (fun p e s m args below meth c ls S hr hlk hnm hl M => ?_) sz
  have hl : lv_has ls 5 [(0, .ref (ad b)), (1, .int x1)] := hl
  generalize hQ : MQ _ _ _ _ _ _ _ = Q
  skip
  unfold f_Wa_firstChild at h
  refine lv_iconst (v := (-1)) S.1 S.2.1 d_Wa_firstChild_0 (by decide) ?_
  refine lv_istore_n (lv' := [(2, .int ((-1))), (0, .ref (ad b)), (1, .int x1)]) S.1 S.2.1 d_Wa_firstChild_1 rfl hl (by decide) rfl (fun ls hl => ?_)
  refine lv_iload_n S.1 S.2.1 d_Wa_firstChild_2 rfl (lv_at hl 2 rfl) ?_
  refine lv_iconst (v := 1) S.1 S.2.1 d_Wa_firstChild_3 (by decide) ?_
  refine lv_iadd S.1 S.2.1 d_Wa_firstChild_4 ?_
  refine lv_aload_n S.1 S.2.1 d_Wa_firstChild_5 rfl (lv_at hl 1 rfl) ?_
  refine m_gi S M (j := 0) ok_Wa (lt_W0 hb) (tb_W0 hb) (by decide) rfl kw_22 rfl d_Wa_firstChild_6 ?_
  refine lv_imul S.1 S.2.1 d_Wa_firstChild_9 ?_
  refine lv_iconst (v := 1) S.1 S.2.1 d_Wa_firstChild_10 (by decide) ?_
  refine lv_iadd S.1 S.2.1 d_Wa_firstChild_11 ?_
  refine m_ni h (fun v1 h => ?_)
  refine lv_istore_n (lv' := [(3, .int v1), (2, .int ((-1))), (0, .ref (ad b)), (1, .int x1)]) S.1 S.2.1 d_Wa_firstChild_12 rfl hl (by decide) rfl (fun ls hl => ?_)
  refine lv_iload_n S.1 S.2.1 d_Wa_firstChild_13 rfl (lv_at hl 3 rfl) ?_
  refine lv_aload_n S.1 S.2.1 d_Wa_firstChild_14 rfl (lv_at hl 2 rfl) ?_
  refine m_gi S M (j := 0) ok_Wa (lt_W0 hb) (tb_W0 hb) (by decide) rfl kw_22 rfl d_Wa_firstChild_15 ?_
  refine lv_imul S.1 S.2.1 d_Wa_firstChild_18 ?_
  refine lv_iconst (v := 1) S.1 S.2.1 d_Wa_firstChild_19 (by decide) ?_
  refine lv_iadd S.1 S.2.1 d_Wa_firstChild_20 ?_
  refine m_ni h (fun v2 h => ?_)
  refine lv_istore (lv' := [(4, .int v2), (3, .int v1), (2, .int ((-1))), (0, .ref (ad b)), (1, .int x1)]) S.1 S.2.1 d_Wa_firstChild_21 hl (by decide) rfl (fun ls hl => ?_)
  obtain ⟨u23, q23, h⟩ := Option.bind_eq_some_iff.mp h
  refine lpN_W1 (st := f_Wa_firstChild_L23 σ b v1) (fun (t23 : Int32 × Int32) => ∀ (ls : Array Slot) (H : Heap) (locs : List Loc), lv_has ls 5 [(4, .int t23.2), (3, .int v1), (2, .int t23.1), (0, .ref (ad b)), (1, .int x1)] → mM D clX (tyK cA) (mA 99 ad s.heap.size) s 99 (tbX cA) ad σ H locs → W p l e rm_Wa_firstChild s m args below meth c H locs 0 0 Q (F0 m 23 ls [])) (fun (u23 : Int32 × Int32) => ∀ (ls : Array Slot) (H : Heap) (locs : List Loc), lv_has ls 5 [(4, .int u23.2), (3, .int v1), (2, .int u23.1), (0, .ref (ad b)), (1, .int x1)] → mM D clX (tyK cA) (mA 99 ad s.heap.size) s 99 (tbX cA) ad σ H locs → W p l e rm_Wa_firstChild s m args below meth c H locs 0 0 Q (F0 m 79 ls [])) ?_ fuS (((-1), v2) : Int32 × Int32) u23 q23 ?_ ls _ _ (lv_sub hl [0, 1, 2, 3, 4] rfl) M
  · intro t23 oo23 h K1 K2 ls H locs hl M
    unfold f_Wa_firstChild_L23 at h
    refine lv_iload S.1 S.2.1 d_Wa_firstChild_23 (lv_at hl 0 rfl) ?_
    refine lv_iload_n S.1 S.2.1 d_Wa_firstChild_25 rfl (lv_at hl 1 rfl) ?_
    refine m_ige (tgt := 79) S d_Wa_firstChild_26 (by decide) h (fun h => ?_) (fun h => ?_)
    · exact K2 _ (Option.some.inj h).symm ls _ _ (lv_sub hl [0, 1, 2, 3, 4] rfl) M
    · refine lv_iload S.1 S.2.1 d_Wa_firstChild_29 (lv_at hl 0 rfl) ?_
      refine lv_aload_n S.1 S.2.1 d_Wa_firstChild_31 rfl (lv_at hl 3 rfl) ?_
      refine m_gi S M (j := 4) ok_Wa (lt_W0 hb) (tb_W0 hb) (by decide) rfl kw_17 rfl d_Wa_firstChild_32 ?_
      refine m_ige (tgt := 79) S d_Wa_firstChild_35 (by decide) h (fun h => ?_) (fun h => ?_)
      · exact K2 _ (Option.some.inj h).symm ls _ _ (lv_sub hl [0, 1, 2, 3, 4] rfl) M
      · refine lv_iload_n S.1 S.2.1 d_Wa_firstChild_38 rfl (lv_at hl 2 rfl) ?_
        refine lv_iconst (v := (-1)) S.1 S.2.1 d_Wa_firstChild_39 (by decide) ?_
        refine m_ieq (tgt := 70) S d_Wa_firstChild_40 (by decide) h (fun h => ?_) (fun h => ?_)
        · refine lv_iload S.1 S.2.1 d_Wa_firstChild_70 (lv_at hl 0 rfl) ?_
          refine lv_istore_n (lv' := [(2, .int t23.2), (4, .int t23.2), (3, .int v1), (0, .ref (ad b)), (1, .int x1)]) S.1 S.2.1 d_Wa_firstChild_72 rfl hl (by decide) rfl (fun ls hl => ?_)
          refine lv_iinc (v := t23.2 + 1) (lv' := [(4, .int (t23.2 + 1)), (2, .int t23.2), (3, .int v1), (0, .ref (ad b)), (1, .int x1)]) S.1 S.2.1 d_Wa_firstChild_73 hl (k := 1) rfl rfl (by decide) rfl (fun ls hl => ?_)
          refine lv_goto (tgt := 23) S.1 S.2.1 d_Wa_firstChild_76 (by decide) ?_
          exact K1 _ (Option.some.inj h).symm ls _ _ (lv_sub hl [0, 2, 1, 3, 4] rfl) M
        · refine lv_aload_n S.1 S.2.1 d_Wa_firstChild_43 rfl (lv_at hl 3 rfl) ?_
          refine m_gs (t := (b + 3)) S M (j := 3) ok_Wa (lt_W0 hb) (tb_W0 hb) (by decide) rfl kw_20 rfl d_Wa_firstChild_44 ?_
          refine lv_aload_n S.1 S.2.1 d_Wa_firstChild_47 rfl (lv_at hl 3 rfl) ?_
          refine m_gs (t := (b + 1)) S M (j := 1) ok_Wa (lt_W0 hb) (tb_W0 hb) (by decide) rfl kw_19 rfl d_Wa_firstChild_48 ?_
          refine lv_iload S.1 S.2.1 d_Wa_firstChild_51 (lv_at hl 0 rfl) ?_
          refine m_ial (t0 := 0) S M (lt_W1 hb) (tb_W1 hb) rfl h d_Wa_firstChild_53 (fun h => ?_)
          refine m_lal (t0 := 1) S M (lt_W3 hb) (tb_W3 hb) rfl h d_Wa_firstChild_54 (fun h => ?_)
          refine lv_aload_n S.1 S.2.1 d_Wa_firstChild_55 rfl (lv_at hl 3 rfl) ?_
          refine m_gs (t := (b + 3)) S M (j := 3) ok_Wa (lt_W0 hb) (tb_W0 hb) (by decide) rfl kw_20 rfl d_Wa_firstChild_56 ?_
          refine lv_aload_n S.1 S.2.1 d_Wa_firstChild_59 rfl (lv_at hl 3 rfl) ?_
          refine m_gs (t := (b + 1)) S M (j := 1) ok_Wa (lt_W0 hb) (tb_W0 hb) (by decide) rfl kw_19 rfl d_Wa_firstChild_60 ?_
          refine lv_iload_n S.1 S.2.1 d_Wa_firstChild_63 rfl (lv_at hl 2 rfl) ?_
          refine m_ial (t0 := 0) S M (lt_W1 hb) (tb_W1 hb) rfl h d_Wa_firstChild_64 (fun h => ?_)
          refine m_lal (t0 := 1) S M (lt_W3 hb) (tb_W3 hb) rfl h d_Wa_firstChild_65 (fun h => ?_)
          refine W.lcmp S.1 S.2.1 d_Wa_firstChild_66 ?_
          refine m_ifge (tgt := 73) S d_Wa_firstChild_67 (by decide) h (fun h => ?_) (fun h => ?_)
          · refine lv_iinc (v := t23.2 + 1) (lv' := [(4, .int (t23.2 + 1)), (3, .int v1), (2, .int t23.1), (0, .ref (ad b)), (1, .int x1)]) S.1 S.2.1 d_Wa_firstChild_73 hl (k := 0) rfl rfl (by decide) rfl (fun ls hl => ?_)
            refine lv_goto (tgt := 23) S.1 S.2.1 d_Wa_firstChild_76 (by decide) ?_
            exact K1 _ (Option.some.inj h).symm ls _ _ (lv_sub hl [0, 1, 2, 3, 4] rfl) M
          · refine lv_iload S.1 S.2.1 d_Wa_firstChild_70 (lv_at hl 0 rfl) ?_
            refine lv_istore_n (lv' := [(2, .int t23.2), (4, .int t23.2), (3, .int v1), (0, .ref (ad b)), (1, .int x1)]) S.1 S.2.1 d_Wa_firstChild_72 rfl hl (by decide) rfl (fun ls hl => ?_)
            refine lv_iinc (v := t23.2 + 1) (lv' := [(4, .int (t23.2 + 1)), (2, .int t23.2), (3, .int v1), (0, .ref (ad b)), (1, .int x1)]) S.1 S.2.1 d_Wa_firstChild_73 hl (k := 1) rfl rfl (by decide) rfl (fun ls hl => ?_)
            refine lv_goto (tgt := 23) S.1 S.2.1 d_Wa_firstChild_76 (by decide) ?_
            exact K1 _ (Option.some.inj h).symm ls _ _ (lv_sub hl [0, 2, 1, 3, 4] rfl) M
  · intro ls H locs hl M
    refine lv_iload_n S.1 S.2.1 d_Wa_firstChild_79 rfl (lv_at hl 2 rfl) ?_
    subst hQ; exact m_iret S hr hlk M (by rw [Option.some.inj h]) d_Wa_firstChild_80
theorem d_Wa_takeFirst_0 : decode prog_8_method_6_code 0 = .ok (.aload_n 0, 1) := by decide +kernel
theorem d_Wa_takeFirst_1 : decode prog_8_method_6_code 1 = .ok (.getfield 32, 3) := by decide +kernel
theorem d_Wa_takeFirst_4 : decode prog_8_method_6_code 4 = .ok (.ifCond .ne 5, 3) := by decide +kernel
theorem d_Wa_takeFirst_7 : decode prog_8_method_6_code 7 = .ok (.iconst (-1), 1) := by decide +kernel
theorem d_Wa_takeFirst_8 : decode prog_8_method_6_code 8 = .ok (.ireturn, 1) := by decide +kernel
theorem d_Wa_takeFirst_9 : decode prog_8_method_6_code 9 = .ok (.aload_n 0, 1) := by decide +kernel
theorem d_Wa_takeFirst_10 : decode prog_8_method_6_code 10 = .ok (.getfield 9, 3) := by decide +kernel
theorem d_Wa_takeFirst_13 : decode prog_8_method_6_code 13 = .ok (.iconst 0, 1) := by decide +kernel
theorem d_Wa_takeFirst_14 : decode prog_8_method_6_code 14 = .ok (.iaload, 1) := by decide +kernel
theorem d_Wa_takeFirst_15 : decode prog_8_method_6_code 15 = .ok (.istore_n 1, 1) := by decide +kernel
theorem d_Wa_takeFirst_16 : decode prog_8_method_6_code 16 = .ok (.aload_n 0, 1) := by decide +kernel
theorem d_Wa_takeFirst_17 : decode prog_8_method_6_code 17 = .ok (.dup, 1) := by decide +kernel
theorem d_Wa_takeFirst_18 : decode prog_8_method_6_code 18 = .ok (.getfield 32, 3) := by decide +kernel
theorem d_Wa_takeFirst_21 : decode prog_8_method_6_code 21 = .ok (.iconst 1, 1) := by decide +kernel
theorem d_Wa_takeFirst_22 : decode prog_8_method_6_code 22 = .ok (.isub, 1) := by decide +kernel
theorem d_Wa_takeFirst_23 : decode prog_8_method_6_code 23 = .ok (.putfield 32, 3) := by decide +kernel
theorem d_Wa_takeFirst_26 : decode prog_8_method_6_code 26 = .ok (.aload_n 0, 1) := by decide +kernel
theorem d_Wa_takeFirst_27 : decode prog_8_method_6_code 27 = .ok (.getfield 9, 3) := by decide +kernel
theorem d_Wa_takeFirst_30 : decode prog_8_method_6_code 30 = .ok (.aload_n 0, 1) := by decide +kernel
theorem d_Wa_takeFirst_31 : decode prog_8_method_6_code 31 = .ok (.getfield 32, 3) := by decide +kernel
theorem d_Wa_takeFirst_34 : decode prog_8_method_6_code 34 = .ok (.iaload, 1) := by decide +kernel
theorem d_Wa_takeFirst_35 : decode prog_8_method_6_code 35 = .ok (.istore_n 2, 1) := by decide +kernel
theorem d_Wa_takeFirst_36 : decode prog_8_method_6_code 36 = .ok (.iconst 0, 1) := by decide +kernel
theorem d_Wa_takeFirst_37 : decode prog_8_method_6_code 37 = .ok (.istore_n 3, 1) := by decide +kernel
theorem d_Wa_takeFirst_38 : decode prog_8_method_6_code 38 = .ok (.iconst 0, 1) := by decide +kernel
theorem d_Wa_takeFirst_39 : decode prog_8_method_6_code 39 = .ok (.istore 4, 2) := by decide +kernel
theorem d_Wa_takeFirst_41 : decode prog_8_method_6_code 41 = .ok (.iload 4, 2) := by decide +kernel
theorem d_Wa_takeFirst_43 : decode prog_8_method_6_code 43 = .ok (.aload_n 0, 1) := by decide +kernel
theorem d_Wa_takeFirst_44 : decode prog_8_method_6_code 44 = .ok (.getfield 32, 3) := by decide +kernel
theorem d_Wa_takeFirst_47 : decode prog_8_method_6_code 47 = .ok (.if_icmp .ge 62, 3) := by decide +kernel
theorem d_Wa_takeFirst_50 : decode prog_8_method_6_code 50 = .ok (.aload_n 0, 1) := by decide +kernel
theorem d_Wa_takeFirst_51 : decode prog_8_method_6_code 51 = .ok (.iload_n 3, 1) := by decide +kernel
theorem d_Wa_takeFirst_52 : decode prog_8_method_6_code 52 = .ok (.invokevirtual 41, 3) := by decide +kernel
theorem d_Wa_takeFirst_55 : decode prog_8_method_6_code 55 = .ok (.istore 5, 2) := by decide +kernel
theorem d_Wa_takeFirst_57 : decode prog_8_method_6_code 57 = .ok (.iload 5, 2) := by decide +kernel
theorem d_Wa_takeFirst_59 : decode prog_8_method_6_code 59 = .ok (.iconst (-1), 1) := by decide +kernel
theorem d_Wa_takeFirst_60 : decode prog_8_method_6_code 60 = .ok (.if_icmp .eq 49, 3) := by decide +kernel
theorem d_Wa_takeFirst_63 : decode prog_8_method_6_code 63 = .ok (.aload_n 0, 1) := by decide +kernel
theorem d_Wa_takeFirst_64 : decode prog_8_method_6_code 64 = .ok (.getfield 18, 3) := by decide +kernel
theorem d_Wa_takeFirst_67 : decode prog_8_method_6_code 67 = .ok (.aload_n 0, 1) := by decide +kernel
theorem d_Wa_takeFirst_68 : decode prog_8_method_6_code 68 = .ok (.getfield 9, 3) := by decide +kernel
theorem d_Wa_takeFirst_71 : decode prog_8_method_6_code 71 = .ok (.iload 5, 2) := by decide +kernel
theorem d_Wa_takeFirst_73 : decode prog_8_method_6_code 73 = .ok (.iaload, 1) := by decide +kernel
theorem d_Wa_takeFirst_74 : decode prog_8_method_6_code 74 = .ok (.laload, 1) := by decide +kernel
theorem d_Wa_takeFirst_75 : decode prog_8_method_6_code 75 = .ok (.aload_n 0, 1) := by decide +kernel
theorem d_Wa_takeFirst_76 : decode prog_8_method_6_code 76 = .ok (.getfield 18, 3) := by decide +kernel
theorem d_Wa_takeFirst_79 : decode prog_8_method_6_code 79 = .ok (.iload_n 2, 1) := by decide +kernel
theorem d_Wa_takeFirst_80 : decode prog_8_method_6_code 80 = .ok (.laload, 1) := by decide +kernel
theorem d_Wa_takeFirst_81 : decode prog_8_method_6_code 81 = .ok (.lcmp, 1) := by decide +kernel
theorem d_Wa_takeFirst_82 : decode prog_8_method_6_code 82 = .ok (.ifCond .le 6, 3) := by decide +kernel
theorem d_Wa_takeFirst_85 : decode prog_8_method_6_code 85 = .ok (.goto 24, 3) := by decide +kernel
theorem d_Wa_takeFirst_88 : decode prog_8_method_6_code 88 = .ok (.aload_n 0, 1) := by decide +kernel
theorem d_Wa_takeFirst_89 : decode prog_8_method_6_code 89 = .ok (.aload_n 0, 1) := by decide +kernel
theorem d_Wa_takeFirst_90 : decode prog_8_method_6_code 90 = .ok (.getfield 9, 3) := by decide +kernel
theorem d_Wa_takeFirst_93 : decode prog_8_method_6_code 93 = .ok (.iload 5, 2) := by decide +kernel
theorem d_Wa_takeFirst_95 : decode prog_8_method_6_code 95 = .ok (.iaload, 1) := by decide +kernel
theorem d_Wa_takeFirst_96 : decode prog_8_method_6_code 96 = .ok (.iload_n 3, 1) := by decide +kernel
theorem d_Wa_takeFirst_97 : decode prog_8_method_6_code 97 = .ok (.invokevirtual 37, 3) := by decide +kernel
theorem d_Wa_takeFirst_100 : decode prog_8_method_6_code 100 = .ok (.iload 5, 2) := by decide +kernel
theorem d_Wa_takeFirst_102 : decode prog_8_method_6_code 102 = .ok (.istore_n 3, 1) := by decide +kernel
theorem d_Wa_takeFirst_103 : decode prog_8_method_6_code 103 = .ok (.iinc 4 1, 3) := by decide +kernel
theorem d_Wa_takeFirst_106 : decode prog_8_method_6_code 106 = .ok (.goto (-65), 3) := by decide +kernel
theorem d_Wa_takeFirst_109 : decode prog_8_method_6_code 109 = .ok (.aload_n 0, 1) := by decide +kernel
theorem d_Wa_takeFirst_110 : decode prog_8_method_6_code 110 = .ok (.iload_n 2, 1) := by decide +kernel
theorem d_Wa_takeFirst_111 : decode prog_8_method_6_code 111 = .ok (.iload_n 3, 1) := by decide +kernel
theorem d_Wa_takeFirst_112 : decode prog_8_method_6_code 112 = .ok (.invokevirtual 37, 3) := by decide +kernel
theorem d_Wa_takeFirst_115 : decode prog_8_method_6_code 115 = .ok (.aload_n 0, 1) := by decide +kernel
theorem d_Wa_takeFirst_116 : decode prog_8_method_6_code 116 = .ok (.getfield 15, 3) := by decide +kernel
theorem d_Wa_takeFirst_119 : decode prog_8_method_6_code 119 = .ok (.iload_n 1, 1) := by decide +kernel
theorem d_Wa_takeFirst_120 : decode prog_8_method_6_code 120 = .ok (.iconst (-1), 1) := by decide +kernel
theorem d_Wa_takeFirst_121 : decode prog_8_method_6_code 121 = .ok (.iastore, 1) := by decide +kernel
theorem d_Wa_takeFirst_122 : decode prog_8_method_6_code 122 = .ok (.iload_n 1, 1) := by decide +kernel
theorem d_Wa_takeFirst_123 : decode prog_8_method_6_code 123 = .ok (.ireturn, 1) := by decide +kernel
def rm_Wa_takeFirst : Room := { frames := 1, cells := 0, slots := 0, locals := 24 }
def f_Wa_takeFirst_L41 (b : Nat) (v3 : Int32) : (Int32 × Int32 × mS) → Option ((Int32 × Int32 × mS) ⊕ (Int32 × Int32 × mS)) := fun t41 =>
  if (t41.2.2.1 b 4) ≤ t41.2.1 then (
  some (.inr (t41.1, t41.2.1, t41.2.2))) else (
  (f_Wa_firstChild b t41.2.2 t41.1).bind fun v4 =>
  if v4 = ((-1)) then (
  some (.inr (t41.1, t41.2.1, t41.2.2))) else (
  gd (inb v4 10) (
  gd (inb (t41.2.2.1 ((b + 1)) v4.toNatClampNeg) 10) (
  gd (inb v3 10) (
  if (lg_cmp (t41.2.2.2.1 ((b + 3)) (t41.2.2.1 ((b + 1)) v4.toNatClampNeg).toNatClampNeg) (t41.2.2.2.1 ((b + 3)) v3.toNatClampNeg)) ≤ 0 then (
  gd (inb v4 10) (
  (f_Wa_seat b t41.2.2 (t41.2.2.1 ((b + 1)) v4.toNatClampNeg) t41.1).bind fun σ5 =>
  some (.inl (v4, t41.2.1 + 1, σ5)))) else (
  some (.inr (t41.1, t41.2.1, t41.2.2))))))))
def f_Wa_takeFirst (b : Nat) (σ : mS) : Option (Int32 × mS) :=
  if (σ.1 b 4) = 0 then (
  some ((-1), σ)) else (
  gd (inb 0 10) (
  nm (σ.1 ((b + 1)) (0 : Int32).toNatClampNeg) fun v1 =>
  nm (sI σ b 4 ((σ.1 b 4) - 1)) fun σ2 =>
  gd (inb (σ2.1 b 4) 10) (
  nm (σ2.1 ((b + 1)) (σ2.1 b 4).toNatClampNeg) fun v3 =>
  (lpN (f_Wa_takeFirst_L41 b v3) fuS (0, 0, σ2)).bind fun u41 =>
  (f_Wa_seat b u41.2.2 v3 u41.1).bind fun σ6 =>
  gd (inb v1 10) ((nm (sI σ6 ((b + 2)) v1.toNatClampNeg ((-1))) fun σ7 =>
  some (v1, σ7))))))
set_option maxHeartbeats 4000000 in
set_option maxRecDepth 100000 in
theorem c_Wa_takeFirst (l : Launch) (D : va_G) (cA ad : Nat → Nat) {b : Nat} (hb : wB b) (σ : mS) (o : Int32 × mS) (h : f_Wa_takeFirst b σ = some o) : mCi l ⟨"LeastPaths$Waiting", "takeFirst", "()I"⟩ (Cond.code ⟨"LeastPaths$Waiting", "takeFirst", "()I"⟩ prog_8_method_6_code 6 (Option.some Jvm.ClassFile.FieldType.int) :: tlG) rm_Wa_takeFirst D clX (tyK cA) 99 (tbX cA) ad σ [.ref (ad b)] o := by
  intro sz
  refine m_of (cc := prog_8_method_6_code) (maxL := 6) (Qc := mQi D clX (tyK cA) 99 (tbX cA) ad o) (by decide) (Nat.le_of_ble_eq_true rfl) (fun p e s m args below meth c ls S hr hlk hnm hl M => ?_) sz
  have hl : lv_has ls 6 [(0, .ref (ad b))] := hl
  generalize hQ : MQ _ _ _ _ _ _ _ = Q
  skip
  unfold f_Wa_takeFirst at h
  refine lv_aload_n S.1 S.2.1 d_Wa_takeFirst_0 rfl (lv_at hl 0 rfl) ?_
  refine m_gi S M (j := 4) ok_Wa (lt_W0 hb) (tb_W0 hb) (by decide) rfl kw_17 rfl d_Wa_takeFirst_1 ?_
  refine m_ifne (tgt := 9) S d_Wa_takeFirst_4 (by decide) h (fun h => ?_) (fun h => ?_)
  · refine lv_aload_n S.1 S.2.1 d_Wa_takeFirst_9 rfl (lv_at hl 0 rfl) ?_
    refine m_gs (t := (b + 1)) S M (j := 1) ok_Wa (lt_W0 hb) (tb_W0 hb) (by decide) rfl kw_19 rfl d_Wa_takeFirst_10 ?_
    refine lv_iconst (v := 0) S.1 S.2.1 d_Wa_takeFirst_13 (by decide) ?_
    refine m_ial (t0 := 0) S M (lt_W1 hb) (tb_W1 hb) rfl h d_Wa_takeFirst_14 (fun h => ?_)
    refine m_ni h (fun v1 h => ?_)
    refine lv_istore_n (lv' := [(1, .int v1), (0, .ref (ad b))]) S.1 S.2.1 d_Wa_takeFirst_15 rfl hl (by decide) rfl (fun ls hl => ?_)
    refine lv_aload_n S.1 S.2.1 d_Wa_takeFirst_16 rfl (lv_at hl 1 rfl) ?_
    refine lv_dup S.1 S.2.1 d_Wa_takeFirst_17 rfl ?_
    refine m_gi S M (j := 4) ok_Wa (lt_W0 hb) (tb_W0 hb) (by decide) rfl kw_17 rfl d_Wa_takeFirst_18 ?_
    refine lv_iconst (v := 1) S.1 S.2.1 d_Wa_takeFirst_21 (by decide) ?_
    refine lv_isub S.1 S.2.1 d_Wa_takeFirst_22 ?_
    refine m_pi S M (j := 4) ok_Wa (lt_W0 hb) (tb_W0 hb) (by decide) rfl kw_17 rfl rfl rfl d_Wa_takeFirst_23 h (fun σ2 H locs h M => ?_)
    refine lv_aload_n S.1 S.2.1 d_Wa_takeFirst_26 rfl (lv_at hl 1 rfl) ?_
    refine m_gs (t := (b + 1)) S M (j := 1) ok_Wa (lt_W0 hb) (tb_W0 hb) (by decide) rfl kw_19 rfl d_Wa_takeFirst_27 ?_
    refine lv_aload_n S.1 S.2.1 d_Wa_takeFirst_30 rfl (lv_at hl 1 rfl) ?_
    refine m_gi S M (j := 4) ok_Wa (lt_W0 hb) (tb_W0 hb) (by decide) rfl kw_17 rfl d_Wa_takeFirst_31 ?_
    refine m_ial (t0 := 0) S M (lt_W1 hb) (tb_W1 hb) rfl h d_Wa_takeFirst_34 (fun h => ?_)
    refine m_ni h (fun v3 h => ?_)
    refine lv_istore_n (lv' := [(2, .int v3), (1, .int v1), (0, .ref (ad b))]) S.1 S.2.1 d_Wa_takeFirst_35 rfl hl (by decide) rfl (fun ls hl => ?_)
    refine lv_iconst (v := 0) S.1 S.2.1 d_Wa_takeFirst_36 (by decide) ?_
    refine lv_istore_n (lv' := [(3, .int 0), (2, .int v3), (1, .int v1), (0, .ref (ad b))]) S.1 S.2.1 d_Wa_takeFirst_37 rfl hl (by decide) rfl (fun ls hl => ?_)
    refine lv_iconst (v := 0) S.1 S.2.1 d_Wa_takeFirst_38 (by decide) ?_
    refine lv_istore (lv' := [(4, .int 0), (3, .int 0), (2, .int v3), (1, .int v1), (0, .ref (ad b))]) S.1 S.2.1 d_Wa_takeFirst_39 hl (by decide) rfl (fun ls hl => ?_)
    obtain ⟨u41, q41, h⟩ := Option.bind_eq_some_iff.mp h
    refine lpN_W1 (st := f_Wa_takeFirst_L41 b v3) (fun (t41 : Int32 × Int32 × mS) => ∀ (ls : Array Slot) (H : Heap) (locs : List Loc), lv_has ls 6 [(4, .int t41.2.1), (3, .int t41.1), (2, .int v3), (1, .int v1), (0, .ref (ad b))] → mM D clX (tyK cA) (mA 99 ad s.heap.size) s 99 (tbX cA) ad t41.2.2 H locs → W p l e rm_Wa_takeFirst s m args below meth c H locs 0 0 Q (F0 m 41 ls [])) (fun (u41 : Int32 × Int32 × mS) => ∀ (ls : Array Slot) (H : Heap) (locs : List Loc), lv_has ls 6 [(4, .int u41.2.1), (3, .int u41.1), (2, .int v3), (1, .int v1), (0, .ref (ad b))] → mM D clX (tyK cA) (mA 99 ad s.heap.size) s 99 (tbX cA) ad u41.2.2 H locs → W p l e rm_Wa_takeFirst s m args below meth c H locs 0 0 Q (F0 m 109 ls [])) ?_ fuS ((0, 0, σ2) : Int32 × Int32 × mS) u41 q41 ?_ ls _ _ (lv_sub hl [0, 1, 2, 3, 4] rfl) M
    · intro t41 oo41 h K1 K2 ls H locs hl M
      unfold f_Wa_takeFirst_L41 at h
      refine lv_iload S.1 S.2.1 d_Wa_takeFirst_41 (lv_at hl 0 rfl) ?_
      refine lv_aload_n S.1 S.2.1 d_Wa_takeFirst_43 rfl (lv_at hl 4 rfl) ?_
      refine m_gi S M (j := 4) ok_Wa (lt_W0 hb) (tb_W0 hb) (by decide) rfl kw_17 rfl d_Wa_takeFirst_44 ?_
      refine m_ige (tgt := 109) S d_Wa_takeFirst_47 (by decide) h (fun h => ?_) (fun h => ?_)
      · exact K2 _ (Option.some.inj h).symm ls _ _ (lv_sub hl [0, 1, 2, 3, 4] rfl) M
      · refine lv_aload_n S.1 S.2.1 d_Wa_takeFirst_50 rfl (lv_at hl 4 rfl) ?_
        refine lv_iload_n S.1 S.2.1 d_Wa_takeFirst_51 rfl (lv_at hl 1 rfl) ?_
        refine m_xip h (fun o ho => m_rV (As := [.int t41.1]) (rest := []) S M hl.1 (cwG (n := 1) S.2.2.2.2 kw_28 kw_29 kw_30 kw_26 kw_31 (by decide) ⟨Nat.le_of_ble_eq_true rfl, Nat.le_of_ble_eq_true rfl⟩) ok_Wa (lt_W0 hb) (tb_W0 hb) (c_Wa_firstChild l D cA ad hb t41.2.2 t41.1 o ho _) rfl rfl (Nat.le_of_ble_eq_true rfl) d_Wa_takeFirst_52 ⟨Nat.zero_le _, Nat.zero_le _⟩) M (fun v4 H locs h M => ?_)
        refine lv_istore (lv' := [(5, .int v4), (4, .int t41.2.1), (3, .int t41.1), (2, .int v3), (1, .int v1), (0, .ref (ad b))]) S.1 S.2.1 d_Wa_takeFirst_55 hl (by decide) rfl (fun ls hl => ?_)
        refine lv_iload S.1 S.2.1 d_Wa_takeFirst_57 (lv_at hl 0 rfl) ?_
        refine lv_iconst (v := (-1)) S.1 S.2.1 d_Wa_takeFirst_59 (by decide) ?_
        refine m_ieq (tgt := 109) S d_Wa_takeFirst_60 (by decide) h (fun h => ?_) (fun h => ?_)
        · exact K2 _ (Option.some.inj h).symm ls _ _ (lv_sub hl [1, 2, 3, 4, 5] rfl) M
        · refine lv_aload_n S.1 S.2.1 d_Wa_takeFirst_63 rfl (lv_at hl 5 rfl) ?_
          refine m_gs (t := (b + 3)) S M (j := 3) ok_Wa (lt_W0 hb) (tb_W0 hb) (by decide) rfl kw_20 rfl d_Wa_takeFirst_64 ?_
          refine lv_aload_n S.1 S.2.1 d_Wa_takeFirst_67 rfl (lv_at hl 5 rfl) ?_
          refine m_gs (t := (b + 1)) S M (j := 1) ok_Wa (lt_W0 hb) (tb_W0 hb) (by decide) rfl kw_19 rfl d_Wa_takeFirst_68 ?_
          refine lv_iload S.1 S.2.1 d_Wa_takeFirst_71 (lv_at hl 0 rfl) ?_
          refine m_ial (t0 := 0) S M (lt_W1 hb) (tb_W1 hb) rfl h d_Wa_takeFirst_73 (fun h => ?_)
          refine m_lal (t0 := 1) S M (lt_W3 hb) (tb_W3 hb) rfl h d_Wa_takeFirst_74 (fun h => ?_)
          refine lv_aload_n S.1 S.2.1 d_Wa_takeFirst_75 rfl (lv_at hl 5 rfl) ?_
          refine m_gs (t := (b + 3)) S M (j := 3) ok_Wa (lt_W0 hb) (tb_W0 hb) (by decide) rfl kw_20 rfl d_Wa_takeFirst_76 ?_
          refine lv_iload_n S.1 S.2.1 d_Wa_takeFirst_79 rfl (lv_at hl 3 rfl) ?_
          refine m_lal (t0 := 1) S M (lt_W3 hb) (tb_W3 hb) rfl h d_Wa_takeFirst_80 (fun h => ?_)
          refine W.lcmp S.1 S.2.1 d_Wa_takeFirst_81 ?_
          refine m_ifle (tgt := 88) S d_Wa_takeFirst_82 (by decide) h (fun h => ?_) (fun h => ?_)
          · refine lv_aload_n S.1 S.2.1 d_Wa_takeFirst_88 rfl (lv_at hl 5 rfl) ?_
            refine lv_aload_n S.1 S.2.1 d_Wa_takeFirst_89 rfl (lv_at hl 5 rfl) ?_
            refine m_gs (t := (b + 1)) S M (j := 1) ok_Wa (lt_W0 hb) (tb_W0 hb) (by decide) rfl kw_19 rfl d_Wa_takeFirst_90 ?_
            refine lv_iload S.1 S.2.1 d_Wa_takeFirst_93 (lv_at hl 0 rfl) ?_
            refine m_ial (t0 := 0) S M (lt_W1 hb) (tb_W1 hb) rfl h d_Wa_takeFirst_95 (fun h => ?_)
            refine lv_iload_n S.1 S.2.1 d_Wa_takeFirst_96 rfl (lv_at hl 2 rfl) ?_
            refine m_xv h (fun o ho => m_rV (As := [.int (t41.2.2.1 ((b + 1)) v4.toNatClampNeg), .int t41.1]) (rest := []) S M hl.1 (cwG (n := 2) S.2.2.2.2 kw_23 kw_24 kw_25 kw_26 kw_27 (by decide) ⟨Nat.le_of_ble_eq_true rfl, Nat.le_of_ble_eq_true rfl⟩) ok_Wa (lt_W0 hb) (tb_W0 hb) (c_Wa_seat l D cA ad hb t41.2.2 (t41.2.2.1 ((b + 1)) v4.toNatClampNeg) t41.1 o ho _) rfl rfl (Nat.le_of_ble_eq_true rfl) d_Wa_takeFirst_97 ⟨Nat.zero_le _, Nat.zero_le _⟩) M (fun σ5 H locs h M => ?_)
            refine lv_iload S.1 S.2.1 d_Wa_takeFirst_100 (lv_at hl 0 rfl) ?_
            refine lv_istore_n (lv' := [(3, .int v4), (5, .int v4), (4, .int t41.2.1), (2, .int v3), (1, .int v1), (0, .ref (ad b))]) S.1 S.2.1 d_Wa_takeFirst_102 rfl hl (by decide) rfl (fun ls hl => ?_)
            refine lv_iinc (v := t41.2.1 + 1) (lv' := [(4, .int (t41.2.1 + 1)), (3, .int v4), (5, .int v4), (2, .int v3), (1, .int v1), (0, .ref (ad b))]) S.1 S.2.1 d_Wa_takeFirst_103 hl (k := 2) rfl rfl (by decide) rfl (fun ls hl => ?_)
            refine lv_goto (tgt := 41) S.1 S.2.1 d_Wa_takeFirst_106 (by decide) ?_
            exact K1 _ (Option.some.inj h).symm ls _ _ (lv_sub hl [0, 1, 3, 4, 5] rfl) M
          · refine lv_goto (tgt := 109) S.1 S.2.1 d_Wa_takeFirst_85 (by decide) ?_
            exact K2 _ (Option.some.inj h).symm ls _ _ (lv_sub hl [1, 2, 3, 4, 5] rfl) M
    · intro ls H locs hl M
      refine lv_aload_n S.1 S.2.1 d_Wa_takeFirst_109 rfl (lv_at hl 4 rfl) ?_
      refine lv_iload_n S.1 S.2.1 d_Wa_takeFirst_110 rfl (lv_at hl 2 rfl) ?_
      refine lv_iload_n S.1 S.2.1 d_Wa_takeFirst_111 rfl (lv_at hl 1 rfl) ?_
      refine m_xv h (fun o ho => m_rV (As := [.int v3, .int u41.1]) (rest := []) S M hl.1 (cwG (n := 2) S.2.2.2.2 kw_23 kw_24 kw_25 kw_26 kw_27 (by decide) ⟨Nat.le_of_ble_eq_true rfl, Nat.le_of_ble_eq_true rfl⟩) ok_Wa (lt_W0 hb) (tb_W0 hb) (c_Wa_seat l D cA ad hb u41.2.2 v3 u41.1 o ho _) rfl rfl (Nat.le_of_ble_eq_true rfl) d_Wa_takeFirst_112 ⟨Nat.zero_le _, Nat.zero_le _⟩) M (fun σ6 H locs h M => ?_)
      refine lv_aload_n S.1 S.2.1 d_Wa_takeFirst_115 rfl (lv_at hl 4 rfl) ?_
      refine m_gs (t := (b + 2)) S M (j := 2) ok_Wa (lt_W0 hb) (tb_W0 hb) (by decide) rfl kw_18 rfl d_Wa_takeFirst_116 ?_
      refine lv_iload_n S.1 S.2.1 d_Wa_takeFirst_119 rfl (lv_at hl 3 rfl) ?_
      refine lv_iconst (v := (-1)) S.1 S.2.1 d_Wa_takeFirst_120 (by decide) ?_
      refine m_ias (t0 := 0) S M (lt_W2 hb) (tb_W2 hb) rfl h d_Wa_takeFirst_121 (fun σ7 H locs h M => ?_)
      refine lv_iload_n S.1 S.2.1 d_Wa_takeFirst_122 rfl (lv_at hl 3 rfl) ?_
      subst hQ; exact m_iret S hr hlk M (Option.some.inj h) d_Wa_takeFirst_123
  · refine lv_iconst (v := (-1)) S.1 S.2.1 d_Wa_takeFirst_7 (by decide) ?_
    subst hQ; exact m_iret S hr hlk M (Option.some.inj h) d_Wa_takeFirst_8
