theorem d_Se_begin_0 : decode prog_6_method_4_code 0 = .ok (.aload_n 0, 1) := by decide +kernel
theorem d_Se_begin_1 : decode prog_6_method_4_code 1 = .ok (.getfield 34, 3) := by decide +kernel
theorem d_Se_begin_4 : decode prog_6_method_4_code 4 = .ok (.invokevirtual 55, 3) := by decide +kernel
theorem d_Se_begin_7 : decode prog_6_method_4_code 7 = .ok (.aload_n 0, 1) := by decide +kernel
theorem d_Se_begin_8 : decode prog_6_method_4_code 8 = .ok (.iconst 0, 1) := by decide +kernel
theorem d_Se_begin_9 : decode prog_6_method_4_code 9 = .ok (.putfield 58, 3) := by decide +kernel
theorem d_Se_begin_12 : decode prog_6_method_4_code 12 = .ok (.aload_n 0, 1) := by decide +kernel
theorem d_Se_begin_13 : decode prog_6_method_4_code 13 = .ok (.iconst 0, 1) := by decide +kernel
theorem d_Se_begin_14 : decode prog_6_method_4_code 14 = .ok (.putfield 61, 3) := by decide +kernel
theorem d_Se_begin_17 : decode prog_6_method_4_code 17 = .ok (.aload_n 0, 1) := by decide +kernel
theorem d_Se_begin_18 : decode prog_6_method_4_code 18 = .ok (.iload_n 3, 1) := by decide +kernel
theorem d_Se_begin_19 : decode prog_6_method_4_code 19 = .ok (.putfield 64, 3) := by decide +kernel
theorem d_Se_begin_22 : decode prog_6_method_4_code 22 = .ok (.aload_n 0, 1) := by decide +kernel
theorem d_Se_begin_23 : decode prog_6_method_4_code 23 = .ok (.lload_n 1, 1) := by decide +kernel
theorem d_Se_begin_24 : decode prog_6_method_4_code 24 = .ok (.putfield 67, 3) := by decide +kernel
theorem d_Se_begin_27 : decode prog_6_method_4_code 27 = .ok (.return_, 1) := by decide +kernel
def rm_Se_begin : Room := { frames := 1, cells := 0, slots := 0, locals := 21 }
def f_Se_begin (b : Nat) (σ : mS) (x1 : Int64) (x3 : Int32) : Option (mS) :=
  (f_Wa_empty ((b + 4)) σ).bind fun σ1 =>
  nm (sI σ1 b 6 0) fun σ2 =>
  nm (sI σ2 b 7 0) fun σ3 =>
  nm (sI σ3 b 8 x3) fun σ4 =>
  nm (sJ σ4 b 9 x1) fun σ5 =>
  some σ5
set_option maxHeartbeats 4000000 in
set_option maxRecDepth 100000 in
theorem c_Se_begin (l : Launch) (D : va_G) (cA ad : Nat → Nat) {b : Nat} (hb : sB b) (σ : mS) (x1 : Int64) (x3 : Int32) (o : mS) (h : f_Se_begin b σ x1 x3 = some o) : mCv l ⟨"LeastPaths$Search", "begin", "(JI)V"⟩ (Cond.code ⟨"LeastPaths$Search", "begin", "(JI)V"⟩ prog_6_method_4_code 4 (Option.none : Option Jvm.ClassFile.FieldType) :: tlG) rm_Se_begin D clX (tyK cA) 99 (tbX cA) ad σ [.ref (ad b), .long x1, .int x3] o := by
  intro sz
  refine m_of (cc := prog_6_method_4_code) (maxL := 4) (Qc := mQv D clX (tyK cA) 99 (tbX cA) ad o) (by decide) (Nat.le_of_ble_eq_true rfl) (fun p e s m args below meth c ls S hr hlk hnm hl M => ?_) sz
  have hl : lv_has ls 4 [(0, .ref (ad b)), (1, .long x1), (3, .int x3)] := hl
  generalize hQ : MQ _ _ _ _ _ _ _ = Q
  skip
  unfold f_Se_begin at h
  refine lv_aload_n S.1 S.2.1 d_Se_begin_0 rfl (lv_at hl 0 rfl) ?_
  refine m_gs (t := (b + 4)) S M (j := 2) ok_Se (lt_S0 hb) (tb_S0 hb) (by decide) rfl kw_37 rfl d_Se_begin_1 ?_
  refine m_xv h (fun o ho => m_rV (As := []) (rest := []) S M hl.1 (cwG (n := 0) S.2.2.2.2 kw_38 kw_39 kw_40 kw_26 kw_41 (by decide) ⟨Nat.le_of_ble_eq_true rfl, Nat.le_of_ble_eq_true rfl⟩) ok_Wa (lt_W0 (sB_w hb)) (tb_W0 (sB_w hb)) (c_Wa_empty l D cA ad (sB_w hb) σ o ho _) rfl rfl (Nat.le_of_ble_eq_true rfl) d_Se_begin_4 ⟨Nat.zero_le _, Nat.zero_le _⟩) M (fun σ1 H locs h M => ?_)
  refine lv_aload_n S.1 S.2.1 d_Se_begin_7 rfl (lv_at hl 0 rfl) ?_
  refine lv_iconst (v := 0) S.1 S.2.1 d_Se_begin_8 (by decide) ?_
  refine m_pi S M (j := 6) ok_Se (lt_S0 hb) (tb_S0 hb) (by decide) rfl kw_42 rfl rfl rfl d_Se_begin_9 h (fun σ2 H locs h M => ?_)
  refine lv_aload_n S.1 S.2.1 d_Se_begin_12 rfl (lv_at hl 0 rfl) ?_
  refine lv_iconst (v := 0) S.1 S.2.1 d_Se_begin_13 (by decide) ?_
  refine m_pi S M (j := 7) ok_Se (lt_S0 hb) (tb_S0 hb) (by decide) rfl kw_43 rfl rfl rfl d_Se_begin_14 h (fun σ3 H locs h M => ?_)
  refine lv_aload_n S.1 S.2.1 d_Se_begin_17 rfl (lv_at hl 0 rfl) ?_
  refine lv_iload_n S.1 S.2.1 d_Se_begin_18 rfl (lv_at hl 2 rfl) ?_
  refine m_pi S M (j := 8) ok_Se (lt_S0 hb) (tb_S0 hb) (by decide) rfl kw_44 rfl rfl rfl d_Se_begin_19 h (fun σ4 H locs h M => ?_)
  refine lv_aload_n S.1 S.2.1 d_Se_begin_22 rfl (lv_at hl 0 rfl) ?_
  refine lv_lload_n S.1 S.2.1 d_Se_begin_23 rfl (lv_at hl 1 rfl) ?_
  refine m_pl S M (j := 9) ok_Se (lt_S0 hb) (tb_S0 hb) (by decide) rfl kw_45 rfl rfl rfl d_Se_begin_24 h (fun σ5 H locs h M => ?_)
  subst hQ; exact m_vret S hr hlk M (Option.some.inj h) d_Se_begin_27
theorem d_Se_beginPlain_0 : decode prog_6_method_2_code 0 = .ok (.aload_n 0, 1) := by decide +kernel
theorem d_Se_beginPlain_1 : decode prog_6_method_2_code 1 = .ok (.aload_n 0, 1) := by decide +kernel
theorem d_Se_beginPlain_2 : decode prog_6_method_2_code 2 = .ok (.getfield 21, 3) := by decide +kernel
theorem d_Se_beginPlain_5 : decode prog_6_method_2_code 5 = .ok (.getfield 38, 3) := by decide +kernel
theorem d_Se_beginPlain_8 : decode prog_6_method_2_code 8 = .ok (.iconst 0, 1) := by decide +kernel
theorem d_Se_beginPlain_9 : decode prog_6_method_2_code 9 = .ok (.invokevirtual 44, 3) := by decide +kernel
theorem d_Se_beginPlain_12 : decode prog_6_method_2_code 12 = .ok (.aload_n 0, 1) := by decide +kernel
theorem d_Se_beginPlain_13 : decode prog_6_method_2_code 13 = .ok (.iconst 0, 1) := by decide +kernel
theorem d_Se_beginPlain_14 : decode prog_6_method_2_code 14 = .ok (.putfield 48, 3) := by decide +kernel
theorem d_Se_beginPlain_17 : decode prog_6_method_2_code 17 = .ok (.aload_n 0, 1) := by decide +kernel
theorem d_Se_beginPlain_18 : decode prog_6_method_2_code 18 = .ok (.iload_n 1, 1) := by decide +kernel
theorem d_Se_beginPlain_19 : decode prog_6_method_2_code 19 = .ok (.putfield 52, 3) := by decide +kernel
theorem d_Se_beginPlain_22 : decode prog_6_method_2_code 22 = .ok (.return_, 1) := by decide +kernel
def rm_Se_beginPlain : Room := { frames := 2, cells := 0, slots := 0, locals := 44 }
def f_Se_beginPlain (b : Nat) (σ : mS) (x1 : Int32) : Option (mS) :=
  (f_Se_begin b σ (σ.2.1 1 8) 0).bind fun σ1 =>
  nm (sI σ1 b 10 0) fun σ2 =>
  gd (isB x1) (nm (sI σ2 b 11 x1) fun σ3 =>
  some σ3)
set_option maxHeartbeats 4000000 in
set_option maxRecDepth 100000 in
theorem c_Se_beginPlain (l : Launch) (D : va_G) (cA ad : Nat → Nat) {b : Nat} (hb : sB b) (σ : mS) (x1 : Int32) (o : mS) (h : f_Se_beginPlain b σ x1 = some o) : mCv l ⟨"LeastPaths$Search", "beginPlain", "(Z)V"⟩ (Cond.code ⟨"LeastPaths$Search", "beginPlain", "(Z)V"⟩ prog_6_method_2_code 2 (Option.none : Option Jvm.ClassFile.FieldType) :: tlG) rm_Se_beginPlain D clX (tyK cA) 99 (tbX cA) ad σ [.ref (ad b), .int x1] o := by
  intro sz
  refine m_of (cc := prog_6_method_2_code) (maxL := 2) (Qc := mQv D clX (tyK cA) 99 (tbX cA) ad o) (by decide) (Nat.le_of_ble_eq_true rfl) (fun p e s m args below meth c ls S hr hlk hnm hl M => ?_) sz
  have hl : lv_has ls 2 [(0, .ref (ad b)), (1, .int x1)] := hl
  generalize hQ : MQ _ _ _ _ _ _ _ = Q
  skip
  unfold f_Se_beginPlain at h
  refine lv_aload_n S.1 S.2.1 d_Se_beginPlain_0 rfl (lv_at hl 0 rfl) ?_
  refine lv_aload_n S.1 S.2.1 d_Se_beginPlain_1 rfl (lv_at hl 0 rfl) ?_
  refine m_gs (t := 1) S M (j := 0) ok_Se (lt_S0 hb) (tb_S0 hb) (by decide) rfl kw_46 rfl d_Se_beginPlain_2 ?_
  refine m_gl S M (j := 8) ok_Gr (by decide) rfl (by decide) rfl kw_47 rfl d_Se_beginPlain_5 ?_
  refine lv_iconst (v := 0) S.1 S.2.1 d_Se_beginPlain_8 (by decide) ?_
  refine m_xv h (fun o ho => m_rV (As := [.long (σ.2.1 1 8), .int 0]) (rest := []) S M hl.1 (cwG (n := 2) S.2.2.2.2 kw_48 kw_49 kw_50 kw_51 kw_52 (by decide) ⟨Nat.le_of_ble_eq_true rfl, Nat.le_of_ble_eq_true rfl⟩) ok_Se (lt_S0 hb) (tb_S0 hb) (c_Se_begin l D cA ad hb σ (σ.2.1 1 8) 0 o ho _) rfl rfl (Nat.le_of_ble_eq_true rfl) d_Se_beginPlain_9 ⟨Nat.zero_le _, Nat.zero_le _⟩) M (fun σ1 H locs h M => ?_)
  refine lv_aload_n S.1 S.2.1 d_Se_beginPlain_12 rfl (lv_at hl 0 rfl) ?_
  refine lv_iconst (v := 0) S.1 S.2.1 d_Se_beginPlain_13 (by decide) ?_
  refine m_pi S M (j := 10) ok_Se (lt_S0 hb) (tb_S0 hb) (by decide) rfl kw_53 rfl rfl rfl d_Se_beginPlain_14 h (fun σ2 H locs h M => ?_)
  refine lv_aload_n S.1 S.2.1 d_Se_beginPlain_17 rfl (lv_at hl 0 rfl) ?_
  refine lv_iload_n S.1 S.2.1 d_Se_beginPlain_18 rfl (lv_at hl 1 rfl) ?_
  refine m_pz S M (j := 11) ok_Se (lt_S0 hb) (tb_S0 hb) (by decide) rfl kw_54 rfl rfl rfl d_Se_beginPlain_19 h (fun σ3 H locs h M => ?_)
  subst hQ; exact m_vret S hr hlk M (Option.some.inj h) d_Se_beginPlain_22
theorem d_Se_beginCounted_0 : decode prog_6_method_3_code 0 = .ok (.aload_n 0, 1) := by decide +kernel
theorem d_Se_beginCounted_1 : decode prog_6_method_3_code 1 = .ok (.lload_n 1, 1) := by decide +kernel
theorem d_Se_beginCounted_2 : decode prog_6_method_3_code 2 = .ok (.iload_n 3, 1) := by decide +kernel
theorem d_Se_beginCounted_3 : decode prog_6_method_3_code 3 = .ok (.invokevirtual 44, 3) := by decide +kernel
theorem d_Se_beginCounted_6 : decode prog_6_method_3_code 6 = .ok (.aload_n 0, 1) := by decide +kernel
theorem d_Se_beginCounted_7 : decode prog_6_method_3_code 7 = .ok (.iconst 1, 1) := by decide +kernel
theorem d_Se_beginCounted_8 : decode prog_6_method_3_code 8 = .ok (.putfield 48, 3) := by decide +kernel
theorem d_Se_beginCounted_11 : decode prog_6_method_3_code 11 = .ok (.aload_n 0, 1) := by decide +kernel
theorem d_Se_beginCounted_12 : decode prog_6_method_3_code 12 = .ok (.iconst 0, 1) := by decide +kernel
theorem d_Se_beginCounted_13 : decode prog_6_method_3_code 13 = .ok (.putfield 52, 3) := by decide +kernel
theorem d_Se_beginCounted_16 : decode prog_6_method_3_code 16 = .ok (.return_, 1) := by decide +kernel
def rm_Se_beginCounted : Room := { frames := 2, cells := 0, slots := 0, locals := 44 }
def f_Se_beginCounted (b : Nat) (σ : mS) (x1 : Int64) (x3 : Int32) : Option (mS) :=
  (f_Se_begin b σ x1 x3).bind fun σ1 =>
  nm (sI σ1 b 10 1) fun σ2 =>
  gd (isB 0) (nm (sI σ2 b 11 0) fun σ3 =>
  some σ3)
set_option maxHeartbeats 4000000 in
set_option maxRecDepth 100000 in
theorem c_Se_beginCounted (l : Launch) (D : va_G) (cA ad : Nat → Nat) {b : Nat} (hb : sB b) (σ : mS) (x1 : Int64) (x3 : Int32) (o : mS) (h : f_Se_beginCounted b σ x1 x3 = some o) : mCv l ⟨"LeastPaths$Search", "beginCounted", "(JI)V"⟩ (Cond.code ⟨"LeastPaths$Search", "beginCounted", "(JI)V"⟩ prog_6_method_3_code 4 (Option.none : Option Jvm.ClassFile.FieldType) :: tlG) rm_Se_beginCounted D clX (tyK cA) 99 (tbX cA) ad σ [.ref (ad b), .long x1, .int x3] o := by
  intro sz
  refine m_of (cc := prog_6_method_3_code) (maxL := 4) (Qc := mQv D clX (tyK cA) 99 (tbX cA) ad o) (by decide) (Nat.le_of_ble_eq_true rfl) (fun p e s m args below meth c ls S hr hlk hnm hl M => ?_) sz
  have hl : lv_has ls 4 [(0, .ref (ad b)), (1, .long x1), (3, .int x3)] := hl
  generalize hQ : MQ _ _ _ _ _ _ _ = Q
  skip
  unfold f_Se_beginCounted at h
  refine lv_aload_n S.1 S.2.1 d_Se_beginCounted_0 rfl (lv_at hl 0 rfl) ?_
  refine lv_lload_n S.1 S.2.1 d_Se_beginCounted_1 rfl (lv_at hl 1 rfl) ?_
  refine lv_iload_n S.1 S.2.1 d_Se_beginCounted_2 rfl (lv_at hl 2 rfl) ?_
  refine m_xv h (fun o ho => m_rV (As := [.long x1, .int x3]) (rest := []) S M hl.1 (cwG (n := 2) S.2.2.2.2 kw_48 kw_49 kw_50 kw_51 kw_52 (by decide) ⟨Nat.le_of_ble_eq_true rfl, Nat.le_of_ble_eq_true rfl⟩) ok_Se (lt_S0 hb) (tb_S0 hb) (c_Se_begin l D cA ad hb σ x1 x3 o ho _) rfl rfl (Nat.le_of_ble_eq_true rfl) d_Se_beginCounted_3 ⟨Nat.zero_le _, Nat.zero_le _⟩) M (fun σ1 H locs h M => ?_)
  refine lv_aload_n S.1 S.2.1 d_Se_beginCounted_6 rfl (lv_at hl 0 rfl) ?_
  refine lv_iconst (v := 1) S.1 S.2.1 d_Se_beginCounted_7 (by decide) ?_
  refine m_pi S M (j := 10) ok_Se (lt_S0 hb) (tb_S0 hb) (by decide) rfl kw_53 rfl rfl rfl d_Se_beginCounted_8 h (fun σ2 H locs h M => ?_)
  refine lv_aload_n S.1 S.2.1 d_Se_beginCounted_11 rfl (lv_at hl 0 rfl) ?_
  refine lv_iconst (v := 0) S.1 S.2.1 d_Se_beginCounted_12 (by decide) ?_
  refine m_pz S M (j := 11) ok_Se (lt_S0 hb) (tb_S0 hb) (by decide) rfl kw_54 rfl rfl rfl d_Se_beginCounted_13 h (fun σ3 H locs h M => ?_)
  subst hQ; exact m_vret S hr hlk M (Option.some.inj h) d_Se_beginCounted_16
theorem d_Se_knows_0 : decode prog_6_method_5_code 0 = .ok (.aload_n 0, 1) := by decide +kernel
theorem d_Se_knows_1 : decode prog_6_method_5_code 1 = .ok (.getfield 61, 3) := by decide +kernel
theorem d_Se_knows_4 : decode prog_6_method_5_code 4 = .ok (.iload_n 1, 1) := by decide +kernel
theorem d_Se_knows_5 : decode prog_6_method_5_code 5 = .ok (.ishr, 1) := by decide +kernel
theorem d_Se_knows_6 : decode prog_6_method_5_code 6 = .ok (.iconst 1, 1) := by decide +kernel
theorem d_Se_knows_7 : decode prog_6_method_5_code 7 = .ok (.iand, 1) := by decide +kernel
theorem d_Se_knows_8 : decode prog_6_method_5_code 8 = .ok (.ifCond .eq 7, 3) := by decide +kernel
theorem d_Se_knows_11 : decode prog_6_method_5_code 11 = .ok (.iconst 1, 1) := by decide +kernel
theorem d_Se_knows_12 : decode prog_6_method_5_code 12 = .ok (.goto 4, 3) := by decide +kernel
theorem d_Se_knows_15 : decode prog_6_method_5_code 15 = .ok (.iconst 0, 1) := by decide +kernel
theorem d_Se_knows_16 : decode prog_6_method_5_code 16 = .ok (.ireturn, 1) := by decide +kernel
def rm_Se_knows : Room := { frames := 0, cells := 0, slots := 0, locals := 0 }
def f_Se_knows (b : Nat) (σ : mS) (x1 : Int32) : Option (Int32) :=
  if (((σ.1 b 7) >>> (x1 &&& 31)) &&& 1) = 0 then (
  some 0) else (
  some 1)
set_option maxHeartbeats 4000000 in
set_option maxRecDepth 100000 in
theorem c_Se_knows (l : Launch) (D : va_G) (cA ad : Nat → Nat) {b : Nat} (hb : sB b) (σ : mS) (x1 : Int32) (o : Int32) (h : f_Se_knows b σ x1 = some o) : mCi l ⟨"LeastPaths$Search", "knows", "(I)Z"⟩ (Cond.code ⟨"LeastPaths$Search", "knows", "(I)Z"⟩ prog_6_method_5_code 2 (Option.some Jvm.ClassFile.FieldType.boolean) :: tlG) rm_Se_knows D clX (tyK cA) 99 (tbX cA) ad σ [.ref (ad b), .int x1] (o, σ) := by
  intro sz
  refine m_of (cc := prog_6_method_5_code) (maxL := 2) (Qc := mQi D clX (tyK cA) 99 (tbX cA) ad (o, σ)) (by decide) (Nat.le_of_ble_eq_true rfl) (fun p e s m args below meth c ls S hr hlk hnm hl M => ?_) sz
  have hl : lv_has ls 2 [(0, .ref (ad b)), (1, .int x1)] := hl
  generalize hQ : MQ _ _ _ _ _ _ _ = Q
  skip
  unfold f_Se_knows at h
  refine lv_aload_n S.1 S.2.1 d_Se_knows_0 rfl (lv_at hl 0 rfl) ?_
  refine m_gi S M (j := 7) ok_Se (lt_S0 hb) (tb_S0 hb) (by decide) rfl kw_43 rfl d_Se_knows_1 ?_
  refine lv_iload_n S.1 S.2.1 d_Se_knows_4 rfl (lv_at hl 1 rfl) ?_
  refine lv_ishr S.1 S.2.1 d_Se_knows_5 ?_
  refine lv_iconst (v := 1) S.1 S.2.1 d_Se_knows_6 (by decide) ?_
  refine lv_iand S.1 S.2.1 d_Se_knows_7 ?_
  refine m_ifeq (tgt := 15) S d_Se_knows_8 (by decide) h (fun h => ?_) (fun h => ?_)
  · refine lv_iconst (v := 0) S.1 S.2.1 d_Se_knows_15 (by decide) ?_
    subst hQ; exact m_zret S hr hlk M (by rw [Option.some.inj h]) rfl d_Se_knows_16
  · refine lv_iconst (v := 1) S.1 S.2.1 d_Se_knows_11 (by decide) ?_
    refine lv_goto (tgt := 16) S.1 S.2.1 d_Se_knows_12 (by decide) ?_
    subst hQ; exact m_zret S hr hlk M (by rw [Option.some.inj h]) rfl d_Se_knows_16
theorem d_Se_isOver_0 : decode prog_6_method_6_code 0 = .ok (.aload_n 0, 1) := by decide +kernel
theorem d_Se_isOver_1 : decode prog_6_method_6_code 1 = .ok (.getfield 34, 3) := by decide +kernel
theorem d_Se_isOver_4 : decode prog_6_method_6_code 4 = .ok (.invokevirtual 70, 3) := by decide +kernel
theorem d_Se_isOver_7 : decode prog_6_method_6_code 7 = .ok (.ireturn, 1) := by decide +kernel
def rm_Se_isOver : Room := { frames := 1, cells := 0, slots := 0, locals := 20 }
def f_Se_isOver (b : Nat) (σ : mS) : Option (Int32) :=
  (f_Wa_isEmpty ((b + 4)) σ).bind fun v1 =>
  gd (isB v1) (some v1)
set_option maxHeartbeats 4000000 in
set_option maxRecDepth 100000 in
theorem c_Se_isOver (l : Launch) (D : va_G) (cA ad : Nat → Nat) {b : Nat} (hb : sB b) (σ : mS) (o : Int32) (h : f_Se_isOver b σ = some o) : mCi l ⟨"LeastPaths$Search", "isOver", "()Z"⟩ (Cond.code ⟨"LeastPaths$Search", "isOver", "()Z"⟩ prog_6_method_6_code 1 (Option.some Jvm.ClassFile.FieldType.boolean) :: tlG) rm_Se_isOver D clX (tyK cA) 99 (tbX cA) ad σ [.ref (ad b)] (o, σ) := by
  intro sz
  refine m_of (cc := prog_6_method_6_code) (maxL := 1) (Qc := mQi D clX (tyK cA) 99 (tbX cA) ad (o, σ)) (by decide) (Nat.le_of_ble_eq_true rfl) (fun p e s m args below meth c ls S hr hlk hnm hl M => ?_) sz
  have hl : lv_has ls 1 [(0, .ref (ad b))] := hl
  generalize hQ : MQ _ _ _ _ _ _ _ = Q
  skip
  unfold f_Se_isOver at h
  refine lv_aload_n S.1 S.2.1 d_Se_isOver_0 rfl (lv_at hl 0 rfl) ?_
  refine m_gs (t := (b + 4)) S M (j := 2) ok_Se (lt_S0 hb) (tb_S0 hb) (by decide) rfl kw_37 rfl d_Se_isOver_1 ?_
  refine m_xip h (fun o ho => m_rV (As := []) (rest := []) S M hl.1 (cwG (n := 0) S.2.2.2.2 kw_55 kw_56 kw_57 kw_26 kw_58 (by decide) ⟨Nat.le_of_ble_eq_true rfl, Nat.le_of_ble_eq_true rfl⟩) ok_Wa (lt_W0 (sB_w hb)) (tb_W0 (sB_w hb)) (c_Wa_isEmpty l D cA ad (sB_w hb) σ o ho _) rfl rfl (Nat.le_of_ble_eq_true rfl) d_Se_isOver_4 ⟨Nat.zero_le _, Nat.zero_le _⟩) M (fun v1 H locs h M => ?_)
  obtain ⟨hB, h⟩ := gd_s h
  subst hQ; exact m_zret S hr hlk M (by rw [Option.some.inj h]) hB d_Se_isOver_7
theorem d_Se_leastNumber_0 : decode prog_6_method_7_code 0 = .ok (.aload_n 0, 1) := by decide +kernel
theorem d_Se_leastNumber_1 : decode prog_6_method_7_code 1 = .ok (.getfield 34, 3) := by decide +kernel
theorem d_Se_leastNumber_4 : decode prog_6_method_7_code 4 = .ok (.invokevirtual 74, 3) := by decide +kernel
theorem d_Se_leastNumber_7 : decode prog_6_method_7_code 7 = .ok (.istore_n 1, 1) := by decide +kernel
theorem d_Se_leastNumber_8 : decode prog_6_method_7_code 8 = .ok (.iload_n 1, 1) := by decide +kernel
theorem d_Se_leastNumber_9 : decode prog_6_method_7_code 9 = .ok (.iconst (-1), 1) := by decide +kernel
theorem d_Se_leastNumber_10 : decode prog_6_method_7_code 10 = .ok (.if_icmp .ne 8, 3) := by decide +kernel
theorem d_Se_leastNumber_13 : decode prog_6_method_7_code 13 = .ok (.ldc 78, 2) := by decide +kernel
theorem d_Se_leastNumber_15 : decode prog_6_method_7_code 15 = .ok (.goto 9, 3) := by decide +kernel
theorem d_Se_leastNumber_18 : decode prog_6_method_7_code 18 = .ok (.aload_n 0, 1) := by decide +kernel
theorem d_Se_leastNumber_19 : decode prog_6_method_7_code 19 = .ok (.getfield 9, 3) := by decide +kernel
theorem d_Se_leastNumber_22 : decode prog_6_method_7_code 22 = .ok (.iload_n 1, 1) := by decide +kernel
theorem d_Se_leastNumber_23 : decode prog_6_method_7_code 23 = .ok (.iaload, 1) := by decide +kernel
theorem d_Se_leastNumber_24 : decode prog_6_method_7_code 24 = .ok (.ireturn, 1) := by decide +kernel
def rm_Se_leastNumber : Room := { frames := 1, cells := 0, slots := 0, locals := 20 }
def f_Se_leastNumber (b : Nat) (σ : mS) : Option (Int32) :=
  (f_Wa_first ((b + 4)) σ).bind fun v1 =>
  if v1 = ((-1)) then (
  some 2147483647) else (
  gd (inb v1 10) (
  some (σ.1 ((b + 1)) v1.toNatClampNeg)))
set_option maxHeartbeats 4000000 in
set_option maxRecDepth 100000 in
theorem c_Se_leastNumber (l : Launch) (D : va_G) (cA ad : Nat → Nat) {b : Nat} (hb : sB b) (σ : mS) (o : Int32) (h : f_Se_leastNumber b σ = some o) : mCi l ⟨"LeastPaths$Search", "leastNumber", "()I"⟩ (Cond.code ⟨"LeastPaths$Search", "leastNumber", "()I"⟩ prog_6_method_7_code 2 (Option.some Jvm.ClassFile.FieldType.int) :: tlG) rm_Se_leastNumber D clX (tyK cA) 99 (tbX cA) ad σ [.ref (ad b)] (o, σ) := by
  intro sz
  refine m_of (cc := prog_6_method_7_code) (maxL := 2) (Qc := mQi D clX (tyK cA) 99 (tbX cA) ad (o, σ)) (by decide) (Nat.le_of_ble_eq_true rfl) (fun p e s m args below meth c ls S hr hlk hnm hl M => ?_) sz
  have hl : lv_has ls 2 [(0, .ref (ad b))] := hl
  generalize hQ : MQ _ _ _ _ _ _ _ = Q
  skip
  unfold f_Se_leastNumber at h
  refine lv_aload_n S.1 S.2.1 d_Se_leastNumber_0 rfl (lv_at hl 0 rfl) ?_
  refine m_gs (t := (b + 4)) S M (j := 2) ok_Se (lt_S0 hb) (tb_S0 hb) (by decide) rfl kw_37 rfl d_Se_leastNumber_1 ?_
  refine m_xip h (fun o ho => m_rV (As := []) (rest := []) S M hl.1 (cwG (n := 0) S.2.2.2.2 kw_59 kw_60 kw_61 kw_26 kw_62 (by decide) ⟨Nat.le_of_ble_eq_true rfl, Nat.le_of_ble_eq_true rfl⟩) ok_Wa (lt_W0 (sB_w hb)) (tb_W0 (sB_w hb)) (c_Wa_first l D cA ad (sB_w hb) σ o ho _) rfl rfl (Nat.le_of_ble_eq_true rfl) d_Se_leastNumber_4 ⟨Nat.zero_le _, Nat.zero_le _⟩) M (fun v1 H locs h M => ?_)
  refine lv_istore_n (lv' := [(1, .int v1), (0, .ref (ad b))]) S.1 S.2.1 d_Se_leastNumber_7 rfl hl (by decide) rfl (fun ls hl => ?_)
  refine lv_iload_n S.1 S.2.1 d_Se_leastNumber_8 rfl (lv_at hl 0 rfl) ?_
  refine lv_iconst (v := (-1)) S.1 S.2.1 d_Se_leastNumber_9 (by decide) ?_
  refine m_ine (tgt := 18) S d_Se_leastNumber_10 (by decide) h (fun h => ?_) (fun h => ?_)
  · refine lv_aload_n S.1 S.2.1 d_Se_leastNumber_18 rfl (lv_at hl 1 rfl) ?_
    refine m_gs (t := (b + 1)) S M (j := 3) ok_Se (lt_S0 hb) (tb_S0 hb) (by decide) rfl kw_63 rfl d_Se_leastNumber_19 ?_
    refine lv_iload_n S.1 S.2.1 d_Se_leastNumber_22 rfl (lv_at hl 0 rfl) ?_
    refine m_ial (t0 := 0) S M (lt_S1 hb) (tb_S1 hb) rfl h d_Se_leastNumber_23 (fun h => ?_)
    subst hQ; exact m_iret S hr hlk M (by rw [Option.some.inj h]) d_Se_leastNumber_24
  · refine lv_ldc (v := 2147483647) S.1 S.2.1 S.2.2.2.1 (S.2.2.2.2 _ kw_64) d_Se_leastNumber_13 ?_
    refine lv_goto (tgt := 24) S.1 S.2.1 d_Se_leastNumber_15 (by decide) ?_
    subst hQ; exact m_iret S hr hlk M (by rw [Option.some.inj h]) d_Se_leastNumber_24
theorem d_Se_offer_0 : decode prog_6_method_8_code 0 = .ok (.iconst 1, 1) := by decide +kernel
theorem d_Se_offer_1 : decode prog_6_method_8_code 1 = .ok (.iload_n 1, 1) := by decide +kernel
theorem d_Se_offer_2 : decode prog_6_method_8_code 2 = .ok (.ishl, 1) := by decide +kernel
theorem d_Se_offer_3 : decode prog_6_method_8_code 3 = .ok (.istore_n 3, 1) := by decide +kernel
theorem d_Se_offer_4 : decode prog_6_method_8_code 4 = .ok (.aload_n 0, 1) := by decide +kernel
theorem d_Se_offer_5 : decode prog_6_method_8_code 5 = .ok (.getfield 64, 3) := by decide +kernel
theorem d_Se_offer_8 : decode prog_6_method_8_code 8 = .ok (.iload_n 3, 1) := by decide +kernel
theorem d_Se_offer_9 : decode prog_6_method_8_code 9 = .ok (.iand, 1) := by decide +kernel
theorem d_Se_offer_10 : decode prog_6_method_8_code 10 = .ok (.ifCond .ne 22, 3) := by decide +kernel
theorem d_Se_offer_13 : decode prog_6_method_8_code 13 = .ok (.aload_n 0, 1) := by decide +kernel
theorem d_Se_offer_14 : decode prog_6_method_8_code 14 = .ok (.getfield 61, 3) := by decide +kernel
theorem d_Se_offer_17 : decode prog_6_method_8_code 17 = .ok (.iload_n 3, 1) := by decide +kernel
theorem d_Se_offer_18 : decode prog_6_method_8_code 18 = .ok (.iand, 1) := by decide +kernel
theorem d_Se_offer_19 : decode prog_6_method_8_code 19 = .ok (.ifCond .eq 14, 3) := by decide +kernel
theorem d_Se_offer_22 : decode prog_6_method_8_code 22 = .ok (.aload_n 0, 1) := by decide +kernel
theorem d_Se_offer_23 : decode prog_6_method_8_code 23 = .ok (.getfield 9, 3) := by decide +kernel
theorem d_Se_offer_26 : decode prog_6_method_8_code 26 = .ok (.iload_n 1, 1) := by decide +kernel
theorem d_Se_offer_27 : decode prog_6_method_8_code 27 = .ok (.iaload, 1) := by decide +kernel
theorem d_Se_offer_28 : decode prog_6_method_8_code 28 = .ok (.iload_n 2, 1) := by decide +kernel
theorem d_Se_offer_29 : decode prog_6_method_8_code 29 = .ok (.if_icmp .gt 4, 3) := by decide +kernel
theorem d_Se_offer_32 : decode prog_6_method_8_code 32 = .ok (.return_, 1) := by decide +kernel
theorem d_Se_offer_33 : decode prog_6_method_8_code 33 = .ok (.aload_n 0, 1) := by decide +kernel
theorem d_Se_offer_34 : decode prog_6_method_8_code 34 = .ok (.dup, 1) := by decide +kernel
theorem d_Se_offer_35 : decode prog_6_method_8_code 35 = .ok (.getfield 61, 3) := by decide +kernel
theorem d_Se_offer_38 : decode prog_6_method_8_code 38 = .ok (.iload_n 3, 1) := by decide +kernel
theorem d_Se_offer_39 : decode prog_6_method_8_code 39 = .ok (.ior, 1) := by decide +kernel
theorem d_Se_offer_40 : decode prog_6_method_8_code 40 = .ok (.putfield 61, 3) := by decide +kernel
theorem d_Se_offer_43 : decode prog_6_method_8_code 43 = .ok (.aload_n 0, 1) := by decide +kernel
theorem d_Se_offer_44 : decode prog_6_method_8_code 44 = .ok (.getfield 9, 3) := by decide +kernel
theorem d_Se_offer_47 : decode prog_6_method_8_code 47 = .ok (.iload_n 1, 1) := by decide +kernel
theorem d_Se_offer_48 : decode prog_6_method_8_code 48 = .ok (.iload_n 2, 1) := by decide +kernel
theorem d_Se_offer_49 : decode prog_6_method_8_code 49 = .ok (.iastore, 1) := by decide +kernel
theorem d_Se_offer_50 : decode prog_6_method_8_code 50 = .ok (.aload_n 0, 1) := by decide +kernel
theorem d_Se_offer_51 : decode prog_6_method_8_code 51 = .ok (.getfield 34, 3) := by decide +kernel
theorem d_Se_offer_54 : decode prog_6_method_8_code 54 = .ok (.iload_n 1, 1) := by decide +kernel
theorem d_Se_offer_55 : decode prog_6_method_8_code 55 = .ok (.aload_n 0, 1) := by decide +kernel
theorem d_Se_offer_56 : decode prog_6_method_8_code 56 = .ok (.getfield 52, 3) := by decide +kernel
theorem d_Se_offer_59 : decode prog_6_method_8_code 59 = .ok (.ifCond .eq 20, 3) := by decide +kernel
theorem d_Se_offer_62 : decode prog_6_method_8_code 62 = .ok (.iload_n 2, 1) := by decide +kernel
theorem d_Se_offer_63 : decode prog_6_method_8_code 63 = .ok (.aload_n 0, 1) := by decide +kernel
theorem d_Se_offer_64 : decode prog_6_method_8_code 64 = .ok (.getfield 21, 3) := by decide +kernel
theorem d_Se_offer_67 : decode prog_6_method_8_code 67 = .ok (.getfield 79, 3) := by decide +kernel
theorem d_Se_offer_70 : decode prog_6_method_8_code 70 = .ok (.iload_n 1, 1) := by decide +kernel
theorem d_Se_offer_71 : decode prog_6_method_8_code 71 = .ok (.iaload, 1) := by decide +kernel
theorem d_Se_offer_72 : decode prog_6_method_8_code 72 = .ok (.bipush 16, 2) := by decide +kernel
theorem d_Se_offer_74 : decode prog_6_method_8_code 74 = .ok (.imul, 1) := by decide +kernel
theorem d_Se_offer_75 : decode prog_6_method_8_code 75 = .ok (.iadd, 1) := by decide +kernel
theorem d_Se_offer_76 : decode prog_6_method_8_code 76 = .ok (.goto 4, 3) := by decide +kernel
theorem d_Se_offer_79 : decode prog_6_method_8_code 79 = .ok (.iload_n 2, 1) := by decide +kernel
theorem d_Se_offer_80 : decode prog_6_method_8_code 80 = .ok (.invokevirtual 82, 3) := by decide +kernel
theorem d_Se_offer_83 : decode prog_6_method_8_code 83 = .ok (.return_, 1) := by decide +kernel
def rm_Se_offer : Room := { frames := 2, cells := 0, slots := 0, locals := 47 }
def f_Se_offer (b : Nat) (σ : mS) (x1 : Int32) (x2 : Int32) : Option (mS) :=
  nm (1 <<< (x1 &&& 31)) fun v1 =>
  if ((σ.1 b 8) &&& v1) = 0 then (
  if ((σ.1 b 7) &&& v1) = 0 then (
  nm (sI σ b 7 ((σ.1 b 7) ||| v1)) fun σ2 =>
  gd (inb x1 10) ((nm (sI σ2 ((b + 1)) x1.toNatClampNeg x2) fun σ3 =>
  if (σ3.1 b 11) = 0 then (
  (f_Wa_put ((b + 4)) σ3 x1 x2).bind fun σ4 =>
  some σ4) else (
  gd (inb x1 10) (
  (f_Wa_put ((b + 4)) σ3 x1 (x2 + ((σ3.1 7 x1.toNatClampNeg) * 16))).bind fun σ5 =>
  some σ5))))) else (
  gd (inb x1 10) (
  if x2 < (σ.1 ((b + 1)) x1.toNatClampNeg) then (
  nm (sI σ b 7 ((σ.1 b 7) ||| v1)) fun σ6 =>
  gd (inb x1 10) ((nm (sI σ6 ((b + 1)) x1.toNatClampNeg x2) fun σ7 =>
  if (σ7.1 b 11) = 0 then (
  (f_Wa_put ((b + 4)) σ7 x1 x2).bind fun σ8 =>
  some σ8) else (
  gd (inb x1 10) (
  (f_Wa_put ((b + 4)) σ7 x1 (x2 + ((σ7.1 7 x1.toNatClampNeg) * 16))).bind fun σ9 =>
  some σ9))))) else (
  some σ)))) else (
  some σ)
set_option maxHeartbeats 4000000 in
set_option maxRecDepth 100000 in
theorem c_Se_offer (l : Launch) (D : va_G) (cA ad : Nat → Nat) {b : Nat} (hb : sB b) (σ : mS) (x1 : Int32) (x2 : Int32) (o : mS) (h : f_Se_offer b σ x1 x2 = some o) : mCv l ⟨"LeastPaths$Search", "offer", "(II)V"⟩ (Cond.code ⟨"LeastPaths$Search", "offer", "(II)V"⟩ prog_6_method_8_code 4 (Option.none : Option Jvm.ClassFile.FieldType) :: tlG) rm_Se_offer D clX (tyK cA) 99 (tbX cA) ad σ [.ref (ad b), .int x1, .int x2] o := by
  intro sz
  refine m_of (cc := prog_6_method_8_code) (maxL := 4) (Qc := mQv D clX (tyK cA) 99 (tbX cA) ad o) (by decide) (Nat.le_of_ble_eq_true rfl) (fun p e s m args below meth c ls S hr hlk hnm hl M => ?_) sz
  have hl : lv_has ls 4 [(0, .ref (ad b)), (1, .int x1), (2, .int x2)] := hl
  generalize hQ : MQ _ _ _ _ _ _ _ = Q
  skip
  unfold f_Se_offer at h
  refine lv_iconst (v := 1) S.1 S.2.1 d_Se_offer_0 (by decide) ?_
  refine lv_iload_n S.1 S.2.1 d_Se_offer_1 rfl (lv_at hl 1 rfl) ?_
  refine lv_ishl S.1 S.2.1 d_Se_offer_2 ?_
  refine m_ni h (fun v1 h => ?_)
  refine lv_istore_n (lv' := [(3, .int v1), (0, .ref (ad b)), (1, .int x1), (2, .int x2)]) S.1 S.2.1 d_Se_offer_3 rfl hl (by decide) rfl (fun ls hl => ?_)
  refine lv_aload_n S.1 S.2.1 d_Se_offer_4 rfl (lv_at hl 1 rfl) ?_
  refine m_gi S M (j := 8) ok_Se (lt_S0 hb) (tb_S0 hb) (by decide) rfl kw_44 rfl d_Se_offer_5 ?_
  refine lv_iload_n S.1 S.2.1 d_Se_offer_8 rfl (lv_at hl 0 rfl) ?_
  refine lv_iand S.1 S.2.1 d_Se_offer_9 ?_
  refine m_ifne (tgt := 32) S d_Se_offer_10 (by decide) h (fun h => ?_) (fun h => ?_)
  · subst hQ; exact m_vret S hr hlk M (Option.some.inj h) d_Se_offer_32
  · refine lv_aload_n S.1 S.2.1 d_Se_offer_13 rfl (lv_at hl 1 rfl) ?_
    refine m_gi S M (j := 7) ok_Se (lt_S0 hb) (tb_S0 hb) (by decide) rfl kw_43 rfl d_Se_offer_14 ?_
    refine lv_iload_n S.1 S.2.1 d_Se_offer_17 rfl (lv_at hl 0 rfl) ?_
    refine lv_iand S.1 S.2.1 d_Se_offer_18 ?_
    refine m_ifeq (tgt := 33) S d_Se_offer_19 (by decide) h (fun h => ?_) (fun h => ?_)
    · refine lv_aload_n S.1 S.2.1 d_Se_offer_33 rfl (lv_at hl 1 rfl) ?_
      refine lv_dup S.1 S.2.1 d_Se_offer_34 rfl ?_
      refine m_gi S M (j := 7) ok_Se (lt_S0 hb) (tb_S0 hb) (by decide) rfl kw_43 rfl d_Se_offer_35 ?_
      refine lv_iload_n S.1 S.2.1 d_Se_offer_38 rfl (lv_at hl 0 rfl) ?_
      refine lv_ior S.1 S.2.1 d_Se_offer_39 ?_
      refine m_pi S M (j := 7) ok_Se (lt_S0 hb) (tb_S0 hb) (by decide) rfl kw_43 rfl rfl rfl d_Se_offer_40 h (fun σ2 H locs h M => ?_)
      refine lv_aload_n S.1 S.2.1 d_Se_offer_43 rfl (lv_at hl 1 rfl) ?_
      refine m_gs (t := (b + 1)) S M (j := 3) ok_Se (lt_S0 hb) (tb_S0 hb) (by decide) rfl kw_63 rfl d_Se_offer_44 ?_
      refine lv_iload_n S.1 S.2.1 d_Se_offer_47 rfl (lv_at hl 2 rfl) ?_
      refine lv_iload_n S.1 S.2.1 d_Se_offer_48 rfl (lv_at hl 3 rfl) ?_
      refine m_ias (t0 := 0) S M (lt_S1 hb) (tb_S1 hb) rfl h d_Se_offer_49 (fun σ3 H locs h M => ?_)
      refine lv_aload_n S.1 S.2.1 d_Se_offer_50 rfl (lv_at hl 1 rfl) ?_
      refine m_gs (t := (b + 4)) S M (j := 2) ok_Se (lt_S0 hb) (tb_S0 hb) (by decide) rfl kw_37 rfl d_Se_offer_51 ?_
      refine lv_iload_n S.1 S.2.1 d_Se_offer_54 rfl (lv_at hl 2 rfl) ?_
      refine lv_aload_n S.1 S.2.1 d_Se_offer_55 rfl (lv_at hl 1 rfl) ?_
      refine m_gi S M (j := 11) ok_Se (lt_S0 hb) (tb_S0 hb) (by decide) rfl kw_54 rfl d_Se_offer_56 ?_
      refine m_ifeq (tgt := 79) S d_Se_offer_59 (by decide) h (fun h => ?_) (fun h => ?_)
      · refine lv_iload_n S.1 S.2.1 d_Se_offer_79 rfl (lv_at hl 3 rfl) ?_
        refine m_xv h (fun o ho => m_rV (As := [.int x1, .int x2]) (rest := []) S M hl.1 (cwG (n := 2) S.2.2.2.2 kw_65 kw_66 kw_67 kw_26 kw_68 (by decide) ⟨Nat.le_of_ble_eq_true rfl, Nat.le_of_ble_eq_true rfl⟩) ok_Wa (lt_W0 (sB_w hb)) (tb_W0 (sB_w hb)) (c_Wa_put l D cA ad (sB_w hb) σ3 x1 x2 o ho _) rfl rfl (Nat.le_of_ble_eq_true rfl) d_Se_offer_80 ⟨Nat.zero_le _, Nat.zero_le _⟩) M (fun σ4 H locs h M => ?_)
        subst hQ; exact m_vret S hr hlk M (Option.some.inj h) d_Se_offer_83
      · refine lv_iload_n S.1 S.2.1 d_Se_offer_62 rfl (lv_at hl 3 rfl) ?_
        refine lv_aload_n S.1 S.2.1 d_Se_offer_63 rfl (lv_at hl 1 rfl) ?_
        refine m_gs (t := 1) S M (j := 0) ok_Se (lt_S0 hb) (tb_S0 hb) (by decide) rfl kw_46 rfl d_Se_offer_64 ?_
        refine m_gs (t := 7) S M (j := 5) ok_Gr (by decide) rfl (by decide) rfl kw_69 rfl d_Se_offer_67 ?_
        refine lv_iload_n S.1 S.2.1 d_Se_offer_70 rfl (lv_at hl 2 rfl) ?_
        refine m_ial (t0 := 0) S M (by decide) rfl rfl h d_Se_offer_71 (fun h => ?_)
        refine lv_bipush (v := 16) S.1 S.2.1 d_Se_offer_72 (by decide) ?_
        refine lv_imul S.1 S.2.1 d_Se_offer_74 ?_
        refine lv_iadd S.1 S.2.1 d_Se_offer_75 ?_
        refine lv_goto (tgt := 80) S.1 S.2.1 d_Se_offer_76 (by decide) ?_
        refine m_xv h (fun o ho => m_rV (As := [.int x1, .int (x2 + ((σ3.1 7 x1.toNatClampNeg) * 16))]) (rest := []) S M hl.1 (cwG (n := 2) S.2.2.2.2 kw_65 kw_66 kw_67 kw_26 kw_68 (by decide) ⟨Nat.le_of_ble_eq_true rfl, Nat.le_of_ble_eq_true rfl⟩) ok_Wa (lt_W0 (sB_w hb)) (tb_W0 (sB_w hb)) (c_Wa_put l D cA ad (sB_w hb) σ3 x1 (x2 + ((σ3.1 7 x1.toNatClampNeg) * 16)) o ho _) rfl rfl (Nat.le_of_ble_eq_true rfl) d_Se_offer_80 ⟨Nat.zero_le _, Nat.zero_le _⟩) M (fun σ5 H locs h M => ?_)
        subst hQ; exact m_vret S hr hlk M (Option.some.inj h) d_Se_offer_83
    · refine lv_aload_n S.1 S.2.1 d_Se_offer_22 rfl (lv_at hl 1 rfl) ?_
      refine m_gs (t := (b + 1)) S M (j := 3) ok_Se (lt_S0 hb) (tb_S0 hb) (by decide) rfl kw_63 rfl d_Se_offer_23 ?_
      refine lv_iload_n S.1 S.2.1 d_Se_offer_26 rfl (lv_at hl 2 rfl) ?_
      refine m_ial (t0 := 0) S M (lt_S1 hb) (tb_S1 hb) rfl h d_Se_offer_27 (fun h => ?_)
      refine lv_iload_n S.1 S.2.1 d_Se_offer_28 rfl (lv_at hl 3 rfl) ?_
      refine m_igt (tgt := 33) S d_Se_offer_29 (by decide) h (fun h => ?_) (fun h => ?_)
      · refine lv_aload_n S.1 S.2.1 d_Se_offer_33 rfl (lv_at hl 1 rfl) ?_
        refine lv_dup S.1 S.2.1 d_Se_offer_34 rfl ?_
        refine m_gi S M (j := 7) ok_Se (lt_S0 hb) (tb_S0 hb) (by decide) rfl kw_43 rfl d_Se_offer_35 ?_
        refine lv_iload_n S.1 S.2.1 d_Se_offer_38 rfl (lv_at hl 0 rfl) ?_
        refine lv_ior S.1 S.2.1 d_Se_offer_39 ?_
        refine m_pi S M (j := 7) ok_Se (lt_S0 hb) (tb_S0 hb) (by decide) rfl kw_43 rfl rfl rfl d_Se_offer_40 h (fun σ6 H locs h M => ?_)
        refine lv_aload_n S.1 S.2.1 d_Se_offer_43 rfl (lv_at hl 1 rfl) ?_
        refine m_gs (t := (b + 1)) S M (j := 3) ok_Se (lt_S0 hb) (tb_S0 hb) (by decide) rfl kw_63 rfl d_Se_offer_44 ?_
        refine lv_iload_n S.1 S.2.1 d_Se_offer_47 rfl (lv_at hl 2 rfl) ?_
        refine lv_iload_n S.1 S.2.1 d_Se_offer_48 rfl (lv_at hl 3 rfl) ?_
        refine m_ias (t0 := 0) S M (lt_S1 hb) (tb_S1 hb) rfl h d_Se_offer_49 (fun σ7 H locs h M => ?_)
        refine lv_aload_n S.1 S.2.1 d_Se_offer_50 rfl (lv_at hl 1 rfl) ?_
        refine m_gs (t := (b + 4)) S M (j := 2) ok_Se (lt_S0 hb) (tb_S0 hb) (by decide) rfl kw_37 rfl d_Se_offer_51 ?_
        refine lv_iload_n S.1 S.2.1 d_Se_offer_54 rfl (lv_at hl 2 rfl) ?_
        refine lv_aload_n S.1 S.2.1 d_Se_offer_55 rfl (lv_at hl 1 rfl) ?_
        refine m_gi S M (j := 11) ok_Se (lt_S0 hb) (tb_S0 hb) (by decide) rfl kw_54 rfl d_Se_offer_56 ?_
        refine m_ifeq (tgt := 79) S d_Se_offer_59 (by decide) h (fun h => ?_) (fun h => ?_)
        · refine lv_iload_n S.1 S.2.1 d_Se_offer_79 rfl (lv_at hl 3 rfl) ?_
          refine m_xv h (fun o ho => m_rV (As := [.int x1, .int x2]) (rest := []) S M hl.1 (cwG (n := 2) S.2.2.2.2 kw_65 kw_66 kw_67 kw_26 kw_68 (by decide) ⟨Nat.le_of_ble_eq_true rfl, Nat.le_of_ble_eq_true rfl⟩) ok_Wa (lt_W0 (sB_w hb)) (tb_W0 (sB_w hb)) (c_Wa_put l D cA ad (sB_w hb) σ7 x1 x2 o ho _) rfl rfl (Nat.le_of_ble_eq_true rfl) d_Se_offer_80 ⟨Nat.zero_le _, Nat.zero_le _⟩) M (fun σ8 H locs h M => ?_)
          subst hQ; exact m_vret S hr hlk M (Option.some.inj h) d_Se_offer_83
        · refine lv_iload_n S.1 S.2.1 d_Se_offer_62 rfl (lv_at hl 3 rfl) ?_
          refine lv_aload_n S.1 S.2.1 d_Se_offer_63 rfl (lv_at hl 1 rfl) ?_
          refine m_gs (t := 1) S M (j := 0) ok_Se (lt_S0 hb) (tb_S0 hb) (by decide) rfl kw_46 rfl d_Se_offer_64 ?_
          refine m_gs (t := 7) S M (j := 5) ok_Gr (by decide) rfl (by decide) rfl kw_69 rfl d_Se_offer_67 ?_
          refine lv_iload_n S.1 S.2.1 d_Se_offer_70 rfl (lv_at hl 2 rfl) ?_
          refine m_ial (t0 := 0) S M (by decide) rfl rfl h d_Se_offer_71 (fun h => ?_)
          refine lv_bipush (v := 16) S.1 S.2.1 d_Se_offer_72 (by decide) ?_
          refine lv_imul S.1 S.2.1 d_Se_offer_74 ?_
          refine lv_iadd S.1 S.2.1 d_Se_offer_75 ?_
          refine lv_goto (tgt := 80) S.1 S.2.1 d_Se_offer_76 (by decide) ?_
          refine m_xv h (fun o ho => m_rV (As := [.int x1, .int (x2 + ((σ7.1 7 x1.toNatClampNeg) * 16))]) (rest := []) S M hl.1 (cwG (n := 2) S.2.2.2.2 kw_65 kw_66 kw_67 kw_26 kw_68 (by decide) ⟨Nat.le_of_ble_eq_true rfl, Nat.le_of_ble_eq_true rfl⟩) ok_Wa (lt_W0 (sB_w hb)) (tb_W0 (sB_w hb)) (c_Wa_put l D cA ad (sB_w hb) σ7 x1 (x2 + ((σ7.1 7 x1.toNatClampNeg) * 16)) o ho _) rfl rfl (Nat.le_of_ble_eq_true rfl) d_Se_offer_80 ⟨Nat.zero_le _, Nat.zero_le _⟩) M (fun σ9 H locs h M => ?_)
          subst hQ; exact m_vret S hr hlk M (Option.some.inj h) d_Se_offer_83
      · subst hQ; exact m_vret S hr hlk M (Option.some.inj h) d_Se_offer_32
theorem d_Se_startOf_0 : decode prog_6_method_17_code 0 = .ok (.aload_n 0, 1) := by decide +kernel
theorem d_Se_startOf_1 : decode prog_6_method_17_code 1 = .ok (.getfield 25, 3) := by decide +kernel
theorem d_Se_startOf_4 : decode prog_6_method_17_code 4 = .ok (.ifCond .eq 15, 3) := by decide +kernel
theorem d_Se_startOf_7 : decode prog_6_method_17_code 7 = .ok (.aload_n 0, 1) := by decide +kernel
theorem d_Se_startOf_8 : decode prog_6_method_17_code 8 = .ok (.getfield 21, 3) := by decide +kernel
theorem d_Se_startOf_11 : decode prog_6_method_17_code 11 = .ok (.getfield 137, 3) := by decide +kernel
theorem d_Se_startOf_14 : decode prog_6_method_17_code 14 = .ok (.iload_n 1, 1) := by decide +kernel
theorem d_Se_startOf_15 : decode prog_6_method_17_code 15 = .ok (.iaload, 1) := by decide +kernel
theorem d_Se_startOf_16 : decode prog_6_method_17_code 16 = .ok (.goto 12, 3) := by decide +kernel
theorem d_Se_startOf_19 : decode prog_6_method_17_code 19 = .ok (.aload_n 0, 1) := by decide +kernel
theorem d_Se_startOf_20 : decode prog_6_method_17_code 20 = .ok (.getfield 21, 3) := by decide +kernel
theorem d_Se_startOf_23 : decode prog_6_method_17_code 23 = .ok (.getfield 140, 3) := by decide +kernel
theorem d_Se_startOf_26 : decode prog_6_method_17_code 26 = .ok (.iload_n 1, 1) := by decide +kernel
theorem d_Se_startOf_27 : decode prog_6_method_17_code 27 = .ok (.iaload, 1) := by decide +kernel
theorem d_Se_startOf_28 : decode prog_6_method_17_code 28 = .ok (.ireturn, 1) := by decide +kernel
def rm_Se_startOf : Room := { frames := 0, cells := 0, slots := 0, locals := 0 }
def f_Se_startOf (b : Nat) (σ : mS) (x1 : Int32) : Option (Int32) :=
  if (σ.1 b 1) = 0 then (
  gd (inb x1 40) (
  some (σ.1 2 x1.toNatClampNeg))) else (
  gd (inb x1 40) (
  some (σ.1 3 x1.toNatClampNeg)))
set_option maxHeartbeats 4000000 in
set_option maxRecDepth 100000 in
theorem c_Se_startOf (l : Launch) (D : va_G) (cA ad : Nat → Nat) {b : Nat} (hb : sB b) (σ : mS) (x1 : Int32) (o : Int32) (h : f_Se_startOf b σ x1 = some o) : mCi l ⟨"LeastPaths$Search", "startOf", "(I)I"⟩ (Cond.code ⟨"LeastPaths$Search", "startOf", "(I)I"⟩ prog_6_method_17_code 2 (Option.some Jvm.ClassFile.FieldType.int) :: tlG) rm_Se_startOf D clX (tyK cA) 99 (tbX cA) ad σ [.ref (ad b), .int x1] (o, σ) := by
  intro sz
  refine m_of (cc := prog_6_method_17_code) (maxL := 2) (Qc := mQi D clX (tyK cA) 99 (tbX cA) ad (o, σ)) (by decide) (Nat.le_of_ble_eq_true rfl) (fun p e s m args below meth c ls S hr hlk hnm hl M => ?_) sz
  have hl : lv_has ls 2 [(0, .ref (ad b)), (1, .int x1)] := hl
  generalize hQ : MQ _ _ _ _ _ _ _ = Q
  skip
  unfold f_Se_startOf at h
  refine lv_aload_n S.1 S.2.1 d_Se_startOf_0 rfl (lv_at hl 0 rfl) ?_
  refine m_gi S M (j := 1) ok_Se (lt_S0 hb) (tb_S0 hb) (by decide) rfl kw_70 rfl d_Se_startOf_1 ?_
  refine m_ifeq (tgt := 19) S d_Se_startOf_4 (by decide) h (fun h => ?_) (fun h => ?_)
  · refine lv_aload_n S.1 S.2.1 d_Se_startOf_19 rfl (lv_at hl 0 rfl) ?_
    refine m_gs (t := 1) S M (j := 0) ok_Se (lt_S0 hb) (tb_S0 hb) (by decide) rfl kw_46 rfl d_Se_startOf_20 ?_
    refine m_gs (t := 2) S M (j := 0) ok_Gr (by decide) rfl (by decide) rfl kw_71 rfl d_Se_startOf_23 ?_
    refine lv_iload_n S.1 S.2.1 d_Se_startOf_26 rfl (lv_at hl 1 rfl) ?_
    refine m_ial (t0 := 0) S M (by decide) rfl rfl h d_Se_startOf_27 (fun h => ?_)
    subst hQ; exact m_iret S hr hlk M (by rw [Option.some.inj h]) d_Se_startOf_28
  · refine lv_aload_n S.1 S.2.1 d_Se_startOf_7 rfl (lv_at hl 0 rfl) ?_
    refine m_gs (t := 1) S M (j := 0) ok_Se (lt_S0 hb) (tb_S0 hb) (by decide) rfl kw_46 rfl d_Se_startOf_8 ?_
    refine m_gs (t := 3) S M (j := 1) ok_Gr (by decide) rfl (by decide) rfl kw_72 rfl d_Se_startOf_11 ?_
    refine lv_iload_n S.1 S.2.1 d_Se_startOf_14 rfl (lv_at hl 1 rfl) ?_
    refine m_ial (t0 := 0) S M (by decide) rfl rfl h d_Se_startOf_15 (fun h => ?_)
    refine lv_goto (tgt := 28) S.1 S.2.1 d_Se_startOf_16 (by decide) ?_
    subst hQ; exact m_iret S hr hlk M (by rw [Option.some.inj h]) d_Se_startOf_28
theorem d_Se_isOpen_0 : decode prog_6_method_16_code 0 = .ok (.aload_n 0, 1) := by decide +kernel
theorem d_Se_isOpen_1 : decode prog_6_method_16_code 1 = .ok (.getfield 67, 3) := by decide +kernel
theorem d_Se_isOpen_4 : decode prog_6_method_16_code 4 = .ok (.iload_n 1, 1) := by decide +kernel
theorem d_Se_isOpen_5 : decode prog_6_method_16_code 5 = .ok (.lshr, 1) := by decide +kernel
theorem d_Se_isOpen_6 : decode prog_6_method_16_code 6 = .ok (.lconst 1, 1) := by decide +kernel
theorem d_Se_isOpen_7 : decode prog_6_method_16_code 7 = .ok (.land, 1) := by decide +kernel
theorem d_Se_isOpen_8 : decode prog_6_method_16_code 8 = .ok (.lconst 0, 1) := by decide +kernel
theorem d_Se_isOpen_9 : decode prog_6_method_16_code 9 = .ok (.lcmp, 1) := by decide +kernel
theorem d_Se_isOpen_10 : decode prog_6_method_16_code 10 = .ok (.ifCond .eq 7, 3) := by decide +kernel
theorem d_Se_isOpen_13 : decode prog_6_method_16_code 13 = .ok (.iconst 1, 1) := by decide +kernel
theorem d_Se_isOpen_14 : decode prog_6_method_16_code 14 = .ok (.goto 4, 3) := by decide +kernel
theorem d_Se_isOpen_17 : decode prog_6_method_16_code 17 = .ok (.iconst 0, 1) := by decide +kernel
theorem d_Se_isOpen_18 : decode prog_6_method_16_code 18 = .ok (.ireturn, 1) := by decide +kernel
def rm_Se_isOpen : Room := { frames := 0, cells := 0, slots := 0, locals := 0 }
def f_Se_isOpen (b : Nat) (σ : mS) (x1 : Int32) : Option (Int32) :=
  if (lg_cmp (((σ.2.1 b 9) >>> (x1.toInt64 &&& 63)) &&& 1) 0) = 0 then (
  some 0) else (
  some 1)
set_option maxHeartbeats 4000000 in
set_option maxRecDepth 100000 in
theorem c_Se_isOpen (l : Launch) (D : va_G) (cA ad : Nat → Nat) {b : Nat} (hb : sB b) (σ : mS) (x1 : Int32) (o : Int32) (h : f_Se_isOpen b σ x1 = some o) : mCi l ⟨"LeastPaths$Search", "isOpen", "(I)Z"⟩ (Cond.code ⟨"LeastPaths$Search", "isOpen", "(I)Z"⟩ prog_6_method_16_code 2 (Option.some Jvm.ClassFile.FieldType.boolean) :: tlG) rm_Se_isOpen D clX (tyK cA) 99 (tbX cA) ad σ [.ref (ad b), .int x1] (o, σ) := by
  intro sz
  refine m_of (cc := prog_6_method_16_code) (maxL := 2) (Qc := mQi D clX (tyK cA) 99 (tbX cA) ad (o, σ)) (by decide) (Nat.le_of_ble_eq_true rfl) (fun p e s m args below meth c ls S hr hlk hnm hl M => ?_) sz
  have hl : lv_has ls 2 [(0, .ref (ad b)), (1, .int x1)] := hl
  generalize hQ : MQ _ _ _ _ _ _ _ = Q
  skip
  unfold f_Se_isOpen at h
  refine lv_aload_n S.1 S.2.1 d_Se_isOpen_0 rfl (lv_at hl 0 rfl) ?_
  refine m_gl S M (j := 9) ok_Se (lt_S0 hb) (tb_S0 hb) (by decide) rfl kw_45 rfl d_Se_isOpen_1 ?_
  refine lv_iload_n S.1 S.2.1 d_Se_isOpen_4 rfl (lv_at hl 1 rfl) ?_
  refine lv_lshr S.1 S.2.1 d_Se_isOpen_5 rfl ?_
  refine lv_lconst (v := 1) S.1 S.2.1 d_Se_isOpen_6 (by decide) ?_
  refine lv_land S.1 S.2.1 d_Se_isOpen_7 ?_
  refine lv_lconst (v := 0) S.1 S.2.1 d_Se_isOpen_8 (by decide) ?_
  refine W.lcmp S.1 S.2.1 d_Se_isOpen_9 ?_
  refine m_ifeq (tgt := 17) S d_Se_isOpen_10 (by decide) h (fun h => ?_) (fun h => ?_)
  · refine lv_iconst (v := 0) S.1 S.2.1 d_Se_isOpen_17 (by decide) ?_
    subst hQ; exact m_zret S hr hlk M (by rw [Option.some.inj h]) rfl d_Se_isOpen_18
  · refine lv_iconst (v := 1) S.1 S.2.1 d_Se_isOpen_13 (by decide) ?_
    refine lv_goto (tgt := 18) S.1 S.2.1 d_Se_isOpen_14 (by decide) ?_
    subst hQ; exact m_zret S hr hlk M (by rw [Option.some.inj h]) rfl d_Se_isOpen_18
theorem d_Se_endOf_0 : decode prog_6_method_18_code 0 = .ok (.aload_n 0, 1) := by decide +kernel
theorem d_Se_endOf_1 : decode prog_6_method_18_code 1 = .ok (.getfield 25, 3) := by decide +kernel
theorem d_Se_endOf_4 : decode prog_6_method_18_code 4 = .ok (.ifCond .eq 15, 3) := by decide +kernel
theorem d_Se_endOf_7 : decode prog_6_method_18_code 7 = .ok (.aload_n 0, 1) := by decide +kernel
theorem d_Se_endOf_8 : decode prog_6_method_18_code 8 = .ok (.getfield 21, 3) := by decide +kernel
theorem d_Se_endOf_11 : decode prog_6_method_18_code 11 = .ok (.getfield 140, 3) := by decide +kernel
theorem d_Se_endOf_14 : decode prog_6_method_18_code 14 = .ok (.iload_n 1, 1) := by decide +kernel
theorem d_Se_endOf_15 : decode prog_6_method_18_code 15 = .ok (.iaload, 1) := by decide +kernel
theorem d_Se_endOf_16 : decode prog_6_method_18_code 16 = .ok (.goto 12, 3) := by decide +kernel
theorem d_Se_endOf_19 : decode prog_6_method_18_code 19 = .ok (.aload_n 0, 1) := by decide +kernel
theorem d_Se_endOf_20 : decode prog_6_method_18_code 20 = .ok (.getfield 21, 3) := by decide +kernel
theorem d_Se_endOf_23 : decode prog_6_method_18_code 23 = .ok (.getfield 137, 3) := by decide +kernel
theorem d_Se_endOf_26 : decode prog_6_method_18_code 26 = .ok (.iload_n 1, 1) := by decide +kernel
theorem d_Se_endOf_27 : decode prog_6_method_18_code 27 = .ok (.iaload, 1) := by decide +kernel
theorem d_Se_endOf_28 : decode prog_6_method_18_code 28 = .ok (.ireturn, 1) := by decide +kernel
def rm_Se_endOf : Room := { frames := 0, cells := 0, slots := 0, locals := 0 }
def f_Se_endOf (b : Nat) (σ : mS) (x1 : Int32) : Option (Int32) :=
  if (σ.1 b 1) = 0 then (
  gd (inb x1 40) (
  some (σ.1 3 x1.toNatClampNeg))) else (
  gd (inb x1 40) (
  some (σ.1 2 x1.toNatClampNeg)))
set_option maxHeartbeats 4000000 in
set_option maxRecDepth 100000 in
theorem c_Se_endOf (l : Launch) (D : va_G) (cA ad : Nat → Nat) {b : Nat} (hb : sB b) (σ : mS) (x1 : Int32) (o : Int32) (h : f_Se_endOf b σ x1 = some o) : mCi l ⟨"LeastPaths$Search", "endOf", "(I)I"⟩ (Cond.code ⟨"LeastPaths$Search", "endOf", "(I)I"⟩ prog_6_method_18_code 2 (Option.some Jvm.ClassFile.FieldType.int) :: tlG) rm_Se_endOf D clX (tyK cA) 99 (tbX cA) ad σ [.ref (ad b), .int x1] (o, σ) := by
  intro sz
  refine m_of (cc := prog_6_method_18_code) (maxL := 2) (Qc := mQi D clX (tyK cA) 99 (tbX cA) ad (o, σ)) (by decide) (Nat.le_of_ble_eq_true rfl) (fun p e s m args below meth c ls S hr hlk hnm hl M => ?_) sz
  have hl : lv_has ls 2 [(0, .ref (ad b)), (1, .int x1)] := hl
  generalize hQ : MQ _ _ _ _ _ _ _ = Q
  skip
  unfold f_Se_endOf at h
  refine lv_aload_n S.1 S.2.1 d_Se_endOf_0 rfl (lv_at hl 0 rfl) ?_
  refine m_gi S M (j := 1) ok_Se (lt_S0 hb) (tb_S0 hb) (by decide) rfl kw_70 rfl d_Se_endOf_1 ?_
  refine m_ifeq (tgt := 19) S d_Se_endOf_4 (by decide) h (fun h => ?_) (fun h => ?_)
  · refine lv_aload_n S.1 S.2.1 d_Se_endOf_19 rfl (lv_at hl 0 rfl) ?_
    refine m_gs (t := 1) S M (j := 0) ok_Se (lt_S0 hb) (tb_S0 hb) (by decide) rfl kw_46 rfl d_Se_endOf_20 ?_
    refine m_gs (t := 3) S M (j := 1) ok_Gr (by decide) rfl (by decide) rfl kw_72 rfl d_Se_endOf_23 ?_
    refine lv_iload_n S.1 S.2.1 d_Se_endOf_26 rfl (lv_at hl 1 rfl) ?_
    refine m_ial (t0 := 0) S M (by decide) rfl rfl h d_Se_endOf_27 (fun h => ?_)
    subst hQ; exact m_iret S hr hlk M (by rw [Option.some.inj h]) d_Se_endOf_28
  · refine lv_aload_n S.1 S.2.1 d_Se_endOf_7 rfl (lv_at hl 0 rfl) ?_
    refine m_gs (t := 1) S M (j := 0) ok_Se (lt_S0 hb) (tb_S0 hb) (by decide) rfl kw_46 rfl d_Se_endOf_8 ?_
    refine m_gs (t := 2) S M (j := 0) ok_Gr (by decide) rfl (by decide) rfl kw_71 rfl d_Se_endOf_11 ?_
    refine lv_iload_n S.1 S.2.1 d_Se_endOf_14 rfl (lv_at hl 1 rfl) ?_
    refine m_ial (t0 := 0) S M (by decide) rfl rfl h d_Se_endOf_15 (fun h => ?_)
    refine lv_goto (tgt := 28) S.1 S.2.1 d_Se_endOf_16 (by decide) ?_
    subst hQ; exact m_iret S hr hlk M (by rw [Option.some.inj h]) d_Se_endOf_28
theorem d_Se_costOf_0 : decode prog_6_method_19_code 0 = .ok (.aload_n 0, 1) := by decide +kernel
theorem d_Se_costOf_1 : decode prog_6_method_19_code 1 = .ok (.getfield 21, 3) := by decide +kernel
theorem d_Se_costOf_4 : decode prog_6_method_19_code 4 = .ok (.getfield 129, 3) := by decide +kernel
theorem d_Se_costOf_7 : decode prog_6_method_19_code 7 = .ok (.iload_n 1, 1) := by decide +kernel
theorem d_Se_costOf_8 : decode prog_6_method_19_code 8 = .ok (.iaload, 1) := by decide +kernel
theorem d_Se_costOf_9 : decode prog_6_method_19_code 9 = .ok (.bipush 16, 2) := by decide +kernel
theorem d_Se_costOf_11 : decode prog_6_method_19_code 11 = .ok (.imul, 1) := by decide +kernel
theorem d_Se_costOf_12 : decode prog_6_method_19_code 12 = .ok (.aload_n 0, 1) := by decide +kernel
theorem d_Se_costOf_13 : decode prog_6_method_19_code 13 = .ok (.getfield 48, 3) := by decide +kernel
theorem d_Se_costOf_16 : decode prog_6_method_19_code 16 = .ok (.iadd, 1) := by decide +kernel
theorem d_Se_costOf_17 : decode prog_6_method_19_code 17 = .ok (.ireturn, 1) := by decide +kernel
def rm_Se_costOf : Room := { frames := 0, cells := 0, slots := 0, locals := 0 }
def f_Se_costOf (b : Nat) (σ : mS) (x1 : Int32) : Option (Int32) :=
  gd (inb x1 40) (
  some (((σ.1 4 x1.toNatClampNeg) * 16) + (σ.1 b 10)))
set_option maxHeartbeats 4000000 in
set_option maxRecDepth 100000 in
theorem c_Se_costOf (l : Launch) (D : va_G) (cA ad : Nat → Nat) {b : Nat} (hb : sB b) (σ : mS) (x1 : Int32) (o : Int32) (h : f_Se_costOf b σ x1 = some o) : mCi l ⟨"LeastPaths$Search", "costOf", "(I)I"⟩ (Cond.code ⟨"LeastPaths$Search", "costOf", "(I)I"⟩ prog_6_method_19_code 2 (Option.some Jvm.ClassFile.FieldType.int) :: tlG) rm_Se_costOf D clX (tyK cA) 99 (tbX cA) ad σ [.ref (ad b), .int x1] (o, σ) := by
  intro sz
  refine m_of (cc := prog_6_method_19_code) (maxL := 2) (Qc := mQi D clX (tyK cA) 99 (tbX cA) ad (o, σ)) (by decide) (Nat.le_of_ble_eq_true rfl) (fun p e s m args below meth c ls S hr hlk hnm hl M => ?_) sz
  have hl : lv_has ls 2 [(0, .ref (ad b)), (1, .int x1)] := hl
  generalize hQ : MQ _ _ _ _ _ _ _ = Q
  skip
  unfold f_Se_costOf at h
  refine lv_aload_n S.1 S.2.1 d_Se_costOf_0 rfl (lv_at hl 0 rfl) ?_
  refine m_gs (t := 1) S M (j := 0) ok_Se (lt_S0 hb) (tb_S0 hb) (by decide) rfl kw_46 rfl d_Se_costOf_1 ?_
  refine m_gs (t := 4) S M (j := 2) ok_Gr (by decide) rfl (by decide) rfl kw_73 rfl d_Se_costOf_4 ?_
  refine lv_iload_n S.1 S.2.1 d_Se_costOf_7 rfl (lv_at hl 1 rfl) ?_
  refine m_ial (t0 := 0) S M (by decide) rfl rfl h d_Se_costOf_8 (fun h => ?_)
  refine lv_bipush (v := 16) S.1 S.2.1 d_Se_costOf_9 (by decide) ?_
  refine lv_imul S.1 S.2.1 d_Se_costOf_11 ?_
  refine lv_aload_n S.1 S.2.1 d_Se_costOf_12 rfl (lv_at hl 0 rfl) ?_
  refine m_gi S M (j := 10) ok_Se (lt_S0 hb) (tb_S0 hb) (by decide) rfl kw_53 rfl d_Se_costOf_13 ?_
  refine lv_iadd S.1 S.2.1 d_Se_costOf_16 ?_
  subst hQ; exact m_iret S hr hlk M (by rw [Option.some.inj h]) d_Se_costOf_17
theorem d_Se_settleFirst_0 : decode prog_6_method_9_code 0 = .ok (.aload_n 0, 1) := by decide +kernel
theorem d_Se_settleFirst_1 : decode prog_6_method_9_code 1 = .ok (.getfield 34, 3) := by decide +kernel
theorem d_Se_settleFirst_4 : decode prog_6_method_9_code 4 = .ok (.invokevirtual 86, 3) := by decide +kernel
theorem d_Se_settleFirst_7 : decode prog_6_method_9_code 7 = .ok (.istore_n 1, 1) := by decide +kernel
theorem d_Se_settleFirst_8 : decode prog_6_method_9_code 8 = .ok (.iload_n 1, 1) := by decide +kernel
theorem d_Se_settleFirst_9 : decode prog_6_method_9_code 9 = .ok (.iconst (-1), 1) := by decide +kernel
theorem d_Se_settleFirst_10 : decode prog_6_method_9_code 10 = .ok (.if_icmp .eq 12, 3) := by decide +kernel
theorem d_Se_settleFirst_13 : decode prog_6_method_9_code 13 = .ok (.aload_n 0, 1) := by decide +kernel
theorem d_Se_settleFirst_14 : decode prog_6_method_9_code 14 = .ok (.getfield 58, 3) := by decide +kernel
theorem d_Se_settleFirst_17 : decode prog_6_method_9_code 17 = .ok (.bipush 10, 2) := by decide +kernel
theorem d_Se_settleFirst_19 : decode prog_6_method_9_code 19 = .ok (.if_icmp .lt 5, 3) := by decide +kernel
theorem d_Se_settleFirst_22 : decode prog_6_method_9_code 22 = .ok (.iconst (-1), 1) := by decide +kernel
theorem d_Se_settleFirst_23 : decode prog_6_method_9_code 23 = .ok (.ireturn, 1) := by decide +kernel
theorem d_Se_settleFirst_24 : decode prog_6_method_9_code 24 = .ok (.aload_n 0, 1) := by decide +kernel
theorem d_Se_settleFirst_25 : decode prog_6_method_9_code 25 = .ok (.dup, 1) := by decide +kernel
theorem d_Se_settleFirst_26 : decode prog_6_method_9_code 26 = .ok (.getfield 64, 3) := by decide +kernel
theorem d_Se_settleFirst_29 : decode prog_6_method_9_code 29 = .ok (.iconst 1, 1) := by decide +kernel
theorem d_Se_settleFirst_30 : decode prog_6_method_9_code 30 = .ok (.iload_n 1, 1) := by decide +kernel
theorem d_Se_settleFirst_31 : decode prog_6_method_9_code 31 = .ok (.ishl, 1) := by decide +kernel
theorem d_Se_settleFirst_32 : decode prog_6_method_9_code 32 = .ok (.ior, 1) := by decide +kernel
theorem d_Se_settleFirst_33 : decode prog_6_method_9_code 33 = .ok (.putfield 64, 3) := by decide +kernel
theorem d_Se_settleFirst_36 : decode prog_6_method_9_code 36 = .ok (.aload_n 0, 1) := by decide +kernel
theorem d_Se_settleFirst_37 : decode prog_6_method_9_code 37 = .ok (.getfield 15, 3) := by decide +kernel
theorem d_Se_settleFirst_40 : decode prog_6_method_9_code 40 = .ok (.aload_n 0, 1) := by decide +kernel
theorem d_Se_settleFirst_41 : decode prog_6_method_9_code 41 = .ok (.getfield 58, 3) := by decide +kernel
theorem d_Se_settleFirst_44 : decode prog_6_method_9_code 44 = .ok (.iload_n 1, 1) := by decide +kernel
theorem d_Se_settleFirst_45 : decode prog_6_method_9_code 45 = .ok (.iastore, 1) := by decide +kernel
theorem d_Se_settleFirst_46 : decode prog_6_method_9_code 46 = .ok (.aload_n 0, 1) := by decide +kernel
theorem d_Se_settleFirst_47 : decode prog_6_method_9_code 47 = .ok (.dup, 1) := by decide +kernel
theorem d_Se_settleFirst_48 : decode prog_6_method_9_code 48 = .ok (.getfield 58, 3) := by decide +kernel
theorem d_Se_settleFirst_51 : decode prog_6_method_9_code 51 = .ok (.iconst 1, 1) := by decide +kernel
theorem d_Se_settleFirst_52 : decode prog_6_method_9_code 52 = .ok (.iadd, 1) := by decide +kernel
theorem d_Se_settleFirst_53 : decode prog_6_method_9_code 53 = .ok (.putfield 58, 3) := by decide +kernel
theorem d_Se_settleFirst_56 : decode prog_6_method_9_code 56 = .ok (.iconst 0, 1) := by decide +kernel
theorem d_Se_settleFirst_57 : decode prog_6_method_9_code 57 = .ok (.istore_n 2, 1) := by decide +kernel
theorem d_Se_settleFirst_58 : decode prog_6_method_9_code 58 = .ok (.iload_n 2, 1) := by decide +kernel
theorem d_Se_settleFirst_59 : decode prog_6_method_9_code 59 = .ok (.aload_n 0, 1) := by decide +kernel
theorem d_Se_settleFirst_60 : decode prog_6_method_9_code 60 = .ok (.getfield 21, 3) := by decide +kernel
theorem d_Se_settleFirst_63 : decode prog_6_method_9_code 63 = .ok (.getfield 89, 3) := by decide +kernel
theorem d_Se_settleFirst_66 : decode prog_6_method_9_code 66 = .ok (.if_icmp .ge 47, 3) := by decide +kernel
theorem d_Se_settleFirst_69 : decode prog_6_method_9_code 69 = .ok (.aload_n 0, 1) := by decide +kernel
theorem d_Se_settleFirst_70 : decode prog_6_method_9_code 70 = .ok (.iload_n 2, 1) := by decide +kernel
theorem d_Se_settleFirst_71 : decode prog_6_method_9_code 71 = .ok (.invokevirtual 92, 3) := by decide +kernel
theorem d_Se_settleFirst_74 : decode prog_6_method_9_code 74 = .ok (.iload_n 1, 1) := by decide +kernel
theorem d_Se_settleFirst_75 : decode prog_6_method_9_code 75 = .ok (.if_icmp .ne 32, 3) := by decide +kernel
theorem d_Se_settleFirst_78 : decode prog_6_method_9_code 78 = .ok (.aload_n 0, 1) := by decide +kernel
theorem d_Se_settleFirst_79 : decode prog_6_method_9_code 79 = .ok (.iload_n 2, 1) := by decide +kernel
theorem d_Se_settleFirst_80 : decode prog_6_method_9_code 80 = .ok (.invokevirtual 96, 3) := by decide +kernel
theorem d_Se_settleFirst_83 : decode prog_6_method_9_code 83 = .ok (.ifCond .eq 24, 3) := by decide +kernel
theorem d_Se_settleFirst_86 : decode prog_6_method_9_code 86 = .ok (.aload_n 0, 1) := by decide +kernel
theorem d_Se_settleFirst_87 : decode prog_6_method_9_code 87 = .ok (.aload_n 0, 1) := by decide +kernel
theorem d_Se_settleFirst_88 : decode prog_6_method_9_code 88 = .ok (.iload_n 2, 1) := by decide +kernel
theorem d_Se_settleFirst_89 : decode prog_6_method_9_code 89 = .ok (.invokevirtual 100, 3) := by decide +kernel
theorem d_Se_settleFirst_92 : decode prog_6_method_9_code 92 = .ok (.aload_n 0, 1) := by decide +kernel
theorem d_Se_settleFirst_93 : decode prog_6_method_9_code 93 = .ok (.getfield 9, 3) := by decide +kernel
theorem d_Se_settleFirst_96 : decode prog_6_method_9_code 96 = .ok (.iload_n 1, 1) := by decide +kernel
theorem d_Se_settleFirst_97 : decode prog_6_method_9_code 97 = .ok (.iaload, 1) := by decide +kernel
theorem d_Se_settleFirst_98 : decode prog_6_method_9_code 98 = .ok (.aload_n 0, 1) := by decide +kernel
theorem d_Se_settleFirst_99 : decode prog_6_method_9_code 99 = .ok (.iload_n 2, 1) := by decide +kernel
theorem d_Se_settleFirst_100 : decode prog_6_method_9_code 100 = .ok (.invokevirtual 103, 3) := by decide +kernel
theorem d_Se_settleFirst_103 : decode prog_6_method_9_code 103 = .ok (.iadd, 1) := by decide +kernel
theorem d_Se_settleFirst_104 : decode prog_6_method_9_code 104 = .ok (.invokevirtual 106, 3) := by decide +kernel
theorem d_Se_settleFirst_107 : decode prog_6_method_9_code 107 = .ok (.iinc 2 1, 3) := by decide +kernel
theorem d_Se_settleFirst_110 : decode prog_6_method_9_code 110 = .ok (.goto (-52), 3) := by decide +kernel
theorem d_Se_settleFirst_113 : decode prog_6_method_9_code 113 = .ok (.iload_n 1, 1) := by decide +kernel
theorem d_Se_settleFirst_114 : decode prog_6_method_9_code 114 = .ok (.ireturn, 1) := by decide +kernel
def rm_Se_settleFirst : Room := { frames := 3, cells := 0, slots := 0, locals := 70 }
def f_Se_settleFirst_L58 (b : Nat) (o1 : Int32 × mS) : (Int32 × mS) → Option ((Int32 × mS) ⊕ (Int32 × mS)) := fun t58 =>
  if (t58.2.1 1 7) ≤ t58.1 then (
  some (.inr (t58.1, t58.2))) else (
  (f_Se_startOf b t58.2 t58.1).bind fun v5 =>
  if v5 = o1.1 then (
  (f_Se_isOpen b t58.2 t58.1).bind fun v6 =>
  if v6 = 0 then (
  some (.inl (t58.1 + 1, t58.2))) else (
  (f_Se_endOf b t58.2 t58.1).bind fun v7 =>
  gd (inb o1.1 10) (
  (f_Se_costOf b t58.2 t58.1).bind fun v8 =>
  (f_Se_offer b t58.2 v7 ((t58.2.1 ((b + 1)) o1.1.toNatClampNeg) + v8)).bind fun σ9 =>
  some (.inl (t58.1 + 1, σ9))))) else (
  some (.inl (t58.1 + 1, t58.2))))
def f_Se_settleFirst (b : Nat) (σ : mS) : Option (Int32 × mS) :=
  (f_Wa_takeFirst ((b + 4)) σ).bind fun o1 =>
  if o1.1 = ((-1)) then (
  some ((-1), o1.2)) else (
  if (o1.2.1 b 6) < 10 then (
  nm (sI o1.2 b 8 ((o1.2.1 b 8) ||| (1 <<< (o1.1 &&& 31)))) fun σ2 =>
  gd (inb (σ2.1 b 6) 10) ((nm (sI σ2 ((b + 2)) (σ2.1 b 6).toNatClampNeg o1.1) fun σ3 =>
  nm (sI σ3 b 6 ((σ3.1 b 6) + 1)) fun σ4 =>
  (lpN (f_Se_settleFirst_L58 b o1) fuS (0, σ4)).bind fun u58 =>
  some (o1.1, u58.2)))) else (
  some ((-1), o1.2)))
set_option maxHeartbeats 4000000 in
set_option maxRecDepth 100000 in
theorem c_Se_settleFirst (l : Launch) (D : va_G) (cA ad : Nat → Nat) {b : Nat} (hb : sB b) (σ : mS) (o : Int32 × mS) (h : f_Se_settleFirst b σ = some o) : mCi l ⟨"LeastPaths$Search", "settleFirst", "()I"⟩ (Cond.code ⟨"LeastPaths$Search", "settleFirst", "()I"⟩ prog_6_method_9_code 3 (Option.some Jvm.ClassFile.FieldType.int) :: tlG) rm_Se_settleFirst D clX (tyK cA) 99 (tbX cA) ad σ [.ref (ad b)] o := by
  intro sz
  refine m_of (cc := prog_6_method_9_code) (maxL := 3) (Qc := mQi D clX (tyK cA) 99 (tbX cA) ad o) (by decide) (Nat.le_of_ble_eq_true rfl) (fun p e s m args below meth c ls S hr hlk hnm hl M => ?_) sz
  have hl : lv_has ls 3 [(0, .ref (ad b))] := hl
  generalize hQ : MQ _ _ _ _ _ _ _ = Q
  skip
  unfold f_Se_settleFirst at h
  refine lv_aload_n S.1 S.2.1 d_Se_settleFirst_0 rfl (lv_at hl 0 rfl) ?_
  refine m_gs (t := (b + 4)) S M (j := 2) ok_Se (lt_S0 hb) (tb_S0 hb) (by decide) rfl kw_37 rfl d_Se_settleFirst_1 ?_
  refine m_xi h (fun o ho => m_rV (As := []) (rest := []) S M hl.1 (cwG (n := 0) S.2.2.2.2 kw_74 kw_75 kw_76 kw_26 kw_77 (by decide) ⟨Nat.le_of_ble_eq_true rfl, Nat.le_of_ble_eq_true rfl⟩) ok_Wa (lt_W0 (sB_w hb)) (tb_W0 (sB_w hb)) (c_Wa_takeFirst l D cA ad (sB_w hb) σ o ho _) rfl rfl (Nat.le_of_ble_eq_true rfl) d_Se_settleFirst_4 ⟨Nat.zero_le _, Nat.zero_le _⟩) M (fun o1 H locs h M => ?_)
  refine lv_istore_n (lv' := [(1, .int o1.1), (0, .ref (ad b))]) S.1 S.2.1 d_Se_settleFirst_7 rfl hl (by decide) rfl (fun ls hl => ?_)
  refine lv_iload_n S.1 S.2.1 d_Se_settleFirst_8 rfl (lv_at hl 0 rfl) ?_
  refine lv_iconst (v := (-1)) S.1 S.2.1 d_Se_settleFirst_9 (by decide) ?_
  refine m_ieq (tgt := 22) S d_Se_settleFirst_10 (by decide) h (fun h => ?_) (fun h => ?_)
  · refine lv_iconst (v := (-1)) S.1 S.2.1 d_Se_settleFirst_22 (by decide) ?_
    subst hQ; exact m_iret S hr hlk M (Option.some.inj h) d_Se_settleFirst_23
  · refine lv_aload_n S.1 S.2.1 d_Se_settleFirst_13 rfl (lv_at hl 1 rfl) ?_
    refine m_gi S M (j := 6) ok_Se (lt_S0 hb) (tb_S0 hb) (by decide) rfl kw_42 rfl d_Se_settleFirst_14 ?_
    refine lv_bipush (v := 10) S.1 S.2.1 d_Se_settleFirst_17 (by decide) ?_
    refine m_ilt (tgt := 24) S d_Se_settleFirst_19 (by decide) h (fun h => ?_) (fun h => ?_)
    · refine lv_aload_n S.1 S.2.1 d_Se_settleFirst_24 rfl (lv_at hl 1 rfl) ?_
      refine lv_dup S.1 S.2.1 d_Se_settleFirst_25 rfl ?_
      refine m_gi S M (j := 8) ok_Se (lt_S0 hb) (tb_S0 hb) (by decide) rfl kw_44 rfl d_Se_settleFirst_26 ?_
      refine lv_iconst (v := 1) S.1 S.2.1 d_Se_settleFirst_29 (by decide) ?_
      refine lv_iload_n S.1 S.2.1 d_Se_settleFirst_30 rfl (lv_at hl 0 rfl) ?_
      refine lv_ishl S.1 S.2.1 d_Se_settleFirst_31 ?_
      refine lv_ior S.1 S.2.1 d_Se_settleFirst_32 ?_
      refine m_pi S M (j := 8) ok_Se (lt_S0 hb) (tb_S0 hb) (by decide) rfl kw_44 rfl rfl rfl d_Se_settleFirst_33 h (fun σ2 H locs h M => ?_)
      refine lv_aload_n S.1 S.2.1 d_Se_settleFirst_36 rfl (lv_at hl 1 rfl) ?_
      refine m_gs (t := (b + 2)) S M (j := 4) ok_Se (lt_S0 hb) (tb_S0 hb) (by decide) rfl kw_78 rfl d_Se_settleFirst_37 ?_
      refine lv_aload_n S.1 S.2.1 d_Se_settleFirst_40 rfl (lv_at hl 1 rfl) ?_
      refine m_gi S M (j := 6) ok_Se (lt_S0 hb) (tb_S0 hb) (by decide) rfl kw_42 rfl d_Se_settleFirst_41 ?_
      refine lv_iload_n S.1 S.2.1 d_Se_settleFirst_44 rfl (lv_at hl 0 rfl) ?_
      refine m_ias (t0 := 0) S M (lt_S2 hb) (tb_S2 hb) rfl h d_Se_settleFirst_45 (fun σ3 H locs h M => ?_)
      refine lv_aload_n S.1 S.2.1 d_Se_settleFirst_46 rfl (lv_at hl 1 rfl) ?_
      refine lv_dup S.1 S.2.1 d_Se_settleFirst_47 rfl ?_
      refine m_gi S M (j := 6) ok_Se (lt_S0 hb) (tb_S0 hb) (by decide) rfl kw_42 rfl d_Se_settleFirst_48 ?_
      refine lv_iconst (v := 1) S.1 S.2.1 d_Se_settleFirst_51 (by decide) ?_
      refine lv_iadd S.1 S.2.1 d_Se_settleFirst_52 ?_
      refine m_pi S M (j := 6) ok_Se (lt_S0 hb) (tb_S0 hb) (by decide) rfl kw_42 rfl rfl rfl d_Se_settleFirst_53 h (fun σ4 H locs h M => ?_)
      refine lv_iconst (v := 0) S.1 S.2.1 d_Se_settleFirst_56 (by decide) ?_
      refine lv_istore_n (lv' := [(2, .int 0), (1, .int o1.1), (0, .ref (ad b))]) S.1 S.2.1 d_Se_settleFirst_57 rfl hl (by decide) rfl (fun ls hl => ?_)
      obtain ⟨u58, q58, h⟩ := Option.bind_eq_some_iff.mp h
      refine lpN_W1 (st := f_Se_settleFirst_L58 b o1) (fun (t58 : Int32 × mS) => ∀ (ls : Array Slot) (H : Heap) (locs : List Loc), lv_has ls 3 [(2, .int t58.1), (1, .int o1.1), (0, .ref (ad b))] → mM D clX (tyK cA) (mA 99 ad s.heap.size) s 99 (tbX cA) ad t58.2 H locs → W p l e rm_Se_settleFirst s m args below meth c H locs 0 0 Q (F0 m 58 ls [])) (fun (u58 : Int32 × mS) => ∀ (ls : Array Slot) (H : Heap) (locs : List Loc), lv_has ls 3 [(2, .int u58.1), (1, .int o1.1), (0, .ref (ad b))] → mM D clX (tyK cA) (mA 99 ad s.heap.size) s 99 (tbX cA) ad u58.2 H locs → W p l e rm_Se_settleFirst s m args below meth c H locs 0 0 Q (F0 m 113 ls [])) ?_ fuS ((0, σ4) : Int32 × mS) u58 q58 ?_ ls _ _ (lv_sub hl [0, 1, 2] rfl) M
      · intro t58 oo58 h K1 K2 ls H locs hl M
        unfold f_Se_settleFirst_L58 at h
        refine lv_iload_n S.1 S.2.1 d_Se_settleFirst_58 rfl (lv_at hl 0 rfl) ?_
        refine lv_aload_n S.1 S.2.1 d_Se_settleFirst_59 rfl (lv_at hl 2 rfl) ?_
        refine m_gs (t := 1) S M (j := 0) ok_Se (lt_S0 hb) (tb_S0 hb) (by decide) rfl kw_46 rfl d_Se_settleFirst_60 ?_
        refine m_gi S M (j := 7) ok_Gr (by decide) rfl (by decide) rfl kw_79 rfl d_Se_settleFirst_63 ?_
        refine m_ige (tgt := 113) S d_Se_settleFirst_66 (by decide) h (fun h => ?_) (fun h => ?_)
        · exact K2 _ (Option.some.inj h).symm ls _ _ (lv_sub hl [0, 1, 2] rfl) M
        · refine lv_aload_n S.1 S.2.1 d_Se_settleFirst_69 rfl (lv_at hl 2 rfl) ?_
          refine lv_iload_n S.1 S.2.1 d_Se_settleFirst_70 rfl (lv_at hl 0 rfl) ?_
          refine m_xip h (fun o ho => m_rV (As := [.int t58.1]) (rest := []) S M hl.1 (cwG (n := 1) S.2.2.2.2 kw_80 kw_81 kw_82 kw_51 kw_83 (by decide) ⟨Nat.le_of_ble_eq_true rfl, Nat.le_of_ble_eq_true rfl⟩) ok_Se (lt_S0 hb) (tb_S0 hb) (c_Se_startOf l D cA ad hb t58.2 t58.1 o ho _) rfl rfl (Nat.le_of_ble_eq_true rfl) d_Se_settleFirst_71 ⟨Nat.zero_le _, Nat.zero_le _⟩) M (fun v5 H locs h M => ?_)
          refine lv_iload_n S.1 S.2.1 d_Se_settleFirst_74 rfl (lv_at hl 1 rfl) ?_
          refine m_ine (tgt := 107) S d_Se_settleFirst_75 (by decide) h (fun h => ?_) (fun h => ?_)
          · refine lv_iinc (v := t58.1 + 1) (lv' := [(2, .int (t58.1 + 1)), (1, .int o1.1), (0, .ref (ad b))]) S.1 S.2.1 d_Se_settleFirst_107 hl (k := 0) rfl rfl (by decide) rfl (fun ls hl => ?_)
            refine lv_goto (tgt := 58) S.1 S.2.1 d_Se_settleFirst_110 (by decide) ?_
            exact K1 _ (Option.some.inj h).symm ls _ _ (lv_sub hl [0, 1, 2] rfl) M
          · refine lv_aload_n S.1 S.2.1 d_Se_settleFirst_78 rfl (lv_at hl 2 rfl) ?_
            refine lv_iload_n S.1 S.2.1 d_Se_settleFirst_79 rfl (lv_at hl 0 rfl) ?_
            refine m_xip h (fun o ho => m_rV (As := [.int t58.1]) (rest := []) S M hl.1 (cwG (n := 1) S.2.2.2.2 kw_84 kw_85 kw_86 kw_51 kw_87 (by decide) ⟨Nat.le_of_ble_eq_true rfl, Nat.le_of_ble_eq_true rfl⟩) ok_Se (lt_S0 hb) (tb_S0 hb) (c_Se_isOpen l D cA ad hb t58.2 t58.1 o ho _) rfl rfl (Nat.le_of_ble_eq_true rfl) d_Se_settleFirst_80 ⟨Nat.zero_le _, Nat.zero_le _⟩) M (fun v6 H locs h M => ?_)
            refine m_ifeq (tgt := 107) S d_Se_settleFirst_83 (by decide) h (fun h => ?_) (fun h => ?_)
            · refine lv_iinc (v := t58.1 + 1) (lv' := [(2, .int (t58.1 + 1)), (1, .int o1.1), (0, .ref (ad b))]) S.1 S.2.1 d_Se_settleFirst_107 hl (k := 0) rfl rfl (by decide) rfl (fun ls hl => ?_)
              refine lv_goto (tgt := 58) S.1 S.2.1 d_Se_settleFirst_110 (by decide) ?_
              exact K1 _ (Option.some.inj h).symm ls _ _ (lv_sub hl [0, 1, 2] rfl) M
            · refine lv_aload_n S.1 S.2.1 d_Se_settleFirst_86 rfl (lv_at hl 2 rfl) ?_
              refine lv_aload_n S.1 S.2.1 d_Se_settleFirst_87 rfl (lv_at hl 2 rfl) ?_
              refine lv_iload_n S.1 S.2.1 d_Se_settleFirst_88 rfl (lv_at hl 0 rfl) ?_
              refine m_xip h (fun o ho => m_rV (As := [.int t58.1]) (rest := [.ref (ad b)]) S M hl.1 (cwG (n := 1) S.2.2.2.2 kw_88 kw_89 kw_90 kw_51 kw_91 (by decide) ⟨Nat.le_of_ble_eq_true rfl, Nat.le_of_ble_eq_true rfl⟩) ok_Se (lt_S0 hb) (tb_S0 hb) (c_Se_endOf l D cA ad hb t58.2 t58.1 o ho _) rfl rfl (Nat.le_of_ble_eq_true rfl) d_Se_settleFirst_89 ⟨Nat.zero_le _, Nat.zero_le _⟩) M (fun v7 H locs h M => ?_)
              refine lv_aload_n S.1 S.2.1 d_Se_settleFirst_92 rfl (lv_at hl 2 rfl) ?_
              refine m_gs (t := (b + 1)) S M (j := 3) ok_Se (lt_S0 hb) (tb_S0 hb) (by decide) rfl kw_63 rfl d_Se_settleFirst_93 ?_
              refine lv_iload_n S.1 S.2.1 d_Se_settleFirst_96 rfl (lv_at hl 1 rfl) ?_
              refine m_ial (t0 := 0) S M (lt_S1 hb) (tb_S1 hb) rfl h d_Se_settleFirst_97 (fun h => ?_)
              refine lv_aload_n S.1 S.2.1 d_Se_settleFirst_98 rfl (lv_at hl 2 rfl) ?_
              refine lv_iload_n S.1 S.2.1 d_Se_settleFirst_99 rfl (lv_at hl 0 rfl) ?_
              refine m_xip h (fun o ho => m_rV (As := [.int t58.1]) (rest := [.int (t58.2.1 ((b + 1)) o1.1.toNatClampNeg), .int v7, .ref (ad b)]) S M hl.1 (cwG (n := 1) S.2.2.2.2 kw_92 kw_93 kw_94 kw_51 kw_95 (by decide) ⟨Nat.le_of_ble_eq_true rfl, Nat.le_of_ble_eq_true rfl⟩) ok_Se (lt_S0 hb) (tb_S0 hb) (c_Se_costOf l D cA ad hb t58.2 t58.1 o ho _) rfl rfl (Nat.le_of_ble_eq_true rfl) d_Se_settleFirst_100 ⟨Nat.zero_le _, Nat.zero_le _⟩) M (fun v8 H locs h M => ?_)
              refine lv_iadd S.1 S.2.1 d_Se_settleFirst_103 ?_
              refine m_xv h (fun o ho => m_rV (As := [.int v7, .int ((t58.2.1 ((b + 1)) o1.1.toNatClampNeg) + v8)]) (rest := []) S M hl.1 (cwG (n := 2) S.2.2.2.2 kw_96 kw_97 kw_98 kw_51 kw_99 (by decide) ⟨Nat.le_of_ble_eq_true rfl, Nat.le_of_ble_eq_true rfl⟩) ok_Se (lt_S0 hb) (tb_S0 hb) (c_Se_offer l D cA ad hb t58.2 v7 ((t58.2.1 ((b + 1)) o1.1.toNatClampNeg) + v8) o ho _) rfl rfl (Nat.le_of_ble_eq_true rfl) d_Se_settleFirst_104 ⟨Nat.zero_le _, Nat.zero_le _⟩) M (fun σ9 H locs h M => ?_)
              refine lv_iinc (v := t58.1 + 1) (lv' := [(2, .int (t58.1 + 1)), (1, .int o1.1), (0, .ref (ad b))]) S.1 S.2.1 d_Se_settleFirst_107 hl (k := 0) rfl rfl (by decide) rfl (fun ls hl => ?_)
              refine lv_goto (tgt := 58) S.1 S.2.1 d_Se_settleFirst_110 (by decide) ?_
              exact K1 _ (Option.some.inj h).symm ls _ _ (lv_sub hl [0, 1, 2] rfl) M
      · intro ls H locs hl M
        refine lv_iload_n S.1 S.2.1 d_Se_settleFirst_113 rfl (lv_at hl 1 rfl) ?_
        subst hQ; exact m_iret S hr hlk M (Option.some.inj h) d_Se_settleFirst_114
    · refine lv_iconst (v := (-1)) S.1 S.2.1 d_Se_settleFirst_22 (by decide) ?_
      subst hQ; exact m_iret S hr hlk M (Option.some.inj h) d_Se_settleFirst_23
theorem d_Se_settleAll_0 : decode prog_6_method_10_code 0 = .ok (.iconst 0, 1) := by decide +kernel
theorem d_Se_settleAll_1 : decode prog_6_method_10_code 1 = .ok (.istore_n 1, 1) := by decide +kernel
theorem d_Se_settleAll_2 : decode prog_6_method_10_code 2 = .ok (.iload_n 1, 1) := by decide +kernel
theorem d_Se_settleAll_3 : decode prog_6_method_10_code 3 = .ok (.bipush 10, 2) := by decide +kernel
theorem d_Se_settleAll_5 : decode prog_6_method_10_code 5 = .ok (.if_icmp .ge 21, 3) := by decide +kernel
theorem d_Se_settleAll_8 : decode prog_6_method_10_code 8 = .ok (.aload_n 0, 1) := by decide +kernel
theorem d_Se_settleAll_9 : decode prog_6_method_10_code 9 = .ok (.invokevirtual 109, 3) := by decide +kernel
theorem d_Se_settleAll_12 : decode prog_6_method_10_code 12 = .ok (.ifCond .ne 14, 3) := by decide +kernel
theorem d_Se_settleAll_15 : decode prog_6_method_10_code 15 = .ok (.aload_n 0, 1) := by decide +kernel
theorem d_Se_settleAll_16 : decode prog_6_method_10_code 16 = .ok (.invokevirtual 112, 3) := by decide +kernel
theorem d_Se_settleAll_19 : decode prog_6_method_10_code 19 = .ok (.pop, 1) := by decide +kernel
theorem d_Se_settleAll_20 : decode prog_6_method_10_code 20 = .ok (.iinc 1 1, 3) := by decide +kernel
theorem d_Se_settleAll_23 : decode prog_6_method_10_code 23 = .ok (.goto (-21), 3) := by decide +kernel
theorem d_Se_settleAll_26 : decode prog_6_method_10_code 26 = .ok (.return_, 1) := by decide +kernel
def rm_Se_settleAll : Room := { frames := 4, cells := 0, slots := 0, locals := 92 }
def f_Se_settleAll_L2 (b : Nat) : (Int32 × mS) → Option ((Int32 × mS) ⊕ (Int32 × mS)) := fun t2 =>
  if 10 ≤ t2.1 then (
  some (.inr (t2.1, t2.2))) else (
  (f_Se_isOver b t2.2).bind fun v1 =>
  if v1 = 0 then (
  (f_Se_settleFirst b t2.2).bind fun o2 =>
  some (.inl (t2.1 + 1, o2.2))) else (
  some (.inr (t2.1, t2.2))))
def f_Se_settleAll (b : Nat) (σ : mS) : Option (mS) :=
  (lpN (f_Se_settleAll_L2 b) fuS (0, σ)).bind fun u2 =>
  some u2.2
set_option maxHeartbeats 4000000 in
set_option maxRecDepth 100000 in
theorem c_Se_settleAll (l : Launch) (D : va_G) (cA ad : Nat → Nat) {b : Nat} (hb : sB b) (σ : mS) (o : mS) (h : f_Se_settleAll b σ = some o) : mCv l ⟨"LeastPaths$Search", "settleAll", "()V"⟩ (Cond.code ⟨"LeastPaths$Search", "settleAll", "()V"⟩ prog_6_method_10_code 2 (Option.none : Option Jvm.ClassFile.FieldType) :: tlG) rm_Se_settleAll D clX (tyK cA) 99 (tbX cA) ad σ [.ref (ad b)] o := by
  intro sz
  refine m_of (cc := prog_6_method_10_code) (maxL := 2) (Qc := mQv D clX (tyK cA) 99 (tbX cA) ad o) (by decide) (Nat.le_of_ble_eq_true rfl) (fun p e s m args below meth c ls S hr hlk hnm hl M => ?_) sz
  have hl : lv_has ls 2 [(0, .ref (ad b))] := hl
  generalize hQ : MQ _ _ _ _ _ _ _ = Q
  skip
  unfold f_Se_settleAll at h
  refine lv_iconst (v := 0) S.1 S.2.1 d_Se_settleAll_0 (by decide) ?_
  refine lv_istore_n (lv' := [(1, .int 0), (0, .ref (ad b))]) S.1 S.2.1 d_Se_settleAll_1 rfl hl (by decide) rfl (fun ls hl => ?_)
  obtain ⟨u2, q2, h⟩ := Option.bind_eq_some_iff.mp h
  refine lpN_W1 (st := f_Se_settleAll_L2 b) (fun (t2 : Int32 × mS) => ∀ (ls : Array Slot) (H : Heap) (locs : List Loc), lv_has ls 2 [(1, .int t2.1), (0, .ref (ad b))] → mM D clX (tyK cA) (mA 99 ad s.heap.size) s 99 (tbX cA) ad t2.2 H locs → W p l e rm_Se_settleAll s m args below meth c H locs 0 0 Q (F0 m 2 ls [])) (fun (u2 : Int32 × mS) => ∀ (ls : Array Slot) (H : Heap) (locs : List Loc), lv_has ls 2 [(1, .int u2.1), (0, .ref (ad b))] → mM D clX (tyK cA) (mA 99 ad s.heap.size) s 99 (tbX cA) ad u2.2 H locs → W p l e rm_Se_settleAll s m args below meth c H locs 0 0 Q (F0 m 26 ls [])) ?_ fuS ((0, σ) : Int32 × mS) u2 q2 ?_ ls _ _ (lv_sub hl [0, 1] rfl) M
  · intro t2 oo2 h K1 K2 ls H locs hl M
    unfold f_Se_settleAll_L2 at h
    refine lv_iload_n S.1 S.2.1 d_Se_settleAll_2 rfl (lv_at hl 0 rfl) ?_
    refine lv_bipush (v := 10) S.1 S.2.1 d_Se_settleAll_3 (by decide) ?_
    refine m_ige (tgt := 26) S d_Se_settleAll_5 (by decide) h (fun h => ?_) (fun h => ?_)
    · exact K2 _ (Option.some.inj h).symm ls _ _ (lv_sub hl [0, 1] rfl) M
    · refine lv_aload_n S.1 S.2.1 d_Se_settleAll_8 rfl (lv_at hl 1 rfl) ?_
      refine m_xip h (fun o ho => m_rV (As := []) (rest := []) S M hl.1 (cwG (n := 0) S.2.2.2.2 kw_100 kw_101 kw_102 kw_51 kw_103 (by decide) ⟨Nat.le_of_ble_eq_true rfl, Nat.le_of_ble_eq_true rfl⟩) ok_Se (lt_S0 hb) (tb_S0 hb) (c_Se_isOver l D cA ad hb t2.2 o ho _) rfl rfl (Nat.le_of_ble_eq_true rfl) d_Se_settleAll_9 ⟨Nat.zero_le _, Nat.zero_le _⟩) M (fun v1 H locs h M => ?_)
      refine m_ifne (tgt := 26) S d_Se_settleAll_12 (by decide) h (fun h => ?_) (fun h => ?_)
      · exact K2 _ (Option.some.inj h).symm ls _ _ (lv_sub hl [0, 1] rfl) M
      · refine lv_aload_n S.1 S.2.1 d_Se_settleAll_15 rfl (lv_at hl 1 rfl) ?_
        refine m_xi h (fun o ho => m_rV (As := []) (rest := []) S M hl.1 (cwG (n := 0) S.2.2.2.2 kw_104 kw_105 kw_106 kw_51 kw_107 (by decide) ⟨Nat.le_of_ble_eq_true rfl, Nat.le_of_ble_eq_true rfl⟩) ok_Se (lt_S0 hb) (tb_S0 hb) (c_Se_settleFirst l D cA ad hb t2.2 o ho _) rfl rfl (Nat.le_of_ble_eq_true rfl) d_Se_settleAll_16 ⟨Nat.zero_le _, Nat.zero_le _⟩) M (fun o2 H locs h M => ?_)
        refine lv_pop S.1 S.2.1 d_Se_settleAll_19 rfl ?_
        refine lv_iinc (v := t2.1 + 1) (lv' := [(1, .int (t2.1 + 1)), (0, .ref (ad b))]) S.1 S.2.1 d_Se_settleAll_20 hl (k := 0) rfl rfl (by decide) rfl (fun ls hl => ?_)
        refine lv_goto (tgt := 2) S.1 S.2.1 d_Se_settleAll_23 (by decide) ?_
        exact K1 _ (Option.some.inj h).symm ls _ _ (lv_sub hl [0, 1] rfl) M
  · intro ls H locs hl M
    subst hQ; exact m_vret S hr hlk M (Option.some.inj h) d_Se_settleAll_26
