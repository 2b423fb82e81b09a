theorem d_Rw_takeIn_0 : decode prog_5_method_4_code 0 = .ok (.aload_n 0, 1) := by decide +kernel
theorem d_Rw_takeIn_1 : decode prog_5_method_4_code 1 = .ok (.getfield 37, 3) := by decide +kernel
theorem d_Rw_takeIn_4 : decode prog_5_method_4_code 4 = .ok (.istore_n 1, 1) := by decide +kernel
theorem d_Rw_takeIn_5 : decode prog_5_method_4_code 5 = .ok (.iload_n 1, 1) := by decide +kernel
theorem d_Rw_takeIn_6 : decode prog_5_method_4_code 6 = .ok (.ifCond .le 59, 3) := by decide +kernel
theorem d_Rw_takeIn_9 : decode prog_5_method_4_code 9 = .ok (.aload_n 0, 1) := by decide +kernel
theorem d_Rw_takeIn_10 : decode prog_5_method_4_code 10 = .ok (.getfield 11, 3) := by decide +kernel
theorem d_Rw_takeIn_13 : decode prog_5_method_4_code 13 = .ok (.iload_n 1, 1) := by decide +kernel
theorem d_Rw_takeIn_14 : decode prog_5_method_4_code 14 = .ok (.aaload, 1) := by decide +kernel
theorem d_Rw_takeIn_15 : decode prog_5_method_4_code 15 = .ok (.aload_n 0, 1) := by decide +kernel
theorem d_Rw_takeIn_16 : decode prog_5_method_4_code 16 = .ok (.getfield 11, 3) := by decide +kernel
theorem d_Rw_takeIn_19 : decode prog_5_method_4_code 19 = .ok (.iload_n 1, 1) := by decide +kernel
theorem d_Rw_takeIn_20 : decode prog_5_method_4_code 20 = .ok (.iconst 1, 1) := by decide +kernel
theorem d_Rw_takeIn_21 : decode prog_5_method_4_code 21 = .ok (.isub, 1) := by decide +kernel
theorem d_Rw_takeIn_22 : decode prog_5_method_4_code 22 = .ok (.aaload, 1) := by decide +kernel
theorem d_Rw_takeIn_23 : decode prog_5_method_4_code 23 = .ok (.invokevirtual 111, 3) := by decide +kernel
theorem d_Rw_takeIn_26 : decode prog_5_method_4_code 26 = .ok (.ifCond .eq 39, 3) := by decide +kernel
theorem d_Rw_takeIn_29 : decode prog_5_method_4_code 29 = .ok (.aload_n 0, 1) := by decide +kernel
theorem d_Rw_takeIn_30 : decode prog_5_method_4_code 30 = .ok (.getfield 11, 3) := by decide +kernel
theorem d_Rw_takeIn_33 : decode prog_5_method_4_code 33 = .ok (.iload_n 1, 1) := by decide +kernel
theorem d_Rw_takeIn_34 : decode prog_5_method_4_code 34 = .ok (.aaload, 1) := by decide +kernel
theorem d_Rw_takeIn_35 : decode prog_5_method_4_code 35 = .ok (.astore_n 2, 1) := by decide +kernel
theorem d_Rw_takeIn_36 : decode prog_5_method_4_code 36 = .ok (.aload_n 0, 1) := by decide +kernel
theorem d_Rw_takeIn_37 : decode prog_5_method_4_code 37 = .ok (.getfield 11, 3) := by decide +kernel
theorem d_Rw_takeIn_40 : decode prog_5_method_4_code 40 = .ok (.iload_n 1, 1) := by decide +kernel
theorem d_Rw_takeIn_41 : decode prog_5_method_4_code 41 = .ok (.aload_n 0, 1) := by decide +kernel
theorem d_Rw_takeIn_42 : decode prog_5_method_4_code 42 = .ok (.getfield 11, 3) := by decide +kernel
theorem d_Rw_takeIn_45 : decode prog_5_method_4_code 45 = .ok (.iload_n 1, 1) := by decide +kernel
theorem d_Rw_takeIn_46 : decode prog_5_method_4_code 46 = .ok (.iconst 1, 1) := by decide +kernel
theorem d_Rw_takeIn_47 : decode prog_5_method_4_code 47 = .ok (.isub, 1) := by decide +kernel
theorem d_Rw_takeIn_48 : decode prog_5_method_4_code 48 = .ok (.aaload, 1) := by decide +kernel
theorem d_Rw_takeIn_49 : decode prog_5_method_4_code 49 = .ok (.aastore, 1) := by decide +kernel
theorem d_Rw_takeIn_50 : decode prog_5_method_4_code 50 = .ok (.aload_n 0, 1) := by decide +kernel
theorem d_Rw_takeIn_51 : decode prog_5_method_4_code 51 = .ok (.getfield 11, 3) := by decide +kernel
theorem d_Rw_takeIn_54 : decode prog_5_method_4_code 54 = .ok (.iload_n 1, 1) := by decide +kernel
theorem d_Rw_takeIn_55 : decode prog_5_method_4_code 55 = .ok (.iconst 1, 1) := by decide +kernel
theorem d_Rw_takeIn_56 : decode prog_5_method_4_code 56 = .ok (.isub, 1) := by decide +kernel
theorem d_Rw_takeIn_57 : decode prog_5_method_4_code 57 = .ok (.aload_n 2, 1) := by decide +kernel
theorem d_Rw_takeIn_58 : decode prog_5_method_4_code 58 = .ok (.aastore, 1) := by decide +kernel
theorem d_Rw_takeIn_59 : decode prog_5_method_4_code 59 = .ok (.iinc 1 (-1), 3) := by decide +kernel
theorem d_Rw_takeIn_62 : decode prog_5_method_4_code 62 = .ok (.goto (-57), 3) := by decide +kernel
theorem d_Rw_takeIn_65 : decode prog_5_method_4_code 65 = .ok (.aload_n 0, 1) := by decide +kernel
theorem d_Rw_takeIn_66 : decode prog_5_method_4_code 66 = .ok (.aload_n 0, 1) := by decide +kernel
theorem d_Rw_takeIn_67 : decode prog_5_method_4_code 67 = .ok (.getfield 46, 3) := by decide +kernel
theorem d_Rw_takeIn_70 : decode prog_5_method_4_code 70 = .ok (.aload_n 0, 1) := by decide +kernel
theorem d_Rw_takeIn_71 : decode prog_5_method_4_code 71 = .ok (.getfield 37, 3) := by decide +kernel
theorem d_Rw_takeIn_74 : decode prog_5_method_4_code 74 = .ok (.iconst 1, 1) := by decide +kernel
theorem d_Rw_takeIn_75 : decode prog_5_method_4_code 75 = .ok (.iadd, 1) := by decide +kernel
theorem d_Rw_takeIn_76 : decode prog_5_method_4_code 76 = .ok (.invokestatic 40, 3) := by decide +kernel
theorem d_Rw_takeIn_79 : decode prog_5_method_4_code 79 = .ok (.putfield 37, 3) := by decide +kernel
theorem d_Rw_takeIn_82 : decode prog_5_method_4_code 82 = .ok (.return_, 1) := by decide +kernel
def rm_Rw_takeIn : Room := { frames := 1, cells := 0, slots := 0, locals := 22 }
def f_Rw_takeIn_L5 : (Int32 × mS) → Option ((Int32 × mS) ⊕ (Int32 × mS)) := fun t5 =>
  if t5.1 ≤ 0 then (
  some (.inr (t5.1, t5.2))) else (
  gd (inb t5.1 31) ((t5.2.2.2 26 t5.1.toNatClampNeg).bind fun w2 => gd (wy w2) (
  gd (inb (t5.1 - 1) 31) ((t5.2.2.2 26 (t5.1 - 1).toNatClampNeg).bind fun w3 => gd (wy w3) (
  (f_Wy_isBefore w2 t5.2 w3).bind fun v4 =>
  if v4 = 0 then (
  some (.inr (t5.1, t5.2))) else (
  gd (inb t5.1 31) ((t5.2.2.2 26 t5.1.toNatClampNeg).bind fun w5 => gd (wy w5) (
  gd (inb (t5.1 - 1) 31) ((t5.2.2.2 26 (t5.1 - 1).toNatClampNeg).bind fun w6 => gd (wy w6) (
  gd (inb t5.1 31) (nm (sQ t5.2 26 t5.1.toNatClampNeg (some w6)) fun σ7 =>
  gd (inb (t5.1 - 1) 31) (nm (sQ σ7 26 (t5.1 - 1).toNatClampNeg (some w5)) fun σ8 =>
  some (.inl (t5.1 + (-1), σ8))))))))))))))
def f_Rw_takeIn (σ : mS) : Option (mS) :=
  nm (σ.1 25 4) fun v1 =>
  (lpN (f_Rw_takeIn_L5) fuS (v1, σ)).bind fun u5 =>
  nm (sI u5.2 25 4 (if ((u5.2.1 25 4) + 1) < (u5.2.1 25 5) then ((u5.2.1 25 4) + 1) else (u5.2.1 25 5))) fun σ9 =>
  some σ9
set_option maxHeartbeats 4000000 in
set_option maxRecDepth 100000 in
theorem c_Rw_takeIn (l : Launch) (D : va_G) (cA ad : Nat → Nat) (σ : mS) (o : mS) (h : f_Rw_takeIn σ = some o) : mCv l ⟨"LeastPaths$Row", "takeIn", "()V"⟩ (Cond.code ⟨"LeastPaths$Row", "takeIn", "()V"⟩ prog_5_method_4_code 3 (Option.none : Option Jvm.ClassFile.FieldType) :: tlG) rm_Rw_takeIn D clX (tyK cA) 99 (tbX cA) ad σ [.ref (ad 25)] o := by
  intro sz
  refine m_of (cc := prog_5_method_4_code) (maxL := 3) (Qc := mQv D clX (tyK cA) 99 (tbX cA) ad o) (by decide) (Nat.le_of_ble_eq_true rfl) (fun p e s m args below meth c ls S hr hlk hnm hl M => ?_) sz
  have hl : lv_has ls 3 [(0, .ref (ad 25))] := hl
  generalize hQ : MQ _ _ _ _ _ _ _ = Q
  skip
  unfold f_Rw_takeIn at h
  refine lv_aload_n S.1 S.2.1 d_Rw_takeIn_0 rfl (lv_at hl 0 rfl) ?_
  refine m_gi S M (j := 4) ok_Rw (by decide) rfl (by decide) rfl kw_229 rfl d_Rw_takeIn_1 ?_
  refine m_ni h (fun v1 h => ?_)
  refine lv_istore_n (lv' := [(1, .int v1), (0, .ref (ad 25))]) S.1 S.2.1 d_Rw_takeIn_4 rfl hl (by decide) rfl (fun ls hl => ?_)
  obtain ⟨u5, q5, h⟩ := Option.bind_eq_some_iff.mp h
  refine lpN_W1 (st := f_Rw_takeIn_L5) (fun (t5 : Int32 × mS) => ∀ (ls : Array Slot) (H : Heap) (locs : List Loc), lv_has ls 3 [(1, .int t5.1), (0, .ref (ad 25))] → mM D clX (tyK cA) (mA 99 ad s.heap.size) s 99 (tbX cA) ad t5.2 H locs → W p l e rm_Rw_takeIn s m args below meth c H locs 0 0 Q (F0 m 5 ls [])) (fun (u5 : Int32 × mS) => ∀ (ls : Array Slot) (H : Heap) (locs : List Loc), lv_has ls 3 [(1, .int u5.1), (0, .ref (ad 25))] → mM D clX (tyK cA) (mA 99 ad s.heap.size) s 99 (tbX cA) ad u5.2 H locs → W p l e rm_Rw_takeIn s m args below meth c H locs 0 0 Q (F0 m 65 ls [])) ?_ fuS ((v1, σ) : Int32 × mS) u5 q5 ?_ ls _ _ (lv_sub hl [0, 1] rfl) M
  · intro t5 oo5 h K1 K2 ls H locs hl M
    unfold f_Rw_takeIn_L5 at h
    refine lv_iload_n S.1 S.2.1 d_Rw_takeIn_5 rfl (lv_at hl 0 rfl) ?_
    refine m_ifle (tgt := 65) S d_Rw_takeIn_6 (by decide) h (fun h => ?_) (fun h => ?_)
    · exact K2 _ (Option.some.inj h).symm ls _ _ (lv_sub hl [0, 1] rfl) M
    · refine lv_aload_n S.1 S.2.1 d_Rw_takeIn_9 rfl (lv_at hl 1 rfl) ?_
      refine m_gs (t := 26) S M (j := 2) ok_Rw (by decide) rfl (by decide) rfl kw_230 rfl d_Rw_takeIn_10 ?_
      refine lv_iload_n S.1 S.2.1 d_Rw_takeIn_13 rfl (lv_at hl 0 rfl) ?_
      refine m_aalW (t0 := 3) S M (by decide) rfl rfl h d_Rw_takeIn_14 (fun w2 hw2 h => ?_)
      refine lv_aload_n S.1 S.2.1 d_Rw_takeIn_15 rfl (lv_at hl 1 rfl) ?_
      refine m_gs (t := 26) S M (j := 2) ok_Rw (by decide) rfl (by decide) rfl kw_230 rfl d_Rw_takeIn_16 ?_
      refine lv_iload_n S.1 S.2.1 d_Rw_takeIn_19 rfl (lv_at hl 0 rfl) ?_
      refine lv_iconst (v := 1) S.1 S.2.1 d_Rw_takeIn_20 (by decide) ?_
      refine lv_isub S.1 S.2.1 d_Rw_takeIn_21 ?_
      refine m_aalW (t0 := 3) S M (by decide) rfl rfl h d_Rw_takeIn_22 (fun w3 hw3 h => ?_)
      refine m_xip h (fun o ho => m_rV (As := [.ref (ad w3)]) (rest := []) S M hl.1 (cwG (n := 1) S.2.2.2.2 kw_231 kw_232 kw_233 kw_128 kw_234 (by decide) ⟨Nat.le_of_ble_eq_true rfl, Nat.le_of_ble_eq_true rfl⟩) ok_Wy (lt_Y0 hw2) (tb_Y0 hw2) (c_Wy_isBefore l D cA ad hw2 hw3 t5.2 o ho _) rfl rfl (Nat.le_of_ble_eq_true rfl) d_Rw_takeIn_23 ⟨Nat.zero_le _, Nat.zero_le _⟩) M (fun v4 H locs h M => ?_)
      refine m_ifeq (tgt := 65) S d_Rw_takeIn_26 (by decide) h (fun h => ?_) (fun h => ?_)
      · exact K2 _ (Option.some.inj h).symm ls _ _ (lv_sub hl [0, 1] rfl) M
      · refine lv_aload_n S.1 S.2.1 d_Rw_takeIn_29 rfl (lv_at hl 1 rfl) ?_
        refine m_gs (t := 26) S M (j := 2) ok_Rw (by decide) rfl (by decide) rfl kw_230 rfl d_Rw_takeIn_30 ?_
        refine lv_iload_n S.1 S.2.1 d_Rw_takeIn_33 rfl (lv_at hl 0 rfl) ?_
        refine m_aalW (t0 := 3) S M (by decide) rfl rfl h d_Rw_takeIn_34 (fun w5 hw5 h => ?_)
        refine lv_astore_n (lv' := [(2, .ref (ad w5)), (1, .int t5.1), (0, .ref (ad 25))]) S.1 S.2.1 d_Rw_takeIn_35 rfl hl (by decide) rfl (fun ls hl => ?_)
        refine lv_aload_n S.1 S.2.1 d_Rw_takeIn_36 rfl (lv_at hl 2 rfl) ?_
        refine m_gs (t := 26) S M (j := 2) ok_Rw (by decide) rfl (by decide) rfl kw_230 rfl d_Rw_takeIn_37 ?_
        refine lv_iload_n S.1 S.2.1 d_Rw_takeIn_40 rfl (lv_at hl 1 rfl) ?_
        refine lv_aload_n S.1 S.2.1 d_Rw_takeIn_41 rfl (lv_at hl 2 rfl) ?_
        refine m_gs (t := 26) S M (j := 2) ok_Rw (by decide) rfl (by decide) rfl kw_230 rfl d_Rw_takeIn_42 ?_
        refine lv_iload_n S.1 S.2.1 d_Rw_takeIn_45 rfl (lv_at hl 1 rfl) ?_
        refine lv_iconst (v := 1) S.1 S.2.1 d_Rw_takeIn_46 (by decide) ?_
        refine lv_isub S.1 S.2.1 d_Rw_takeIn_47 ?_
        refine m_aalW (t0 := 3) S M (by decide) rfl rfl h d_Rw_takeIn_48 (fun w6 hw6 h => ?_)
        refine m_aas (t0 := 3) S M ok_Wy (by decide) rfl rfl (lt_Y0 hw6) (tb_Y0 hw6) h d_Rw_takeIn_49 (fun σ7 H locs h M => ?_)
        refine lv_aload_n S.1 S.2.1 d_Rw_takeIn_50 rfl (lv_at hl 2 rfl) ?_
        refine m_gs (t := 26) S M (j := 2) ok_Rw (by decide) rfl (by decide) rfl kw_230 rfl d_Rw_takeIn_51 ?_
        refine lv_iload_n S.1 S.2.1 d_Rw_takeIn_54 rfl (lv_at hl 1 rfl) ?_
        refine lv_iconst (v := 1) S.1 S.2.1 d_Rw_takeIn_55 (by decide) ?_
        refine lv_isub S.1 S.2.1 d_Rw_takeIn_56 ?_
        refine lv_aload_n S.1 S.2.1 d_Rw_takeIn_57 rfl (lv_at hl 0 rfl) ?_
        refine m_aas (t0 := 3) S M ok_Wy (by decide) rfl rfl (lt_Y0 hw5) (tb_Y0 hw5) h d_Rw_takeIn_58 (fun σ8 H locs h M => ?_)
        refine lv_iinc (v := t5.1 + (-1)) (lv' := [(1, .int (t5.1 + (-1))), (2, .ref (ad w5)), (0, .ref (ad 25))]) S.1 S.2.1 d_Rw_takeIn_59 hl (k := 1) rfl rfl (by decide) rfl (fun ls hl => ?_)
        refine lv_goto (tgt := 5) S.1 S.2.1 d_Rw_takeIn_62 (by decide) ?_
        exact K1 _ (Option.some.inj h).symm ls _ _ (lv_sub hl [0, 2] rfl) M
  · intro ls H locs hl M
    refine lv_aload_n S.1 S.2.1 d_Rw_takeIn_65 rfl (lv_at hl 1 rfl) ?_
    refine lv_aload_n S.1 S.2.1 d_Rw_takeIn_66 rfl (lv_at hl 1 rfl) ?_
    refine m_gi S M (j := 5) ok_Rw (by decide) rfl (by decide) rfl kw_235 rfl d_Rw_takeIn_67 ?_
    refine lv_aload_n S.1 S.2.1 d_Rw_takeIn_70 rfl (lv_at hl 1 rfl) ?_
    refine m_gi S M (j := 4) ok_Rw (by decide) rfl (by decide) rfl kw_229 rfl d_Rw_takeIn_71 ?_
    refine lv_iconst (v := 1) S.1 S.2.1 d_Rw_takeIn_74 (by decide) ?_
    refine lv_iadd S.1 S.2.1 d_Rw_takeIn_75 ?_
    refine va_mmin (rest := [.ref (ad 25)]) S.1 S.2.1 (S.2.2.1.trans hl.1.symm) S.2.2.2.1 (S.2.2.2.2 _ kw_236) (S.2.2.2.2 _ kw_137) (S.2.2.2.2 _ kw_138) (S.2.2.2.2 _ kw_139) (Nat.le_of_ble_eq_true rfl) (Nat.le_of_ble_eq_true rfl) (Nat.zero_le _) (Nat.zero_le _) d_Rw_takeIn_76 ?_
    refine m_pi S M (j := 4) ok_Rw (by decide) rfl (by decide) rfl kw_229 rfl rfl rfl d_Rw_takeIn_79 h (fun σ9 H locs h M => ?_)
    subst hQ; exact m_vret S hr hlk M (Option.some.inj h) d_Rw_takeIn_82
theorem d_Rw_branch_0 : decode prog_5_method_3_code 0 = .ok (.aload_n 0, 1) := by decide +kernel
theorem d_Rw_branch_1 : decode prog_5_method_3_code 1 = .ok (.getfield 30, 3) := by decide +kernel
theorem d_Rw_branch_4 : decode prog_5_method_3_code 4 = .ok (.istore_n 3, 1) := by decide +kernel
theorem d_Rw_branch_5 : decode prog_5_method_3_code 5 = .ok (.iconst 0, 1) := by decide +kernel
theorem d_Rw_branch_6 : decode prog_5_method_3_code 6 = .ok (.istore 4, 2) := by decide +kernel
theorem d_Rw_branch_8 : decode prog_5_method_3_code 8 = .ok (.iconst 0, 1) := by decide +kernel
theorem d_Rw_branch_9 : decode prog_5_method_3_code 9 = .ok (.istore 5, 2) := by decide +kernel
theorem d_Rw_branch_11 : decode prog_5_method_3_code 11 = .ok (.iload 5, 2) := by decide +kernel
theorem d_Rw_branch_13 : decode prog_5_method_3_code 13 = .ok (.iload_n 2, 1) := by decide +kernel
theorem d_Rw_branch_14 : decode prog_5_method_3_code 14 = .ok (.if_icmp .ge 33, 3) := by decide +kernel
theorem d_Rw_branch_17 : decode prog_5_method_3_code 17 = .ok (.iload 4, 2) := by decide +kernel
theorem d_Rw_branch_19 : decode prog_5_method_3_code 19 = .ok (.iconst 1, 1) := by decide +kernel
theorem d_Rw_branch_20 : decode prog_5_method_3_code 20 = .ok (.iload_n 3, 1) := by decide +kernel
theorem d_Rw_branch_21 : decode prog_5_method_3_code 21 = .ok (.ishl, 1) := by decide +kernel
theorem d_Rw_branch_22 : decode prog_5_method_3_code 22 = .ok (.ior, 1) := by decide +kernel
theorem d_Rw_branch_23 : decode prog_5_method_3_code 23 = .ok (.istore 4, 2) := by decide +kernel
theorem d_Rw_branch_25 : decode prog_5_method_3_code 25 = .ok (.aload_n 0, 1) := by decide +kernel
theorem d_Rw_branch_26 : decode prog_5_method_3_code 26 = .ok (.getfield 22, 3) := by decide +kernel
theorem d_Rw_branch_29 : decode prog_5_method_3_code 29 = .ok (.getfield 59, 3) := by decide +kernel
theorem d_Rw_branch_32 : decode prog_5_method_3_code 32 = .ok (.aload_n 1, 1) := by decide +kernel
theorem d_Rw_branch_33 : decode prog_5_method_3_code 33 = .ok (.getfield 65, 3) := by decide +kernel
theorem d_Rw_branch_36 : decode prog_5_method_3_code 36 = .ok (.iload 5, 2) := by decide +kernel
theorem d_Rw_branch_38 : decode prog_5_method_3_code 38 = .ok (.iaload, 1) := by decide +kernel
theorem d_Rw_branch_39 : decode prog_5_method_3_code 39 = .ok (.iaload, 1) := by decide +kernel
theorem d_Rw_branch_40 : decode prog_5_method_3_code 40 = .ok (.istore_n 3, 1) := by decide +kernel
theorem d_Rw_branch_41 : decode prog_5_method_3_code 41 = .ok (.iinc 5 1, 3) := by decide +kernel
theorem d_Rw_branch_44 : decode prog_5_method_3_code 44 = .ok (.goto (-33), 3) := by decide +kernel
theorem d_Rw_branch_47 : decode prog_5_method_3_code 47 = .ok (.iload_n 2, 1) := by decide +kernel
theorem d_Rw_branch_48 : decode prog_5_method_3_code 48 = .ok (.aload_n 1, 1) := by decide +kernel
theorem d_Rw_branch_49 : decode prog_5_method_3_code 49 = .ok (.getfield 53, 3) := by decide +kernel
theorem d_Rw_branch_52 : decode prog_5_method_3_code 52 = .ok (.if_icmp .ne 10, 3) := by decide +kernel
theorem d_Rw_branch_55 : decode prog_5_method_3_code 55 = .ok (.aload_n 1, 1) := by decide +kernel
theorem d_Rw_branch_56 : decode prog_5_method_3_code 56 = .ok (.getfield 68, 3) := by decide +kernel
theorem d_Rw_branch_59 : decode prog_5_method_3_code 59 = .ok (.goto 4, 3) := by decide +kernel
theorem d_Rw_branch_62 : decode prog_5_method_3_code 62 = .ok (.lconst 0, 1) := by decide +kernel
theorem d_Rw_branch_63 : decode prog_5_method_3_code 63 = .ok (.lstore 5, 2) := by decide +kernel
theorem d_Rw_branch_65 : decode prog_5_method_3_code 65 = .ok (.iload_n 2, 1) := by decide +kernel
theorem d_Rw_branch_66 : decode prog_5_method_3_code 66 = .ok (.aload_n 1, 1) := by decide +kernel
theorem d_Rw_branch_67 : decode prog_5_method_3_code 67 = .ok (.getfield 56, 3) := by decide +kernel
theorem d_Rw_branch_70 : decode prog_5_method_3_code 70 = .ok (.if_icmp .ge 16, 3) := by decide +kernel
theorem d_Rw_branch_73 : decode prog_5_method_3_code 73 = .ok (.lload 5, 2) := by decide +kernel
theorem d_Rw_branch_75 : decode prog_5_method_3_code 75 = .ok (.lconst 1, 1) := by decide +kernel
theorem d_Rw_branch_76 : decode prog_5_method_3_code 76 = .ok (.aload_n 1, 1) := by decide +kernel
theorem d_Rw_branch_77 : decode prog_5_method_3_code 77 = .ok (.getfield 65, 3) := by decide +kernel
theorem d_Rw_branch_80 : decode prog_5_method_3_code 80 = .ok (.iload_n 2, 1) := by decide +kernel
theorem d_Rw_branch_81 : decode prog_5_method_3_code 81 = .ok (.iaload, 1) := by decide +kernel
theorem d_Rw_branch_82 : decode prog_5_method_3_code 82 = .ok (.lshl, 1) := by decide +kernel
theorem d_Rw_branch_83 : decode prog_5_method_3_code 83 = .ok (.lor, 1) := by decide +kernel
theorem d_Rw_branch_84 : decode prog_5_method_3_code 84 = .ok (.lstore 5, 2) := by decide +kernel
theorem d_Rw_branch_86 : decode prog_5_method_3_code 86 = .ok (.aload_n 0, 1) := by decide +kernel
theorem d_Rw_branch_87 : decode prog_5_method_3_code 87 = .ok (.getfield 26, 3) := by decide +kernel
theorem d_Rw_branch_90 : decode prog_5_method_3_code 90 = .ok (.aload_n 0, 1) := by decide +kernel
theorem d_Rw_branch_91 : decode prog_5_method_3_code 91 = .ok (.getfield 22, 3) := by decide +kernel
theorem d_Rw_branch_94 : decode prog_5_method_3_code 94 = .ok (.getfield 72, 3) := by decide +kernel
theorem d_Rw_branch_97 : decode prog_5_method_3_code 97 = .ok (.lload 5, 2) := by decide +kernel
theorem d_Rw_branch_99 : decode prog_5_method_3_code 99 = .ok (.ldc2_w 75, 3) := by decide +kernel
theorem d_Rw_branch_102 : decode prog_5_method_3_code 102 = .ok (.lxor, 1) := by decide +kernel
theorem d_Rw_branch_103 : decode prog_5_method_3_code 103 = .ok (.land, 1) := by decide +kernel
theorem d_Rw_branch_104 : decode prog_5_method_3_code 104 = .ok (.iload 4, 2) := by decide +kernel
theorem d_Rw_branch_106 : decode prog_5_method_3_code 106 = .ok (.invokevirtual 77, 3) := by decide +kernel
theorem d_Rw_branch_109 : decode prog_5_method_3_code 109 = .ok (.aload_n 0, 1) := by decide +kernel
theorem d_Rw_branch_110 : decode prog_5_method_3_code 110 = .ok (.getfield 26, 3) := by decide +kernel
theorem d_Rw_branch_113 : decode prog_5_method_3_code 113 = .ok (.aload_n 0, 1) := by decide +kernel
theorem d_Rw_branch_114 : decode prog_5_method_3_code 114 = .ok (.getfield 34, 3) := by decide +kernel
theorem d_Rw_branch_117 : decode prog_5_method_3_code 117 = .ok (.iconst 0, 1) := by decide +kernel
theorem d_Rw_branch_118 : decode prog_5_method_3_code 118 = .ok (.invokevirtual 83, 3) := by decide +kernel
theorem d_Rw_branch_121 : decode prog_5_method_3_code 121 = .ok (.aload_n 0, 1) := by decide +kernel
theorem d_Rw_branch_122 : decode prog_5_method_3_code 122 = .ok (.getfield 26, 3) := by decide +kernel
theorem d_Rw_branch_125 : decode prog_5_method_3_code 125 = .ok (.invokevirtual 87, 3) := by decide +kernel
theorem d_Rw_branch_128 : decode prog_5_method_3_code 128 = .ok (.aload_n 0, 1) := by decide +kernel
theorem d_Rw_branch_129 : decode prog_5_method_3_code 129 = .ok (.getfield 26, 3) := by decide +kernel
theorem d_Rw_branch_132 : decode prog_5_method_3_code 132 = .ok (.iload_n 3, 1) := by decide +kernel
theorem d_Rw_branch_133 : decode prog_5_method_3_code 133 = .ok (.invokevirtual 90, 3) := by decide +kernel
theorem d_Rw_branch_136 : decode prog_5_method_3_code 136 = .ok (.ifCond .eq 78, 3) := by decide +kernel
theorem d_Rw_branch_139 : decode prog_5_method_3_code 139 = .ok (.aload_n 0, 1) := by decide +kernel
theorem d_Rw_branch_140 : decode prog_5_method_3_code 140 = .ok (.getfield 11, 3) := by decide +kernel
theorem d_Rw_branch_143 : decode prog_5_method_3_code 143 = .ok (.aload_n 0, 1) := by decide +kernel
theorem d_Rw_branch_144 : decode prog_5_method_3_code 144 = .ok (.getfield 37, 3) := by decide +kernel
theorem d_Rw_branch_147 : decode prog_5_method_3_code 147 = .ok (.aaload, 1) := by decide +kernel
theorem d_Rw_branch_148 : decode prog_5_method_3_code 148 = .ok (.astore 7, 2) := by decide +kernel
theorem d_Rw_branch_150 : decode prog_5_method_3_code 150 = .ok (.aload 7, 2) := by decide +kernel
theorem d_Rw_branch_152 : decode prog_5_method_3_code 152 = .ok (.iload_n 2, 1) := by decide +kernel
theorem d_Rw_branch_153 : decode prog_5_method_3_code 153 = .ok (.lload 5, 2) := by decide +kernel
theorem d_Rw_branch_155 : decode prog_5_method_3_code 155 = .ok (.invokevirtual 94, 3) := by decide +kernel
theorem d_Rw_branch_158 : decode prog_5_method_3_code 158 = .ok (.iconst 0, 1) := by decide +kernel
theorem d_Rw_branch_159 : decode prog_5_method_3_code 159 = .ok (.istore 8, 2) := by decide +kernel
theorem d_Rw_branch_161 : decode prog_5_method_3_code 161 = .ok (.iload 8, 2) := by decide +kernel
theorem d_Rw_branch_163 : decode prog_5_method_3_code 163 = .ok (.iload_n 2, 1) := by decide +kernel
theorem d_Rw_branch_164 : decode prog_5_method_3_code 164 = .ok (.if_icmp .ge 36, 3) := by decide +kernel
theorem d_Rw_branch_167 : decode prog_5_method_3_code 167 = .ok (.aload 7, 2) := by decide +kernel
theorem d_Rw_branch_169 : decode prog_5_method_3_code 169 = .ok (.aload_n 1, 1) := by decide +kernel
theorem d_Rw_branch_170 : decode prog_5_method_3_code 170 = .ok (.getfield 65, 3) := by decide +kernel
theorem d_Rw_branch_173 : decode prog_5_method_3_code 173 = .ok (.iload 8, 2) := by decide +kernel
theorem d_Rw_branch_175 : decode prog_5_method_3_code 175 = .ok (.iaload, 1) := by decide +kernel
theorem d_Rw_branch_176 : decode prog_5_method_3_code 176 = .ok (.aload_n 0, 1) := by decide +kernel
theorem d_Rw_branch_177 : decode prog_5_method_3_code 177 = .ok (.getfield 22, 3) := by decide +kernel
theorem d_Rw_branch_180 : decode prog_5_method_3_code 180 = .ok (.getfield 98, 3) := by decide +kernel
theorem d_Rw_branch_183 : decode prog_5_method_3_code 183 = .ok (.aload_n 1, 1) := by decide +kernel
theorem d_Rw_branch_184 : decode prog_5_method_3_code 184 = .ok (.getfield 65, 3) := by decide +kernel
theorem d_Rw_branch_187 : decode prog_5_method_3_code 187 = .ok (.iload 8, 2) := by decide +kernel
theorem d_Rw_branch_189 : decode prog_5_method_3_code 189 = .ok (.iaload, 1) := by decide +kernel
theorem d_Rw_branch_190 : decode prog_5_method_3_code 190 = .ok (.iaload, 1) := by decide +kernel
theorem d_Rw_branch_191 : decode prog_5_method_3_code 191 = .ok (.invokevirtual 101, 3) := by decide +kernel
theorem d_Rw_branch_194 : decode prog_5_method_3_code 194 = .ok (.iinc 8 1, 3) := by decide +kernel
theorem d_Rw_branch_197 : decode prog_5_method_3_code 197 = .ok (.goto (-36), 3) := by decide +kernel
theorem d_Rw_branch_200 : decode prog_5_method_3_code 200 = .ok (.aload_n 0, 1) := by decide +kernel
theorem d_Rw_branch_201 : decode prog_5_method_3_code 201 = .ok (.getfield 26, 3) := by decide +kernel
theorem d_Rw_branch_204 : decode prog_5_method_3_code 204 = .ok (.iload_n 3, 1) := by decide +kernel
theorem d_Rw_branch_205 : decode prog_5_method_3_code 205 = .ok (.aload 7, 2) := by decide +kernel
theorem d_Rw_branch_207 : decode prog_5_method_3_code 207 = .ok (.invokevirtual 104, 3) := by decide +kernel
theorem d_Rw_branch_210 : decode prog_5_method_3_code 210 = .ok (.aload_n 0, 1) := by decide +kernel
theorem d_Rw_branch_211 : decode prog_5_method_3_code 211 = .ok (.invokevirtual 108, 3) := by decide +kernel
theorem d_Rw_branch_214 : decode prog_5_method_3_code 214 = .ok (.return_, 1) := by decide +kernel
def rm_Rw_branch : Room := { frames := 5, cells := 0, slots := 0, locals := 113 }
def f_Rw_branch_L11 (σ : mS) (w1 : Nat) (x2 : Int32) : (Int32 × Int32 × Int32) → Option ((Int32 × Int32 × Int32) ⊕ (Int32 × Int32 × Int32)) := fun t11 =>
  if x2 ≤ t11.2.2 then (
  some (.inr (t11.1, t11.2.1, t11.2.2))) else (
  nm (t11.2.1 ||| (1 <<< (t11.1 &&& 31))) fun v2 =>
  gd (inb t11.2.2 10) (
  gd (inb (σ.1 ((w1 + 1)) t11.2.2.toNatClampNeg) 40) (
  nm (σ.1 3 (σ.1 ((w1 + 1)) t11.2.2.toNatClampNeg).toNatClampNeg) fun v3 =>
  some (.inl (v3, v2, t11.2.2 + 1)))))
def f_Rw_branch_L161 (w1 : Nat) (x2 : Int32) (w10 : Nat) : (Int32 × mS) → Option ((Int32 × mS) ⊕ (Int32 × mS)) := fun t161 =>
  if x2 ≤ t161.1 then (
  some (.inr (t161.1, t161.2))) else (
  gd (inb t161.1 10) (
  gd (inb t161.1 10) (
  gd (inb (t161.2.1 ((w1 + 1)) t161.1.toNatClampNeg) 40) (
  (f_Wy_add w10 t161.2 (t161.2.1 ((w1 + 1)) t161.1.toNatClampNeg) (t161.2.1 4 (t161.2.1 ((w1 + 1)) t161.1.toNatClampNeg).toNatClampNeg)).bind fun σ12 =>
  some (.inl (t161.1 + 1, σ12))))))
def f_Rw_branch_J86 (σ : mS) (w1 : Nat) (x2 : Int32) (u11 : Int32 × Int32 × Int32) (j5 : Int64) : Option (mS) :=
  (f_Se_beginCounted 16 σ ((σ.2.1 1 8) &&& (j5 ^^^ ((-1)))) u11.2.1).bind fun σ6 =>
  (f_Se_offer 16 σ6 (σ6.1 25 7) 0).bind fun σ7 =>
  (f_Se_settleAll 16 σ7).bind fun σ8 =>
  (f_Se_knows 16 σ8 u11.1).bind fun v9 =>
  if v9 = 0 then (
  some σ8) else (
  gd (inb (σ8.1 25 4) 31) ((σ8.2.2 26 (σ8.1 25 4).toNatClampNeg).bind fun w10 => gd (wy w10) (
  (f_Wy_begin w10 σ8 x2 j5).bind fun σ11 =>
  (lpN (f_Rw_branch_L161 w1 x2 w10) fuS (0, σ11)).bind fun u161 =>
  (f_Se_follow 16 u161.2 u11.1 w10).bind fun σ13 =>
  (f_Rw_takeIn σ13).bind fun σ14 =>
  some σ14)))
def f_Rw_branch_J63 (σ : mS) (w1 : Nat) (x2 : Int32) (u11 : Int32 × Int32 × Int32) (j4 : Int64) : Option (mS) :=
  if (σ.1 w1 1) ≤ x2 then (
  f_Rw_branch_J86 σ w1 x2 u11 j4) else (
  gd (inb x2 10) (
  nm (j4 ||| (1 <<< ((σ.1 ((w1 + 1)) x2.toNatClampNeg).toInt64 &&& 63))) fun v15 =>
  f_Rw_branch_J86 σ w1 x2 u11 v15))
def f_Rw_branch (σ : mS) (w1 : Nat) (x2 : Int32) : Option (mS) :=
  nm (σ.1 25 6) fun v1 =>
  (lpN (f_Rw_branch_L11 σ w1 x2) fuS (v1, 0, 0)).bind fun u11 =>
  if x2 = (σ.1 w1 3) then (
  f_Rw_branch_J63 σ w1 x2 u11 (σ.2.1 w1 4)) else (
  f_Rw_branch_J63 σ w1 x2 u11 0)
set_option maxHeartbeats 4000000 in
set_option maxRecDepth 100000 in
theorem c_Rw_branch (l : Launch) (D : va_G) (cA ad : Nat → Nat) {w1 : Nat} (hw1 : wy w1 = true) (σ : mS) (x2 : Int32) (o : mS) (h : f_Rw_branch σ w1 x2 = some o) : mCv l ⟨"LeastPaths$Row", "branch", "(LLeastPaths$Way;I)V"⟩ (Cond.code ⟨"LeastPaths$Row", "branch", "(LLeastPaths$Way;I)V"⟩ prog_5_method_3_code 9 (Option.none : Option Jvm.ClassFile.FieldType) :: tlG) rm_Rw_branch D clX (tyK cA) 99 (tbX cA) ad σ [.ref (ad 25), .ref (ad w1), .int x2] o := by
  intro sz
  refine m_of (cc := prog_5_method_3_code) (maxL := 9) (Qc := mQv D clX (tyK cA) 99 (tbX cA) ad o) (by decide) (Nat.le_of_ble_eq_true rfl) (fun p e s m args below meth c ls S hr hlk hnm hl M => ?_) sz
  have hl : lv_has ls 9 [(0, .ref (ad 25)), (1, .ref (ad w1)), (2, .int x2)] := hl
  generalize hQ : MQ _ _ _ _ _ _ _ = Q
  skip
  unfold f_Rw_branch at h
  refine lv_aload_n S.1 S.2.1 d_Rw_branch_0 rfl (lv_at hl 0 rfl) ?_
  refine m_gi S M (j := 6) ok_Rw (by decide) rfl (by decide) rfl kw_237 rfl d_Rw_branch_1 ?_
  refine m_ni h (fun v1 h => ?_)
  refine lv_istore_n (lv' := [(3, .int v1), (0, .ref (ad 25)), (1, .ref (ad w1)), (2, .int x2)]) S.1 S.2.1 d_Rw_branch_4 rfl hl (by decide) rfl (fun ls hl => ?_)
  refine lv_iconst (v := 0) S.1 S.2.1 d_Rw_branch_5 (by decide) ?_
  refine lv_istore (lv' := [(4, .int 0), (3, .int v1), (0, .ref (ad 25)), (1, .ref (ad w1)), (2, .int x2)]) S.1 S.2.1 d_Rw_branch_6 hl (by decide) rfl (fun ls hl => ?_)
  refine lv_iconst (v := 0) S.1 S.2.1 d_Rw_branch_8 (by decide) ?_
  refine lv_istore (lv' := [(5, .int 0), (4, .int 0), (3, .int v1), (0, .ref (ad 25)), (1, .ref (ad w1)), (2, .int x2)]) S.1 S.2.1 d_Rw_branch_9 hl (by decide) rfl (fun ls hl => ?_)
  obtain ⟨u11, q11, h⟩ := Option.bind_eq_some_iff.mp h
  refine lpN_W1 (st := f_Rw_branch_L11 σ w1 x2) (fun (t11 : Int32 × Int32 × Int32) => ∀ (ls : Array Slot) (H : Heap) (locs : List Loc), lv_has ls 9 [(5, .int t11.2.2), (4, .int t11.2.1), (3, .int t11.1), (0, .ref (ad 25)), (1, .ref (ad w1)), (2, .int x2)] → mM D clX (tyK cA) (mA 99 ad s.heap.size) s 99 (tbX cA) ad σ H locs → W p l e rm_Rw_branch s m args below meth c H locs 0 0 Q (F0 m 11 ls [])) (fun (u11 : Int32 × Int32 × Int32) => ∀ (ls : Array Slot) (H : Heap) (locs : List Loc), lv_has ls 9 [(5, .int u11.2.2), (4, .int u11.2.1), (3, .int u11.1), (0, .ref (ad 25)), (1, .ref (ad w1)), (2, .int x2)] → mM D clX (tyK cA) (mA 99 ad s.heap.size) s 99 (tbX cA) ad σ H locs → W p l e rm_Rw_branch s m args below meth c H locs 0 0 Q (F0 m 47 ls [])) ?_ fuS ((v1, 0, 0) : Int32 × Int32 × Int32) u11 q11 ?_ ls _ _ (lv_sub hl [0, 1, 2, 3, 4, 5] rfl) M
  · intro t11 oo11 h K1 K2 ls H locs hl M
    unfold f_Rw_branch_L11 at h
    refine lv_iload S.1 S.2.1 d_Rw_branch_11 (lv_at hl 0 rfl) ?_
    refine lv_iload_n S.1 S.2.1 d_Rw_branch_13 rfl (lv_at hl 5 rfl) ?_
    refine m_ige (tgt := 47) S d_Rw_branch_14 (by decide) h (fun h => ?_) (fun h => ?_)
    · exact K2 _ (Option.some.inj h).symm ls _ _ (lv_sub hl [0, 1, 2, 3, 4, 5] rfl) M
    · refine lv_iload S.1 S.2.1 d_Rw_branch_17 (lv_at hl 1 rfl) ?_
      refine lv_iconst (v := 1) S.1 S.2.1 d_Rw_branch_19 (by decide) ?_
      refine lv_iload_n S.1 S.2.1 d_Rw_branch_20 rfl (lv_at hl 2 rfl) ?_
      refine lv_ishl S.1 S.2.1 d_Rw_branch_21 ?_
      refine lv_ior S.1 S.2.1 d_Rw_branch_22 ?_
      refine m_ni h (fun v2 h => ?_)
      refine lv_istore (lv' := [(4, .int v2), (5, .int t11.2.2), (3, .int t11.1), (0, .ref (ad 25)), (1, .ref (ad w1)), (2, .int x2)]) S.1 S.2.1 d_Rw_branch_23 hl (by decide) rfl (fun ls hl => ?_)
      refine lv_aload_n S.1 S.2.1 d_Rw_branch_25 rfl (lv_at hl 3 rfl) ?_
      refine m_gs (t := 1) S M (j := 0) ok_Rw (by decide) rfl (by decide) rfl kw_238 rfl d_Rw_branch_26 ?_
      refine m_gs (t := 3) S M (j := 1) ok_Gr (by decide) rfl (by decide) rfl kw_239 rfl d_Rw_branch_29 ?_
      refine lv_aload_n S.1 S.2.1 d_Rw_branch_32 rfl (lv_at hl 4 rfl) ?_
      refine m_gs (t := (w1 + 1)) S M (j := 0) ok_Wy (lt_Y0 hw1) (tb_Y0 hw1) (by decide) rfl kw_240 rfl d_Rw_branch_33 ?_
      refine lv_iload S.1 S.2.1 d_Rw_branch_36 (lv_at hl 1 rfl) ?_
      refine m_ial (t0 := 0) S M (lt_Y1 hw1) (tb_Y1 hw1) rfl h d_Rw_branch_38 (fun h => ?_)
      refine m_ial (t0 := 0) S M (by decide) rfl rfl h d_Rw_branch_39 (fun h => ?_)
      refine m_ni h (fun v3 h => ?_)
      refine lv_istore_n (lv' := [(3, .int v3), (4, .int v2), (5, .int t11.2.2), (0, .ref (ad 25)), (1, .ref (ad w1)), (2, .int x2)]) S.1 S.2.1 d_Rw_branch_40 rfl hl (by decide) rfl (fun ls hl => ?_)
      refine lv_iinc (v := t11.2.2 + 1) (lv' := [(5, .int (t11.2.2 + 1)), (3, .int v3), (4, .int v2), (0, .ref (ad 25)), (1, .ref (ad w1)), (2, .int x2)]) S.1 S.2.1 d_Rw_branch_41 hl (k := 2) rfl rfl (by decide) rfl (fun ls hl => ?_)
      refine lv_goto (tgt := 11) S.1 S.2.1 d_Rw_branch_44 (by decide) ?_
      exact K1 _ (Option.some.inj h).symm ls _ _ (lv_sub hl [0, 2, 1, 3, 4, 5] rfl) M
  · intro ls H locs hl M
    refine lv_iload_n S.1 S.2.1 d_Rw_branch_47 rfl (lv_at hl 5 rfl) ?_
    refine lv_aload_n S.1 S.2.1 d_Rw_branch_48 rfl (lv_at hl 4 rfl) ?_
    refine m_gi S M (j := 3) ok_Wy (lt_Y0 hw1) (tb_Y0 hw1) (by decide) rfl kw_241 rfl d_Rw_branch_49 ?_
    have J63 : ∀ (j4 : Int64) (ls : Array Slot) (H : Heap) (locs : List Loc), f_Rw_branch_J63 σ w1 x2 u11 j4 = some o → lv_has ls 9 [(5, .int u11.2.2), (4, .int u11.2.1), (3, .int u11.1), (0, .ref (ad 25)), (1, .ref (ad w1)), (2, .int x2)] → mM D clX (tyK cA) (mA 99 ad s.heap.size) s 99 (tbX cA) ad σ H locs → W p l e rm_Rw_branch s m args below meth c H locs 0 0 Q (F0 m 63 ls [.long j4]) := by
      intro j4 ls H locs h hl M
      unfold f_Rw_branch_J63 at h
      refine lv_lstore (lv' := [(5, .long j4), (4, .int u11.2.1), (3, .int u11.1), (0, .ref (ad 25)), (1, .ref (ad w1)), (2, .int x2)]) S.1 S.2.1 d_Rw_branch_63 hl (by decide) rfl (fun ls hl => ?_)
      refine lv_iload_n S.1 S.2.1 d_Rw_branch_65 rfl (lv_at hl 5 rfl) ?_
      refine lv_aload_n S.1 S.2.1 d_Rw_branch_66 rfl (lv_at hl 4 rfl) ?_
      refine m_gi S M (j := 1) ok_Wy (lt_Y0 hw1) (tb_Y0 hw1) (by decide) rfl kw_243 rfl d_Rw_branch_67 ?_
      have J86 : ∀ (j5 : Int64) (ls : Array Slot) (H : Heap) (locs : List Loc), f_Rw_branch_J86 σ w1 x2 u11 j5 = some o → lv_has ls 9 [(5, .long j5), (4, .int u11.2.1), (3, .int u11.1), (0, .ref (ad 25)), (1, .ref (ad w1)), (2, .int x2)] → mM D clX (tyK cA) (mA 99 ad s.heap.size) s 99 (tbX cA) ad σ H locs → W p l e rm_Rw_branch s m args below meth c H locs 0 0 Q (F0 m 86 ls []) := by
        intro j5 ls H locs h hl M
        unfold f_Rw_branch_J86 at h
        refine lv_aload_n S.1 S.2.1 d_Rw_branch_86 rfl (lv_at hl 3 rfl) ?_
        refine m_gs (t := 16) S M (j := 1) ok_Rw (by decide) rfl (by decide) rfl kw_244 rfl d_Rw_branch_87 ?_
        refine lv_aload_n S.1 S.2.1 d_Rw_branch_90 rfl (lv_at hl 3 rfl) ?_
        refine m_gs (t := 1) S M (j := 0) ok_Rw (by decide) rfl (by decide) rfl kw_238 rfl d_Rw_branch_91 ?_
        refine m_gl S M (j := 8) ok_Gr (by decide) rfl (by decide) rfl kw_245 rfl d_Rw_branch_94 ?_
        refine lv_lload S.1 S.2.1 d_Rw_branch_97 (lv_at hl 0 rfl) ?_
        refine lv_ldc2 (v := (-1)) S.1 S.2.1 S.2.2.2.1 (S.2.2.2.2 _ kw_246) d_Rw_branch_99 ?_
        refine lv_lxor S.1 S.2.1 d_Rw_branch_102 ?_
        refine lv_land S.1 S.2.1 d_Rw_branch_103 ?_
        refine lv_iload S.1 S.2.1 d_Rw_branch_104 (lv_at hl 1 rfl) ?_
        refine m_xv h (fun o ho => m_rV (As := [.long ((σ.2.1 1 8) &&& (j5 ^^^ ((-1)))), .int u11.2.1]) (rest := []) S M hl.1 (cwG (n := 2) S.2.2.2.2 kw_247 kw_215 kw_216 kw_51 kw_217 (by decide) ⟨Nat.le_of_ble_eq_true rfl, Nat.le_of_ble_eq_true rfl⟩) ok_Se (by decide) rfl (c_Se_beginCounted l D cA ad sB_16 σ ((σ.2.1 1 8) &&& (j5 ^^^ ((-1)))) u11.2.1 o ho _) rfl rfl (Nat.le_of_ble_eq_true rfl) d_Rw_branch_106 ⟨Nat.zero_le _, Nat.zero_le _⟩) M (fun σ6 H locs h M => ?_)
        refine lv_aload_n S.1 S.2.1 d_Rw_branch_109 rfl (lv_at hl 3 rfl) ?_
        refine m_gs (t := 16) S M (j := 1) ok_Rw (by decide) rfl (by decide) rfl kw_244 rfl d_Rw_branch_110 ?_
        refine lv_aload_n S.1 S.2.1 d_Rw_branch_113 rfl (lv_at hl 3 rfl) ?_
        refine m_gi S M (j := 7) ok_Rw (by decide) rfl (by decide) rfl kw_248 rfl d_Rw_branch_114 ?_
        refine lv_iconst (v := 0) S.1 S.2.1 d_Rw_branch_117 (by decide) ?_
        refine m_xv h (fun o ho => m_rV (As := [.int (σ6.1 25 7), .int 0]) (rest := []) S M hl.1 (cwG (n := 2) S.2.2.2.2 kw_249 kw_97 kw_98 kw_51 kw_99 (by decide) ⟨Nat.le_of_ble_eq_true rfl, Nat.le_of_ble_eq_true rfl⟩) ok_Se (by decide) rfl (c_Se_offer l D cA ad sB_16 σ6 (σ6.1 25 7) 0 o ho _) rfl rfl (Nat.le_of_ble_eq_true rfl) d_Rw_branch_118 ⟨Nat.zero_le _, Nat.zero_le _⟩) M (fun σ7 H locs h M => ?_)
        refine lv_aload_n S.1 S.2.1 d_Rw_branch_121 rfl (lv_at hl 3 rfl) ?_
        refine m_gs (t := 16) S M (j := 1) ok_Rw (by decide) rfl (by decide) rfl kw_244 rfl d_Rw_branch_122 ?_
        refine m_xv h (fun o ho => m_rV (As := []) (rest := []) S M hl.1 (cwG (n := 0) S.2.2.2.2 kw_250 kw_221 kw_222 kw_51 kw_223 (by decide) ⟨Nat.le_of_ble_eq_true rfl, Nat.le_of_ble_eq_true rfl⟩) ok_Se (by decide) rfl (c_Se_settleAll l D cA ad sB_16 σ7 o ho _) rfl rfl (Nat.le_of_ble_eq_true rfl) d_Rw_branch_125 ⟨Nat.zero_le _, Nat.zero_le _⟩) M (fun σ8 H locs h M => ?_)
        refine lv_aload_n S.1 S.2.1 d_Rw_branch_128 rfl (lv_at hl 3 rfl) ?_
        refine m_gs (t := 16) S M (j := 1) ok_Rw (by decide) rfl (by decide) rfl kw_244 rfl d_Rw_branch_129 ?_
        refine lv_iload_n S.1 S.2.1 d_Rw_branch_132 rfl (lv_at hl 2 rfl) ?_
        refine m_xip h (fun o ho => m_rV (As := [.int u11.1]) (rest := []) S M hl.1 (cwG (n := 1) S.2.2.2.2 kw_251 kw_113 kw_114 kw_51 kw_115 (by decide) ⟨Nat.le_of_ble_eq_true rfl, Nat.le_of_ble_eq_true rfl⟩) ok_Se (by decide) rfl (c_Se_knows l D cA ad sB_16 σ8 u11.1 o ho _) rfl rfl (Nat.le_of_ble_eq_true rfl) d_Rw_branch_133 ⟨Nat.zero_le _, Nat.zero_le _⟩) M (fun v9 H locs h M => ?_)
        refine m_ifeq (tgt := 214) S d_Rw_branch_136 (by decide) h (fun h => ?_) (fun h => ?_)
        · subst hQ; exact m_vret S hr hlk M (Option.some.inj h) d_Rw_branch_214
        · refine lv_aload_n S.1 S.2.1 d_Rw_branch_139 rfl (lv_at hl 3 rfl) ?_
          refine m_gs (t := 26) S M (j := 2) ok_Rw (by decide) rfl (by decide) rfl kw_230 rfl d_Rw_branch_140 ?_
          refine lv_aload_n S.1 S.2.1 d_Rw_branch_143 rfl (lv_at hl 3 rfl) ?_
          refine m_gi S M (j := 4) ok_Rw (by decide) rfl (by decide) rfl kw_229 rfl d_Rw_branch_144 ?_
          refine m_aalW (t0 := 3) S M (by decide) rfl rfl h d_Rw_branch_147 (fun w10 hw10 h => ?_)
          refine lv_astore (lv' := [(7, .ref (ad w10)), (5, .long j5), (4, .int u11.2.1), (3, .int u11.1), (0, .ref (ad 25)), (1, .ref (ad w1)), (2, .int x2)]) S.1 S.2.1 d_Rw_branch_148 hl (by decide) rfl (fun ls hl => ?_)
          refine lv_aload S.1 S.2.1 d_Rw_branch_150 (lv_at hl 0 rfl) ?_
          refine lv_iload_n S.1 S.2.1 d_Rw_branch_152 rfl (lv_at hl 6 rfl) ?_
          refine lv_lload S.1 S.2.1 d_Rw_branch_153 (lv_at hl 1 rfl) ?_
          refine m_xv h (fun o ho => m_rV (As := [.int x2, .long j5]) (rest := []) S M hl.1 (cwG (n := 2) S.2.2.2.2 kw_252 kw_201 kw_202 kw_128 kw_203 (by decide) ⟨Nat.le_of_ble_eq_true rfl, Nat.le_of_ble_eq_true rfl⟩) ok_Wy (lt_Y0 hw10) (tb_Y0 hw10) (c_Wy_begin l D cA ad hw10 σ8 x2 j5 o ho _) rfl rfl (Nat.le_of_ble_eq_true rfl) d_Rw_branch_155 ⟨Nat.zero_le _, Nat.zero_le _⟩) M (fun σ11 H locs h M => ?_)
          refine lv_iconst (v := 0) S.1 S.2.1 d_Rw_branch_158 (by decide) ?_
          refine lv_istore (lv' := [(8, .int 0), (7, .ref (ad w10)), (5, .long j5), (4, .int u11.2.1), (3, .int u11.1), (0, .ref (ad 25)), (1, .ref (ad w1)), (2, .int x2)]) S.1 S.2.1 d_Rw_branch_159 hl (by decide) rfl (fun ls hl => ?_)
          obtain ⟨u161, q161, h⟩ := Option.bind_eq_some_iff.mp h
          refine lpN_W1 (st := f_Rw_branch_L161 w1 x2 w10) (fun (t161 : Int32 × mS) => ∀ (ls : Array Slot) (H : Heap) (locs : List Loc), lv_has ls 9 [(8, .int t161.1), (7, .ref (ad w10)), (5, .long j5), (4, .int u11.2.1), (3, .int u11.1), (0, .ref (ad 25)), (1, .ref (ad w1)), (2, .int x2)] → mM D clX (tyK cA) (mA 99 ad s.heap.size) s 99 (tbX cA) ad t161.2 H locs → W p l e rm_Rw_branch s m args below meth c H locs 0 0 Q (F0 m 161 ls [])) (fun (u161 : Int32 × mS) => ∀ (ls : Array Slot) (H : Heap) (locs : List Loc), lv_has ls 9 [(8, .int u161.1), (7, .ref (ad w10)), (5, .long j5), (4, .int u11.2.1), (3, .int u11.1), (0, .ref (ad 25)), (1, .ref (ad w1)), (2, .int x2)] → mM D clX (tyK cA) (mA 99 ad s.heap.size) s 99 (tbX cA) ad u161.2 H locs → W p l e rm_Rw_branch s m args below meth c H locs 0 0 Q (F0 m 200 ls [])) ?_ fuS ((0, σ11) : Int32 × mS) u161 q161 ?_ ls _ _ (lv_sub hl [0, 1, 2, 3, 4, 5, 6, 7] rfl) M
          · intro t161 oo161 h K1 K2 ls H locs hl M
            unfold f_Rw_branch_L161 at h
            refine lv_iload S.1 S.2.1 d_Rw_branch_161 (lv_at hl 0 rfl) ?_
            refine lv_iload_n S.1 S.2.1 d_Rw_branch_163 rfl (lv_at hl 7 rfl) ?_
            refine m_ige (tgt := 200) S d_Rw_branch_164 (by decide) h (fun h => ?_) (fun h => ?_)
            · exact K2 _ (Option.some.inj h).symm ls _ _ (lv_sub hl [0, 1, 2, 3, 4, 5, 6, 7] rfl) M
            · refine lv_aload S.1 S.2.1 d_Rw_branch_167 (lv_at hl 1 rfl) ?_
              refine lv_aload_n S.1 S.2.1 d_Rw_branch_169 rfl (lv_at hl 6 rfl) ?_
              refine m_gs (t := (w1 + 1)) S M (j := 0) ok_Wy (lt_Y0 hw1) (tb_Y0 hw1) (by decide) rfl kw_240 rfl d_Rw_branch_170 ?_
              refine lv_iload S.1 S.2.1 d_Rw_branch_173 (lv_at hl 0 rfl) ?_
              refine m_ial (t0 := 0) S M (lt_Y1 hw1) (tb_Y1 hw1) rfl h d_Rw_branch_175 (fun h => ?_)
              refine lv_aload_n S.1 S.2.1 d_Rw_branch_176 rfl (lv_at hl 5 rfl) ?_
              refine m_gs (t := 1) S M (j := 0) ok_Rw (by decide) rfl (by decide) rfl kw_238 rfl d_Rw_branch_177 ?_
              refine m_gs (t := 4) S M (j := 2) ok_Gr (by decide) rfl (by decide) rfl kw_253 rfl d_Rw_branch_180 ?_
              refine lv_aload_n S.1 S.2.1 d_Rw_branch_183 rfl (lv_at hl 6 rfl) ?_
              refine m_gs (t := (w1 + 1)) S M (j := 0) ok_Wy (lt_Y0 hw1) (tb_Y0 hw1) (by decide) rfl kw_240 rfl d_Rw_branch_184 ?_
              refine lv_iload S.1 S.2.1 d_Rw_branch_187 (lv_at hl 0 rfl) ?_
              refine m_ial (t0 := 0) S M (lt_Y1 hw1) (tb_Y1 hw1) rfl h d_Rw_branch_189 (fun h => ?_)
              refine m_ial (t0 := 0) S M (by decide) rfl rfl h d_Rw_branch_190 (fun h => ?_)
              refine m_xv h (fun o ho => m_rV (As := [.int (t161.2.1 ((w1 + 1)) t161.1.toNatClampNeg), .int (t161.2.1 4 (t161.2.1 ((w1 + 1)) t161.1.toNatClampNeg).toNatClampNeg)]) (rest := []) S M hl.1 (cwG (n := 2) S.2.2.2.2 kw_254 kw_126 kw_127 kw_128 kw_129 (by decide) ⟨Nat.le_of_ble_eq_true rfl, Nat.le_of_ble_eq_true rfl⟩) ok_Wy (lt_Y0 hw10) (tb_Y0 hw10) (c_Wy_add l D cA ad hw10 t161.2 (t161.2.1 ((w1 + 1)) t161.1.toNatClampNeg) (t161.2.1 4 (t161.2.1 ((w1 + 1)) t161.1.toNatClampNeg).toNatClampNeg) o ho _) rfl rfl (Nat.le_of_ble_eq_true rfl) d_Rw_branch_191 ⟨Nat.zero_le _, Nat.zero_le _⟩) M (fun σ12 H locs h M => ?_)
              refine lv_iinc (v := t161.1 + 1) (lv' := [(8, .int (t161.1 + 1)), (7, .ref (ad w10)), (5, .long j5), (4, .int u11.2.1), (3, .int u11.1), (0, .ref (ad 25)), (1, .ref (ad w1)), (2, .int x2)]) S.1 S.2.1 d_Rw_branch_194 hl (k := 0) rfl rfl (by decide) rfl (fun ls hl => ?_)
              refine lv_goto (tgt := 161) S.1 S.2.1 d_Rw_branch_197 (by decide) ?_
              exact K1 _ (Option.some.inj h).symm ls _ _ (lv_sub hl [0, 1, 2, 3, 4, 5, 6, 7] rfl) M
          · intro ls H locs hl M
            refine lv_aload_n S.1 S.2.1 d_Rw_branch_200 rfl (lv_at hl 5 rfl) ?_
            refine m_gs (t := 16) S M (j := 1) ok_Rw (by decide) rfl (by decide) rfl kw_244 rfl d_Rw_branch_201 ?_
            refine lv_iload_n S.1 S.2.1 d_Rw_branch_204 rfl (lv_at hl 4 rfl) ?_
            refine lv_aload S.1 S.2.1 d_Rw_branch_205 (lv_at hl 1 rfl) ?_
            refine m_xv h (fun o ho => m_rV (As := [.int u11.1, .ref (ad w10)]) (rest := []) S M hl.1 (cwG (n := 2) S.2.2.2.2 kw_255 kw_206 kw_207 kw_51 kw_208 (by decide) ⟨Nat.le_of_ble_eq_true rfl, Nat.le_of_ble_eq_true rfl⟩) ok_Se (by decide) rfl (c_Se_follow l D cA ad sB_16 hw10 u161.2 u11.1 o ho _) rfl rfl (Nat.le_of_ble_eq_true rfl) d_Rw_branch_207 ⟨Nat.zero_le _, Nat.zero_le _⟩) M (fun σ13 H locs h M => ?_)
            refine lv_aload_n S.1 S.2.1 d_Rw_branch_210 rfl (lv_at hl 5 rfl) ?_
            refine m_xv h (fun o ho => m_rV (As := []) (rest := []) S M hl.1 (cwG (n := 0) S.2.2.2.2 kw_256 kw_257 kw_258 kw_259 kw_260 (by decide) ⟨Nat.le_of_ble_eq_true rfl, Nat.le_of_ble_eq_true rfl⟩) ok_Rw (by decide) rfl (c_Rw_takeIn l D cA ad σ13 o ho _) rfl rfl (Nat.le_of_ble_eq_true rfl) d_Rw_branch_211 ⟨Nat.zero_le _, Nat.zero_le _⟩) M (fun σ14 H locs h M => ?_)
            subst hQ; exact m_vret S hr hlk M (Option.some.inj h) d_Rw_branch_214
      refine m_ige (tgt := 86) S d_Rw_branch_70 (by decide) h (fun h => ?_) (fun h => ?_)
      · exact J86 _ ls _ _ h (lv_sub hl [0, 1, 2, 3, 4, 5] rfl) M
      · refine lv_lload S.1 S.2.1 d_Rw_branch_73 (lv_at hl 0 rfl) ?_
        refine lv_lconst (v := 1) S.1 S.2.1 d_Rw_branch_75 (by decide) ?_
        refine lv_aload_n S.1 S.2.1 d_Rw_branch_76 rfl (lv_at hl 4 rfl) ?_
        refine m_gs (t := (w1 + 1)) S M (j := 0) ok_Wy (lt_Y0 hw1) (tb_Y0 hw1) (by decide) rfl kw_240 rfl d_Rw_branch_77 ?_
        refine lv_iload_n S.1 S.2.1 d_Rw_branch_80 rfl (lv_at hl 5 rfl) ?_
        refine m_ial (t0 := 0) S M (lt_Y1 hw1) (tb_Y1 hw1) rfl h d_Rw_branch_81 (fun h => ?_)
        refine lv_lshl S.1 S.2.1 d_Rw_branch_82 rfl ?_
        refine lv_lor S.1 S.2.1 d_Rw_branch_83 ?_
        refine m_nl h (fun v15 h => ?_)
        refine lv_lstore (lv' := [(5, .long v15), (4, .int u11.2.1), (3, .int u11.1), (0, .ref (ad 25)), (1, .ref (ad w1)), (2, .int x2)]) S.1 S.2.1 d_Rw_branch_84 hl (by decide) rfl (fun ls hl => ?_)
        exact J86 _ ls _ _ h (lv_sub hl [0, 1, 2, 3, 4, 5] rfl) M
    refine m_ine (tgt := 62) S d_Rw_branch_52 (by decide) h (fun h => ?_) (fun h => ?_)
    · refine lv_lconst (v := 0) S.1 S.2.1 d_Rw_branch_62 (by decide) ?_
      exact J63 _ ls _ _ h (lv_sub hl [0, 1, 2, 3, 4, 5] rfl) M
    · refine lv_aload_n S.1 S.2.1 d_Rw_branch_55 rfl (lv_at hl 4 rfl) ?_
      refine m_gl S M (j := 4) ok_Wy (lt_Y0 hw1) (tb_Y0 hw1) (by decide) rfl kw_242 rfl d_Rw_branch_56 ?_
      refine lv_goto (tgt := 63) S.1 S.2.1 d_Rw_branch_59 (by decide) ?_
      exact J63 _ ls _ _ h (lv_sub hl [0, 1, 2, 3, 4, 5] rfl) M
theorem d_Rw_fill_0 : decode prog_5_method_2_code 0 = .ok (.aload_n 0, 1) := by decide +kernel
theorem d_Rw_fill_1 : decode prog_5_method_2_code 1 = .ok (.iload_n 1, 1) := by decide +kernel
theorem d_Rw_fill_2 : decode prog_5_method_2_code 2 = .ok (.putfield 30, 3) := by decide +kernel
theorem d_Rw_fill_5 : decode prog_5_method_2_code 5 = .ok (.aload_n 0, 1) := by decide +kernel
theorem d_Rw_fill_6 : decode prog_5_method_2_code 6 = .ok (.iload_n 2, 1) := by decide +kernel
theorem d_Rw_fill_7 : decode prog_5_method_2_code 7 = .ok (.putfield 34, 3) := by decide +kernel
theorem d_Rw_fill_10 : decode prog_5_method_2_code 10 = .ok (.aload_n 0, 1) := by decide +kernel
theorem d_Rw_fill_11 : decode prog_5_method_2_code 11 = .ok (.iconst 0, 1) := by decide +kernel
theorem d_Rw_fill_12 : decode prog_5_method_2_code 12 = .ok (.putfield 37, 3) := by decide +kernel
theorem d_Rw_fill_15 : decode prog_5_method_2_code 15 = .ok (.aload_n 0, 1) := by decide +kernel
theorem d_Rw_fill_16 : decode prog_5_method_2_code 16 = .ok (.bipush 30, 2) := by decide +kernel
theorem d_Rw_fill_18 : decode prog_5_method_2_code 18 = .ok (.iload_n 3, 1) := by decide +kernel
theorem d_Rw_fill_19 : decode prog_5_method_2_code 19 = .ok (.invokestatic 40, 3) := by decide +kernel
theorem d_Rw_fill_22 : decode prog_5_method_2_code 22 = .ok (.putfield 46, 3) := by decide +kernel
theorem d_Rw_fill_25 : decode prog_5_method_2_code 25 = .ok (.aload_n 0, 1) := by decide +kernel
theorem d_Rw_fill_26 : decode prog_5_method_2_code 26 = .ok (.aload_n 0, 1) := by decide +kernel
theorem d_Rw_fill_27 : decode prog_5_method_2_code 27 = .ok (.getfield 18, 3) := by decide +kernel
theorem d_Rw_fill_30 : decode prog_5_method_2_code 30 = .ok (.iconst 0, 1) := by decide +kernel
theorem d_Rw_fill_31 : decode prog_5_method_2_code 31 = .ok (.invokevirtual 49, 3) := by decide +kernel
theorem d_Rw_fill_34 : decode prog_5_method_2_code 34 = .ok (.iconst 0, 1) := by decide +kernel
theorem d_Rw_fill_35 : decode prog_5_method_2_code 35 = .ok (.istore 4, 2) := by decide +kernel
theorem d_Rw_fill_37 : decode prog_5_method_2_code 37 = .ok (.iload 4, 2) := by decide +kernel
theorem d_Rw_fill_39 : decode prog_5_method_2_code 39 = .ok (.aload_n 0, 1) := by decide +kernel
theorem d_Rw_fill_40 : decode prog_5_method_2_code 40 = .ok (.getfield 37, 3) := by decide +kernel
theorem d_Rw_fill_43 : decode prog_5_method_2_code 43 = .ok (.if_icmp .ge 60, 3) := by decide +kernel
theorem d_Rw_fill_46 : decode prog_5_method_2_code 46 = .ok (.iload 4, 2) := by decide +kernel
theorem d_Rw_fill_48 : decode prog_5_method_2_code 48 = .ok (.iconst 1, 1) := by decide +kernel
theorem d_Rw_fill_49 : decode prog_5_method_2_code 49 = .ok (.iadd, 1) := by decide +kernel
theorem d_Rw_fill_50 : decode prog_5_method_2_code 50 = .ok (.aload_n 0, 1) := by decide +kernel
theorem d_Rw_fill_51 : decode prog_5_method_2_code 51 = .ok (.getfield 46, 3) := by decide +kernel
theorem d_Rw_fill_54 : decode prog_5_method_2_code 54 = .ok (.if_icmp .ge 49, 3) := by decide +kernel
theorem d_Rw_fill_57 : decode prog_5_method_2_code 57 = .ok (.aload_n 0, 1) := by decide +kernel
theorem d_Rw_fill_58 : decode prog_5_method_2_code 58 = .ok (.getfield 11, 3) := by decide +kernel
theorem d_Rw_fill_61 : decode prog_5_method_2_code 61 = .ok (.iload 4, 2) := by decide +kernel
theorem d_Rw_fill_63 : decode prog_5_method_2_code 63 = .ok (.aaload, 1) := by decide +kernel
theorem d_Rw_fill_64 : decode prog_5_method_2_code 64 = .ok (.astore 5, 2) := by decide +kernel
theorem d_Rw_fill_66 : decode prog_5_method_2_code 66 = .ok (.aload 5, 2) := by decide +kernel
theorem d_Rw_fill_68 : decode prog_5_method_2_code 68 = .ok (.getfield 53, 3) := by decide +kernel
theorem d_Rw_fill_71 : decode prog_5_method_2_code 71 = .ok (.istore 6, 2) := by decide +kernel
theorem d_Rw_fill_73 : decode prog_5_method_2_code 73 = .ok (.iload 6, 2) := by decide +kernel
theorem d_Rw_fill_75 : decode prog_5_method_2_code 75 = .ok (.aload 5, 2) := by decide +kernel
theorem d_Rw_fill_77 : decode prog_5_method_2_code 77 = .ok (.getfield 56, 3) := by decide +kernel
theorem d_Rw_fill_80 : decode prog_5_method_2_code 80 = .ok (.if_icmp .ge 17, 3) := by decide +kernel
theorem d_Rw_fill_83 : decode prog_5_method_2_code 83 = .ok (.aload_n 0, 1) := by decide +kernel
theorem d_Rw_fill_84 : decode prog_5_method_2_code 84 = .ok (.aload 5, 2) := by decide +kernel
theorem d_Rw_fill_86 : decode prog_5_method_2_code 86 = .ok (.iload 6, 2) := by decide +kernel
theorem d_Rw_fill_88 : decode prog_5_method_2_code 88 = .ok (.invokevirtual 49, 3) := by decide +kernel
theorem d_Rw_fill_91 : decode prog_5_method_2_code 91 = .ok (.iinc 6 1, 3) := by decide +kernel
theorem d_Rw_fill_94 : decode prog_5_method_2_code 94 = .ok (.goto (-21), 3) := by decide +kernel
theorem d_Rw_fill_97 : decode prog_5_method_2_code 97 = .ok (.iinc 4 1, 3) := by decide +kernel
theorem d_Rw_fill_100 : decode prog_5_method_2_code 100 = .ok (.goto (-63), 3) := by decide +kernel
theorem d_Rw_fill_103 : decode prog_5_method_2_code 103 = .ok (.return_, 1) := by decide +kernel
def rm_Rw_fill : Room := { frames := 6, cells := 0, slots := 0, locals := 141 }
def f_Rw_fill_L73 (w6 : Nat) : (Int32 × mS) → Option ((Int32 × mS) ⊕ (Int32 × mS)) := fun t73 =>
  if (t73.2.1 w6 1) ≤ t73.1 then (
  some (.inr (t73.1, t73.2))) else (
  (f_Rw_branch t73.2 w6 t73.1).bind fun σ8 =>
  some (.inl (t73.1 + 1, σ8)))
def f_Rw_fill_L37 : (Int32 × mS) → Option ((Int32 × mS) ⊕ (Int32 × mS)) := fun t37 =>
  if (t37.2.1 25 4) ≤ t37.1 then (
  some (.inr (t37.1, t37.2))) else (
  if (t37.2.1 25 5) ≤ (t37.1 + 1) then (
  some (.inr (t37.1, t37.2))) else (
  gd (inb t37.1 31) ((t37.2.2.2 26 t37.1.toNatClampNeg).bind fun w6 => gd (wy w6) (
  nm (t37.2.1 w6 3) fun v7 =>
  (lpN (f_Rw_fill_L73 w6) fuS (v7, t37.2)).bind fun u73 =>
  some (.inl (t37.1 + 1, u73.2))))))
def f_Rw_fill (σ : mS) (x1 : Int32) (x2 : Int32) (x3 : Int32) : Option (mS) :=
  nm (sI σ 25 6 x1) fun σ1 =>
  nm (sI σ1 25 7 x2) fun σ2 =>
  nm (sI σ2 25 4 0) fun σ3 =>
  nm (sI σ3 25 5 (if x3 < 30 then x3 else 30)) fun σ4 =>
  (f_Rw_branch σ4 27 0).bind fun σ5 =>
  (lpN (f_Rw_fill_L37) fuS (0, σ5)).bind fun u37 =>
  some u37.2
set_option maxHeartbeats 4000000 in
set_option maxRecDepth 100000 in
theorem c_Rw_fill (l : Launch) (D : va_G) (cA ad : Nat → Nat) (σ : mS) (x1 : Int32) (x2 : Int32) (x3 : Int32) (o : mS) (h : f_Rw_fill σ x1 x2 x3 = some o) : mCv l ⟨"LeastPaths$Row", "fill", "(III)V"⟩ (Cond.code ⟨"LeastPaths$Row", "fill", "(III)V"⟩ prog_5_method_2_code 7 (Option.none : Option Jvm.ClassFile.FieldType) :: tlG) rm_Rw_fill D clX (tyK cA) 99 (tbX cA) ad σ [.ref (ad 25), .int x1, .int x2, .int x3] o := by
  intro sz
  refine m_of (cc := prog_5_method_2_code) (maxL := 7) (Qc := mQv D clX (tyK cA) 99 (tbX cA) ad o) (by decide) (Nat.le_of_ble_eq_true rfl) (fun p e s m args below meth c ls S hr hlk hnm hl M => ?_) sz
  have hl : lv_has ls 7 [(0, .ref (ad 25)), (1, .int x1), (2, .int x2), (3, .int x3)] := hl
  generalize hQ : MQ _ _ _ _ _ _ _ = Q
  skip
  unfold f_Rw_fill at h
  refine lv_aload_n S.1 S.2.1 d_Rw_fill_0 rfl (lv_at hl 0 rfl) ?_
  refine lv_iload_n S.1 S.2.1 d_Rw_fill_1 rfl (lv_at hl 1 rfl) ?_
  refine m_pi S M (j := 6) ok_Rw (by decide) rfl (by decide) rfl kw_237 rfl rfl rfl d_Rw_fill_2 h (fun σ1 H locs h M => ?_)
  refine lv_aload_n S.1 S.2.1 d_Rw_fill_5 rfl (lv_at hl 0 rfl) ?_
  refine lv_iload_n S.1 S.2.1 d_Rw_fill_6 rfl (lv_at hl 2 rfl) ?_
  refine m_pi S M (j := 7) ok_Rw (by decide) rfl (by decide) rfl kw_248 rfl rfl rfl d_Rw_fill_7 h (fun σ2 H locs h M => ?_)
  refine lv_aload_n S.1 S.2.1 d_Rw_fill_10 rfl (lv_at hl 0 rfl) ?_
  refine lv_iconst (v := 0) S.1 S.2.1 d_Rw_fill_11 (by decide) ?_
  refine m_pi S M (j := 4) ok_Rw (by decide) rfl (by decide) rfl kw_229 rfl rfl rfl d_Rw_fill_12 h (fun σ3 H locs h M => ?_)
  refine lv_aload_n S.1 S.2.1 d_Rw_fill_15 rfl (lv_at hl 0 rfl) ?_
  refine lv_bipush (v := 30) S.1 S.2.1 d_Rw_fill_16 (by decide) ?_
  refine lv_iload_n S.1 S.2.1 d_Rw_fill_18 rfl (lv_at hl 3 rfl) ?_
  refine va_mmin (rest := [.ref (ad 25)]) S.1 S.2.1 (S.2.2.1.trans hl.1.symm) S.2.2.2.1 (S.2.2.2.2 _ kw_236) (S.2.2.2.2 _ kw_137) (S.2.2.2.2 _ kw_138) (S.2.2.2.2 _ kw_139) (Nat.le_of_ble_eq_true rfl) (Nat.le_of_ble_eq_true rfl) (Nat.zero_le _) (Nat.zero_le _) d_Rw_fill_19 ?_
  refine m_pi S M (j := 5) ok_Rw (by decide) rfl (by decide) rfl kw_235 rfl rfl rfl d_Rw_fill_22 h (fun σ4 H locs h M => ?_)
  refine lv_aload_n S.1 S.2.1 d_Rw_fill_25 rfl (lv_at hl 0 rfl) ?_
  refine lv_aload_n S.1 S.2.1 d_Rw_fill_26 rfl (lv_at hl 0 rfl) ?_
  refine m_gs (t := 27) S M (j := 3) ok_Rw (by decide) rfl (by decide) rfl kw_261 rfl d_Rw_fill_27 ?_
  refine lv_iconst (v := 0) S.1 S.2.1 d_Rw_fill_30 (by decide) ?_
  refine m_xv h (fun o ho => m_rV (As := [.ref (ad 27), .int 0]) (rest := []) S M hl.1 (cwG (n := 2) S.2.2.2.2 kw_262 kw_263 kw_264 kw_259 kw_265 (by decide) ⟨Nat.le_of_ble_eq_true rfl, Nat.le_of_ble_eq_true rfl⟩) ok_Rw (by decide) rfl (c_Rw_branch l D cA ad wy_27 σ4 0 o ho _) rfl rfl (Nat.le_of_ble_eq_true rfl) d_Rw_fill_31 ⟨Nat.zero_le _, Nat.zero_le _⟩) M (fun σ5 H locs h M => ?_)
  refine lv_iconst (v := 0) S.1 S.2.1 d_Rw_fill_34 (by decide) ?_
  refine lv_istore (lv' := [(4, .int 0), (0, .ref (ad 25)), (1, .int x1), (2, .int x2), (3, .int x3)]) S.1 S.2.1 d_Rw_fill_35 hl (by decide) rfl (fun ls hl => ?_)
  obtain ⟨u37, q37, h⟩ := Option.bind_eq_some_iff.mp h
  refine lpN_W1 (st := f_Rw_fill_L37) (fun (t37 : Int32 × mS) => ∀ (ls : Array Slot) (H : Heap) (locs : List Loc), lv_has ls 7 [(4, .int t37.1), (0, .ref (ad 25)), (1, .int x1), (2, .int x2), (3, .int x3)] → mM D clX (tyK cA) (mA 99 ad s.heap.size) s 99 (tbX cA) ad t37.2 H locs → W p l e rm_Rw_fill s m args below meth c H locs 0 0 Q (F0 m 37 ls [])) (fun (u37 : Int32 × mS) => ∀ (ls : Array Slot) (H : Heap) (locs : List Loc), lv_has ls 7 [(4, .int u37.1), (0, .ref (ad 25)), (1, .int x1), (2, .int x2), (3, .int x3)] → mM D clX (tyK cA) (mA 99 ad s.heap.size) s 99 (tbX cA) ad u37.2 H locs → W p l e rm_Rw_fill s m args below meth c H locs 0 0 Q (F0 m 103 ls [])) ?_ fuS ((0, σ5) : Int32 × mS) u37 q37 ?_ ls _ _ (lv_sub hl [0, 1, 2, 3, 4] rfl) M
  · intro t37 oo37 h K1 K2 ls H locs hl M
    unfold f_Rw_fill_L37 at h
    refine lv_iload S.1 S.2.1 d_Rw_fill_37 (lv_at hl 0 rfl) ?_
    refine lv_aload_n S.1 S.2.1 d_Rw_fill_39 rfl (lv_at hl 1 rfl) ?_
    refine m_gi S M (j := 4) ok_Rw (by decide) rfl (by decide) rfl kw_229 rfl d_Rw_fill_40 ?_
    refine m_ige (tgt := 103) S d_Rw_fill_43 (by decide) h (fun h => ?_) (fun h => ?_)
    · exact K2 _ (Option.some.inj h).symm ls _ _ (lv_sub hl [0, 1, 2, 3, 4] rfl) M
    · refine lv_iload S.1 S.2.1 d_Rw_fill_46 (lv_at hl 0 rfl) ?_
      refine lv_iconst (v := 1) S.1 S.2.1 d_Rw_fill_48 (by decide) ?_
      refine lv_iadd S.1 S.2.1 d_Rw_fill_49 ?_
      refine lv_aload_n S.1 S.2.1 d_Rw_fill_50 rfl (lv_at hl 1 rfl) ?_
      refine m_gi S M (j := 5) ok_Rw (by decide) rfl (by decide) rfl kw_235 rfl d_Rw_fill_51 ?_
      refine m_ige (tgt := 103) S d_Rw_fill_54 (by decide) h (fun h => ?_) (fun h => ?_)
      · exact K2 _ (Option.some.inj h).symm ls _ _ (lv_sub hl [0, 1, 2, 3, 4] rfl) M
      · refine lv_aload_n S.1 S.2.1 d_Rw_fill_57 rfl (lv_at hl 1 rfl) ?_
        refine m_gs (t := 26) S M (j := 2) ok_Rw (by decide) rfl (by decide) rfl kw_230 rfl d_Rw_fill_58 ?_
        refine lv_iload S.1 S.2.1 d_Rw_fill_61 (lv_at hl 0 rfl) ?_
        refine m_aalW (t0 := 3) S M (by decide) rfl rfl h d_Rw_fill_63 (fun w6 hw6 h => ?_)
        refine lv_astore (lv' := [(5, .ref (ad w6)), (4, .int t37.1), (0, .ref (ad 25)), (1, .int x1), (2, .int x2), (3, .int x3)]) S.1 S.2.1 d_Rw_fill_64 hl (by decide) rfl (fun ls hl => ?_)
        refine lv_aload S.1 S.2.1 d_Rw_fill_66 (lv_at hl 0 rfl) ?_
        refine m_gi S M (j := 3) ok_Wy (lt_Y0 hw6) (tb_Y0 hw6) (by decide) rfl kw_241 rfl d_Rw_fill_68 ?_
        refine m_ni h (fun v7 h => ?_)
        refine lv_istore (lv' := [(6, .int v7), (5, .ref (ad w6)), (4, .int t37.1), (0, .ref (ad 25)), (1, .int x1), (2, .int x2), (3, .int x3)]) S.1 S.2.1 d_Rw_fill_71 hl (by decide) rfl (fun ls hl => ?_)
        obtain ⟨u73, q73, h⟩ := Option.bind_eq_some_iff.mp h
        refine lpN_W1 (st := f_Rw_fill_L73 w6) (fun (t73 : Int32 × mS) => ∀ (ls : Array Slot) (H : Heap) (locs : List Loc), lv_has ls 7 [(6, .int t73.1), (5, .ref (ad w6)), (4, .int t37.1), (0, .ref (ad 25)), (1, .int x1), (2, .int x2), (3, .int x3)] → mM D clX (tyK cA) (mA 99 ad s.heap.size) s 99 (tbX cA) ad t73.2 H locs → W p l e rm_Rw_fill s m args below meth c H locs 0 0 Q (F0 m 73 ls [])) (fun (u73 : Int32 × mS) => ∀ (ls : Array Slot) (H : Heap) (locs : List Loc), lv_has ls 7 [(6, .int u73.1), (5, .ref (ad w6)), (4, .int t37.1), (0, .ref (ad 25)), (1, .int x1), (2, .int x2), (3, .int x3)] → mM D clX (tyK cA) (mA 99 ad s.heap.size) s 99 (tbX cA) ad u73.2 H locs → W p l e rm_Rw_fill s m args below meth c H locs 0 0 Q (F0 m 97 ls [])) ?_ fuS ((v7, t37.2) : Int32 × mS) u73 q73 ?_ ls _ _ (lv_sub hl [0, 1, 2, 3, 4, 5, 6] rfl) M
        · intro t73 oo73 h K1 K2 ls H locs hl M
          unfold f_Rw_fill_L73 at h
          refine lv_iload S.1 S.2.1 d_Rw_fill_73 (lv_at hl 0 rfl) ?_
          refine lv_aload S.1 S.2.1 d_Rw_fill_75 (lv_at hl 1 rfl) ?_
          refine m_gi S M (j := 1) ok_Wy (lt_Y0 hw6) (tb_Y0 hw6) (by decide) rfl kw_243 rfl d_Rw_fill_77 ?_
          refine m_ige (tgt := 97) S d_Rw_fill_80 (by decide) h (fun h => ?_) (fun h => ?_)
          · exact K2 _ (Option.some.inj h).symm ls _ _ (lv_sub hl [0, 1, 2, 3, 4, 5, 6] rfl) M
          · refine lv_aload_n S.1 S.2.1 d_Rw_fill_83 rfl (lv_at hl 3 rfl) ?_
            refine lv_aload S.1 S.2.1 d_Rw_fill_84 (lv_at hl 1 rfl) ?_
            refine lv_iload S.1 S.2.1 d_Rw_fill_86 (lv_at hl 0 rfl) ?_
            refine m_xv h (fun o ho => m_rV (As := [.ref (ad w6), .int t73.1]) (rest := []) S M hl.1 (cwG (n := 2) S.2.2.2.2 kw_262 kw_263 kw_264 kw_259 kw_265 (by decide) ⟨Nat.le_of_ble_eq_true rfl, Nat.le_of_ble_eq_true rfl⟩) ok_Rw (by decide) rfl (c_Rw_branch l D cA ad hw6 t73.2 t73.1 o ho _) rfl rfl (Nat.le_of_ble_eq_true rfl) d_Rw_fill_88 ⟨Nat.zero_le _, Nat.zero_le _⟩) M (fun σ8 H locs h M => ?_)
            refine lv_iinc (v := t73.1 + 1) (lv' := [(6, .int (t73.1 + 1)), (5, .ref (ad w6)), (4, .int t37.1), (0, .ref (ad 25)), (1, .int x1), (2, .int x2), (3, .int x3)]) S.1 S.2.1 d_Rw_fill_91 hl (k := 0) rfl rfl (by decide) rfl (fun ls hl => ?_)
            refine lv_goto (tgt := 73) S.1 S.2.1 d_Rw_fill_94 (by decide) ?_
            exact K1 _ (Option.some.inj h).symm ls _ _ (lv_sub hl [0, 1, 2, 3, 4, 5, 6] rfl) M
        · intro ls H locs hl M
          refine lv_iinc (v := t37.1 + 1) (lv' := [(4, .int (t37.1 + 1)), (6, .int u73.1), (5, .ref (ad w6)), (0, .ref (ad 25)), (1, .int x1), (2, .int x2), (3, .int x3)]) S.1 S.2.1 d_Rw_fill_97 hl (k := 2) rfl rfl (by decide) rfl (fun ls hl => ?_)
          refine lv_goto (tgt := 37) S.1 S.2.1 d_Rw_fill_100 (by decide) ?_
          exact K1 _ (Option.some.inj h).symm ls _ _ (lv_sub hl [0, 3, 4, 5, 6] rfl) M
  · intro ls H locs hl M
    subst hQ; exact m_vret S hr hlk M (Option.some.inj h) d_Rw_fill_103
