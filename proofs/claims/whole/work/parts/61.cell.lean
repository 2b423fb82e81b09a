theorem d_L_cell_0 : decode method_2_code 0 = .ok (.iload_n 1, 1) := by decide +kernel
theorem d_L_cell_1 : decode method_2_code 1 = .ok (.aload_n 0, 1) := by decide +kernel
theorem d_L_cell_2 : decode method_2_code 2 = .ok (.arraylength, 1) := by decide +kernel
theorem d_L_cell_3 : decode method_2_code 3 = .ok (.if_icmp .ge 9, 3) := by decide +kernel
theorem d_L_cell_6 : decode method_2_code 6 = .ok (.aload_n 0, 1) := by decide +kernel
theorem d_L_cell_7 : decode method_2_code 7 = .ok (.iload_n 1, 1) := by decide +kernel
theorem d_L_cell_8 : decode method_2_code 8 = .ok (.iaload, 1) := by decide +kernel
theorem d_L_cell_9 : decode method_2_code 9 = .ok (.goto 4, 3) := by decide +kernel
theorem d_L_cell_12 : decode method_2_code 12 = .ok (.iconst 0, 1) := by decide +kernel
theorem d_L_cell_13 : decode method_2_code 13 = .ok (.ireturn, 1) := by decide +kernel
def rm_L_cell : Room := { frames := 0, cells := 0, slots := 0, locals := 0 }
def cellV (xs : Nat → Int32) (L : Nat) : Int32 := if 0 < L then xs 0 else 0
set_option maxHeartbeats 4000000 in
theorem c_L_cell (l : Launch) (b L : Nat) (xs : Nat → Int32) (hL : L < 2 ^ 31) : Met l ⟨"LeastPathsLaw", "cell", "([II)I"⟩ (Cond.code ⟨"LeastPathsLaw", "cell", "([II)I"⟩ method_2_code 2 (Option.some Jvm.ClassFile.FieldType.int) :: tlG) rm_L_cell (va_Pc [.ref b, .int 0] (fun U => b < U.heap.size ∧ va_X b L xs U U.heap)) (vp_Si (fun r => r = cellV xs L)) 0 0 (fun _ => False) := by
  refine Met.ofW (cc := method_2_code) (maxL := 2) (ret := Option.some Jvm.ClassFile.FieldType.int) (by decide) rfl ?_
  intro p e s m args below meth c s₁ B hml hv
  obtain ⟨rfl, hbl, hX⟩ := hv
  have hx := B.exec
  have hb := B.bytes
  have hr := B.returns
  have hlk := B.notSynchronized
  have hS : va_S (fun _ => False) s.heap s.heap [] := va_S.rf
  have hl := lv_entry ([.ref b, .int 0]) (n := 2) (Nat.le_of_ble_eq_true rfl)
  rw [lg_entry_eq]
  generalize (lg_sl ([.ref b, .int 0]) ++ List.replicate (2 - (lg_sl ([.ref b, .int 0])).length) Slot.unset).toArray = ls at hl ⊢
  have hl : lv_has ls 2 [(0, .ref b), (1, .int 0)] := hl
  refine lv_iload_n hx hb d_L_cell_0 rfl (lv_at hl 1 rfl) ?_
  refine lv_aload_n hx hb d_L_cell_1 rfl (lv_at hl 0 rfl) ?_
  refine va_slen hx hb hX hbl (fun h => h) hS d_L_cell_2 ?_
  refine lv_icmp_ge (tgt := 12) hx hb d_L_cell_3 (by decide) (fun c1 => ?_) (fun c1 => ?_)
  · refine lv_iconst (v := 0) hx hb d_L_cell_12 (by decide) ?_
    refine W.iret (v := 0) hx hb hr (fun t ht hW => ⟨0, rfl, ?_, ht⟩) (fun q h => by cases h) d_L_cell_13 hlk
    have h0 : ¬ 0 < L := fun h => absurd c1 (show ¬ nI L ≤ 0 from nI_nle h hL)
    unfold cellV
    rw [if_neg h0]
  · have h0 : 0 < L := by
      rcases Nat.eq_zero_or_pos L with h | h
      · subst h
        exact absurd (by decide) c1
      · exact h
    refine lv_aload_n hx hb d_L_cell_6 rfl (lv_at hl 0 rfl) ?_
    refine lv_iload_n hx hb d_L_cell_7 rfl (lv_at hl 1 rfl) ?_
    refine va_sld hx hb hX hbl (fun h => h) hS (vp_in_nI (n := 0) h0 hL) d_L_cell_8 ?_
    refine lv_goto (tgt := 13) hx hb d_L_cell_9 (by decide) ?_
    refine W.iret hx hb hr (fun t ht hW => ⟨_, rfl, ?_, ht⟩) (fun q h => by cases h) d_L_cell_13 hlk
    unfold cellV
    rw [if_pos h0]
    rfl
