theorem law_cmp {i L : Nat} (hi : i < 2 ^ 30) (hL : L < 2 ^ 30) : (Int32.ofNat L - 5 < nI i) ↔ ¬ i + 5 ≤ L := by
  have e5 : (5 : Int32) = nI 5 := rfl
  rw [Int32.lt_iff_toInt_lt, e5, show Int32.ofNat L = nI L from rfl, pk_sub_toInt hL (by decide), nI_toInt (by omega)]
  omega
set_option maxHeartbeats 4000000 in
set_option maxRecDepth 100000 in
theorem law_loop (l : Launch) (D : va_G) (cA adX adY : Nat → Nat) {p : Program} {e : Env} {s : State} {m : MethodId} {below : List Frame} {meth : Method} {c : Code} {b L : Nat} {xs : Nat → Int32} {cells slots : Nat} (hcs : cells ≤ room_1.cells ∧ slots ≤ room_1.slots) (hL : L ≤ 2561) (S : CallFix p m c code 4 s #[Value.ref b] tlG "LeastPathsLaw") (hr : meth.sig.returnType = ret) (hlocks : meth.locks = false) (hX : va_X b L xs s s.heap) (hbl : b < s.heap.size) : ∀ (d i : Nat) (σ τ : mS), i < 3000 → lawN xs L d i σ τ = some () → ∀ (ls : Array Slot) (H : Heap) (locs : List Loc), lv_has ls 4 [(3, .int (nI i)), (0, .ref b), (1, .ref (adX 0)), (2, .ref (adY 0))] → m2 D clX (tyK cA) (fun q => s.heap.size ≤ q) s 99 (tbX cA) adX σ 23 (tbY cA) adY τ H locs → W p l e room_1 s m #[Value.ref b] below meth c H locs cells slots (lw_Z below #[Value.ref b] s) (F0 m 28 ls []) := by
  have hA : ∀ q : Nat, s.heap.size ≤ q → (fun q : Nat => s.heap.size ≤ q) q := fun _ h => h
  have hbA : ¬ (fun q : Nat => s.heap.size ≤ q) b := Nat.not_le.mpr hbl
  intro d
  induction d with
  | zero => intro i σ τ _ h; exact absurd h (by simp [lawN])
  | succ d ih =>
    intro i σ τ hi0 h ls H locs hl M
    unfold lawN at h
    refine lv_iload_n S.1 S.2.1 d_L_law_28 rfl (lv_at hl 0 rfl) ?_
    refine lv_aload_n S.1 S.2.1 d_L_law_29 rfl (lv_at hl 1 rfl) ?_
    refine va_slen S.1 S.2.1 hX hbl hbA M.2.2.2 d_L_law_30 ?_
    refine lv_iconst (v := 5) S.1 S.2.1 d_L_law_31 (by decide) ?_
    refine lv_isub S.1 S.2.1 d_L_law_32 ?_
    refine lv_icmp_gt (tgt := 930) S.1 S.2.1 d_L_law_33 (by decide) (fun c1 => ?_) (fun c1 => ?_)
    · refine lv_iconst (v := 1) S.1 S.2.1 d_L_law_930 (by decide) ?_
      refine va_forget M.2.2.2.2.2 ?_
      refine W.widen (k := 600000) (n := 7302250) hcs.1 hcs.2 ?_
      exact lw_ret S.1 S.2.1 hr hlocks d_L_law_931
    · have hi : i + 5 ≤ L := Decidable.byContradiction fun hn => c1 ((law_cmp (by omega) (by omega)).mpr hn)
      rw [if_pos hi] at h
      obtain ⟨j, hj, ej⟩ := pk_andE (xs i) (m := 31) 5 (by decide)
      rw [ej, nI_clamp (by omega)] at h
      obtain ⟨q, hq, h⟩ := Option.bind_eq_some_iff.mp h
      refine lv_aload_n S.1 S.2.1 d_L_law_36 rfl (lv_at hl 1 rfl) ?_
      refine lv_iload_n S.1 S.2.1 d_L_law_37 rfl (lv_at hl 0 rfl) ?_
      refine va_sld S.1 S.2.1 hX hbl hbA M.2.2.2 (vp_in_nI (n := i) (by omega) (by omega)) d_L_law_38 ?_
      rw [nI_clamp (n := i) (by omega)]
      refine lv_bipush (v := 31) S.1 S.2.1 d_L_law_39 (by decide) ?_
      refine lv_iand S.1 S.2.1 d_L_law_41 ?_
      rw [ej]
      have K : ∀ q2 : mS × mS, q2 = q → ∀ (ls : Array Slot) (H : Heap) (locs : List Loc), lv_has ls 4 [(3, .int (nI i)), (0, .ref b), (1, .ref (adX 0)), (2, .ref (adY 0))] → m2 D clX (tyK cA) (fun q => s.heap.size ≤ q) s 99 (tbX cA) adX q2.1 23 (tbY cA) adY q2.2 H locs → W p l e room_1 s m #[Value.ref b] below meth c H locs cells slots (lw_Z below #[Value.ref b] s) (F0 m 924 ls []) := by
        intro q2 e2 ls H locs hl M
        subst e2
        refine lv_iinc (v := nI i + 5) (lv' := [(3, .int (nI i + 5)), (0, .ref b), (1, .ref (adX 0)), (2, .ref (adY 0))]) S.1 S.2.1 d_L_law_924 hl (k := 0) rfl rfl (by decide) rfl (fun ls hl => ?_)
        rw [show nI i + 5 = nI (i + 5) from nI_add i 5] at hl
        refine lv_goto (tgt := 28) S.1 S.2.1 d_L_law_927 (by decide) ?_
        exact ih (i + 5) q2.1 q2.2 (by omega) h ls H locs hl M
      have hj : j = 0 ∨ j = 1 ∨ j = 2 ∨ j = 3 ∨ j = 4 ∨ j = 5 ∨ j = 6 ∨ j = 7 ∨ j = 8 ∨ j = 9 ∨ j = 10 ∨ j = 11 ∨ j = 12 ∨ j = 13 ∨ j = 14 ∨ j = 15 ∨ j = 16 ∨ j = 17 ∨ j = 18 ∨ j = 19 ∨ j = 20 ∨ j = 21 ∨ j = 22 ∨ j = 23 ∨ j = 24 ∨ j = 25 ∨ j = 26 ∨ j = 27 ∨ j = 28 ∨ j = 29 ∨ j = 30 ∨ j = 31 := by omega
      rcases hj with rfl | rfl | rfl | rfl | rfl | rfl | rfl | rfl | rfl | rfl | rfl | rfl | rfl | rfl | rfl | rfl | rfl | rfl | rfl | rfl | rfl | rfl | rfl | rfl | rfl | rfl | rfl | rfl | rfl | rfl | rfl | rfl
      · exact lv_tableIn (off := 118) (tgt := 160) S.1 S.2.1 d_L_law_42 (by decide) (by decide) (by decide) (by decide) (law_c0 l D cA adX adY hcs hL hi S hX hbl hA hbA σ τ q K ls H locs hl M hq)
      · exact lv_tableIn (off := 131) (tgt := 173) S.1 S.2.1 d_L_law_42 (by decide) (by decide) (by decide) (by decide) (law_c1 l D cA adX adY hcs hL hi S hX hbl hA hbA σ τ q K ls H locs hl M hq)
      · exact lv_tableIn (off := 144) (tgt := 186) S.1 S.2.1 d_L_law_42 (by decide) (by decide) (by decide) (by decide) (law_c2 l D cA adX adY hcs hL hi S hX hbl hA hbA σ τ q K ls H locs hl M hq)
      · exact lv_tableIn (off := 187) (tgt := 229) S.1 S.2.1 d_L_law_42 (by decide) (by decide) (by decide) (by decide) (law_c3 l D cA adX adY hcs hL hi S hX hbl hA hbA σ τ q K ls H locs hl M hq)
      · exact lv_tableIn (off := 230) (tgt := 272) S.1 S.2.1 d_L_law_42 (by decide) (by decide) (by decide) (by decide) (law_c4 l D cA adX adY hcs hL hi S hX hbl hA hbA σ τ q K ls H locs hl M hq)
      · exact lv_tableIn (off := 253) (tgt := 295) S.1 S.2.1 d_L_law_42 (by decide) (by decide) (by decide) (by decide) (law_c5 l D cA adX adY hcs hL hi S hX hbl hA hbA σ τ q K ls H locs hl M hq)
      · exact lv_tableIn (off := 302) (tgt := 344) S.1 S.2.1 d_L_law_42 (by decide) (by decide) (by decide) (by decide) (law_c6 l D cA adX adY hcs hL hi S hX hbl hA hbA σ τ q K ls H locs hl M hq)
      · exact lv_tableIn (off := 335) (tgt := 377) S.1 S.2.1 d_L_law_42 (by decide) (by decide) (by decide) (by decide) (law_c7 l D cA adX adY hcs hL hi S hX hbl hA hbA σ τ q K ls H locs hl M hq)
      · exact lv_tableIn (off := 348) (tgt := 390) S.1 S.2.1 d_L_law_42 (by decide) (by decide) (by decide) (by decide) (law_c8 l D cA adX adY hcs hL hi S hX hbl hA hbA σ τ q K ls H locs hl M hq)
      · exact lv_tableIn (off := 371) (tgt := 413) S.1 S.2.1 d_L_law_42 (by decide) (by decide) (by decide) (by decide) (law_c9 l D cA adX adY hcs hL hi S hX hbl hA hbA σ τ q K ls H locs hl M hq)
      · exact lv_tableIn (off := 394) (tgt := 436) S.1 S.2.1 d_L_law_42 (by decide) (by decide) (by decide) (by decide) (law_c10 l D cA adX adY hcs hL hi S hX hbl hA hbA σ τ q K ls H locs hl M hq)
      · exact lv_tableIn (off := 417) (tgt := 459) S.1 S.2.1 d_L_law_42 (by decide) (by decide) (by decide) (by decide) (law_c11 l D cA adX adY hcs hL hi S hX hbl hA hbA σ τ q K ls H locs hl M hq)
      · exact lv_tableIn (off := 440) (tgt := 482) S.1 S.2.1 d_L_law_42 (by decide) (by decide) (by decide) (by decide) (law_c12 l D cA adX adY hcs hL hi S hX hbl hA hbA σ τ q K ls H locs hl M hq)
      · exact lv_tableIn (off := 473) (tgt := 515) S.1 S.2.1 d_L_law_42 (by decide) (by decide) (by decide) (by decide) (law_c13 l D cA adX adY hcs hL hi S hX hbl hA hbA σ τ q K ls H locs hl M hq)
      · exact lv_tableIn (off := 486) (tgt := 528) S.1 S.2.1 d_L_law_42 (by decide) (by decide) (by decide) (by decide) (law_c14 l D cA adX adY hcs hL hi S hX hbl hA hbA σ τ q K ls H locs hl M hq)
      · exact lv_tableIn (off := 509) (tgt := 551) S.1 S.2.1 d_L_law_42 (by decide) (by decide) (by decide) (by decide) (law_c15 l D cA adX adY hcs hL hi S hX hbl hA hbA σ τ q K ls H locs hl M hq)
      · exact lv_tableIn (off := 542) (tgt := 584) S.1 S.2.1 d_L_law_42 (by decide) (by decide) (by decide) (by decide) (law_c16 l D cA adX adY hcs hL hi S hX hbl hA hbA σ τ q K ls H locs hl M hq)
      · exact lv_tableIn (off := 575) (tgt := 617) S.1 S.2.1 d_L_law_42 (by decide) (by decide) (by decide) (by decide) (law_c17 l D cA adX adY hcs hL hi S hX hbl hA hbA σ τ q K ls H locs hl M hq)
      · exact lv_tableIn (off := 608) (tgt := 650) S.1 S.2.1 d_L_law_42 (by decide) (by decide) (by decide) (by decide) (law_c18 l D cA adX adY hcs hL hi S hX hbl hA hbA σ τ q K ls H locs hl M hq)
      · exact lv_tableIn (off := 641) (tgt := 683) S.1 S.2.1 d_L_law_42 (by decide) (by decide) (by decide) (by decide) (law_c19 l D cA adX adY hcs hL hi S hX hbl hA hbA σ τ q K ls H locs hl M hq)
      · exact lv_tableIn (off := 684) (tgt := 726) S.1 S.2.1 d_L_law_42 (by decide) (by decide) (by decide) (by decide) (law_c20 l D cA adX adY hcs hL hi S hX hbl hA hbA σ τ q K ls H locs hl M hq)
      · exact lv_tableIn (off := 737) (tgt := 779) S.1 S.2.1 d_L_law_42 (by decide) (by decide) (by decide) (by decide) (law_c21 l D cA adX adY hcs hL hi S hX hbl hA hbA σ τ q K ls H locs hl M hq)
      · exact lv_tableIn (off := 770) (tgt := 812) S.1 S.2.1 d_L_law_42 (by decide) (by decide) (by decide) (by decide) (law_c22 l D cA adX adY hcs hL hi S hX hbl hA hbA σ τ q K ls H locs hl M hq)
      · exact lv_tableIn (off := 813) (tgt := 855) S.1 S.2.1 d_L_law_42 (by decide) (by decide) (by decide) (by decide) (law_c23 l D cA adX adY hcs hL hi S hX hbl hA hbA σ τ q K ls H locs hl M hq)
      · exact lv_tableIn (off := 826) (tgt := 868) S.1 S.2.1 d_L_law_42 (by decide) (by decide) (by decide) (by decide) (law_c24 l D cA adX adY hcs hL hi S hX hbl hA hbA σ τ q K ls H locs hl M hq)
      · exact lv_tableIn (off := 849) (tgt := 891) S.1 S.2.1 d_L_law_42 (by decide) (by decide) (by decide) (by decide) (law_c25 l D cA adX adY hcs hL hi S hX hbl hA hbA σ τ q K ls H locs hl M hq)
      · exact lv_tableOut (tgt := 924) S.1 S.2.1 d_L_law_42 (by decide) (by decide) (K _ (Option.some.inj hq) ls H locs hl M)
      · exact lv_tableOut (tgt := 924) S.1 S.2.1 d_L_law_42 (by decide) (by decide) (K _ (Option.some.inj hq) ls H locs hl M)
      · exact lv_tableOut (tgt := 924) S.1 S.2.1 d_L_law_42 (by decide) (by decide) (K _ (Option.some.inj hq) ls H locs hl M)
      · exact lv_tableOut (tgt := 924) S.1 S.2.1 d_L_law_42 (by decide) (by decide) (K _ (Option.some.inj hq) ls H locs hl M)
      · exact lv_tableOut (tgt := 924) S.1 S.2.1 d_L_law_42 (by decide) (by decide) (K _ (Option.some.inj hq) ls H locs hl M)
      · exact lv_tableOut (tgt := 924) S.1 S.2.1 d_L_law_42 (by decide) (by decide) (K _ (Option.some.inj hq) ls H locs hl M)
