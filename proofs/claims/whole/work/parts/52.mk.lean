theorem d_Mo_init_0 : decode prog_12_method_1_code 0 = .ok (.aload_n 0, 1) := by decide +kernel
theorem d_Mo_init_1 : decode prog_12_method_1_code 1 = .ok (.invokespecial 1, 3) := by decide +kernel
theorem d_Mo_init_4 : decode prog_12_method_1_code 4 = .ok (.aload_n 0, 1) := by decide +kernel
theorem d_Mo_init_5 : decode prog_12_method_1_code 5 = .ok (.bipush 40, 2) := by decide +kernel
theorem d_Mo_init_7 : decode prog_12_method_1_code 7 = .ok (.newarray .int, 2) := by decide +kernel
theorem d_Mo_init_9 : decode prog_12_method_1_code 9 = .ok (.putfield 7, 3) := by decide +kernel
theorem d_Mo_init_12 : decode prog_12_method_1_code 12 = .ok (.aload_n 0, 1) := by decide +kernel
theorem d_Mo_init_13 : decode prog_12_method_1_code 13 = .ok (.bipush 40, 2) := by decide +kernel
theorem d_Mo_init_15 : decode prog_12_method_1_code 15 = .ok (.newarray .int, 2) := by decide +kernel
theorem d_Mo_init_17 : decode prog_12_method_1_code 17 = .ok (.putfield 13, 3) := by decide +kernel
theorem d_Mo_init_20 : decode prog_12_method_1_code 20 = .ok (.aload_n 0, 1) := by decide +kernel
theorem d_Mo_init_21 : decode prog_12_method_1_code 21 = .ok (.bipush 40, 2) := by decide +kernel
theorem d_Mo_init_23 : decode prog_12_method_1_code 23 = .ok (.newarray .int, 2) := by decide +kernel
theorem d_Mo_init_25 : decode prog_12_method_1_code 25 = .ok (.putfield 16, 3) := by decide +kernel
theorem d_Mo_init_28 : decode prog_12_method_1_code 28 = .ok (.aload_n 0, 1) := by decide +kernel
theorem d_Mo_init_29 : decode prog_12_method_1_code 29 = .ok (.bipush 40, 2) := by decide +kernel
theorem d_Mo_init_31 : decode prog_12_method_1_code 31 = .ok (.newarray .int, 2) := by decide +kernel
theorem d_Mo_init_33 : decode prog_12_method_1_code 33 = .ok (.putfield 19, 3) := by decide +kernel
theorem d_Mo_init_36 : decode prog_12_method_1_code 36 = .ok (.aload_n 0, 1) := by decide +kernel
theorem d_Mo_init_37 : decode prog_12_method_1_code 37 = .ok (.bipush 40, 2) := by decide +kernel
theorem d_Mo_init_39 : decode prog_12_method_1_code 39 = .ok (.newarray .int, 2) := by decide +kernel
theorem d_Mo_init_41 : decode prog_12_method_1_code 41 = .ok (.putfield 22, 3) := by decide +kernel
theorem d_Mo_init_44 : decode prog_12_method_1_code 44 = .ok (.aload_n 0, 1) := by decide +kernel
theorem d_Mo_init_45 : decode prog_12_method_1_code 45 = .ok (.bipush 40, 2) := by decide +kernel
theorem d_Mo_init_47 : decode prog_12_method_1_code 47 = .ok (.newarray .boolean, 2) := by decide +kernel
theorem d_Mo_init_49 : decode prog_12_method_1_code 49 = .ok (.putfield 25, 3) := by decide +kernel
theorem d_Mo_init_52 : decode prog_12_method_1_code 52 = .ok (.aload_n 0, 1) := by decide +kernel
theorem d_Mo_init_53 : decode prog_12_method_1_code 53 = .ok (.bipush 10, 2) := by decide +kernel
theorem d_Mo_init_55 : decode prog_12_method_1_code 55 = .ok (.newarray .boolean, 2) := by decide +kernel
theorem d_Mo_init_57 : decode prog_12_method_1_code 57 = .ok (.putfield 29, 3) := by decide +kernel
theorem d_Mo_init_60 : decode prog_12_method_1_code 60 = .ok (.aload_n 0, 1) := by decide +kernel
theorem d_Mo_init_61 : decode prog_12_method_1_code 61 = .ok (.bipush 10, 2) := by decide +kernel
theorem d_Mo_init_63 : decode prog_12_method_1_code 63 = .ok (.newarray .int, 2) := by decide +kernel
theorem d_Mo_init_65 : decode prog_12_method_1_code 65 = .ok (.putfield 32, 3) := by decide +kernel
theorem d_Mo_init_68 : decode prog_12_method_1_code 68 = .ok (.aload_n 0, 1) := by decide +kernel
theorem d_Mo_init_69 : decode prog_12_method_1_code 69 = .ok (.bipush 10, 2) := by decide +kernel
theorem d_Mo_init_71 : decode prog_12_method_1_code 71 = .ok (.newarray .int, 2) := by decide +kernel
theorem d_Mo_init_73 : decode prog_12_method_1_code 73 = .ok (.putfield 35, 3) := by decide +kernel
theorem d_Mo_init_76 : decode prog_12_method_1_code 76 = .ok (.aload_n 0, 1) := by decide +kernel
theorem d_Mo_init_77 : decode prog_12_method_1_code 77 = .ok (.bipush 10, 2) := by decide +kernel
theorem d_Mo_init_79 : decode prog_12_method_1_code 79 = .ok (.newarray .int, 2) := by decide +kernel
theorem d_Mo_init_81 : decode prog_12_method_1_code 81 = .ok (.putfield 38, 3) := by decide +kernel
theorem d_Mo_init_84 : decode prog_12_method_1_code 84 = .ok (.aload_n 0, 1) := by decide +kernel
theorem d_Mo_init_85 : decode prog_12_method_1_code 85 = .ok (.bipush 10, 2) := by decide +kernel
theorem d_Mo_init_87 : decode prog_12_method_1_code 87 = .ok (.newarray .int, 2) := by decide +kernel
theorem d_Mo_init_89 : decode prog_12_method_1_code 89 = .ok (.putfield 41, 3) := by decide +kernel
theorem d_Mo_init_92 : decode prog_12_method_1_code 92 = .ok (.aload_n 0, 1) := by decide +kernel
theorem d_Mo_init_93 : decode prog_12_method_1_code 93 = .ok (.bipush 20, 2) := by decide +kernel
theorem d_Mo_init_95 : decode prog_12_method_1_code 95 = .ok (.newarray .int, 2) := by decide +kernel
theorem d_Mo_init_97 : decode prog_12_method_1_code 97 = .ok (.putfield 44, 3) := by decide +kernel
theorem d_Mo_init_100 : decode prog_12_method_1_code 100 = .ok (.aload_n 0, 1) := by decide +kernel
theorem d_Mo_init_101 : decode prog_12_method_1_code 101 = .ok (.bipush 20, 2) := by decide +kernel
theorem d_Mo_init_103 : decode prog_12_method_1_code 103 = .ok (.newarray .boolean, 2) := by decide +kernel
theorem d_Mo_init_105 : decode prog_12_method_1_code 105 = .ok (.putfield 47, 3) := by decide +kernel
theorem d_Mo_init_108 : decode prog_12_method_1_code 108 = .ok (.aload_n 0, 1) := by decide +kernel
theorem d_Mo_init_109 : decode prog_12_method_1_code 109 = .ok (.bipush 12, 2) := by decide +kernel
theorem d_Mo_init_111 : decode prog_12_method_1_code 111 = .ok (.newarray .int, 2) := by decide +kernel
theorem d_Mo_init_113 : decode prog_12_method_1_code 113 = .ok (.putfield 50, 3) := by decide +kernel
theorem d_Mo_init_116 : decode prog_12_method_1_code 116 = .ok (.aload_n 0, 1) := by decide +kernel
theorem d_Mo_init_117 : decode prog_12_method_1_code 117 = .ok (.bipush 12, 2) := by decide +kernel
theorem d_Mo_init_119 : decode prog_12_method_1_code 119 = .ok (.newarray .int, 2) := by decide +kernel
theorem d_Mo_init_121 : decode prog_12_method_1_code 121 = .ok (.putfield 53, 3) := by decide +kernel
theorem d_Mo_init_124 : decode prog_12_method_1_code 124 = .ok (.aload_n 0, 1) := by decide +kernel
theorem d_Mo_init_125 : decode prog_12_method_1_code 125 = .ok (.bipush 12, 2) := by decide +kernel
theorem d_Mo_init_127 : decode prog_12_method_1_code 127 = .ok (.newarray .int, 2) := by decide +kernel
theorem d_Mo_init_129 : decode prog_12_method_1_code 129 = .ok (.putfield 56, 3) := by decide +kernel
theorem d_Mo_init_132 : decode prog_12_method_1_code 132 = .ok (.aload_n 0, 1) := by decide +kernel
theorem d_Mo_init_133 : decode prog_12_method_1_code 133 = .ok (.iconst (-1), 1) := by decide +kernel
theorem d_Mo_init_134 : decode prog_12_method_1_code 134 = .ok (.putfield 59, 3) := by decide +kernel
theorem d_Mo_init_137 : decode prog_12_method_1_code 137 = .ok (.aload_n 0, 1) := by decide +kernel
theorem d_Mo_init_138 : decode prog_12_method_1_code 138 = .ok (.bipush 31, 2) := by decide +kernel
theorem d_Mo_init_140 : decode prog_12_method_1_code 140 = .ok (.newarray .int, 2) := by decide +kernel
theorem d_Mo_init_142 : decode prog_12_method_1_code 142 = .ok (.putfield 63, 3) := by decide +kernel
theorem d_Mo_init_145 : decode prog_12_method_1_code 145 = .ok (.aload_n 0, 1) := by decide +kernel
theorem d_Mo_init_146 : decode prog_12_method_1_code 146 = .ok (.bipush 31, 2) := by decide +kernel
theorem d_Mo_init_148 : decode prog_12_method_1_code 148 = .ok (.newarray .int, 2) := by decide +kernel
theorem d_Mo_init_150 : decode prog_12_method_1_code 150 = .ok (.putfield 66, 3) := by decide +kernel
theorem d_Mo_init_153 : decode prog_12_method_1_code 153 = .ok (.aload_n 0, 1) := by decide +kernel
theorem d_Mo_init_154 : decode prog_12_method_1_code 154 = .ok (.sipush 310, 3) := by decide +kernel
theorem d_Mo_init_157 : decode prog_12_method_1_code 157 = .ok (.newarray .int, 2) := by decide +kernel
theorem d_Mo_init_159 : decode prog_12_method_1_code 159 = .ok (.putfield 69, 3) := by decide +kernel
theorem d_Mo_init_162 : decode prog_12_method_1_code 162 = .ok (.aload_n 0, 1) := by decide +kernel
theorem d_Mo_init_163 : decode prog_12_method_1_code 163 = .ok (.bipush 10, 2) := by decide +kernel
theorem d_Mo_init_165 : decode prog_12_method_1_code 165 = .ok (.newarray .long, 2) := by decide +kernel
theorem d_Mo_init_167 : decode prog_12_method_1_code 167 = .ok (.putfield 72, 3) := by decide +kernel
theorem d_Mo_init_170 : decode prog_12_method_1_code 170 = .ok (.aload_n 0, 1) := by decide +kernel
theorem d_Mo_init_171 : decode prog_12_method_1_code 171 = .ok (.bipush 10, 2) := by decide +kernel
theorem d_Mo_init_173 : decode prog_12_method_1_code 173 = .ok (.newarray .long, 2) := by decide +kernel
theorem d_Mo_init_175 : decode prog_12_method_1_code 175 = .ok (.putfield 76, 3) := by decide +kernel
theorem d_Mo_init_178 : decode prog_12_method_1_code 178 = .ok (.aload_n 0, 1) := by decide +kernel
theorem d_Mo_init_179 : decode prog_12_method_1_code 179 = .ok (.bipush 12, 2) := by decide +kernel
theorem d_Mo_init_181 : decode prog_12_method_1_code 181 = .ok (.newarray .int, 2) := by decide +kernel
theorem d_Mo_init_183 : decode prog_12_method_1_code 183 = .ok (.putfield 79, 3) := by decide +kernel
theorem d_Mo_init_186 : decode prog_12_method_1_code 186 = .ok (.aload_n 0, 1) := by decide +kernel
theorem d_Mo_init_187 : decode prog_12_method_1_code 187 = .ok (.iload_n 1, 1) := by decide +kernel
theorem d_Mo_init_188 : decode prog_12_method_1_code 188 = .ok (.iconst 1, 1) := by decide +kernel
theorem d_Mo_init_189 : decode prog_12_method_1_code 189 = .ok (.if_icmp .ge 7, 3) := by decide +kernel
theorem d_Mo_init_192 : decode prog_12_method_1_code 192 = .ok (.iconst 1, 1) := by decide +kernel
theorem d_Mo_init_193 : decode prog_12_method_1_code 193 = .ok (.goto 13, 3) := by decide +kernel
theorem d_Mo_init_196 : decode prog_12_method_1_code 196 = .ok (.iload_n 1, 1) := by decide +kernel
theorem d_Mo_init_197 : decode prog_12_method_1_code 197 = .ok (.iconst 3, 1) := by decide +kernel
theorem d_Mo_init_198 : decode prog_12_method_1_code 198 = .ok (.if_icmp .le 7, 3) := by decide +kernel
theorem d_Mo_init_201 : decode prog_12_method_1_code 201 = .ok (.iconst 3, 1) := by decide +kernel
theorem d_Mo_init_202 : decode prog_12_method_1_code 202 = .ok (.goto 4, 3) := by decide +kernel
theorem d_Mo_init_205 : decode prog_12_method_1_code 205 = .ok (.iload_n 1, 1) := by decide +kernel
theorem d_Mo_init_206 : decode prog_12_method_1_code 206 = .ok (.putfield 82, 3) := by decide +kernel
theorem d_Mo_init_209 : decode prog_12_method_1_code 209 = .ok (.return_, 1) := by decide +kernel
def rm_Mo_init : Room := { frames := 1, cells := 22, slots := 770, locals := 12 }
def hpM (x1 : Int32) : Int32 := if 1 ≤ x1 then (if x1 ≤ 3 then x1 else 3) else 1
def g_Mo (σ : mS) (x1 : Int32) : mS := sI (sQ (sQ (sQ (sQ (sQ (sQ (sI (sQ (sQ (sQ (sQ (sQ (sQ (sQ (sQ (sQ (sQ (sQ (sQ (sQ (sQ (sQ (sQ σ 99 3 (some 100)) 99 4 (some 101)) 99 5 (some 102)) 99 6 (some 103)) 99 7 (some 104)) 99 8 (some 105)) 99 9 (some 106)) 99 10 (some 107)) 99 11 (some 108)) 99 12 (some 109)) 99 13 (some 110)) 99 14 (some 111)) 99 15 (some 112)) 99 16 (some 113)) 99 17 (some 114)) 99 18 (some 115)) 99 21 ((-1))) 99 24 (some 116)) 99 25 (some 117)) 99 26 (some 118)) 99 27 (some 119)) 99 28 (some 120)) 99 31 (some 121)) 99 0 (hpM x1)
theorem gi_Mo {σ : mS} (hI : mI 100 σ) (x1 : Int32) : mI 122 (g_Mo σ x1) := by
  have hI := mI_up hI
  have hI := mI_sQ (k := 99) (j := 3) (y := 100) hI (by omega) (by omega)
  have hI := mI_up hI
  have hI := mI_sQ (k := 99) (j := 4) (y := 101) hI (by omega) (by omega)
  have hI := mI_up hI
  have hI := mI_sQ (k := 99) (j := 5) (y := 102) hI (by omega) (by omega)
  have hI := mI_up hI
  have hI := mI_sQ (k := 99) (j := 6) (y := 103) hI (by omega) (by omega)
  have hI := mI_up hI
  have hI := mI_sQ (k := 99) (j := 7) (y := 104) hI (by omega) (by omega)
  have hI := mI_up hI
  have hI := mI_sQ (k := 99) (j := 8) (y := 105) hI (by omega) (by omega)
  have hI := mI_up hI
  have hI := mI_sQ (k := 99) (j := 9) (y := 106) hI (by omega) (by omega)
  have hI := mI_up hI
  have hI := mI_sQ (k := 99) (j := 10) (y := 107) hI (by omega) (by omega)
  have hI := mI_up hI
  have hI := mI_sQ (k := 99) (j := 11) (y := 108) hI (by omega) (by omega)
  have hI := mI_up hI
  have hI := mI_sQ (k := 99) (j := 12) (y := 109) hI (by omega) (by omega)
  have hI := mI_up hI
  have hI := mI_sQ (k := 99) (j := 13) (y := 110) hI (by omega) (by omega)
  have hI := mI_up hI
  have hI := mI_sQ (k := 99) (j := 14) (y := 111) hI (by omega) (by omega)
  have hI := mI_up hI
  have hI := mI_sQ (k := 99) (j := 15) (y := 112) hI (by omega) (by omega)
  have hI := mI_up hI
  have hI := mI_sQ (k := 99) (j := 16) (y := 113) hI (by omega) (by omega)
  have hI := mI_up hI
  have hI := mI_sQ (k := 99) (j := 17) (y := 114) hI (by omega) (by omega)
  have hI := mI_up hI
  have hI := mI_sQ (k := 99) (j := 18) (y := 115) hI (by omega) (by omega)
  have hI := mI_sI (k := 99) (j := 21) (v := (-1)) hI (by omega)
  have hI := mI_up hI
  have hI := mI_sQ (k := 99) (j := 24) (y := 116) hI (by omega) (by omega)
  have hI := mI_up hI
  have hI := mI_sQ (k := 99) (j := 25) (y := 117) hI (by omega) (by omega)
  have hI := mI_up hI
  have hI := mI_sQ (k := 99) (j := 26) (y := 118) hI (by omega) (by omega)
  have hI := mI_up hI
  have hI := mI_sQ (k := 99) (j := 27) (y := 119) hI (by omega) (by omega)
  have hI := mI_up hI
  have hI := mI_sQ (k := 99) (j := 28) (y := 120) hI (by omega) (by omega)
  have hI := mI_up hI
  have hI := mI_sQ (k := 99) (j := 31) (y := 121) hI (by omega) (by omega)
  exact mI_sI hI (by omega)
set_option maxHeartbeats 4000000 in
set_option maxRecDepth 100000 in
theorem c_Mo_init (l : Launch) (D : va_G) (cA ad : Nat → Nat) (σ : mS) (hI : mI 100 σ) (h0 : Nat) (e0 : ad 99 = h0) (x1 : Int32) : mCn l ⟨"LeastPathsModel", "<init>", "(I)V"⟩ (Cond.code ⟨"LeastPathsModel", "<init>", "(I)V"⟩ prog_12_method_1_code 2 none :: tlG) rm_Mo_init D clX (tyK cA) (tbC cA) 100 ad σ [.ref h0, .int x1] 122 (g_Mo σ x1) 22 770 := by
  intro sz
  refine m_ofN (cc := prog_12_method_1_code) (maxL := 2) (ret := none) (Qc := mQn D clX (tyK cA) (tbC cA) 100 ad 122 (g_Mo σ x1)) (by decide) (Nat.le_of_ble_eq_true rfl) (fun p e s m args below meth c ls S hr hlk hnm hl N M => ?_) sz
  have hl : lv_has ls 2 [(0, .ref h0), (1, .int x1)] := hl
  have hA : ∀ q, s.heap.size ≤ q → mA 100 ad s.heap.size q := fun q h => Or.inr h
  have G : ∀ k, k < 100 → ad k = ad k := fun _ _ => rfl
  refine lv_aload_n S.1 S.2.1 d_Mo_init_0 rfl (lv_at hl 0 rfl) ?_
  refine W.objInit S.1 S.2.1 S.2.2.2.1 (S.2.2.2.2 _ kc_104) (S.2.2.2.2 _ kc_1) (S.2.2.2.2 _ kc_2) rfl (hl.1.trans S.2.2.1.symm) rfl d_Mo_init_1 (Nat.le_of_ble_eq_true rfl) (Nat.le_of_ble_eq_true rfl) ?_
  refine W.eq (g2 := F0 m 4 ls []) rfl ?_
  refine lv_aload_n S.1 S.2.1 d_Mo_init_4 rfl (lv_at hl 0 rfl) ?_
  refine lv_bipush (v := 40) S.1 S.2.1 d_Mo_init_5 (by decide) ?_
  refine m_newa (atype := .int) (N := 40) (tg := 0) (k0 := 0) S M hI (tC_dy cA) hA ka_int rfl rfl rfl (fun _ h => by cases h) (fun _ => rfl) (by decide) (by decide) (by decide) (by decide) (Nat.le_of_ble_eq_true rfl) (Nat.le_of_ble_eq_true rfl) d_Mo_init_7 (fun q ad1 H g1 f M => ?_)
  subst f
  have hI := mI_up hI
  have G : ∀ k, k < 100 → ad1 k = ad k := fun k hk => (g1 k (by omega)).trans (G k hk)
  have f1 : ad1 (100) = ad1 (100) := rfl
  refine m_nQ (k := 99) (y := 100) (j := 3) S M ok_Mo ((G (99) (by omega)).trans e0) f1 (by omega) rfl (by decide) rfl kc_105 rfl rfl hnm rfl rfl d_Mo_init_9 (fun H locs M => ?_)
  have hI := mI_sQ (k := 99) (j := 3) (y := 100) hI (by omega) (by omega)
  refine lv_aload_n S.1 S.2.1 d_Mo_init_12 rfl (lv_at hl 0 rfl) ?_
  refine lv_bipush (v := 40) S.1 S.2.1 d_Mo_init_13 (by decide) ?_
  refine m_newa (atype := .int) (N := 40) (tg := 0) (k0 := 0) S M hI (tC_dy cA) hA ka_int rfl rfl rfl (fun _ h => by cases h) (fun _ => rfl) (by decide) (by decide) (by decide) (by decide) (Nat.le_of_ble_eq_true rfl) (Nat.le_of_ble_eq_true rfl) d_Mo_init_15 (fun q ad2 H g2 f M => ?_)
  subst f
  have hI := mI_up hI
  have G : ∀ k, k < 100 → ad2 k = ad k := fun k hk => (g2 k (by omega)).trans (G k hk)
  have f2 : ad2 (101) = ad2 (101) := rfl
  refine m_nQ (k := 99) (y := 101) (j := 4) S M ok_Mo ((G (99) (by omega)).trans e0) f2 (by omega) rfl (by decide) rfl kc_106 rfl rfl hnm rfl rfl d_Mo_init_17 (fun H locs M => ?_)
  have hI := mI_sQ (k := 99) (j := 4) (y := 101) hI (by omega) (by omega)
  refine lv_aload_n S.1 S.2.1 d_Mo_init_20 rfl (lv_at hl 0 rfl) ?_
  refine lv_bipush (v := 40) S.1 S.2.1 d_Mo_init_21 (by decide) ?_
  refine m_newa (atype := .int) (N := 40) (tg := 0) (k0 := 0) S M hI (tC_dy cA) hA ka_int rfl rfl rfl (fun _ h => by cases h) (fun _ => rfl) (by decide) (by decide) (by decide) (by decide) (Nat.le_of_ble_eq_true rfl) (Nat.le_of_ble_eq_true rfl) d_Mo_init_23 (fun q ad3 H g3 f M => ?_)
  subst f
  have hI := mI_up hI
  have G : ∀ k, k < 100 → ad3 k = ad k := fun k hk => (g3 k (by omega)).trans (G k hk)
  have f3 : ad3 (102) = ad3 (102) := rfl
  refine m_nQ (k := 99) (y := 102) (j := 5) S M ok_Mo ((G (99) (by omega)).trans e0) f3 (by omega) rfl (by decide) rfl kc_107 rfl rfl hnm rfl rfl d_Mo_init_25 (fun H locs M => ?_)
  have hI := mI_sQ (k := 99) (j := 5) (y := 102) hI (by omega) (by omega)
  refine lv_aload_n S.1 S.2.1 d_Mo_init_28 rfl (lv_at hl 0 rfl) ?_
  refine lv_bipush (v := 40) S.1 S.2.1 d_Mo_init_29 (by decide) ?_
  refine m_newa (atype := .int) (N := 40) (tg := 0) (k0 := 0) S M hI (tC_dy cA) hA ka_int rfl rfl rfl (fun _ h => by cases h) (fun _ => rfl) (by decide) (by decide) (by decide) (by decide) (Nat.le_of_ble_eq_true rfl) (Nat.le_of_ble_eq_true rfl) d_Mo_init_31 (fun q ad4 H g4 f M => ?_)
  subst f
  have hI := mI_up hI
  have G : ∀ k, k < 100 → ad4 k = ad k := fun k hk => (g4 k (by omega)).trans (G k hk)
  have f4 : ad4 (103) = ad4 (103) := rfl
  refine m_nQ (k := 99) (y := 103) (j := 6) S M ok_Mo ((G (99) (by omega)).trans e0) f4 (by omega) rfl (by decide) rfl kc_108 rfl rfl hnm rfl rfl d_Mo_init_33 (fun H locs M => ?_)
  have hI := mI_sQ (k := 99) (j := 6) (y := 103) hI (by omega) (by omega)
  refine lv_aload_n S.1 S.2.1 d_Mo_init_36 rfl (lv_at hl 0 rfl) ?_
  refine lv_bipush (v := 40) S.1 S.2.1 d_Mo_init_37 (by decide) ?_
  refine m_newa (atype := .int) (N := 40) (tg := 0) (k0 := 0) S M hI (tC_dy cA) hA ka_int rfl rfl rfl (fun _ h => by cases h) (fun _ => rfl) (by decide) (by decide) (by decide) (by decide) (Nat.le_of_ble_eq_true rfl) (Nat.le_of_ble_eq_true rfl) d_Mo_init_39 (fun q ad5 H g5 f M => ?_)
  subst f
  have hI := mI_up hI
  have G : ∀ k, k < 100 → ad5 k = ad k := fun k hk => (g5 k (by omega)).trans (G k hk)
  have f5 : ad5 (104) = ad5 (104) := rfl
  refine m_nQ (k := 99) (y := 104) (j := 7) S M ok_Mo ((G (99) (by omega)).trans e0) f5 (by omega) rfl (by decide) rfl kc_109 rfl rfl hnm rfl rfl d_Mo_init_41 (fun H locs M => ?_)
  have hI := mI_sQ (k := 99) (j := 7) (y := 104) hI (by omega) (by omega)
  refine lv_aload_n S.1 S.2.1 d_Mo_init_44 rfl (lv_at hl 0 rfl) ?_
  refine lv_bipush (v := 40) S.1 S.2.1 d_Mo_init_45 (by decide) ?_
  refine m_newa (atype := .boolean) (N := 40) (tg := 0) (k0 := 2) S M hI (tC_dy cA) hA ka_boolean rfl rfl rfl (fun _ h => by cases h) (fun _ => rfl) (by decide) (by decide) (by decide) (by decide) (Nat.le_of_ble_eq_true rfl) (Nat.le_of_ble_eq_true rfl) d_Mo_init_47 (fun q ad6 H g6 f M => ?_)
  subst f
  have hI := mI_up hI
  have G : ∀ k, k < 100 → ad6 k = ad k := fun k hk => (g6 k (by omega)).trans (G k hk)
  have f6 : ad6 (105) = ad6 (105) := rfl
  refine m_nQ (k := 99) (y := 105) (j := 8) S M ok_Mo ((G (99) (by omega)).trans e0) f6 (by omega) rfl (by decide) rfl kc_110 rfl rfl hnm rfl rfl d_Mo_init_49 (fun H locs M => ?_)
  have hI := mI_sQ (k := 99) (j := 8) (y := 105) hI (by omega) (by omega)
  refine lv_aload_n S.1 S.2.1 d_Mo_init_52 rfl (lv_at hl 0 rfl) ?_
  refine lv_bipush (v := 10) S.1 S.2.1 d_Mo_init_53 (by decide) ?_
  refine m_newa (atype := .boolean) (N := 10) (tg := 0) (k0 := 2) S M hI (tC_dy cA) hA ka_boolean rfl rfl rfl (fun _ h => by cases h) (fun _ => rfl) (by decide) (by decide) (by decide) (by decide) (Nat.le_of_ble_eq_true rfl) (Nat.le_of_ble_eq_true rfl) d_Mo_init_55 (fun q ad7 H g7 f M => ?_)
  subst f
  have hI := mI_up hI
  have G : ∀ k, k < 100 → ad7 k = ad k := fun k hk => (g7 k (by omega)).trans (G k hk)
  have f7 : ad7 (106) = ad7 (106) := rfl
  refine m_nQ (k := 99) (y := 106) (j := 9) S M ok_Mo ((G (99) (by omega)).trans e0) f7 (by omega) rfl (by decide) rfl kc_111 rfl rfl hnm rfl rfl d_Mo_init_57 (fun H locs M => ?_)
  have hI := mI_sQ (k := 99) (j := 9) (y := 106) hI (by omega) (by omega)
  refine lv_aload_n S.1 S.2.1 d_Mo_init_60 rfl (lv_at hl 0 rfl) ?_
  refine lv_bipush (v := 10) S.1 S.2.1 d_Mo_init_61 (by decide) ?_
  refine m_newa (atype := .int) (N := 10) (tg := 0) (k0 := 0) S M hI (tC_dy cA) hA ka_int rfl rfl rfl (fun _ h => by cases h) (fun _ => rfl) (by decide) (by decide) (by decide) (by decide) (Nat.le_of_ble_eq_true rfl) (Nat.le_of_ble_eq_true rfl) d_Mo_init_63 (fun q ad8 H g8 f M => ?_)
  subst f
  have hI := mI_up hI
  have G : ∀ k, k < 100 → ad8 k = ad k := fun k hk => (g8 k (by omega)).trans (G k hk)
  have f8 : ad8 (107) = ad8 (107) := rfl
  refine m_nQ (k := 99) (y := 107) (j := 10) S M ok_Mo ((G (99) (by omega)).trans e0) f8 (by omega) rfl (by decide) rfl kc_112 rfl rfl hnm rfl rfl d_Mo_init_65 (fun H locs M => ?_)
  have hI := mI_sQ (k := 99) (j := 10) (y := 107) hI (by omega) (by omega)
  refine lv_aload_n S.1 S.2.1 d_Mo_init_68 rfl (lv_at hl 0 rfl) ?_
  refine lv_bipush (v := 10) S.1 S.2.1 d_Mo_init_69 (by decide) ?_
  refine m_newa (atype := .int) (N := 10) (tg := 0) (k0 := 0) S M hI (tC_dy cA) hA ka_int rfl rfl rfl (fun _ h => by cases h) (fun _ => rfl) (by decide) (by decide) (by decide) (by decide) (Nat.le_of_ble_eq_true rfl) (Nat.le_of_ble_eq_true rfl) d_Mo_init_71 (fun q ad9 H g9 f M => ?_)
  subst f
  have hI := mI_up hI
  have G : ∀ k, k < 100 → ad9 k = ad k := fun k hk => (g9 k (by omega)).trans (G k hk)
  have f9 : ad9 (108) = ad9 (108) := rfl
  refine m_nQ (k := 99) (y := 108) (j := 11) S M ok_Mo ((G (99) (by omega)).trans e0) f9 (by omega) rfl (by decide) rfl kc_113 rfl rfl hnm rfl rfl d_Mo_init_73 (fun H locs M => ?_)
  have hI := mI_sQ (k := 99) (j := 11) (y := 108) hI (by omega) (by omega)
  refine lv_aload_n S.1 S.2.1 d_Mo_init_76 rfl (lv_at hl 0 rfl) ?_
  refine lv_bipush (v := 10) S.1 S.2.1 d_Mo_init_77 (by decide) ?_
  refine m_newa (atype := .int) (N := 10) (tg := 0) (k0 := 0) S M hI (tC_dy cA) hA ka_int rfl rfl rfl (fun _ h => by cases h) (fun _ => rfl) (by decide) (by decide) (by decide) (by decide) (Nat.le_of_ble_eq_true rfl) (Nat.le_of_ble_eq_true rfl) d_Mo_init_79 (fun q ad10 H g10 f M => ?_)
  subst f
  have hI := mI_up hI
  have G : ∀ k, k < 100 → ad10 k = ad k := fun k hk => (g10 k (by omega)).trans (G k hk)
  have f10 : ad10 (109) = ad10 (109) := rfl
  refine m_nQ (k := 99) (y := 109) (j := 12) S M ok_Mo ((G (99) (by omega)).trans e0) f10 (by omega) rfl (by decide) rfl kc_114 rfl rfl hnm rfl rfl d_Mo_init_81 (fun H locs M => ?_)
  have hI := mI_sQ (k := 99) (j := 12) (y := 109) hI (by omega) (by omega)
  refine lv_aload_n S.1 S.2.1 d_Mo_init_84 rfl (lv_at hl 0 rfl) ?_
  refine lv_bipush (v := 10) S.1 S.2.1 d_Mo_init_85 (by decide) ?_
  refine m_newa (atype := .int) (N := 10) (tg := 0) (k0 := 0) S M hI (tC_dy cA) hA ka_int rfl rfl rfl (fun _ h => by cases h) (fun _ => rfl) (by decide) (by decide) (by decide) (by decide) (Nat.le_of_ble_eq_true rfl) (Nat.le_of_ble_eq_true rfl) d_Mo_init_87 (fun q ad11 H g11 f M => ?_)
  subst f
  have hI := mI_up hI
  have G : ∀ k, k < 100 → ad11 k = ad k := fun k hk => (g11 k (by omega)).trans (G k hk)
  have f11 : ad11 (110) = ad11 (110) := rfl
  refine m_nQ (k := 99) (y := 110) (j := 13) S M ok_Mo ((G (99) (by omega)).trans e0) f11 (by omega) rfl (by decide) rfl kc_115 rfl rfl hnm rfl rfl d_Mo_init_89 (fun H locs M => ?_)
  have hI := mI_sQ (k := 99) (j := 13) (y := 110) hI (by omega) (by omega)
  refine lv_aload_n S.1 S.2.1 d_Mo_init_92 rfl (lv_at hl 0 rfl) ?_
  refine lv_bipush (v := 20) S.1 S.2.1 d_Mo_init_93 (by decide) ?_
  refine m_newa (atype := .int) (N := 20) (tg := 0) (k0 := 0) S M hI (tC_dy cA) hA ka_int rfl rfl rfl (fun _ h => by cases h) (fun _ => rfl) (by decide) (by decide) (by decide) (by decide) (Nat.le_of_ble_eq_true rfl) (Nat.le_of_ble_eq_true rfl) d_Mo_init_95 (fun q ad12 H g12 f M => ?_)
  subst f
  have hI := mI_up hI
  have G : ∀ k, k < 100 → ad12 k = ad k := fun k hk => (g12 k (by omega)).trans (G k hk)
  have f12 : ad12 (111) = ad12 (111) := rfl
  refine m_nQ (k := 99) (y := 111) (j := 14) S M ok_Mo ((G (99) (by omega)).trans e0) f12 (by omega) rfl (by decide) rfl kc_116 rfl rfl hnm rfl rfl d_Mo_init_97 (fun H locs M => ?_)
  have hI := mI_sQ (k := 99) (j := 14) (y := 111) hI (by omega) (by omega)
  refine lv_aload_n S.1 S.2.1 d_Mo_init_100 rfl (lv_at hl 0 rfl) ?_
  refine lv_bipush (v := 20) S.1 S.2.1 d_Mo_init_101 (by decide) ?_
  refine m_newa (atype := .boolean) (N := 20) (tg := 0) (k0 := 2) S M hI (tC_dy cA) hA ka_boolean rfl rfl rfl (fun _ h => by cases h) (fun _ => rfl) (by decide) (by decide) (by decide) (by decide) (Nat.le_of_ble_eq_true rfl) (Nat.le_of_ble_eq_true rfl) d_Mo_init_103 (fun q ad13 H g13 f M => ?_)
  subst f
  have hI := mI_up hI
  have G : ∀ k, k < 100 → ad13 k = ad k := fun k hk => (g13 k (by omega)).trans (G k hk)
  have f13 : ad13 (112) = ad13 (112) := rfl
  refine m_nQ (k := 99) (y := 112) (j := 15) S M ok_Mo ((G (99) (by omega)).trans e0) f13 (by omega) rfl (by decide) rfl kc_117 rfl rfl hnm rfl rfl d_Mo_init_105 (fun H locs M => ?_)
  have hI := mI_sQ (k := 99) (j := 15) (y := 112) hI (by omega) (by omega)
  refine lv_aload_n S.1 S.2.1 d_Mo_init_108 rfl (lv_at hl 0 rfl) ?_
  refine lv_bipush (v := 12) S.1 S.2.1 d_Mo_init_109 (by decide) ?_
  refine m_newa (atype := .int) (N := 12) (tg := 0) (k0 := 0) S M hI (tC_dy cA) hA ka_int rfl rfl rfl (fun _ h => by cases h) (fun _ => rfl) (by decide) (by decide) (by decide) (by decide) (Nat.le_of_ble_eq_true rfl) (Nat.le_of_ble_eq_true rfl) d_Mo_init_111 (fun q ad14 H g14 f M => ?_)
  subst f
  have hI := mI_up hI
  have G : ∀ k, k < 100 → ad14 k = ad k := fun k hk => (g14 k (by omega)).trans (G k hk)
  have f14 : ad14 (113) = ad14 (113) := rfl
  refine m_nQ (k := 99) (y := 113) (j := 16) S M ok_Mo ((G (99) (by omega)).trans e0) f14 (by omega) rfl (by decide) rfl kc_118 rfl rfl hnm rfl rfl d_Mo_init_113 (fun H locs M => ?_)
  have hI := mI_sQ (k := 99) (j := 16) (y := 113) hI (by omega) (by omega)
  refine lv_aload_n S.1 S.2.1 d_Mo_init_116 rfl (lv_at hl 0 rfl) ?_
  refine lv_bipush (v := 12) S.1 S.2.1 d_Mo_init_117 (by decide) ?_
  refine m_newa (atype := .int) (N := 12) (tg := 0) (k0 := 0) S M hI (tC_dy cA) hA ka_int rfl rfl rfl (fun _ h => by cases h) (fun _ => rfl) (by decide) (by decide) (by decide) (by decide) (Nat.le_of_ble_eq_true rfl) (Nat.le_of_ble_eq_true rfl) d_Mo_init_119 (fun q ad15 H g15 f M => ?_)
  subst f
  have hI := mI_up hI
  have G : ∀ k, k < 100 → ad15 k = ad k := fun k hk => (g15 k (by omega)).trans (G k hk)
  have f15 : ad15 (114) = ad15 (114) := rfl
  refine m_nQ (k := 99) (y := 114) (j := 17) S M ok_Mo ((G (99) (by omega)).trans e0) f15 (by omega) rfl (by decide) rfl kc_119 rfl rfl hnm rfl rfl d_Mo_init_121 (fun H locs M => ?_)
  have hI := mI_sQ (k := 99) (j := 17) (y := 114) hI (by omega) (by omega)
  refine lv_aload_n S.1 S.2.1 d_Mo_init_124 rfl (lv_at hl 0 rfl) ?_
  refine lv_bipush (v := 12) S.1 S.2.1 d_Mo_init_125 (by decide) ?_
  refine m_newa (atype := .int) (N := 12) (tg := 0) (k0 := 0) S M hI (tC_dy cA) hA ka_int rfl rfl rfl (fun _ h => by cases h) (fun _ => rfl) (by decide) (by decide) (by decide) (by decide) (Nat.le_of_ble_eq_true rfl) (Nat.le_of_ble_eq_true rfl) d_Mo_init_127 (fun q ad16 H g16 f M => ?_)
  subst f
  have hI := mI_up hI
  have G : ∀ k, k < 100 → ad16 k = ad k := fun k hk => (g16 k (by omega)).trans (G k hk)
  have f16 : ad16 (115) = ad16 (115) := rfl
  refine m_nQ (k := 99) (y := 115) (j := 18) S M ok_Mo ((G (99) (by omega)).trans e0) f16 (by omega) rfl (by decide) rfl kc_120 rfl rfl hnm rfl rfl d_Mo_init_129 (fun H locs M => ?_)
  have hI := mI_sQ (k := 99) (j := 18) (y := 115) hI (by omega) (by omega)
  refine lv_aload_n S.1 S.2.1 d_Mo_init_132 rfl (lv_at hl 0 rfl) ?_
  refine lv_iconst (v := (-1)) S.1 S.2.1 d_Mo_init_133 (by decide) ?_
  refine m_nI (k := 99) (j := 21) S M ok_Mo ((G (99) (by omega)).trans e0) (by omega) rfl (by decide) rfl kc_121 rfl hnm rfl rfl d_Mo_init_134 (fun H locs M => ?_)
  have hI := mI_sI (k := 99) (j := 21) (v := (-1)) hI (by omega)
  refine lv_aload_n S.1 S.2.1 d_Mo_init_137 rfl (lv_at hl 0 rfl) ?_
  refine lv_bipush (v := 31) S.1 S.2.1 d_Mo_init_138 (by decide) ?_
  refine m_newa (atype := .int) (N := 31) (tg := 0) (k0 := 0) S M hI (tC_dy cA) hA ka_int rfl rfl rfl (fun _ h => by cases h) (fun _ => rfl) (by decide) (by decide) (by decide) (by decide) (Nat.le_of_ble_eq_true rfl) (Nat.le_of_ble_eq_true rfl) d_Mo_init_140 (fun q ad17 H g17 f M => ?_)
  subst f
  have hI := mI_up hI
  have G : ∀ k, k < 100 → ad17 k = ad k := fun k hk => (g17 k (by omega)).trans (G k hk)
  have f17 : ad17 (116) = ad17 (116) := rfl
  refine m_nQ (k := 99) (y := 116) (j := 24) S M ok_Mo ((G (99) (by omega)).trans e0) f17 (by omega) rfl (by decide) rfl kc_122 rfl rfl hnm rfl rfl d_Mo_init_142 (fun H locs M => ?_)
  have hI := mI_sQ (k := 99) (j := 24) (y := 116) hI (by omega) (by omega)
  refine lv_aload_n S.1 S.2.1 d_Mo_init_145 rfl (lv_at hl 0 rfl) ?_
  refine lv_bipush (v := 31) S.1 S.2.1 d_Mo_init_146 (by decide) ?_
  refine m_newa (atype := .int) (N := 31) (tg := 0) (k0 := 0) S M hI (tC_dy cA) hA ka_int rfl rfl rfl (fun _ h => by cases h) (fun _ => rfl) (by decide) (by decide) (by decide) (by decide) (Nat.le_of_ble_eq_true rfl) (Nat.le_of_ble_eq_true rfl) d_Mo_init_148 (fun q ad18 H g18 f M => ?_)
  subst f
  have hI := mI_up hI
  have G : ∀ k, k < 100 → ad18 k = ad k := fun k hk => (g18 k (by omega)).trans (G k hk)
  have f18 : ad18 (117) = ad18 (117) := rfl
  refine m_nQ (k := 99) (y := 117) (j := 25) S M ok_Mo ((G (99) (by omega)).trans e0) f18 (by omega) rfl (by decide) rfl kc_123 rfl rfl hnm rfl rfl d_Mo_init_150 (fun H locs M => ?_)
  have hI := mI_sQ (k := 99) (j := 25) (y := 117) hI (by omega) (by omega)
  refine lv_aload_n S.1 S.2.1 d_Mo_init_153 rfl (lv_at hl 0 rfl) ?_
  refine lv_sipush (v := 310) S.1 S.2.1 d_Mo_init_154 (by decide) ?_
  refine m_newa (atype := .int) (N := 310) (tg := 0) (k0 := 0) S M hI (tC_dy cA) hA ka_int rfl rfl rfl (fun _ h => by cases h) (fun _ => rfl) (by decide) (by decide) (by decide) (by decide) (Nat.le_of_ble_eq_true rfl) (Nat.le_of_ble_eq_true rfl) d_Mo_init_157 (fun q ad19 H g19 f M => ?_)
  subst f
  have hI := mI_up hI
  have G : ∀ k, k < 100 → ad19 k = ad k := fun k hk => (g19 k (by omega)).trans (G k hk)
  have f19 : ad19 (118) = ad19 (118) := rfl
  refine m_nQ (k := 99) (y := 118) (j := 26) S M ok_Mo ((G (99) (by omega)).trans e0) f19 (by omega) rfl (by decide) rfl kc_124 rfl rfl hnm rfl rfl d_Mo_init_159 (fun H locs M => ?_)
  have hI := mI_sQ (k := 99) (j := 26) (y := 118) hI (by omega) (by omega)
  refine lv_aload_n S.1 S.2.1 d_Mo_init_162 rfl (lv_at hl 0 rfl) ?_
  refine lv_bipush (v := 10) S.1 S.2.1 d_Mo_init_163 (by decide) ?_
  refine m_newa (atype := .long) (N := 10) (tg := 1) (k0 := 1) S M hI (tC_dy cA) hA ka_long rfl rfl rfl (fun _ h => by cases h) (fun _ => rfl) (by decide) (by decide) (by decide) (by decide) (Nat.le_of_ble_eq_true rfl) (Nat.le_of_ble_eq_true rfl) d_Mo_init_165 (fun q ad20 H g20 f M => ?_)
  subst f
  have hI := mI_up hI
  have G : ∀ k, k < 100 → ad20 k = ad k := fun k hk => (g20 k (by omega)).trans (G k hk)
  have f20 : ad20 (119) = ad20 (119) := rfl
  refine m_nQ (k := 99) (y := 119) (j := 27) S M ok_Mo ((G (99) (by omega)).trans e0) f20 (by omega) rfl (by decide) rfl kc_125 rfl rfl hnm rfl rfl d_Mo_init_167 (fun H locs M => ?_)
  have hI := mI_sQ (k := 99) (j := 27) (y := 119) hI (by omega) (by omega)
  refine lv_aload_n S.1 S.2.1 d_Mo_init_170 rfl (lv_at hl 0 rfl) ?_
  refine lv_bipush (v := 10) S.1 S.2.1 d_Mo_init_171 (by decide) ?_
  refine m_newa (atype := .long) (N := 10) (tg := 1) (k0 := 1) S M hI (tC_dy cA) hA ka_long rfl rfl rfl (fun _ h => by cases h) (fun _ => rfl) (by decide) (by decide) (by decide) (by decide) (Nat.le_of_ble_eq_true rfl) (Nat.le_of_ble_eq_true rfl) d_Mo_init_173 (fun q ad21 H g21 f M => ?_)
  subst f
  have hI := mI_up hI
  have G : ∀ k, k < 100 → ad21 k = ad k := fun k hk => (g21 k (by omega)).trans (G k hk)
  have f21 : ad21 (120) = ad21 (120) := rfl
  refine m_nQ (k := 99) (y := 120) (j := 28) S M ok_Mo ((G (99) (by omega)).trans e0) f21 (by omega) rfl (by decide) rfl kc_126 rfl rfl hnm rfl rfl d_Mo_init_175 (fun H locs M => ?_)
  have hI := mI_sQ (k := 99) (j := 28) (y := 120) hI (by omega) (by omega)
  refine lv_aload_n S.1 S.2.1 d_Mo_init_178 rfl (lv_at hl 0 rfl) ?_
  refine lv_bipush (v := 12) S.1 S.2.1 d_Mo_init_179 (by decide) ?_
  refine m_newa (atype := .int) (N := 12) (tg := 0) (k0 := 0) S M hI (tC_dy cA) hA ka_int rfl rfl rfl (fun _ h => by cases h) (fun _ => rfl) (by decide) (by decide) (by decide) (by decide) (Nat.le_of_ble_eq_true rfl) (Nat.le_of_ble_eq_true rfl) d_Mo_init_181 (fun q ad22 H g22 f M => ?_)
  subst f
  have hI := mI_up hI
  have G : ∀ k, k < 100 → ad22 k = ad k := fun k hk => (g22 k (by omega)).trans (G k hk)
  have f22 : ad22 (121) = ad22 (121) := rfl
  refine m_nQ (k := 99) (y := 121) (j := 31) S M ok_Mo ((G (99) (by omega)).trans e0) f22 (by omega) rfl (by decide) rfl kc_127 rfl rfl hnm rfl rfl d_Mo_init_183 (fun H locs M => ?_)
  have hI := mI_sQ (k := 99) (j := 31) (y := 121) hI (by omega) (by omega)
  refine lv_aload_n S.1 S.2.1 d_Mo_init_186 rfl (lv_at hl 0 rfl) ?_
  refine lv_iload_n S.1 S.2.1 d_Mo_init_187 rfl (lv_at hl 1 rfl) ?_
  refine lv_iconst (v := 1) S.1 S.2.1 d_Mo_init_188 (by decide) ?_
  refine lv_icmp_ge (tgt := 196) S.1 S.2.1 d_Mo_init_189 (by decide) (fun c1 => ?_) (fun c1 => ?_)
  · refine lv_iload_n S.1 S.2.1 d_Mo_init_196 rfl (lv_at hl 1 rfl) ?_
    refine lv_iconst (v := 3) S.1 S.2.1 d_Mo_init_197 (by decide) ?_
    refine lv_icmp_le (tgt := 205) S.1 S.2.1 d_Mo_init_198 (by decide) (fun c2 => ?_) (fun c2 => ?_)
    · refine lv_iload_n S.1 S.2.1 d_Mo_init_205 rfl (lv_at hl 1 rfl) ?_
      refine m_nI (k := 99) (j := 0) S M ok_Mo ((G 99 (by omega)).trans e0) (by omega) rfl (by decide) rfl kc_128 rfl hnm rfl rfl d_Mo_init_206 (fun H locs M => ?_)
      have eh : hpM x1 = x1 := by unfold hpM; rw [if_pos c1, if_pos c2]
      unfold g_Mo
      rw [eh]
      exact m_nret S hr hlk G M d_Mo_init_209
    · refine lv_iconst (v := 3) S.1 S.2.1 d_Mo_init_201 (by decide) ?_
      refine lv_goto (tgt := 206) S.1 S.2.1 d_Mo_init_202 (by decide) ?_
      refine m_nI (k := 99) (j := 0) S M ok_Mo ((G 99 (by omega)).trans e0) (by omega) rfl (by decide) rfl kc_128 rfl hnm rfl rfl d_Mo_init_206 (fun H locs M => ?_)
      have eh : hpM x1 = 3 := by unfold hpM; rw [if_pos c1, if_neg c2]
      unfold g_Mo
      rw [eh]
      exact m_nret S hr hlk G M d_Mo_init_209
  · refine lv_iconst (v := 1) S.1 S.2.1 d_Mo_init_192 (by decide) ?_
    refine lv_goto (tgt := 206) S.1 S.2.1 d_Mo_init_193 (by decide) ?_
    refine m_nI (k := 99) (j := 0) S M ok_Mo ((G 99 (by omega)).trans e0) (by omega) rfl (by decide) rfl kc_128 rfl hnm rfl rfl d_Mo_init_206 (fun H locs M => ?_)
    have eh : hpM x1 = 1 := by unfold hpM; rw [if_neg c1]
    unfold g_Mo
    rw [eh]
    exact m_nret S hr hlk G M d_Mo_init_209
