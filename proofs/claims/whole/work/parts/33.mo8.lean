theorem d_Mo_trust_0 : decode prog_12_method_44_code 0 = .ok (.aload_n 0, 1) := by decide +kernel
theorem d_Mo_trust_1 : decode prog_12_method_44_code 1 = .ok (.iload_n 1, 1) := by decide +kernel
theorem d_Mo_trust_2 : decode prog_12_method_44_code 2 = .ok (.invokevirtual 94, 3) := by decide +kernel
theorem d_Mo_trust_5 : decode prog_12_method_44_code 5 = .ok (.ifCond .eq 16, 3) := by decide +kernel
theorem d_Mo_trust_8 : decode prog_12_method_44_code 8 = .ok (.aload_n 0, 1) := by decide +kernel
theorem d_Mo_trust_9 : decode prog_12_method_44_code 9 = .ok (.iload_n 2, 1) := by decide +kernel
theorem d_Mo_trust_10 : decode prog_12_method_44_code 10 = .ok (.invokevirtual 94, 3) := by decide +kernel
theorem d_Mo_trust_13 : decode prog_12_method_44_code 13 = .ok (.ifCond .eq 8, 3) := by decide +kernel
theorem d_Mo_trust_16 : decode prog_12_method_44_code 16 = .ok (.iload_n 1, 1) := by decide +kernel
theorem d_Mo_trust_17 : decode prog_12_method_44_code 17 = .ok (.iload_n 2, 1) := by decide +kernel
theorem d_Mo_trust_18 : decode prog_12_method_44_code 18 = .ok (.if_icmp .ne 5, 3) := by decide +kernel
theorem d_Mo_trust_21 : decode prog_12_method_44_code 21 = .ok (.iconst (-1), 1) := by decide +kernel
theorem d_Mo_trust_22 : decode prog_12_method_44_code 22 = .ok (.ireturn, 1) := by decide +kernel
theorem d_Mo_trust_23 : decode prog_12_method_44_code 23 = .ok (.iload_n 3, 1) := by decide +kernel
theorem d_Mo_trust_24 : decode prog_12_method_44_code 24 = .ok (.ifCond .lt 8, 3) := by decide +kernel
theorem d_Mo_trust_27 : decode prog_12_method_44_code 27 = .ok (.iload_n 3, 1) := by decide +kernel
theorem d_Mo_trust_28 : decode prog_12_method_44_code 28 = .ok (.iconst 1, 1) := by decide +kernel
theorem d_Mo_trust_29 : decode prog_12_method_44_code 29 = .ok (.if_icmp .le 6, 3) := by decide +kernel
theorem d_Mo_trust_32 : decode prog_12_method_44_code 32 = .ok (.bipush (-2), 2) := by decide +kernel
theorem d_Mo_trust_34 : decode prog_12_method_44_code 34 = .ok (.ireturn, 1) := by decide +kernel
theorem d_Mo_trust_35 : decode prog_12_method_44_code 35 = .ok (.iconst 0, 1) := by decide +kernel
theorem d_Mo_trust_36 : decode prog_12_method_44_code 36 = .ok (.istore 4, 2) := by decide +kernel
theorem d_Mo_trust_38 : decode prog_12_method_44_code 38 = .ok (.iload 4, 2) := by decide +kernel
theorem d_Mo_trust_40 : decode prog_12_method_44_code 40 = .ok (.aload_n 0, 1) := by decide +kernel
theorem d_Mo_trust_41 : decode prog_12_method_44_code 41 = .ok (.getfield 85, 3) := by decide +kernel
theorem d_Mo_trust_44 : decode prog_12_method_44_code 44 = .ok (.if_icmp .ge 37, 3) := by decide +kernel
theorem d_Mo_trust_47 : decode prog_12_method_44_code 47 = .ok (.aload_n 0, 1) := by decide +kernel
theorem d_Mo_trust_48 : decode prog_12_method_44_code 48 = .ok (.getfield 72, 3) := by decide +kernel
theorem d_Mo_trust_51 : decode prog_12_method_44_code 51 = .ok (.iload 4, 2) := by decide +kernel
theorem d_Mo_trust_53 : decode prog_12_method_44_code 53 = .ok (.iload 4, 2) := by decide +kernel
theorem d_Mo_trust_55 : decode prog_12_method_44_code 55 = .ok (.iload_n 1, 1) := by decide +kernel
theorem d_Mo_trust_56 : decode prog_12_method_44_code 56 = .ok (.if_icmp .ne 7, 3) := by decide +kernel
theorem d_Mo_trust_59 : decode prog_12_method_44_code 59 = .ok (.lconst 1, 1) := by decide +kernel
theorem d_Mo_trust_60 : decode prog_12_method_44_code 60 = .ok (.goto 6, 3) := by decide +kernel
theorem d_Mo_trust_63 : decode prog_12_method_44_code 63 = .ok (.ldc2_w 175, 3) := by decide +kernel
theorem d_Mo_trust_66 : decode prog_12_method_44_code 66 = .ok (.lastore, 1) := by decide +kernel
theorem d_Mo_trust_67 : decode prog_12_method_44_code 67 = .ok (.aload_n 0, 1) := by decide +kernel
theorem d_Mo_trust_68 : decode prog_12_method_44_code 68 = .ok (.getfield 76, 3) := by decide +kernel
theorem d_Mo_trust_71 : decode prog_12_method_44_code 71 = .ok (.iload 4, 2) := by decide +kernel
theorem d_Mo_trust_73 : decode prog_12_method_44_code 73 = .ok (.lconst 1, 1) := by decide +kernel
theorem d_Mo_trust_74 : decode prog_12_method_44_code 74 = .ok (.lastore, 1) := by decide +kernel
theorem d_Mo_trust_75 : decode prog_12_method_44_code 75 = .ok (.iinc 4 1, 3) := by decide +kernel
theorem d_Mo_trust_78 : decode prog_12_method_44_code 78 = .ok (.goto (-40), 3) := by decide +kernel
theorem d_Mo_trust_81 : decode prog_12_method_44_code 81 = .ok (.iconst 1, 1) := by decide +kernel
theorem d_Mo_trust_82 : decode prog_12_method_44_code 82 = .ok (.istore 4, 2) := by decide +kernel
theorem d_Mo_trust_84 : decode prog_12_method_44_code 84 = .ok (.iload 4, 2) := by decide +kernel
theorem d_Mo_trust_86 : decode prog_12_method_44_code 86 = .ok (.ifCond .eq 184, 3) := by decide +kernel
theorem d_Mo_trust_89 : decode prog_12_method_44_code 89 = .ok (.iconst 0, 1) := by decide +kernel
theorem d_Mo_trust_90 : decode prog_12_method_44_code 90 = .ok (.istore 4, 2) := by decide +kernel
theorem d_Mo_trust_92 : decode prog_12_method_44_code 92 = .ok (.iconst 0, 1) := by decide +kernel
theorem d_Mo_trust_93 : decode prog_12_method_44_code 93 = .ok (.istore 5, 2) := by decide +kernel
theorem d_Mo_trust_95 : decode prog_12_method_44_code 95 = .ok (.iload 5, 2) := by decide +kernel
theorem d_Mo_trust_97 : decode prog_12_method_44_code 97 = .ok (.aload_n 0, 1) := by decide +kernel
theorem d_Mo_trust_98 : decode prog_12_method_44_code 98 = .ok (.getfield 88, 3) := by decide +kernel
theorem d_Mo_trust_101 : decode prog_12_method_44_code 101 = .ok (.if_icmp .ge 166, 3) := by decide +kernel
theorem d_Mo_trust_104 : decode prog_12_method_44_code 104 = .ok (.aload_n 0, 1) := by decide +kernel
theorem d_Mo_trust_105 : decode prog_12_method_44_code 105 = .ok (.getfield 7, 3) := by decide +kernel
theorem d_Mo_trust_108 : decode prog_12_method_44_code 108 = .ok (.iload 5, 2) := by decide +kernel
theorem d_Mo_trust_110 : decode prog_12_method_44_code 110 = .ok (.iaload, 1) := by decide +kernel
theorem d_Mo_trust_111 : decode prog_12_method_44_code 111 = .ok (.istore 6, 2) := by decide +kernel
theorem d_Mo_trust_113 : decode prog_12_method_44_code 113 = .ok (.aload_n 0, 1) := by decide +kernel
theorem d_Mo_trust_114 : decode prog_12_method_44_code 114 = .ok (.getfield 13, 3) := by decide +kernel
theorem d_Mo_trust_117 : decode prog_12_method_44_code 117 = .ok (.iload 5, 2) := by decide +kernel
theorem d_Mo_trust_119 : decode prog_12_method_44_code 119 = .ok (.iaload, 1) := by decide +kernel
theorem d_Mo_trust_120 : decode prog_12_method_44_code 120 = .ok (.istore 7, 2) := by decide +kernel
theorem d_Mo_trust_122 : decode prog_12_method_44_code 122 = .ok (.aload_n 0, 1) := by decide +kernel
theorem d_Mo_trust_123 : decode prog_12_method_44_code 123 = .ok (.getfield 25, 3) := by decide +kernel
theorem d_Mo_trust_126 : decode prog_12_method_44_code 126 = .ok (.iload 5, 2) := by decide +kernel
theorem d_Mo_trust_128 : decode prog_12_method_44_code 128 = .ok (.baload, 1) := by decide +kernel
theorem d_Mo_trust_129 : decode prog_12_method_44_code 129 = .ok (.ifCond .eq 132, 3) := by decide +kernel
theorem d_Mo_trust_132 : decode prog_12_method_44_code 132 = .ok (.aload_n 0, 1) := by decide +kernel
theorem d_Mo_trust_133 : decode prog_12_method_44_code 133 = .ok (.getfield 72, 3) := by decide +kernel
theorem d_Mo_trust_136 : decode prog_12_method_44_code 136 = .ok (.iload 6, 2) := by decide +kernel
theorem d_Mo_trust_138 : decode prog_12_method_44_code 138 = .ok (.laload, 1) := by decide +kernel
theorem d_Mo_trust_139 : decode prog_12_method_44_code 139 = .ok (.lconst 0, 1) := by decide +kernel
theorem d_Mo_trust_140 : decode prog_12_method_44_code 140 = .ok (.lcmp, 1) := by decide +kernel
theorem d_Mo_trust_141 : decode prog_12_method_44_code 141 = .ok (.ifCond .ge 6, 3) := by decide +kernel
theorem d_Mo_trust_144 : decode prog_12_method_44_code 144 = .ok (.goto 117, 3) := by decide +kernel
theorem d_Mo_trust_147 : decode prog_12_method_44_code 147 = .ok (.aload_n 0, 1) := by decide +kernel
theorem d_Mo_trust_148 : decode prog_12_method_44_code 148 = .ok (.getfield 72, 3) := by decide +kernel
theorem d_Mo_trust_151 : decode prog_12_method_44_code 151 = .ok (.iload 6, 2) := by decide +kernel
theorem d_Mo_trust_153 : decode prog_12_method_44_code 153 = .ok (.laload, 1) := by decide +kernel
theorem d_Mo_trust_154 : decode prog_12_method_44_code 154 = .ok (.aload_n 0, 1) := by decide +kernel
theorem d_Mo_trust_155 : decode prog_12_method_44_code 155 = .ok (.getfield 19, 3) := by decide +kernel
theorem d_Mo_trust_158 : decode prog_12_method_44_code 158 = .ok (.iload 5, 2) := by decide +kernel
theorem d_Mo_trust_160 : decode prog_12_method_44_code 160 = .ok (.iaload, 1) := by decide +kernel
theorem d_Mo_trust_161 : decode prog_12_method_44_code 161 = .ok (.i2l, 1) := by decide +kernel
theorem d_Mo_trust_162 : decode prog_12_method_44_code 162 = .ok (.lmul, 1) := by decide +kernel
theorem d_Mo_trust_163 : decode prog_12_method_44_code 163 = .ok (.lstore 8, 2) := by decide +kernel
theorem d_Mo_trust_165 : decode prog_12_method_44_code 165 = .ok (.aload_n 0, 1) := by decide +kernel
theorem d_Mo_trust_166 : decode prog_12_method_44_code 166 = .ok (.getfield 76, 3) := by decide +kernel
theorem d_Mo_trust_169 : decode prog_12_method_44_code 169 = .ok (.iload 6, 2) := by decide +kernel
theorem d_Mo_trust_171 : decode prog_12_method_44_code 171 = .ok (.laload, 1) := by decide +kernel
theorem d_Mo_trust_172 : decode prog_12_method_44_code 172 = .ok (.aload_n 0, 1) := by decide +kernel
theorem d_Mo_trust_173 : decode prog_12_method_44_code 173 = .ok (.getfield 22, 3) := by decide +kernel
theorem d_Mo_trust_176 : decode prog_12_method_44_code 176 = .ok (.iload 5, 2) := by decide +kernel
theorem d_Mo_trust_178 : decode prog_12_method_44_code 178 = .ok (.iaload, 1) := by decide +kernel
theorem d_Mo_trust_179 : decode prog_12_method_44_code 179 = .ok (.i2l, 1) := by decide +kernel
theorem d_Mo_trust_180 : decode prog_12_method_44_code 180 = .ok (.lmul, 1) := by decide +kernel
theorem d_Mo_trust_181 : decode prog_12_method_44_code 181 = .ok (.lstore 10, 2) := by decide +kernel
theorem d_Mo_trust_183 : decode prog_12_method_44_code 183 = .ok (.lload 8, 2) := by decide +kernel
theorem d_Mo_trust_185 : decode prog_12_method_44_code 185 = .ok (.lload 10, 2) := by decide +kernel
theorem d_Mo_trust_187 : decode prog_12_method_44_code 187 = .ok (.invokestatic 177, 3) := by decide +kernel
theorem d_Mo_trust_190 : decode prog_12_method_44_code 190 = .ok (.lstore 12, 2) := by decide +kernel
theorem d_Mo_trust_192 : decode prog_12_method_44_code 192 = .ok (.aload_n 0, 1) := by decide +kernel
theorem d_Mo_trust_193 : decode prog_12_method_44_code 193 = .ok (.getfield 72, 3) := by decide +kernel
theorem d_Mo_trust_196 : decode prog_12_method_44_code 196 = .ok (.iload 7, 2) := by decide +kernel
theorem d_Mo_trust_198 : decode prog_12_method_44_code 198 = .ok (.laload, 1) := by decide +kernel
theorem d_Mo_trust_199 : decode prog_12_method_44_code 199 = .ok (.lconst 0, 1) := by decide +kernel
theorem d_Mo_trust_200 : decode prog_12_method_44_code 200 = .ok (.lcmp, 1) := by decide +kernel
theorem d_Mo_trust_201 : decode prog_12_method_44_code 201 = .ok (.ifCond .lt 33, 3) := by decide +kernel
theorem d_Mo_trust_204 : decode prog_12_method_44_code 204 = .ok (.lload 8, 2) := by decide +kernel
theorem d_Mo_trust_206 : decode prog_12_method_44_code 206 = .ok (.lload 12, 2) := by decide +kernel
theorem d_Mo_trust_208 : decode prog_12_method_44_code 208 = .ok (.ldiv, 1) := by decide +kernel
theorem d_Mo_trust_209 : decode prog_12_method_44_code 209 = .ok (.aload_n 0, 1) := by decide +kernel
theorem d_Mo_trust_210 : decode prog_12_method_44_code 210 = .ok (.getfield 76, 3) := by decide +kernel
theorem d_Mo_trust_213 : decode prog_12_method_44_code 213 = .ok (.iload 7, 2) := by decide +kernel
theorem d_Mo_trust_215 : decode prog_12_method_44_code 215 = .ok (.laload, 1) := by decide +kernel
theorem d_Mo_trust_216 : decode prog_12_method_44_code 216 = .ok (.lmul, 1) := by decide +kernel
theorem d_Mo_trust_217 : decode prog_12_method_44_code 217 = .ok (.aload_n 0, 1) := by decide +kernel
theorem d_Mo_trust_218 : decode prog_12_method_44_code 218 = .ok (.getfield 72, 3) := by decide +kernel
theorem d_Mo_trust_221 : decode prog_12_method_44_code 221 = .ok (.iload 7, 2) := by decide +kernel
theorem d_Mo_trust_223 : decode prog_12_method_44_code 223 = .ok (.laload, 1) := by decide +kernel
theorem d_Mo_trust_224 : decode prog_12_method_44_code 224 = .ok (.lload 10, 2) := by decide +kernel
theorem d_Mo_trust_226 : decode prog_12_method_44_code 226 = .ok (.lload 12, 2) := by decide +kernel
theorem d_Mo_trust_228 : decode prog_12_method_44_code 228 = .ok (.ldiv, 1) := by decide +kernel
theorem d_Mo_trust_229 : decode prog_12_method_44_code 229 = .ok (.lmul, 1) := by decide +kernel
theorem d_Mo_trust_230 : decode prog_12_method_44_code 230 = .ok (.lcmp, 1) := by decide +kernel
theorem d_Mo_trust_231 : decode prog_12_method_44_code 231 = .ok (.ifCond .le 30, 3) := by decide +kernel
theorem d_Mo_trust_234 : decode prog_12_method_44_code 234 = .ok (.aload_n 0, 1) := by decide +kernel
theorem d_Mo_trust_235 : decode prog_12_method_44_code 235 = .ok (.getfield 72, 3) := by decide +kernel
theorem d_Mo_trust_238 : decode prog_12_method_44_code 238 = .ok (.iload 7, 2) := by decide +kernel
theorem d_Mo_trust_240 : decode prog_12_method_44_code 240 = .ok (.lload 8, 2) := by decide +kernel
theorem d_Mo_trust_242 : decode prog_12_method_44_code 242 = .ok (.lload 12, 2) := by decide +kernel
theorem d_Mo_trust_244 : decode prog_12_method_44_code 244 = .ok (.ldiv, 1) := by decide +kernel
theorem d_Mo_trust_245 : decode prog_12_method_44_code 245 = .ok (.lastore, 1) := by decide +kernel
theorem d_Mo_trust_246 : decode prog_12_method_44_code 246 = .ok (.aload_n 0, 1) := by decide +kernel
theorem d_Mo_trust_247 : decode prog_12_method_44_code 247 = .ok (.getfield 76, 3) := by decide +kernel
theorem d_Mo_trust_250 : decode prog_12_method_44_code 250 = .ok (.iload 7, 2) := by decide +kernel
theorem d_Mo_trust_252 : decode prog_12_method_44_code 252 = .ok (.lload 10, 2) := by decide +kernel
theorem d_Mo_trust_254 : decode prog_12_method_44_code 254 = .ok (.lload 12, 2) := by decide +kernel
theorem d_Mo_trust_256 : decode prog_12_method_44_code 256 = .ok (.ldiv, 1) := by decide +kernel
theorem d_Mo_trust_257 : decode prog_12_method_44_code 257 = .ok (.lastore, 1) := by decide +kernel
theorem d_Mo_trust_258 : decode prog_12_method_44_code 258 = .ok (.iconst 1, 1) := by decide +kernel
theorem d_Mo_trust_259 : decode prog_12_method_44_code 259 = .ok (.istore 4, 2) := by decide +kernel
theorem d_Mo_trust_261 : decode prog_12_method_44_code 261 = .ok (.iinc 5 1, 3) := by decide +kernel
theorem d_Mo_trust_264 : decode prog_12_method_44_code 264 = .ok (.goto (-169), 3) := by decide +kernel
theorem d_Mo_trust_267 : decode prog_12_method_44_code 267 = .ok (.goto (-183), 3) := by decide +kernel
theorem d_Mo_trust_270 : decode prog_12_method_44_code 270 = .ok (.aload_n 0, 1) := by decide +kernel
theorem d_Mo_trust_271 : decode prog_12_method_44_code 271 = .ok (.getfield 72, 3) := by decide +kernel
theorem d_Mo_trust_274 : decode prog_12_method_44_code 274 = .ok (.iload_n 2, 1) := by decide +kernel
theorem d_Mo_trust_275 : decode prog_12_method_44_code 275 = .ok (.laload, 1) := by decide +kernel
theorem d_Mo_trust_276 : decode prog_12_method_44_code 276 = .ok (.lconst 0, 1) := by decide +kernel
theorem d_Mo_trust_277 : decode prog_12_method_44_code 277 = .ok (.lcmp, 1) := by decide +kernel
theorem d_Mo_trust_278 : decode prog_12_method_44_code 278 = .ok (.ifCond .ge 8, 3) := by decide +kernel
theorem d_Mo_trust_281 : decode prog_12_method_44_code 281 = .ok (.bipush (-3), 2) := by decide +kernel
theorem d_Mo_trust_283 : decode prog_12_method_44_code 283 = .ok (.goto 23, 3) := by decide +kernel
theorem d_Mo_trust_286 : decode prog_12_method_44_code 286 = .ok (.iload_n 3, 1) := by decide +kernel
theorem d_Mo_trust_287 : decode prog_12_method_44_code 287 = .ok (.ifCond .ne 12, 3) := by decide +kernel
theorem d_Mo_trust_290 : decode prog_12_method_44_code 290 = .ok (.aload_n 0, 1) := by decide +kernel
theorem d_Mo_trust_291 : decode prog_12_method_44_code 291 = .ok (.getfield 72, 3) := by decide +kernel
theorem d_Mo_trust_294 : decode prog_12_method_44_code 294 = .ok (.iload_n 2, 1) := by decide +kernel
theorem d_Mo_trust_295 : decode prog_12_method_44_code 295 = .ok (.laload, 1) := by decide +kernel
theorem d_Mo_trust_296 : decode prog_12_method_44_code 296 = .ok (.goto 9, 3) := by decide +kernel
theorem d_Mo_trust_299 : decode prog_12_method_44_code 299 = .ok (.aload_n 0, 1) := by decide +kernel
theorem d_Mo_trust_300 : decode prog_12_method_44_code 300 = .ok (.getfield 76, 3) := by decide +kernel
theorem d_Mo_trust_303 : decode prog_12_method_44_code 303 = .ok (.iload_n 2, 1) := by decide +kernel
theorem d_Mo_trust_304 : decode prog_12_method_44_code 304 = .ok (.laload, 1) := by decide +kernel
theorem d_Mo_trust_305 : decode prog_12_method_44_code 305 = .ok (.l2i, 1) := by decide +kernel
theorem d_Mo_trust_306 : decode prog_12_method_44_code 306 = .ok (.ireturn, 1) := by decide +kernel
def rm_Mo_trust : Room := { frames := 1, cells := 0, slots := 0, locals := 29 }
def f_Mo_trust_J66 (t38 : Int32 × mS) (j3 : Int64) : Option ((Int32 × mS) ⊕ (Int32 × mS)) :=
  gd (inb t38.1 10) ((nm (sJ t38.2 20 t38.1.toNatClampNeg j3) fun σ4 =>
  gd (inb t38.1 10) ((nm (sJ σ4 21 t38.1.toNatClampNeg 1) fun σ5 =>
  some (.inl (t38.1 + 1, σ5))))))
def f_Mo_trust_L38 (x1 : Int32) : (Int32 × mS) → Option ((Int32 × mS) ⊕ (Int32 × mS)) := fun t38 =>
  if (t38.2.1 0 1) ≤ t38.1 then (
  some (.inr (t38.1, t38.2))) else (
  if t38.1 = x1 then (
  f_Mo_trust_J66 t38 1) else (
  f_Mo_trust_J66 t38 ((-1))))
def f_Mo_trust_L95 : (Int32 × Int32 × mS) → Option ((Int32 × Int32 × mS) ⊕ (Int32 × Int32 × mS)) := fun t95 =>
  if (t95.2.2.1 0 2) ≤ t95.2.1 then (
  some (.inr (t95.1, t95.2.1, t95.2.2))) else (
  gd (inb t95.2.1 40) (
  nm (t95.2.2.1 1 t95.2.1.toNatClampNeg) fun v6 =>
  gd (inb t95.2.1 40) (
  nm (t95.2.2.1 2 t95.2.1.toNatClampNeg) fun v7 =>
  gd (inb t95.2.1 40) (
  if (t95.2.2.1 6 t95.2.1.toNatClampNeg) = 0 then (
  some (.inl (t95.1, t95.2.1 + 1, t95.2.2))) else (
  gd (inb v6 10) (
  if 0 ≤ (lg_cmp (t95.2.2.2.1 20 v6.toNatClampNeg) 0) then (
  gd (inb v6 10) (
  gd (inb t95.2.1 40) (
  nm ((t95.2.2.2.1 20 v6.toNatClampNeg) * ((t95.2.2.1 4 t95.2.1.toNatClampNeg).toInt64)) fun v8 =>
  gd (inb v6 10) (
  gd (inb t95.2.1 40) (
  nm ((t95.2.2.2.1 21 v6.toNatClampNeg) * ((t95.2.2.1 5 t95.2.1.toNatClampNeg).toInt64)) fun v9 =>
  (f_Mo_common t95.2.2 v8 v9).bind fun v10 =>
  gd (inb v7 10) (
  if (lg_cmp (t95.2.2.2.1 20 v7.toNatClampNeg) 0) < 0 then (
  gd (isNl v10) (
  gd (inb v7 10) ((nm (sJ t95.2.2 20 v7.toNatClampNeg (v8 / v10)) fun σ11 =>
  gd (isNl v10) (
  gd (inb v7 10) ((nm (sJ σ11 21 v7.toNatClampNeg (v9 / v10)) fun σ12 =>
  some (.inl (1, t95.2.1 + 1, σ12))))))))) else (
  gd (isNl v10) (
  gd (inb v7 10) (
  gd (inb v7 10) (
  gd (isNl v10) (
  if (lg_cmp ((v8 / v10) * (t95.2.2.2.1 21 v7.toNatClampNeg)) ((t95.2.2.2.1 20 v7.toNatClampNeg) * (v9 / v10))) ≤ 0 then (
  some (.inl (t95.1, t95.2.1 + 1, t95.2.2))) else (
  gd (isNl v10) (
  gd (inb v7 10) ((nm (sJ t95.2.2 20 v7.toNatClampNeg (v8 / v10)) fun σ13 =>
  gd (isNl v10) (
  gd (inb v7 10) ((nm (sJ σ13 21 v7.toNatClampNeg (v9 / v10)) fun σ14 =>
  some (.inl (1, t95.2.1 + 1, σ14)))))))))))))))))))) else (
  some (.inl (t95.1, t95.2.1 + 1, t95.2.2)))))))))
def f_Mo_trust_L84 : (Int32 × mS) → Option ((Int32 × mS) ⊕ (Int32 × mS)) := fun t84 =>
  if t84.1 = 0 then (
  some (.inr (t84.1, t84.2))) else (
  (lpN (f_Mo_trust_L95) fuB (0, 0, t84.2)).bind fun u95 =>
  some (.inl (u95.1, u95.2.2)))
def f_Mo_trust (σ : mS) (x1 : Int32) (x2 : Int32) (x3 : Int32) : Option (Int32 × mS) :=
  (f_Mo_isNode σ x1).bind fun v1 =>
  if v1 = 0 then (
  some ((-1), σ)) else (
  (f_Mo_isNode σ x2).bind fun v2 =>
  if v2 = 0 then (
  some ((-1), σ)) else (
  if x1 = x2 then (
  some ((-1), σ)) else (
  if x3 < 0 then (
  some ((-2), σ)) else (
  if x3 ≤ 1 then (
  (lpN (f_Mo_trust_L38 x1) fuB (0, σ)).bind fun u38 =>
  (lpN (f_Mo_trust_L84) fuB (1, u38.2)).bind fun u84 =>
  gd (inb x2 10) (
  if 0 ≤ (lg_cmp (u84.2.2.1 20 x2.toNatClampNeg) 0) then (
  if x3 = 0 then (
  gd (inb x2 10) (
  some ((u84.2.2.1 20 x2.toNatClampNeg).toInt32, u84.2))) else (
  gd (inb x2 10) (
  some ((u84.2.2.1 21 x2.toNatClampNeg).toInt32, u84.2)))) else (
  some ((-3), u84.2)))) else (
  some ((-2), σ))))))
set_option maxHeartbeats 4000000 in
set_option maxRecDepth 100000 in
theorem c_Mo_trust (l : Launch) (D : va_G) (cA ad : Nat → Nat) (σ : mS) (x1 : Int32) (x2 : Int32) (x3 : Int32) (o : Int32 × mS) (h : f_Mo_trust σ x1 x2 x3 = some o) : mCi l ⟨"LeastPathsModel", "trust", "(III)I"⟩ (Cond.code ⟨"LeastPathsModel", "trust", "(III)I"⟩ prog_12_method_44_code 14 (Option.some Jvm.ClassFile.FieldType.int) :: tlG) rm_Mo_trust D clX (tyK cA) 23 (tbY cA) ad σ [.ref (ad 0), .int x1, .int x2, .int x3] o := by
  intro sz
  refine m_of (cc := prog_12_method_44_code) (maxL := 14) (Qc := mQi D clX (tyK cA) 23 (tbY cA) ad o) (by decide) (Nat.le_of_ble_eq_true rfl) (fun p e s m args below meth c ls S hr hlk hnm hl M => ?_) sz
  have hl : lv_has ls 14 [(0, .ref (ad 0)), (1, .int x1), (2, .int x2), (3, .int x3)] := hl
  generalize hQ : MQ _ _ _ _ _ _ _ = Q
  skip
  unfold f_Mo_trust at h
  refine lv_aload_n S.1 S.2.1 d_Mo_trust_0 rfl (lv_at hl 0 rfl) ?_
  refine lv_iload_n S.1 S.2.1 d_Mo_trust_1 rfl (lv_at hl 1 rfl) ?_
  refine m_xip h (fun o ho => m_rV (As := [.int x1]) (rest := []) S M hl.1 (cwG (n := 1) S.2.2.2.2 kw_393 kw_394 kw_395 kw_391 kw_396 (by decide) ⟨Nat.le_of_ble_eq_true rfl, Nat.le_of_ble_eq_true rfl⟩) ok_Mo (by decide) rfl (c_Mo_isNode l D cA ad σ x1 o ho _) rfl rfl (Nat.le_of_ble_eq_true rfl) d_Mo_trust_2 ⟨Nat.zero_le _, Nat.zero_le _⟩) M (fun v1 H locs h M => ?_)
  refine m_ifeq (tgt := 21) S d_Mo_trust_5 (by decide) h (fun h => ?_) (fun h => ?_)
  · refine lv_iconst (v := (-1)) S.1 S.2.1 d_Mo_trust_21 (by decide) ?_
    subst hQ; exact m_iret S hr hlk M (Option.some.inj h) d_Mo_trust_22
  · refine lv_aload_n S.1 S.2.1 d_Mo_trust_8 rfl (lv_at hl 0 rfl) ?_
    refine lv_iload_n S.1 S.2.1 d_Mo_trust_9 rfl (lv_at hl 2 rfl) ?_
    refine m_xip h (fun o ho => m_rV (As := [.int x2]) (rest := []) S M hl.1 (cwG (n := 1) S.2.2.2.2 kw_393 kw_394 kw_395 kw_391 kw_396 (by decide) ⟨Nat.le_of_ble_eq_true rfl, Nat.le_of_ble_eq_true rfl⟩) ok_Mo (by decide) rfl (c_Mo_isNode l D cA ad σ x2 o ho _) rfl rfl (Nat.le_of_ble_eq_true rfl) d_Mo_trust_10 ⟨Nat.zero_le _, Nat.zero_le _⟩) M (fun v2 H locs h M => ?_)
    refine m_ifeq (tgt := 21) S d_Mo_trust_13 (by decide) h (fun h => ?_) (fun h => ?_)
    · refine lv_iconst (v := (-1)) S.1 S.2.1 d_Mo_trust_21 (by decide) ?_
      subst hQ; exact m_iret S hr hlk M (Option.some.inj h) d_Mo_trust_22
    · refine lv_iload_n S.1 S.2.1 d_Mo_trust_16 rfl (lv_at hl 1 rfl) ?_
      refine lv_iload_n S.1 S.2.1 d_Mo_trust_17 rfl (lv_at hl 2 rfl) ?_
      refine m_ine (tgt := 23) S d_Mo_trust_18 (by decide) h (fun h => ?_) (fun h => ?_)
      · refine lv_iload_n S.1 S.2.1 d_Mo_trust_23 rfl (lv_at hl 3 rfl) ?_
        refine m_iflt (tgt := 32) S d_Mo_trust_24 (by decide) h (fun h => ?_) (fun h => ?_)
        · refine lv_bipush (v := (-2)) S.1 S.2.1 d_Mo_trust_32 (by decide) ?_
          subst hQ; exact m_iret S hr hlk M (Option.some.inj h) d_Mo_trust_34
        · refine lv_iload_n S.1 S.2.1 d_Mo_trust_27 rfl (lv_at hl 3 rfl) ?_
          refine lv_iconst (v := 1) S.1 S.2.1 d_Mo_trust_28 (by decide) ?_
          refine m_ile (tgt := 35) S d_Mo_trust_29 (by decide) h (fun h => ?_) (fun h => ?_)
          · refine lv_iconst (v := 0) S.1 S.2.1 d_Mo_trust_35 (by decide) ?_
            refine lv_istore (lv' := [(4, .int 0), (0, .ref (ad 0)), (1, .int x1), (2, .int x2), (3, .int x3)]) S.1 S.2.1 d_Mo_trust_36 hl (by decide) rfl (fun ls hl => ?_)
            obtain ⟨u38, q38, h⟩ := Option.bind_eq_some_iff.mp h
            refine lpN_W1 (st := f_Mo_trust_L38 x1) (fun (t38 : Int32 × mS) => ∀ (ls : Array Slot) (H : Heap) (locs : List Loc), lv_has ls 14 [(4, .int t38.1), (0, .ref (ad 0)), (1, .int x1), (2, .int x2), (3, .int x3)] → mM D clX (tyK cA) (mA 23 ad s.heap.size) s 23 (tbY cA) ad t38.2 H locs → W p l e rm_Mo_trust s m args below meth c H locs 0 0 Q (F0 m 38 ls [])) (fun (u38 : Int32 × mS) => ∀ (ls : Array Slot) (H : Heap) (locs : List Loc), lv_has ls 14 [(4, .int u38.1), (0, .ref (ad 0)), (1, .int x1), (2, .int x2), (3, .int x3)] → mM D clX (tyK cA) (mA 23 ad s.heap.size) s 23 (tbY cA) ad u38.2 H locs → W p l e rm_Mo_trust s m args below meth c H locs 0 0 Q (F0 m 81 ls [])) ?_ fuB ((0, σ) : Int32 × mS) u38 q38 ?_ ls _ _ (lv_sub hl [0, 1, 2, 3, 4] rfl) M
            · intro t38 oo38 h K1 K2 ls H locs hl M
              unfold f_Mo_trust_L38 at h
              refine lv_iload S.1 S.2.1 d_Mo_trust_38 (lv_at hl 0 rfl) ?_
              refine lv_aload_n S.1 S.2.1 d_Mo_trust_40 rfl (lv_at hl 1 rfl) ?_
              refine m_gi S M (j := 1) ok_Mo (by decide) rfl (by decide) rfl kw_382 rfl d_Mo_trust_41 ?_
              refine m_ige (tgt := 81) S d_Mo_trust_44 (by decide) h (fun h => ?_) (fun h => ?_)
              · exact K2 _ (Option.some.inj h).symm ls _ _ (lv_sub hl [0, 1, 2, 3, 4] rfl) M
              · refine lv_aload_n S.1 S.2.1 d_Mo_trust_47 rfl (lv_at hl 1 rfl) ?_
                refine m_gs (t := 20) S M (j := 27) ok_Mo (by decide) rfl (by decide) rfl kw_491 rfl d_Mo_trust_48 ?_
                refine lv_iload S.1 S.2.1 d_Mo_trust_51 (lv_at hl 0 rfl) ?_
                refine lv_iload S.1 S.2.1 d_Mo_trust_53 (lv_at hl 0 rfl) ?_
                refine lv_iload_n S.1 S.2.1 d_Mo_trust_55 rfl (lv_at hl 2 rfl) ?_
                have J66 : ∀ (j3 : Int64) (ls : Array Slot) (H : Heap) (locs : List Loc), f_Mo_trust_J66 t38 j3 = some oo38 → lv_has ls 14 [(4, .int t38.1), (0, .ref (ad 0)), (1, .int x1), (2, .int x2), (3, .int x3)] → mM D clX (tyK cA) (mA 23 ad s.heap.size) s 23 (tbY cA) ad t38.2 H locs → W p l e rm_Mo_trust s m args below meth c H locs 0 0 Q (F0 m 66 ls [.long j3, .int t38.1, .ref (ad 20)]) := by
                  intro j3 ls H locs h hl M
                  unfold f_Mo_trust_J66 at h
                  refine m_las (t0 := 1) S M (by decide) rfl rfl h d_Mo_trust_66 (fun σ4 H locs h M => ?_)
                  refine lv_aload_n S.1 S.2.1 d_Mo_trust_67 rfl (lv_at hl 1 rfl) ?_
                  refine m_gs (t := 21) S M (j := 28) ok_Mo (by decide) rfl (by decide) rfl kw_493 rfl d_Mo_trust_68 ?_
                  refine lv_iload S.1 S.2.1 d_Mo_trust_71 (lv_at hl 0 rfl) ?_
                  refine lv_lconst (v := 1) S.1 S.2.1 d_Mo_trust_73 (by decide) ?_
                  refine m_las (t0 := 1) S M (by decide) rfl rfl h d_Mo_trust_74 (fun σ5 H locs h M => ?_)
                  refine lv_iinc (v := t38.1 + 1) (lv' := [(4, .int (t38.1 + 1)), (0, .ref (ad 0)), (1, .int x1), (2, .int x2), (3, .int x3)]) S.1 S.2.1 d_Mo_trust_75 hl (k := 0) rfl rfl (by decide) rfl (fun ls hl => ?_)
                  refine lv_goto (tgt := 38) S.1 S.2.1 d_Mo_trust_78 (by decide) ?_
                  exact K1 _ (Option.some.inj h).symm ls _ _ (lv_sub hl [0, 1, 2, 3, 4] rfl) M
                refine m_ine (tgt := 63) S d_Mo_trust_56 (by decide) h (fun h => ?_) (fun h => ?_)
                · refine lv_ldc2 (v := (-1)) S.1 S.2.1 S.2.2.2.1 (S.2.2.2.2 _ kw_492) d_Mo_trust_63 ?_
                  exact J66 _ ls _ _ h (lv_sub hl [0, 1, 2, 3, 4] rfl) M
                · refine lv_lconst (v := 1) S.1 S.2.1 d_Mo_trust_59 (by decide) ?_
                  refine lv_goto (tgt := 66) S.1 S.2.1 d_Mo_trust_60 (by decide) ?_
                  exact J66 _ ls _ _ h (lv_sub hl [0, 1, 2, 3, 4] rfl) M
            · intro ls H locs hl M
              refine lv_iconst (v := 1) S.1 S.2.1 d_Mo_trust_81 (by decide) ?_
              refine lv_istore (lv' := [(4, .int 1), (0, .ref (ad 0)), (1, .int x1), (2, .int x2), (3, .int x3)]) S.1 S.2.1 d_Mo_trust_82 hl (by decide) rfl (fun ls hl => ?_)
              obtain ⟨u84, q84, h⟩ := Option.bind_eq_some_iff.mp h
              refine lpN_W1 (st := f_Mo_trust_L84) (fun (t84 : Int32 × mS) => ∀ (ls : Array Slot) (H : Heap) (locs : List Loc), lv_has ls 14 [(4, .int t84.1), (0, .ref (ad 0)), (1, .int x1), (2, .int x2), (3, .int x3)] → mM D clX (tyK cA) (mA 23 ad s.heap.size) s 23 (tbY cA) ad t84.2 H locs → W p l e rm_Mo_trust s m args below meth c H locs 0 0 Q (F0 m 84 ls [])) (fun (u84 : Int32 × mS) => ∀ (ls : Array Slot) (H : Heap) (locs : List Loc), lv_has ls 14 [(4, .int u84.1), (0, .ref (ad 0)), (1, .int x1), (2, .int x2), (3, .int x3)] → mM D clX (tyK cA) (mA 23 ad s.heap.size) s 23 (tbY cA) ad u84.2 H locs → W p l e rm_Mo_trust s m args below meth c H locs 0 0 Q (F0 m 270 ls [])) ?_ fuB ((1, u38.2) : Int32 × mS) u84 q84 ?_ ls _ _ (lv_sub hl [0, 1, 2, 3, 4] rfl) M
              · intro t84 oo84 h K1 K2 ls H locs hl M
                unfold f_Mo_trust_L84 at h
                refine lv_iload S.1 S.2.1 d_Mo_trust_84 (lv_at hl 0 rfl) ?_
                refine m_ifeq (tgt := 270) S d_Mo_trust_86 (by decide) h (fun h => ?_) (fun h => ?_)
                · exact K2 _ (Option.some.inj h).symm ls _ _ (lv_sub hl [0, 1, 2, 3, 4] rfl) M
                · refine lv_iconst (v := 0) S.1 S.2.1 d_Mo_trust_89 (by decide) ?_
                  refine lv_istore (lv' := [(4, .int 0), (0, .ref (ad 0)), (1, .int x1), (2, .int x2), (3, .int x3)]) S.1 S.2.1 d_Mo_trust_90 hl (by decide) rfl (fun ls hl => ?_)
                  refine lv_iconst (v := 0) S.1 S.2.1 d_Mo_trust_92 (by decide) ?_
                  refine lv_istore (lv' := [(5, .int 0), (4, .int 0), (0, .ref (ad 0)), (1, .int x1), (2, .int x2), (3, .int x3)]) S.1 S.2.1 d_Mo_trust_93 hl (by decide) rfl (fun ls hl => ?_)
                  obtain ⟨u95, q95, h⟩ := Option.bind_eq_some_iff.mp h
                  refine lpN_W1 (st := f_Mo_trust_L95) (fun (t95 : Int32 × Int32 × mS) => ∀ (ls : Array Slot) (H : Heap) (locs : List Loc), lv_has ls 14 [(5, .int t95.2.1), (4, .int t95.1), (0, .ref (ad 0)), (1, .int x1), (2, .int x2), (3, .int x3)] → mM D clX (tyK cA) (mA 23 ad s.heap.size) s 23 (tbY cA) ad t95.2.2 H locs → W p l e rm_Mo_trust s m args below meth c H locs 0 0 Q (F0 m 95 ls [])) (fun (u95 : Int32 × Int32 × mS) => ∀ (ls : Array Slot) (H : Heap) (locs : List Loc), lv_has ls 14 [(5, .int u95.2.1), (4, .int u95.1), (0, .ref (ad 0)), (1, .int x1), (2, .int x2), (3, .int x3)] → mM D clX (tyK cA) (mA 23 ad s.heap.size) s 23 (tbY cA) ad u95.2.2 H locs → W p l e rm_Mo_trust s m args below meth c H locs 0 0 Q (F0 m 267 ls [])) ?_ fuB ((0, 0, t84.2) : Int32 × Int32 × mS) u95 q95 ?_ ls _ _ (lv_sub hl [0, 1, 2, 3, 4, 5] rfl) M
                  · intro t95 oo95 h K1 K2 ls H locs hl M
                    unfold f_Mo_trust_L95 at h
                    refine lv_iload S.1 S.2.1 d_Mo_trust_95 (lv_at hl 0 rfl) ?_
                    refine lv_aload_n S.1 S.2.1 d_Mo_trust_97 rfl (lv_at hl 2 rfl) ?_
                    refine m_gi S M (j := 2) ok_Mo (by decide) rfl (by decide) rfl kw_383 rfl d_Mo_trust_98 ?_
                    refine m_ige (tgt := 267) S d_Mo_trust_101 (by decide) h (fun h => ?_) (fun h => ?_)
                    · exact K2 _ (Option.some.inj h).symm ls _ _ (lv_sub hl [0, 1, 2, 3, 4, 5] rfl) M
                    · refine lv_aload_n S.1 S.2.1 d_Mo_trust_104 rfl (lv_at hl 2 rfl) ?_
                      refine m_gs (t := 1) S M (j := 3) ok_Mo (by decide) rfl (by decide) rfl kw_398 rfl d_Mo_trust_105 ?_
                      refine lv_iload S.1 S.2.1 d_Mo_trust_108 (lv_at hl 0 rfl) ?_
                      refine m_ial (t0 := 0) S M (by decide) rfl rfl h d_Mo_trust_110 (fun h => ?_)
                      refine m_ni h (fun v6 h => ?_)
                      refine lv_istore (lv' := [(6, .int v6), (5, .int t95.2.1), (4, .int t95.1), (0, .ref (ad 0)), (1, .int x1), (2, .int x2), (3, .int x3)]) S.1 S.2.1 d_Mo_trust_111 hl (by decide) rfl (fun ls hl => ?_)
                      refine lv_aload_n S.1 S.2.1 d_Mo_trust_113 rfl (lv_at hl 3 rfl) ?_
                      refine m_gs (t := 2) S M (j := 4) ok_Mo (by decide) rfl (by decide) rfl kw_399 rfl d_Mo_trust_114 ?_
                      refine lv_iload S.1 S.2.1 d_Mo_trust_117 (lv_at hl 1 rfl) ?_
                      refine m_ial (t0 := 0) S M (by decide) rfl rfl h d_Mo_trust_119 (fun h => ?_)
                      refine m_ni h (fun v7 h => ?_)
                      refine lv_istore (lv' := [(7, .int v7), (6, .int v6), (5, .int t95.2.1), (4, .int t95.1), (0, .ref (ad 0)), (1, .int x1), (2, .int x2), (3, .int x3)]) S.1 S.2.1 d_Mo_trust_120 hl (by decide) rfl (fun ls hl => ?_)
                      refine lv_aload_n S.1 S.2.1 d_Mo_trust_122 rfl (lv_at hl 4 rfl) ?_
                      refine m_gs (t := 6) S M (j := 8) ok_Mo (by decide) rfl (by decide) rfl kw_384 rfl d_Mo_trust_123 ?_
                      refine lv_iload S.1 S.2.1 d_Mo_trust_126 (lv_at hl 2 rfl) ?_
                      refine m_zal (t0 := 2) S M (by decide) rfl rfl h d_Mo_trust_128 (fun h => ?_)
                      refine m_ifeq (tgt := 261) S d_Mo_trust_129 (by decide) h (fun h => ?_) (fun h => ?_)
                      · refine lv_iinc (v := t95.2.1 + 1) (lv' := [(5, .int (t95.2.1 + 1)), (7, .int v7), (6, .int v6), (4, .int t95.1), (0, .ref (ad 0)), (1, .int x1), (2, .int x2), (3, .int x3)]) S.1 S.2.1 d_Mo_trust_261 hl (k := 2) rfl rfl (by decide) rfl (fun ls hl => ?_)
                        refine lv_goto (tgt := 95) S.1 S.2.1 d_Mo_trust_264 (by decide) ?_
                        exact K1 _ (Option.some.inj h).symm ls _ _ (lv_sub hl [0, 3, 4, 5, 6, 7] rfl) M
                      · refine lv_aload_n S.1 S.2.1 d_Mo_trust_132 rfl (lv_at hl 4 rfl) ?_
                        refine m_gs (t := 20) S M (j := 27) ok_Mo (by decide) rfl (by decide) rfl kw_491 rfl d_Mo_trust_133 ?_
                        refine lv_iload S.1 S.2.1 d_Mo_trust_136 (lv_at hl 1 rfl) ?_
                        refine m_lal (t0 := 1) S M (by decide) rfl rfl h d_Mo_trust_138 (fun h => ?_)
                        refine lv_lconst (v := 0) S.1 S.2.1 d_Mo_trust_139 (by decide) ?_
                        refine W.lcmp S.1 S.2.1 d_Mo_trust_140 ?_
                        refine m_ifge (tgt := 147) S d_Mo_trust_141 (by decide) h (fun h => ?_) (fun h => ?_)
                        · refine lv_aload_n S.1 S.2.1 d_Mo_trust_147 rfl (lv_at hl 4 rfl) ?_
                          refine m_gs (t := 20) S M (j := 27) ok_Mo (by decide) rfl (by decide) rfl kw_491 rfl d_Mo_trust_148 ?_
                          refine lv_iload S.1 S.2.1 d_Mo_trust_151 (lv_at hl 1 rfl) ?_
                          refine m_lal (t0 := 1) S M (by decide) rfl rfl h d_Mo_trust_153 (fun h => ?_)
                          refine lv_aload_n S.1 S.2.1 d_Mo_trust_154 rfl (lv_at hl 4 rfl) ?_
                          refine m_gs (t := 4) S M (j := 6) ok_Mo (by decide) rfl (by decide) rfl kw_401 rfl d_Mo_trust_155 ?_
                          refine lv_iload S.1 S.2.1 d_Mo_trust_158 (lv_at hl 2 rfl) ?_
                          refine m_ial (t0 := 0) S M (by decide) rfl rfl h d_Mo_trust_160 (fun h => ?_)
                          refine lv_i2l S.1 S.2.1 d_Mo_trust_161 rfl ?_
                          refine lv_lmul S.1 S.2.1 d_Mo_trust_162 ?_
                          refine m_nl h (fun v8 h => ?_)
                          refine lv_lstore (lv' := [(8, .long v8), (7, .int v7), (6, .int v6), (5, .int t95.2.1), (4, .int t95.1), (0, .ref (ad 0)), (1, .int x1), (2, .int x2), (3, .int x3)]) S.1 S.2.1 d_Mo_trust_163 hl (by decide) rfl (fun ls hl => ?_)
                          refine lv_aload_n S.1 S.2.1 d_Mo_trust_165 rfl (lv_at hl 5 rfl) ?_
                          refine m_gs (t := 21) S M (j := 28) ok_Mo (by decide) rfl (by decide) rfl kw_493 rfl d_Mo_trust_166 ?_
                          refine lv_iload S.1 S.2.1 d_Mo_trust_169 (lv_at hl 2 rfl) ?_
                          refine m_lal (t0 := 1) S M (by decide) rfl rfl h d_Mo_trust_171 (fun h => ?_)
                          refine lv_aload_n S.1 S.2.1 d_Mo_trust_172 rfl (lv_at hl 5 rfl) ?_
                          refine m_gs (t := 5) S M (j := 7) ok_Mo (by decide) rfl (by decide) rfl kw_402 rfl d_Mo_trust_173 ?_
                          refine lv_iload S.1 S.2.1 d_Mo_trust_176 (lv_at hl 3 rfl) ?_
                          refine m_ial (t0 := 0) S M (by decide) rfl rfl h d_Mo_trust_178 (fun h => ?_)
                          refine lv_i2l S.1 S.2.1 d_Mo_trust_179 rfl ?_
                          refine lv_lmul S.1 S.2.1 d_Mo_trust_180 ?_
                          refine m_nl h (fun v9 h => ?_)
                          refine lv_lstore (lv' := [(10, .long v9), (8, .long v8), (7, .int v7), (6, .int v6), (5, .int t95.2.1), (4, .int t95.1), (0, .ref (ad 0)), (1, .int x1), (2, .int x2), (3, .int x3)]) S.1 S.2.1 d_Mo_trust_181 hl (by decide) rfl (fun ls hl => ?_)
                          refine lv_lload S.1 S.2.1 d_Mo_trust_183 (lv_at hl 1 rfl) ?_
                          refine lv_lload S.1 S.2.1 d_Mo_trust_185 (lv_at hl 0 rfl) ?_
                          refine m_xlp h (fun o ho => m_rS (As := [.long v8, .long v9]) (rest := []) S M hl.1 (cwGS (n := 2) S.2.2.2.2 kw_494 kw_495 kw_391 kw_496 (by decide) ⟨Nat.le_of_ble_eq_true rfl, Nat.le_of_ble_eq_true rfl⟩) (c_Mo_common l D cA ad t95.2.2 v8 v9 o ho _) rfl rfl (Nat.le_of_ble_eq_true rfl) d_Mo_trust_187 ⟨Nat.zero_le _, Nat.zero_le _⟩) M (fun v10 H locs h M => ?_)
                          refine lv_lstore (lv' := [(12, .long v10), (10, .long v9), (8, .long v8), (7, .int v7), (6, .int v6), (5, .int t95.2.1), (4, .int t95.1), (0, .ref (ad 0)), (1, .int x1), (2, .int x2), (3, .int x3)]) S.1 S.2.1 d_Mo_trust_190 hl (by decide) rfl (fun ls hl => ?_)
                          refine lv_aload_n S.1 S.2.1 d_Mo_trust_192 rfl (lv_at hl 7 rfl) ?_
                          refine m_gs (t := 20) S M (j := 27) ok_Mo (by decide) rfl (by decide) rfl kw_491 rfl d_Mo_trust_193 ?_
                          refine lv_iload S.1 S.2.1 d_Mo_trust_196 (lv_at hl 3 rfl) ?_
                          refine m_lal (t0 := 1) S M (by decide) rfl rfl h d_Mo_trust_198 (fun h => ?_)
                          refine lv_lconst (v := 0) S.1 S.2.1 d_Mo_trust_199 (by decide) ?_
                          refine W.lcmp S.1 S.2.1 d_Mo_trust_200 ?_
                          refine m_iflt (tgt := 234) S d_Mo_trust_201 (by decide) h (fun h => ?_) (fun h => ?_)
                          · refine lv_aload_n S.1 S.2.1 d_Mo_trust_234 rfl (lv_at hl 7 rfl) ?_
                            refine m_gs (t := 20) S M (j := 27) ok_Mo (by decide) rfl (by decide) rfl kw_491 rfl d_Mo_trust_235 ?_
                            refine lv_iload S.1 S.2.1 d_Mo_trust_238 (lv_at hl 3 rfl) ?_
                            refine lv_lload S.1 S.2.1 d_Mo_trust_240 (lv_at hl 2 rfl) ?_
                            refine lv_lload S.1 S.2.1 d_Mo_trust_242 (lv_at hl 0 rfl) ?_
                            refine m_ldiv S d_Mo_trust_244 h (fun h => ?_)
                            refine m_las (t0 := 1) S M (by decide) rfl rfl h d_Mo_trust_245 (fun σ11 H locs h M => ?_)
                            refine lv_aload_n S.1 S.2.1 d_Mo_trust_246 rfl (lv_at hl 7 rfl) ?_
                            refine m_gs (t := 21) S M (j := 28) ok_Mo (by decide) rfl (by decide) rfl kw_493 rfl d_Mo_trust_247 ?_
                            refine lv_iload S.1 S.2.1 d_Mo_trust_250 (lv_at hl 3 rfl) ?_
                            refine lv_lload S.1 S.2.1 d_Mo_trust_252 (lv_at hl 1 rfl) ?_
                            refine lv_lload S.1 S.2.1 d_Mo_trust_254 (lv_at hl 0 rfl) ?_
                            refine m_ldiv S d_Mo_trust_256 h (fun h => ?_)
                            refine m_las (t0 := 1) S M (by decide) rfl rfl h d_Mo_trust_257 (fun σ12 H locs h M => ?_)
                            refine lv_iconst (v := 1) S.1 S.2.1 d_Mo_trust_258 (by decide) ?_
                            refine lv_istore (lv' := [(4, .int 1), (12, .long v10), (10, .long v9), (8, .long v8), (7, .int v7), (6, .int v6), (5, .int t95.2.1), (0, .ref (ad 0)), (1, .int x1), (2, .int x2), (3, .int x3)]) S.1 S.2.1 d_Mo_trust_259 hl (by decide) rfl (fun ls hl => ?_)
                            refine lv_iinc (v := t95.2.1 + 1) (lv' := [(5, .int (t95.2.1 + 1)), (4, .int 1), (12, .long v10), (10, .long v9), (8, .long v8), (7, .int v7), (6, .int v6), (0, .ref (ad 0)), (1, .int x1), (2, .int x2), (3, .int x3)]) S.1 S.2.1 d_Mo_trust_261 hl (k := 6) rfl rfl (by decide) rfl (fun ls hl => ?_)
                            refine lv_goto (tgt := 95) S.1 S.2.1 d_Mo_trust_264 (by decide) ?_
                            exact K1 _ (Option.some.inj h).symm ls _ _ (lv_sub hl [0, 1, 7, 8, 9, 10] rfl) M
                          · refine lv_lload S.1 S.2.1 d_Mo_trust_204 (lv_at hl 2 rfl) ?_
                            refine lv_lload S.1 S.2.1 d_Mo_trust_206 (lv_at hl 0 rfl) ?_
                            refine m_ldiv S d_Mo_trust_208 h (fun h => ?_)
                            refine lv_aload_n S.1 S.2.1 d_Mo_trust_209 rfl (lv_at hl 7 rfl) ?_
                            refine m_gs (t := 21) S M (j := 28) ok_Mo (by decide) rfl (by decide) rfl kw_493 rfl d_Mo_trust_210 ?_
                            refine lv_iload S.1 S.2.1 d_Mo_trust_213 (lv_at hl 3 rfl) ?_
                            refine m_lal (t0 := 1) S M (by decide) rfl rfl h d_Mo_trust_215 (fun h => ?_)
                            refine lv_lmul S.1 S.2.1 d_Mo_trust_216 ?_
                            refine lv_aload_n S.1 S.2.1 d_Mo_trust_217 rfl (lv_at hl 7 rfl) ?_
                            refine m_gs (t := 20) S M (j := 27) ok_Mo (by decide) rfl (by decide) rfl kw_491 rfl d_Mo_trust_218 ?_
                            refine lv_iload S.1 S.2.1 d_Mo_trust_221 (lv_at hl 3 rfl) ?_
                            refine m_lal (t0 := 1) S M (by decide) rfl rfl h d_Mo_trust_223 (fun h => ?_)
                            refine lv_lload S.1 S.2.1 d_Mo_trust_224 (lv_at hl 1 rfl) ?_
                            refine lv_lload S.1 S.2.1 d_Mo_trust_226 (lv_at hl 0 rfl) ?_
                            refine m_ldiv S d_Mo_trust_228 h (fun h => ?_)
                            refine lv_lmul S.1 S.2.1 d_Mo_trust_229 ?_
                            refine W.lcmp S.1 S.2.1 d_Mo_trust_230 ?_
                            refine m_ifle (tgt := 261) S d_Mo_trust_231 (by decide) h (fun h => ?_) (fun h => ?_)
                            · refine lv_iinc (v := t95.2.1 + 1) (lv' := [(5, .int (t95.2.1 + 1)), (12, .long v10), (10, .long v9), (8, .long v8), (7, .int v7), (6, .int v6), (4, .int t95.1), (0, .ref (ad 0)), (1, .int x1), (2, .int x2), (3, .int x3)]) S.1 S.2.1 d_Mo_trust_261 hl (k := 5) rfl rfl (by decide) rfl (fun ls hl => ?_)
                              refine lv_goto (tgt := 95) S.1 S.2.1 d_Mo_trust_264 (by decide) ?_
                              exact K1 _ (Option.some.inj h).symm ls _ _ (lv_sub hl [0, 6, 7, 8, 9, 10] rfl) M
                            · refine lv_aload_n S.1 S.2.1 d_Mo_trust_234 rfl (lv_at hl 7 rfl) ?_
                              refine m_gs (t := 20) S M (j := 27) ok_Mo (by decide) rfl (by decide) rfl kw_491 rfl d_Mo_trust_235 ?_
                              refine lv_iload S.1 S.2.1 d_Mo_trust_238 (lv_at hl 3 rfl) ?_
                              refine lv_lload S.1 S.2.1 d_Mo_trust_240 (lv_at hl 2 rfl) ?_
                              refine lv_lload S.1 S.2.1 d_Mo_trust_242 (lv_at hl 0 rfl) ?_
                              refine m_ldiv S d_Mo_trust_244 h (fun h => ?_)
                              refine m_las (t0 := 1) S M (by decide) rfl rfl h d_Mo_trust_245 (fun σ13 H locs h M => ?_)
                              refine lv_aload_n S.1 S.2.1 d_Mo_trust_246 rfl (lv_at hl 7 rfl) ?_
                              refine m_gs (t := 21) S M (j := 28) ok_Mo (by decide) rfl (by decide) rfl kw_493 rfl d_Mo_trust_247 ?_
                              refine lv_iload S.1 S.2.1 d_Mo_trust_250 (lv_at hl 3 rfl) ?_
                              refine lv_lload S.1 S.2.1 d_Mo_trust_252 (lv_at hl 1 rfl) ?_
                              refine lv_lload S.1 S.2.1 d_Mo_trust_254 (lv_at hl 0 rfl) ?_
                              refine m_ldiv S d_Mo_trust_256 h (fun h => ?_)
                              refine m_las (t0 := 1) S M (by decide) rfl rfl h d_Mo_trust_257 (fun σ14 H locs h M => ?_)
                              refine lv_iconst (v := 1) S.1 S.2.1 d_Mo_trust_258 (by decide) ?_
                              refine lv_istore (lv' := [(4, .int 1), (12, .long v10), (10, .long v9), (8, .long v8), (7, .int v7), (6, .int v6), (5, .int t95.2.1), (0, .ref (ad 0)), (1, .int x1), (2, .int x2), (3, .int x3)]) S.1 S.2.1 d_Mo_trust_259 hl (by decide) rfl (fun ls hl => ?_)
                              refine lv_iinc (v := t95.2.1 + 1) (lv' := [(5, .int (t95.2.1 + 1)), (4, .int 1), (12, .long v10), (10, .long v9), (8, .long v8), (7, .int v7), (6, .int v6), (0, .ref (ad 0)), (1, .int x1), (2, .int x2), (3, .int x3)]) S.1 S.2.1 d_Mo_trust_261 hl (k := 6) rfl rfl (by decide) rfl (fun ls hl => ?_)
                              refine lv_goto (tgt := 95) S.1 S.2.1 d_Mo_trust_264 (by decide) ?_
                              exact K1 _ (Option.some.inj h).symm ls _ _ (lv_sub hl [0, 1, 7, 8, 9, 10] rfl) M
                        · refine lv_goto (tgt := 261) S.1 S.2.1 d_Mo_trust_144 (by decide) ?_
                          refine lv_iinc (v := t95.2.1 + 1) (lv' := [(5, .int (t95.2.1 + 1)), (7, .int v7), (6, .int v6), (4, .int t95.1), (0, .ref (ad 0)), (1, .int x1), (2, .int x2), (3, .int x3)]) S.1 S.2.1 d_Mo_trust_261 hl (k := 2) rfl rfl (by decide) rfl (fun ls hl => ?_)
                          refine lv_goto (tgt := 95) S.1 S.2.1 d_Mo_trust_264 (by decide) ?_
                          exact K1 _ (Option.some.inj h).symm ls _ _ (lv_sub hl [0, 3, 4, 5, 6, 7] rfl) M
                  · intro ls H locs hl M
                    refine lv_goto (tgt := 84) S.1 S.2.1 d_Mo_trust_267 (by decide) ?_
                    exact K1 _ (Option.some.inj h).symm ls _ _ (lv_sub hl [1, 2, 3, 4, 5] rfl) M
              · intro ls H locs hl M
                refine lv_aload_n S.1 S.2.1 d_Mo_trust_270 rfl (lv_at hl 1 rfl) ?_
                refine m_gs (t := 20) S M (j := 27) ok_Mo (by decide) rfl (by decide) rfl kw_491 rfl d_Mo_trust_271 ?_
                refine lv_iload_n S.1 S.2.1 d_Mo_trust_274 rfl (lv_at hl 3 rfl) ?_
                refine m_lal (t0 := 1) S M (by decide) rfl rfl h d_Mo_trust_275 (fun h => ?_)
                refine lv_lconst (v := 0) S.1 S.2.1 d_Mo_trust_276 (by decide) ?_
                refine W.lcmp S.1 S.2.1 d_Mo_trust_277 ?_
                refine m_ifge (tgt := 286) S d_Mo_trust_278 (by decide) h (fun h => ?_) (fun h => ?_)
                · refine lv_iload_n S.1 S.2.1 d_Mo_trust_286 rfl (lv_at hl 4 rfl) ?_
                  refine m_ifne (tgt := 299) S d_Mo_trust_287 (by decide) h (fun h => ?_) (fun h => ?_)
                  · refine lv_aload_n S.1 S.2.1 d_Mo_trust_299 rfl (lv_at hl 1 rfl) ?_
                    refine m_gs (t := 21) S M (j := 28) ok_Mo (by decide) rfl (by decide) rfl kw_493 rfl d_Mo_trust_300 ?_
                    refine lv_iload_n S.1 S.2.1 d_Mo_trust_303 rfl (lv_at hl 3 rfl) ?_
                    refine m_lal (t0 := 1) S M (by decide) rfl rfl h d_Mo_trust_304 (fun h => ?_)
                    refine lv_l2i S.1 S.2.1 d_Mo_trust_305 rfl ?_
                    subst hQ; exact m_iret S hr hlk M (Option.some.inj h) d_Mo_trust_306
                  · refine lv_aload_n S.1 S.2.1 d_Mo_trust_290 rfl (lv_at hl 1 rfl) ?_
                    refine m_gs (t := 20) S M (j := 27) ok_Mo (by decide) rfl (by decide) rfl kw_491 rfl d_Mo_trust_291 ?_
                    refine lv_iload_n S.1 S.2.1 d_Mo_trust_294 rfl (lv_at hl 3 rfl) ?_
                    refine m_lal (t0 := 1) S M (by decide) rfl rfl h d_Mo_trust_295 (fun h => ?_)
                    refine lv_goto (tgt := 305) S.1 S.2.1 d_Mo_trust_296 (by decide) ?_
                    refine lv_l2i S.1 S.2.1 d_Mo_trust_305 rfl ?_
                    subst hQ; exact m_iret S hr hlk M (Option.some.inj h) d_Mo_trust_306
                · refine lv_bipush (v := (-3)) S.1 S.2.1 d_Mo_trust_281 (by decide) ?_
                  refine lv_goto (tgt := 306) S.1 S.2.1 d_Mo_trust_283 (by decide) ?_
                  subst hQ; exact m_iret S hr hlk M (Option.some.inj h) d_Mo_trust_306
          · refine lv_bipush (v := (-2)) S.1 S.2.1 d_Mo_trust_32 (by decide) ?_
            subst hQ; exact m_iret S hr hlk M (Option.some.inj h) d_Mo_trust_34
      · refine lv_iconst (v := (-1)) S.1 S.2.1 d_Mo_trust_21 (by decide) ?_
        subst hQ; exact m_iret S hr hlk M (Option.some.inj h) d_Mo_trust_22
