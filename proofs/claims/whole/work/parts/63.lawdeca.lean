theorem d_L_law_0 : decode code 0 = .ok (.new 7, 3) := by decide +kernel
theorem d_L_law_3 : decode code 3 = .ok (.dup, 1) := by decide +kernel
theorem d_L_law_4 : decode code 4 = .ok (.aload_n 0, 1) := by decide +kernel
theorem d_L_law_5 : decode code 5 = .ok (.iconst 0, 1) := by decide +kernel
theorem d_L_law_6 : decode code 6 = .ok (.invokestatic 9, 3) := by decide +kernel
theorem d_L_law_9 : decode code 9 = .ok (.invokespecial 15, 3) := by decide +kernel
theorem d_L_law_12 : decode code 12 = .ok (.astore_n 1, 1) := by decide +kernel
theorem d_L_law_13 : decode code 13 = .ok (.new 18, 3) := by decide +kernel
theorem d_L_law_16 : decode code 16 = .ok (.dup, 1) := by decide +kernel
theorem d_L_law_17 : decode code 17 = .ok (.aload_n 0, 1) := by decide +kernel
theorem d_L_law_18 : decode code 18 = .ok (.iconst 0, 1) := by decide +kernel
theorem d_L_law_19 : decode code 19 = .ok (.invokestatic 9, 3) := by decide +kernel
theorem d_L_law_22 : decode code 22 = .ok (.invokespecial 20, 3) := by decide +kernel
theorem d_L_law_25 : decode code 25 = .ok (.astore_n 2, 1) := by decide +kernel
theorem d_L_law_26 : decode code 26 = .ok (.iconst 1, 1) := by decide +kernel
theorem d_L_law_27 : decode code 27 = .ok (.istore_n 3, 1) := by decide +kernel
theorem d_L_law_28 : decode code 28 = .ok (.iload_n 3, 1) := by decide +kernel
theorem d_L_law_29 : decode code 29 = .ok (.aload_n 0, 1) := by decide +kernel
theorem d_L_law_30 : decode code 30 = .ok (.arraylength, 1) := by decide +kernel
theorem d_L_law_31 : decode code 31 = .ok (.iconst 5, 1) := by decide +kernel
theorem d_L_law_32 : decode code 32 = .ok (.isub, 1) := by decide +kernel
theorem d_L_law_33 : decode code 33 = .ok (.if_icmp .gt 897, 3) := by decide +kernel
theorem d_L_law_36 : decode code 36 = .ok (.aload_n 0, 1) := by decide +kernel
theorem d_L_law_37 : decode code 37 = .ok (.iload_n 3, 1) := by decide +kernel
theorem d_L_law_38 : decode code 38 = .ok (.iaload, 1) := by decide +kernel
theorem d_L_law_39 : decode code 39 = .ok (.bipush 31, 2) := by decide +kernel
theorem d_L_law_41 : decode code 41 = .ok (.iand, 1) := by decide +kernel
theorem d_L_law_160 : decode code 160 = .ok (.aload_n 1, 1) := by decide +kernel
theorem d_L_law_161 : decode code 161 = .ok (.invokevirtual 21, 3) := by decide +kernel
theorem d_L_law_164 : decode code 164 = .ok (.aload_n 2, 1) := by decide +kernel
theorem d_L_law_165 : decode code 165 = .ok (.invokevirtual 25, 3) := by decide +kernel
theorem d_L_law_168 : decode code 168 = .ok (.if_icmp .eq 756, 3) := by decide +kernel
theorem d_L_law_171 : decode code 171 = .ok (.iconst 0, 1) := by decide +kernel
theorem d_L_law_172 : decode code 172 = .ok (.ireturn, 1) := by decide +kernel
theorem d_L_law_173 : decode code 173 = .ok (.aload_n 1, 1) := by decide +kernel
theorem d_L_law_174 : decode code 174 = .ok (.invokevirtual 26, 3) := by decide +kernel
theorem d_L_law_177 : decode code 177 = .ok (.aload_n 2, 1) := by decide +kernel
theorem d_L_law_178 : decode code 178 = .ok (.invokevirtual 29, 3) := by decide +kernel
theorem d_L_law_181 : decode code 181 = .ok (.if_icmp .eq 743, 3) := by decide +kernel
theorem d_L_law_184 : decode code 184 = .ok (.iconst 0, 1) := by decide +kernel
theorem d_L_law_185 : decode code 185 = .ok (.ireturn, 1) := by decide +kernel
theorem d_L_law_186 : decode code 186 = .ok (.aload_n 1, 1) := by decide +kernel
theorem d_L_law_187 : decode code 187 = .ok (.aload_n 0, 1) := by decide +kernel
theorem d_L_law_188 : decode code 188 = .ok (.iload_n 3, 1) := by decide +kernel
theorem d_L_law_189 : decode code 189 = .ok (.iconst 1, 1) := by decide +kernel
theorem d_L_law_190 : decode code 190 = .ok (.iadd, 1) := by decide +kernel
theorem d_L_law_191 : decode code 191 = .ok (.iaload, 1) := by decide +kernel
theorem d_L_law_192 : decode code 192 = .ok (.aload_n 0, 1) := by decide +kernel
theorem d_L_law_193 : decode code 193 = .ok (.iload_n 3, 1) := by decide +kernel
theorem d_L_law_194 : decode code 194 = .ok (.iconst 2, 1) := by decide +kernel
theorem d_L_law_195 : decode code 195 = .ok (.iadd, 1) := by decide +kernel
theorem d_L_law_196 : decode code 196 = .ok (.iaload, 1) := by decide +kernel
theorem d_L_law_197 : decode code 197 = .ok (.aload_n 0, 1) := by decide +kernel
theorem d_L_law_198 : decode code 198 = .ok (.iload_n 3, 1) := by decide +kernel
theorem d_L_law_199 : decode code 199 = .ok (.iconst 3, 1) := by decide +kernel
theorem d_L_law_200 : decode code 200 = .ok (.iadd, 1) := by decide +kernel
theorem d_L_law_201 : decode code 201 = .ok (.iaload, 1) := by decide +kernel
theorem d_L_law_202 : decode code 202 = .ok (.invokevirtual 30, 3) := by decide +kernel
theorem d_L_law_205 : decode code 205 = .ok (.aload_n 2, 1) := by decide +kernel
theorem d_L_law_206 : decode code 206 = .ok (.aload_n 0, 1) := by decide +kernel
theorem d_L_law_207 : decode code 207 = .ok (.iload_n 3, 1) := by decide +kernel
theorem d_L_law_208 : decode code 208 = .ok (.iconst 1, 1) := by decide +kernel
theorem d_L_law_209 : decode code 209 = .ok (.iadd, 1) := by decide +kernel
theorem d_L_law_210 : decode code 210 = .ok (.iaload, 1) := by decide +kernel
theorem d_L_law_211 : decode code 211 = .ok (.aload_n 0, 1) := by decide +kernel
theorem d_L_law_212 : decode code 212 = .ok (.iload_n 3, 1) := by decide +kernel
theorem d_L_law_213 : decode code 213 = .ok (.iconst 2, 1) := by decide +kernel
theorem d_L_law_214 : decode code 214 = .ok (.iadd, 1) := by decide +kernel
theorem d_L_law_215 : decode code 215 = .ok (.iaload, 1) := by decide +kernel
theorem d_L_law_216 : decode code 216 = .ok (.aload_n 0, 1) := by decide +kernel
theorem d_L_law_217 : decode code 217 = .ok (.iload_n 3, 1) := by decide +kernel
theorem d_L_law_218 : decode code 218 = .ok (.iconst 3, 1) := by decide +kernel
theorem d_L_law_219 : decode code 219 = .ok (.iadd, 1) := by decide +kernel
theorem d_L_law_220 : decode code 220 = .ok (.iaload, 1) := by decide +kernel
theorem d_L_law_221 : decode code 221 = .ok (.invokevirtual 34, 3) := by decide +kernel
theorem d_L_law_224 : decode code 224 = .ok (.if_icmp .eq 700, 3) := by decide +kernel
theorem d_L_law_227 : decode code 227 = .ok (.iconst 0, 1) := by decide +kernel
theorem d_L_law_228 : decode code 228 = .ok (.ireturn, 1) := by decide +kernel
theorem d_L_law_229 : decode code 229 = .ok (.aload_n 1, 1) := by decide +kernel
theorem d_L_law_230 : decode code 230 = .ok (.aload_n 0, 1) := by decide +kernel
theorem d_L_law_231 : decode code 231 = .ok (.iload_n 3, 1) := by decide +kernel
theorem d_L_law_232 : decode code 232 = .ok (.iconst 1, 1) := by decide +kernel
theorem d_L_law_233 : decode code 233 = .ok (.iadd, 1) := by decide +kernel
theorem d_L_law_234 : decode code 234 = .ok (.iaload, 1) := by decide +kernel
theorem d_L_law_235 : decode code 235 = .ok (.aload_n 0, 1) := by decide +kernel
theorem d_L_law_236 : decode code 236 = .ok (.iload_n 3, 1) := by decide +kernel
theorem d_L_law_237 : decode code 237 = .ok (.iconst 2, 1) := by decide +kernel
theorem d_L_law_238 : decode code 238 = .ok (.iadd, 1) := by decide +kernel
theorem d_L_law_239 : decode code 239 = .ok (.iaload, 1) := by decide +kernel
theorem d_L_law_240 : decode code 240 = .ok (.aload_n 0, 1) := by decide +kernel
theorem d_L_law_241 : decode code 241 = .ok (.iload_n 3, 1) := by decide +kernel
theorem d_L_law_242 : decode code 242 = .ok (.iconst 3, 1) := by decide +kernel
theorem d_L_law_243 : decode code 243 = .ok (.iadd, 1) := by decide +kernel
theorem d_L_law_244 : decode code 244 = .ok (.iaload, 1) := by decide +kernel
theorem d_L_law_245 : decode code 245 = .ok (.invokevirtual 35, 3) := by decide +kernel
theorem d_L_law_248 : decode code 248 = .ok (.aload_n 2, 1) := by decide +kernel
theorem d_L_law_249 : decode code 249 = .ok (.aload_n 0, 1) := by decide +kernel
theorem d_L_law_250 : decode code 250 = .ok (.iload_n 3, 1) := by decide +kernel
theorem d_L_law_251 : decode code 251 = .ok (.iconst 1, 1) := by decide +kernel
theorem d_L_law_252 : decode code 252 = .ok (.iadd, 1) := by decide +kernel
theorem d_L_law_253 : decode code 253 = .ok (.iaload, 1) := by decide +kernel
theorem d_L_law_254 : decode code 254 = .ok (.aload_n 0, 1) := by decide +kernel
theorem d_L_law_255 : decode code 255 = .ok (.iload_n 3, 1) := by decide +kernel
theorem d_L_law_256 : decode code 256 = .ok (.iconst 2, 1) := by decide +kernel
theorem d_L_law_257 : decode code 257 = .ok (.iadd, 1) := by decide +kernel
theorem d_L_law_258 : decode code 258 = .ok (.iaload, 1) := by decide +kernel
theorem d_L_law_259 : decode code 259 = .ok (.aload_n 0, 1) := by decide +kernel
theorem d_L_law_260 : decode code 260 = .ok (.iload_n 3, 1) := by decide +kernel
theorem d_L_law_261 : decode code 261 = .ok (.iconst 3, 1) := by decide +kernel
theorem d_L_law_262 : decode code 262 = .ok (.iadd, 1) := by decide +kernel
theorem d_L_law_263 : decode code 263 = .ok (.iaload, 1) := by decide +kernel
theorem d_L_law_264 : decode code 264 = .ok (.invokevirtual 38, 3) := by decide +kernel
theorem d_L_law_267 : decode code 267 = .ok (.if_icmp .eq 657, 3) := by decide +kernel
theorem d_L_law_270 : decode code 270 = .ok (.iconst 0, 1) := by decide +kernel
theorem d_L_law_271 : decode code 271 = .ok (.ireturn, 1) := by decide +kernel
theorem d_L_law_272 : decode code 272 = .ok (.aload_n 1, 1) := by decide +kernel
theorem d_L_law_273 : decode code 273 = .ok (.aload_n 0, 1) := by decide +kernel
theorem d_L_law_274 : decode code 274 = .ok (.iload_n 3, 1) := by decide +kernel
theorem d_L_law_275 : decode code 275 = .ok (.iconst 1, 1) := by decide +kernel
theorem d_L_law_276 : decode code 276 = .ok (.iadd, 1) := by decide +kernel
