theorem dL_isLookedUp_0 : decode cL_isLookedUp 0 = .ok (.aload_n 0, 1) := by decide +kernel
theorem dL_isLookedUp_1 : decode cL_isLookedUp 1 = .ok (.iload_n 2, 1) := by decide +kernel
theorem dL_isLookedUp_2 : decode cL_isLookedUp 2 = .ok (.invokestatic 120, 3) := by decide +kernel
theorem dL_isLookedUp_5 : decode cL_isLookedUp 5 = .ok (.astore_n 3, 1) := by decide +kernel
theorem dL_isLookedUp_6 : decode cL_isLookedUp 6 = .ok (.aload_n 1, 1) := by decide +kernel
theorem dL_isLookedUp_7 : decode cL_isLookedUp 7 = .ok (.iconst 5, 1) := by decide +kernel
theorem dL_isLookedUp_8 : decode cL_isLookedUp 8 = .ok (.invokestatic 103, 3) := by decide +kernel
theorem dL_isLookedUp_30 : decode cL_isLookedUp 30 = .ok (.istore 4, 2) := by decide +kernel
theorem dL_isLookedUp_32 : decode cL_isLookedUp 32 = .ok (.iload 4, 2) := by decide +kernel
theorem dL_isLookedUp_34 : decode cL_isLookedUp 34 = .ok (.aload_n 1, 1) := by decide +kernel
theorem dL_isLookedUp_35 : decode cL_isLookedUp 35 = .ok (.bipush 40, 2) := by decide +kernel
theorem dL_isLookedUp_37 : decode cL_isLookedUp 37 = .ok (.invokestatic 103, 3) := by decide +kernel
theorem dL_isLookedUp_40 : decode cL_isLookedUp 40 = .ok (.iadd, 1) := by decide +kernel
theorem dL_isLookedUp_41 : decode cL_isLookedUp 41 = .ok (.iconst 5, 1) := by decide +kernel
theorem dL_isLookedUp_42 : decode cL_isLookedUp 42 = .ok (.isub, 1) := by decide +kernel
theorem dL_isLookedUp_43 : decode cL_isLookedUp 43 = .ok (.istore 5, 2) := by decide +kernel
theorem dL_isLookedUp_45 : decode cL_isLookedUp 45 = .ok (.aload_n 0, 1) := by decide +kernel
theorem dL_isLookedUp_46 : decode cL_isLookedUp 46 = .ok (.iload_n 2, 1) := by decide +kernel
theorem dL_isLookedUp_47 : decode cL_isLookedUp 47 = .ok (.iconst 0, 1) := by decide +kernel
theorem dL_isLookedUp_48 : decode cL_isLookedUp 48 = .ok (.invokevirtual 144, 3) := by decide +kernel
theorem dL_isLookedUp_51 : decode cL_isLookedUp 51 = .ok (.ifCond .ne 58, 3) := by decide +kernel
theorem dL_isLookedUp_109 : decode cL_isLookedUp 109 = .ok (.iconst (-1), 1) := by decide +kernel
theorem dL_isLookedUp_110 : decode cL_isLookedUp 110 = .ok (.istore 6, 2) := by decide +kernel
theorem dL_isLookedUp_112 : decode cL_isLookedUp 112 = .ok (.sipush (-20002), 3) := by decide +kernel
theorem dL_isLookedUp_115 : decode cL_isLookedUp 115 = .ok (.istore 7, 2) := by decide +kernel
theorem dL_isLookedUp_117 : decode cL_isLookedUp 117 = .ok (.sipush (-20002), 3) := by decide +kernel
theorem dL_isLookedUp_120 : decode cL_isLookedUp 120 = .ok (.istore 8, 2) := by decide +kernel
theorem dL_isLookedUp_122 : decode cL_isLookedUp 122 = .ok (.iconst 0, 1) := by decide +kernel
theorem dL_isLookedUp_123 : decode cL_isLookedUp 123 = .ok (.istore 9, 2) := by decide +kernel
theorem dL_isLookedUp_125 : decode cL_isLookedUp 125 = .ok (.iconst 0, 1) := by decide +kernel
theorem dL_isLookedUp_126 : decode cL_isLookedUp 126 = .ok (.istore 10, 2) := by decide +kernel
theorem dL_isLookedUp_128 : decode cL_isLookedUp 128 = .ok (.iconst 0, 1) := by decide +kernel
theorem dL_isLookedUp_129 : decode cL_isLookedUp 129 = .ok (.istore 11, 2) := by decide +kernel
theorem dL_isLookedUp_270 : decode cL_isLookedUp 270 = .ok (.aload_n 0, 1) := by decide +kernel
theorem dL_isLookedUp_271 : decode cL_isLookedUp 271 = .ok (.iload_n 2, 1) := by decide +kernel
theorem dL_isLookedUp_272 : decode cL_isLookedUp 272 = .ok (.iload 4, 2) := by decide +kernel
theorem dL_isLookedUp_274 : decode cL_isLookedUp 274 = .ok (.invokevirtual 63, 3) := by decide +kernel
theorem dL_isLookedUp_277 : decode cL_isLookedUp 277 = .ok (.iload 6, 2) := by decide +kernel
theorem dL_isLookedUp_279 : decode cL_isLookedUp 279 = .ok (.if_icmp .ne 61, 3) := by decide +kernel
theorem dL_isLookedUp_340 : decode cL_isLookedUp 340 = .ok (.iconst 0, 1) := by decide +kernel
theorem dL_isLookedUp_341 : decode cL_isLookedUp 341 = .ok (.ireturn, 1) := by decide +kernel
theorem dL_isLookedUp_282 : decode cL_isLookedUp 282 = .ok (.aload_n 0, 1) := by decide +kernel
theorem dL_isLookedUp_283 : decode cL_isLookedUp 283 = .ok (.bipush 14, 2) := by decide +kernel
theorem dL_isLookedUp_285 : decode cL_isLookedUp 285 = .ok (.iload_n 2, 1) := by decide +kernel
theorem dL_isLookedUp_286 : decode cL_isLookedUp 286 = .ok (.iload 4, 2) := by decide +kernel
theorem dL_isLookedUp_288 : decode cL_isLookedUp 288 = .ok (.iconst 0, 1) := by decide +kernel
theorem dL_isLookedUp_289 : decode cL_isLookedUp 289 = .ok (.invokestatic 140, 3) := by decide +kernel
theorem dL_isLookedUp_292 : decode cL_isLookedUp 292 = .ok (.iload 7, 2) := by decide +kernel
theorem dL_isLookedUp_294 : decode cL_isLookedUp 294 = .ok (.if_icmp .ne 46, 3) := by decide +kernel
theorem dL_isLookedUp_297 : decode cL_isLookedUp 297 = .ok (.aload_n 0, 1) := by decide +kernel
theorem dL_isLookedUp_298 : decode cL_isLookedUp 298 = .ok (.bipush 15, 2) := by decide +kernel
theorem dL_isLookedUp_300 : decode cL_isLookedUp 300 = .ok (.iload_n 2, 1) := by decide +kernel
theorem dL_isLookedUp_301 : decode cL_isLookedUp 301 = .ok (.iload 4, 2) := by decide +kernel
theorem dL_isLookedUp_303 : decode cL_isLookedUp 303 = .ok (.iconst 0, 1) := by decide +kernel
theorem dL_isLookedUp_304 : decode cL_isLookedUp 304 = .ok (.invokestatic 140, 3) := by decide +kernel
theorem dL_isLookedUp_307 : decode cL_isLookedUp 307 = .ok (.iload 8, 2) := by decide +kernel
theorem dL_isLookedUp_309 : decode cL_isLookedUp 309 = .ok (.if_icmp .ne 31, 3) := by decide +kernel
theorem dL_isLookedUp_312 : decode cL_isLookedUp 312 = .ok (.aload_n 0, 1) := by decide +kernel
theorem dL_isLookedUp_313 : decode cL_isLookedUp 313 = .ok (.iload_n 2, 1) := by decide +kernel
theorem dL_isLookedUp_314 : decode cL_isLookedUp 314 = .ok (.iload 4, 2) := by decide +kernel
theorem dL_isLookedUp_316 : decode cL_isLookedUp 316 = .ok (.iload 5, 2) := by decide +kernel
theorem dL_isLookedUp_318 : decode cL_isLookedUp 318 = .ok (.invokevirtual 79, 3) := by decide +kernel
theorem dL_isLookedUp_321 : decode cL_isLookedUp 321 = .ok (.iload 9, 2) := by decide +kernel
theorem dL_isLookedUp_323 : decode cL_isLookedUp 323 = .ok (.if_icmp .ne 17, 3) := by decide +kernel
theorem dL_isLookedUp_326 : decode cL_isLookedUp 326 = .ok (.aload_n 0, 1) := by decide +kernel
theorem dL_isLookedUp_327 : decode cL_isLookedUp 327 = .ok (.iload_n 2, 1) := by decide +kernel
theorem dL_isLookedUp_328 : decode cL_isLookedUp 328 = .ok (.invokevirtual 188, 3) := by decide +kernel
theorem dL_isLookedUp_331 : decode cL_isLookedUp 331 = .ok (.iload 10, 2) := by decide +kernel
theorem dL_isLookedUp_333 : decode cL_isLookedUp 333 = .ok (.if_icmp .ne 7, 3) := by decide +kernel
theorem dL_isLookedUp_336 : decode cL_isLookedUp 336 = .ok (.iconst 1, 1) := by decide +kernel
theorem dL_isLookedUp_337 : decode cL_isLookedUp 337 = .ok (.goto 4, 3) := by decide +kernel
theorem dL_isLookedUp_131 : decode cL_isLookedUp 131 = .ok (.iload 11, 2) := by decide +kernel
theorem dL_isLookedUp_133 : decode cL_isLookedUp 133 = .ok (.aload_n 3, 1) := by decide +kernel
theorem dL_isLookedUp_134 : decode cL_isLookedUp 134 = .ok (.arraylength, 1) := by decide +kernel
theorem dL_isLookedUp_135 : decode cL_isLookedUp 135 = .ok (.if_icmp .ge 135, 3) := by decide +kernel
theorem dL_isLookedUp_138 : decode cL_isLookedUp 138 = .ok (.aload_n 0, 1) := by decide +kernel
theorem dL_isLookedUp_139 : decode cL_isLookedUp 139 = .ok (.aload_n 3, 1) := by decide +kernel
theorem dL_isLookedUp_140 : decode cL_isLookedUp 140 = .ok (.iload 11, 2) := by decide +kernel
theorem dL_isLookedUp_142 : decode cL_isLookedUp 142 = .ok (.iaload, 1) := by decide +kernel
theorem dL_isLookedUp_143 : decode cL_isLookedUp 143 = .ok (.invokevirtual 93, 3) := by decide +kernel
theorem dL_isLookedUp_146 : decode cL_isLookedUp 146 = .ok (.istore 12, 2) := by decide +kernel
theorem dL_isLookedUp_148 : decode cL_isLookedUp 148 = .ok (.iload 6, 2) := by decide +kernel
theorem dL_isLookedUp_150 : decode cL_isLookedUp 150 = .ok (.iconst (-1), 1) := by decide +kernel
theorem dL_isLookedUp_168 : decode cL_isLookedUp 168 = .ok (.istore 6, 2) := by decide +kernel
theorem dL_isLookedUp_170 : decode cL_isLookedUp 170 = .ok (.iload 12, 2) := by decide +kernel
theorem dL_isLookedUp_172 : decode cL_isLookedUp 172 = .ok (.iload 4, 2) := by decide +kernel
theorem dL_isLookedUp_184 : decode cL_isLookedUp 184 = .ok (.istore 7, 2) := by decide +kernel
theorem dL_isLookedUp_186 : decode cL_isLookedUp 186 = .ok (.iload 12, 2) := by decide +kernel
theorem dL_isLookedUp_188 : decode cL_isLookedUp 188 = .ok (.iload 4, 2) := by decide +kernel
theorem dL_isLookedUp_208 : decode cL_isLookedUp 208 = .ok (.istore 8, 2) := by decide +kernel
theorem dL_isLookedUp_210 : decode cL_isLookedUp 210 = .ok (.iload 9, 2) := by decide +kernel
theorem dL_isLookedUp_212 : decode cL_isLookedUp 212 = .ok (.iload 12, 2) := by decide +kernel
theorem dL_isLookedUp_214 : decode cL_isLookedUp 214 = .ok (.iload 4, 2) := by decide +kernel
theorem dL_isLookedUp_231 : decode cL_isLookedUp 231 = .ok (.iadd, 1) := by decide +kernel
theorem dL_isLookedUp_232 : decode cL_isLookedUp 232 = .ok (.istore 9, 2) := by decide +kernel
theorem dL_isLookedUp_234 : decode cL_isLookedUp 234 = .ok (.iload 10, 2) := by decide +kernel
theorem dL_isLookedUp_236 : decode cL_isLookedUp 236 = .ok (.iload 11, 2) := by decide +kernel
theorem dL_isLookedUp_256 : decode cL_isLookedUp 256 = .ok (.iconst 1, 1) := by decide +kernel
theorem dL_isLookedUp_257 : decode cL_isLookedUp 257 = .ok (.goto 4, 3) := by decide +kernel
theorem dL_isLookedUp_261 : decode cL_isLookedUp 261 = .ok (.iadd, 1) := by decide +kernel
theorem dL_isLookedUp_262 : decode cL_isLookedUp 262 = .ok (.istore 10, 2) := by decide +kernel
theorem dL_isLookedUp_264 : decode cL_isLookedUp 264 = .ok (.iinc 11 1, 3) := by decide +kernel
theorem dL_isLookedUp_267 : decode cL_isLookedUp 267 = .ok (.goto (-136), 3) := by decide +kernel
theorem dL_isLookedUp_238 : decode cL_isLookedUp 238 = .ok (.ifCond .eq 18, 3) := by decide +kernel
theorem dL_isLookedUp_241 : decode cL_isLookedUp 241 = .ok (.iload 12, 2) := by decide +kernel
theorem dL_isLookedUp_243 : decode cL_isLookedUp 243 = .ok (.aload_n 0, 1) := by decide +kernel
theorem dL_isLookedUp_244 : decode cL_isLookedUp 244 = .ok (.aload_n 3, 1) := by decide +kernel
theorem dL_isLookedUp_245 : decode cL_isLookedUp 245 = .ok (.iload 11, 2) := by decide +kernel
theorem dL_isLookedUp_247 : decode cL_isLookedUp 247 = .ok (.iconst 1, 1) := by decide +kernel
theorem dL_isLookedUp_248 : decode cL_isLookedUp 248 = .ok (.isub, 1) := by decide +kernel
theorem dL_isLookedUp_249 : decode cL_isLookedUp 249 = .ok (.iaload, 1) := by decide +kernel
theorem dL_isLookedUp_250 : decode cL_isLookedUp 250 = .ok (.invokevirtual 93, 3) := by decide +kernel
theorem dL_isLookedUp_253 : decode cL_isLookedUp 253 = .ok (.if_icmp .eq 7, 3) := by decide +kernel
theorem dL_isLookedUp_260 : decode cL_isLookedUp 260 = .ok (.iconst 0, 1) := by decide +kernel
theorem dL_isLookedUp_230 : decode cL_isLookedUp 230 = .ok (.iconst 0, 1) := by decide +kernel
theorem dL_isLookedUp_216 : decode cL_isLookedUp 216 = .ok (.if_icmp .lt 14, 3) := by decide +kernel
theorem dL_isLookedUp_219 : decode cL_isLookedUp 219 = .ok (.iload 12, 2) := by decide +kernel
theorem dL_isLookedUp_221 : decode cL_isLookedUp 221 = .ok (.iload 5, 2) := by decide +kernel
theorem dL_isLookedUp_223 : decode cL_isLookedUp 223 = .ok (.if_icmp .gt 7, 3) := by decide +kernel
theorem dL_isLookedUp_226 : decode cL_isLookedUp 226 = .ok (.iconst 1, 1) := by decide +kernel
theorem dL_isLookedUp_227 : decode cL_isLookedUp 227 = .ok (.goto 4, 3) := by decide +kernel
theorem dL_isLookedUp_206 : decode cL_isLookedUp 206 = .ok (.iload 8, 2) := by decide +kernel
theorem dL_isLookedUp_190 : decode cL_isLookedUp 190 = .ok (.if_icmp .lt 16, 3) := by decide +kernel
theorem dL_isLookedUp_193 : decode cL_isLookedUp 193 = .ok (.iload 8, 2) := by decide +kernel
theorem dL_isLookedUp_195 : decode cL_isLookedUp 195 = .ok (.sipush (-20002), 3) := by decide +kernel
theorem dL_isLookedUp_198 : decode cL_isLookedUp 198 = .ok (.if_icmp .ne 8, 3) := by decide +kernel
theorem dL_isLookedUp_201 : decode cL_isLookedUp 201 = .ok (.iload 12, 2) := by decide +kernel
theorem dL_isLookedUp_203 : decode cL_isLookedUp 203 = .ok (.goto 5, 3) := by decide +kernel
theorem dL_isLookedUp_174 : decode cL_isLookedUp 174 = .ok (.if_icmp .gt 8, 3) := by decide +kernel
theorem dL_isLookedUp_182 : decode cL_isLookedUp 182 = .ok (.iload 7, 2) := by decide +kernel
theorem dL_isLookedUp_177 : decode cL_isLookedUp 177 = .ok (.iload 12, 2) := by decide +kernel
theorem dL_isLookedUp_179 : decode cL_isLookedUp 179 = .ok (.goto 5, 3) := by decide +kernel
theorem dL_isLookedUp_166 : decode cL_isLookedUp 166 = .ok (.iload 6, 2) := by decide +kernel
theorem dL_isLookedUp_151 : decode cL_isLookedUp 151 = .ok (.if_icmp .ne 15, 3) := by decide +kernel
theorem dL_isLookedUp_154 : decode cL_isLookedUp 154 = .ok (.iload 12, 2) := by decide +kernel
theorem dL_isLookedUp_156 : decode cL_isLookedUp 156 = .ok (.iload 4, 2) := by decide +kernel
theorem dL_isLookedUp_158 : decode cL_isLookedUp 158 = .ok (.if_icmp .ne 8, 3) := by decide +kernel
theorem dL_isLookedUp_161 : decode cL_isLookedUp 161 = .ok (.iload 11, 2) := by decide +kernel
theorem dL_isLookedUp_163 : decode cL_isLookedUp 163 = .ok (.goto 5, 3) := by decide +kernel
theorem dL_isLookedUp_54 : decode cL_isLookedUp 54 = .ok (.aload_n 0, 1) := by decide +kernel
theorem dL_isLookedUp_55 : decode cL_isLookedUp 55 = .ok (.bipush 13, 2) := by decide +kernel
theorem dL_isLookedUp_57 : decode cL_isLookedUp 57 = .ok (.iload_n 2, 1) := by decide +kernel
theorem dL_isLookedUp_58 : decode cL_isLookedUp 58 = .ok (.iload 4, 2) := by decide +kernel
theorem dL_isLookedUp_60 : decode cL_isLookedUp 60 = .ok (.iconst 0, 1) := by decide +kernel
theorem dL_isLookedUp_61 : decode cL_isLookedUp 61 = .ok (.invokestatic 140, 3) := by decide +kernel
theorem dL_isLookedUp_64 : decode cL_isLookedUp 64 = .ok (.sipush (-20004), 3) := by decide +kernel
theorem dL_isLookedUp_67 : decode cL_isLookedUp 67 = .ok (.if_icmp .ne 40, 3) := by decide +kernel
theorem dL_isLookedUp_107 : decode cL_isLookedUp 107 = .ok (.iconst 0, 1) := by decide +kernel
theorem dL_isLookedUp_108 : decode cL_isLookedUp 108 = .ok (.ireturn, 1) := by decide +kernel
theorem dL_isLookedUp_70 : decode cL_isLookedUp 70 = .ok (.aload_n 0, 1) := by decide +kernel
theorem dL_isLookedUp_71 : decode cL_isLookedUp 71 = .ok (.bipush 14, 2) := by decide +kernel
theorem dL_isLookedUp_73 : decode cL_isLookedUp 73 = .ok (.iload_n 2, 1) := by decide +kernel
theorem dL_isLookedUp_74 : decode cL_isLookedUp 74 = .ok (.iload 4, 2) := by decide +kernel
theorem dL_isLookedUp_76 : decode cL_isLookedUp 76 = .ok (.iconst 0, 1) := by decide +kernel
theorem dL_isLookedUp_77 : decode cL_isLookedUp 77 = .ok (.invokestatic 140, 3) := by decide +kernel
theorem dL_isLookedUp_80 : decode cL_isLookedUp 80 = .ok (.sipush (-20004), 3) := by decide +kernel
theorem dL_isLookedUp_83 : decode cL_isLookedUp 83 = .ok (.if_icmp .ne 24, 3) := by decide +kernel
theorem dL_isLookedUp_86 : decode cL_isLookedUp 86 = .ok (.aload_n 0, 1) := by decide +kernel
theorem dL_isLookedUp_87 : decode cL_isLookedUp 87 = .ok (.bipush 19, 2) := by decide +kernel
theorem dL_isLookedUp_89 : decode cL_isLookedUp 89 = .ok (.iload_n 2, 1) := by decide +kernel
theorem dL_isLookedUp_90 : decode cL_isLookedUp 90 = .ok (.iload 4, 2) := by decide +kernel
theorem dL_isLookedUp_92 : decode cL_isLookedUp 92 = .ok (.iload 5, 2) := by decide +kernel
theorem dL_isLookedUp_94 : decode cL_isLookedUp 94 = .ok (.invokestatic 140, 3) := by decide +kernel
theorem dL_isLookedUp_97 : decode cL_isLookedUp 97 = .ok (.sipush (-20004), 3) := by decide +kernel
theorem dL_isLookedUp_100 : decode cL_isLookedUp 100 = .ok (.if_icmp .ne 7, 3) := by decide +kernel
theorem dL_isLookedUp_103 : decode cL_isLookedUp 103 = .ok (.iconst 1, 1) := by decide +kernel
theorem dL_isLookedUp_104 : decode cL_isLookedUp 104 = .ok (.goto 4, 3) := by decide +kernel
theorem dL_isLookedUp_11 : decode cL_isLookedUp 11 = .ok (.ifCond .ne 10, 3) := by decide +kernel
theorem dL_isLookedUp_21 : decode cL_isLookedUp 21 = .ok (.aload_n 1, 1) := by decide +kernel
theorem dL_isLookedUp_22 : decode cL_isLookedUp 22 = .ok (.bipush 60, 2) := by decide +kernel
theorem dL_isLookedUp_24 : decode cL_isLookedUp 24 = .ok (.invokestatic 103, 3) := by decide +kernel
theorem dL_isLookedUp_27 : decode cL_isLookedUp 27 = .ok (.bipush 20, 2) := by decide +kernel
theorem dL_isLookedUp_29 : decode cL_isLookedUp 29 = .ok (.isub, 1) := by decide +kernel
theorem dL_isLookedUp_14 : decode cL_isLookedUp 14 = .ok (.aload_n 1, 1) := by decide +kernel
theorem dL_isLookedUp_15 : decode cL_isLookedUp 15 = .ok (.invokestatic 13, 3) := by decide +kernel
theorem dL_isLookedUp_18 : decode cL_isLookedUp 18 = .ok (.goto 12, 3) := by decide +kernel

set_option maxHeartbeats 8000000 in
set_option maxRecDepth 100000 in
theorem c_L_isLookedUp (l : Launch) (hlf : l.stackTraces = false) (dC : Nat → ClassId) (dI : Nat → Nat → Nat) (g : Nat → ClassId) (tp_p_ hd_p_ : Nat → Nat) (tf_p_ cf_p_ : Nat → Option Nat) (htf_p_ : ∀ j, j < 8 → tf_p_ j = some (tp_p_ j)) (hcf_p_ : ∀ j, j < 8 → cf_p_ j = some (tp_p_ (8 + j))) (a_p_ : Nat → Nat) (t_p_ : Nat) (h_p_ : a_p_ 0 = t_p_) (o_p_ : OS) (a_r_ n_r_ : Nat) (r_ : Nat → Int32) (tape : Int32) (Q : Bool → (Nat → Int32) → OS → Prop) (hw : wp_L_isLookedUp o_p_ n_r_ r_ tape Q) (sz : Nat) : Met l yL_isLookedUp wqL_isLookedUp ({ frames := 10, cells := 420, slots := 2714, locals := 174 }) (va_Pc [.ref t_p_, .ref a_r_, .int tape] (PG (dC, dI) g ([(a_r_, .inl (g 0, n_r_, .inl r_))] ++ (offS a_p_ tp_p_ hd_p_ tf_p_ cf_p_ g o_p_)) sz)) (va_Qi (fun (r : Int32) (u : (Nat → Int32) × (Nat → Nat) × OS × Unit) => ∃ b : Bool, r = b2i b ∧ (Q b u.1 u.2.2.1 ∧ u.2.1 0 = t_p_)) (fun (u : (Nat → Int32) × (Nat → Nat) × OS × Unit) t9 => va_P (dC, dI) vwCl ([(a_r_, .inl (g 0, n_r_, .inl u.1))] ++ (offS u.2.1 tp_p_ hd_p_ tf_p_ cf_p_ g u.2.2.1)) t9.heap ∧ va_D (va_A ([(a_r_, .inl (g 0, n_r_, .inl r_))] ++ (offS a_p_ tp_p_ hd_p_ tf_p_ cf_p_ g o_p_)) sz) ([(a_r_, .inl (g 0, n_r_, .inl u.1))] ++ (offS u.2.1 tp_p_ hd_p_ tf_p_ cf_p_ g u.2.2.1))) (va_A ([(a_r_, .inl (g 0, n_r_, .inl r_))] ++ (offS a_p_ tp_p_ hd_p_ tf_p_ cf_p_ g o_p_)) sz)) 420 2714 (va_A ([(a_r_, .inl (g 0, n_r_, .inl r_))] ++ (offS a_p_ tp_p_ hd_p_ tf_p_ cf_p_ g o_p_)) sz) := by
  refine Met.ofW (cc := cL_isLookedUp) (maxL := 13) (ret := (some .boolean)) (by decide) rfl ?_
  intro p e s m args below meth c s₁ B hml hv
  obtain ⟨rfl, hsz, hP, hK, hD0, hG⟩ := hv
  have hx := B.exec
  have hb := B.bytes
  have hr := B.returns
  have hts := atoms_spec (ws := wqL_isLookedUp) B.pre
  have hown : s.vm.findClass RL = some m.cls := findClass_of_methodNamed B.named
  have hlocks := B.notSynchronized
  subst hsz
  have hD := hD0.self (sz := s.heap.size)
  generalize hAe : va_A ([(a_r_, .inl (g 0, n_r_, .inl r_))] ++ (offS a_p_ tp_p_ hd_p_ tf_p_ cf_p_ g o_p_)) s.heap.size = A at hD hG ⊢
  have hA : ∀ q : Nat, s.heap.size ≤ q → A q := fun q h => by rw [← hAe]; exact Or.inr h
  have hS : va_S A s.heap s.heap [] := va_S.rf
  have hrc : (headSpec wqL_isLookedUp ({ frames := 10, cells := 420, slots := 2714, locals := 174 })).room.cells = 420 := rfl
  have hrs : (headSpec wqL_isLookedUp ({ frames := 10, cells := 420, slots := 2714, locals := 174 })).room.slots = 2714 := rfl
  have hl := lv_entry ([.ref t_p_, .ref a_r_, .int tape]) (n := 13) (Nat.le_of_ble_eq_true rfl)
  rw [lg_entry_eq]
  generalize (lg_sl ([.ref t_p_, .ref a_r_, .int tape]) ++ List.replicate (13 - (lg_sl ([.ref t_p_, .ref a_r_, .int tape])).length) Slot.unset).toArray = ls at hl ⊢
  have hl : lv_has ls 13 [(0, .ref t_p_), (1, .ref a_r_), (2, .int tape)] := hl
  unfold wp_L_isLookedUp at hw
  refine lv_aload_n hx hb dL_isLookedUp_0 rfl (lv_at hl 0 rfl) ?_
  refine lv_iload_n hx hb dL_isLookedUp_1 rfl (lv_at hl 2 rfl) ?_
  obtain ⟨hPs, hDs⟩ := seg_call (segs := [[(a_r_, .inl (g 0, n_r_, .inl r_))], offS a_p_ tp_p_ hd_p_ tf_p_ cf_p_ g o_p_]) [[(a_r_, .inl (g 0, n_r_, .inl r_))]] [offS a_p_ tp_p_ hd_p_ tf_p_ cf_p_ g o_p_] 2 [0, 1] rfl rfl (by decide) hP hD
  have hPc : va_P (dC, dI) vwCl (offS a_p_ tp_p_ hd_p_ tf_p_ cf_p_ g o_p_) s.heap := P_r hPs
  have hDc : va_D A (offS a_p_ tp_p_ hd_p_ tf_p_ cf_p_ g o_p_) := D_r hDs
  have hFc : ∀ q, va_A (offS a_p_ tp_p_ hd_p_ tf_p_ cf_p_ g o_p_) s.heap.size q → A q := A_all hDc hA hS.1
  refine va_callq (va_runS (As := [.ref t_p_, .int tape]) (rest := []) ⟨hx, hb, hml, hown, hts⟩ (c_L_tape l hlf dC dI g (tp_p_ := tp_p_) (hd_p_ := hd_p_) (tf_p_ := tf_p_) (cf_p_ := cf_p_) (htf_p_ := htf_p_) (hcf_p_ := hcf_p_) (a_p_ := a_p_) (t_p_ := t_p_) (h_p_ := h_p_) (o_p_ := o_p_) (tape := tape) (hw := hw) (sz := s.heap.size)) (va_cwS 2 hts (gqS aw_3_158 aw_3_159 aw_1_0 aw_3_160) rfl rfl rfl (by decide +kernel) ⟨Nat.le_of_ble_eq_true rfl, Nat.le_of_ble_eq_true rfl⟩) ⟨PG_blind, PG_call hK hG hS hPc hDc hFc⟩ rfl rfl hl.1 rfl (lv_room (Nat.le_of_ble_eq_true rfl)) dL_isLookedUp_2 ⟨by rw [hrc]; omega, by rw [hrs]; omega⟩) hS (fun q _ h => hFc q h) hFc (fun r_1 u_1 t_1 H_1 L_1 ht_1 hvm_1 hw_1 hB_1 hz_1 hk_1 hS => ?_)
  obtain ⟨ad_2, o_3, a_q_4, n_5, q_6, u_1⟩ := u_1
  obtain ⟨rfl, ⟨hw, had_2⟩⟩ := hw_1
  rw [ht_1] at hB_1
  obtain ⟨hP1, hD1⟩ := hB_1
  obtain ⟨hP, hD⟩ := join_r hPs hDs hk_1 hFc hP1 hD1
  obtain ⟨hP, hD⟩ := seg_join [[(a_r_, .inl (g 0, n_r_, .inl r_))]] [[(a_q_4, .inl (g 0, n_5, .inl q_6))], offS ad_2 tp_p_ hd_p_ tf_p_ cf_p_ g o_3] [[(a_r_, .inl (g 0, n_r_, .inl r_))], [(a_q_4, .inl (g 0, n_5, .inl q_6))], offS ad_2 tp_p_ hd_p_ tf_p_ cf_p_ g o_3] 3 [0, 1, 2] rfl rfl (by decide) hP hD
  have hP : va_P (dC, dI) vwCl ([(a_r_, .inl (g 0, n_r_, .inl r_)), (a_q_4, .inl (g 0, n_5, .inl q_6))] ++ (offS ad_2 tp_p_ hd_p_ tf_p_ cf_p_ g o_3)) H_1 := hP
  have hD : va_D A ([(a_r_, .inl (g 0, n_r_, .inl r_)), (a_q_4, .inl (g 0, n_5, .inl q_6))] ++ (offS ad_2 tp_p_ hd_p_ tf_p_ cf_p_ g o_3)) := hD
  refine W.widen (k := 204) (n := 1418) (by omega) (by omega) ?_
  refine lv_astore_n (lv' := [(3, .ref a_q_4), (0, .ref t_p_), (1, .ref a_r_), (2, .int tape)]) hx hb dL_isLookedUp_5 rfl hl (by decide) rfl (fun ls hl => ?_)
  refine lv_aload_n hx hb dL_isLookedUp_6 rfl (lv_at hl 2 rfl) ?_
  refine lv_iconst (v := 5) hx hb dL_isLookedUp_7 (by decide) ?_
  obtain ⟨hPs, hDs⟩ := seg_call (segs := [[(a_r_, .inl (g 0, n_r_, .inl r_))], [(a_q_4, .inl (g 0, n_5, .inl q_6))], offS ad_2 tp_p_ hd_p_ tf_p_ cf_p_ g o_3]) [[(a_q_4, .inl (g 0, n_5, .inl q_6))], offS ad_2 tp_p_ hd_p_ tf_p_ cf_p_ g o_3] [[(a_r_, .inl (g 0, n_r_, .inl r_))]] 3 [1, 2, 0] rfl rfl (by decide) hP hD
  have hPc : va_P (dC, dI) vwCl [(a_r_, .inl (g 0, n_r_, .inl r_))] H_1 := P_r hPs
  have hDc : va_D A [(a_r_, .inl (g 0, n_r_, .inl r_))] := D_r hDs
  have hFc : ∀ q, va_A [(a_r_, .inl (g 0, n_r_, .inl r_))] H_1.size q → A q := A_all hDc hA hS.1
  refine va_calli (va_runS (As := [.ref a_r_, .int 5]) (rest := []) ⟨hx, hb, hml, hown, hts⟩ (c_L_draw l hlf dC dI g (a_r_ := a_r_) (n_r_ := n_r_) (r_ := r_) (many := 5) (hw := hw) (sz := H_1.size)) (va_cwS 2 hts (gqS aw_2_215 aw_2_216 aw_1_0 aw_2_217) rfl rfl rfl (by decide +kernel) ⟨Nat.le_of_ble_eq_true rfl, Nat.le_of_ble_eq_true rfl⟩) ⟨PG_blind, PG_call hK hG hS hPc hDc hFc⟩ rfl rfl hl.1 rfl (lv_room (Nat.le_of_ble_eq_true rfl)) dL_isLookedUp_8 ⟨by rw [hrc]; omega, by rw [hrs]; omega⟩) hS (fun q _ h => hFc q h) hFc (fun r_7 u_7 t_7 H_7 L_7 ht_7 hvm_7 hw_7 hB_7 hz_7 hk_7 hS => ?_)
  obtain ⟨r__8, u_7⟩ := u_7
  have hw := hw_7
  rw [ht_7] at hB_7
  obtain ⟨hP1, hD1⟩ := hB_7
  obtain ⟨hP, hD⟩ := join_r hPs hDs hk_7 hFc hP1 hD1
  obtain ⟨hP, hD⟩ := seg_join [[(a_q_4, .inl (g 0, n_5, .inl q_6))], offS ad_2 tp_p_ hd_p_ tf_p_ cf_p_ g o_3] [[(a_r_, .inl (g 0, n_r_, .inl r__8))]] [[(a_r_, .inl (g 0, n_r_, .inl r__8))], [(a_q_4, .inl (g 0, n_5, .inl q_6))], offS ad_2 tp_p_ hd_p_ tf_p_ cf_p_ g o_3] 3 [2, 0, 1] rfl rfl (by decide) hP hD
  have hP : va_P (dC, dI) vwCl ([(a_r_, .inl (g 0, n_r_, .inl r__8)), (a_q_4, .inl (g 0, n_5, .inl q_6))] ++ (offS ad_2 tp_p_ hd_p_ tf_p_ cf_p_ g o_3)) H_7 := hP
  have hD : va_D A ([(a_r_, .inl (g 0, n_r_, .inl r__8)), (a_q_4, .inl (g 0, n_5, .inl q_6))] ++ (offS ad_2 tp_p_ hd_p_ tf_p_ cf_p_ g o_3)) := hD
  refine W.widen (k := 204) (n := 1418) (by omega) (by omega) ?_
  refine W_abs (fun QM hQM => ?_)
  have JN30 : ∀ (sk0_9 : Int32) (r__10 : Nat → Int32) (H : Heap) (locs : List Loc), (wj_L_isLookedUp_30 n_r_ tape Q o_3 n_5 q_6) sk0_9 r__10 → va_P (dC, dI) vwCl ([(a_r_, .inl (g 0, n_r_, .inl r__10)), (a_q_4, .inl (g 0, n_5, .inl q_6))] ++ (offS ad_2 tp_p_ hd_p_ tf_p_ cf_p_ g o_3)) H → va_D A ([(a_r_, .inl (g 0, n_r_, .inl r__10)), (a_q_4, .inl (g 0, n_5, .inl q_6))] ++ (offS ad_2 tp_p_ hd_p_ tf_p_ cf_p_ g o_3)) → va_S A s.heap H locs → ∀ (ls : Array Slot), lv_has ls 13 [(0, .ref t_p_), (1, .ref a_r_), (2, .int tape), (3, .ref a_q_4)] → W p l e (headSpec wqL_isLookedUp ({ frames := 10, cells := 420, slots := 2714, locals := 174 })).room s m ([.ref t_p_, .ref a_r_, .int tape] : List Value).toArray below meth c H locs 204 1418 QM (F0 m 30 ls [.int sk0_9]) := by
    intro sk0_9 r__10 H locs hw hP hD hS ls hl
    refine lv_istore (lv' := [(4, .int sk0_9), (0, .ref t_p_), (1, .ref a_r_), (2, .int tape), (3, .ref a_q_4)]) hx hb dL_isLookedUp_30 hl (by decide) rfl (fun ls hl => ?_)
    refine lv_iload hx hb dL_isLookedUp_32 (lv_at hl 0 rfl) ?_
    refine lv_aload_n hx hb dL_isLookedUp_34 rfl (lv_at hl 2 rfl) ?_
    refine lv_bipush (v := 40) hx hb dL_isLookedUp_35 (by decide) ?_
    obtain ⟨hPs, hDs⟩ := seg_call (segs := [[(a_r_, .inl (g 0, n_r_, .inl r__10))], [(a_q_4, .inl (g 0, n_5, .inl q_6))], offS ad_2 tp_p_ hd_p_ tf_p_ cf_p_ g o_3]) [[(a_q_4, .inl (g 0, n_5, .inl q_6))], offS ad_2 tp_p_ hd_p_ tf_p_ cf_p_ g o_3] [[(a_r_, .inl (g 0, n_r_, .inl r__10))]] 3 [1, 2, 0] rfl rfl (by decide) hP hD
    have hPc : va_P (dC, dI) vwCl [(a_r_, .inl (g 0, n_r_, .inl r__10))] H := P_r hPs
    have hDc : va_D A [(a_r_, .inl (g 0, n_r_, .inl r__10))] := D_r hDs
    have hFc : ∀ q, va_A [(a_r_, .inl (g 0, n_r_, .inl r__10))] H.size q → A q := A_all hDc hA hS.1
    refine va_calli (va_runS (As := [.ref a_r_, .int 40]) (rest := [.int sk0_9]) ⟨hx, hb, hml, hown, hts⟩ (c_L_draw l hlf dC dI g (a_r_ := a_r_) (n_r_ := n_r_) (r_ := r__10) (many := 40) (hw := hw) (sz := H.size)) (va_cwS 2 hts (gqS aw_2_215 aw_2_216 aw_1_0 aw_2_217) rfl rfl rfl (by decide +kernel) ⟨Nat.le_of_ble_eq_true rfl, Nat.le_of_ble_eq_true rfl⟩) ⟨PG_blind, PG_call hK hG hS hPc hDc hFc⟩ rfl rfl hl.1 rfl (lv_room (Nat.le_of_ble_eq_true rfl)) dL_isLookedUp_37 ⟨by rw [hrc]; omega, by rw [hrs]; omega⟩) hS (fun q _ h => hFc q h) hFc (fun r_11 u_11 t_11 H_11 L_11 ht_11 hvm_11 hw_11 hB_11 hz_11 hk_11 hS => ?_)
    obtain ⟨r__12, u_11⟩ := u_11
    have hw := hw_11
    rw [ht_11] at hB_11
    obtain ⟨hP1, hD1⟩ := hB_11
    obtain ⟨hP, hD⟩ := join_r hPs hDs hk_11 hFc hP1 hD1
    obtain ⟨hP, hD⟩ := seg_join [[(a_q_4, .inl (g 0, n_5, .inl q_6))], offS ad_2 tp_p_ hd_p_ tf_p_ cf_p_ g o_3] [[(a_r_, .inl (g 0, n_r_, .inl r__12))]] [[(a_r_, .inl (g 0, n_r_, .inl r__12))], [(a_q_4, .inl (g 0, n_5, .inl q_6))], offS ad_2 tp_p_ hd_p_ tf_p_ cf_p_ g o_3] 3 [2, 0, 1] rfl rfl (by decide) hP hD
    have hP : va_P (dC, dI) vwCl ([(a_r_, .inl (g 0, n_r_, .inl r__12)), (a_q_4, .inl (g 0, n_5, .inl q_6))] ++ (offS ad_2 tp_p_ hd_p_ tf_p_ cf_p_ g o_3)) H_11 := hP
    have hD : va_D A ([(a_r_, .inl (g 0, n_r_, .inl r__12)), (a_q_4, .inl (g 0, n_5, .inl q_6))] ++ (offS ad_2 tp_p_ hd_p_ tf_p_ cf_p_ g o_3)) := hD
    refine W.widen (k := 204) (n := 1418) (by omega) (by omega) ?_
    refine lv_iadd hx hb dL_isLookedUp_40 ?_
    refine lv_topi (fun x_13 ex_13 => ?_)
    have hw := hw x_13 ex_13
    refine lv_iconst (v := 5) hx hb dL_isLookedUp_41 (by decide) ?_
    refine lv_isub hx hb dL_isLookedUp_42 ?_
    refine lv_topi (fun x_14 ex_14 => ?_)
    have hw := hw x_14 ex_14
    refine lv_istore (lv' := [(5, .int x_14), (4, .int sk0_9), (0, .ref t_p_), (1, .ref a_r_), (2, .int tape), (3, .ref a_q_4)]) hx hb dL_isLookedUp_43 hl (by decide) rfl (fun ls hl => ?_)
    refine lv_aload_n hx hb dL_isLookedUp_45 rfl (lv_at hl 2 rfl) ?_
    refine lv_iload_n hx hb dL_isLookedUp_46 rfl (lv_at hl 4 rfl) ?_
    refine lv_iconst (v := 0) hx hb dL_isLookedUp_47 (by decide) ?_
    obtain ⟨hPs, hDs⟩ := seg_call (segs := [[(a_r_, .inl (g 0, n_r_, .inl r__12))], [(a_q_4, .inl (g 0, n_5, .inl q_6))], offS ad_2 tp_p_ hd_p_ tf_p_ cf_p_ g o_3]) [[(a_r_, .inl (g 0, n_r_, .inl r__12))], [(a_q_4, .inl (g 0, n_5, .inl q_6))]] [offS ad_2 tp_p_ hd_p_ tf_p_ cf_p_ g o_3] 3 [0, 1, 2] rfl rfl (by decide) hP hD
    have hPc : va_P (dC, dI) vwCl (offS ad_2 tp_p_ hd_p_ tf_p_ cf_p_ g o_3) H_11 := P_r hPs
    have hDc : va_D A (offS ad_2 tp_p_ hd_p_ tf_p_ cf_p_ g o_3) := D_r hDs
    have hFc : ∀ q, va_A (offS ad_2 tp_p_ hd_p_ tf_p_ cf_p_ g o_3) H_11.size q → A q := A_all hDc hA hS.1
    refine vx_calli (vx_runV (As := [.int tape, .int 0]) (rest := []) ⟨hx, hb, hml, hown, hts⟩ (p_isSorted l hlf dC dI g tp_p_ hd_p_ tf_p_ cf_p_ htf_p_ hcf_p_ ad_2 t_p_ had_2 o_3 tape 0 (hw := hw) (sz := H_11.size)) (cwV 2 hts (gqV aw_5_228 aw_5_229 aw_5_230 aw_1_1 aw_5_231) rfl rfl rfl (by decide +kernel) ⟨Nat.le_of_ble_eq_true rfl, Nat.le_of_ble_eq_true rfl⟩) ⟨PG_blind, off_recv had_2 hK hPc, PG_call hK hG hS hPc hDc hFc⟩ rfl rfl hl.1 rfl (lv_room (Nat.le_of_ble_eq_true rfl)) dL_isLookedUp_48 ⟨by rw [hrc]; omega, by rw [hrs]; omega⟩) hS (fun q _ h => hFc q h) hFc (fun q _ h => hFc q h) (fun E ce q9 ux t H1 locs1 ht hvm hp9 hB9 hz hk hS9 hce hcv hcl => ?_) (fun r_15 u_15 t_15 H_15 L_15 ht_15 hvm_15 hw_15 hB_15 hz_15 hk_15 hS => ?_)
    · exact (hB9.1.1).elim
    obtain ⟨ad_16, o_17⟩ := u_15
    obtain ⟨b_15, rfl, ⟨hw, had_16⟩⟩ := hw_15
    rw [ht_15] at hB_15
    obtain ⟨hP1, hD1⟩ := hB_15
    obtain ⟨hP, hD⟩ := join_r hPs hDs hk_15 hFc hP1 hD1
    obtain ⟨hP, hD⟩ := seg_join [[(a_r_, .inl (g 0, n_r_, .inl r__12))], [(a_q_4, .inl (g 0, n_5, .inl q_6))]] [offS ad_16 tp_p_ hd_p_ tf_p_ cf_p_ g o_17] [[(a_r_, .inl (g 0, n_r_, .inl r__12))], [(a_q_4, .inl (g 0, n_5, .inl q_6))], offS ad_16 tp_p_ hd_p_ tf_p_ cf_p_ g o_17] 3 [0, 1, 2] rfl rfl (by decide) hP hD
    have hP : va_P (dC, dI) vwCl ([(a_r_, .inl (g 0, n_r_, .inl r__12)), (a_q_4, .inl (g 0, n_5, .inl q_6))] ++ (offS ad_16 tp_p_ hd_p_ tf_p_ cf_p_ g o_17)) H_15 := hP
    have hD : va_D A ([(a_r_, .inl (g 0, n_r_, .inl r__12)), (a_q_4, .inl (g 0, n_5, .inl q_6))] ++ (offS ad_16 tp_p_ hd_p_ tf_p_ cf_p_ g o_17)) := hD
    refine W.widen (k := 206) (n := 1430) (by omega) (by omega) ?_
    refine lv_if_ne (tgt := 109) hx hb dL_isLookedUp_51 (by decide) (fun c_18 => ?_) (fun c_18 => ?_)
    · have hw := hw.2 (b2i_1 c_18)
      refine lv_iconst (v := (-1)) hx hb dL_isLookedUp_109 (by decide) ?_
      refine lv_istore (lv' := [(6, .int (-1)), (5, .int x_14), (4, .int sk0_9), (0, .ref t_p_), (1, .ref a_r_), (2, .int tape), (3, .ref a_q_4)]) hx hb dL_isLookedUp_110 hl (by decide) rfl (fun ls hl => ?_)
      refine lv_sipush (v := (-20002)) hx hb dL_isLookedUp_112 (by decide) ?_
      refine lv_istore (lv' := [(7, .int (-20002)), (6, .int (-1)), (5, .int x_14), (4, .int sk0_9), (0, .ref t_p_), (1, .ref a_r_), (2, .int tape), (3, .ref a_q_4)]) hx hb dL_isLookedUp_115 hl (by decide) rfl (fun ls hl => ?_)
      refine lv_sipush (v := (-20002)) hx hb dL_isLookedUp_117 (by decide) ?_
      refine lv_istore (lv' := [(8, .int (-20002)), (7, .int (-20002)), (6, .int (-1)), (5, .int x_14), (4, .int sk0_9), (0, .ref t_p_), (1, .ref a_r_), (2, .int tape), (3, .ref a_q_4)]) hx hb dL_isLookedUp_120 hl (by decide) rfl (fun ls hl => ?_)
      refine lv_iconst (v := 0) hx hb dL_isLookedUp_122 (by decide) ?_
      refine lv_istore (lv' := [(9, .int 0), (8, .int (-20002)), (7, .int (-20002)), (6, .int (-1)), (5, .int x_14), (4, .int sk0_9), (0, .ref t_p_), (1, .ref a_r_), (2, .int tape), (3, .ref a_q_4)]) hx hb dL_isLookedUp_123 hl (by decide) rfl (fun ls hl => ?_)
      refine lv_iconst (v := 0) hx hb dL_isLookedUp_125 (by decide) ?_
      refine lv_istore (lv' := [(10, .int 0), (9, .int 0), (8, .int (-20002)), (7, .int (-20002)), (6, .int (-1)), (5, .int x_14), (4, .int sk0_9), (0, .ref t_p_), (1, .ref a_r_), (2, .int tape), (3, .ref a_q_4)]) hx hb dL_isLookedUp_126 hl (by decide) rfl (fun ls hl => ?_)
      refine lv_iconst (v := 0) hx hb dL_isLookedUp_128 (by decide) ?_
      refine lv_istore (lv' := [(11, .int 0), (10, .int 0), (9, .int 0), (8, .int (-20002)), (7, .int (-20002)), (6, .int (-1)), (5, .int x_14), (4, .int sk0_9), (0, .ref t_p_), (1, .ref a_r_), (2, .int tape), (3, .ref a_q_4)]) hx hb dL_isLookedUp_129 hl (by decide) rfl (fun ls hl => ?_)
      have EX131_270 : ∀ (v10_27 : Int32) (v6_28 : Int32) (v8_29 : Int32) (v9_30 : Int32) (o_31 : OS) (v7_32 : Int32) (ad_33 : Nat → Nat) (had_33 : ad_33 0 = t_p_) (H : Heap) (locs : List Loc), (wx_L_isLookedUp_131_270 tape Q sk0_9 r__12 x_14) v10_27 v6_28 v8_29 v9_30 o_31 v7_32 → va_P (dC, dI) vwCl ([(a_r_, .inl (g 0, n_r_, .inl r__12))] ++ (offS ad_33 tp_p_ hd_p_ tf_p_ cf_p_ g o_31)) H → va_D A ([(a_r_, .inl (g 0, n_r_, .inl r__12))] ++ (offS ad_33 tp_p_ hd_p_ tf_p_ cf_p_ g o_31)) → va_S A s.heap H locs → ∀ (ls : Array Slot), lv_has ls 13 [(0, .ref t_p_), (2, .int tape), (4, .int sk0_9), (5, .int x_14), (6, .int v6_28), (7, .int v7_32), (8, .int v8_29), (9, .int v9_30), (10, .int v10_27)] → W p l e (headSpec wqL_isLookedUp ({ frames := 10, cells := 420, slots := 2714, locals := 174 })).room s m ([.ref t_p_, .ref a_r_, .int tape] : List Value).toArray below meth c H locs 408 2642 QM (F0 m 270 ls []) := by
        intro v10_27 v6_28 v8_29 v9_30 o_31 v7_32 ad_33 had_33 H locs hw hP hD hS ls hl
        refine lv_aload_n hx hb dL_isLookedUp_270 rfl (lv_at hl 0 rfl) ?_
        refine lv_iload_n hx hb dL_isLookedUp_271 rfl (lv_at hl 1 rfl) ?_
        refine lv_iload hx hb dL_isLookedUp_272 (lv_at hl 2 rfl) ?_
        obtain ⟨hPs, hDs⟩ := seg_call (segs := [[(a_r_, .inl (g 0, n_r_, .inl r__12))], offS ad_33 tp_p_ hd_p_ tf_p_ cf_p_ g o_31]) [[(a_r_, .inl (g 0, n_r_, .inl r__12))]] [offS ad_33 tp_p_ hd_p_ tf_p_ cf_p_ g o_31] 2 [0, 1] rfl rfl (by decide) hP hD
        have hPc : va_P (dC, dI) vwCl (offS ad_33 tp_p_ hd_p_ tf_p_ cf_p_ g o_31) H := P_r hPs
        have hDc : va_D A (offS ad_33 tp_p_ hd_p_ tf_p_ cf_p_ g o_31) := D_r hDs
        have hFc : ∀ q, va_A (offS ad_33 tp_p_ hd_p_ tf_p_ cf_p_ g o_31) H.size q → A q := A_all hDc hA hS.1
        refine vx_calli (vx_runV (As := [.int tape, .int sk0_9]) (rest := []) ⟨hx, hb, hml, hown, hts⟩ (p_find l hlf dC dI g tp_p_ hd_p_ tf_p_ cf_p_ htf_p_ hcf_p_ ad_33 t_p_ had_33 o_31 tape sk0_9 (hw := hw) (sz := H.size)) (cwV 2 hts (gqV aw_5_1 aw_5_2 aw_5_3 aw_1_1 aw_5_4) rfl rfl rfl (by decide +kernel) ⟨Nat.le_of_ble_eq_true rfl, Nat.le_of_ble_eq_true rfl⟩) ⟨PG_blind, off_recv had_33 hK hPc, PG_call hK hG hS hPc hDc hFc⟩ rfl rfl hl.1 rfl (lv_room (Nat.le_of_ble_eq_true rfl)) dL_isLookedUp_274 ⟨by rw [hrc]; omega, by rw [hrs]; omega⟩) hS (fun q _ h => hFc q h) hFc (fun q _ h => hFc q h) (fun E ce q9 ux t H1 locs1 ht hvm hp9 hB9 hz hk hS9 hce hcv hcl => ?_) (fun r_34 u_34 t_34 H_34 L_34 ht_34 hvm_34 hw_34 hB_34 hz_34 hk_34 hS => ?_)
        · exact (hB9.1.1).elim
        obtain ⟨ad_35, o_36⟩ := u_34
        obtain ⟨hw, had_35⟩ := hw_34
        rw [ht_34] at hB_34
        obtain ⟨hP1, hD1⟩ := hB_34
        obtain ⟨hP, hD⟩ := join_r hPs hDs hk_34 hFc hP1 hD1
        obtain ⟨hP, hD⟩ := seg_join [[(a_r_, .inl (g 0, n_r_, .inl r__12))]] [offS ad_35 tp_p_ hd_p_ tf_p_ cf_p_ g o_36] [[(a_r_, .inl (g 0, n_r_, .inl r__12))], offS ad_35 tp_p_ hd_p_ tf_p_ cf_p_ g o_36] 2 [0, 1] rfl rfl (by decide) hP hD
        have hP : va_P (dC, dI) vwCl ([(a_r_, .inl (g 0, n_r_, .inl r__12))] ++ (offS ad_35 tp_p_ hd_p_ tf_p_ cf_p_ g o_36)) H_34 := hP
        have hD : va_D A ([(a_r_, .inl (g 0, n_r_, .inl r__12))] ++ (offS ad_35 tp_p_ hd_p_ tf_p_ cf_p_ g o_36)) := hD
        refine W.widen (k := 410) (n := 2654) (by omega) (by omega) ?_
        refine lv_iload hx hb dL_isLookedUp_277 (lv_at hl 4 rfl) ?_
        refine lv_icmp_ne (tgt := 340) hx hb dL_isLookedUp_279 (by decide) (fun c_37 => ?_) (fun c_37 => ?_)
        · have hw := hw.2 c_37
          refine lv_iconst (v := 0) hx hb dL_isLookedUp_340 (by decide) ?_
          refine W.widen (k := 420) (n := 2714) (by omega) (by omega) ?_
          subst hQM
          exact W.zret (v := 0) hx hb hr rfl (fun t ht hW => ⟨⟨_, (r__12, ad_35, o_36, ()), rfl, ⟨false, rfl, ⟨hw, had_35⟩⟩, ⟨P_at ht hP, hD⟩⟩, hS.F ht⟩) hS.2.2 dL_isLookedUp_341
        · have hw := hw.1 c_37
          refine lv_aload_n hx hb dL_isLookedUp_282 rfl (lv_at hl 0 rfl) ?_
          refine lv_bipush (v := 14) hx hb dL_isLookedUp_283 (by decide) ?_
          refine lv_iload_n hx hb dL_isLookedUp_285 rfl (lv_at hl 1 rfl) ?_
          refine lv_iload hx hb dL_isLookedUp_286 (lv_at hl 2 rfl) ?_
          refine lv_iconst (v := 0) hx hb dL_isLookedUp_288 (by decide) ?_
          obtain ⟨hPs, hDs⟩ := seg_call (segs := [[(a_r_, .inl (g 0, n_r_, .inl r__12))], offS ad_35 tp_p_ hd_p_ tf_p_ cf_p_ g o_36]) [[(a_r_, .inl (g 0, n_r_, .inl r__12))]] [offS ad_35 tp_p_ hd_p_ tf_p_ cf_p_ g o_36] 2 [0, 1] rfl rfl (by decide) hP hD
          have hPc : va_P (dC, dI) vwCl (offS ad_35 tp_p_ hd_p_ tf_p_ cf_p_ g o_36) H_34 := P_r hPs
          have hDc : va_D A (offS ad_35 tp_p_ hd_p_ tf_p_ cf_p_ g o_36) := D_r hDs
          have hFc : ∀ q, va_A (offS ad_35 tp_p_ hd_p_ tf_p_ cf_p_ g o_36) H_34.size q → A q := A_all hDc hA hS.1
          refine va_calli (vx_runSW (As := [.ref t_p_, .int 14, .int tape, .int sk0_9, .int 0]) (rest := []) ⟨hx, hb, hml, hown, hts⟩ (c_L_asks_14 l hlf dC dI g (tp_p_ := tp_p_) (hd_p_ := hd_p_) (tf_p_ := tf_p_) (cf_p_ := cf_p_) (htf_p_ := htf_p_) (hcf_p_ := hcf_p_) (a_p_ := ad_35) (t_p_ := t_p_) (h_p_ := had_35) (o_p_ := o_36) (a_ := tape) (b_ := sk0_9) (c_ := 0) (hw := hw) (sz := H_34.size)) (vx_cwSW 5 hts (gqS aw_4_45 aw_4_46 aw_1_0 aw_4_47) rfl rfl rfl (by decide +kernel) ⟨Nat.le_of_ble_eq_true rfl, Nat.le_of_ble_eq_true rfl⟩) ⟨PG_blind, PG_call hK hG hS hPc hDc hFc⟩ rfl rfl hl.1 rfl (lv_room (Nat.le_of_ble_eq_true rfl)) dL_isLookedUp_289 ⟨by rw [hrc]; omega, by rw [hrs]; omega⟩) hS (fun q _ h => hFc q h) hFc (fun r_38 u_38 t_38 H_38 L_38 ht_38 hvm_38 hw_38 hB_38 hz_38 hk_38 hS => ?_)
          obtain ⟨ad_39, o_40, u_38⟩ := u_38
          obtain ⟨hw, had_39⟩ := hw_38
          rw [ht_38] at hB_38
          obtain ⟨hP1, hD1⟩ := hB_38
          obtain ⟨hP, hD⟩ := join_r hPs hDs hk_38 hFc hP1 hD1
          obtain ⟨hP, hD⟩ := seg_join [[(a_r_, .inl (g 0, n_r_, .inl r__12))]] [offS ad_39 tp_p_ hd_p_ tf_p_ cf_p_ g o_40] [[(a_r_, .inl (g 0, n_r_, .inl r__12))], offS ad_39 tp_p_ hd_p_ tf_p_ cf_p_ g o_40] 2 [0, 1] rfl rfl (by decide) hP hD
          have hP : va_P (dC, dI) vwCl ([(a_r_, .inl (g 0, n_r_, .inl r__12))] ++ (offS ad_39 tp_p_ hd_p_ tf_p_ cf_p_ g o_40)) H_38 := hP
          have hD : va_D A ([(a_r_, .inl (g 0, n_r_, .inl r__12))] ++ (offS ad_39 tp_p_ hd_p_ tf_p_ cf_p_ g o_40)) := hD
          refine W.widen (k := 413) (n := 2672) (by omega) (by omega) ?_
          refine lv_iload hx hb dL_isLookedUp_292 (lv_at hl 5 rfl) ?_
          refine lv_icmp_ne (tgt := 340) hx hb dL_isLookedUp_294 (by decide) (fun c_41 => ?_) (fun c_41 => ?_)
          · have hw := hw.2 c_41
            refine lv_iconst (v := 0) hx hb dL_isLookedUp_340 (by decide) ?_
            refine W.widen (k := 420) (n := 2714) (by omega) (by omega) ?_
            subst hQM
            exact W.zret (v := 0) hx hb hr rfl (fun t ht hW => ⟨⟨_, (r__12, ad_39, o_40, ()), rfl, ⟨false, rfl, ⟨hw, had_39⟩⟩, ⟨P_at ht hP, hD⟩⟩, hS.F ht⟩) hS.2.2 dL_isLookedUp_341
          · have hw := hw.1 c_41
            refine lv_aload_n hx hb dL_isLookedUp_297 rfl (lv_at hl 0 rfl) ?_
            refine lv_bipush (v := 15) hx hb dL_isLookedUp_298 (by decide) ?_
            refine lv_iload_n hx hb dL_isLookedUp_300 rfl (lv_at hl 1 rfl) ?_
            refine lv_iload hx hb dL_isLookedUp_301 (lv_at hl 2 rfl) ?_
            refine lv_iconst (v := 0) hx hb dL_isLookedUp_303 (by decide) ?_
            obtain ⟨hPs, hDs⟩ := seg_call (segs := [[(a_r_, .inl (g 0, n_r_, .inl r__12))], offS ad_39 tp_p_ hd_p_ tf_p_ cf_p_ g o_40]) [[(a_r_, .inl (g 0, n_r_, .inl r__12))]] [offS ad_39 tp_p_ hd_p_ tf_p_ cf_p_ g o_40] 2 [0, 1] rfl rfl (by decide) hP hD
            have hPc : va_P (dC, dI) vwCl (offS ad_39 tp_p_ hd_p_ tf_p_ cf_p_ g o_40) H_38 := P_r hPs
            have hDc : va_D A (offS ad_39 tp_p_ hd_p_ tf_p_ cf_p_ g o_40) := D_r hDs
            have hFc : ∀ q, va_A (offS ad_39 tp_p_ hd_p_ tf_p_ cf_p_ g o_40) H_38.size q → A q := A_all hDc hA hS.1
            refine va_calli (vx_runSW (As := [.ref t_p_, .int 15, .int tape, .int sk0_9, .int 0]) (rest := []) ⟨hx, hb, hml, hown, hts⟩ (c_L_asks_15 l hlf dC dI g (tp_p_ := tp_p_) (hd_p_ := hd_p_) (tf_p_ := tf_p_) (cf_p_ := cf_p_) (htf_p_ := htf_p_) (hcf_p_ := hcf_p_) (a_p_ := ad_39) (t_p_ := t_p_) (h_p_ := had_39) (o_p_ := o_40) (a_ := tape) (b_ := sk0_9) (c_ := 0) (hw := hw) (sz := H_38.size)) (vx_cwSW 5 hts (gqS aw_4_45 aw_4_46 aw_1_0 aw_4_47) rfl rfl rfl (by decide +kernel) ⟨Nat.le_of_ble_eq_true rfl, Nat.le_of_ble_eq_true rfl⟩) ⟨PG_blind, PG_call hK hG hS hPc hDc hFc⟩ rfl rfl hl.1 rfl (lv_room (Nat.le_of_ble_eq_true rfl)) dL_isLookedUp_304 ⟨by rw [hrc]; omega, by rw [hrs]; omega⟩) hS (fun q _ h => hFc q h) hFc (fun r_42 u_42 t_42 H_42 L_42 ht_42 hvm_42 hw_42 hB_42 hz_42 hk_42 hS => ?_)
            obtain ⟨ad_43, o_44, u_42⟩ := u_42
            obtain ⟨hw, had_43⟩ := hw_42
            rw [ht_42] at hB_42
            obtain ⟨hP1, hD1⟩ := hB_42
            obtain ⟨hP, hD⟩ := join_r hPs hDs hk_42 hFc hP1 hD1
            obtain ⟨hP, hD⟩ := seg_join [[(a_r_, .inl (g 0, n_r_, .inl r__12))]] [offS ad_43 tp_p_ hd_p_ tf_p_ cf_p_ g o_44] [[(a_r_, .inl (g 0, n_r_, .inl r__12))], offS ad_43 tp_p_ hd_p_ tf_p_ cf_p_ g o_44] 2 [0, 1] rfl rfl (by decide) hP hD
            have hP : va_P (dC, dI) vwCl ([(a_r_, .inl (g 0, n_r_, .inl r__12))] ++ (offS ad_43 tp_p_ hd_p_ tf_p_ cf_p_ g o_44)) H_42 := hP
            have hD : va_D A ([(a_r_, .inl (g 0, n_r_, .inl r__12))] ++ (offS ad_43 tp_p_ hd_p_ tf_p_ cf_p_ g o_44)) := hD
            refine W.widen (k := 416) (n := 2690) (by omega) (by omega) ?_
            refine lv_iload hx hb dL_isLookedUp_307 (lv_at hl 6 rfl) ?_
            refine lv_icmp_ne (tgt := 340) hx hb dL_isLookedUp_309 (by decide) (fun c_45 => ?_) (fun c_45 => ?_)
            · have hw := hw.2 c_45
              refine lv_iconst (v := 0) hx hb dL_isLookedUp_340 (by decide) ?_
              refine W.widen (k := 420) (n := 2714) (by omega) (by omega) ?_
              subst hQM
              exact W.zret (v := 0) hx hb hr rfl (fun t ht hW => ⟨⟨_, (r__12, ad_43, o_44, ()), rfl, ⟨false, rfl, ⟨hw, had_43⟩⟩, ⟨P_at ht hP, hD⟩⟩, hS.F ht⟩) hS.2.2 dL_isLookedUp_341
            · have hw := hw.1 c_45
              refine lv_aload_n hx hb dL_isLookedUp_312 rfl (lv_at hl 0 rfl) ?_
              refine lv_iload_n hx hb dL_isLookedUp_313 rfl (lv_at hl 1 rfl) ?_
              refine lv_iload hx hb dL_isLookedUp_314 (lv_at hl 2 rfl) ?_
              refine lv_iload hx hb dL_isLookedUp_316 (lv_at hl 3 rfl) ?_
              obtain ⟨hPs, hDs⟩ := seg_call (segs := [[(a_r_, .inl (g 0, n_r_, .inl r__12))], offS ad_43 tp_p_ hd_p_ tf_p_ cf_p_ g o_44]) [[(a_r_, .inl (g 0, n_r_, .inl r__12))]] [offS ad_43 tp_p_ hd_p_ tf_p_ cf_p_ g o_44] 2 [0, 1] rfl rfl (by decide) hP hD
              have hPc : va_P (dC, dI) vwCl (offS ad_43 tp_p_ hd_p_ tf_p_ cf_p_ g o_44) H_42 := P_r hPs
              have hDc : va_D A (offS ad_43 tp_p_ hd_p_ tf_p_ cf_p_ g o_44) := D_r hDs
              have hFc : ∀ q, va_A (offS ad_43 tp_p_ hd_p_ tf_p_ cf_p_ g o_44) H_42.size q → A q := A_all hDc hA hS.1
              refine vx_calli (vx_runV (As := [.int tape, .int sk0_9, .int x_14]) (rest := []) ⟨hx, hb, hml, hown, hts⟩ (p_between l hlf dC dI g tp_p_ hd_p_ tf_p_ cf_p_ htf_p_ hcf_p_ ad_43 t_p_ had_43 o_44 tape sk0_9 x_14 (hw := hw) (sz := H_42.size)) (cwV 3 hts (gqV aw_5_223 aw_5_224 aw_5_225 aw_1_1 aw_5_226) rfl rfl rfl (by decide +kernel) ⟨Nat.le_of_ble_eq_true rfl, Nat.le_of_ble_eq_true rfl⟩) ⟨PG_blind, off_recv had_43 hK hPc, PG_call hK hG hS hPc hDc hFc⟩ rfl rfl hl.1 rfl (lv_room (Nat.le_of_ble_eq_true rfl)) dL_isLookedUp_318 ⟨by rw [hrc]; omega, by rw [hrs]; omega⟩) hS (fun q _ h => hFc q h) hFc (fun q _ h => hFc q h) (fun E ce q9 ux t H1 locs1 ht hvm hp9 hB9 hz hk hS9 hce hcv hcl => ?_) (fun r_46 u_46 t_46 H_46 L_46 ht_46 hvm_46 hw_46 hB_46 hz_46 hk_46 hS => ?_)
              · exact (hB9.1.1).elim
              obtain ⟨ad_47, o_48⟩ := u_46
              obtain ⟨hw, had_47⟩ := hw_46
              rw [ht_46] at hB_46
              obtain ⟨hP1, hD1⟩ := hB_46
              obtain ⟨hP, hD⟩ := join_r hPs hDs hk_46 hFc hP1 hD1
              obtain ⟨hP, hD⟩ := seg_join [[(a_r_, .inl (g 0, n_r_, .inl r__12))]] [offS ad_47 tp_p_ hd_p_ tf_p_ cf_p_ g o_48] [[(a_r_, .inl (g 0, n_r_, .inl r__12))], offS ad_47 tp_p_ hd_p_ tf_p_ cf_p_ g o_48] 2 [0, 1] rfl rfl (by decide) hP hD
              have hP : va_P (dC, dI) vwCl ([(a_r_, .inl (g 0, n_r_, .inl r__12))] ++ (offS ad_47 tp_p_ hd_p_ tf_p_ cf_p_ g o_48)) H_46 := hP
              have hD : va_D A ([(a_r_, .inl (g 0, n_r_, .inl r__12))] ++ (offS ad_47 tp_p_ hd_p_ tf_p_ cf_p_ g o_48)) := hD
              refine W.widen (k := 418) (n := 2702) (by omega) (by omega) ?_
              refine lv_iload hx hb dL_isLookedUp_321 (lv_at hl 7 rfl) ?_
              refine lv_icmp_ne (tgt := 340) hx hb dL_isLookedUp_323 (by decide) (fun c_49 => ?_) (fun c_49 => ?_)
              · have hw := hw.2 c_49
                refine lv_iconst (v := 0) hx hb dL_isLookedUp_340 (by decide) ?_
                refine W.widen (k := 420) (n := 2714) (by omega) (by omega) ?_
                subst hQM
                exact W.zret (v := 0) hx hb hr rfl (fun t ht hW => ⟨⟨_, (r__12, ad_47, o_48, ()), rfl, ⟨false, rfl, ⟨hw, had_47⟩⟩, ⟨P_at ht hP, hD⟩⟩, hS.F ht⟩) hS.2.2 dL_isLookedUp_341
              · have hw := hw.1 c_49
                refine lv_aload_n hx hb dL_isLookedUp_326 rfl (lv_at hl 0 rfl) ?_
                refine lv_iload_n hx hb dL_isLookedUp_327 rfl (lv_at hl 1 rfl) ?_
                obtain ⟨hPs, hDs⟩ := seg_call (segs := [[(a_r_, .inl (g 0, n_r_, .inl r__12))], offS ad_47 tp_p_ hd_p_ tf_p_ cf_p_ g o_48]) [[(a_r_, .inl (g 0, n_r_, .inl r__12))]] [offS ad_47 tp_p_ hd_p_ tf_p_ cf_p_ g o_48] 2 [0, 1] rfl rfl (by decide) hP hD
                have hPc : va_P (dC, dI) vwCl (offS ad_47 tp_p_ hd_p_ tf_p_ cf_p_ g o_48) H_46 := P_r hPs
                have hDc : va_D A (offS ad_47 tp_p_ hd_p_ tf_p_ cf_p_ g o_48) := D_r hDs
                have hFc : ∀ q, va_A (offS ad_47 tp_p_ hd_p_ tf_p_ cf_p_ g o_48) H_46.size q → A q := A_all hDc hA hS.1
                refine vx_calli (vx_runV (As := [.int tape]) (rest := []) ⟨hx, hb, hml, hown, hts⟩ (p_keys l hlf dC dI g tp_p_ hd_p_ tf_p_ cf_p_ htf_p_ hcf_p_ ad_47 t_p_ had_47 o_48 tape (hw := hw) (sz := H_46.size)) (cwV 1 hts (gqV aw_6_89 aw_6_90 aw_6_91 aw_1_1 aw_6_92) rfl rfl rfl (by decide +kernel) ⟨Nat.le_of_ble_eq_true rfl, Nat.le_of_ble_eq_true rfl⟩) ⟨PG_blind, off_recv had_47 hK hPc, PG_call hK hG hS hPc hDc hFc⟩ rfl rfl hl.1 rfl (lv_room (Nat.le_of_ble_eq_true rfl)) dL_isLookedUp_328 ⟨by rw [hrc]; omega, by rw [hrs]; omega⟩) hS (fun q _ h => hFc q h) hFc (fun q _ h => hFc q h) (fun E ce q9 ux t H1 locs1 ht hvm hp9 hB9 hz hk hS9 hce hcv hcl => ?_) (fun r_50 u_50 t_50 H_50 L_50 ht_50 hvm_50 hw_50 hB_50 hz_50 hk_50 hS => ?_)
                · exact (hB9.1.1).elim
                obtain ⟨ad_51, o_52⟩ := u_50
                obtain ⟨hw, had_51⟩ := hw_50
                rw [ht_50] at hB_50
                obtain ⟨hP1, hD1⟩ := hB_50
                obtain ⟨hP, hD⟩ := join_r hPs hDs hk_50 hFc hP1 hD1
                obtain ⟨hP, hD⟩ := seg_join [[(a_r_, .inl (g 0, n_r_, .inl r__12))]] [offS ad_51 tp_p_ hd_p_ tf_p_ cf_p_ g o_52] [[(a_r_, .inl (g 0, n_r_, .inl r__12))], offS ad_51 tp_p_ hd_p_ tf_p_ cf_p_ g o_52] 2 [0, 1] rfl rfl (by decide) hP hD
                have hP : va_P (dC, dI) vwCl ([(a_r_, .inl (g 0, n_r_, .inl r__12))] ++ (offS ad_51 tp_p_ hd_p_ tf_p_ cf_p_ g o_52)) H_50 := hP
                have hD : va_D A ([(a_r_, .inl (g 0, n_r_, .inl r__12))] ++ (offS ad_51 tp_p_ hd_p_ tf_p_ cf_p_ g o_52)) := hD
                refine W.widen (k := 420) (n := 2714) (by omega) (by omega) ?_
                refine lv_iload hx hb dL_isLookedUp_331 (lv_at hl 8 rfl) ?_
                refine lv_icmp_ne (tgt := 340) hx hb dL_isLookedUp_333 (by decide) (fun c_53 => ?_) (fun c_53 => ?_)
                · have hw := hw.2 c_53
                  refine lv_iconst (v := 0) hx hb dL_isLookedUp_340 (by decide) ?_
                  refine W.widen (k := 420) (n := 2714) (by omega) (by omega) ?_
                  subst hQM
                  exact W.zret (v := 0) hx hb hr rfl (fun t ht hW => ⟨⟨_, (r__12, ad_51, o_52, ()), rfl, ⟨false, rfl, ⟨hw, had_51⟩⟩, ⟨P_at ht hP, hD⟩⟩, hS.F ht⟩) hS.2.2 dL_isLookedUp_341
                · have hw := hw.1 c_53
                  refine lv_iconst (v := 1) hx hb dL_isLookedUp_336 (by decide) ?_
                  refine lv_goto (tgt := 341) hx hb dL_isLookedUp_337 (by decide) ?_
                  refine W.widen (k := 420) (n := 2714) (by omega) (by omega) ?_
                  subst hQM
                  exact W.zret (v := 1) hx hb hr rfl (fun t ht hW => ⟨⟨_, (r__12, ad_51, o_52, ()), rfl, ⟨true, rfl, ⟨hw, had_51⟩⟩, ⟨P_at ht hP, hD⟩⟩, hS.F ht⟩) hS.2.2 dL_isLookedUp_341
      have LOOP131 : ∀ (n131 : Nat), n131 ≤ 101 → ∀ (v11_19 : Int32) (v10_20 : Int32) (v6_21 : Int32) (v8_22 : Int32) (v9_23 : Int32) (o_24 : OS) (v7_25 : Int32) (ad_26 : Nat → Nat) (had_26 : ad_26 0 = t_p_) (H : Heap) (locs : List Loc), wl_L_isLookedUp_131 n_5 q_6 sk0_9 x_14 (wx_L_isLookedUp_131_270 tape Q sk0_9 r__12 x_14) n131 v11_19 v10_20 v6_21 v8_22 v9_23 o_24 v7_25 → va_P (dC, dI) vwCl ([(a_r_, .inl (g 0, n_r_, .inl r__12)), (a_q_4, .inl (g 0, n_5, .inl q_6))] ++ (offS ad_26 tp_p_ hd_p_ tf_p_ cf_p_ g o_24)) H → va_D A ([(a_r_, .inl (g 0, n_r_, .inl r__12)), (a_q_4, .inl (g 0, n_5, .inl q_6))] ++ (offS ad_26 tp_p_ hd_p_ tf_p_ cf_p_ g o_24)) → va_S A s.heap H locs → ∀ (ls : Array Slot), lv_has ls 13 [(0, .ref t_p_), (2, .int tape), (3, .ref a_q_4), (4, .int sk0_9), (5, .int x_14), (6, .int v6_21), (7, .int v7_25), (8, .int v8_22), (9, .int v9_23), (10, .int v10_20), (11, .int v11_19)] → W p l e (headSpec wqL_isLookedUp ({ frames := 10, cells := 420, slots := 2714, locals := 174 })).room s m ([.ref t_p_, .ref a_r_, .int tape] : List Value).toArray below meth c H locs (408 - n131 * 2) (2642 - n131 * 12) QM (F0 m 131 ls []) := by
        intro n131
        induction n131 with
        | zero =>
          intro hle_n131
          intro v11_19 v10_20 v6_21 v8_22 v9_23 o_24 v7_25 ad_26 had_26 H locs hw hP hD hS ls hl
          exact False.elim hw
        | succ n131 ih131 =>
          intro hle_n131
          have ih131 := ih131 (by omega)
          intro v11_19 v10_20 v6_21 v8_22 v9_23 o_24 v7_25 ad_26 had_26 H locs hw hP hD hS ls hl
          rw [wl_L_isLookedUp_131_s] at hw
          obtain ⟨kb131, hkb131⟩ : ∃ x : Nat, x = 408 - (n131 + 1) * 2 := ⟨_, rfl⟩
          obtain ⟨nb131, hnb131⟩ : ∃ x : Nat, x = 2642 - (n131 + 1) * 12 := ⟨_, rfl⟩
          refine W.widen (k := kb131) (n := nb131) (by omega) (by omega) ?_
          refine lv_iload hx hb dL_isLookedUp_131 (lv_at hl 10 rfl) ?_
          refine lv_aload_n hx hb dL_isLookedUp_133 rfl (lv_at hl 2 rfl) ?_
          refine va_alen hx hb hK hP 1 0 rfl rfl (v := nI n_5) rfl dL_isLookedUp_134 ?_
          refine lv_icmp_ge (tgt := 270) hx hb dL_isLookedUp_135 (by decide) (fun c_54 => ?_) (fun c_54 => ?_)
          · have hw := hw.1 c_54
            obtain ⟨hP, hD⟩ := seg_sub (segs := [[(a_r_, .inl (g 0, n_r_, .inl r__12))], [(a_q_4, .inl (g 0, n_5, .inl q_6))], offS ad_26 tp_p_ hd_p_ tf_p_ cf_p_ g o_24]) [[(a_r_, .inl (g 0, n_r_, .inl r__12))], offS ad_26 tp_p_ hd_p_ tf_p_ cf_p_ g o_24] [[(a_q_4, .inl (g 0, n_5, .inl q_6))]] 3 [0, 2, 1] rfl rfl (by decide) hP hD
            refine W.widen (k := 408) (n := 2642) (by omega) (by omega) ?_
            exact EX131_270 v10_20 v6_21 v8_22 v9_23 o_24 v7_25 ad_26 had_26 _ _ hw hP hD hS _ (lv_sub hl [0, 1, 3, 4, 5, 6, 7, 8, 9] rfl)
          · have hw := hw.2 c_54
            refine lv_aload_n hx hb dL_isLookedUp_138 rfl (lv_at hl 0 rfl) ?_
            refine lv_aload_n hx hb dL_isLookedUp_139 rfl (lv_at hl 2 rfl) ?_
            refine lv_iload hx hb dL_isLookedUp_140 (lv_at hl 10 rfl) ?_
            refine va_iald hx hb hK hP 1 0 rfl rfl hw.1 dL_isLookedUp_142 ?_
            have hw := hw.2
            refine lv_topi (fun x_55 ex_55 => ?_)
            have hw := hw x_55 ex_55
            obtain ⟨hPs, hDs⟩ := seg_call (segs := [[(a_r_, .inl (g 0, n_r_, .inl r__12))], [(a_q_4, .inl (g 0, n_5, .inl q_6))], offS ad_26 tp_p_ hd_p_ tf_p_ cf_p_ g o_24]) [[(a_r_, .inl (g 0, n_r_, .inl r__12))], [(a_q_4, .inl (g 0, n_5, .inl q_6))]] [offS ad_26 tp_p_ hd_p_ tf_p_ cf_p_ g o_24] 3 [0, 1, 2] rfl rfl (by decide) hP hD
            have hPc : va_P (dC, dI) vwCl (offS ad_26 tp_p_ hd_p_ tf_p_ cf_p_ g o_24) H := P_r hPs
            have hDc : va_D A (offS ad_26 tp_p_ hd_p_ tf_p_ cf_p_ g o_24) := D_r hDs
            have hFc : ∀ q, va_A (offS ad_26 tp_p_ hd_p_ tf_p_ cf_p_ g o_24) H.size q → A q := A_all hDc hA hS.1
            refine vx_calli (vx_runV (As := [.int x_55]) (rest := []) ⟨hx, hb, hml, hown, hts⟩ (p_key l hlf dC dI g tp_p_ hd_p_ tf_p_ cf_p_ htf_p_ hcf_p_ ad_26 t_p_ had_26 o_24 x_55 (hw := hw) (sz := H.size)) (cwV 1 hts (gqV aw_4_21 aw_4_22 aw_4_23 aw_1_1 aw_4_24) rfl rfl rfl (by decide +kernel) ⟨Nat.le_of_ble_eq_true rfl, Nat.le_of_ble_eq_true rfl⟩) ⟨PG_blind, off_recv had_26 hK hPc, PG_call hK hG hS hPc hDc hFc⟩ rfl rfl hl.1 rfl (lv_room (Nat.le_of_ble_eq_true rfl)) dL_isLookedUp_143 ⟨by rw [hrc]; omega, by rw [hrs]; omega⟩) hS (fun q _ h => hFc q h) hFc (fun q _ h => hFc q h) (fun E ce q9 ux t H1 locs1 ht hvm hp9 hB9 hz hk hS9 hce hcv hcl => ?_) (fun r_56 u_56 t_56 H_56 L_56 ht_56 hvm_56 hw_56 hB_56 hz_56 hk_56 hS => ?_)
            · exact (hB9.1.1).elim
            obtain ⟨ad_57, o_58⟩ := u_56
            obtain ⟨hw, had_57⟩ := hw_56
            rw [ht_56] at hB_56
            obtain ⟨hP1, hD1⟩ := hB_56
            obtain ⟨hP, hD⟩ := join_r hPs hDs hk_56 hFc hP1 hD1
            obtain ⟨hP, hD⟩ := seg_join [[(a_r_, .inl (g 0, n_r_, .inl r__12))], [(a_q_4, .inl (g 0, n_5, .inl q_6))]] [offS ad_57 tp_p_ hd_p_ tf_p_ cf_p_ g o_58] [[(a_r_, .inl (g 0, n_r_, .inl r__12))], [(a_q_4, .inl (g 0, n_5, .inl q_6))], offS ad_57 tp_p_ hd_p_ tf_p_ cf_p_ g o_58] 3 [0, 1, 2] rfl rfl (by decide) hP hD
            have hP : va_P (dC, dI) vwCl ([(a_r_, .inl (g 0, n_r_, .inl r__12)), (a_q_4, .inl (g 0, n_5, .inl q_6))] ++ (offS ad_57 tp_p_ hd_p_ tf_p_ cf_p_ g o_58)) H_56 := hP
            have hD : va_D A ([(a_r_, .inl (g 0, n_r_, .inl r__12)), (a_q_4, .inl (g 0, n_5, .inl q_6))] ++ (offS ad_57 tp_p_ hd_p_ tf_p_ cf_p_ g o_58)) := hD
            refine W.widen (k := (kb131 + 1)) (n := (nb131 + 6)) (by omega) (by omega) ?_
            refine lv_istore (lv' := [(12, .int r_56), (0, .ref t_p_), (2, .int tape), (3, .ref a_q_4), (4, .int sk0_9), (5, .int x_14), (6, .int v6_21), (7, .int v7_25), (8, .int v8_22), (9, .int v9_23), (10, .int v10_20), (11, .int v11_19)]) hx hb dL_isLookedUp_146 hl (by decide) rfl (fun ls hl => ?_)
            refine lv_iload hx hb dL_isLookedUp_148 (lv_at hl 6 rfl) ?_
            refine lv_iconst (v := (-1)) hx hb dL_isLookedUp_150 (by decide) ?_
            have JN168 : ∀ (sk0_59 : Int32) (H : Heap) (locs : List Loc), (wj_L_isLookedUp_168 n_5 q_6 sk0_9 x_14 v11_19 v10_20 v8_22 v9_23 v7_25 (wl_L_isLookedUp_131 n_5 q_6 sk0_9 x_14 (wx_L_isLookedUp_131_270 tape Q sk0_9 r__12 x_14) n131) o_58 r_56) sk0_59 → va_P (dC, dI) vwCl ([(a_r_, .inl (g 0, n_r_, .inl r__12)), (a_q_4, .inl (g 0, n_5, .inl q_6))] ++ (offS ad_57 tp_p_ hd_p_ tf_p_ cf_p_ g o_58)) H → va_D A ([(a_r_, .inl (g 0, n_r_, .inl r__12)), (a_q_4, .inl (g 0, n_5, .inl q_6))] ++ (offS ad_57 tp_p_ hd_p_ tf_p_ cf_p_ g o_58)) → va_S A s.heap H locs → ∀ (ls : Array Slot), lv_has ls 13 [(0, .ref t_p_), (2, .int tape), (3, .ref a_q_4), (4, .int sk0_9), (5, .int x_14), (7, .int v7_25), (8, .int v8_22), (9, .int v9_23), (10, .int v10_20), (11, .int v11_19), (12, .int r_56)] → W p l e (headSpec wqL_isLookedUp ({ frames := 10, cells := 420, slots := 2714, locals := 174 })).room s m ([.ref t_p_, .ref a_r_, .int tape] : List Value).toArray below meth c H locs (kb131 + 1) (nb131 + 6) QM (F0 m 168 ls [.int sk0_59]) := by
              intro sk0_59 H locs hw hP hD hS ls hl
              refine lv_istore (lv' := [(6, .int sk0_59), (0, .ref t_p_), (2, .int tape), (3, .ref a_q_4), (4, .int sk0_9), (5, .int x_14), (7, .int v7_25), (8, .int v8_22), (9, .int v9_23), (10, .int v10_20), (11, .int v11_19), (12, .int r_56)]) hx hb dL_isLookedUp_168 hl (by decide) rfl (fun ls hl => ?_)
              refine lv_iload hx hb dL_isLookedUp_170 (lv_at hl 11 rfl) ?_
              refine lv_iload hx hb dL_isLookedUp_172 (lv_at hl 4 rfl) ?_
              have JN184 : ∀ (sk0_60 : Int32) (H : Heap) (locs : List Loc), (wj_L_isLookedUp_184 n_5 q_6 sk0_9 x_14 v11_19 v10_20 v8_22 v9_23 (wl_L_isLookedUp_131 n_5 q_6 sk0_9 x_14 (wx_L_isLookedUp_131_270 tape Q sk0_9 r__12 x_14) n131) o_58 r_56 sk0_59) sk0_60 → va_P (dC, dI) vwCl ([(a_r_, .inl (g 0, n_r_, .inl r__12)), (a_q_4, .inl (g 0, n_5, .inl q_6))] ++ (offS ad_57 tp_p_ hd_p_ tf_p_ cf_p_ g o_58)) H → va_D A ([(a_r_, .inl (g 0, n_r_, .inl r__12)), (a_q_4, .inl (g 0, n_5, .inl q_6))] ++ (offS ad_57 tp_p_ hd_p_ tf_p_ cf_p_ g o_58)) → va_S A s.heap H locs → ∀ (ls : Array Slot), lv_has ls 13 [(0, .ref t_p_), (2, .int tape), (3, .ref a_q_4), (4, .int sk0_9), (5, .int x_14), (6, .int sk0_59), (8, .int v8_22), (9, .int v9_23), (10, .int v10_20), (11, .int v11_19), (12, .int r_56)] → W p l e (headSpec wqL_isLookedUp ({ frames := 10, cells := 420, slots := 2714, locals := 174 })).room s m ([.ref t_p_, .ref a_r_, .int tape] : List Value).toArray below meth c H locs (kb131 + 1) (nb131 + 6) QM (F0 m 184 ls [.int sk0_60]) := by
                intro sk0_60 H locs hw hP hD hS ls hl
                refine lv_istore (lv' := [(7, .int sk0_60), (0, .ref t_p_), (2, .int tape), (3, .ref a_q_4), (4, .int sk0_9), (5, .int x_14), (6, .int sk0_59), (8, .int v8_22), (9, .int v9_23), (10, .int v10_20), (11, .int v11_19), (12, .int r_56)]) hx hb dL_isLookedUp_184 hl (by decide) rfl (fun ls hl => ?_)
                refine lv_iload hx hb dL_isLookedUp_186 (lv_at hl 11 rfl) ?_
                refine lv_iload hx hb dL_isLookedUp_188 (lv_at hl 4 rfl) ?_
                have JN208 : ∀ (sk0_61 : Int32) (H : Heap) (locs : List Loc), (wj_L_isLookedUp_208 n_5 q_6 sk0_9 x_14 v11_19 v10_20 v9_23 (wl_L_isLookedUp_131 n_5 q_6 sk0_9 x_14 (wx_L_isLookedUp_131_270 tape Q sk0_9 r__12 x_14) n131) o_58 r_56 sk0_59 sk0_60) sk0_61 → va_P (dC, dI) vwCl ([(a_r_, .inl (g 0, n_r_, .inl r__12)), (a_q_4, .inl (g 0, n_5, .inl q_6))] ++ (offS ad_57 tp_p_ hd_p_ tf_p_ cf_p_ g o_58)) H → va_D A ([(a_r_, .inl (g 0, n_r_, .inl r__12)), (a_q_4, .inl (g 0, n_5, .inl q_6))] ++ (offS ad_57 tp_p_ hd_p_ tf_p_ cf_p_ g o_58)) → va_S A s.heap H locs → ∀ (ls : Array Slot), lv_has ls 13 [(0, .ref t_p_), (2, .int tape), (3, .ref a_q_4), (4, .int sk0_9), (5, .int x_14), (6, .int sk0_59), (7, .int sk0_60), (9, .int v9_23), (10, .int v10_20), (11, .int v11_19), (12, .int r_56)] → W p l e (headSpec wqL_isLookedUp ({ frames := 10, cells := 420, slots := 2714, locals := 174 })).room s m ([.ref t_p_, .ref a_r_, .int tape] : List Value).toArray below meth c H locs (kb131 + 1) (nb131 + 6) QM (F0 m 208 ls [.int sk0_61]) := by
                  intro sk0_61 H locs hw hP hD hS ls hl
                  refine lv_istore (lv' := [(8, .int sk0_61), (0, .ref t_p_), (2, .int tape), (3, .ref a_q_4), (4, .int sk0_9), (5, .int x_14), (6, .int sk0_59), (7, .int sk0_60), (9, .int v9_23), (10, .int v10_20), (11, .int v11_19), (12, .int r_56)]) hx hb dL_isLookedUp_208 hl (by decide) rfl (fun ls hl => ?_)
                  refine lv_iload hx hb dL_isLookedUp_210 (lv_at hl 8 rfl) ?_
                  refine lv_iload hx hb dL_isLookedUp_212 (lv_at hl 11 rfl) ?_
                  refine lv_iload hx hb dL_isLookedUp_214 (lv_at hl 4 rfl) ?_
                  have JN231 : ∀ (sk0_62 : Bool) (H : Heap) (locs : List Loc), (wj_L_isLookedUp_231 n_5 q_6 v11_19 v10_20 v9_23 (wl_L_isLookedUp_131 n_5 q_6 sk0_9 x_14 (wx_L_isLookedUp_131_270 tape Q sk0_9 r__12 x_14) n131) o_58 r_56 sk0_59 sk0_60 sk0_61) sk0_62 → va_P (dC, dI) vwCl ([(a_r_, .inl (g 0, n_r_, .inl r__12)), (a_q_4, .inl (g 0, n_5, .inl q_6))] ++ (offS ad_57 tp_p_ hd_p_ tf_p_ cf_p_ g o_58)) H → va_D A ([(a_r_, .inl (g 0, n_r_, .inl r__12)), (a_q_4, .inl (g 0, n_5, .inl q_6))] ++ (offS ad_57 tp_p_ hd_p_ tf_p_ cf_p_ g o_58)) → va_S A s.heap H locs → ∀ (ls : Array Slot), lv_has ls 13 [(0, .ref t_p_), (2, .int tape), (3, .ref a_q_4), (4, .int sk0_9), (5, .int x_14), (6, .int sk0_59), (7, .int sk0_60), (8, .int sk0_61), (10, .int v10_20), (11, .int v11_19), (12, .int r_56)] → W p l e (headSpec wqL_isLookedUp ({ frames := 10, cells := 420, slots := 2714, locals := 174 })).room s m ([.ref t_p_, .ref a_r_, .int tape] : List Value).toArray below meth c H locs (kb131 + 1) (nb131 + 6) QM (F0 m 231 ls [.int (b2i sk0_62), .int v9_23]) := by
                    intro sk0_62 H locs hw hP hD hS ls hl
                    refine lv_iadd hx hb dL_isLookedUp_231 ?_
                    refine lv_topi (fun x_63 ex_63 => ?_)
                    have hw := hw x_63 ex_63
                    refine lv_istore (lv' := [(9, .int x_63), (0, .ref t_p_), (2, .int tape), (3, .ref a_q_4), (4, .int sk0_9), (5, .int x_14), (6, .int sk0_59), (7, .int sk0_60), (8, .int sk0_61), (10, .int v10_20), (11, .int v11_19), (12, .int r_56)]) hx hb dL_isLookedUp_232 hl (by decide) rfl (fun ls hl => ?_)
                    refine lv_iload hx hb dL_isLookedUp_234 (lv_at hl 9 rfl) ?_
                    refine lv_iload hx hb dL_isLookedUp_236 (lv_at hl 10 rfl) ?_
                    have JN256 : ∀ (o_64 : OS) (ad_65 : Nat → Nat) (had_65 : ad_65 0 = t_p_) (H : Heap) (locs : List Loc), (wj_L_isLookedUp_256 v11_19 v10_20 (wl_L_isLookedUp_131 n_5 q_6 sk0_9 x_14 (wx_L_isLookedUp_131_270 tape Q sk0_9 r__12 x_14) n131) sk0_59 sk0_60 sk0_61 x_63) o_64 → va_P (dC, dI) vwCl ([(a_r_, .inl (g 0, n_r_, .inl r__12)), (a_q_4, .inl (g 0, n_5, .inl q_6))] ++ (offS ad_65 tp_p_ hd_p_ tf_p_ cf_p_ g o_64)) H → va_D A ([(a_r_, .inl (g 0, n_r_, .inl r__12)), (a_q_4, .inl (g 0, n_5, .inl q_6))] ++ (offS ad_65 tp_p_ hd_p_ tf_p_ cf_p_ g o_64)) → va_S A s.heap H locs → ∀ (ls : Array Slot), lv_has ls 13 [(0, .ref t_p_), (2, .int tape), (3, .ref a_q_4), (4, .int sk0_9), (5, .int x_14), (6, .int sk0_59), (7, .int sk0_60), (8, .int sk0_61), (9, .int x_63), (11, .int v11_19)] → W p l e (headSpec wqL_isLookedUp ({ frames := 10, cells := 420, slots := 2714, locals := 174 })).room s m ([.ref t_p_, .ref a_r_, .int tape] : List Value).toArray below meth c H locs (kb131 + 2) (nb131 + 12) QM (F0 m 256 ls [.int v10_20]) := by
                      intro o_64 ad_65 had_65 H locs hw hP hD hS ls hl
                      refine lv_iconst (v := 1) hx hb dL_isLookedUp_256 (by decide) ?_
                      refine lv_goto (tgt := 261) hx hb dL_isLookedUp_257 (by decide) ?_
                      refine lv_iadd hx hb dL_isLookedUp_261 ?_
                      refine lv_topi (fun x_66 ex_66 => ?_)
                      have hw := hw x_66 ex_66
                      refine lv_istore (lv' := [(10, .int x_66), (0, .ref t_p_), (2, .int tape), (3, .ref a_q_4), (4, .int sk0_9), (5, .int x_14), (6, .int sk0_59), (7, .int sk0_60), (8, .int sk0_61), (9, .int x_63), (11, .int v11_19)]) hx hb dL_isLookedUp_262 hl (by decide) rfl (fun ls hl => ?_)
                      obtain ⟨x_67, ex_67⟩ : ∃ y : Int32, y = v11_19 + 1 := ⟨_, rfl⟩
                      have hw := hw x_67 ex_67
                      refine lv_iinc (v := x_67) (lv' := [(11, .int x_67), (10, .int x_66), (0, .ref t_p_), (2, .int tape), (3, .ref a_q_4), (4, .int sk0_9), (5, .int x_14), (6, .int sk0_59), (7, .int sk0_60), (8, .int sk0_61), (9, .int x_63)]) hx hb dL_isLookedUp_264 hl (k := 10) rfl (by rw [ex_67]; rfl) (by decide) rfl (fun ls hl => ?_)
                      refine lv_goto (tgt := 131) hx hb dL_isLookedUp_267 (by decide) ?_
                      refine W.widen (k := (408 - n131 * 2)) (n := (2642 - n131 * 12)) (by omega) (by omega) ?_
                      exact ih131 x_67 x_66 sk0_59 sk0_61 x_63 o_64 sk0_60 ad_65 had_65 _ _ hw hP hD hS _ (lv_sub hl [2, 3, 4, 5, 6, 7, 8, 9, 10, 1, 0] rfl)
                    refine lv_if_eq (tgt := 256) hx hb dL_isLookedUp_238 (by decide) (fun c_68 => ?_) (fun c_68 => ?_)
                    · have hw := hw.1 c_68
                      refine W.widen (k := (kb131 + 2)) (n := (nb131 + 12)) (by omega) (by omega) ?_
                      exact JN256 o_58 ad_57 had_57 _ _ hw hP hD hS _ (lv_sub hl [1, 2, 3, 4, 5, 6, 7, 8, 0, 10] rfl)
                    · have hw := hw.2 c_68
                      refine lv_iload hx hb dL_isLookedUp_241 (lv_at hl 11 rfl) ?_
                      refine lv_aload_n hx hb dL_isLookedUp_243 rfl (lv_at hl 1 rfl) ?_
                      refine lv_aload_n hx hb dL_isLookedUp_244 rfl (lv_at hl 3 rfl) ?_
                      refine lv_iload hx hb dL_isLookedUp_245 (lv_at hl 10 rfl) ?_
                      refine lv_iconst (v := 1) hx hb dL_isLookedUp_247 (by decide) ?_
                      refine lv_isub hx hb dL_isLookedUp_248 ?_
                      refine lv_topi (fun x_69 ex_69 => ?_)
                      have hw := hw x_69 ex_69
                      refine va_iald hx hb hK hP 1 0 rfl rfl hw.1 dL_isLookedUp_249 ?_
                      have hw := hw.2
                      refine lv_topi (fun x_70 ex_70 => ?_)
                      have hw := hw x_70 ex_70
                      obtain ⟨hPs, hDs⟩ := seg_call (segs := [[(a_r_, .inl (g 0, n_r_, .inl r__12))], [(a_q_4, .inl (g 0, n_5, .inl q_6))], offS ad_57 tp_p_ hd_p_ tf_p_ cf_p_ g o_58]) [[(a_r_, .inl (g 0, n_r_, .inl r__12))], [(a_q_4, .inl (g 0, n_5, .inl q_6))]] [offS ad_57 tp_p_ hd_p_ tf_p_ cf_p_ g o_58] 3 [0, 1, 2] rfl rfl (by decide) hP hD
                      have hPc : va_P (dC, dI) vwCl (offS ad_57 tp_p_ hd_p_ tf_p_ cf_p_ g o_58) H := P_r hPs
                      have hDc : va_D A (offS ad_57 tp_p_ hd_p_ tf_p_ cf_p_ g o_58) := D_r hDs
                      have hFc : ∀ q, va_A (offS ad_57 tp_p_ hd_p_ tf_p_ cf_p_ g o_58) H.size q → A q := A_all hDc hA hS.1
                      refine vx_calli (vx_runV (As := [.int x_70]) (rest := [.int r_56, .int v10_20]) ⟨hx, hb, hml, hown, hts⟩ (p_key l hlf dC dI g tp_p_ hd_p_ tf_p_ cf_p_ htf_p_ hcf_p_ ad_57 t_p_ had_57 o_58 x_70 (hw := hw) (sz := H.size)) (cwV 1 hts (gqV aw_4_21 aw_4_22 aw_4_23 aw_1_1 aw_4_24) rfl rfl rfl (by decide +kernel) ⟨Nat.le_of_ble_eq_true rfl, Nat.le_of_ble_eq_true rfl⟩) ⟨PG_blind, off_recv had_57 hK hPc, PG_call hK hG hS hPc hDc hFc⟩ rfl rfl hl.1 rfl (lv_room (Nat.le_of_ble_eq_true rfl)) dL_isLookedUp_250 ⟨by rw [hrc]; omega, by rw [hrs]; omega⟩) hS (fun q _ h => hFc q h) hFc (fun q _ h => hFc q h) (fun E ce q9 ux t H1 locs1 ht hvm hp9 hB9 hz hk hS9 hce hcv hcl => ?_) (fun r_71 u_71 t_71 H_71 L_71 ht_71 hvm_71 hw_71 hB_71 hz_71 hk_71 hS => ?_)
                      · exact (hB9.1.1).elim
                      obtain ⟨ad_72, o_73⟩ := u_71
                      obtain ⟨hw, had_72⟩ := hw_71
                      rw [ht_71] at hB_71
                      obtain ⟨hP1, hD1⟩ := hB_71
                      obtain ⟨hP, hD⟩ := join_r hPs hDs hk_71 hFc hP1 hD1
                      obtain ⟨hP, hD⟩ := seg_join [[(a_r_, .inl (g 0, n_r_, .inl r__12))], [(a_q_4, .inl (g 0, n_5, .inl q_6))]] [offS ad_72 tp_p_ hd_p_ tf_p_ cf_p_ g o_73] [[(a_r_, .inl (g 0, n_r_, .inl r__12))], [(a_q_4, .inl (g 0, n_5, .inl q_6))], offS ad_72 tp_p_ hd_p_ tf_p_ cf_p_ g o_73] 3 [0, 1, 2] rfl rfl (by decide) hP hD
                      have hP : va_P (dC, dI) vwCl ([(a_r_, .inl (g 0, n_r_, .inl r__12)), (a_q_4, .inl (g 0, n_5, .inl q_6))] ++ (offS ad_72 tp_p_ hd_p_ tf_p_ cf_p_ g o_73)) H_71 := hP
                      have hD : va_D A ([(a_r_, .inl (g 0, n_r_, .inl r__12)), (a_q_4, .inl (g 0, n_5, .inl q_6))] ++ (offS ad_72 tp_p_ hd_p_ tf_p_ cf_p_ g o_73)) := hD
                      refine W.widen (k := (kb131 + 2)) (n := (nb131 + 12)) (by omega) (by omega) ?_
                      refine lv_icmp_eq (tgt := 260) hx hb dL_isLookedUp_253 (by decide) (fun c_74 => ?_) (fun c_74 => ?_)
                      · have hw := hw.1 c_74
                        refine lv_iconst (v := 0) hx hb dL_isLookedUp_260 (by decide) ?_
                        refine lv_iadd hx hb dL_isLookedUp_261 ?_
                        refine lv_topi (fun x_75 ex_75 => ?_)
                        have hw := hw x_75 ex_75
                        refine lv_istore (lv' := [(10, .int x_75), (9, .int x_63), (0, .ref t_p_), (2, .int tape), (3, .ref a_q_4), (4, .int sk0_9), (5, .int x_14), (6, .int sk0_59), (7, .int sk0_60), (8, .int sk0_61), (11, .int v11_19), (12, .int r_56)]) hx hb dL_isLookedUp_262 hl (by decide) rfl (fun ls hl => ?_)
                        obtain ⟨x_76, ex_76⟩ : ∃ y : Int32, y = v11_19 + 1 := ⟨_, rfl⟩
                        have hw := hw x_76 ex_76
                        refine lv_iinc (v := x_76) (lv' := [(11, .int x_76), (10, .int x_75), (9, .int x_63), (0, .ref t_p_), (2, .int tape), (3, .ref a_q_4), (4, .int sk0_9), (5, .int x_14), (6, .int sk0_59), (7, .int sk0_60), (8, .int sk0_61), (12, .int r_56)]) hx hb dL_isLookedUp_264 hl (k := 10) rfl (by rw [ex_76]; rfl) (by decide) rfl (fun ls hl => ?_)
                        refine lv_goto (tgt := 131) hx hb dL_isLookedUp_267 (by decide) ?_
                        refine W.widen (k := (408 - n131 * 2)) (n := (2642 - n131 * 12)) (by omega) (by omega) ?_
                        exact ih131 x_76 x_75 sk0_59 sk0_61 x_63 o_73 sk0_60 ad_72 had_72 _ _ hw hP hD hS _ (lv_sub hl [3, 4, 5, 6, 7, 8, 9, 10, 2, 1, 0] rfl)
                      · have hw := hw.2 c_74
                        refine W.widen (k := (kb131 + 2)) (n := (nb131 + 12)) (by omega) (by omega) ?_
                        exact JN256 o_73 ad_72 had_72 _ _ hw hP hD hS _ (lv_sub hl [1, 2, 3, 4, 5, 6, 7, 8, 0, 10] rfl)
                  have JN230 : ∀  (H : Heap) (locs : List Loc), (wj_L_isLookedUp_230 n_5 q_6 v11_19 v10_20 v9_23 (wl_L_isLookedUp_131 n_5 q_6 sk0_9 x_14 (wx_L_isLookedUp_131_270 tape Q sk0_9 r__12 x_14) n131) o_58 r_56 sk0_59 sk0_60 sk0_61)  → va_P (dC, dI) vwCl ([(a_r_, .inl (g 0, n_r_, .inl r__12)), (a_q_4, .inl (g 0, n_5, .inl q_6))] ++ (offS ad_57 tp_p_ hd_p_ tf_p_ cf_p_ g o_58)) H → va_D A ([(a_r_, .inl (g 0, n_r_, .inl r__12)), (a_q_4, .inl (g 0, n_5, .inl q_6))] ++ (offS ad_57 tp_p_ hd_p_ tf_p_ cf_p_ g o_58)) → va_S A s.heap H locs → ∀ (ls : Array Slot), lv_has ls 13 [(0, .ref t_p_), (2, .int tape), (3, .ref a_q_4), (4, .int sk0_9), (5, .int x_14), (6, .int sk0_59), (7, .int sk0_60), (8, .int sk0_61), (10, .int v10_20), (11, .int v11_19), (12, .int r_56)] → W p l e (headSpec wqL_isLookedUp ({ frames := 10, cells := 420, slots := 2714, locals := 174 })).room s m ([.ref t_p_, .ref a_r_, .int tape] : List Value).toArray below meth c H locs (kb131 + 1) (nb131 + 6) QM (F0 m 230 ls [.int v9_23]) := by
                    intro  H locs hw hP hD hS ls hl
                    refine lv_iconst (v := 0) hx hb dL_isLookedUp_230 (by decide) ?_
                    refine W.widen (k := (kb131 + 1)) (n := (nb131 + 6)) (by omega) (by omega) ?_
                    exact JN231 false _ _ hw hP hD hS _ (lv_sub hl [0, 1, 2, 3, 4, 5, 6, 7, 8, 9, 10] rfl)
                  refine lv_icmp_lt (tgt := 230) hx hb dL_isLookedUp_216 (by decide) (fun c_77 => ?_) (fun c_77 => ?_)
                  · have hw := hw.1 c_77
                    refine W.widen (k := (kb131 + 1)) (n := (nb131 + 6)) (by omega) (by omega) ?_
                    exact JN230  _ _ hw hP hD hS _ (lv_sub hl [1, 2, 3, 4, 5, 6, 7, 0, 9, 10, 11] rfl)
                  · have hw := hw.2 c_77
                    refine lv_iload hx hb dL_isLookedUp_219 (lv_at hl 11 rfl) ?_
                    refine lv_iload hx hb dL_isLookedUp_221 (lv_at hl 5 rfl) ?_
                    refine lv_icmp_gt (tgt := 230) hx hb dL_isLookedUp_223 (by decide) (fun c_78 => ?_) (fun c_78 => ?_)
                    · have hw := hw.1 c_78
                      refine W.widen (k := (kb131 + 1)) (n := (nb131 + 6)) (by omega) (by omega) ?_
                      exact JN230  _ _ hw hP hD hS _ (lv_sub hl [1, 2, 3, 4, 5, 6, 7, 0, 9, 10, 11] rfl)
                    · have hw := hw.2 c_78
                      refine lv_iconst (v := 1) hx hb dL_isLookedUp_226 (by decide) ?_
                      refine lv_goto (tgt := 231) hx hb dL_isLookedUp_227 (by decide) ?_
                      refine W.widen (k := (kb131 + 1)) (n := (nb131 + 6)) (by omega) (by omega) ?_
                      exact JN231 true _ _ hw hP hD hS _ (lv_sub hl [1, 2, 3, 4, 5, 6, 7, 0, 9, 10, 11] rfl)
                have JN206 : ∀  (H : Heap) (locs : List Loc), (wj_L_isLookedUp_206 n_5 q_6 sk0_9 x_14 v11_19 v10_20 v8_22 v9_23 (wl_L_isLookedUp_131 n_5 q_6 sk0_9 x_14 (wx_L_isLookedUp_131_270 tape Q sk0_9 r__12 x_14) n131) o_58 r_56 sk0_59 sk0_60)  → va_P (dC, dI) vwCl ([(a_r_, .inl (g 0, n_r_, .inl r__12)), (a_q_4, .inl (g 0, n_5, .inl q_6))] ++ (offS ad_57 tp_p_ hd_p_ tf_p_ cf_p_ g o_58)) H → va_D A ([(a_r_, .inl (g 0, n_r_, .inl r__12)), (a_q_4, .inl (g 0, n_5, .inl q_6))] ++ (offS ad_57 tp_p_ hd_p_ tf_p_ cf_p_ g o_58)) → va_S A s.heap H locs → ∀ (ls : Array Slot), lv_has ls 13 [(0, .ref t_p_), (2, .int tape), (3, .ref a_q_4), (4, .int sk0_9), (5, .int x_14), (6, .int sk0_59), (7, .int sk0_60), (8, .int v8_22), (9, .int v9_23), (10, .int v10_20), (11, .int v11_19), (12, .int r_56)] → W p l e (headSpec wqL_isLookedUp ({ frames := 10, cells := 420, slots := 2714, locals := 174 })).room s m ([.ref t_p_, .ref a_r_, .int tape] : List Value).toArray below meth c H locs (kb131 + 1) (nb131 + 6) QM (F0 m 206 ls []) := by
                  intro  H locs hw hP hD hS ls hl
                  refine lv_iload hx hb dL_isLookedUp_206 (lv_at hl 7 rfl) ?_
                  refine W.widen (k := (kb131 + 1)) (n := (nb131 + 6)) (by omega) (by omega) ?_
                  exact JN208 v8_22 _ _ hw hP hD hS _ (lv_sub hl [0, 1, 2, 3, 4, 5, 6, 8, 9, 10, 11] rfl)
                refine lv_icmp_lt (tgt := 206) hx hb dL_isLookedUp_190 (by decide) (fun c_79 => ?_) (fun c_79 => ?_)
                · have hw := hw.1 c_79
                  refine W.widen (k := (kb131 + 1)) (n := (nb131 + 6)) (by omega) (by omega) ?_
                  exact JN206  _ _ hw hP hD hS _ (lv_sub hl [1, 2, 3, 4, 5, 6, 0, 7, 8, 9, 10, 11] rfl)
                · have hw := hw.2 c_79
                  refine lv_iload hx hb dL_isLookedUp_193 (lv_at hl 7 rfl) ?_
                  refine lv_sipush (v := (-20002)) hx hb dL_isLookedUp_195 (by decide) ?_
                  refine lv_icmp_ne (tgt := 206) hx hb dL_isLookedUp_198 (by decide) (fun c_80 => ?_) (fun c_80 => ?_)
                  · have hw := hw.2 c_80
                    refine W.widen (k := (kb131 + 1)) (n := (nb131 + 6)) (by omega) (by omega) ?_
                    exact JN206  _ _ hw hP hD hS _ (lv_sub hl [1, 2, 3, 4, 5, 6, 0, 7, 8, 9, 10, 11] rfl)
                  · have hw := hw.1 c_80
                    refine lv_iload hx hb dL_isLookedUp_201 (lv_at hl 11 rfl) ?_
                    refine lv_goto (tgt := 208) hx hb dL_isLookedUp_203 (by decide) ?_
                    refine W.widen (k := (kb131 + 1)) (n := (nb131 + 6)) (by omega) (by omega) ?_
                    exact JN208 r_56 _ _ hw hP hD hS _ (lv_sub hl [1, 2, 3, 4, 5, 6, 0, 8, 9, 10, 11] rfl)
              refine lv_icmp_gt (tgt := 182) hx hb dL_isLookedUp_174 (by decide) (fun c_81 => ?_) (fun c_81 => ?_)
              · have hw := hw.1 c_81
                refine lv_iload hx hb dL_isLookedUp_182 (lv_at hl 6 rfl) ?_
                refine W.widen (k := (kb131 + 1)) (n := (nb131 + 6)) (by omega) (by omega) ?_
                exact JN184 v7_25 _ _ hw hP hD hS _ (lv_sub hl [1, 2, 3, 4, 5, 0, 7, 8, 9, 10, 11] rfl)
              · have hw := hw.2 c_81
                refine lv_iload hx hb dL_isLookedUp_177 (lv_at hl 11 rfl) ?_
                refine lv_goto (tgt := 184) hx hb dL_isLookedUp_179 (by decide) ?_
                refine W.widen (k := (kb131 + 1)) (n := (nb131 + 6)) (by omega) (by omega) ?_
                exact JN184 r_56 _ _ hw hP hD hS _ (lv_sub hl [1, 2, 3, 4, 5, 0, 7, 8, 9, 10, 11] rfl)
            have JN166 : ∀  (H : Heap) (locs : List Loc), (wj_L_isLookedUp_166 n_5 q_6 sk0_9 x_14 v11_19 v10_20 v6_21 v8_22 v9_23 v7_25 (wl_L_isLookedUp_131 n_5 q_6 sk0_9 x_14 (wx_L_isLookedUp_131_270 tape Q sk0_9 r__12 x_14) n131) o_58 r_56)  → va_P (dC, dI) vwCl ([(a_r_, .inl (g 0, n_r_, .inl r__12)), (a_q_4, .inl (g 0, n_5, .inl q_6))] ++ (offS ad_57 tp_p_ hd_p_ tf_p_ cf_p_ g o_58)) H → va_D A ([(a_r_, .inl (g 0, n_r_, .inl r__12)), (a_q_4, .inl (g 0, n_5, .inl q_6))] ++ (offS ad_57 tp_p_ hd_p_ tf_p_ cf_p_ g o_58)) → va_S A s.heap H locs → ∀ (ls : Array Slot), lv_has ls 13 [(0, .ref t_p_), (2, .int tape), (3, .ref a_q_4), (4, .int sk0_9), (5, .int x_14), (6, .int v6_21), (7, .int v7_25), (8, .int v8_22), (9, .int v9_23), (10, .int v10_20), (11, .int v11_19), (12, .int r_56)] → W p l e (headSpec wqL_isLookedUp ({ frames := 10, cells := 420, slots := 2714, locals := 174 })).room s m ([.ref t_p_, .ref a_r_, .int tape] : List Value).toArray below meth c H locs (kb131 + 1) (nb131 + 6) QM (F0 m 166 ls []) := by
              intro  H locs hw hP hD hS ls hl
              refine lv_iload hx hb dL_isLookedUp_166 (lv_at hl 5 rfl) ?_
              refine W.widen (k := (kb131 + 1)) (n := (nb131 + 6)) (by omega) (by omega) ?_
              exact JN168 v6_21 _ _ hw hP hD hS _ (lv_sub hl [0, 1, 2, 3, 4, 6, 7, 8, 9, 10, 11] rfl)
            refine lv_icmp_ne (tgt := 166) hx hb dL_isLookedUp_151 (by decide) (fun c_82 => ?_) (fun c_82 => ?_)
            · have hw := hw.2 c_82
              refine W.widen (k := (kb131 + 1)) (n := (nb131 + 6)) (by omega) (by omega) ?_
              exact JN166  _ _ hw hP hD hS _ (lv_sub hl [1, 2, 3, 4, 5, 6, 7, 8, 9, 10, 11, 0] rfl)
            · have hw := hw.1 c_82
              refine lv_iload hx hb dL_isLookedUp_154 (lv_at hl 0 rfl) ?_
              refine lv_iload hx hb dL_isLookedUp_156 (lv_at hl 4 rfl) ?_
              refine lv_icmp_ne (tgt := 166) hx hb dL_isLookedUp_158 (by decide) (fun c_83 => ?_) (fun c_83 => ?_)
              · have hw := hw.2 c_83
                refine W.widen (k := (kb131 + 1)) (n := (nb131 + 6)) (by omega) (by omega) ?_
                exact JN166  _ _ hw hP hD hS _ (lv_sub hl [1, 2, 3, 4, 5, 6, 7, 8, 9, 10, 11, 0] rfl)
              · have hw := hw.1 c_83
                refine lv_iload hx hb dL_isLookedUp_161 (lv_at hl 11 rfl) ?_
                refine lv_goto (tgt := 168) hx hb dL_isLookedUp_163 (by decide) ?_
                refine W.widen (k := (kb131 + 1)) (n := (nb131 + 6)) (by omega) (by omega) ?_
                exact JN168 v11_19 _ _ hw hP hD hS _ (lv_sub hl [1, 2, 3, 4, 5, 7, 8, 9, 10, 11, 0] rfl)
      obtain ⟨n131, hle131, hw⟩ := hw
      refine W.widen (k := (408 - n131 * 2)) (n := (2642 - n131 * 12)) (by omega) (by omega) ?_
      exact LOOP131 n131 hle131 0 0 (-1) (-20002) 0 o_17 (-20002) ad_16 had_16 _ _ hw hP hD hS _ (lv_sub hl [8, 10, 11, 7, 6, 5, 4, 3, 2, 1, 0] rfl)
    · have hw := hw.1 (b2i_0 c_18)
      refine lv_aload_n hx hb dL_isLookedUp_54 rfl (lv_at hl 2 rfl) ?_
      refine lv_bipush (v := 13) hx hb dL_isLookedUp_55 (by decide) ?_
      refine lv_iload_n hx hb dL_isLookedUp_57 rfl (lv_at hl 4 rfl) ?_
      refine lv_iload hx hb dL_isLookedUp_58 (lv_at hl 1 rfl) ?_
      refine lv_iconst (v := 0) hx hb dL_isLookedUp_60 (by decide) ?_
      obtain ⟨hPs, hDs⟩ := seg_call (segs := [[(a_r_, .inl (g 0, n_r_, .inl r__12))], [(a_q_4, .inl (g 0, n_5, .inl q_6))], offS ad_16 tp_p_ hd_p_ tf_p_ cf_p_ g o_17]) [[(a_r_, .inl (g 0, n_r_, .inl r__12))], [(a_q_4, .inl (g 0, n_5, .inl q_6))]] [offS ad_16 tp_p_ hd_p_ tf_p_ cf_p_ g o_17] 3 [0, 1, 2] rfl rfl (by decide) hP hD
      have hPc : va_P (dC, dI) vwCl (offS ad_16 tp_p_ hd_p_ tf_p_ cf_p_ g o_17) H_15 := P_r hPs
      have hDc : va_D A (offS ad_16 tp_p_ hd_p_ tf_p_ cf_p_ g o_17) := D_r hDs
      have hFc : ∀ q, va_A (offS ad_16 tp_p_ hd_p_ tf_p_ cf_p_ g o_17) H_15.size q → A q := A_all hDc hA hS.1
      refine va_calli (vx_runSW (As := [.ref t_p_, .int 13, .int tape, .int sk0_9, .int 0]) (rest := []) ⟨hx, hb, hml, hown, hts⟩ (c_L_asks_13 l hlf dC dI g (tp_p_ := tp_p_) (hd_p_ := hd_p_) (tf_p_ := tf_p_) (cf_p_ := cf_p_) (htf_p_ := htf_p_) (hcf_p_ := hcf_p_) (a_p_ := ad_16) (t_p_ := t_p_) (h_p_ := had_16) (o_p_ := o_17) (a_ := tape) (b_ := sk0_9) (c_ := 0) (hw := hw) (sz := H_15.size)) (vx_cwSW 5 hts (gqS aw_4_45 aw_4_46 aw_1_0 aw_4_47) rfl rfl rfl (by decide +kernel) ⟨Nat.le_of_ble_eq_true rfl, Nat.le_of_ble_eq_true rfl⟩) ⟨PG_blind, PG_call hK hG hS hPc hDc hFc⟩ rfl rfl hl.1 rfl (lv_room (Nat.le_of_ble_eq_true rfl)) dL_isLookedUp_61 ⟨by rw [hrc]; omega, by rw [hrs]; omega⟩) hS (fun q _ h => hFc q h) hFc (fun r_84 u_84 t_84 H_84 L_84 ht_84 hvm_84 hw_84 hB_84 hz_84 hk_84 hS => ?_)
      obtain ⟨ad_85, o_86, u_84⟩ := u_84
      obtain ⟨hw, had_85⟩ := hw_84
      rw [ht_84] at hB_84
      obtain ⟨hP1, hD1⟩ := hB_84
      obtain ⟨hP, hD⟩ := join_r hPs hDs hk_84 hFc hP1 hD1
      obtain ⟨hP, hD⟩ := seg_join [[(a_r_, .inl (g 0, n_r_, .inl r__12))], [(a_q_4, .inl (g 0, n_5, .inl q_6))]] [offS ad_85 tp_p_ hd_p_ tf_p_ cf_p_ g o_86] [[(a_r_, .inl (g 0, n_r_, .inl r__12))], [(a_q_4, .inl (g 0, n_5, .inl q_6))], offS ad_85 tp_p_ hd_p_ tf_p_ cf_p_ g o_86] 3 [0, 1, 2] rfl rfl (by decide) hP hD
      have hP : va_P (dC, dI) vwCl ([(a_r_, .inl (g 0, n_r_, .inl r__12)), (a_q_4, .inl (g 0, n_5, .inl q_6))] ++ (offS ad_85 tp_p_ hd_p_ tf_p_ cf_p_ g o_86)) H_84 := hP
      have hD : va_D A ([(a_r_, .inl (g 0, n_r_, .inl r__12)), (a_q_4, .inl (g 0, n_5, .inl q_6))] ++ (offS ad_85 tp_p_ hd_p_ tf_p_ cf_p_ g o_86)) := hD
      refine W.widen (k := 208) (n := 1442) (by omega) (by omega) ?_
      refine lv_sipush (v := (-20004)) hx hb dL_isLookedUp_64 (by decide) ?_
      refine lv_icmp_ne (tgt := 107) hx hb dL_isLookedUp_67 (by decide) (fun c_87 => ?_) (fun c_87 => ?_)
      · have hw := hw.2 c_87
        refine lv_iconst (v := 0) hx hb dL_isLookedUp_107 (by decide) ?_
        refine W.widen (k := 420) (n := 2714) (by omega) (by omega) ?_
        subst hQM
        obtain ⟨hP, hD⟩ := seg_sub (segs := [[(a_r_, .inl (g 0, n_r_, .inl r__12))], [(a_q_4, .inl (g 0, n_5, .inl q_6))], offS ad_85 tp_p_ hd_p_ tf_p_ cf_p_ g o_86]) [[(a_r_, .inl (g 0, n_r_, .inl r__12))], offS ad_85 tp_p_ hd_p_ tf_p_ cf_p_ g o_86] [[(a_q_4, .inl (g 0, n_5, .inl q_6))]] 3 [0, 2, 1] rfl rfl (by decide) hP hD
        exact W.zret (v := 0) hx hb hr rfl (fun t ht hW => ⟨⟨_, (r__12, ad_85, o_86, ()), rfl, ⟨false, rfl, ⟨hw, had_85⟩⟩, ⟨P_at ht hP, hD⟩⟩, hS.F ht⟩) hS.2.2 dL_isLookedUp_108
      · have hw := hw.1 c_87
        refine lv_aload_n hx hb dL_isLookedUp_70 rfl (lv_at hl 2 rfl) ?_
        refine lv_bipush (v := 14) hx hb dL_isLookedUp_71 (by decide) ?_
        refine lv_iload_n hx hb dL_isLookedUp_73 rfl (lv_at hl 4 rfl) ?_
        refine lv_iload hx hb dL_isLookedUp_74 (lv_at hl 1 rfl) ?_
        refine lv_iconst (v := 0) hx hb dL_isLookedUp_76 (by decide) ?_
        obtain ⟨hPs, hDs⟩ := seg_call (segs := [[(a_r_, .inl (g 0, n_r_, .inl r__12))], [(a_q_4, .inl (g 0, n_5, .inl q_6))], offS ad_85 tp_p_ hd_p_ tf_p_ cf_p_ g o_86]) [[(a_r_, .inl (g 0, n_r_, .inl r__12))], [(a_q_4, .inl (g 0, n_5, .inl q_6))]] [offS ad_85 tp_p_ hd_p_ tf_p_ cf_p_ g o_86] 3 [0, 1, 2] rfl rfl (by decide) hP hD
        have hPc : va_P (dC, dI) vwCl (offS ad_85 tp_p_ hd_p_ tf_p_ cf_p_ g o_86) H_84 := P_r hPs
        have hDc : va_D A (offS ad_85 tp_p_ hd_p_ tf_p_ cf_p_ g o_86) := D_r hDs
        have hFc : ∀ q, va_A (offS ad_85 tp_p_ hd_p_ tf_p_ cf_p_ g o_86) H_84.size q → A q := A_all hDc hA hS.1
        refine va_calli (vx_runSW (As := [.ref t_p_, .int 14, .int tape, .int sk0_9, .int 0]) (rest := []) ⟨hx, hb, hml, hown, hts⟩ (c_L_asks_14 l hlf dC dI g (tp_p_ := tp_p_) (hd_p_ := hd_p_) (tf_p_ := tf_p_) (cf_p_ := cf_p_) (htf_p_ := htf_p_) (hcf_p_ := hcf_p_) (a_p_ := ad_85) (t_p_ := t_p_) (h_p_ := had_85) (o_p_ := o_86) (a_ := tape) (b_ := sk0_9) (c_ := 0) (hw := hw) (sz := H_84.size)) (vx_cwSW 5 hts (gqS aw_4_45 aw_4_46 aw_1_0 aw_4_47) rfl rfl rfl (by decide +kernel) ⟨Nat.le_of_ble_eq_true rfl, Nat.le_of_ble_eq_true rfl⟩) ⟨PG_blind, PG_call hK hG hS hPc hDc hFc⟩ rfl rfl hl.1 rfl (lv_room (Nat.le_of_ble_eq_true rfl)) dL_isLookedUp_77 ⟨by rw [hrc]; omega, by rw [hrs]; omega⟩) hS (fun q _ h => hFc q h) hFc (fun r_88 u_88 t_88 H_88 L_88 ht_88 hvm_88 hw_88 hB_88 hz_88 hk_88 hS => ?_)
        obtain ⟨ad_89, o_90, u_88⟩ := u_88
        obtain ⟨hw, had_89⟩ := hw_88
        rw [ht_88] at hB_88
        obtain ⟨hP1, hD1⟩ := hB_88
        obtain ⟨hP, hD⟩ := join_r hPs hDs hk_88 hFc hP1 hD1
        obtain ⟨hP, hD⟩ := seg_join [[(a_r_, .inl (g 0, n_r_, .inl r__12))], [(a_q_4, .inl (g 0, n_5, .inl q_6))]] [offS ad_89 tp_p_ hd_p_ tf_p_ cf_p_ g o_90] [[(a_r_, .inl (g 0, n_r_, .inl r__12))], [(a_q_4, .inl (g 0, n_5, .inl q_6))], offS ad_89 tp_p_ hd_p_ tf_p_ cf_p_ g o_90] 3 [0, 1, 2] rfl rfl (by decide) hP hD
        have hP : va_P (dC, dI) vwCl ([(a_r_, .inl (g 0, n_r_, .inl r__12)), (a_q_4, .inl (g 0, n_5, .inl q_6))] ++ (offS ad_89 tp_p_ hd_p_ tf_p_ cf_p_ g o_90)) H_88 := hP
        have hD : va_D A ([(a_r_, .inl (g 0, n_r_, .inl r__12)), (a_q_4, .inl (g 0, n_5, .inl q_6))] ++ (offS ad_89 tp_p_ hd_p_ tf_p_ cf_p_ g o_90)) := hD
        refine W.widen (k := 211) (n := 1460) (by omega) (by omega) ?_
        refine lv_sipush (v := (-20004)) hx hb dL_isLookedUp_80 (by decide) ?_
        refine lv_icmp_ne (tgt := 107) hx hb dL_isLookedUp_83 (by decide) (fun c_91 => ?_) (fun c_91 => ?_)
        · have hw := hw.2 c_91
          refine lv_iconst (v := 0) hx hb dL_isLookedUp_107 (by decide) ?_
          refine W.widen (k := 420) (n := 2714) (by omega) (by omega) ?_
          subst hQM
          obtain ⟨hP, hD⟩ := seg_sub (segs := [[(a_r_, .inl (g 0, n_r_, .inl r__12))], [(a_q_4, .inl (g 0, n_5, .inl q_6))], offS ad_89 tp_p_ hd_p_ tf_p_ cf_p_ g o_90]) [[(a_r_, .inl (g 0, n_r_, .inl r__12))], offS ad_89 tp_p_ hd_p_ tf_p_ cf_p_ g o_90] [[(a_q_4, .inl (g 0, n_5, .inl q_6))]] 3 [0, 2, 1] rfl rfl (by decide) hP hD
          exact W.zret (v := 0) hx hb hr rfl (fun t ht hW => ⟨⟨_, (r__12, ad_89, o_90, ()), rfl, ⟨false, rfl, ⟨hw, had_89⟩⟩, ⟨P_at ht hP, hD⟩⟩, hS.F ht⟩) hS.2.2 dL_isLookedUp_108
        · have hw := hw.1 c_91
          refine lv_aload_n hx hb dL_isLookedUp_86 rfl (lv_at hl 2 rfl) ?_
          refine lv_bipush (v := 19) hx hb dL_isLookedUp_87 (by decide) ?_
          refine lv_iload_n hx hb dL_isLookedUp_89 rfl (lv_at hl 4 rfl) ?_
          refine lv_iload hx hb dL_isLookedUp_90 (lv_at hl 1 rfl) ?_
          refine lv_iload hx hb dL_isLookedUp_92 (lv_at hl 0 rfl) ?_
          obtain ⟨hPs, hDs⟩ := seg_call (segs := [[(a_r_, .inl (g 0, n_r_, .inl r__12))], [(a_q_4, .inl (g 0, n_5, .inl q_6))], offS ad_89 tp_p_ hd_p_ tf_p_ cf_p_ g o_90]) [[(a_r_, .inl (g 0, n_r_, .inl r__12))], [(a_q_4, .inl (g 0, n_5, .inl q_6))]] [offS ad_89 tp_p_ hd_p_ tf_p_ cf_p_ g o_90] 3 [0, 1, 2] rfl rfl (by decide) hP hD
          have hPc : va_P (dC, dI) vwCl (offS ad_89 tp_p_ hd_p_ tf_p_ cf_p_ g o_90) H_88 := P_r hPs
          have hDc : va_D A (offS ad_89 tp_p_ hd_p_ tf_p_ cf_p_ g o_90) := D_r hDs
          have hFc : ∀ q, va_A (offS ad_89 tp_p_ hd_p_ tf_p_ cf_p_ g o_90) H_88.size q → A q := A_all hDc hA hS.1
          refine va_calli (vx_runSW (As := [.ref t_p_, .int 19, .int tape, .int sk0_9, .int x_14]) (rest := []) ⟨hx, hb, hml, hown, hts⟩ (c_L_asks_19 l hlf dC dI g (tp_p_ := tp_p_) (hd_p_ := hd_p_) (tf_p_ := tf_p_) (cf_p_ := cf_p_) (htf_p_ := htf_p_) (hcf_p_ := hcf_p_) (a_p_ := ad_89) (t_p_ := t_p_) (h_p_ := had_89) (o_p_ := o_90) (a_ := tape) (b_ := sk0_9) (c_ := x_14) (hw := hw) (sz := H_88.size)) (vx_cwSW 5 hts (gqS aw_4_45 aw_4_46 aw_1_0 aw_4_47) rfl rfl rfl (by decide +kernel) ⟨Nat.le_of_ble_eq_true rfl, Nat.le_of_ble_eq_true rfl⟩) ⟨PG_blind, PG_call hK hG hS hPc hDc hFc⟩ rfl rfl hl.1 rfl (lv_room (Nat.le_of_ble_eq_true rfl)) dL_isLookedUp_94 ⟨by rw [hrc]; omega, by rw [hrs]; omega⟩) hS (fun q _ h => hFc q h) hFc (fun r_92 u_92 t_92 H_92 L_92 ht_92 hvm_92 hw_92 hB_92 hz_92 hk_92 hS => ?_)
          obtain ⟨ad_93, o_94, u_92⟩ := u_92
          obtain ⟨hw, had_93⟩ := hw_92
          rw [ht_92] at hB_92
          obtain ⟨hP1, hD1⟩ := hB_92
          obtain ⟨hP, hD⟩ := join_r hPs hDs hk_92 hFc hP1 hD1
          obtain ⟨hP, hD⟩ := seg_join [[(a_r_, .inl (g 0, n_r_, .inl r__12))], [(a_q_4, .inl (g 0, n_5, .inl q_6))]] [offS ad_93 tp_p_ hd_p_ tf_p_ cf_p_ g o_94] [[(a_r_, .inl (g 0, n_r_, .inl r__12))], [(a_q_4, .inl (g 0, n_5, .inl q_6))], offS ad_93 tp_p_ hd_p_ tf_p_ cf_p_ g o_94] 3 [0, 1, 2] rfl rfl (by decide) hP hD
          have hP : va_P (dC, dI) vwCl ([(a_r_, .inl (g 0, n_r_, .inl r__12)), (a_q_4, .inl (g 0, n_5, .inl q_6))] ++ (offS ad_93 tp_p_ hd_p_ tf_p_ cf_p_ g o_94)) H_92 := hP
          have hD : va_D A ([(a_r_, .inl (g 0, n_r_, .inl r__12)), (a_q_4, .inl (g 0, n_5, .inl q_6))] ++ (offS ad_93 tp_p_ hd_p_ tf_p_ cf_p_ g o_94)) := hD
          refine W.widen (k := 213) (n := 1472) (by omega) (by omega) ?_
          refine lv_sipush (v := (-20004)) hx hb dL_isLookedUp_97 (by decide) ?_
          refine lv_icmp_ne (tgt := 107) hx hb dL_isLookedUp_100 (by decide) (fun c_95 => ?_) (fun c_95 => ?_)
          · have hw := hw.2 c_95
            refine lv_iconst (v := 0) hx hb dL_isLookedUp_107 (by decide) ?_
            refine W.widen (k := 420) (n := 2714) (by omega) (by omega) ?_
            subst hQM
            obtain ⟨hP, hD⟩ := seg_sub (segs := [[(a_r_, .inl (g 0, n_r_, .inl r__12))], [(a_q_4, .inl (g 0, n_5, .inl q_6))], offS ad_93 tp_p_ hd_p_ tf_p_ cf_p_ g o_94]) [[(a_r_, .inl (g 0, n_r_, .inl r__12))], offS ad_93 tp_p_ hd_p_ tf_p_ cf_p_ g o_94] [[(a_q_4, .inl (g 0, n_5, .inl q_6))]] 3 [0, 2, 1] rfl rfl (by decide) hP hD
            exact W.zret (v := 0) hx hb hr rfl (fun t ht hW => ⟨⟨_, (r__12, ad_93, o_94, ()), rfl, ⟨false, rfl, ⟨hw, had_93⟩⟩, ⟨P_at ht hP, hD⟩⟩, hS.F ht⟩) hS.2.2 dL_isLookedUp_108
          · have hw := hw.1 c_95
            refine lv_iconst (v := 1) hx hb dL_isLookedUp_103 (by decide) ?_
            refine lv_goto (tgt := 108) hx hb dL_isLookedUp_104 (by decide) ?_
            refine W.widen (k := 420) (n := 2714) (by omega) (by omega) ?_
            subst hQM
            obtain ⟨hP, hD⟩ := seg_sub (segs := [[(a_r_, .inl (g 0, n_r_, .inl r__12))], [(a_q_4, .inl (g 0, n_5, .inl q_6))], offS ad_93 tp_p_ hd_p_ tf_p_ cf_p_ g o_94]) [[(a_r_, .inl (g 0, n_r_, .inl r__12))], offS ad_93 tp_p_ hd_p_ tf_p_ cf_p_ g o_94] [[(a_q_4, .inl (g 0, n_5, .inl q_6))]] 3 [0, 2, 1] rfl rfl (by decide) hP hD
            exact W.zret (v := 1) hx hb hr rfl (fun t ht hW => ⟨⟨_, (r__12, ad_93, o_94, ()), rfl, ⟨true, rfl, ⟨hw, had_93⟩⟩, ⟨P_at ht hP, hD⟩⟩, hS.F ht⟩) hS.2.2 dL_isLookedUp_108
  refine lv_if_ne (tgt := 21) hx hb dL_isLookedUp_11 (by decide) (fun c_96 => ?_) (fun c_96 => ?_)
  · have hw := hw.2 c_96
    refine lv_aload_n hx hb dL_isLookedUp_21 rfl (lv_at hl 2 rfl) ?_
    refine lv_bipush (v := 60) hx hb dL_isLookedUp_22 (by decide) ?_
    obtain ⟨hPs, hDs⟩ := seg_call (segs := [[(a_r_, .inl (g 0, n_r_, .inl r__8))], [(a_q_4, .inl (g 0, n_5, .inl q_6))], offS ad_2 tp_p_ hd_p_ tf_p_ cf_p_ g o_3]) [[(a_q_4, .inl (g 0, n_5, .inl q_6))], offS ad_2 tp_p_ hd_p_ tf_p_ cf_p_ g o_3] [[(a_r_, .inl (g 0, n_r_, .inl r__8))]] 3 [1, 2, 0] rfl rfl (by decide) hP hD
    have hPc : va_P (dC, dI) vwCl [(a_r_, .inl (g 0, n_r_, .inl r__8))] H_7 := P_r hPs
    have hDc : va_D A [(a_r_, .inl (g 0, n_r_, .inl r__8))] := D_r hDs
    have hFc : ∀ q, va_A [(a_r_, .inl (g 0, n_r_, .inl r__8))] H_7.size q → A q := A_all hDc hA hS.1
    refine va_calli (va_runS (As := [.ref a_r_, .int 60]) (rest := []) ⟨hx, hb, hml, hown, hts⟩ (c_L_draw l hlf dC dI g (a_r_ := a_r_) (n_r_ := n_r_) (r_ := r__8) (many := 60) (hw := hw) (sz := H_7.size)) (va_cwS 2 hts (gqS aw_2_215 aw_2_216 aw_1_0 aw_2_217) rfl rfl rfl (by decide +kernel) ⟨Nat.le_of_ble_eq_true rfl, Nat.le_of_ble_eq_true rfl⟩) ⟨PG_blind, PG_call hK hG hS hPc hDc hFc⟩ rfl rfl hl.1 rfl (lv_room (Nat.le_of_ble_eq_true rfl)) dL_isLookedUp_24 ⟨by rw [hrc]; omega, by rw [hrs]; omega⟩) hS (fun q _ h => hFc q h) hFc (fun r_97 u_97 t_97 H_97 L_97 ht_97 hvm_97 hw_97 hB_97 hz_97 hk_97 hS => ?_)
    obtain ⟨r__98, u_97⟩ := u_97
    have hw := hw_97
    rw [ht_97] at hB_97
    obtain ⟨hP1, hD1⟩ := hB_97
    obtain ⟨hP, hD⟩ := join_r hPs hDs hk_97 hFc hP1 hD1
    obtain ⟨hP, hD⟩ := seg_join [[(a_q_4, .inl (g 0, n_5, .inl q_6))], offS ad_2 tp_p_ hd_p_ tf_p_ cf_p_ g o_3] [[(a_r_, .inl (g 0, n_r_, .inl r__98))]] [[(a_r_, .inl (g 0, n_r_, .inl r__98))], [(a_q_4, .inl (g 0, n_5, .inl q_6))], offS ad_2 tp_p_ hd_p_ tf_p_ cf_p_ g o_3] 3 [2, 0, 1] rfl rfl (by decide) hP hD
    have hP : va_P (dC, dI) vwCl ([(a_r_, .inl (g 0, n_r_, .inl r__98)), (a_q_4, .inl (g 0, n_5, .inl q_6))] ++ (offS ad_2 tp_p_ hd_p_ tf_p_ cf_p_ g o_3)) H_97 := hP
    have hD : va_D A ([(a_r_, .inl (g 0, n_r_, .inl r__98)), (a_q_4, .inl (g 0, n_5, .inl q_6))] ++ (offS ad_2 tp_p_ hd_p_ tf_p_ cf_p_ g o_3)) := hD
    refine W.widen (k := 204) (n := 1418) (by omega) (by omega) ?_
    refine lv_bipush (v := 20) hx hb dL_isLookedUp_27 (by decide) ?_
    refine lv_isub hx hb dL_isLookedUp_29 ?_
    refine lv_topi (fun x_99 ex_99 => ?_)
    have hw := hw x_99 ex_99
    refine W.widen (k := 204) (n := 1418) (by omega) (by omega) ?_
    exact JN30 x_99 r__98 _ _ hw hP hD hS _ (lv_sub hl [1, 2, 3, 0] rfl)
  · have hw := hw.1 c_96
    refine lv_aload_n hx hb dL_isLookedUp_14 rfl (lv_at hl 2 rfl) ?_
    obtain ⟨hPs, hDs⟩ := seg_call (segs := [[(a_r_, .inl (g 0, n_r_, .inl r__8))], [(a_q_4, .inl (g 0, n_5, .inl q_6))], offS ad_2 tp_p_ hd_p_ tf_p_ cf_p_ g o_3]) [[(a_q_4, .inl (g 0, n_5, .inl q_6))], offS ad_2 tp_p_ hd_p_ tf_p_ cf_p_ g o_3] [[(a_r_, .inl (g 0, n_r_, .inl r__8))]] 3 [1, 2, 0] rfl rfl (by decide) hP hD
    have hPc : va_P (dC, dI) vwCl [(a_r_, .inl (g 0, n_r_, .inl r__8))] H_7 := P_r hPs
    have hDc : va_D A [(a_r_, .inl (g 0, n_r_, .inl r__8))] := D_r hDs
    have hFc : ∀ q, va_A [(a_r_, .inl (g 0, n_r_, .inl r__8))] H_7.size q → A q := A_all hDc hA hS.1
    refine va_calli (va_runS (As := [.ref a_r_]) (rest := []) ⟨hx, hb, hml, hown, hts⟩ (c_L_next l hlf dC dI g (a_r_ := a_r_) (n_r_ := n_r_) (r_ := r__8) (hw := hw) (sz := H_7.size)) (va_cwS 1 hts (gqS aw_2_218 aw_2_219 aw_1_0 aw_2_220) rfl rfl rfl (by decide +kernel) ⟨Nat.le_of_ble_eq_true rfl, Nat.le_of_ble_eq_true rfl⟩) ⟨PG_blind, PG_call hK hG hS hPc hDc hFc⟩ rfl rfl hl.1 rfl (lv_room (Nat.le_of_ble_eq_true rfl)) dL_isLookedUp_15 ⟨by rw [hrc]; omega, by rw [hrs]; omega⟩) hS (fun q _ h => hFc q h) hFc (fun r_100 u_100 t_100 H_100 L_100 ht_100 hvm_100 hw_100 hB_100 hz_100 hk_100 hS => ?_)
    obtain ⟨r__101, u_100⟩ := u_100
    have hw := hw_100
    rw [ht_100] at hB_100
    obtain ⟨hP1, hD1⟩ := hB_100
    obtain ⟨hP, hD⟩ := join_r hPs hDs hk_100 hFc hP1 hD1
    obtain ⟨hP, hD⟩ := seg_join [[(a_q_4, .inl (g 0, n_5, .inl q_6))], offS ad_2 tp_p_ hd_p_ tf_p_ cf_p_ g o_3] [[(a_r_, .inl (g 0, n_r_, .inl r__101))]] [[(a_r_, .inl (g 0, n_r_, .inl r__101))], [(a_q_4, .inl (g 0, n_5, .inl q_6))], offS ad_2 tp_p_ hd_p_ tf_p_ cf_p_ g o_3] 3 [2, 0, 1] rfl rfl (by decide) hP hD
    have hP : va_P (dC, dI) vwCl ([(a_r_, .inl (g 0, n_r_, .inl r__101)), (a_q_4, .inl (g 0, n_5, .inl q_6))] ++ (offS ad_2 tp_p_ hd_p_ tf_p_ cf_p_ g o_3)) H_100 := hP
    have hD : va_D A ([(a_r_, .inl (g 0, n_r_, .inl r__101)), (a_q_4, .inl (g 0, n_5, .inl q_6))] ++ (offS ad_2 tp_p_ hd_p_ tf_p_ cf_p_ g o_3)) := hD
    refine W.widen (k := 204) (n := 1418) (by omega) (by omega) ?_
    refine lv_goto (tgt := 30) hx hb dL_isLookedUp_18 (by decide) ?_
    refine W.widen (k := 204) (n := 1418) (by omega) (by omega) ?_
    exact JN30 r_100 r__101 _ _ hw hP hD hS _ (lv_sub hl [1, 2, 3, 0] rfl)
theorem dL_isThinned_0 : decode cL_isThinned 0 = .ok (.aload_n 0, 1) := by decide +kernel
theorem dL_isThinned_1 : decode cL_isThinned 1 = .ok (.iload_n 2, 1) := by decide +kernel
theorem dL_isThinned_2 : decode cL_isThinned 2 = .ok (.invokestatic 120, 3) := by decide +kernel
theorem dL_isThinned_5 : decode cL_isThinned 5 = .ok (.astore_n 3, 1) := by decide +kernel
theorem dL_isThinned_6 : decode cL_isThinned 6 = .ok (.aload_n 1, 1) := by decide +kernel
theorem dL_isThinned_7 : decode cL_isThinned 7 = .ok (.iconst 2, 1) := by decide +kernel
theorem dL_isThinned_8 : decode cL_isThinned 8 = .ok (.invokestatic 103, 3) := by decide +kernel
theorem dL_isThinned_19 : decode cL_isThinned 19 = .ok (.istore 4, 2) := by decide +kernel
theorem dL_isThinned_21 : decode cL_isThinned 21 = .ok (.bipush 7, 2) := by decide +kernel
theorem dL_isThinned_23 : decode cL_isThinned 23 = .ok (.istore 5, 2) := by decide +kernel
theorem dL_isThinned_25 : decode cL_isThinned 25 = .ok (.iconst 0, 1) := by decide +kernel
theorem dL_isThinned_26 : decode cL_isThinned 26 = .ok (.istore 6, 2) := by decide +kernel
theorem dL_isThinned_28 : decode cL_isThinned 28 = .ok (.iconst 0, 1) := by decide +kernel
theorem dL_isThinned_29 : decode cL_isThinned 29 = .ok (.istore 7, 2) := by decide +kernel
theorem dL_isThinned_111 : decode cL_isThinned 111 = .ok (.aload_n 0, 1) := by decide +kernel
theorem dL_isThinned_112 : decode cL_isThinned 112 = .ok (.iload_n 2, 1) := by decide +kernel
theorem dL_isThinned_113 : decode cL_isThinned 113 = .ok (.iload 4, 2) := by decide +kernel
theorem dL_isThinned_115 : decode cL_isThinned 115 = .ok (.invokevirtual 191, 3) := by decide +kernel
theorem dL_isThinned_118 : decode cL_isThinned 118 = .ok (.aload_n 3, 1) := by decide +kernel
theorem dL_isThinned_119 : decode cL_isThinned 119 = .ok (.arraylength, 1) := by decide +kernel
theorem dL_isThinned_120 : decode cL_isThinned 120 = .ok (.iload 6, 2) := by decide +kernel
theorem dL_isThinned_122 : decode cL_isThinned 122 = .ok (.isub, 1) := by decide +kernel
theorem dL_isThinned_123 : decode cL_isThinned 123 = .ok (.if_icmp .ne 45, 3) := by decide +kernel
theorem dL_isThinned_168 : decode cL_isThinned 168 = .ok (.iconst 0, 1) := by decide +kernel
theorem dL_isThinned_169 : decode cL_isThinned 169 = .ok (.ireturn, 1) := by decide +kernel
theorem dL_isThinned_126 : decode cL_isThinned 126 = .ok (.aload_n 0, 1) := by decide +kernel
theorem dL_isThinned_127 : decode cL_isThinned 127 = .ok (.iload_n 2, 1) := by decide +kernel
theorem dL_isThinned_128 : decode cL_isThinned 128 = .ok (.invokevirtual 195, 3) := by decide +kernel
theorem dL_isThinned_131 : decode cL_isThinned 131 = .ok (.iload 5, 2) := by decide +kernel
theorem dL_isThinned_133 : decode cL_isThinned 133 = .ok (.if_icmp .ne 35, 3) := by decide +kernel
theorem dL_isThinned_136 : decode cL_isThinned 136 = .ok (.aload_n 0, 1) := by decide +kernel
theorem dL_isThinned_137 : decode cL_isThinned 137 = .ok (.iload_n 2, 1) := by decide +kernel
theorem dL_isThinned_138 : decode cL_isThinned 138 = .ok (.iload 4, 2) := by decide +kernel
theorem dL_isThinned_148 : decode cL_isThinned 148 = .ok (.invokevirtual 191, 3) := by decide +kernel
theorem dL_isThinned_151 : decode cL_isThinned 151 = .ok (.ifCond .ne 17, 3) := by decide +kernel
theorem dL_isThinned_154 : decode cL_isThinned 154 = .ok (.aload_n 0, 1) := by decide +kernel
theorem dL_isThinned_155 : decode cL_isThinned 155 = .ok (.iload_n 2, 1) := by decide +kernel
theorem dL_isThinned_156 : decode cL_isThinned 156 = .ok (.invokevirtual 90, 3) := by decide +kernel
theorem dL_isThinned_159 : decode cL_isThinned 159 = .ok (.iload 6, 2) := by decide +kernel
theorem dL_isThinned_161 : decode cL_isThinned 161 = .ok (.if_icmp .ne 7, 3) := by decide +kernel
theorem dL_isThinned_164 : decode cL_isThinned 164 = .ok (.iconst 1, 1) := by decide +kernel
theorem dL_isThinned_165 : decode cL_isThinned 165 = .ok (.goto 4, 3) := by decide +kernel
theorem dL_isThinned_140 : decode cL_isThinned 140 = .ok (.ifCond .ne 7, 3) := by decide +kernel
theorem dL_isThinned_147 : decode cL_isThinned 147 = .ok (.iconst 0, 1) := by decide +kernel
theorem dL_isThinned_143 : decode cL_isThinned 143 = .ok (.iconst 1, 1) := by decide +kernel
theorem dL_isThinned_144 : decode cL_isThinned 144 = .ok (.goto 4, 3) := by decide +kernel
theorem dL_isThinned_31 : decode cL_isThinned 31 = .ok (.iload 7, 2) := by decide +kernel
theorem dL_isThinned_33 : decode cL_isThinned 33 = .ok (.aload_n 3, 1) := by decide +kernel
theorem dL_isThinned_34 : decode cL_isThinned 34 = .ok (.arraylength, 1) := by decide +kernel
theorem dL_isThinned_35 : decode cL_isThinned 35 = .ok (.if_icmp .ge 76, 3) := by decide +kernel
theorem dL_isThinned_38 : decode cL_isThinned 38 = .ok (.iload 4, 2) := by decide +kernel
theorem dL_isThinned_54 : decode cL_isThinned 54 = .ok (.istore 8, 2) := by decide +kernel
theorem dL_isThinned_56 : decode cL_isThinned 56 = .ok (.iload 8, 2) := by decide +kernel
theorem dL_isThinned_90 : decode cL_isThinned 90 = .ok (.bipush 31, 2) := by decide +kernel
theorem dL_isThinned_92 : decode cL_isThinned 92 = .ok (.iload 5, 2) := by decide +kernel
theorem dL_isThinned_94 : decode cL_isThinned 94 = .ok (.imul, 1) := by decide +kernel
theorem dL_isThinned_95 : decode cL_isThinned 95 = .ok (.aload_n 3, 1) := by decide +kernel
theorem dL_isThinned_96 : decode cL_isThinned 96 = .ok (.iload 7, 2) := by decide +kernel
theorem dL_isThinned_98 : decode cL_isThinned 98 = .ok (.iaload, 1) := by decide +kernel
theorem dL_isThinned_99 : decode cL_isThinned 99 = .ok (.iadd, 1) := by decide +kernel
theorem dL_isThinned_100 : decode cL_isThinned 100 = .ok (.istore 5, 2) := by decide +kernel
theorem dL_isThinned_102 : decode cL_isThinned 102 = .ok (.iinc 6 1, 3) := by decide +kernel
theorem dL_isThinned_105 : decode cL_isThinned 105 = .ok (.iinc 7 1, 3) := by decide +kernel
theorem dL_isThinned_108 : decode cL_isThinned 108 = .ok (.goto (-77), 3) := by decide +kernel
theorem dL_isThinned_58 : decode cL_isThinned 58 = .ok (.ifCond .lt 32, 3) := by decide +kernel
theorem dL_isThinned_61 : decode cL_isThinned 61 = .ok (.iload 8, 2) := by decide +kernel
theorem dL_isThinned_63 : decode cL_isThinned 63 = .ok (.aload_n 3, 1) := by decide +kernel
theorem dL_isThinned_64 : decode cL_isThinned 64 = .ok (.arraylength, 1) := by decide +kernel
theorem dL_isThinned_65 : decode cL_isThinned 65 = .ok (.if_icmp .ge 25, 3) := by decide +kernel
theorem dL_isThinned_68 : decode cL_isThinned 68 = .ok (.aload_n 0, 1) := by decide +kernel
theorem dL_isThinned_69 : decode cL_isThinned 69 = .ok (.aload_n 3, 1) := by decide +kernel
theorem dL_isThinned_70 : decode cL_isThinned 70 = .ok (.iload 8, 2) := by decide +kernel
theorem dL_isThinned_72 : decode cL_isThinned 72 = .ok (.iaload, 1) := by decide +kernel
theorem dL_isThinned_73 : decode cL_isThinned 73 = .ok (.invokevirtual 93, 3) := by decide +kernel
theorem dL_isThinned_76 : decode cL_isThinned 76 = .ok (.aload_n 0, 1) := by decide +kernel
theorem dL_isThinned_77 : decode cL_isThinned 77 = .ok (.aload_n 3, 1) := by decide +kernel
theorem dL_isThinned_78 : decode cL_isThinned 78 = .ok (.iload 7, 2) := by decide +kernel
theorem dL_isThinned_80 : decode cL_isThinned 80 = .ok (.iaload, 1) := by decide +kernel
theorem dL_isThinned_81 : decode cL_isThinned 81 = .ok (.invokevirtual 93, 3) := by decide +kernel
theorem dL_isThinned_84 : decode cL_isThinned 84 = .ok (.if_icmp .ne 6, 3) := by decide +kernel
theorem dL_isThinned_87 : decode cL_isThinned 87 = .ok (.goto 18, 3) := by decide +kernel
theorem dL_isThinned_40 : decode cL_isThinned 40 = .ok (.ifCond .eq 10, 3) := by decide +kernel
theorem dL_isThinned_50 : decode cL_isThinned 50 = .ok (.iload 7, 2) := by decide +kernel
theorem dL_isThinned_52 : decode cL_isThinned 52 = .ok (.iconst 1, 1) := by decide +kernel
theorem dL_isThinned_53 : decode cL_isThinned 53 = .ok (.isub, 1) := by decide +kernel
theorem dL_isThinned_43 : decode cL_isThinned 43 = .ok (.iload 7, 2) := by decide +kernel
theorem dL_isThinned_45 : decode cL_isThinned 45 = .ok (.iconst 1, 1) := by decide +kernel
theorem dL_isThinned_46 : decode cL_isThinned 46 = .ok (.iadd, 1) := by decide +kernel
theorem dL_isThinned_47 : decode cL_isThinned 47 = .ok (.goto 7, 3) := by decide +kernel
theorem dL_isThinned_11 : decode cL_isThinned 11 = .ok (.ifCond .ne 7, 3) := by decide +kernel
theorem dL_isThinned_18 : decode cL_isThinned 18 = .ok (.iconst 0, 1) := by decide +kernel
theorem dL_isThinned_14 : decode cL_isThinned 14 = .ok (.iconst 1, 1) := by decide +kernel
theorem dL_isThinned_15 : decode cL_isThinned 15 = .ok (.goto 4, 3) := by decide +kernel

set_option maxHeartbeats 8000000 in
set_option maxRecDepth 100000 in
theorem c_L_isThinned (l : Launch) (hlf : l.stackTraces = false) (dC : Nat → ClassId) (dI : Nat → Nat → Nat) (g : Nat → ClassId) (tp_p_ hd_p_ : Nat → Nat) (tf_p_ cf_p_ : Nat → Option Nat) (htf_p_ : ∀ j, j < 8 → tf_p_ j = some (tp_p_ j)) (hcf_p_ : ∀ j, j < 8 → cf_p_ j = some (tp_p_ (8 + j))) (a_p_ : Nat → Nat) (t_p_ : Nat) (h_p_ : a_p_ 0 = t_p_) (o_p_ : OS) (a_r_ n_r_ : Nat) (r_ : Nat → Int32) (tape : Int32) (Q : Bool → (Nat → Int32) → OS → Prop) (hw : wp_L_isThinned o_p_ n_r_ r_ tape Q) (sz : Nat) : Met l yL_isThinned wqL_isThinned ({ frames := 9, cells := 410, slots := 2654, locals := 149 }) (va_Pc [.ref t_p_, .ref a_r_, .int tape] (PG (dC, dI) g ([(a_r_, .inl (g 0, n_r_, .inl r_))] ++ (offS a_p_ tp_p_ hd_p_ tf_p_ cf_p_ g o_p_)) sz)) (va_Qi (fun (r : Int32) (u : (Nat → Int32) × (Nat → Nat) × OS × Unit) => ∃ b : Bool, r = b2i b ∧ (Q b u.1 u.2.2.1 ∧ u.2.1 0 = t_p_)) (fun (u : (Nat → Int32) × (Nat → Nat) × OS × Unit) t9 => va_P (dC, dI) vwCl ([(a_r_, .inl (g 0, n_r_, .inl u.1))] ++ (offS u.2.1 tp_p_ hd_p_ tf_p_ cf_p_ g u.2.2.1)) t9.heap ∧ va_D (va_A ([(a_r_, .inl (g 0, n_r_, .inl r_))] ++ (offS a_p_ tp_p_ hd_p_ tf_p_ cf_p_ g o_p_)) sz) ([(a_r_, .inl (g 0, n_r_, .inl u.1))] ++ (offS u.2.1 tp_p_ hd_p_ tf_p_ cf_p_ g u.2.2.1))) (va_A ([(a_r_, .inl (g 0, n_r_, .inl r_))] ++ (offS a_p_ tp_p_ hd_p_ tf_p_ cf_p_ g o_p_)) sz)) 410 2654 (va_A ([(a_r_, .inl (g 0, n_r_, .inl r_))] ++ (offS a_p_ tp_p_ hd_p_ tf_p_ cf_p_ g o_p_)) sz) := by
  refine Met.ofW (cc := cL_isThinned) (maxL := 9) (ret := (some .boolean)) (by decide) rfl ?_
  intro p e s m args below meth c s₁ B hml hv
  obtain ⟨rfl, hsz, hP, hK, hD0, hG⟩ := hv
  have hx := B.exec
  have hb := B.bytes
  have hr := B.returns
  have hts := atoms_spec (ws := wqL_isThinned) B.pre
  have hown : s.vm.findClass RL = some m.cls := findClass_of_methodNamed B.named
  have hlocks := B.notSynchronized
  subst hsz
  have hD := hD0.self (sz := s.heap.size)
  generalize hAe : va_A ([(a_r_, .inl (g 0, n_r_, .inl r_))] ++ (offS a_p_ tp_p_ hd_p_ tf_p_ cf_p_ g o_p_)) s.heap.size = A at hD hG ⊢
  have hA : ∀ q : Nat, s.heap.size ≤ q → A q := fun q h => by rw [← hAe]; exact Or.inr h
  have hS : va_S A s.heap s.heap [] := va_S.rf
  have hrc : (headSpec wqL_isThinned ({ frames := 9, cells := 410, slots := 2654, locals := 149 })).room.cells = 410 := rfl
  have hrs : (headSpec wqL_isThinned ({ frames := 9, cells := 410, slots := 2654, locals := 149 })).room.slots = 2654 := rfl
  have hl := lv_entry ([.ref t_p_, .ref a_r_, .int tape]) (n := 9) (Nat.le_of_ble_eq_true rfl)
  rw [lg_entry_eq]
  generalize (lg_sl ([.ref t_p_, .ref a_r_, .int tape]) ++ List.replicate (9 - (lg_sl ([.ref t_p_, .ref a_r_, .int tape])).length) Slot.unset).toArray = ls at hl ⊢
  have hl : lv_has ls 9 [(0, .ref t_p_), (1, .ref a_r_), (2, .int tape)] := hl
  unfold wp_L_isThinned at hw
  refine lv_aload_n hx hb dL_isThinned_0 rfl (lv_at hl 0 rfl) ?_
  refine lv_iload_n hx hb dL_isThinned_1 rfl (lv_at hl 2 rfl) ?_
  obtain ⟨hPs, hDs⟩ := seg_call (segs := [[(a_r_, .inl (g 0, n_r_, .inl r_))], offS a_p_ tp_p_ hd_p_ tf_p_ cf_p_ g o_p_]) [[(a_r_, .inl (g 0, n_r_, .inl r_))]] [offS a_p_ tp_p_ hd_p_ tf_p_ cf_p_ g o_p_] 2 [0, 1] rfl rfl (by decide) hP hD
  have hPc : va_P (dC, dI) vwCl (offS a_p_ tp_p_ hd_p_ tf_p_ cf_p_ g o_p_) s.heap := P_r hPs
  have hDc : va_D A (offS a_p_ tp_p_ hd_p_ tf_p_ cf_p_ g o_p_) := D_r hDs
  have hFc : ∀ q, va_A (offS a_p_ tp_p_ hd_p_ tf_p_ cf_p_ g o_p_) s.heap.size q → A q := A_all hDc hA hS.1
  refine va_callq (va_runS (As := [.ref t_p_, .int tape]) (rest := []) ⟨hx, hb, hml, hown, hts⟩ (c_L_tape l hlf dC dI g (tp_p_ := tp_p_) (hd_p_ := hd_p_) (tf_p_ := tf_p_) (cf_p_ := cf_p_) (htf_p_ := htf_p_) (hcf_p_ := hcf_p_) (a_p_ := a_p_) (t_p_ := t_p_) (h_p_ := h_p_) (o_p_ := o_p_) (tape := tape) (hw := hw) (sz := s.heap.size)) (va_cwS 2 hts (gqS aw_3_158 aw_3_159 aw_1_0 aw_3_160) rfl rfl rfl (by decide +kernel) ⟨Nat.le_of_ble_eq_true rfl, Nat.le_of_ble_eq_true rfl⟩) ⟨PG_blind, PG_call hK hG hS hPc hDc hFc⟩ rfl rfl hl.1 rfl (lv_room (Nat.le_of_ble_eq_true rfl)) dL_isThinned_2 ⟨by rw [hrc]; omega, by rw [hrs]; omega⟩) hS (fun q _ h => hFc q h) hFc (fun r_1 u_1 t_1 H_1 L_1 ht_1 hvm_1 hw_1 hB_1 hz_1 hk_1 hS => ?_)
  obtain ⟨ad_2, o_3, a_q_4, n_5, q_6, u_1⟩ := u_1
  obtain ⟨rfl, ⟨hw, had_2⟩⟩ := hw_1
  rw [ht_1] at hB_1
  obtain ⟨hP1, hD1⟩ := hB_1
  obtain ⟨hP, hD⟩ := join_r hPs hDs hk_1 hFc hP1 hD1
  obtain ⟨hP, hD⟩ := seg_join [[(a_r_, .inl (g 0, n_r_, .inl r_))]] [[(a_q_4, .inl (g 0, n_5, .inl q_6))], offS ad_2 tp_p_ hd_p_ tf_p_ cf_p_ g o_3] [[(a_r_, .inl (g 0, n_r_, .inl r_))], [(a_q_4, .inl (g 0, n_5, .inl q_6))], offS ad_2 tp_p_ hd_p_ tf_p_ cf_p_ g o_3] 3 [0, 1, 2] rfl rfl (by decide) hP hD
  have hP : va_P (dC, dI) vwCl ([(a_r_, .inl (g 0, n_r_, .inl r_)), (a_q_4, .inl (g 0, n_5, .inl q_6))] ++ (offS ad_2 tp_p_ hd_p_ tf_p_ cf_p_ g o_3)) H_1 := hP
  have hD : va_D A ([(a_r_, .inl (g 0, n_r_, .inl r_)), (a_q_4, .inl (g 0, n_5, .inl q_6))] ++ (offS ad_2 tp_p_ hd_p_ tf_p_ cf_p_ g o_3)) := hD
  refine W.widen (k := 204) (n := 1418) (by omega) (by omega) ?_
  refine lv_astore_n (lv' := [(3, .ref a_q_4), (0, .ref t_p_), (1, .ref a_r_), (2, .int tape)]) hx hb dL_isThinned_5 rfl hl (by decide) rfl (fun ls hl => ?_)
  refine lv_aload_n hx hb dL_isThinned_6 rfl (lv_at hl 2 rfl) ?_
  refine lv_iconst (v := 2) hx hb dL_isThinned_7 (by decide) ?_
  obtain ⟨hPs, hDs⟩ := seg_call (segs := [[(a_r_, .inl (g 0, n_r_, .inl r_))], [(a_q_4, .inl (g 0, n_5, .inl q_6))], offS ad_2 tp_p_ hd_p_ tf_p_ cf_p_ g o_3]) [[(a_q_4, .inl (g 0, n_5, .inl q_6))], offS ad_2 tp_p_ hd_p_ tf_p_ cf_p_ g o_3] [[(a_r_, .inl (g 0, n_r_, .inl r_))]] 3 [1, 2, 0] rfl rfl (by decide) hP hD
  have hPc : va_P (dC, dI) vwCl [(a_r_, .inl (g 0, n_r_, .inl r_))] H_1 := P_r hPs
  have hDc : va_D A [(a_r_, .inl (g 0, n_r_, .inl r_))] := D_r hDs
  have hFc : ∀ q, va_A [(a_r_, .inl (g 0, n_r_, .inl r_))] H_1.size q → A q := A_all hDc hA hS.1
  refine va_calli (va_runS (As := [.ref a_r_, .int 2]) (rest := []) ⟨hx, hb, hml, hown, hts⟩ (c_L_draw l hlf dC dI g (a_r_ := a_r_) (n_r_ := n_r_) (r_ := r_) (many := 2) (hw := hw) (sz := H_1.size)) (va_cwS 2 hts (gqS aw_2_215 aw_2_216 aw_1_0 aw_2_217) rfl rfl rfl (by decide +kernel) ⟨Nat.le_of_ble_eq_true rfl, Nat.le_of_ble_eq_true rfl⟩) ⟨PG_blind, PG_call hK hG hS hPc hDc hFc⟩ rfl rfl hl.1 rfl (lv_room (Nat.le_of_ble_eq_true rfl)) dL_isThinned_8 ⟨by rw [hrc]; omega, by rw [hrs]; omega⟩) hS (fun q _ h => hFc q h) hFc (fun r_7 u_7 t_7 H_7 L_7 ht_7 hvm_7 hw_7 hB_7 hz_7 hk_7 hS => ?_)
  obtain ⟨r__8, u_7⟩ := u_7
  have hw := hw_7
  rw [ht_7] at hB_7
  obtain ⟨hP1, hD1⟩ := hB_7
  obtain ⟨hP, hD⟩ := join_r hPs hDs hk_7 hFc hP1 hD1
  obtain ⟨hP, hD⟩ := seg_join [[(a_q_4, .inl (g 0, n_5, .inl q_6))], offS ad_2 tp_p_ hd_p_ tf_p_ cf_p_ g o_3] [[(a_r_, .inl (g 0, n_r_, .inl r__8))]] [[(a_r_, .inl (g 0, n_r_, .inl r__8))], [(a_q_4, .inl (g 0, n_5, .inl q_6))], offS ad_2 tp_p_ hd_p_ tf_p_ cf_p_ g o_3] 3 [2, 0, 1] rfl rfl (by decide) hP hD
  have hP : va_P (dC, dI) vwCl ([(a_r_, .inl (g 0, n_r_, .inl r__8)), (a_q_4, .inl (g 0, n_5, .inl q_6))] ++ (offS ad_2 tp_p_ hd_p_ tf_p_ cf_p_ g o_3)) H_7 := hP
  have hD : va_D A ([(a_r_, .inl (g 0, n_r_, .inl r__8)), (a_q_4, .inl (g 0, n_5, .inl q_6))] ++ (offS ad_2 tp_p_ hd_p_ tf_p_ cf_p_ g o_3)) := hD
  refine W.widen (k := 204) (n := 1418) (by omega) (by omega) ?_
  refine W_abs (fun QM hQM => ?_)
  have JN19 : ∀ (sk0_9 : Bool) (H : Heap) (locs : List Loc), (wj_L_isThinned_19 tape Q o_3 n_5 q_6 r__8) sk0_9 → va_P (dC, dI) vwCl ([(a_r_, .inl (g 0, n_r_, .inl r__8)), (a_q_4, .inl (g 0, n_5, .inl q_6))] ++ (offS ad_2 tp_p_ hd_p_ tf_p_ cf_p_ g o_3)) H → va_D A ([(a_r_, .inl (g 0, n_r_, .inl r__8)), (a_q_4, .inl (g 0, n_5, .inl q_6))] ++ (offS ad_2 tp_p_ hd_p_ tf_p_ cf_p_ g o_3)) → va_S A s.heap H locs → ∀ (ls : Array Slot), lv_has ls 9 [(0, .ref t_p_), (2, .int tape), (3, .ref a_q_4)] → W p l e (headSpec wqL_isThinned ({ frames := 9, cells := 410, slots := 2654, locals := 149 })).room s m ([.ref t_p_, .ref a_r_, .int tape] : List Value).toArray below meth c H locs 204 1418 QM (F0 m 19 ls [.int (b2i sk0_9)]) := by
    intro sk0_9 H locs hw hP hD hS ls hl
    refine lv_istore (lv' := [(4, .int (b2i sk0_9)), (0, .ref t_p_), (2, .int tape), (3, .ref a_q_4)]) hx hb dL_isThinned_19 hl (by decide) rfl (fun ls hl => ?_)
    refine lv_bipush (v := 7) hx hb dL_isThinned_21 (by decide) ?_
    refine lv_istore (lv' := [(5, .int 7), (4, .int (b2i sk0_9)), (0, .ref t_p_), (2, .int tape), (3, .ref a_q_4)]) hx hb dL_isThinned_23 hl (by decide) rfl (fun ls hl => ?_)
    refine lv_iconst (v := 0) hx hb dL_isThinned_25 (by decide) ?_
    refine lv_istore (lv' := [(6, .int 0), (5, .int 7), (4, .int (b2i sk0_9)), (0, .ref t_p_), (2, .int tape), (3, .ref a_q_4)]) hx hb dL_isThinned_26 hl (by decide) rfl (fun ls hl => ?_)
    refine lv_iconst (v := 0) hx hb dL_isThinned_28 (by decide) ?_
    refine lv_istore (lv' := [(7, .int 0), (6, .int 0), (5, .int 7), (4, .int (b2i sk0_9)), (0, .ref t_p_), (2, .int tape), (3, .ref a_q_4)]) hx hb dL_isThinned_29 hl (by decide) rfl (fun ls hl => ?_)
    have EX31_111 : ∀ (v6_15 : Int32) (v5_16 : Int32) (o_17 : OS) (ad_18 : Nat → Nat) (had_18 : ad_18 0 = t_p_) (H : Heap) (locs : List Loc), (wx_L_isThinned_31_111 tape Q n_5 r__8 sk0_9) v6_15 v5_16 o_17 → va_P (dC, dI) vwCl ([(a_r_, .inl (g 0, n_r_, .inl r__8)), (a_q_4, .inl (g 0, n_5, .inl q_6))] ++ (offS ad_18 tp_p_ hd_p_ tf_p_ cf_p_ g o_17)) H → va_D A ([(a_r_, .inl (g 0, n_r_, .inl r__8)), (a_q_4, .inl (g 0, n_5, .inl q_6))] ++ (offS ad_18 tp_p_ hd_p_ tf_p_ cf_p_ g o_17)) → va_S A s.heap H locs → ∀ (ls : Array Slot), lv_has ls 9 [(0, .ref t_p_), (2, .int tape), (3, .ref a_q_4), (4, .int (b2i sk0_9)), (5, .int v5_16), (6, .int v6_15)] → W p l e (headSpec wqL_isThinned ({ frames := 9, cells := 410, slots := 2654, locals := 149 })).room s m ([.ref t_p_, .ref a_r_, .int tape] : List Value).toArray below meth c H locs 406 2630 QM (F0 m 111 ls []) := by
      intro v6_15 v5_16 o_17 ad_18 had_18 H locs hw hP hD hS ls hl
      refine lv_aload_n hx hb dL_isThinned_111 rfl (lv_at hl 0 rfl) ?_
      refine lv_iload_n hx hb dL_isThinned_112 rfl (lv_at hl 1 rfl) ?_
      refine lv_iload hx hb dL_isThinned_113 (lv_at hl 3 rfl) ?_
      obtain ⟨hPs, hDs⟩ := seg_call (segs := [[(a_r_, .inl (g 0, n_r_, .inl r__8))], [(a_q_4, .inl (g 0, n_5, .inl q_6))], offS ad_18 tp_p_ hd_p_ tf_p_ cf_p_ g o_17]) [[(a_r_, .inl (g 0, n_r_, .inl r__8))], [(a_q_4, .inl (g 0, n_5, .inl q_6))]] [offS ad_18 tp_p_ hd_p_ tf_p_ cf_p_ g o_17] 3 [0, 1, 2] rfl rfl (by decide) hP hD
      have hPc : va_P (dC, dI) vwCl (offS ad_18 tp_p_ hd_p_ tf_p_ cf_p_ g o_17) H := P_r hPs
      have hDc : va_D A (offS ad_18 tp_p_ hd_p_ tf_p_ cf_p_ g o_17) := D_r hDs
      have hFc : ∀ q, va_A (offS ad_18 tp_p_ hd_p_ tf_p_ cf_p_ g o_17) H.size q → A q := A_all hDc hA hS.1
      refine vx_calli (vx_runV (As := [.int tape, .int (b2i sk0_9)]) (rest := []) ⟨hx, hb, hml, hown, hts⟩ (p_thin l hlf dC dI g tp_p_ hd_p_ tf_p_ cf_p_ htf_p_ hcf_p_ ad_18 t_p_ had_18 o_17 tape sk0_9 (hw := hw) (sz := H.size)) (cwV 2 hts (gqV aw_6_96 aw_6_97 aw_6_98 aw_1_1 aw_6_99) rfl rfl rfl (by decide +kernel) ⟨Nat.le_of_ble_eq_true rfl, Nat.le_of_ble_eq_true rfl⟩) ⟨PG_blind, off_recv had_18 hK hPc, PG_call hK hG hS hPc hDc hFc⟩ rfl rfl hl.1 rfl (lv_room (Nat.le_of_ble_eq_true rfl)) dL_isThinned_115 ⟨by rw [hrc]; omega, by rw [hrs]; omega⟩) hS (fun q _ h => hFc q h) hFc (fun q _ h => hFc q h) (fun E ce q9 ux t H1 locs1 ht hvm hp9 hB9 hz hk hS9 hce hcv hcl => ?_) (fun r_19 u_19 t_19 H_19 L_19 ht_19 hvm_19 hw_19 hB_19 hz_19 hk_19 hS => ?_)
      · exact (hB9.1.1).elim
      obtain ⟨ad_20, o_21⟩ := u_19
      obtain ⟨hw, had_20⟩ := hw_19
      rw [ht_19] at hB_19
      obtain ⟨hP1, hD1⟩ := hB_19
      obtain ⟨hP, hD⟩ := join_r hPs hDs hk_19 hFc hP1 hD1
      obtain ⟨hP, hD⟩ := seg_join [[(a_r_, .inl (g 0, n_r_, .inl r__8))], [(a_q_4, .inl (g 0, n_5, .inl q_6))]] [offS ad_20 tp_p_ hd_p_ tf_p_ cf_p_ g o_21] [[(a_r_, .inl (g 0, n_r_, .inl r__8))], [(a_q_4, .inl (g 0, n_5, .inl q_6))], offS ad_20 tp_p_ hd_p_ tf_p_ cf_p_ g o_21] 3 [0, 1, 2] rfl rfl (by decide) hP hD
      have hP : va_P (dC, dI) vwCl ([(a_r_, .inl (g 0, n_r_, .inl r__8)), (a_q_4, .inl (g 0, n_5, .inl q_6))] ++ (offS ad_20 tp_p_ hd_p_ tf_p_ cf_p_ g o_21)) H_19 := hP
      have hD : va_D A ([(a_r_, .inl (g 0, n_r_, .inl r__8)), (a_q_4, .inl (g 0, n_5, .inl q_6))] ++ (offS ad_20 tp_p_ hd_p_ tf_p_ cf_p_ g o_21)) := hD
      refine W.widen (k := 407) (n := 2636) (by omega) (by omega) ?_
      refine lv_aload_n hx hb dL_isThinned_118 rfl (lv_at hl 2 rfl) ?_
      refine va_alen hx hb hK hP 1 0 rfl rfl (v := nI n_5) rfl dL_isThinned_119 ?_
      refine lv_iload hx hb dL_isThinned_120 (lv_at hl 5 rfl) ?_
      refine lv_isub hx hb dL_isThinned_122 ?_
      refine lv_topi (fun x_22 ex_22 => ?_)
      have hw := hw x_22 ex_22
      refine lv_icmp_ne (tgt := 168) hx hb dL_isThinned_123 (by decide) (fun c_23 => ?_) (fun c_23 => ?_)
      · have hw := hw.2 c_23
        refine lv_iconst (v := 0) hx hb dL_isThinned_168 (by decide) ?_
        refine W.widen (k := 410) (n := 2654) (by omega) (by omega) ?_
        subst hQM
        obtain ⟨hP, hD⟩ := seg_sub (segs := [[(a_r_, .inl (g 0, n_r_, .inl r__8))], [(a_q_4, .inl (g 0, n_5, .inl q_6))], offS ad_20 tp_p_ hd_p_ tf_p_ cf_p_ g o_21]) [[(a_r_, .inl (g 0, n_r_, .inl r__8))], offS ad_20 tp_p_ hd_p_ tf_p_ cf_p_ g o_21] [[(a_q_4, .inl (g 0, n_5, .inl q_6))]] 3 [0, 2, 1] rfl rfl (by decide) hP hD
        exact W.zret (v := 0) hx hb hr rfl (fun t ht hW => ⟨⟨_, (r__8, ad_20, o_21, ()), rfl, ⟨false, rfl, ⟨hw, had_20⟩⟩, ⟨P_at ht hP, hD⟩⟩, hS.F ht⟩) hS.2.2 dL_isThinned_169
      · have hw := hw.1 c_23
        refine lv_aload_n hx hb dL_isThinned_126 rfl (lv_at hl 0 rfl) ?_
        refine lv_iload_n hx hb dL_isThinned_127 rfl (lv_at hl 1 rfl) ?_
        obtain ⟨hPs, hDs⟩ := seg_call (segs := [[(a_r_, .inl (g 0, n_r_, .inl r__8))], [(a_q_4, .inl (g 0, n_5, .inl q_6))], offS ad_20 tp_p_ hd_p_ tf_p_ cf_p_ g o_21]) [[(a_r_, .inl (g 0, n_r_, .inl r__8))], [(a_q_4, .inl (g 0, n_5, .inl q_6))]] [offS ad_20 tp_p_ hd_p_ tf_p_ cf_p_ g o_21] 3 [0, 1, 2] rfl rfl (by decide) hP hD
        have hPc : va_P (dC, dI) vwCl (offS ad_20 tp_p_ hd_p_ tf_p_ cf_p_ g o_21) H_19 := P_r hPs
        have hDc : va_D A (offS ad_20 tp_p_ hd_p_ tf_p_ cf_p_ g o_21) := D_r hDs
        have hFc : ∀ q, va_A (offS ad_20 tp_p_ hd_p_ tf_p_ cf_p_ g o_21) H_19.size q → A q := A_all hDc hA hS.1
        refine vx_calli (vx_runV (As := [.int tape]) (rest := []) ⟨hx, hb, hml, hown, hts⟩ (p_digest l hlf dC dI g tp_p_ hd_p_ tf_p_ cf_p_ htf_p_ hcf_p_ ad_20 t_p_ had_20 o_21 tape (hw := hw) (sz := H_19.size)) (cwV 1 hts (gqV aw_6_100 aw_6_101 aw_6_102 aw_1_1 aw_6_103) rfl rfl rfl (by decide +kernel) ⟨Nat.le_of_ble_eq_true rfl, Nat.le_of_ble_eq_true rfl⟩) ⟨PG_blind, off_recv had_20 hK hPc, PG_call hK hG hS hPc hDc hFc⟩ rfl rfl hl.1 rfl (lv_room (Nat.le_of_ble_eq_true rfl)) dL_isThinned_128 ⟨by rw [hrc]; omega, by rw [hrs]; omega⟩) hS (fun q _ h => hFc q h) hFc (fun q _ h => hFc q h) (fun E ce q9 ux t H1 locs1 ht hvm hp9 hB9 hz hk hS9 hce hcv hcl => ?_) (fun r_24 u_24 t_24 H_24 L_24 ht_24 hvm_24 hw_24 hB_24 hz_24 hk_24 hS => ?_)
        · exact (hB9.1.1).elim
        obtain ⟨ad_25, o_26⟩ := u_24
        obtain ⟨hw, had_25⟩ := hw_24
        rw [ht_24] at hB_24
        obtain ⟨hP1, hD1⟩ := hB_24
        obtain ⟨hP, hD⟩ := join_r hPs hDs hk_24 hFc hP1 hD1
        obtain ⟨hP, hD⟩ := seg_join [[(a_r_, .inl (g 0, n_r_, .inl r__8))], [(a_q_4, .inl (g 0, n_5, .inl q_6))]] [offS ad_25 tp_p_ hd_p_ tf_p_ cf_p_ g o_26] [[(a_r_, .inl (g 0, n_r_, .inl r__8))], [(a_q_4, .inl (g 0, n_5, .inl q_6))], offS ad_25 tp_p_ hd_p_ tf_p_ cf_p_ g o_26] 3 [0, 1, 2] rfl rfl (by decide) hP hD
        have hP : va_P (dC, dI) vwCl ([(a_r_, .inl (g 0, n_r_, .inl r__8)), (a_q_4, .inl (g 0, n_5, .inl q_6))] ++ (offS ad_25 tp_p_ hd_p_ tf_p_ cf_p_ g o_26)) H_24 := hP
        have hD : va_D A ([(a_r_, .inl (g 0, n_r_, .inl r__8)), (a_q_4, .inl (g 0, n_5, .inl q_6))] ++ (offS ad_25 tp_p_ hd_p_ tf_p_ cf_p_ g o_26)) := hD
        refine W.widen (k := 408) (n := 2642) (by omega) (by omega) ?_
        refine lv_iload hx hb dL_isThinned_131 (lv_at hl 4 rfl) ?_
        refine lv_icmp_ne (tgt := 168) hx hb dL_isThinned_133 (by decide) (fun c_27 => ?_) (fun c_27 => ?_)
        · have hw := hw.2 c_27
          refine lv_iconst (v := 0) hx hb dL_isThinned_168 (by decide) ?_
          refine W.widen (k := 410) (n := 2654) (by omega) (by omega) ?_
          subst hQM
          obtain ⟨hP, hD⟩ := seg_sub (segs := [[(a_r_, .inl (g 0, n_r_, .inl r__8))], [(a_q_4, .inl (g 0, n_5, .inl q_6))], offS ad_25 tp_p_ hd_p_ tf_p_ cf_p_ g o_26]) [[(a_r_, .inl (g 0, n_r_, .inl r__8))], offS ad_25 tp_p_ hd_p_ tf_p_ cf_p_ g o_26] [[(a_q_4, .inl (g 0, n_5, .inl q_6))]] 3 [0, 2, 1] rfl rfl (by decide) hP hD
          exact W.zret (v := 0) hx hb hr rfl (fun t ht hW => ⟨⟨_, (r__8, ad_25, o_26, ()), rfl, ⟨false, rfl, ⟨hw, had_25⟩⟩, ⟨P_at ht hP, hD⟩⟩, hS.F ht⟩) hS.2.2 dL_isThinned_169
        · have hw := hw.1 c_27
          refine lv_aload_n hx hb dL_isThinned_136 rfl (lv_at hl 0 rfl) ?_
          refine lv_iload_n hx hb dL_isThinned_137 rfl (lv_at hl 1 rfl) ?_
          refine lv_iload hx hb dL_isThinned_138 (lv_at hl 3 rfl) ?_
          have JN148 : ∀ (sk0_28 : Bool) (H : Heap) (locs : List Loc), (wj_L_isThinned_148 tape Q r__8 v6_15 o_26) sk0_28 → va_P (dC, dI) vwCl ([(a_r_, .inl (g 0, n_r_, .inl r__8))] ++ (offS ad_25 tp_p_ hd_p_ tf_p_ cf_p_ g o_26)) H → va_D A ([(a_r_, .inl (g 0, n_r_, .inl r__8))] ++ (offS ad_25 tp_p_ hd_p_ tf_p_ cf_p_ g o_26)) → va_S A s.heap H locs → ∀ (ls : Array Slot), lv_has ls 9 [(0, .ref t_p_), (2, .int tape), (6, .int v6_15)] → W p l e (headSpec wqL_isThinned ({ frames := 9, cells := 410, slots := 2654, locals := 149 })).room s m ([.ref t_p_, .ref a_r_, .int tape] : List Value).toArray below meth c H locs 408 2642 QM (F0 m 148 ls [.int (b2i sk0_28), .int tape, .ref t_p_]) := by
            intro sk0_28 H locs hw hP hD hS ls hl
            obtain ⟨hPs, hDs⟩ := seg_call (segs := [[(a_r_, .inl (g 0, n_r_, .inl r__8))], offS ad_25 tp_p_ hd_p_ tf_p_ cf_p_ g o_26]) [[(a_r_, .inl (g 0, n_r_, .inl r__8))]] [offS ad_25 tp_p_ hd_p_ tf_p_ cf_p_ g o_26] 2 [0, 1] rfl rfl (by decide) hP hD
            have hPc : va_P (dC, dI) vwCl (offS ad_25 tp_p_ hd_p_ tf_p_ cf_p_ g o_26) H := P_r hPs
            have hDc : va_D A (offS ad_25 tp_p_ hd_p_ tf_p_ cf_p_ g o_26) := D_r hDs
            have hFc : ∀ q, va_A (offS ad_25 tp_p_ hd_p_ tf_p_ cf_p_ g o_26) H.size q → A q := A_all hDc hA hS.1
            refine vx_calli (vx_runV (As := [.int tape, .int (b2i sk0_28)]) (rest := []) ⟨hx, hb, hml, hown, hts⟩ (p_thin l hlf dC dI g tp_p_ hd_p_ tf_p_ cf_p_ htf_p_ hcf_p_ ad_25 t_p_ had_25 o_26 tape sk0_28 (hw := hw) (sz := H.size)) (cwV 2 hts (gqV aw_6_96 aw_6_97 aw_6_98 aw_1_1 aw_6_99) rfl rfl rfl (by decide +kernel) ⟨Nat.le_of_ble_eq_true rfl, Nat.le_of_ble_eq_true rfl⟩) ⟨PG_blind, off_recv had_25 hK hPc, PG_call hK hG hS hPc hDc hFc⟩ rfl rfl hl.1 rfl (lv_room (Nat.le_of_ble_eq_true rfl)) dL_isThinned_148 ⟨by rw [hrc]; omega, by rw [hrs]; omega⟩) hS (fun q _ h => hFc q h) hFc (fun q _ h => hFc q h) (fun E ce q9 ux t H1 locs1 ht hvm hp9 hB9 hz hk hS9 hce hcv hcl => ?_) (fun r_29 u_29 t_29 H_29 L_29 ht_29 hvm_29 hw_29 hB_29 hz_29 hk_29 hS => ?_)
            · exact (hB9.1.1).elim
            obtain ⟨ad_30, o_31⟩ := u_29
            obtain ⟨hw, had_30⟩ := hw_29
            rw [ht_29] at hB_29
            obtain ⟨hP1, hD1⟩ := hB_29
            obtain ⟨hP, hD⟩ := join_r hPs hDs hk_29 hFc hP1 hD1
            obtain ⟨hP, hD⟩ := seg_join [[(a_r_, .inl (g 0, n_r_, .inl r__8))]] [offS ad_30 tp_p_ hd_p_ tf_p_ cf_p_ g o_31] [[(a_r_, .inl (g 0, n_r_, .inl r__8))], offS ad_30 tp_p_ hd_p_ tf_p_ cf_p_ g o_31] 2 [0, 1] rfl rfl (by decide) hP hD
            have hP : va_P (dC, dI) vwCl ([(a_r_, .inl (g 0, n_r_, .inl r__8))] ++ (offS ad_30 tp_p_ hd_p_ tf_p_ cf_p_ g o_31)) H_29 := hP
            have hD : va_D A ([(a_r_, .inl (g 0, n_r_, .inl r__8))] ++ (offS ad_30 tp_p_ hd_p_ tf_p_ cf_p_ g o_31)) := hD
            refine W.widen (k := 409) (n := 2648) (by omega) (by omega) ?_
            refine lv_if_ne (tgt := 168) hx hb dL_isThinned_151 (by decide) (fun c_32 => ?_) (fun c_32 => ?_)
            · have hw := hw.2 c_32
              refine lv_iconst (v := 0) hx hb dL_isThinned_168 (by decide) ?_
              refine W.widen (k := 410) (n := 2654) (by omega) (by omega) ?_
              subst hQM
              exact W.zret (v := 0) hx hb hr rfl (fun t ht hW => ⟨⟨_, (r__8, ad_30, o_31, ()), rfl, ⟨false, rfl, ⟨hw, had_30⟩⟩, ⟨P_at ht hP, hD⟩⟩, hS.F ht⟩) hS.2.2 dL_isThinned_169
            · have hw := hw.1 c_32
              refine lv_aload_n hx hb dL_isThinned_154 rfl (lv_at hl 0 rfl) ?_
              refine lv_iload_n hx hb dL_isThinned_155 rfl (lv_at hl 1 rfl) ?_
              obtain ⟨hPs, hDs⟩ := seg_call (segs := [[(a_r_, .inl (g 0, n_r_, .inl r__8))], offS ad_30 tp_p_ hd_p_ tf_p_ cf_p_ g o_31]) [[(a_r_, .inl (g 0, n_r_, .inl r__8))]] [offS ad_30 tp_p_ hd_p_ tf_p_ cf_p_ g o_31] 2 [0, 1] rfl rfl (by decide) hP hD
              have hPc : va_P (dC, dI) vwCl (offS ad_30 tp_p_ hd_p_ tf_p_ cf_p_ g o_31) H_29 := P_r hPs
              have hDc : va_D A (offS ad_30 tp_p_ hd_p_ tf_p_ cf_p_ g o_31) := D_r hDs
              have hFc : ∀ q, va_A (offS ad_30 tp_p_ hd_p_ tf_p_ cf_p_ g o_31) H_29.size q → A q := A_all hDc hA hS.1
              refine vx_calli (vx_runV (As := [.int tape]) (rest := []) ⟨hx, hb, hml, hown, hts⟩ (p_length l hlf dC dI g tp_p_ hd_p_ tf_p_ cf_p_ htf_p_ hcf_p_ ad_30 t_p_ had_30 o_31 tape (hw := hw) (sz := H_29.size)) (cwV 1 hts (gqV aw_3_161 aw_3_162 aw_3_163 aw_1_1 aw_3_164) rfl rfl rfl (by decide +kernel) ⟨Nat.le_of_ble_eq_true rfl, Nat.le_of_ble_eq_true rfl⟩) ⟨PG_blind, off_recv had_30 hK hPc, PG_call hK hG hS hPc hDc hFc⟩ rfl rfl hl.1 rfl (lv_room (Nat.le_of_ble_eq_true rfl)) dL_isThinned_156 ⟨by rw [hrc]; omega, by rw [hrs]; omega⟩) hS (fun q _ h => hFc q h) hFc (fun q _ h => hFc q h) (fun E ce q9 ux t H1 locs1 ht hvm hp9 hB9 hz hk hS9 hce hcv hcl => ?_) (fun r_33 u_33 t_33 H_33 L_33 ht_33 hvm_33 hw_33 hB_33 hz_33 hk_33 hS => ?_)
              · exact (hB9.1.1).elim
              obtain ⟨ad_34, o_35⟩ := u_33
              obtain ⟨hw, had_34⟩ := hw_33
              rw [ht_33] at hB_33
              obtain ⟨hP1, hD1⟩ := hB_33
              obtain ⟨hP, hD⟩ := join_r hPs hDs hk_33 hFc hP1 hD1
              obtain ⟨hP, hD⟩ := seg_join [[(a_r_, .inl (g 0, n_r_, .inl r__8))]] [offS ad_34 tp_p_ hd_p_ tf_p_ cf_p_ g o_35] [[(a_r_, .inl (g 0, n_r_, .inl r__8))], offS ad_34 tp_p_ hd_p_ tf_p_ cf_p_ g o_35] 2 [0, 1] rfl rfl (by decide) hP hD
              have hP : va_P (dC, dI) vwCl ([(a_r_, .inl (g 0, n_r_, .inl r__8))] ++ (offS ad_34 tp_p_ hd_p_ tf_p_ cf_p_ g o_35)) H_33 := hP
              have hD : va_D A ([(a_r_, .inl (g 0, n_r_, .inl r__8))] ++ (offS ad_34 tp_p_ hd_p_ tf_p_ cf_p_ g o_35)) := hD
              refine W.widen (k := 410) (n := 2654) (by omega) (by omega) ?_
              refine lv_iload hx hb dL_isThinned_159 (lv_at hl 2 rfl) ?_
              refine lv_icmp_ne (tgt := 168) hx hb dL_isThinned_161 (by decide) (fun c_36 => ?_) (fun c_36 => ?_)
              · have hw := hw.2 c_36
                refine lv_iconst (v := 0) hx hb dL_isThinned_168 (by decide) ?_
                refine W.widen (k := 410) (n := 2654) (by omega) (by omega) ?_
                subst hQM
                exact W.zret (v := 0) hx hb hr rfl (fun t ht hW => ⟨⟨_, (r__8, ad_34, o_35, ()), rfl, ⟨false, rfl, ⟨hw, had_34⟩⟩, ⟨P_at ht hP, hD⟩⟩, hS.F ht⟩) hS.2.2 dL_isThinned_169
              · have hw := hw.1 c_36
                refine lv_iconst (v := 1) hx hb dL_isThinned_164 (by decide) ?_
                refine lv_goto (tgt := 169) hx hb dL_isThinned_165 (by decide) ?_
                refine W.widen (k := 410) (n := 2654) (by omega) (by omega) ?_
                subst hQM
                exact W.zret (v := 1) hx hb hr rfl (fun t ht hW => ⟨⟨_, (r__8, ad_34, o_35, ()), rfl, ⟨true, rfl, ⟨hw, had_34⟩⟩, ⟨P_at ht hP, hD⟩⟩, hS.F ht⟩) hS.2.2 dL_isThinned_169
          refine lv_if_ne (tgt := 147) hx hb dL_isThinned_140 (by decide) (fun c_37 => ?_) (fun c_37 => ?_)
          · have hw := hw.2 (b2i_1 c_37)
            refine lv_iconst (v := 0) hx hb dL_isThinned_147 (by decide) ?_
            obtain ⟨hP, hD⟩ := seg_sub (segs := [[(a_r_, .inl (g 0, n_r_, .inl r__8))], [(a_q_4, .inl (g 0, n_5, .inl q_6))], offS ad_25 tp_p_ hd_p_ tf_p_ cf_p_ g o_26]) [[(a_r_, .inl (g 0, n_r_, .inl r__8))], offS ad_25 tp_p_ hd_p_ tf_p_ cf_p_ g o_26] [[(a_q_4, .inl (g 0, n_5, .inl q_6))]] 3 [0, 2, 1] rfl rfl (by decide) hP hD
            refine W.widen (k := 408) (n := 2642) (by omega) (by omega) ?_
            exact JN148 false _ _ hw hP hD hS _ (lv_sub hl [0, 1, 5] rfl)
          · have hw := hw.1 (b2i_0 c_37)
            refine lv_iconst (v := 1) hx hb dL_isThinned_143 (by decide) ?_
            refine lv_goto (tgt := 148) hx hb dL_isThinned_144 (by decide) ?_
            obtain ⟨hP, hD⟩ := seg_sub (segs := [[(a_r_, .inl (g 0, n_r_, .inl r__8))], [(a_q_4, .inl (g 0, n_5, .inl q_6))], offS ad_25 tp_p_ hd_p_ tf_p_ cf_p_ g o_26]) [[(a_r_, .inl (g 0, n_r_, .inl r__8))], offS ad_25 tp_p_ hd_p_ tf_p_ cf_p_ g o_26] [[(a_q_4, .inl (g 0, n_5, .inl q_6))]] 3 [0, 2, 1] rfl rfl (by decide) hP hD
            refine W.widen (k := 408) (n := 2642) (by omega) (by omega) ?_
            exact JN148 true _ _ hw hP hD hS _ (lv_sub hl [0, 1, 5] rfl)
    have LOOP31 : ∀ (n31 : Nat), n31 ≤ 101 → ∀ (v7_10 : Int32) (v6_11 : Int32) (v5_12 : Int32) (o_13 : OS) (ad_14 : Nat → Nat) (had_14 : ad_14 0 = t_p_) (H : Heap) (locs : List Loc), wl_L_isThinned_31 n_5 q_6 sk0_9 (wx_L_isThinned_31_111 tape Q n_5 r__8 sk0_9) n31 v7_10 v6_11 v5_12 o_13 → va_P (dC, dI) vwCl ([(a_r_, .inl (g 0, n_r_, .inl r__8)), (a_q_4, .inl (g 0, n_5, .inl q_6))] ++ (offS ad_14 tp_p_ hd_p_ tf_p_ cf_p_ g o_13)) H → va_D A ([(a_r_, .inl (g 0, n_r_, .inl r__8)), (a_q_4, .inl (g 0, n_5, .inl q_6))] ++ (offS ad_14 tp_p_ hd_p_ tf_p_ cf_p_ g o_13)) → va_S A s.heap H locs → ∀ (ls : Array Slot), lv_has ls 9 [(0, .ref t_p_), (2, .int tape), (3, .ref a_q_4), (4, .int (b2i sk0_9)), (5, .int v5_12), (6, .int v6_11), (7, .int v7_10)] → W p l e (headSpec wqL_isThinned ({ frames := 9, cells := 410, slots := 2654, locals := 149 })).room s m ([.ref t_p_, .ref a_r_, .int tape] : List Value).toArray below meth c H locs (406 - n31 * 2) (2630 - n31 * 12) QM (F0 m 31 ls []) := by
      intro n31
      induction n31 with
      | zero =>
        intro hle_n31
        intro v7_10 v6_11 v5_12 o_13 ad_14 had_14 H locs hw hP hD hS ls hl
        exact False.elim hw
      | succ n31 ih31 =>
        intro hle_n31
        have ih31 := ih31 (by omega)
        intro v7_10 v6_11 v5_12 o_13 ad_14 had_14 H locs hw hP hD hS ls hl
        rw [wl_L_isThinned_31_s] at hw
        obtain ⟨kb31, hkb31⟩ : ∃ x : Nat, x = 406 - (n31 + 1) * 2 := ⟨_, rfl⟩
        obtain ⟨nb31, hnb31⟩ : ∃ x : Nat, x = 2630 - (n31 + 1) * 12 := ⟨_, rfl⟩
        refine W.widen (k := kb31) (n := nb31) (by omega) (by omega) ?_
        refine lv_iload hx hb dL_isThinned_31 (lv_at hl 6 rfl) ?_
        refine lv_aload_n hx hb dL_isThinned_33 rfl (lv_at hl 2 rfl) ?_
        refine va_alen hx hb hK hP 1 0 rfl rfl (v := nI n_5) rfl dL_isThinned_34 ?_
        refine lv_icmp_ge (tgt := 111) hx hb dL_isThinned_35 (by decide) (fun c_38 => ?_) (fun c_38 => ?_)
        · have hw := hw.1 c_38
          refine W.widen (k := 406) (n := 2630) (by omega) (by omega) ?_
          exact EX31_111 v6_11 v5_12 o_13 ad_14 had_14 _ _ hw hP hD hS _ (lv_sub hl [0, 1, 2, 3, 4, 5] rfl)
        · have hw := hw.2 c_38
          refine lv_iload hx hb dL_isThinned_38 (lv_at hl 3 rfl) ?_
          have JN54 : ∀ (sk0_39 : Int32) (H : Heap) (locs : List Loc), (wj_L_isThinned_54 n_5 q_6 v7_10 v6_11 v5_12 o_13 (wl_L_isThinned_31 n_5 q_6 sk0_9 (wx_L_isThinned_31_111 tape Q n_5 r__8 sk0_9) n31)) sk0_39 → va_P (dC, dI) vwCl ([(a_r_, .inl (g 0, n_r_, .inl r__8)), (a_q_4, .inl (g 0, n_5, .inl q_6))] ++ (offS ad_14 tp_p_ hd_p_ tf_p_ cf_p_ g o_13)) H → va_D A ([(a_r_, .inl (g 0, n_r_, .inl r__8)), (a_q_4, .inl (g 0, n_5, .inl q_6))] ++ (offS ad_14 tp_p_ hd_p_ tf_p_ cf_p_ g o_13)) → va_S A s.heap H locs → ∀ (ls : Array Slot), lv_has ls 9 [(0, .ref t_p_), (2, .int tape), (3, .ref a_q_4), (4, .int (b2i sk0_9)), (5, .int v5_12), (6, .int v6_11), (7, .int v7_10)] → W p l e (headSpec wqL_isThinned ({ frames := 9, cells := 410, slots := 2654, locals := 149 })).room s m ([.ref t_p_, .ref a_r_, .int tape] : List Value).toArray below meth c H locs (kb31 + 0) (nb31 + 0) QM (F0 m 54 ls [.int sk0_39]) := by
            intro sk0_39 H locs hw hP hD hS ls hl
            refine lv_istore (lv' := [(8, .int sk0_39), (0, .ref t_p_), (2, .int tape), (3, .ref a_q_4), (4, .int (b2i sk0_9)), (5, .int v5_12), (6, .int v6_11), (7, .int v7_10)]) hx hb dL_isThinned_54 hl (by decide) rfl (fun ls hl => ?_)
            refine lv_iload hx hb dL_isThinned_56 (lv_at hl 0 rfl) ?_
            have JN90 : ∀ (o_40 : OS) (ad_41 : Nat → Nat) (had_41 : ad_41 0 = t_p_) (H : Heap) (locs : List Loc), (wj_L_isThinned_90 n_5 q_6 v7_10 v6_11 v5_12 (wl_L_isThinned_31 n_5 q_6 sk0_9 (wx_L_isThinned_31_111 tape Q n_5 r__8 sk0_9) n31)) o_40 → va_P (dC, dI) vwCl ([(a_r_, .inl (g 0, n_r_, .inl r__8)), (a_q_4, .inl (g 0, n_5, .inl q_6))] ++ (offS ad_41 tp_p_ hd_p_ tf_p_ cf_p_ g o_40)) H → va_D A ([(a_r_, .inl (g 0, n_r_, .inl r__8)), (a_q_4, .inl (g 0, n_5, .inl q_6))] ++ (offS ad_41 tp_p_ hd_p_ tf_p_ cf_p_ g o_40)) → va_S A s.heap H locs → ∀ (ls : Array Slot), lv_has ls 9 [(0, .ref t_p_), (2, .int tape), (3, .ref a_q_4), (4, .int (b2i sk0_9)), (5, .int v5_12), (6, .int v6_11), (7, .int v7_10)] → W p l e (headSpec wqL_isThinned ({ frames := 9, cells := 410, slots := 2654, locals := 149 })).room s m ([.ref t_p_, .ref a_r_, .int tape] : List Value).toArray below meth c H locs (kb31 + 2) (nb31 + 12) QM (F0 m 90 ls []) := by
              intro o_40 ad_41 had_41 H locs hw hP hD hS ls hl
              refine lv_bipush (v := 31) hx hb dL_isThinned_90 (by decide) ?_
              refine lv_iload hx hb dL_isThinned_92 (lv_at hl 4 rfl) ?_
              refine lv_imul hx hb dL_isThinned_94 ?_
              refine lv_topi (fun x_42 ex_42 => ?_)
              have hw := hw x_42 ex_42
              refine lv_aload_n hx hb dL_isThinned_95 rfl (lv_at hl 2 rfl) ?_
              refine lv_iload hx hb dL_isThinned_96 (lv_at hl 6 rfl) ?_
              refine va_iald hx hb hK hP 1 0 rfl rfl hw.1 dL_isThinned_98 ?_
              have hw := hw.2
              refine lv_topi (fun x_43 ex_43 => ?_)
              have hw := hw x_43 ex_43
              refine lv_iadd hx hb dL_isThinned_99 ?_
              refine lv_topi (fun x_44 ex_44 => ?_)
              have hw := hw x_44 ex_44
              refine lv_istore (lv' := [(5, .int x_44), (0, .ref t_p_), (2, .int tape), (3, .ref a_q_4), (4, .int (b2i sk0_9)), (6, .int v6_11), (7, .int v7_10)]) hx hb dL_isThinned_100 hl (by decide) rfl (fun ls hl => ?_)
              obtain ⟨x_45, ex_45⟩ : ∃ y : Int32, y = v6_11 + 1 := ⟨_, rfl⟩
              have hw := hw x_45 ex_45
              refine lv_iinc (v := x_45) (lv' := [(6, .int x_45), (5, .int x_44), (0, .ref t_p_), (2, .int tape), (3, .ref a_q_4), (4, .int (b2i sk0_9)), (7, .int v7_10)]) hx hb dL_isThinned_102 hl (k := 5) rfl (by rw [ex_45]; rfl) (by decide) rfl (fun ls hl => ?_)
              obtain ⟨x_46, ex_46⟩ : ∃ y : Int32, y = v7_10 + 1 := ⟨_, rfl⟩
              have hw := hw x_46 ex_46
              refine lv_iinc (v := x_46) (lv' := [(7, .int x_46), (6, .int x_45), (5, .int x_44), (0, .ref t_p_), (2, .int tape), (3, .ref a_q_4), (4, .int (b2i sk0_9))]) hx hb dL_isThinned_105 hl (k := 6) rfl (by rw [ex_46]; rfl) (by decide) rfl (fun ls hl => ?_)
              refine lv_goto (tgt := 31) hx hb dL_isThinned_108 (by decide) ?_
              refine W.widen (k := (406 - n31 * 2)) (n := (2630 - n31 * 12)) (by omega) (by omega) ?_
              exact ih31 x_46 x_45 x_44 o_40 ad_41 had_41 _ _ hw hP hD hS _ (lv_sub hl [3, 4, 5, 6, 2, 1, 0] rfl)
            refine lv_if_lt (tgt := 90) hx hb dL_isThinned_58 (by decide) (fun c_47 => ?_) (fun c_47 => ?_)
            · have hw := hw.1 c_47
              refine W.widen (k := (kb31 + 2)) (n := (nb31 + 12)) (by omega) (by omega) ?_
              exact JN90 o_13 ad_14 had_14 _ _ hw hP hD hS _ (lv_sub hl [1, 2, 3, 4, 5, 6, 7] rfl)
            · have hw := hw.2 c_47
              refine lv_iload hx hb dL_isThinned_61 (lv_at hl 0 rfl) ?_
              refine lv_aload_n hx hb dL_isThinned_63 rfl (lv_at hl 3 rfl) ?_
              refine va_alen hx hb hK hP 1 0 rfl rfl (v := nI n_5) rfl dL_isThinned_64 ?_
              refine lv_icmp_ge (tgt := 90) hx hb dL_isThinned_65 (by decide) (fun c_48 => ?_) (fun c_48 => ?_)
              · have hw := hw.1 c_48
                refine W.widen (k := (kb31 + 2)) (n := (nb31 + 12)) (by omega) (by omega) ?_
                exact JN90 o_13 ad_14 had_14 _ _ hw hP hD hS _ (lv_sub hl [1, 2, 3, 4, 5, 6, 7] rfl)
              · have hw := hw.2 c_48
                refine lv_aload_n hx hb dL_isThinned_68 rfl (lv_at hl 1 rfl) ?_
                refine lv_aload_n hx hb dL_isThinned_69 rfl (lv_at hl 3 rfl) ?_
                refine lv_iload hx hb dL_isThinned_70 (lv_at hl 0 rfl) ?_
                refine va_iald hx hb hK hP 1 0 rfl rfl hw.1 dL_isThinned_72 ?_
                have hw := hw.2
                refine lv_topi (fun x_49 ex_49 => ?_)
                have hw := hw x_49 ex_49
                obtain ⟨hPs, hDs⟩ := seg_call (segs := [[(a_r_, .inl (g 0, n_r_, .inl r__8))], [(a_q_4, .inl (g 0, n_5, .inl q_6))], offS ad_14 tp_p_ hd_p_ tf_p_ cf_p_ g o_13]) [[(a_r_, .inl (g 0, n_r_, .inl r__8))], [(a_q_4, .inl (g 0, n_5, .inl q_6))]] [offS ad_14 tp_p_ hd_p_ tf_p_ cf_p_ g o_13] 3 [0, 1, 2] rfl rfl (by decide) hP hD
                have hPc : va_P (dC, dI) vwCl (offS ad_14 tp_p_ hd_p_ tf_p_ cf_p_ g o_13) H := P_r hPs
                have hDc : va_D A (offS ad_14 tp_p_ hd_p_ tf_p_ cf_p_ g o_13) := D_r hDs
                have hFc : ∀ q, va_A (offS ad_14 tp_p_ hd_p_ tf_p_ cf_p_ g o_13) H.size q → A q := A_all hDc hA hS.1
                refine vx_calli (vx_runV (As := [.int x_49]) (rest := []) ⟨hx, hb, hml, hown, hts⟩ (p_key l hlf dC dI g tp_p_ hd_p_ tf_p_ cf_p_ htf_p_ hcf_p_ ad_14 t_p_ had_14 o_13 x_49 (hw := hw) (sz := H.size)) (cwV 1 hts (gqV aw_4_21 aw_4_22 aw_4_23 aw_1_1 aw_4_24) rfl rfl rfl (by decide +kernel) ⟨Nat.le_of_ble_eq_true rfl, Nat.le_of_ble_eq_true rfl⟩) ⟨PG_blind, off_recv had_14 hK hPc, PG_call hK hG hS hPc hDc hFc⟩ rfl rfl hl.1 rfl (lv_room (Nat.le_of_ble_eq_true rfl)) dL_isThinned_73 ⟨by rw [hrc]; omega, by rw [hrs]; omega⟩) hS (fun q _ h => hFc q h) hFc (fun q _ h => hFc q h) (fun E ce q9 ux t H1 locs1 ht hvm hp9 hB9 hz hk hS9 hce hcv hcl => ?_) (fun r_50 u_50 t_50 H_50 L_50 ht_50 hvm_50 hw_50 hB_50 hz_50 hk_50 hS => ?_)
                · exact (hB9.1.1).elim
                obtain ⟨ad_51, o_52⟩ := u_50
                obtain ⟨hw, had_51⟩ := hw_50
                rw [ht_50] at hB_50
                obtain ⟨hP1, hD1⟩ := hB_50
                obtain ⟨hP, hD⟩ := join_r hPs hDs hk_50 hFc hP1 hD1
                obtain ⟨hP, hD⟩ := seg_join [[(a_r_, .inl (g 0, n_r_, .inl r__8))], [(a_q_4, .inl (g 0, n_5, .inl q_6))]] [offS ad_51 tp_p_ hd_p_ tf_p_ cf_p_ g o_52] [[(a_r_, .inl (g 0, n_r_, .inl r__8))], [(a_q_4, .inl (g 0, n_5, .inl q_6))], offS ad_51 tp_p_ hd_p_ tf_p_ cf_p_ g o_52] 3 [0, 1, 2] rfl rfl (by decide) hP hD
                have hP : va_P (dC, dI) vwCl ([(a_r_, .inl (g 0, n_r_, .inl r__8)), (a_q_4, .inl (g 0, n_5, .inl q_6))] ++ (offS ad_51 tp_p_ hd_p_ tf_p_ cf_p_ g o_52)) H_50 := hP
                have hD : va_D A ([(a_r_, .inl (g 0, n_r_, .inl r__8)), (a_q_4, .inl (g 0, n_5, .inl q_6))] ++ (offS ad_51 tp_p_ hd_p_ tf_p_ cf_p_ g o_52)) := hD
                refine W.widen (k := (kb31 + 1)) (n := (nb31 + 6)) (by omega) (by omega) ?_
                refine lv_aload_n hx hb dL_isThinned_76 rfl (lv_at hl 1 rfl) ?_
                refine lv_aload_n hx hb dL_isThinned_77 rfl (lv_at hl 3 rfl) ?_
                refine lv_iload hx hb dL_isThinned_78 (lv_at hl 7 rfl) ?_
                refine va_iald hx hb hK hP 1 0 rfl rfl hw.1 dL_isThinned_80 ?_
                have hw := hw.2
                refine lv_topi (fun x_53 ex_53 => ?_)
                have hw := hw x_53 ex_53
                obtain ⟨hPs, hDs⟩ := seg_call (segs := [[(a_r_, .inl (g 0, n_r_, .inl r__8))], [(a_q_4, .inl (g 0, n_5, .inl q_6))], offS ad_51 tp_p_ hd_p_ tf_p_ cf_p_ g o_52]) [[(a_r_, .inl (g 0, n_r_, .inl r__8))], [(a_q_4, .inl (g 0, n_5, .inl q_6))]] [offS ad_51 tp_p_ hd_p_ tf_p_ cf_p_ g o_52] 3 [0, 1, 2] rfl rfl (by decide) hP hD
                have hPc : va_P (dC, dI) vwCl (offS ad_51 tp_p_ hd_p_ tf_p_ cf_p_ g o_52) H_50 := P_r hPs
                have hDc : va_D A (offS ad_51 tp_p_ hd_p_ tf_p_ cf_p_ g o_52) := D_r hDs
                have hFc : ∀ q, va_A (offS ad_51 tp_p_ hd_p_ tf_p_ cf_p_ g o_52) H_50.size q → A q := A_all hDc hA hS.1
                refine vx_calli (vx_runV (As := [.int x_53]) (rest := [.int r_50]) ⟨hx, hb, hml, hown, hts⟩ (p_key l hlf dC dI g tp_p_ hd_p_ tf_p_ cf_p_ htf_p_ hcf_p_ ad_51 t_p_ had_51 o_52 x_53 (hw := hw) (sz := H_50.size)) (cwV 1 hts (gqV aw_4_21 aw_4_22 aw_4_23 aw_1_1 aw_4_24) rfl rfl rfl (by decide +kernel) ⟨Nat.le_of_ble_eq_true rfl, Nat.le_of_ble_eq_true rfl⟩) ⟨PG_blind, off_recv had_51 hK hPc, PG_call hK hG hS hPc hDc hFc⟩ rfl rfl hl.1 rfl (lv_room (Nat.le_of_ble_eq_true rfl)) dL_isThinned_81 ⟨by rw [hrc]; omega, by rw [hrs]; omega⟩) hS (fun q _ h => hFc q h) hFc (fun q _ h => hFc q h) (fun E ce q9 ux t H1 locs1 ht hvm hp9 hB9 hz hk hS9 hce hcv hcl => ?_) (fun r_54 u_54 t_54 H_54 L_54 ht_54 hvm_54 hw_54 hB_54 hz_54 hk_54 hS => ?_)
                · exact (hB9.1.1).elim
                obtain ⟨ad_55, o_56⟩ := u_54
                obtain ⟨hw, had_55⟩ := hw_54
                rw [ht_54] at hB_54
                obtain ⟨hP1, hD1⟩ := hB_54
                obtain ⟨hP, hD⟩ := join_r hPs hDs hk_54 hFc hP1 hD1
                obtain ⟨hP, hD⟩ := seg_join [[(a_r_, .inl (g 0, n_r_, .inl r__8))], [(a_q_4, .inl (g 0, n_5, .inl q_6))]] [offS ad_55 tp_p_ hd_p_ tf_p_ cf_p_ g o_56] [[(a_r_, .inl (g 0, n_r_, .inl r__8))], [(a_q_4, .inl (g 0, n_5, .inl q_6))], offS ad_55 tp_p_ hd_p_ tf_p_ cf_p_ g o_56] 3 [0, 1, 2] rfl rfl (by decide) hP hD
                have hP : va_P (dC, dI) vwCl ([(a_r_, .inl (g 0, n_r_, .inl r__8)), (a_q_4, .inl (g 0, n_5, .inl q_6))] ++ (offS ad_55 tp_p_ hd_p_ tf_p_ cf_p_ g o_56)) H_54 := hP
                have hD : va_D A ([(a_r_, .inl (g 0, n_r_, .inl r__8)), (a_q_4, .inl (g 0, n_5, .inl q_6))] ++ (offS ad_55 tp_p_ hd_p_ tf_p_ cf_p_ g o_56)) := hD
                refine W.widen (k := (kb31 + 2)) (n := (nb31 + 12)) (by omega) (by omega) ?_
                refine lv_icmp_ne (tgt := 90) hx hb dL_isThinned_84 (by decide) (fun c_57 => ?_) (fun c_57 => ?_)
                · have hw := hw.2 c_57
                  refine W.widen (k := (kb31 + 2)) (n := (nb31 + 12)) (by omega) (by omega) ?_
                  exact JN90 o_56 ad_55 had_55 _ _ hw hP hD hS _ (lv_sub hl [1, 2, 3, 4, 5, 6, 7] rfl)
                · have hw := hw.1 c_57
                  refine lv_goto (tgt := 105) hx hb dL_isThinned_87 (by decide) ?_
                  obtain ⟨x_58, ex_58⟩ : ∃ y : Int32, y = v7_10 + 1 := ⟨_, rfl⟩
                  have hw := hw x_58 ex_58
                  refine lv_iinc (v := x_58) (lv' := [(7, .int x_58), (8, .int sk0_39), (0, .ref t_p_), (2, .int tape), (3, .ref a_q_4), (4, .int (b2i sk0_9)), (5, .int v5_12), (6, .int v6_11)]) hx hb dL_isThinned_105 hl (k := 7) rfl (by rw [ex_58]; rfl) (by decide) rfl (fun ls hl => ?_)
                  refine lv_goto (tgt := 31) hx hb dL_isThinned_108 (by decide) ?_
                  refine W.widen (k := (406 - n31 * 2)) (n := (2630 - n31 * 12)) (by omega) (by omega) ?_
                  exact ih31 x_58 v6_11 v5_12 o_56 ad_55 had_55 _ _ hw hP hD hS _ (lv_sub hl [2, 3, 4, 5, 6, 7, 0] rfl)
          refine lv_if_eq (tgt := 50) hx hb dL_isThinned_40 (by decide) (fun c_59 => ?_) (fun c_59 => ?_)
          · have hw := hw.1 (b2i_0 c_59)
            refine lv_iload hx hb dL_isThinned_50 (lv_at hl 6 rfl) ?_
            refine lv_iconst (v := 1) hx hb dL_isThinned_52 (by decide) ?_
            refine lv_isub hx hb dL_isThinned_53 ?_
            refine lv_topi (fun x_60 ex_60 => ?_)
            have hw := hw x_60 ex_60
            refine W.widen (k := (kb31 + 0)) (n := (nb31 + 0)) (by omega) (by omega) ?_
            exact JN54 x_60 _ _ hw hP hD hS _ (lv_sub hl [0, 1, 2, 3, 4, 5, 6] rfl)
          · have hw := hw.2 (b2i_1 c_59)
            refine lv_iload hx hb dL_isThinned_43 (lv_at hl 6 rfl) ?_
            refine lv_iconst (v := 1) hx hb dL_isThinned_45 (by decide) ?_
            refine lv_iadd hx hb dL_isThinned_46 ?_
            refine lv_topi (fun x_61 ex_61 => ?_)
            have hw := hw x_61 ex_61
            refine lv_goto (tgt := 54) hx hb dL_isThinned_47 (by decide) ?_
            refine W.widen (k := (kb31 + 0)) (n := (nb31 + 0)) (by omega) (by omega) ?_
            exact JN54 x_61 _ _ hw hP hD hS _ (lv_sub hl [0, 1, 2, 3, 4, 5, 6] rfl)
    obtain ⟨n31, hle31, hw⟩ := hw
    refine W.widen (k := (406 - n31 * 2)) (n := (2630 - n31 * 12)) (by omega) (by omega) ?_
    exact LOOP31 n31 hle31 0 0 7 o_3 ad_2 had_2 _ _ hw hP hD hS _ (lv_sub hl [4, 5, 6, 3, 2, 1, 0] rfl)
  refine lv_if_ne (tgt := 18) hx hb dL_isThinned_11 (by decide) (fun c_62 => ?_) (fun c_62 => ?_)
  · have hw := hw.2 c_62
    refine lv_iconst (v := 0) hx hb dL_isThinned_18 (by decide) ?_
    refine W.widen (k := 204) (n := 1418) (by omega) (by omega) ?_
    exact JN19 false _ _ hw hP hD hS _ (lv_sub hl [1, 3, 0] rfl)
  · have hw := hw.1 c_62
    refine lv_iconst (v := 1) hx hb dL_isThinned_14 (by decide) ?_
    refine lv_goto (tgt := 19) hx hb dL_isThinned_15 (by decide) ?_
    refine W.widen (k := 204) (n := 1418) (by omega) (by omega) ?_
    exact JN19 true _ _ hw hP hD hS _ (lv_sub hl [1, 3, 0] rfl)
theorem dL_does_0 : decode cL_does 0 = .ok (.aload_n 1, 1) := by decide +kernel
theorem dL_does_1 : decode cL_does 1 = .ok (.iconst 0, 1) := by decide +kernel
theorem dL_does_2 : decode cL_does 2 = .ok (.iaload, 1) := by decide +kernel
theorem dL_does_3 : decode cL_does 3 = .ok (.ifCond .ne 180, 3) := by decide +kernel
theorem dL_does_183 : decode cL_does 183 = .ok (.aload_n 1, 1) := by decide +kernel
theorem dL_does_184 : decode cL_does 184 = .ok (.iconst 0, 1) := by decide +kernel
theorem dL_does_185 : decode cL_does 185 = .ok (.iaload, 1) := by decide +kernel
theorem dL_does_186 : decode cL_does 186 = .ok (.iconst 4, 1) := by decide +kernel
theorem dL_does_187 : decode cL_does 187 = .ok (.if_icmp .ge 63, 3) := by decide +kernel
theorem dL_does_250 : decode cL_does 250 = .ok (.aload_n 1, 1) := by decide +kernel
theorem dL_does_251 : decode cL_does 251 = .ok (.iconst 0, 1) := by decide +kernel
theorem dL_does_252 : decode cL_does 252 = .ok (.iaload, 1) := by decide +kernel
theorem dL_does_253 : decode cL_does 253 = .ok (.iconst 4, 1) := by decide +kernel
theorem dL_does_254 : decode cL_does 254 = .ok (.if_icmp .ne 16, 3) := by decide +kernel
theorem dL_does_270 : decode cL_does 270 = .ok (.aload_n 1, 1) := by decide +kernel
theorem dL_does_271 : decode cL_does 271 = .ok (.iconst 0, 1) := by decide +kernel
theorem dL_does_272 : decode cL_does 272 = .ok (.iaload, 1) := by decide +kernel
theorem dL_does_273 : decode cL_does 273 = .ok (.bipush 7, 2) := by decide +kernel
theorem dL_does_275 : decode cL_does 275 = .ok (.if_icmp .ge 26, 3) := by decide +kernel
theorem dL_does_301 : decode cL_does 301 = .ok (.aload_n 1, 1) := by decide +kernel
theorem dL_does_302 : decode cL_does 302 = .ok (.iconst 0, 1) := by decide +kernel
theorem dL_does_303 : decode cL_does 303 = .ok (.iaload, 1) := by decide +kernel
theorem dL_does_304 : decode cL_does 304 = .ok (.bipush 7, 2) := by decide +kernel
theorem dL_does_306 : decode cL_does 306 = .ok (.if_icmp .ne 13, 3) := by decide +kernel
theorem dL_does_319 : decode cL_does 319 = .ok (.aload_n 0, 1) := by decide +kernel
theorem dL_does_320 : decode cL_does 320 = .ok (.aload_n 1, 1) := by decide +kernel
theorem dL_does_321 : decode cL_does 321 = .ok (.iconst 1, 1) := by decide +kernel
theorem dL_does_322 : decode cL_does 322 = .ok (.iaload, 1) := by decide +kernel
theorem dL_does_323 : decode cL_does 323 = .ok (.invokevirtual 100, 3) := by decide +kernel
theorem dL_does_326 : decode cL_does 326 = .ok (.istore_n 2, 1) := by decide +kernel
theorem dL_does_327 : decode cL_does 327 = .ok (.iconst 1, 1) := by decide +kernel
theorem dL_does_328 : decode cL_does 328 = .ok (.ireturn, 1) := by decide +kernel
theorem dL_does_309 : decode cL_does 309 = .ok (.aload_n 0, 1) := by decide +kernel
theorem dL_does_310 : decode cL_does 310 = .ok (.aload_n 1, 1) := by decide +kernel
theorem dL_does_311 : decode cL_does 311 = .ok (.iconst 1, 1) := by decide +kernel
theorem dL_does_312 : decode cL_does 312 = .ok (.iaload, 1) := by decide +kernel
theorem dL_does_313 : decode cL_does 313 = .ok (.invokevirtual 111, 3) := by decide +kernel
theorem dL_does_316 : decode cL_does 316 = .ok (.goto 10, 3) := by decide +kernel
theorem dL_does_278 : decode cL_does 278 = .ok (.aload_n 0, 1) := by decide +kernel
theorem dL_does_279 : decode cL_does 279 = .ok (.aload_n 1, 1) := by decide +kernel
theorem dL_does_280 : decode cL_does 280 = .ok (.iconst 1, 1) := by decide +kernel
theorem dL_does_281 : decode cL_does 281 = .ok (.iaload, 1) := by decide +kernel
theorem dL_does_282 : decode cL_does 282 = .ok (.aload_n 1, 1) := by decide +kernel
theorem dL_does_283 : decode cL_does 283 = .ok (.iconst 0, 1) := by decide +kernel
theorem dL_does_284 : decode cL_does 284 = .ok (.iaload, 1) := by decide +kernel
theorem dL_does_285 : decode cL_does 285 = .ok (.bipush 6, 2) := by decide +kernel
theorem dL_does_295 : decode cL_does 295 = .ok (.invokevirtual 191, 3) := by decide +kernel
theorem dL_does_298 : decode cL_does 298 = .ok (.goto 28, 3) := by decide +kernel
theorem dL_does_287 : decode cL_does 287 = .ok (.if_icmp .ne 7, 3) := by decide +kernel
theorem dL_does_294 : decode cL_does 294 = .ok (.iconst 0, 1) := by decide +kernel
theorem dL_does_290 : decode cL_does 290 = .ok (.iconst 1, 1) := by decide +kernel
theorem dL_does_291 : decode cL_does 291 = .ok (.goto 4, 3) := by decide +kernel
theorem dL_does_257 : decode cL_does 257 = .ok (.aload_n 0, 1) := by decide +kernel
theorem dL_does_258 : decode cL_does 258 = .ok (.aload_n 1, 1) := by decide +kernel
theorem dL_does_259 : decode cL_does 259 = .ok (.iconst 1, 1) := by decide +kernel
theorem dL_does_260 : decode cL_does 260 = .ok (.iaload, 1) := by decide +kernel
theorem dL_does_261 : decode cL_does 261 = .ok (.aload_n 1, 1) := by decide +kernel
theorem dL_does_262 : decode cL_does 262 = .ok (.iconst 3, 1) := by decide +kernel
theorem dL_does_263 : decode cL_does 263 = .ok (.iaload, 1) := by decide +kernel
theorem dL_does_264 : decode cL_does 264 = .ok (.invokevirtual 108, 3) := by decide +kernel
theorem dL_does_267 : decode cL_does 267 = .ok (.goto 59, 3) := by decide +kernel
theorem dL_does_190 : decode cL_does 190 = .ok (.aload_n 0, 1) := by decide +kernel
theorem dL_does_191 : decode cL_does 191 = .ok (.bipush 18, 2) := by decide +kernel
theorem dL_does_193 : decode cL_does 193 = .ok (.aload_n 1, 1) := by decide +kernel
theorem dL_does_194 : decode cL_does 194 = .ok (.iconst 1, 1) := by decide +kernel
theorem dL_does_195 : decode cL_does 195 = .ok (.iaload, 1) := by decide +kernel
theorem dL_does_196 : decode cL_does 196 = .ok (.aload_n 1, 1) := by decide +kernel
theorem dL_does_197 : decode cL_does 197 = .ok (.iconst 2, 1) := by decide +kernel
theorem dL_does_198 : decode cL_does 198 = .ok (.iaload, 1) := by decide +kernel
theorem dL_does_199 : decode cL_does 199 = .ok (.aload_n 1, 1) := by decide +kernel
theorem dL_does_200 : decode cL_does 200 = .ok (.iconst 0, 1) := by decide +kernel
theorem dL_does_201 : decode cL_does 201 = .ok (.iaload, 1) := by decide +kernel
theorem dL_does_202 : decode cL_does 202 = .ok (.iconst 1, 1) := by decide +kernel
theorem dL_does_203 : decode cL_does 203 = .ok (.isub, 1) := by decide +kernel
theorem dL_does_204 : decode cL_does 204 = .ok (.invokestatic 140, 3) := by decide +kernel
theorem dL_does_207 : decode cL_does 207 = .ok (.istore_n 2, 1) := by decide +kernel
theorem dL_does_208 : decode cL_does 208 = .ok (.iload_n 2, 1) := by decide +kernel
theorem dL_does_209 : decode cL_does 209 = .ok (.sipush (-20004), 3) := by decide +kernel
theorem dL_does_237 : decode cL_does 237 = .ok (.iload_n 2, 1) := by decide +kernel
theorem dL_does_238 : decode cL_does 238 = .ok (.sipush (-20004), 3) := by decide +kernel
theorem dL_does_241 : decode cL_does 241 = .ok (.if_icmp .eq 7, 3) := by decide +kernel
theorem dL_does_248 : decode cL_does 248 = .ok (.iconst 0, 1) := by decide +kernel
theorem dL_does_249 : decode cL_does 249 = .ok (.ireturn, 1) := by decide +kernel
theorem dL_does_244 : decode cL_does 244 = .ok (.iconst 1, 1) := by decide +kernel
theorem dL_does_245 : decode cL_does 245 = .ok (.goto 4, 3) := by decide +kernel
theorem dL_does_212 : decode cL_does 212 = .ok (.if_icmp .eq 25, 3) := by decide +kernel
theorem dL_does_215 : decode cL_does 215 = .ok (.aload_n 1, 1) := by decide +kernel
theorem dL_does_216 : decode cL_does 216 = .ok (.iconst 3, 1) := by decide +kernel
theorem dL_does_217 : decode cL_does 217 = .ok (.iaload, 1) := by decide +kernel
theorem dL_does_218 : decode cL_does 218 = .ok (.bipush 7, 2) := by decide +kernel
theorem dL_does_236 : decode cL_does 236 = .ok (.istore_n 2, 1) := by decide +kernel
theorem dL_does_220 : decode cL_does 220 = .ok (.if_icmp .ne 7, 3) := by decide +kernel
theorem dL_does_227 : decode cL_does 227 = .ok (.aload_n 0, 1) := by decide +kernel
theorem dL_does_228 : decode cL_does 228 = .ok (.bipush 7, 2) := by decide +kernel
theorem dL_does_230 : decode cL_does 230 = .ok (.aload_n 1, 1) := by decide +kernel
theorem dL_does_231 : decode cL_does 231 = .ok (.iconst 3, 1) := by decide +kernel
theorem dL_does_232 : decode cL_does 232 = .ok (.iaload, 1) := by decide +kernel
theorem dL_does_233 : decode cL_does 233 = .ok (.invokevirtual 108, 3) := by decide +kernel
theorem dL_does_223 : decode cL_does 223 = .ok (.iload_n 2, 1) := by decide +kernel
theorem dL_does_224 : decode cL_does 224 = .ok (.goto 12, 3) := by decide +kernel
theorem dL_does_6 : decode cL_does 6 = .ok (.iconst 5, 1) := by decide +kernel
theorem dL_does_7 : decode cL_does 7 = .ok (.newarray .int, 2) := by decide +kernel
theorem dL_does_9 : decode cL_does 9 = .ok (.astore_n 3, 1) := by decide +kernel
theorem dL_does_10 : decode cL_does 10 = .ok (.iconst 0, 1) := by decide +kernel
theorem dL_does_11 : decode cL_does 11 = .ok (.istore 4, 2) := by decide +kernel
theorem dL_does_35 : decode cL_does 35 = .ok (.aload_n 0, 1) := by decide +kernel
theorem dL_does_36 : decode cL_does 36 = .ok (.aload_n 1, 1) := by decide +kernel
theorem dL_does_37 : decode cL_does 37 = .ok (.iconst 4, 1) := by decide +kernel
theorem dL_does_38 : decode cL_does 38 = .ok (.iaload, 1) := by decide +kernel
theorem dL_does_39 : decode cL_does 39 = .ok (.iconst (-1), 1) := by decide +kernel
theorem dL_does_52 : decode cL_does 52 = .ok (.aload_n 1, 1) := by decide +kernel
theorem dL_does_53 : decode cL_does 53 = .ok (.iconst 5, 1) := by decide +kernel
theorem dL_does_54 : decode cL_does 54 = .ok (.iaload, 1) := by decide +kernel
theorem dL_does_55 : decode cL_does 55 = .ok (.iconst (-1), 1) := by decide +kernel
theorem dL_does_68 : decode cL_does 68 = .ok (.aload_n 1, 1) := by decide +kernel
theorem dL_does_69 : decode cL_does 69 = .ok (.iconst 5, 1) := by decide +kernel
theorem dL_does_70 : decode cL_does 70 = .ok (.iaload, 1) := by decide +kernel
theorem dL_does_71 : decode cL_does 71 = .ok (.iconst (-1), 1) := by decide +kernel
theorem dL_does_92 : decode cL_does 92 = .ok (.invokevirtual 34, 3) := by decide +kernel
theorem dL_does_95 : decode cL_does 95 = .ok (.istore_n 2, 1) := by decide +kernel
theorem dL_does_96 : decode cL_does 96 = .ok (.aload_n 0, 1) := by decide +kernel
theorem dL_does_97 : decode cL_does 97 = .ok (.aload_n 1, 1) := by decide +kernel
theorem dL_does_98 : decode cL_does 98 = .ok (.bipush 7, 2) := by decide +kernel
theorem dL_does_100 : decode cL_does 100 = .ok (.iaload, 1) := by decide +kernel
theorem dL_does_101 : decode cL_does 101 = .ok (.iconst (-1), 1) := by decide +kernel
theorem dL_does_115 : decode cL_does 115 = .ok (.aload_n 1, 1) := by decide +kernel
theorem dL_does_116 : decode cL_does 116 = .ok (.bipush 7, 2) := by decide +kernel
theorem dL_does_118 : decode cL_does 118 = .ok (.iaload, 1) := by decide +kernel
theorem dL_does_119 : decode cL_does 119 = .ok (.iconst (-1), 1) := by decide +kernel
theorem dL_does_141 : decode cL_does 141 = .ok (.invokevirtual 37, 3) := by decide +kernel
theorem dL_does_144 : decode cL_does 144 = .ok (.istore_n 2, 1) := by decide +kernel
theorem dL_does_145 : decode cL_does 145 = .ok (.aload_n 0, 1) := by decide +kernel
theorem dL_does_146 : decode cL_does 146 = .ok (.aload_n 1, 1) := by decide +kernel
theorem dL_does_147 : decode cL_does 147 = .ok (.iconst 1, 1) := by decide +kernel
theorem dL_does_148 : decode cL_does 148 = .ok (.iaload, 1) := by decide +kernel
theorem dL_does_149 : decode cL_does 149 = .ok (.aload_n 1, 1) := by decide +kernel
theorem dL_does_150 : decode cL_does 150 = .ok (.iconst 2, 1) := by decide +kernel
theorem dL_does_151 : decode cL_does 151 = .ok (.iaload, 1) := by decide +kernel
theorem dL_does_152 : decode cL_does 152 = .ok (.invokevirtual 171, 3) := by decide +kernel
theorem dL_does_155 : decode cL_does 155 = .ok (.istore_n 2, 1) := by decide +kernel
theorem dL_does_156 : decode cL_does 156 = .ok (.aload_n 0, 1) := by decide +kernel
theorem dL_does_157 : decode cL_does 157 = .ok (.aload_n 3, 1) := by decide +kernel
theorem dL_does_158 : decode cL_does 158 = .ok (.iconst 0, 1) := by decide +kernel
theorem dL_does_159 : decode cL_does 159 = .ok (.iaload, 1) := by decide +kernel
theorem dL_does_160 : decode cL_does 160 = .ok (.aload_n 3, 1) := by decide +kernel
theorem dL_does_161 : decode cL_does 161 = .ok (.iconst 1, 1) := by decide +kernel
theorem dL_does_162 : decode cL_does 162 = .ok (.iaload, 1) := by decide +kernel
theorem dL_does_163 : decode cL_does 163 = .ok (.aload_n 3, 1) := by decide +kernel
theorem dL_does_164 : decode cL_does 164 = .ok (.iconst 2, 1) := by decide +kernel
theorem dL_does_165 : decode cL_does 165 = .ok (.iaload, 1) := by decide +kernel
theorem dL_does_166 : decode cL_does 166 = .ok (.invokevirtual 34, 3) := by decide +kernel
theorem dL_does_169 : decode cL_does 169 = .ok (.aload_n 0, 1) := by decide +kernel
theorem dL_does_170 : decode cL_does 170 = .ok (.aload_n 3, 1) := by decide +kernel
theorem dL_does_171 : decode cL_does 171 = .ok (.iconst 3, 1) := by decide +kernel
theorem dL_does_172 : decode cL_does 172 = .ok (.iaload, 1) := by decide +kernel
theorem dL_does_173 : decode cL_does 173 = .ok (.aload_n 3, 1) := by decide +kernel
theorem dL_does_174 : decode cL_does 174 = .ok (.iconst 4, 1) := by decide +kernel
theorem dL_does_175 : decode cL_does 175 = .ok (.iaload, 1) := by decide +kernel
theorem dL_does_176 : decode cL_does 176 = .ok (.invokevirtual 37, 3) := by decide +kernel
theorem dL_does_179 : decode cL_does 179 = .ok (.iadd, 1) := by decide +kernel
theorem dL_does_180 : decode cL_does 180 = .ok (.istore_n 2, 1) := by decide +kernel
theorem dL_does_181 : decode cL_does 181 = .ok (.iconst 1, 1) := by decide +kernel
theorem dL_does_182 : decode cL_does 182 = .ok (.ireturn, 1) := by decide +kernel
theorem dL_does_131 : decode cL_does 131 = .ok (.aload_n 3, 1) := by decide +kernel
theorem dL_does_132 : decode cL_does 132 = .ok (.iconst 4, 1) := by decide +kernel
theorem dL_does_133 : decode cL_does 133 = .ok (.iaload, 1) := by decide +kernel
theorem dL_does_134 : decode cL_does 134 = .ok (.goto 7, 3) := by decide +kernel
theorem dL_does_120 : decode cL_does 120 = .ok (.if_icmp .eq 11, 3) := by decide +kernel
theorem dL_does_123 : decode cL_does 123 = .ok (.aload_n 1, 1) := by decide +kernel
theorem dL_does_124 : decode cL_does 124 = .ok (.bipush 7, 2) := by decide +kernel
theorem dL_does_126 : decode cL_does 126 = .ok (.iaload, 1) := by decide +kernel
theorem dL_does_127 : decode cL_does 127 = .ok (.iconst 1, 1) := by decide +kernel
theorem dL_does_128 : decode cL_does 128 = .ok (.if_icmp .ne 9, 3) := by decide +kernel
theorem dL_does_137 : decode cL_does 137 = .ok (.aload_n 1, 1) := by decide +kernel
theorem dL_does_138 : decode cL_does 138 = .ok (.bipush 8, 2) := by decide +kernel
theorem dL_does_140 : decode cL_does 140 = .ok (.iaload, 1) := by decide +kernel
theorem dL_does_102 : decode cL_does 102 = .ok (.if_icmp .ne 9, 3) := by decide +kernel
theorem dL_does_111 : decode cL_does 111 = .ok (.aload_n 1, 1) := by decide +kernel
theorem dL_does_112 : decode cL_does 112 = .ok (.bipush 7, 2) := by decide +kernel
theorem dL_does_114 : decode cL_does 114 = .ok (.iaload, 1) := by decide +kernel
theorem dL_does_105 : decode cL_does 105 = .ok (.aload_n 3, 1) := by decide +kernel
theorem dL_does_106 : decode cL_does 106 = .ok (.iconst 3, 1) := by decide +kernel
theorem dL_does_107 : decode cL_does 107 = .ok (.iaload, 1) := by decide +kernel
theorem dL_does_108 : decode cL_does 108 = .ok (.goto 7, 3) := by decide +kernel
theorem dL_does_82 : decode cL_does 82 = .ok (.aload_n 3, 1) := by decide +kernel
theorem dL_does_83 : decode cL_does 83 = .ok (.iconst 2, 1) := by decide +kernel
theorem dL_does_84 : decode cL_does 84 = .ok (.iaload, 1) := by decide +kernel
theorem dL_does_85 : decode cL_does 85 = .ok (.goto 7, 3) := by decide +kernel
theorem dL_does_72 : decode cL_does 72 = .ok (.if_icmp .eq 10, 3) := by decide +kernel
theorem dL_does_75 : decode cL_does 75 = .ok (.aload_n 1, 1) := by decide +kernel
theorem dL_does_76 : decode cL_does 76 = .ok (.iconst 5, 1) := by decide +kernel
theorem dL_does_77 : decode cL_does 77 = .ok (.iaload, 1) := by decide +kernel
theorem dL_does_78 : decode cL_does 78 = .ok (.iconst 2, 1) := by decide +kernel
theorem dL_does_79 : decode cL_does 79 = .ok (.if_icmp .ne 9, 3) := by decide +kernel
theorem dL_does_88 : decode cL_does 88 = .ok (.aload_n 1, 1) := by decide +kernel
theorem dL_does_89 : decode cL_does 89 = .ok (.bipush 6, 2) := by decide +kernel
theorem dL_does_91 : decode cL_does 91 = .ok (.iaload, 1) := by decide +kernel
theorem dL_does_56 : decode cL_does 56 = .ok (.if_icmp .ne 9, 3) := by decide +kernel
theorem dL_does_65 : decode cL_does 65 = .ok (.aload_n 1, 1) := by decide +kernel
theorem dL_does_66 : decode cL_does 66 = .ok (.iconst 5, 1) := by decide +kernel
theorem dL_does_67 : decode cL_does 67 = .ok (.iaload, 1) := by decide +kernel
theorem dL_does_59 : decode cL_does 59 = .ok (.aload_n 3, 1) := by decide +kernel
theorem dL_does_60 : decode cL_does 60 = .ok (.iconst 1, 1) := by decide +kernel
theorem dL_does_61 : decode cL_does 61 = .ok (.iaload, 1) := by decide +kernel
theorem dL_does_62 : decode cL_does 62 = .ok (.goto 6, 3) := by decide +kernel
theorem dL_does_40 : decode cL_does 40 = .ok (.if_icmp .ne 9, 3) := by decide +kernel
theorem dL_does_49 : decode cL_does 49 = .ok (.aload_n 1, 1) := by decide +kernel
theorem dL_does_50 : decode cL_does 50 = .ok (.iconst 4, 1) := by decide +kernel
theorem dL_does_51 : decode cL_does 51 = .ok (.iaload, 1) := by decide +kernel
theorem dL_does_43 : decode cL_does 43 = .ok (.aload_n 3, 1) := by decide +kernel
theorem dL_does_44 : decode cL_does 44 = .ok (.iconst 0, 1) := by decide +kernel
theorem dL_does_45 : decode cL_does 45 = .ok (.iaload, 1) := by decide +kernel
theorem dL_does_46 : decode cL_does 46 = .ok (.goto 6, 3) := by decide +kernel
theorem dL_does_13 : decode cL_does 13 = .ok (.iload 4, 2) := by decide +kernel
theorem dL_does_15 : decode cL_does 15 = .ok (.iconst 5, 1) := by decide +kernel
theorem dL_does_16 : decode cL_does 16 = .ok (.if_icmp .ge 19, 3) := by decide +kernel
theorem dL_does_19 : decode cL_does 19 = .ok (.aload_n 3, 1) := by decide +kernel
theorem dL_does_20 : decode cL_does 20 = .ok (.iload 4, 2) := by decide +kernel
theorem dL_does_22 : decode cL_does 22 = .ok (.aload_n 0, 1) := by decide +kernel
theorem dL_does_23 : decode cL_does 23 = .ok (.iload 4, 2) := by decide +kernel
theorem dL_does_25 : decode cL_does 25 = .ok (.invokevirtual 174, 3) := by decide +kernel
theorem dL_does_28 : decode cL_does 28 = .ok (.iastore, 1) := by decide +kernel
theorem dL_does_29 : decode cL_does 29 = .ok (.iinc 4 1, 3) := by decide +kernel
theorem dL_does_32 : decode cL_does 32 = .ok (.goto (-19), 3) := by decide +kernel

set_option maxHeartbeats 8000000 in
set_option maxRecDepth 100000 in
theorem c_L_does (l : Launch) (hlf : l.stackTraces = false) (dC : Nat → ClassId) (dI : Nat → Nat → Nat) (g : Nat → ClassId) (tp_q_ hd_q_ : Nat → Nat) (tf_q_ cf_q_ : Nat → Option Nat) (htf_q_ : ∀ j, j < 8 → tf_q_ j = some (tp_q_ j)) (hcf_q_ : ∀ j, j < 8 → cf_q_ j = some (tp_q_ (8 + j))) (a_q_ : Nat → Nat) (t_q_ : Nat) (h_q_ : a_q_ 0 = t_q_) (o_q_ : OS) (a_d_ n_d_ : Nat) (d_ : Nat → Int32) (Q : Bool → OS → Prop) (hw : wp_L_does o_q_ n_d_ d_ Q) (sz : Nat) : Met l yL_does wqL_does ({ frames := 9, cells := 114, slots := 683, locals := 167 }) (va_Pc [.ref t_q_, .ref a_d_] (PG (dC, dI) g ([(a_d_, .inl (g 0, n_d_, .inl d_))] ++ (offS a_q_ tp_q_ hd_q_ tf_q_ cf_q_ g o_q_)) sz)) (va_Qi (fun (r : Int32) (u : (Nat → Nat) × OS × Unit) => ∃ b : Bool, r = b2i b ∧ (Q b u.2.1 ∧ u.1 0 = t_q_)) (fun (u : (Nat → Nat) × OS × Unit) t9 => va_P (dC, dI) vwCl ([(a_d_, .inl (g 0, n_d_, .inl d_))] ++ (offS u.1 tp_q_ hd_q_ tf_q_ cf_q_ g u.2.1)) t9.heap ∧ va_D (va_A ([(a_d_, .inl (g 0, n_d_, .inl d_))] ++ (offS a_q_ tp_q_ hd_q_ tf_q_ cf_q_ g o_q_)) sz) ([(a_d_, .inl (g 0, n_d_, .inl d_))] ++ (offS u.1 tp_q_ hd_q_ tf_q_ cf_q_ g u.2.1))) (va_A ([(a_d_, .inl (g 0, n_d_, .inl d_))] ++ (offS a_q_ tp_q_ hd_q_ tf_q_ cf_q_ g o_q_)) sz)) 114 683 (va_A ([(a_d_, .inl (g 0, n_d_, .inl d_))] ++ (offS a_q_ tp_q_ hd_q_ tf_q_ cf_q_ g o_q_)) sz) := by
  refine Met.ofW (cc := cL_does) (maxL := 5) (ret := (some .boolean)) (by decide) rfl ?_
  intro p e s m args below meth c s₁ B hml hv
  obtain ⟨rfl, hsz, hP, hK, hD0, hG⟩ := hv
  have hx := B.exec
  have hb := B.bytes
  have hr := B.returns
  have hts := atoms_spec (ws := wqL_does) B.pre
  have hown : s.vm.findClass RL = some m.cls := findClass_of_methodNamed B.named
  have hlocks := B.notSynchronized
  subst hsz
  have hD := hD0.self (sz := s.heap.size)
  generalize hAe : va_A ([(a_d_, .inl (g 0, n_d_, .inl d_))] ++ (offS a_q_ tp_q_ hd_q_ tf_q_ cf_q_ g o_q_)) s.heap.size = A at hD hG ⊢
  have hA : ∀ q : Nat, s.heap.size ≤ q → A q := fun q h => by rw [← hAe]; exact Or.inr h
  have hS : va_S A s.heap s.heap [] := va_S.rf
  have hrc : (headSpec wqL_does ({ frames := 9, cells := 114, slots := 683, locals := 167 })).room.cells = 114 := rfl
  have hrs : (headSpec wqL_does ({ frames := 9, cells := 114, slots := 683, locals := 167 })).room.slots = 683 := rfl
  have hl := lv_entry ([.ref t_q_, .ref a_d_]) (n := 5) (Nat.le_of_ble_eq_true rfl)
  rw [lg_entry_eq]
  generalize (lg_sl ([.ref t_q_, .ref a_d_]) ++ List.replicate (5 - (lg_sl ([.ref t_q_, .ref a_d_])).length) Slot.unset).toArray = ls at hl ⊢
  have hl : lv_has ls 5 [(0, .ref t_q_), (1, .ref a_d_)] := hl
  unfold wp_L_does at hw
  have hnaint := hts (Cond.arrayClass .int) (aw_l aw_1_57)
  refine lv_aload_n hx hb dL_does_0 rfl (lv_at hl 1 rfl) ?_
  refine lv_iconst (v := 0) hx hb dL_does_1 (by decide) ?_
  refine va_iald hx hb hK hP 0 0 rfl rfl hw.1 dL_does_2 ?_
  have hw := hw.2
  refine lv_topi (fun x_1 ex_1 => ?_)
  have hw := hw x_1 ex_1
  refine lv_if_ne (tgt := 183) hx hb dL_does_3 (by decide) (fun c_2 => ?_) (fun c_2 => ?_)
  · have hw := hw.2 c_2
    refine lv_aload_n hx hb dL_does_183 rfl (lv_at hl 1 rfl) ?_
    refine lv_iconst (v := 0) hx hb dL_does_184 (by decide) ?_
    refine va_iald hx hb hK hP 0 0 rfl rfl hw.1 dL_does_185 ?_
    have hw := hw.2
    refine lv_topi (fun x_3 ex_3 => ?_)
    have hw := hw x_3 ex_3
    refine lv_iconst (v := 4) hx hb dL_does_186 (by decide) ?_
    refine lv_icmp_ge (tgt := 250) hx hb dL_does_187 (by decide) (fun c_4 => ?_) (fun c_4 => ?_)
    · have hw := hw.1 c_4
      refine lv_aload_n hx hb dL_does_250 rfl (lv_at hl 1 rfl) ?_
      refine lv_iconst (v := 0) hx hb dL_does_251 (by decide) ?_
      refine va_iald hx hb hK hP 0 0 rfl rfl hw.1 dL_does_252 ?_
      have hw := hw.2
      refine lv_topi (fun x_5 ex_5 => ?_)
      have hw := hw x_5 ex_5
      refine lv_iconst (v := 4) hx hb dL_does_253 (by decide) ?_
      refine lv_icmp_ne (tgt := 270) hx hb dL_does_254 (by decide) (fun c_6 => ?_) (fun c_6 => ?_)
      · have hw := hw.2 c_6
        refine lv_aload_n hx hb dL_does_270 rfl (lv_at hl 1 rfl) ?_
        refine lv_iconst (v := 0) hx hb dL_does_271 (by decide) ?_
        refine va_iald hx hb hK hP 0 0 rfl rfl hw.1 dL_does_272 ?_
        have hw := hw.2
        refine lv_topi (fun x_7 ex_7 => ?_)
        have hw := hw x_7 ex_7
        refine lv_bipush (v := 7) hx hb dL_does_273 (by decide) ?_
        refine lv_icmp_ge (tgt := 301) hx hb dL_does_275 (by decide) (fun c_8 => ?_) (fun c_8 => ?_)
        · have hw := hw.1 c_8
          refine lv_aload_n hx hb dL_does_301 rfl (lv_at hl 1 rfl) ?_
          refine lv_iconst (v := 0) hx hb dL_does_302 (by decide) ?_
          refine va_iald hx hb hK hP 0 0 rfl rfl hw.1 dL_does_303 ?_
          have hw := hw.2
          refine lv_topi (fun x_9 ex_9 => ?_)
          have hw := hw x_9 ex_9
          refine lv_bipush (v := 7) hx hb dL_does_304 (by decide) ?_
          refine lv_icmp_ne (tgt := 319) hx hb dL_does_306 (by decide) (fun c_10 => ?_) (fun c_10 => ?_)
          · have hw := hw.2 c_10
            refine lv_aload_n hx hb dL_does_319 rfl (lv_at hl 0 rfl) ?_
            refine lv_aload_n hx hb dL_does_320 rfl (lv_at hl 1 rfl) ?_
            refine lv_iconst (v := 1) hx hb dL_does_321 (by decide) ?_
            refine va_iald hx hb hK hP 0 0 rfl rfl hw.1 dL_does_322 ?_
            have hw := hw.2
            refine lv_topi (fun x_11 ex_11 => ?_)
            have hw := hw x_11 ex_11
            obtain ⟨hPs, hDs⟩ := seg_call (segs := [[(a_d_, .inl (g 0, n_d_, .inl d_))], offS a_q_ tp_q_ hd_q_ tf_q_ cf_q_ g o_q_]) [[(a_d_, .inl (g 0, n_d_, .inl d_))]] [offS a_q_ tp_q_ hd_q_ tf_q_ cf_q_ g o_q_] 2 [0, 1] rfl rfl (by decide) hP hD
            have hPc : va_P (dC, dI) vwCl (offS a_q_ tp_q_ hd_q_ tf_q_ cf_q_ g o_q_) s.heap := P_r hPs
            have hDc : va_D A (offS a_q_ tp_q_ hd_q_ tf_q_ cf_q_ g o_q_) := D_r hDs
            have hFc : ∀ q, va_A (offS a_q_ tp_q_ hd_q_ tf_q_ cf_q_ g o_q_) s.heap.size q → A q := A_all hDc hA hS.1
            refine vx_calli (vx_runV (As := [.int x_11]) (rest := []) ⟨hx, hb, hml, hown, hts⟩ (p_clear l hlf dC dI g tp_q_ hd_q_ tf_q_ cf_q_ htf_q_ hcf_q_ a_q_ t_q_ h_q_ o_q_ x_11 (hw := hw) (sz := s.heap.size)) (cwV 1 hts (gqV aw_2_225 aw_2_226 aw_2_227 aw_1_1 aw_2_228) rfl rfl rfl (by decide +kernel) ⟨Nat.le_of_ble_eq_true rfl, Nat.le_of_ble_eq_true rfl⟩) ⟨PG_blind, off_recv h_q_ hK hPc, PG_call hK hG hS hPc hDc hFc⟩ rfl rfl hl.1 rfl (lv_room (Nat.le_of_ble_eq_true rfl)) dL_does_323 ⟨by rw [hrc]; omega, by rw [hrs]; omega⟩) hS (fun q _ h => hFc q h) hFc (fun q _ h => hFc q h) (fun E ce q9 ux t H1 locs1 ht hvm hp9 hB9 hz hk hS9 hce hcv hcl => ?_) (fun r_12 u_12 t_12 H_12 L_12 ht_12 hvm_12 hw_12 hB_12 hz_12 hk_12 hS => ?_)
            · exact (hB9.1.1).elim
            obtain ⟨ad_13, o_14⟩ := u_12
            obtain ⟨hw, had_13⟩ := hw_12
            rw [ht_12] at hB_12
            obtain ⟨hP1, hD1⟩ := hB_12
            obtain ⟨hP, hD⟩ := join_r hPs hDs hk_12 hFc hP1 hD1
            obtain ⟨hP, hD⟩ := seg_join [[(a_d_, .inl (g 0, n_d_, .inl d_))]] [offS ad_13 tp_q_ hd_q_ tf_q_ cf_q_ g o_14] [[(a_d_, .inl (g 0, n_d_, .inl d_))], offS ad_13 tp_q_ hd_q_ tf_q_ cf_q_ g o_14] 2 [0, 1] rfl rfl (by decide) hP hD
            have hP : va_P (dC, dI) vwCl ([(a_d_, .inl (g 0, n_d_, .inl d_))] ++ (offS ad_13 tp_q_ hd_q_ tf_q_ cf_q_ g o_14)) H_12 := hP
            have hD : va_D A ([(a_d_, .inl (g 0, n_d_, .inl d_))] ++ (offS ad_13 tp_q_ hd_q_ tf_q_ cf_q_ g o_14)) := hD
            refine W.widen (k := 1) (n := 6) (by omega) (by omega) ?_
            refine lv_istore_n (lv' := [(2, .int r_12), (0, .ref t_q_), (1, .ref a_d_)]) hx hb dL_does_326 rfl hl (by decide) rfl (fun ls hl => ?_)
            refine lv_iconst (v := 1) hx hb dL_does_327 (by decide) ?_
            refine W.widen (k := 114) (n := 683) (by omega) (by omega) ?_
            exact W.zret (v := 1) hx hb hr rfl (fun t ht hW => ⟨⟨_, (ad_13, o_14, ()), rfl, ⟨true, rfl, ⟨hw, had_13⟩⟩, ⟨P_at ht hP, hD⟩⟩, hS.F ht⟩) hS.2.2 dL_does_328
          · have hw := hw.1 c_10
            refine lv_aload_n hx hb dL_does_309 rfl (lv_at hl 0 rfl) ?_
            refine lv_aload_n hx hb dL_does_310 rfl (lv_at hl 1 rfl) ?_
            refine lv_iconst (v := 1) hx hb dL_does_311 (by decide) ?_
            refine va_iald hx hb hK hP 0 0 rfl rfl hw.1 dL_does_312 ?_
            have hw := hw.2
            refine lv_topi (fun x_15 ex_15 => ?_)
            have hw := hw x_15 ex_15
            obtain ⟨hPs, hDs⟩ := seg_call (segs := [[(a_d_, .inl (g 0, n_d_, .inl d_))], offS a_q_ tp_q_ hd_q_ tf_q_ cf_q_ g o_q_]) [[(a_d_, .inl (g 0, n_d_, .inl d_))]] [offS a_q_ tp_q_ hd_q_ tf_q_ cf_q_ g o_q_] 2 [0, 1] rfl rfl (by decide) hP hD
            have hPc : va_P (dC, dI) vwCl (offS a_q_ tp_q_ hd_q_ tf_q_ cf_q_ g o_q_) s.heap := P_r hPs
            have hDc : va_D A (offS a_q_ tp_q_ hd_q_ tf_q_ cf_q_ g o_q_) := D_r hDs
            have hFc : ∀ q, va_A (offS a_q_ tp_q_ hd_q_ tf_q_ cf_q_ g o_q_) s.heap.size q → A q := A_all hDc hA hS.1
            refine vx_calli (vx_runV (As := [.int x_15]) (rest := []) ⟨hx, hb, hml, hown, hts⟩ (p_turn l hlf dC dI g tp_q_ hd_q_ tf_q_ cf_q_ htf_q_ hcf_q_ a_q_ t_q_ h_q_ o_q_ x_15 (hw := hw) (sz := s.heap.size)) (cwV 1 hts (gqV aw_3_143 aw_3_144 aw_3_145 aw_1_1 aw_3_146) rfl rfl rfl (by decide +kernel) ⟨Nat.le_of_ble_eq_true rfl, Nat.le_of_ble_eq_true rfl⟩) ⟨PG_blind, off_recv h_q_ hK hPc, PG_call hK hG hS hPc hDc hFc⟩ rfl rfl hl.1 rfl (lv_room (Nat.le_of_ble_eq_true rfl)) dL_does_313 ⟨by rw [hrc]; omega, by rw [hrs]; omega⟩) hS (fun q _ h => hFc q h) hFc (fun q _ h => hFc q h) (fun E ce q9 ux t H1 locs1 ht hvm hp9 hB9 hz hk hS9 hce hcv hcl => ?_) (fun r_16 u_16 t_16 H_16 L_16 ht_16 hvm_16 hw_16 hB_16 hz_16 hk_16 hS => ?_)
            · exact (hB9.1.1).elim
            obtain ⟨ad_17, o_18⟩ := u_16
            obtain ⟨hw, had_17⟩ := hw_16
            rw [ht_16] at hB_16
            obtain ⟨hP1, hD1⟩ := hB_16
            obtain ⟨hP, hD⟩ := join_r hPs hDs hk_16 hFc hP1 hD1
            obtain ⟨hP, hD⟩ := seg_join [[(a_d_, .inl (g 0, n_d_, .inl d_))]] [offS ad_17 tp_q_ hd_q_ tf_q_ cf_q_ g o_18] [[(a_d_, .inl (g 0, n_d_, .inl d_))], offS ad_17 tp_q_ hd_q_ tf_q_ cf_q_ g o_18] 2 [0, 1] rfl rfl (by decide) hP hD
            have hP : va_P (dC, dI) vwCl ([(a_d_, .inl (g 0, n_d_, .inl d_))] ++ (offS ad_17 tp_q_ hd_q_ tf_q_ cf_q_ g o_18)) H_16 := hP
            have hD : va_D A ([(a_d_, .inl (g 0, n_d_, .inl d_))] ++ (offS ad_17 tp_q_ hd_q_ tf_q_ cf_q_ g o_18)) := hD
            refine W.widen (k := 1) (n := 6) (by omega) (by omega) ?_
            refine lv_goto (tgt := 326) hx hb dL_does_316 (by decide) ?_
            refine lv_istore_n (lv' := [(2, .int r_16), (0, .ref t_q_), (1, .ref a_d_)]) hx hb dL_does_326 rfl hl (by decide) rfl (fun ls hl => ?_)
            refine lv_iconst (v := 1) hx hb dL_does_327 (by decide) ?_
            refine W.widen (k := 114) (n := 683) (by omega) (by omega) ?_
            exact W.zret (v := 1) hx hb hr rfl (fun t ht hW => ⟨⟨_, (ad_17, o_18, ()), rfl, ⟨true, rfl, ⟨hw, had_17⟩⟩, ⟨P_at ht hP, hD⟩⟩, hS.F ht⟩) hS.2.2 dL_does_328
        · have hw := hw.2 c_8
          refine lv_aload_n hx hb dL_does_278 rfl (lv_at hl 0 rfl) ?_
          refine lv_aload_n hx hb dL_does_279 rfl (lv_at hl 1 rfl) ?_
          refine lv_iconst (v := 1) hx hb dL_does_280 (by decide) ?_
          refine va_iald hx hb hK hP 0 0 rfl rfl hw.1 dL_does_281 ?_
          have hw := hw.2
          refine lv_topi (fun x_19 ex_19 => ?_)
          have hw := hw x_19 ex_19
          refine lv_aload_n hx hb dL_does_282 rfl (lv_at hl 1 rfl) ?_
          refine lv_iconst (v := 0) hx hb dL_does_283 (by decide) ?_
          refine va_iald hx hb hK hP 0 0 rfl rfl hw.1 dL_does_284 ?_
          have hw := hw.2
          refine lv_topi (fun x_20 ex_20 => ?_)
          have hw := hw x_20 ex_20
          refine lv_bipush (v := 6) hx hb dL_does_285 (by decide) ?_
          refine W_abs (fun QM hQM => ?_)
          have JN295 : ∀ (sk0_21 : Bool) (H : Heap) (locs : List Loc), (wj_L_does_295 o_q_ Q x_19) sk0_21 → va_P (dC, dI) vwCl ([(a_d_, .inl (g 0, n_d_, .inl d_))] ++ (offS a_q_ tp_q_ hd_q_ tf_q_ cf_q_ g o_q_)) H → va_D A ([(a_d_, .inl (g 0, n_d_, .inl d_))] ++ (offS a_q_ tp_q_ hd_q_ tf_q_ cf_q_ g o_q_)) → va_S A s.heap H locs → ∀ (ls : Array Slot), lv_has ls 5 [] → W p l e (headSpec wqL_does ({ frames := 9, cells := 114, slots := 683, locals := 167 })).room s m ([.ref t_q_, .ref a_d_] : List Value).toArray below meth c H locs 0 0 QM (F0 m 295 ls [.int (b2i sk0_21), .int x_19, .ref t_q_]) := by
            intro sk0_21 H locs hw hP hD hS ls hl
            obtain ⟨hPs, hDs⟩ := seg_call (segs := [[(a_d_, .inl (g 0, n_d_, .inl d_))], offS a_q_ tp_q_ hd_q_ tf_q_ cf_q_ g o_q_]) [[(a_d_, .inl (g 0, n_d_, .inl d_))]] [offS a_q_ tp_q_ hd_q_ tf_q_ cf_q_ g o_q_] 2 [0, 1] rfl rfl (by decide) hP hD
            have hPc : va_P (dC, dI) vwCl (offS a_q_ tp_q_ hd_q_ tf_q_ cf_q_ g o_q_) H := P_r hPs
            have hDc : va_D A (offS a_q_ tp_q_ hd_q_ tf_q_ cf_q_ g o_q_) := D_r hDs
            have hFc : ∀ q, va_A (offS a_q_ tp_q_ hd_q_ tf_q_ cf_q_ g o_q_) H.size q → A q := A_all hDc hA hS.1
            refine vx_calli (vx_runV (As := [.int x_19, .int (b2i sk0_21)]) (rest := []) ⟨hx, hb, hml, hown, hts⟩ (p_thin l hlf dC dI g tp_q_ hd_q_ tf_q_ cf_q_ htf_q_ hcf_q_ a_q_ t_q_ h_q_ o_q_ x_19 sk0_21 (hw := hw) (sz := H.size)) (cwV 2 hts (gqV aw_6_96 aw_6_97 aw_6_98 aw_1_1 aw_6_99) rfl rfl rfl (by decide +kernel) ⟨Nat.le_of_ble_eq_true rfl, Nat.le_of_ble_eq_true rfl⟩) ⟨PG_blind, off_recv h_q_ hK hPc, PG_call hK hG hS hPc hDc hFc⟩ rfl rfl hl.1 rfl (lv_room (Nat.le_of_ble_eq_true rfl)) dL_does_295 ⟨by rw [hrc]; omega, by rw [hrs]; omega⟩) hS (fun q _ h => hFc q h) hFc (fun q _ h => hFc q h) (fun E ce q9 ux t H1 locs1 ht hvm hp9 hB9 hz hk hS9 hce hcv hcl => ?_) (fun r_22 u_22 t_22 H_22 L_22 ht_22 hvm_22 hw_22 hB_22 hz_22 hk_22 hS => ?_)
            · exact (hB9.1.1).elim
            obtain ⟨ad_23, o_24⟩ := u_22
            obtain ⟨hw, had_23⟩ := hw_22
            rw [ht_22] at hB_22
            obtain ⟨hP1, hD1⟩ := hB_22
            obtain ⟨hP, hD⟩ := join_r hPs hDs hk_22 hFc hP1 hD1
            obtain ⟨hP, hD⟩ := seg_join [[(a_d_, .inl (g 0, n_d_, .inl d_))]] [offS ad_23 tp_q_ hd_q_ tf_q_ cf_q_ g o_24] [[(a_d_, .inl (g 0, n_d_, .inl d_))], offS ad_23 tp_q_ hd_q_ tf_q_ cf_q_ g o_24] 2 [0, 1] rfl rfl (by decide) hP hD
            have hP : va_P (dC, dI) vwCl ([(a_d_, .inl (g 0, n_d_, .inl d_))] ++ (offS ad_23 tp_q_ hd_q_ tf_q_ cf_q_ g o_24)) H_22 := hP
            have hD : va_D A ([(a_d_, .inl (g 0, n_d_, .inl d_))] ++ (offS ad_23 tp_q_ hd_q_ tf_q_ cf_q_ g o_24)) := hD
            refine W.widen (k := 1) (n := 6) (by omega) (by omega) ?_
            refine lv_goto (tgt := 326) hx hb dL_does_298 (by decide) ?_
            refine lv_istore_n (lv' := [(2, .int r_22)]) hx hb dL_does_326 rfl hl (by decide) rfl (fun ls hl => ?_)
            refine lv_iconst (v := 1) hx hb dL_does_327 (by decide) ?_
            refine W.widen (k := 114) (n := 683) (by omega) (by omega) ?_
            subst hQM
            exact W.zret (v := 1) hx hb hr rfl (fun t ht hW => ⟨⟨_, (ad_23, o_24, ()), rfl, ⟨true, rfl, ⟨hw, had_23⟩⟩, ⟨P_at ht hP, hD⟩⟩, hS.F ht⟩) hS.2.2 dL_does_328
          refine lv_icmp_ne (tgt := 294) hx hb dL_does_287 (by decide) (fun c_25 => ?_) (fun c_25 => ?_)
          · have hw := hw.2 c_25
            refine lv_iconst (v := 0) hx hb dL_does_294 (by decide) ?_
            refine W.widen (k := 0) (n := 0) (by omega) (by omega) ?_
            exact JN295 false _ _ hw hP hD hS _ (lv_sub hl [] rfl)
          · have hw := hw.1 c_25
            refine lv_iconst (v := 1) hx hb dL_does_290 (by decide) ?_
            refine lv_goto (tgt := 295) hx hb dL_does_291 (by decide) ?_
            refine W.widen (k := 0) (n := 0) (by omega) (by omega) ?_
            exact JN295 true _ _ hw hP hD hS _ (lv_sub hl [] rfl)
      · have hw := hw.1 c_6
        refine lv_aload_n hx hb dL_does_257 rfl (lv_at hl 0 rfl) ?_
        refine lv_aload_n hx hb dL_does_258 rfl (lv_at hl 1 rfl) ?_
        refine lv_iconst (v := 1) hx hb dL_does_259 (by decide) ?_
        refine va_iald hx hb hK hP 0 0 rfl rfl hw.1 dL_does_260 ?_
        have hw := hw.2
        refine lv_topi (fun x_26 ex_26 => ?_)
        have hw := hw x_26 ex_26
        refine lv_aload_n hx hb dL_does_261 rfl (lv_at hl 1 rfl) ?_
        refine lv_iconst (v := 3) hx hb dL_does_262 (by decide) ?_
        refine va_iald hx hb hK hP 0 0 rfl rfl hw.1 dL_does_263 ?_
        have hw := hw.2
        refine lv_topi (fun x_27 ex_27 => ?_)
        have hw := hw x_27 ex_27
        obtain ⟨hPs, hDs⟩ := seg_call (segs := [[(a_d_, .inl (g 0, n_d_, .inl d_))], offS a_q_ tp_q_ hd_q_ tf_q_ cf_q_ g o_q_]) [[(a_d_, .inl (g 0, n_d_, .inl d_))]] [offS a_q_ tp_q_ hd_q_ tf_q_ cf_q_ g o_q_] 2 [0, 1] rfl rfl (by decide) hP hD
        have hPc : va_P (dC, dI) vwCl (offS a_q_ tp_q_ hd_q_ tf_q_ cf_q_ g o_q_) s.heap := P_r hPs
        have hDc : va_D A (offS a_q_ tp_q_ hd_q_ tf_q_ cf_q_ g o_q_) := D_r hDs
        have hFc : ∀ q, va_A (offS a_q_ tp_q_ hd_q_ tf_q_ cf_q_ g o_q_) s.heap.size q → A q := A_all hDc hA hS.1
        refine vx_calli (vx_runV (As := [.int x_26, .int x_27]) (rest := []) ⟨hx, hb, hml, hown, hts⟩ (p_copy l hlf dC dI g tp_q_ hd_q_ tf_q_ cf_q_ htf_q_ hcf_q_ a_q_ t_q_ h_q_ o_q_ x_26 x_27 (hw := hw) (sz := s.heap.size)) (cwV 2 hts (gqV aw_3_132 aw_3_133 aw_3_134 aw_1_1 aw_3_135) rfl rfl rfl (by decide +kernel) ⟨Nat.le_of_ble_eq_true rfl, Nat.le_of_ble_eq_true rfl⟩) ⟨PG_blind, off_recv h_q_ hK hPc, PG_call hK hG hS hPc hDc hFc⟩ rfl rfl hl.1 rfl (lv_room (Nat.le_of_ble_eq_true rfl)) dL_does_264 ⟨by rw [hrc]; omega, by rw [hrs]; omega⟩) hS (fun q _ h => hFc q h) hFc (fun q _ h => hFc q h) (fun E ce q9 ux t H1 locs1 ht hvm hp9 hB9 hz hk hS9 hce hcv hcl => ?_) (fun r_28 u_28 t_28 H_28 L_28 ht_28 hvm_28 hw_28 hB_28 hz_28 hk_28 hS => ?_)
        · exact (hB9.1.1).elim
        obtain ⟨ad_29, o_30⟩ := u_28
        obtain ⟨hw, had_29⟩ := hw_28
        rw [ht_28] at hB_28
        obtain ⟨hP1, hD1⟩ := hB_28
        obtain ⟨hP, hD⟩ := join_r hPs hDs hk_28 hFc hP1 hD1
        obtain ⟨hP, hD⟩ := seg_join [[(a_d_, .inl (g 0, n_d_, .inl d_))]] [offS ad_29 tp_q_ hd_q_ tf_q_ cf_q_ g o_30] [[(a_d_, .inl (g 0, n_d_, .inl d_))], offS ad_29 tp_q_ hd_q_ tf_q_ cf_q_ g o_30] 2 [0, 1] rfl rfl (by decide) hP hD
        have hP : va_P (dC, dI) vwCl ([(a_d_, .inl (g 0, n_d_, .inl d_))] ++ (offS ad_29 tp_q_ hd_q_ tf_q_ cf_q_ g o_30)) H_28 := hP
        have hD : va_D A ([(a_d_, .inl (g 0, n_d_, .inl d_))] ++ (offS ad_29 tp_q_ hd_q_ tf_q_ cf_q_ g o_30)) := hD
        refine W.widen (k := 2) (n := 12) (by omega) (by omega) ?_
        refine lv_goto (tgt := 326) hx hb dL_does_267 (by decide) ?_
        refine lv_istore_n (lv' := [(2, .int r_28), (0, .ref t_q_), (1, .ref a_d_)]) hx hb dL_does_326 rfl hl (by decide) rfl (fun ls hl => ?_)
        refine lv_iconst (v := 1) hx hb dL_does_327 (by decide) ?_
        refine W.widen (k := 114) (n := 683) (by omega) (by omega) ?_
        exact W.zret (v := 1) hx hb hr rfl (fun t ht hW => ⟨⟨_, (ad_29, o_30, ()), rfl, ⟨true, rfl, ⟨hw, had_29⟩⟩, ⟨P_at ht hP, hD⟩⟩, hS.F ht⟩) hS.2.2 dL_does_328
    · have hw := hw.2 c_4
      refine lv_aload_n hx hb dL_does_190 rfl (lv_at hl 0 rfl) ?_
      refine lv_bipush (v := 18) hx hb dL_does_191 (by decide) ?_
      refine lv_aload_n hx hb dL_does_193 rfl (lv_at hl 1 rfl) ?_
      refine lv_iconst (v := 1) hx hb dL_does_194 (by decide) ?_
      refine va_iald hx hb hK hP 0 0 rfl rfl hw.1 dL_does_195 ?_
      have hw := hw.2
      refine lv_topi (fun x_31 ex_31 => ?_)
      have hw := hw x_31 ex_31
      refine lv_aload_n hx hb dL_does_196 rfl (lv_at hl 1 rfl) ?_
      refine lv_iconst (v := 2) hx hb dL_does_197 (by decide) ?_
      refine va_iald hx hb hK hP 0 0 rfl rfl hw.1 dL_does_198 ?_
      have hw := hw.2
      refine lv_topi (fun x_32 ex_32 => ?_)
      have hw := hw x_32 ex_32
      refine lv_aload_n hx hb dL_does_199 rfl (lv_at hl 1 rfl) ?_
      refine lv_iconst (v := 0) hx hb dL_does_200 (by decide) ?_
      refine va_iald hx hb hK hP 0 0 rfl rfl hw.1 dL_does_201 ?_
      have hw := hw.2
      refine lv_topi (fun x_33 ex_33 => ?_)
      have hw := hw x_33 ex_33
      refine lv_iconst (v := 1) hx hb dL_does_202 (by decide) ?_
      refine lv_isub hx hb dL_does_203 ?_
      refine lv_topi (fun x_34 ex_34 => ?_)
      have hw := hw x_34 ex_34
      obtain ⟨hPs, hDs⟩ := seg_call (segs := [[(a_d_, .inl (g 0, n_d_, .inl d_))], offS a_q_ tp_q_ hd_q_ tf_q_ cf_q_ g o_q_]) [[(a_d_, .inl (g 0, n_d_, .inl d_))]] [offS a_q_ tp_q_ hd_q_ tf_q_ cf_q_ g o_q_] 2 [0, 1] rfl rfl (by decide) hP hD
      have hPc : va_P (dC, dI) vwCl (offS a_q_ tp_q_ hd_q_ tf_q_ cf_q_ g o_q_) s.heap := P_r hPs
      have hDc : va_D A (offS a_q_ tp_q_ hd_q_ tf_q_ cf_q_ g o_q_) := D_r hDs
      have hFc : ∀ q, va_A (offS a_q_ tp_q_ hd_q_ tf_q_ cf_q_ g o_q_) s.heap.size q → A q := A_all hDc hA hS.1
      refine va_calli (vx_runSW (As := [.ref t_q_, .int 18, .int x_31, .int x_32, .int x_34]) (rest := []) ⟨hx, hb, hml, hown, hts⟩ (c_L_asks_18 l hlf dC dI g (tp_p_ := tp_q_) (hd_p_ := hd_q_) (tf_p_ := tf_q_) (cf_p_ := cf_q_) (htf_p_ := htf_q_) (hcf_p_ := hcf_q_) (a_p_ := a_q_) (t_p_ := t_q_) (h_p_ := h_q_) (o_p_ := o_q_) (a_ := x_31) (b_ := x_32) (c_ := x_34) (hw := hw) (sz := s.heap.size)) (vx_cwSW 5 hts (gqS aw_4_45 aw_4_46 aw_1_0 aw_4_47) rfl rfl rfl (by decide +kernel) ⟨Nat.le_of_ble_eq_true rfl, Nat.le_of_ble_eq_true rfl⟩) ⟨PG_blind, PG_call hK hG hS hPc hDc hFc⟩ rfl rfl hl.1 rfl (lv_room (Nat.le_of_ble_eq_true rfl)) dL_does_204 ⟨by rw [hrc]; omega, by rw [hrs]; omega⟩) hS (fun q _ h => hFc q h) hFc (fun r_35 u_35 t_35 H_35 L_35 ht_35 hvm_35 hw_35 hB_35 hz_35 hk_35 hS => ?_)
      obtain ⟨ad_36, o_37, u_35⟩ := u_35
      obtain ⟨hw, had_36⟩ := hw_35
      rw [ht_35] at hB_35
      obtain ⟨hP1, hD1⟩ := hB_35
      obtain ⟨hP, hD⟩ := join_r hPs hDs hk_35 hFc hP1 hD1
      obtain ⟨hP, hD⟩ := seg_join [[(a_d_, .inl (g 0, n_d_, .inl d_))]] [offS ad_36 tp_q_ hd_q_ tf_q_ cf_q_ g o_37] [[(a_d_, .inl (g 0, n_d_, .inl d_))], offS ad_36 tp_q_ hd_q_ tf_q_ cf_q_ g o_37] 2 [0, 1] rfl rfl (by decide) hP hD
      have hP : va_P (dC, dI) vwCl ([(a_d_, .inl (g 0, n_d_, .inl d_))] ++ (offS ad_36 tp_q_ hd_q_ tf_q_ cf_q_ g o_37)) H_35 := hP
      have hD : va_D A ([(a_d_, .inl (g 0, n_d_, .inl d_))] ++ (offS ad_36 tp_q_ hd_q_ tf_q_ cf_q_ g o_37)) := hD
      refine W.widen (k := 5) (n := 30) (by omega) (by omega) ?_
      refine lv_istore_n (lv' := [(2, .int r_35), (0, .ref t_q_), (1, .ref a_d_)]) hx hb dL_does_207 rfl hl (by decide) rfl (fun ls hl => ?_)
      refine lv_iload_n hx hb dL_does_208 rfl (lv_at hl 0 rfl) ?_
      refine lv_sipush (v := (-20004)) hx hb dL_does_209 (by decide) ?_
      refine W_abs (fun QM hQM => ?_)
      have JN237 : ∀ (v2_38 : Int32) (o_39 : OS) (ad_40 : Nat → Nat) (had_40 : ad_40 0 = t_q_) (H : Heap) (locs : List Loc), (wj_L_does_237 Q) v2_38 o_39 → va_P (dC, dI) vwCl ([(a_d_, .inl (g 0, n_d_, .inl d_))] ++ (offS ad_40 tp_q_ hd_q_ tf_q_ cf_q_ g o_39)) H → va_D A ([(a_d_, .inl (g 0, n_d_, .inl d_))] ++ (offS ad_40 tp_q_ hd_q_ tf_q_ cf_q_ g o_39)) → va_S A s.heap H locs → ∀ (ls : Array Slot), lv_has ls 5 [(2, .int v2_38)] → W p l e (headSpec wqL_does ({ frames := 9, cells := 114, slots := 683, locals := 167 })).room s m ([.ref t_q_, .ref a_d_] : List Value).toArray below meth c H locs 7 42 QM (F0 m 237 ls []) := by
        intro v2_38 o_39 ad_40 had_40 H locs hw hP hD hS ls hl
        refine lv_iload_n hx hb dL_does_237 rfl (lv_at hl 0 rfl) ?_
        refine lv_sipush (v := (-20004)) hx hb dL_does_238 (by decide) ?_
        refine lv_icmp_eq (tgt := 248) hx hb dL_does_241 (by decide) (fun c_41 => ?_) (fun c_41 => ?_)
        · have hw := hw.1 c_41
          refine lv_iconst (v := 0) hx hb dL_does_248 (by decide) ?_
          refine W.widen (k := 114) (n := 683) (by omega) (by omega) ?_
          subst hQM
          exact W.zret (v := 0) hx hb hr rfl (fun t ht hW => ⟨⟨_, (ad_40, o_39, ()), rfl, ⟨false, rfl, ⟨hw, had_40⟩⟩, ⟨P_at ht hP, hD⟩⟩, hS.F ht⟩) hS.2.2 dL_does_249
        · have hw := hw.2 c_41
          refine lv_iconst (v := 1) hx hb dL_does_244 (by decide) ?_
          refine lv_goto (tgt := 249) hx hb dL_does_245 (by decide) ?_
          refine W.widen (k := 114) (n := 683) (by omega) (by omega) ?_
          subst hQM
          exact W.zret (v := 1) hx hb hr rfl (fun t ht hW => ⟨⟨_, (ad_40, o_39, ()), rfl, ⟨true, rfl, ⟨hw, had_40⟩⟩, ⟨P_at ht hP, hD⟩⟩, hS.F ht⟩) hS.2.2 dL_does_249
      refine lv_icmp_eq (tgt := 237) hx hb dL_does_212 (by decide) (fun c_42 => ?_) (fun c_42 => ?_)
      · have hw := hw.1 c_42
        refine W.widen (k := 7) (n := 42) (by omega) (by omega) ?_
        exact JN237 r_35 o_37 ad_36 had_36 _ _ hw hP hD hS _ (lv_sub hl [0] rfl)
      · have hw := hw.2 c_42
        refine lv_aload_n hx hb dL_does_215 rfl (lv_at hl 2 rfl) ?_
        refine lv_iconst (v := 3) hx hb dL_does_216 (by decide) ?_
        refine va_iald hx hb hK hP 0 0 rfl rfl hw.1 dL_does_217 ?_
        have hw := hw.2
        refine lv_topi (fun x_43 ex_43 => ?_)
        have hw := hw x_43 ex_43
        refine lv_bipush (v := 7) hx hb dL_does_218 (by decide) ?_
        have JN236 : ∀ (sk0_44 : Int32) (o_45 : OS) (ad_46 : Nat → Nat) (had_46 : ad_46 0 = t_q_) (H : Heap) (locs : List Loc), (wj_L_does_236 Q) sk0_44 o_45 → va_P (dC, dI) vwCl ([(a_d_, .inl (g 0, n_d_, .inl d_))] ++ (offS ad_46 tp_q_ hd_q_ tf_q_ cf_q_ g o_45)) H → va_D A ([(a_d_, .inl (g 0, n_d_, .inl d_))] ++ (offS ad_46 tp_q_ hd_q_ tf_q_ cf_q_ g o_45)) → va_S A s.heap H locs → ∀ (ls : Array Slot), lv_has ls 5 [] → W p l e (headSpec wqL_does ({ frames := 9, cells := 114, slots := 683, locals := 167 })).room s m ([.ref t_q_, .ref a_d_] : List Value).toArray below meth c H locs 7 42 QM (F0 m 236 ls [.int sk0_44]) := by
          intro sk0_44 o_45 ad_46 had_46 H locs hw hP hD hS ls hl
          refine lv_istore_n (lv' := [(2, .int sk0_44)]) hx hb dL_does_236 rfl hl (by decide) rfl (fun ls hl => ?_)
          refine W.widen (k := 7) (n := 42) (by omega) (by omega) ?_
          exact JN237 sk0_44 o_45 ad_46 had_46 _ _ hw hP hD hS _ (lv_sub hl [0] rfl)
        refine lv_icmp_ne (tgt := 227) hx hb dL_does_220 (by decide) (fun c_47 => ?_) (fun c_47 => ?_)
        · have hw := hw.2 c_47
          refine lv_aload_n hx hb dL_does_227 rfl (lv_at hl 1 rfl) ?_
          refine lv_bipush (v := 7) hx hb dL_does_228 (by decide) ?_
          refine lv_aload_n hx hb dL_does_230 rfl (lv_at hl 2 rfl) ?_
          refine lv_iconst (v := 3) hx hb dL_does_231 (by decide) ?_
          refine va_iald hx hb hK hP 0 0 rfl rfl hw.1 dL_does_232 ?_
          have hw := hw.2
          refine lv_topi (fun x_48 ex_48 => ?_)
          have hw := hw x_48 ex_48
          obtain ⟨hPs, hDs⟩ := seg_call (segs := [[(a_d_, .inl (g 0, n_d_, .inl d_))], offS ad_36 tp_q_ hd_q_ tf_q_ cf_q_ g o_37]) [[(a_d_, .inl (g 0, n_d_, .inl d_))]] [offS ad_36 tp_q_ hd_q_ tf_q_ cf_q_ g o_37] 2 [0, 1] rfl rfl (by decide) hP hD
          have hPc : va_P (dC, dI) vwCl (offS ad_36 tp_q_ hd_q_ tf_q_ cf_q_ g o_37) H_35 := P_r hPs
          have hDc : va_D A (offS ad_36 tp_q_ hd_q_ tf_q_ cf_q_ g o_37) := D_r hDs
          have hFc : ∀ q, va_A (offS ad_36 tp_q_ hd_q_ tf_q_ cf_q_ g o_37) H_35.size q → A q := A_all hDc hA hS.1
          refine vx_calli (vx_runV (As := [.int 7, .int x_48]) (rest := []) ⟨hx, hb, hml, hown, hts⟩ (p_copy l hlf dC dI g tp_q_ hd_q_ tf_q_ cf_q_ htf_q_ hcf_q_ ad_36 t_q_ had_36 o_37 7 x_48 (hw := hw) (sz := H_35.size)) (cwV 2 hts (gqV aw_3_132 aw_3_133 aw_3_134 aw_1_1 aw_3_135) rfl rfl rfl (by decide +kernel) ⟨Nat.le_of_ble_eq_true rfl, Nat.le_of_ble_eq_true rfl⟩) ⟨PG_blind, off_recv had_36 hK hPc, PG_call hK hG hS hPc hDc hFc⟩ rfl rfl hl.1 rfl (lv_room (Nat.le_of_ble_eq_true rfl)) dL_does_233 ⟨by rw [hrc]; omega, by rw [hrs]; omega⟩) hS (fun q _ h => hFc q h) hFc (fun q _ h => hFc q h) (fun E ce q9 ux t H1 locs1 ht hvm hp9 hB9 hz hk hS9 hce hcv hcl => ?_) (fun r_49 u_49 t_49 H_49 L_49 ht_49 hvm_49 hw_49 hB_49 hz_49 hk_49 hS => ?_)
          · exact (hB9.1.1).elim
          obtain ⟨ad_50, o_51⟩ := u_49
          obtain ⟨hw, had_50⟩ := hw_49
          rw [ht_49] at hB_49
          obtain ⟨hP1, hD1⟩ := hB_49
          obtain ⟨hP, hD⟩ := join_r hPs hDs hk_49 hFc hP1 hD1
          obtain ⟨hP, hD⟩ := seg_join [[(a_d_, .inl (g 0, n_d_, .inl d_))]] [offS ad_50 tp_q_ hd_q_ tf_q_ cf_q_ g o_51] [[(a_d_, .inl (g 0, n_d_, .inl d_))], offS ad_50 tp_q_ hd_q_ tf_q_ cf_q_ g o_51] 2 [0, 1] rfl rfl (by decide) hP hD
          have hP : va_P (dC, dI) vwCl ([(a_d_, .inl (g 0, n_d_, .inl d_))] ++ (offS ad_50 tp_q_ hd_q_ tf_q_ cf_q_ g o_51)) H_49 := hP
          have hD : va_D A ([(a_d_, .inl (g 0, n_d_, .inl d_))] ++ (offS ad_50 tp_q_ hd_q_ tf_q_ cf_q_ g o_51)) := hD
          refine W.widen (k := 7) (n := 42) (by omega) (by omega) ?_
          refine W.widen (k := 7) (n := 42) (by omega) (by omega) ?_
          exact JN236 r_49 o_51 ad_50 had_50 _ _ hw hP hD hS _ (lv_sub hl [] rfl)
        · have hw := hw.1 c_47
          refine lv_iload_n hx hb dL_does_223 rfl (lv_at hl 0 rfl) ?_
          refine lv_goto (tgt := 236) hx hb dL_does_224 (by decide) ?_
          refine W.widen (k := 7) (n := 42) (by omega) (by omega) ?_
          exact JN236 r_35 o_37 ad_36 had_36 _ _ hw hP hD hS _ (lv_sub hl [] rfl)
  · have hw := hw.1 c_2
    refine lv_iconst (v := 5) hx hb dL_does_6 (by decide) ?_
    refine va_newa (atype := .int) (a0 := (5, .inl (fun _ => 0))) hx hb hnaint rfl hK hP hD hS hA (fun _ => rfl) (by decide) (N' := 5) (by decide) (Nat.le_of_ble_eq_true rfl) (by rw [hrc]; omega) (by rw [hrs]; omega) dL_does_7 (fun a_q_52 cA_54 H_53 hK9 hP hD hS => ?_)
    obtain rfl : g 0 = cA_54 := K_one hK9 0 5 rfl rfl
    obtain ⟨hP, hD⟩ := seg_join [[(a_d_, .inl (g 0, n_d_, .inl d_))], offS a_q_ tp_q_ hd_q_ tf_q_ cf_q_ g o_q_] [[(a_q_52, .inl (g 0, 5, .inl (fun _ => 0)))]] [[(a_d_, .inl (g 0, n_d_, .inl d_))], [(a_q_52, .inl (g 0, 5, .inl (fun _ => 0)))], offS a_q_ tp_q_ hd_q_ tf_q_ cf_q_ g o_q_] 3 [0, 2, 1] rfl rfl (by decide) hP hD
    have hP : va_P (dC, dI) vwCl ([(a_d_, .inl (g 0, n_d_, .inl d_)), (a_q_52, .inl (g 0, 5, .inl (fun _ => 0)))] ++ (offS a_q_ tp_q_ hd_q_ tf_q_ cf_q_ g o_q_)) H_53 := hP
    have hD : va_D A ([(a_d_, .inl (g 0, n_d_, .inl d_)), (a_q_52, .inl (g 0, 5, .inl (fun _ => 0)))] ++ (offS a_q_ tp_q_ hd_q_ tf_q_ cf_q_ g o_q_)) := hD
    refine W.widen (k := 1) (n := 5) (by omega) (by omega) ?_
    refine lv_astore_n (lv' := [(3, .ref a_q_52), (0, .ref t_q_), (1, .ref a_d_)]) hx hb dL_does_9 rfl hl (by decide) rfl (fun ls hl => ?_)
    refine lv_iconst (v := 0) hx hb dL_does_10 (by decide) ?_
    refine lv_istore (lv' := [(4, .int 0), (3, .ref a_q_52), (0, .ref t_q_), (1, .ref a_d_)]) hx hb dL_does_11 hl (by decide) rfl (fun ls hl => ?_)
    refine W_abs (fun QM hQM => ?_)
    have EX13_35 : ∀ (q7_59 : Nat → Int32) (o_60 : OS) (ad_61 : Nat → Nat) (had_61 : ad_61 0 = t_q_) (H : Heap) (locs : List Loc), (wx_L_does_13_35 n_d_ d_ Q) q7_59 o_60 → va_P (dC, dI) vwCl ([(a_d_, .inl (g 0, n_d_, .inl d_)), (a_q_52, .inl (g 0, 5, .inl q7_59))] ++ (offS ad_61 tp_q_ hd_q_ tf_q_ cf_q_ g o_60)) H → va_D A ([(a_d_, .inl (g 0, n_d_, .inl d_)), (a_q_52, .inl (g 0, 5, .inl q7_59))] ++ (offS ad_61 tp_q_ hd_q_ tf_q_ cf_q_ g o_60)) → va_S A s.heap H locs → ∀ (ls : Array Slot), lv_has ls 5 [(0, .ref t_q_), (1, .ref a_d_), (3, .ref a_q_52)] → W p l e (headSpec wqL_does ({ frames := 9, cells := 114, slots := 683, locals := 167 })).room s m ([.ref t_q_, .ref a_d_] : List Value).toArray below meth c H locs 102 611 QM (F0 m 35 ls []) := by
      intro q7_59 o_60 ad_61 had_61 H locs hw hP hD hS ls hl
      refine lv_aload_n hx hb dL_does_35 rfl (lv_at hl 0 rfl) ?_
      refine lv_aload_n hx hb dL_does_36 rfl (lv_at hl 1 rfl) ?_
      refine lv_iconst (v := 4) hx hb dL_does_37 (by decide) ?_
      refine va_iald hx hb hK hP 0 0 rfl rfl hw.1 dL_does_38 ?_
      have hw := hw.2
      refine lv_topi (fun x_62 ex_62 => ?_)
      have hw := hw x_62 ex_62
      refine lv_iconst (v := (-1)) hx hb dL_does_39 (by decide) ?_
      have JN52 : ∀ (sk0_63 : Int32) (H : Heap) (locs : List Loc), (wj_L_does_52 n_d_ d_ Q q7_59 o_60) sk0_63 → va_P (dC, dI) vwCl ([(a_d_, .inl (g 0, n_d_, .inl d_)), (a_q_52, .inl (g 0, 5, .inl q7_59))] ++ (offS ad_61 tp_q_ hd_q_ tf_q_ cf_q_ g o_60)) H → va_D A ([(a_d_, .inl (g 0, n_d_, .inl d_)), (a_q_52, .inl (g 0, 5, .inl q7_59))] ++ (offS ad_61 tp_q_ hd_q_ tf_q_ cf_q_ g o_60)) → va_S A s.heap H locs → ∀ (ls : Array Slot), lv_has ls 5 [(0, .ref t_q_), (1, .ref a_d_), (3, .ref a_q_52)] → W p l e (headSpec wqL_does ({ frames := 9, cells := 114, slots := 683, locals := 167 })).room s m ([.ref t_q_, .ref a_d_] : List Value).toArray below meth c H locs 102 611 QM (F0 m 52 ls [.int sk0_63, .ref t_q_]) := by
        intro sk0_63 H locs hw hP hD hS ls hl
        refine lv_aload_n hx hb dL_does_52 rfl (lv_at hl 1 rfl) ?_
        refine lv_iconst (v := 5) hx hb dL_does_53 (by decide) ?_
        refine va_iald hx hb hK hP 0 0 rfl rfl hw.1 dL_does_54 ?_
        have hw := hw.2
        refine lv_topi (fun x_64 ex_64 => ?_)
        have hw := hw x_64 ex_64
        refine lv_iconst (v := (-1)) hx hb dL_does_55 (by decide) ?_
        have JN68 : ∀ (sk0_65 : Int32) (H : Heap) (locs : List Loc), (wj_L_does_68 n_d_ d_ Q q7_59 o_60 sk0_63) sk0_65 → va_P (dC, dI) vwCl ([(a_d_, .inl (g 0, n_d_, .inl d_)), (a_q_52, .inl (g 0, 5, .inl q7_59))] ++ (offS ad_61 tp_q_ hd_q_ tf_q_ cf_q_ g o_60)) H → va_D A ([(a_d_, .inl (g 0, n_d_, .inl d_)), (a_q_52, .inl (g 0, 5, .inl q7_59))] ++ (offS ad_61 tp_q_ hd_q_ tf_q_ cf_q_ g o_60)) → va_S A s.heap H locs → ∀ (ls : Array Slot), lv_has ls 5 [(0, .ref t_q_), (1, .ref a_d_), (3, .ref a_q_52)] → W p l e (headSpec wqL_does ({ frames := 9, cells := 114, slots := 683, locals := 167 })).room s m ([.ref t_q_, .ref a_d_] : List Value).toArray below meth c H locs 102 611 QM (F0 m 68 ls [.int sk0_65, .int sk0_63, .ref t_q_]) := by
          intro sk0_65 H locs hw hP hD hS ls hl
          refine lv_aload_n hx hb dL_does_68 rfl (lv_at hl 1 rfl) ?_
          refine lv_iconst (v := 5) hx hb dL_does_69 (by decide) ?_
          refine va_iald hx hb hK hP 0 0 rfl rfl hw.1 dL_does_70 ?_
          have hw := hw.2
          refine lv_topi (fun x_66 ex_66 => ?_)
          have hw := hw x_66 ex_66
          refine lv_iconst (v := (-1)) hx hb dL_does_71 (by decide) ?_
          have JN92 : ∀ (sk0_67 : Int32) (H : Heap) (locs : List Loc), (wj_L_does_92 n_d_ d_ Q q7_59 o_60 sk0_63 sk0_65) sk0_67 → va_P (dC, dI) vwCl ([(a_d_, .inl (g 0, n_d_, .inl d_)), (a_q_52, .inl (g 0, 5, .inl q7_59))] ++ (offS ad_61 tp_q_ hd_q_ tf_q_ cf_q_ g o_60)) H → va_D A ([(a_d_, .inl (g 0, n_d_, .inl d_)), (a_q_52, .inl (g 0, 5, .inl q7_59))] ++ (offS ad_61 tp_q_ hd_q_ tf_q_ cf_q_ g o_60)) → va_S A s.heap H locs → ∀ (ls : Array Slot), lv_has ls 5 [(0, .ref t_q_), (1, .ref a_d_), (3, .ref a_q_52)] → W p l e (headSpec wqL_does ({ frames := 9, cells := 114, slots := 683, locals := 167 })).room s m ([.ref t_q_, .ref a_d_] : List Value).toArray below meth c H locs 102 611 QM (F0 m 92 ls [.int sk0_67, .int sk0_65, .int sk0_63, .ref t_q_]) := by
            intro sk0_67 H locs hw hP hD hS ls hl
            obtain ⟨hPs, hDs⟩ := seg_call (segs := [[(a_d_, .inl (g 0, n_d_, .inl d_))], [(a_q_52, .inl (g 0, 5, .inl q7_59))], offS ad_61 tp_q_ hd_q_ tf_q_ cf_q_ g o_60]) [[(a_d_, .inl (g 0, n_d_, .inl d_))], [(a_q_52, .inl (g 0, 5, .inl q7_59))]] [offS ad_61 tp_q_ hd_q_ tf_q_ cf_q_ g o_60] 3 [0, 1, 2] rfl rfl (by decide) hP hD
            have hPc : va_P (dC, dI) vwCl (offS ad_61 tp_q_ hd_q_ tf_q_ cf_q_ g o_60) H := P_r hPs
            have hDc : va_D A (offS ad_61 tp_q_ hd_q_ tf_q_ cf_q_ g o_60) := D_r hDs
            have hFc : ∀ q, va_A (offS ad_61 tp_q_ hd_q_ tf_q_ cf_q_ g o_60) H.size q → A q := A_all hDc hA hS.1
            refine vx_calli (vx_runV (As := [.int sk0_63, .int sk0_65, .int sk0_67]) (rest := []) ⟨hx, hb, hml, hown, hts⟩ (p_setRuns l hlf dC dI g tp_q_ hd_q_ tf_q_ cf_q_ htf_q_ hcf_q_ ad_61 t_q_ had_61 o_60 sk0_63 sk0_65 sk0_67 (hw := hw) (sz := H.size)) (cwV 3 hts (gqV aw_3_154 aw_3_155 aw_3_156 aw_1_1 aw_3_157) rfl rfl rfl (by decide +kernel) ⟨Nat.le_of_ble_eq_true rfl, Nat.le_of_ble_eq_true rfl⟩) ⟨PG_blind, off_recv had_61 hK hPc, PG_call hK hG hS hPc hDc hFc⟩ rfl rfl hl.1 rfl (lv_room (Nat.le_of_ble_eq_true rfl)) dL_does_92 ⟨by rw [hrc]; omega, by rw [hrs]; omega⟩) hS (fun q _ h => hFc q h) hFc (fun q _ h => hFc q h) (fun E ce q9 ux t H1 locs1 ht hvm hp9 hB9 hz hk hS9 hce hcv hcl => ?_) (fun r_68 u_68 t_68 H_68 L_68 ht_68 hvm_68 hw_68 hB_68 hz_68 hk_68 hS => ?_)
            · exact (hB9.1.1).elim
            obtain ⟨ad_69, o_70⟩ := u_68
            obtain ⟨hw, had_69⟩ := hw_68
            rw [ht_68] at hB_68
            obtain ⟨hP1, hD1⟩ := hB_68
            obtain ⟨hP, hD⟩ := join_r hPs hDs hk_68 hFc hP1 hD1
            obtain ⟨hP, hD⟩ := seg_join [[(a_d_, .inl (g 0, n_d_, .inl d_))], [(a_q_52, .inl (g 0, 5, .inl q7_59))]] [offS ad_69 tp_q_ hd_q_ tf_q_ cf_q_ g o_70] [[(a_d_, .inl (g 0, n_d_, .inl d_))], [(a_q_52, .inl (g 0, 5, .inl q7_59))], offS ad_69 tp_q_ hd_q_ tf_q_ cf_q_ g o_70] 3 [0, 1, 2] rfl rfl (by decide) hP hD
            have hP : va_P (dC, dI) vwCl ([(a_d_, .inl (g 0, n_d_, .inl d_)), (a_q_52, .inl (g 0, 5, .inl q7_59))] ++ (offS ad_69 tp_q_ hd_q_ tf_q_ cf_q_ g o_70)) H_68 := hP
            have hD : va_D A ([(a_d_, .inl (g 0, n_d_, .inl d_)), (a_q_52, .inl (g 0, 5, .inl q7_59))] ++ (offS ad_69 tp_q_ hd_q_ tf_q_ cf_q_ g o_70)) := hD
            refine W.widen (k := 105) (n := 629) (by omega) (by omega) ?_
            refine lv_istore_n (lv' := [(2, .int r_68), (0, .ref t_q_), (1, .ref a_d_), (3, .ref a_q_52)]) hx hb dL_does_95 rfl hl (by decide) rfl (fun ls hl => ?_)
            refine lv_aload_n hx hb dL_does_96 rfl (lv_at hl 1 rfl) ?_
            refine lv_aload_n hx hb dL_does_97 rfl (lv_at hl 2 rfl) ?_
            refine lv_bipush (v := 7) hx hb dL_does_98 (by decide) ?_
            refine va_iald hx hb hK hP 0 0 rfl rfl hw.1 dL_does_100 ?_
            have hw := hw.2
            refine lv_topi (fun x_71 ex_71 => ?_)
            have hw := hw x_71 ex_71
            refine lv_iconst (v := (-1)) hx hb dL_does_101 (by decide) ?_
            have JN115 : ∀ (sk0_72 : Int32) (H : Heap) (locs : List Loc), (wj_L_does_115 n_d_ d_ Q q7_59 o_70) sk0_72 → va_P (dC, dI) vwCl ([(a_d_, .inl (g 0, n_d_, .inl d_)), (a_q_52, .inl (g 0, 5, .inl q7_59))] ++ (offS ad_69 tp_q_ hd_q_ tf_q_ cf_q_ g o_70)) H → va_D A ([(a_d_, .inl (g 0, n_d_, .inl d_)), (a_q_52, .inl (g 0, 5, .inl q7_59))] ++ (offS ad_69 tp_q_ hd_q_ tf_q_ cf_q_ g o_70)) → va_S A s.heap H locs → ∀ (ls : Array Slot), lv_has ls 5 [(0, .ref t_q_), (1, .ref a_d_), (3, .ref a_q_52)] → W p l e (headSpec wqL_does ({ frames := 9, cells := 114, slots := 683, locals := 167 })).room s m ([.ref t_q_, .ref a_d_] : List Value).toArray below meth c H locs 105 629 QM (F0 m 115 ls [.int sk0_72, .ref t_q_]) := by
              intro sk0_72 H locs hw hP hD hS ls hl
              refine lv_aload_n hx hb dL_does_115 rfl (lv_at hl 1 rfl) ?_
              refine lv_bipush (v := 7) hx hb dL_does_116 (by decide) ?_
              refine va_iald hx hb hK hP 0 0 rfl rfl hw.1 dL_does_118 ?_
              have hw := hw.2
              refine lv_topi (fun x_73 ex_73 => ?_)
              have hw := hw x_73 ex_73
              refine lv_iconst (v := (-1)) hx hb dL_does_119 (by decide) ?_
              have JN141 : ∀ (sk0_74 : Int32) (H : Heap) (locs : List Loc), (wj_L_does_141 n_d_ d_ Q q7_59 o_70 sk0_72) sk0_74 → va_P (dC, dI) vwCl ([(a_d_, .inl (g 0, n_d_, .inl d_)), (a_q_52, .inl (g 0, 5, .inl q7_59))] ++ (offS ad_69 tp_q_ hd_q_ tf_q_ cf_q_ g o_70)) H → va_D A ([(a_d_, .inl (g 0, n_d_, .inl d_)), (a_q_52, .inl (g 0, 5, .inl q7_59))] ++ (offS ad_69 tp_q_ hd_q_ tf_q_ cf_q_ g o_70)) → va_S A s.heap H locs → ∀ (ls : Array Slot), lv_has ls 5 [(0, .ref t_q_), (1, .ref a_d_), (3, .ref a_q_52)] → W p l e (headSpec wqL_does ({ frames := 9, cells := 114, slots := 683, locals := 167 })).room s m ([.ref t_q_, .ref a_d_] : List Value).toArray below meth c H locs 105 629 QM (F0 m 141 ls [.int sk0_74, .int sk0_72, .ref t_q_]) := by
                intro sk0_74 H locs hw hP hD hS ls hl
                obtain ⟨hPs, hDs⟩ := seg_call (segs := [[(a_d_, .inl (g 0, n_d_, .inl d_))], [(a_q_52, .inl (g 0, 5, .inl q7_59))], offS ad_69 tp_q_ hd_q_ tf_q_ cf_q_ g o_70]) [[(a_d_, .inl (g 0, n_d_, .inl d_))], [(a_q_52, .inl (g 0, 5, .inl q7_59))]] [offS ad_69 tp_q_ hd_q_ tf_q_ cf_q_ g o_70] 3 [0, 1, 2] rfl rfl (by decide) hP hD
                have hPc : va_P (dC, dI) vwCl (offS ad_69 tp_q_ hd_q_ tf_q_ cf_q_ g o_70) H := P_r hPs
                have hDc : va_D A (offS ad_69 tp_q_ hd_q_ tf_q_ cf_q_ g o_70) := D_r hDs
                have hFc : ∀ q, va_A (offS ad_69 tp_q_ hd_q_ tf_q_ cf_q_ g o_70) H.size q → A q := A_all hDc hA hS.1
                refine vx_calli (vx_runV (As := [.int sk0_72, .int sk0_74]) (rest := []) ⟨hx, hb, hml, hown, hts⟩ (p_setMerge l hlf dC dI g tp_q_ hd_q_ tf_q_ cf_q_ htf_q_ hcf_q_ ad_69 t_q_ had_69 o_70 sk0_72 sk0_74 (hw := hw) (sz := H.size)) (cwV 2 hts (gqV aw_4_52 aw_4_53 aw_4_54 aw_1_1 aw_4_55) rfl rfl rfl (by decide +kernel) ⟨Nat.le_of_ble_eq_true rfl, Nat.le_of_ble_eq_true rfl⟩) ⟨PG_blind, off_recv had_69 hK hPc, PG_call hK hG hS hPc hDc hFc⟩ rfl rfl hl.1 rfl (lv_room (Nat.le_of_ble_eq_true rfl)) dL_does_141 ⟨by rw [hrc]; omega, by rw [hrs]; omega⟩) hS (fun q _ h => hFc q h) hFc (fun q _ h => hFc q h) (fun E ce q9 ux t H1 locs1 ht hvm hp9 hB9 hz hk hS9 hce hcv hcl => ?_) (fun r_75 u_75 t_75 H_75 L_75 ht_75 hvm_75 hw_75 hB_75 hz_75 hk_75 hS => ?_)
                · exact (hB9.1.1).elim
                obtain ⟨ad_76, o_77⟩ := u_75
                obtain ⟨hw, had_76⟩ := hw_75
                rw [ht_75] at hB_75
                obtain ⟨hP1, hD1⟩ := hB_75
                obtain ⟨hP, hD⟩ := join_r hPs hDs hk_75 hFc hP1 hD1
                obtain ⟨hP, hD⟩ := seg_join [[(a_d_, .inl (g 0, n_d_, .inl d_))], [(a_q_52, .inl (g 0, 5, .inl q7_59))]] [offS ad_76 tp_q_ hd_q_ tf_q_ cf_q_ g o_77] [[(a_d_, .inl (g 0, n_d_, .inl d_))], [(a_q_52, .inl (g 0, 5, .inl q7_59))], offS ad_76 tp_q_ hd_q_ tf_q_ cf_q_ g o_77] 3 [0, 1, 2] rfl rfl (by decide) hP hD
                have hP : va_P (dC, dI) vwCl ([(a_d_, .inl (g 0, n_d_, .inl d_)), (a_q_52, .inl (g 0, 5, .inl q7_59))] ++ (offS ad_76 tp_q_ hd_q_ tf_q_ cf_q_ g o_77)) H_75 := hP
                have hD : va_D A ([(a_d_, .inl (g 0, n_d_, .inl d_)), (a_q_52, .inl (g 0, 5, .inl q7_59))] ++ (offS ad_76 tp_q_ hd_q_ tf_q_ cf_q_ g o_77)) := hD
                refine W.widen (k := 107) (n := 641) (by omega) (by omega) ?_
                refine lv_istore_n (lv' := [(2, .int r_75), (0, .ref t_q_), (1, .ref a_d_), (3, .ref a_q_52)]) hx hb dL_does_144 rfl hl (by decide) rfl (fun ls hl => ?_)
                refine lv_aload_n hx hb dL_does_145 rfl (lv_at hl 1 rfl) ?_
                refine lv_aload_n hx hb dL_does_146 rfl (lv_at hl 2 rfl) ?_
                refine lv_iconst (v := 1) hx hb dL_does_147 (by decide) ?_
                refine va_iald hx hb hK hP 0 0 rfl rfl hw.1 dL_does_148 ?_
                have hw := hw.2
                refine lv_topi (fun x_78 ex_78 => ?_)
                have hw := hw x_78 ex_78
                refine lv_aload_n hx hb dL_does_149 rfl (lv_at hl 2 rfl) ?_
                refine lv_iconst (v := 2) hx hb dL_does_150 (by decide) ?_
                refine va_iald hx hb hK hP 0 0 rfl rfl hw.1 dL_does_151 ?_
                have hw := hw.2
                refine lv_topi (fun x_79 ex_79 => ?_)
                have hw := hw x_79 ex_79
                obtain ⟨hPs, hDs⟩ := seg_call (segs := [[(a_d_, .inl (g 0, n_d_, .inl d_))], [(a_q_52, .inl (g 0, 5, .inl q7_59))], offS ad_76 tp_q_ hd_q_ tf_q_ cf_q_ g o_77]) [[(a_d_, .inl (g 0, n_d_, .inl d_))], [(a_q_52, .inl (g 0, 5, .inl q7_59))]] [offS ad_76 tp_q_ hd_q_ tf_q_ cf_q_ g o_77] 3 [0, 1, 2] rfl rfl (by decide) hP hD
                have hPc : va_P (dC, dI) vwCl (offS ad_76 tp_q_ hd_q_ tf_q_ cf_q_ g o_77) H_75 := P_r hPs
                have hDc : va_D A (offS ad_76 tp_q_ hd_q_ tf_q_ cf_q_ g o_77) := D_r hDs
                have hFc : ∀ q, va_A (offS ad_76 tp_q_ hd_q_ tf_q_ cf_q_ g o_77) H_75.size q → A q := A_all hDc hA hS.1
                refine vx_calli (vx_runV (As := [.int x_78, .int x_79]) (rest := []) ⟨hx, hb, hml, hown, hts⟩ (p_sort l hlf dC dI g tp_q_ hd_q_ tf_q_ cf_q_ htf_q_ hcf_q_ ad_76 t_q_ had_76 o_77 x_78 x_79 (hw := hw) (sz := H_75.size)) (cwV 2 hts (gqV aw_6_67 aw_6_68 aw_6_69 aw_1_1 aw_6_70) rfl rfl rfl (by decide +kernel) ⟨Nat.le_of_ble_eq_true rfl, Nat.le_of_ble_eq_true rfl⟩) ⟨PG_blind, off_recv had_76 hK hPc, PG_call hK hG hS hPc hDc hFc⟩ rfl rfl hl.1 rfl (lv_room (Nat.le_of_ble_eq_true rfl)) dL_does_152 ⟨by rw [hrc]; omega, by rw [hrs]; omega⟩) hS (fun q _ h => hFc q h) hFc (fun q _ h => hFc q h) (fun E ce q9 ux t H1 locs1 ht hvm hp9 hB9 hz hk hS9 hce hcv hcl => ?_) (fun r_80 u_80 t_80 H_80 L_80 ht_80 hvm_80 hw_80 hB_80 hz_80 hk_80 hS => ?_)
                · exact (hB9.1.1).elim
                obtain ⟨ad_81, o_82⟩ := u_80
                obtain ⟨hw, had_81⟩ := hw_80
                rw [ht_80] at hB_80
                obtain ⟨hP1, hD1⟩ := hB_80
                obtain ⟨hP, hD⟩ := join_r hPs hDs hk_80 hFc hP1 hD1
                obtain ⟨hP, hD⟩ := seg_join [[(a_d_, .inl (g 0, n_d_, .inl d_))], [(a_q_52, .inl (g 0, 5, .inl q7_59))]] [offS ad_81 tp_q_ hd_q_ tf_q_ cf_q_ g o_82] [[(a_d_, .inl (g 0, n_d_, .inl d_))], [(a_q_52, .inl (g 0, 5, .inl q7_59))], offS ad_81 tp_q_ hd_q_ tf_q_ cf_q_ g o_82] 3 [0, 1, 2] rfl rfl (by decide) hP hD
                have hP : va_P (dC, dI) vwCl ([(a_d_, .inl (g 0, n_d_, .inl d_)), (a_q_52, .inl (g 0, 5, .inl q7_59))] ++ (offS ad_81 tp_q_ hd_q_ tf_q_ cf_q_ g o_82)) H_80 := hP
                have hD : va_D A ([(a_d_, .inl (g 0, n_d_, .inl d_)), (a_q_52, .inl (g 0, 5, .inl q7_59))] ++ (offS ad_81 tp_q_ hd_q_ tf_q_ cf_q_ g o_82)) := hD
                refine W.widen (k := 109) (n := 653) (by omega) (by omega) ?_
                refine lv_istore_n (lv' := [(2, .int r_80), (0, .ref t_q_), (1, .ref a_d_), (3, .ref a_q_52)]) hx hb dL_does_155 rfl hl (by decide) rfl (fun ls hl => ?_)
                refine lv_aload_n hx hb dL_does_156 rfl (lv_at hl 1 rfl) ?_
                refine lv_aload_n hx hb dL_does_157 rfl (lv_at hl 3 rfl) ?_
                refine lv_iconst (v := 0) hx hb dL_does_158 (by decide) ?_
                refine va_iald hx hb hK hP 1 0 rfl rfl (by unfold vp_in; decide) dL_does_159 ?_
                refine lv_topi (fun x_83 ex_83 => ?_)
                have hw := hw x_83 ex_83
                refine lv_aload_n hx hb dL_does_160 rfl (lv_at hl 3 rfl) ?_
                refine lv_iconst (v := 1) hx hb dL_does_161 (by decide) ?_
                refine va_iald hx hb hK hP 1 0 rfl rfl (by unfold vp_in; decide) dL_does_162 ?_
                refine lv_topi (fun x_84 ex_84 => ?_)
                have hw := hw x_84 ex_84
                refine lv_aload_n hx hb dL_does_163 rfl (lv_at hl 3 rfl) ?_
                refine lv_iconst (v := 2) hx hb dL_does_164 (by decide) ?_
                refine va_iald hx hb hK hP 1 0 rfl rfl (by unfold vp_in; decide) dL_does_165 ?_
                refine lv_topi (fun x_85 ex_85 => ?_)
                have hw := hw x_85 ex_85
                obtain ⟨hPs, hDs⟩ := seg_call (segs := [[(a_d_, .inl (g 0, n_d_, .inl d_))], [(a_q_52, .inl (g 0, 5, .inl q7_59))], offS ad_81 tp_q_ hd_q_ tf_q_ cf_q_ g o_82]) [[(a_d_, .inl (g 0, n_d_, .inl d_))], [(a_q_52, .inl (g 0, 5, .inl q7_59))]] [offS ad_81 tp_q_ hd_q_ tf_q_ cf_q_ g o_82] 3 [0, 1, 2] rfl rfl (by decide) hP hD
                have hPc : va_P (dC, dI) vwCl (offS ad_81 tp_q_ hd_q_ tf_q_ cf_q_ g o_82) H_80 := P_r hPs
                have hDc : va_D A (offS ad_81 tp_q_ hd_q_ tf_q_ cf_q_ g o_82) := D_r hDs
                have hFc : ∀ q, va_A (offS ad_81 tp_q_ hd_q_ tf_q_ cf_q_ g o_82) H_80.size q → A q := A_all hDc hA hS.1
                refine vx_calli (vx_runV (As := [.int x_83, .int x_84, .int x_85]) (rest := []) ⟨hx, hb, hml, hown, hts⟩ (p_setRuns l hlf dC dI g tp_q_ hd_q_ tf_q_ cf_q_ htf_q_ hcf_q_ ad_81 t_q_ had_81 o_82 x_83 x_84 x_85 (hw := hw) (sz := H_80.size)) (cwV 3 hts (gqV aw_3_154 aw_3_155 aw_3_156 aw_1_1 aw_3_157) rfl rfl rfl (by decide +kernel) ⟨Nat.le_of_ble_eq_true rfl, Nat.le_of_ble_eq_true rfl⟩) ⟨PG_blind, off_recv had_81 hK hPc, PG_call hK hG hS hPc hDc hFc⟩ rfl rfl hl.1 rfl (lv_room (Nat.le_of_ble_eq_true rfl)) dL_does_166 ⟨by rw [hrc]; omega, by rw [hrs]; omega⟩) hS (fun q _ h => hFc q h) hFc (fun q _ h => hFc q h) (fun E ce q9 ux t H1 locs1 ht hvm hp9 hB9 hz hk hS9 hce hcv hcl => ?_) (fun r_86 u_86 t_86 H_86 L_86 ht_86 hvm_86 hw_86 hB_86 hz_86 hk_86 hS => ?_)
                · exact (hB9.1.1).elim
                obtain ⟨ad_87, o_88⟩ := u_86
                obtain ⟨hw, had_87⟩ := hw_86
                rw [ht_86] at hB_86
                obtain ⟨hP1, hD1⟩ := hB_86
                obtain ⟨hP, hD⟩ := join_r hPs hDs hk_86 hFc hP1 hD1
                obtain ⟨hP, hD⟩ := seg_join [[(a_d_, .inl (g 0, n_d_, .inl d_))], [(a_q_52, .inl (g 0, 5, .inl q7_59))]] [offS ad_87 tp_q_ hd_q_ tf_q_ cf_q_ g o_88] [[(a_d_, .inl (g 0, n_d_, .inl d_))], [(a_q_52, .inl (g 0, 5, .inl q7_59))], offS ad_87 tp_q_ hd_q_ tf_q_ cf_q_ g o_88] 3 [0, 1, 2] rfl rfl (by decide) hP hD
                have hP : va_P (dC, dI) vwCl ([(a_d_, .inl (g 0, n_d_, .inl d_)), (a_q_52, .inl (g 0, 5, .inl q7_59))] ++ (offS ad_87 tp_q_ hd_q_ tf_q_ cf_q_ g o_88)) H_86 := hP
                have hD : va_D A ([(a_d_, .inl (g 0, n_d_, .inl d_)), (a_q_52, .inl (g 0, 5, .inl q7_59))] ++ (offS ad_87 tp_q_ hd_q_ tf_q_ cf_q_ g o_88)) := hD
                refine W.widen (k := 112) (n := 671) (by omega) (by omega) ?_
                refine lv_aload_n hx hb dL_does_169 rfl (lv_at hl 1 rfl) ?_
                refine lv_aload_n hx hb dL_does_170 rfl (lv_at hl 3 rfl) ?_
                refine lv_iconst (v := 3) hx hb dL_does_171 (by decide) ?_
                refine va_iald hx hb hK hP 1 0 rfl rfl (by unfold vp_in; decide) dL_does_172 ?_
                refine lv_topi (fun x_89 ex_89 => ?_)
                have hw := hw x_89 ex_89
                refine lv_aload_n hx hb dL_does_173 rfl (lv_at hl 3 rfl) ?_
                refine lv_iconst (v := 4) hx hb dL_does_174 (by decide) ?_
                refine va_iald hx hb hK hP 1 0 rfl rfl (by unfold vp_in; decide) dL_does_175 ?_
                refine lv_topi (fun x_90 ex_90 => ?_)
                have hw := hw x_90 ex_90
                obtain ⟨hPs, hDs⟩ := seg_call (segs := [[(a_d_, .inl (g 0, n_d_, .inl d_))], [(a_q_52, .inl (g 0, 5, .inl q7_59))], offS ad_87 tp_q_ hd_q_ tf_q_ cf_q_ g o_88]) [[(a_d_, .inl (g 0, n_d_, .inl d_))], [(a_q_52, .inl (g 0, 5, .inl q7_59))]] [offS ad_87 tp_q_ hd_q_ tf_q_ cf_q_ g o_88] 3 [0, 1, 2] rfl rfl (by decide) hP hD
                have hPc : va_P (dC, dI) vwCl (offS ad_87 tp_q_ hd_q_ tf_q_ cf_q_ g o_88) H_86 := P_r hPs
                have hDc : va_D A (offS ad_87 tp_q_ hd_q_ tf_q_ cf_q_ g o_88) := D_r hDs
                have hFc : ∀ q, va_A (offS ad_87 tp_q_ hd_q_ tf_q_ cf_q_ g o_88) H_86.size q → A q := A_all hDc hA hS.1
                refine vx_calli (vx_runV (As := [.int x_89, .int x_90]) (rest := [.int r_86]) ⟨hx, hb, hml, hown, hts⟩ (p_setMerge l hlf dC dI g tp_q_ hd_q_ tf_q_ cf_q_ htf_q_ hcf_q_ ad_87 t_q_ had_87 o_88 x_89 x_90 (hw := hw) (sz := H_86.size)) (cwV 2 hts (gqV aw_4_52 aw_4_53 aw_4_54 aw_1_1 aw_4_55) rfl rfl rfl (by decide +kernel) ⟨Nat.le_of_ble_eq_true rfl, Nat.le_of_ble_eq_true rfl⟩) ⟨PG_blind, off_recv had_87 hK hPc, PG_call hK hG hS hPc hDc hFc⟩ rfl rfl hl.1 rfl (lv_room (Nat.le_of_ble_eq_true rfl)) dL_does_176 ⟨by rw [hrc]; omega, by rw [hrs]; omega⟩) hS (fun q _ h => hFc q h) hFc (fun q _ h => hFc q h) (fun E ce q9 ux t H1 locs1 ht hvm hp9 hB9 hz hk hS9 hce hcv hcl => ?_) (fun r_91 u_91 t_91 H_91 L_91 ht_91 hvm_91 hw_91 hB_91 hz_91 hk_91 hS => ?_)
                · exact (hB9.1.1).elim
                obtain ⟨ad_92, o_93⟩ := u_91
                obtain ⟨hw, had_92⟩ := hw_91
                rw [ht_91] at hB_91
                obtain ⟨hP1, hD1⟩ := hB_91
                obtain ⟨hP, hD⟩ := join_r hPs hDs hk_91 hFc hP1 hD1
                obtain ⟨hP, hD⟩ := seg_join [[(a_d_, .inl (g 0, n_d_, .inl d_))], [(a_q_52, .inl (g 0, 5, .inl q7_59))]] [offS ad_92 tp_q_ hd_q_ tf_q_ cf_q_ g o_93] [[(a_d_, .inl (g 0, n_d_, .inl d_))], [(a_q_52, .inl (g 0, 5, .inl q7_59))], offS ad_92 tp_q_ hd_q_ tf_q_ cf_q_ g o_93] 3 [0, 1, 2] rfl rfl (by decide) hP hD
                have hP : va_P (dC, dI) vwCl ([(a_d_, .inl (g 0, n_d_, .inl d_)), (a_q_52, .inl (g 0, 5, .inl q7_59))] ++ (offS ad_92 tp_q_ hd_q_ tf_q_ cf_q_ g o_93)) H_91 := hP
                have hD : va_D A ([(a_d_, .inl (g 0, n_d_, .inl d_)), (a_q_52, .inl (g 0, 5, .inl q7_59))] ++ (offS ad_92 tp_q_ hd_q_ tf_q_ cf_q_ g o_93)) := hD
                refine W.widen (k := 114) (n := 683) (by omega) (by omega) ?_
                refine lv_iadd hx hb dL_does_179 ?_
                refine lv_topi (fun x_94 ex_94 => ?_)
                have hw := hw x_94 ex_94
                refine lv_istore_n (lv' := [(2, .int x_94), (0, .ref t_q_), (1, .ref a_d_), (3, .ref a_q_52)]) hx hb dL_does_180 rfl hl (by decide) rfl (fun ls hl => ?_)
                refine lv_iconst (v := 1) hx hb dL_does_181 (by decide) ?_
                refine W.widen (k := 114) (n := 683) (by omega) (by omega) ?_
                subst hQM
                obtain ⟨hP, hD⟩ := seg_sub (segs := [[(a_d_, .inl (g 0, n_d_, .inl d_))], [(a_q_52, .inl (g 0, 5, .inl q7_59))], offS ad_92 tp_q_ hd_q_ tf_q_ cf_q_ g o_93]) [[(a_d_, .inl (g 0, n_d_, .inl d_))], offS ad_92 tp_q_ hd_q_ tf_q_ cf_q_ g o_93] [[(a_q_52, .inl (g 0, 5, .inl q7_59))]] 3 [0, 2, 1] rfl rfl (by decide) hP hD
                exact W.zret (v := 1) hx hb hr rfl (fun t ht hW => ⟨⟨_, (ad_92, o_93, ()), rfl, ⟨true, rfl, ⟨hw, had_92⟩⟩, ⟨P_at ht hP, hD⟩⟩, hS.F ht⟩) hS.2.2 dL_does_182
              have JN131 : ∀  (H : Heap) (locs : List Loc), (wj_L_does_131 n_d_ d_ Q q7_59 o_70 sk0_72)  → va_P (dC, dI) vwCl ([(a_d_, .inl (g 0, n_d_, .inl d_)), (a_q_52, .inl (g 0, 5, .inl q7_59))] ++ (offS ad_69 tp_q_ hd_q_ tf_q_ cf_q_ g o_70)) H → va_D A ([(a_d_, .inl (g 0, n_d_, .inl d_)), (a_q_52, .inl (g 0, 5, .inl q7_59))] ++ (offS ad_69 tp_q_ hd_q_ tf_q_ cf_q_ g o_70)) → va_S A s.heap H locs → ∀ (ls : Array Slot), lv_has ls 5 [(0, .ref t_q_), (1, .ref a_d_), (3, .ref a_q_52)] → W p l e (headSpec wqL_does ({ frames := 9, cells := 114, slots := 683, locals := 167 })).room s m ([.ref t_q_, .ref a_d_] : List Value).toArray below meth c H locs 105 629 QM (F0 m 131 ls [.int sk0_72, .ref t_q_]) := by
                intro  H locs hw hP hD hS ls hl
                refine lv_aload_n hx hb dL_does_131 rfl (lv_at hl 2 rfl) ?_
                refine lv_iconst (v := 4) hx hb dL_does_132 (by decide) ?_
                refine va_iald hx hb hK hP 1 0 rfl rfl (by unfold vp_in; decide) dL_does_133 ?_
                refine lv_topi (fun x_95 ex_95 => ?_)
                have hw := hw x_95 ex_95
                refine lv_goto (tgt := 141) hx hb dL_does_134 (by decide) ?_
                refine W.widen (k := 105) (n := 629) (by omega) (by omega) ?_
                exact JN141 x_95 _ _ hw hP hD hS _ (lv_sub hl [0, 1, 2] rfl)
              refine lv_icmp_eq (tgt := 131) hx hb dL_does_120 (by decide) (fun c_96 => ?_) (fun c_96 => ?_)
              · have hw := hw.1 c_96
                refine W.widen (k := 105) (n := 629) (by omega) (by omega) ?_
                exact JN131  _ _ hw hP hD hS _ (lv_sub hl [0, 1, 2] rfl)
              · have hw := hw.2 c_96
                refine lv_aload_n hx hb dL_does_123 rfl (lv_at hl 1 rfl) ?_
                refine lv_bipush (v := 7) hx hb dL_does_124 (by decide) ?_
                refine va_iald hx hb hK hP 0 0 rfl rfl hw.1 dL_does_126 ?_
                have hw := hw.2
                refine lv_topi (fun x_97 ex_97 => ?_)
                have hw := hw x_97 ex_97
                refine lv_iconst (v := 1) hx hb dL_does_127 (by decide) ?_
                refine lv_icmp_ne (tgt := 137) hx hb dL_does_128 (by decide) (fun c_98 => ?_) (fun c_98 => ?_)
                · have hw := hw.2 c_98
                  refine lv_aload_n hx hb dL_does_137 rfl (lv_at hl 1 rfl) ?_
                  refine lv_bipush (v := 8) hx hb dL_does_138 (by decide) ?_
                  refine va_iald hx hb hK hP 0 0 rfl rfl hw.1 dL_does_140 ?_
                  have hw := hw.2
                  refine lv_topi (fun x_99 ex_99 => ?_)
                  have hw := hw x_99 ex_99
                  refine W.widen (k := 105) (n := 629) (by omega) (by omega) ?_
                  exact JN141 x_99 _ _ hw hP hD hS _ (lv_sub hl [0, 1, 2] rfl)
                · have hw := hw.1 c_98
                  refine W.widen (k := 105) (n := 629) (by omega) (by omega) ?_
                  exact JN131  _ _ hw hP hD hS _ (lv_sub hl [0, 1, 2] rfl)
            refine lv_icmp_ne (tgt := 111) hx hb dL_does_102 (by decide) (fun c_100 => ?_) (fun c_100 => ?_)
            · have hw := hw.2 c_100
              refine lv_aload_n hx hb dL_does_111 rfl (lv_at hl 2 rfl) ?_
              refine lv_bipush (v := 7) hx hb dL_does_112 (by decide) ?_
              refine va_iald hx hb hK hP 0 0 rfl rfl hw.1 dL_does_114 ?_
              have hw := hw.2
              refine lv_topi (fun x_101 ex_101 => ?_)
              have hw := hw x_101 ex_101
              refine W.widen (k := 105) (n := 629) (by omega) (by omega) ?_
              exact JN115 x_101 _ _ hw hP hD hS _ (lv_sub hl [1, 2, 3] rfl)
            · have hw := hw.1 c_100
              refine lv_aload_n hx hb dL_does_105 rfl (lv_at hl 3 rfl) ?_
              refine lv_iconst (v := 3) hx hb dL_does_106 (by decide) ?_
              refine va_iald hx hb hK hP 1 0 rfl rfl (by unfold vp_in; decide) dL_does_107 ?_
              refine lv_topi (fun x_102 ex_102 => ?_)
              have hw := hw x_102 ex_102
              refine lv_goto (tgt := 115) hx hb dL_does_108 (by decide) ?_
              refine W.widen (k := 105) (n := 629) (by omega) (by omega) ?_
              exact JN115 x_102 _ _ hw hP hD hS _ (lv_sub hl [1, 2, 3] rfl)
          have JN82 : ∀  (H : Heap) (locs : List Loc), (wj_L_does_82 n_d_ d_ Q q7_59 o_60 sk0_63 sk0_65)  → va_P (dC, dI) vwCl ([(a_d_, .inl (g 0, n_d_, .inl d_)), (a_q_52, .inl (g 0, 5, .inl q7_59))] ++ (offS ad_61 tp_q_ hd_q_ tf_q_ cf_q_ g o_60)) H → va_D A ([(a_d_, .inl (g 0, n_d_, .inl d_)), (a_q_52, .inl (g 0, 5, .inl q7_59))] ++ (offS ad_61 tp_q_ hd_q_ tf_q_ cf_q_ g o_60)) → va_S A s.heap H locs → ∀ (ls : Array Slot), lv_has ls 5 [(0, .ref t_q_), (1, .ref a_d_), (3, .ref a_q_52)] → W p l e (headSpec wqL_does ({ frames := 9, cells := 114, slots := 683, locals := 167 })).room s m ([.ref t_q_, .ref a_d_] : List Value).toArray below meth c H locs 102 611 QM (F0 m 82 ls [.int sk0_65, .int sk0_63, .ref t_q_]) := by
            intro  H locs hw hP hD hS ls hl
            refine lv_aload_n hx hb dL_does_82 rfl (lv_at hl 2 rfl) ?_
            refine lv_iconst (v := 2) hx hb dL_does_83 (by decide) ?_
            refine va_iald hx hb hK hP 1 0 rfl rfl (by unfold vp_in; decide) dL_does_84 ?_
            refine lv_topi (fun x_103 ex_103 => ?_)
            have hw := hw x_103 ex_103
            refine lv_goto (tgt := 92) hx hb dL_does_85 (by decide) ?_
            refine W.widen (k := 102) (n := 611) (by omega) (by omega) ?_
            exact JN92 x_103 _ _ hw hP hD hS _ (lv_sub hl [0, 1, 2] rfl)
          refine lv_icmp_eq (tgt := 82) hx hb dL_does_72 (by decide) (fun c_104 => ?_) (fun c_104 => ?_)
          · have hw := hw.1 c_104
            refine W.widen (k := 102) (n := 611) (by omega) (by omega) ?_
            exact JN82  _ _ hw hP hD hS _ (lv_sub hl [0, 1, 2] rfl)
          · have hw := hw.2 c_104
            refine lv_aload_n hx hb dL_does_75 rfl (lv_at hl 1 rfl) ?_
            refine lv_iconst (v := 5) hx hb dL_does_76 (by decide) ?_
            refine va_iald hx hb hK hP 0 0 rfl rfl hw.1 dL_does_77 ?_
            have hw := hw.2
            refine lv_topi (fun x_105 ex_105 => ?_)
            have hw := hw x_105 ex_105
            refine lv_iconst (v := 2) hx hb dL_does_78 (by decide) ?_
            refine lv_icmp_ne (tgt := 88) hx hb dL_does_79 (by decide) (fun c_106 => ?_) (fun c_106 => ?_)
            · have hw := hw.2 c_106
              refine lv_aload_n hx hb dL_does_88 rfl (lv_at hl 1 rfl) ?_
              refine lv_bipush (v := 6) hx hb dL_does_89 (by decide) ?_
              refine va_iald hx hb hK hP 0 0 rfl rfl hw.1 dL_does_91 ?_
              have hw := hw.2
              refine lv_topi (fun x_107 ex_107 => ?_)
              have hw := hw x_107 ex_107
              refine W.widen (k := 102) (n := 611) (by omega) (by omega) ?_
              exact JN92 x_107 _ _ hw hP hD hS _ (lv_sub hl [0, 1, 2] rfl)
            · have hw := hw.1 c_106
              refine W.widen (k := 102) (n := 611) (by omega) (by omega) ?_
              exact JN82  _ _ hw hP hD hS _ (lv_sub hl [0, 1, 2] rfl)
        refine lv_icmp_ne (tgt := 65) hx hb dL_does_56 (by decide) (fun c_108 => ?_) (fun c_108 => ?_)
        · have hw := hw.2 c_108
          refine lv_aload_n hx hb dL_does_65 rfl (lv_at hl 1 rfl) ?_
          refine lv_iconst (v := 5) hx hb dL_does_66 (by decide) ?_
          refine va_iald hx hb hK hP 0 0 rfl rfl hw.1 dL_does_67 ?_
          have hw := hw.2
          refine lv_topi (fun x_109 ex_109 => ?_)
          have hw := hw x_109 ex_109
          refine W.widen (k := 102) (n := 611) (by omega) (by omega) ?_
          exact JN68 x_109 _ _ hw hP hD hS _ (lv_sub hl [0, 1, 2] rfl)
        · have hw := hw.1 c_108
          refine lv_aload_n hx hb dL_does_59 rfl (lv_at hl 2 rfl) ?_
          refine lv_iconst (v := 1) hx hb dL_does_60 (by decide) ?_
          refine va_iald hx hb hK hP 1 0 rfl rfl (by unfold vp_in; decide) dL_does_61 ?_
          refine lv_topi (fun x_110 ex_110 => ?_)
          have hw := hw x_110 ex_110
          refine lv_goto (tgt := 68) hx hb dL_does_62 (by decide) ?_
          refine W.widen (k := 102) (n := 611) (by omega) (by omega) ?_
          exact JN68 x_110 _ _ hw hP hD hS _ (lv_sub hl [0, 1, 2] rfl)
      refine lv_icmp_ne (tgt := 49) hx hb dL_does_40 (by decide) (fun c_111 => ?_) (fun c_111 => ?_)
      · have hw := hw.2 c_111
        refine lv_aload_n hx hb dL_does_49 rfl (lv_at hl 1 rfl) ?_
        refine lv_iconst (v := 4) hx hb dL_does_50 (by decide) ?_
        refine va_iald hx hb hK hP 0 0 rfl rfl hw.1 dL_does_51 ?_
        have hw := hw.2
        refine lv_topi (fun x_112 ex_112 => ?_)
        have hw := hw x_112 ex_112
        refine W.widen (k := 102) (n := 611) (by omega) (by omega) ?_
        exact JN52 x_112 _ _ hw hP hD hS _ (lv_sub hl [0, 1, 2] rfl)
      · have hw := hw.1 c_111
        refine lv_aload_n hx hb dL_does_43 rfl (lv_at hl 2 rfl) ?_
        refine lv_iconst (v := 0) hx hb dL_does_44 (by decide) ?_
        refine va_iald hx hb hK hP 1 0 rfl rfl (by unfold vp_in; decide) dL_does_45 ?_
        refine lv_topi (fun x_113 ex_113 => ?_)
        have hw := hw x_113 ex_113
        refine lv_goto (tgt := 52) hx hb dL_does_46 (by decide) ?_
        refine W.widen (k := 102) (n := 611) (by omega) (by omega) ?_
        exact JN52 x_113 _ _ hw hP hD hS _ (lv_sub hl [0, 1, 2] rfl)
    have LOOP13 : ∀ (n13 : Nat), n13 ≤ 101 → ∀ (v4_55 : Int32) (q7_56 : Nat → Int32) (o_57 : OS) (ad_58 : Nat → Nat) (had_58 : ad_58 0 = t_q_) (H : Heap) (locs : List Loc), wl_L_does_13 (wx_L_does_13_35 n_d_ d_ Q) n13 v4_55 q7_56 o_57 → va_P (dC, dI) vwCl ([(a_d_, .inl (g 0, n_d_, .inl d_)), (a_q_52, .inl (g 0, 5, .inl q7_56))] ++ (offS ad_58 tp_q_ hd_q_ tf_q_ cf_q_ g o_57)) H → va_D A ([(a_d_, .inl (g 0, n_d_, .inl d_)), (a_q_52, .inl (g 0, 5, .inl q7_56))] ++ (offS ad_58 tp_q_ hd_q_ tf_q_ cf_q_ g o_57)) → va_S A s.heap H locs → ∀ (ls : Array Slot), lv_has ls 5 [(0, .ref t_q_), (1, .ref a_d_), (3, .ref a_q_52), (4, .int v4_55)] → W p l e (headSpec wqL_does ({ frames := 9, cells := 114, slots := 683, locals := 167 })).room s m ([.ref t_q_, .ref a_d_] : List Value).toArray below meth c H locs (102 - n13 * 1) (611 - n13 * 6) QM (F0 m 13 ls []) := by
      intro n13
      induction n13 with
      | zero =>
        intro hle_n13
        intro v4_55 q7_56 o_57 ad_58 had_58 H locs hw hP hD hS ls hl
        exact False.elim hw
      | succ n13 ih13 =>
        intro hle_n13
        have ih13 := ih13 (by omega)
        intro v4_55 q7_56 o_57 ad_58 had_58 H locs hw hP hD hS ls hl
        rw [wl_L_does_13_s] at hw
        obtain ⟨kb13, hkb13⟩ : ∃ x : Nat, x = 102 - (n13 + 1) * 1 := ⟨_, rfl⟩
        obtain ⟨nb13, hnb13⟩ : ∃ x : Nat, x = 611 - (n13 + 1) * 6 := ⟨_, rfl⟩
        refine W.widen (k := kb13) (n := nb13) (by omega) (by omega) ?_
        refine lv_iload hx hb dL_does_13 (lv_at hl 3 rfl) ?_
        refine lv_iconst (v := 5) hx hb dL_does_15 (by decide) ?_
        refine lv_icmp_ge (tgt := 35) hx hb dL_does_16 (by decide) (fun c_114 => ?_) (fun c_114 => ?_)
        · have hw := hw.1 c_114
          refine W.widen (k := 102) (n := 611) (by omega) (by omega) ?_
          exact EX13_35 q7_56 o_57 ad_58 had_58 _ _ hw hP hD hS _ (lv_sub hl [0, 1, 2] rfl)
        · have hw := hw.2 c_114
          refine lv_aload_n hx hb dL_does_19 rfl (lv_at hl 2 rfl) ?_
          refine lv_iload hx hb dL_does_20 (lv_at hl 3 rfl) ?_
          refine lv_aload_n hx hb dL_does_22 rfl (lv_at hl 0 rfl) ?_
          refine lv_iload hx hb dL_does_23 (lv_at hl 3 rfl) ?_
          obtain ⟨hPs, hDs⟩ := seg_call (segs := [[(a_d_, .inl (g 0, n_d_, .inl d_))], [(a_q_52, .inl (g 0, 5, .inl q7_56))], offS ad_58 tp_q_ hd_q_ tf_q_ cf_q_ g o_57]) [[(a_d_, .inl (g 0, n_d_, .inl d_))], [(a_q_52, .inl (g 0, 5, .inl q7_56))]] [offS ad_58 tp_q_ hd_q_ tf_q_ cf_q_ g o_57] 3 [0, 1, 2] rfl rfl (by decide) hP hD
          have hPc : va_P (dC, dI) vwCl (offS ad_58 tp_q_ hd_q_ tf_q_ cf_q_ g o_57) H := P_r hPs
          have hDc : va_D A (offS ad_58 tp_q_ hd_q_ tf_q_ cf_q_ g o_57) := D_r hDs
          have hFc : ∀ q, va_A (offS ad_58 tp_q_ hd_q_ tf_q_ cf_q_ g o_57) H.size q → A q := A_all hDc hA hS.1
          refine vx_calli (vx_runV (As := [.int v4_55]) (rest := [.int v4_55, .ref a_q_52]) ⟨hx, hb, hml, hown, hts⟩ (p_setting l hlf dC dI g tp_q_ hd_q_ tf_q_ cf_q_ htf_q_ hcf_q_ ad_58 t_q_ had_58 o_57 v4_55 (hw := hw) (sz := H.size)) (cwV 1 hts (gqV aw_6_71 aw_6_72 aw_6_73 aw_1_1 aw_6_74) rfl rfl rfl (by decide +kernel) ⟨Nat.le_of_ble_eq_true rfl, Nat.le_of_ble_eq_true rfl⟩) ⟨PG_blind, off_recv had_58 hK hPc, PG_call hK hG hS hPc hDc hFc⟩ rfl rfl hl.1 rfl (lv_room (Nat.le_of_ble_eq_true rfl)) dL_does_25 ⟨by rw [hrc]; omega, by rw [hrs]; omega⟩) hS (fun q _ h => hFc q h) hFc (fun q _ h => hFc q h) (fun E ce q9 ux t H1 locs1 ht hvm hp9 hB9 hz hk hS9 hce hcv hcl => ?_) (fun r_115 u_115 t_115 H_115 L_115 ht_115 hvm_115 hw_115 hB_115 hz_115 hk_115 hS => ?_)
          · exact (hB9.1.1).elim
          obtain ⟨ad_116, o_117⟩ := u_115
          obtain ⟨hw, had_116⟩ := hw_115
          rw [ht_115] at hB_115
          obtain ⟨hP1, hD1⟩ := hB_115
          obtain ⟨hP, hD⟩ := join_r hPs hDs hk_115 hFc hP1 hD1
          obtain ⟨hP, hD⟩ := seg_join [[(a_d_, .inl (g 0, n_d_, .inl d_))], [(a_q_52, .inl (g 0, 5, .inl q7_56))]] [offS ad_116 tp_q_ hd_q_ tf_q_ cf_q_ g o_117] [[(a_d_, .inl (g 0, n_d_, .inl d_))], [(a_q_52, .inl (g 0, 5, .inl q7_56))], offS ad_116 tp_q_ hd_q_ tf_q_ cf_q_ g o_117] 3 [0, 1, 2] rfl rfl (by decide) hP hD
          have hP : va_P (dC, dI) vwCl ([(a_d_, .inl (g 0, n_d_, .inl d_)), (a_q_52, .inl (g 0, 5, .inl q7_56))] ++ (offS ad_116 tp_q_ hd_q_ tf_q_ cf_q_ g o_117)) H_115 := hP
          have hD : va_D A ([(a_d_, .inl (g 0, n_d_, .inl d_)), (a_q_52, .inl (g 0, 5, .inl q7_56))] ++ (offS ad_116 tp_q_ hd_q_ tf_q_ cf_q_ g o_117)) := hD
          refine W.widen (k := (kb13 + 1)) (n := (nb13 + 6)) (by omega) (by omega) ?_
          refine va_iast hx hb hK hP hD hS 1 0 rfl rfl hw.1 dL_does_28 (fun H_118 L_119 hP hD hS => ?_)
          have hw := hw.2
          have hP : va_P (dC, dI) vwCl ([(a_d_, .inl (g 0, n_d_, .inl d_)), (a_q_52, .inl (g 0, 5, .inl (upd q7_56 v4_55.toNatClampNeg r_115)))] ++ (offS ad_116 tp_q_ hd_q_ tf_q_ cf_q_ g o_117)) H_118 := hP
          have hD : va_D A ([(a_d_, .inl (g 0, n_d_, .inl d_)), (a_q_52, .inl (g 0, 5, .inl (upd q7_56 v4_55.toNatClampNeg r_115)))] ++ (offS ad_116 tp_q_ hd_q_ tf_q_ cf_q_ g o_117)) := hD
          obtain ⟨x_120, ex_120⟩ : ∃ y : Int32, y = v4_55 + 1 := ⟨_, rfl⟩
          have hw := hw x_120 ex_120
          refine lv_iinc (v := x_120) (lv' := [(4, .int x_120), (0, .ref t_q_), (1, .ref a_d_), (3, .ref a_q_52)]) hx hb dL_does_29 hl (k := 3) rfl (by rw [ex_120]; rfl) (by decide) rfl (fun ls hl => ?_)
          refine lv_goto (tgt := 13) hx hb dL_does_32 (by decide) ?_
          refine W.widen (k := (102 - n13 * 1)) (n := (611 - n13 * 6)) (by omega) (by omega) ?_
          exact ih13 x_120 (upd q7_56 v4_55.toNatClampNeg r_115) o_117 ad_116 had_116 _ _ hw hP hD hS _ (lv_sub hl [1, 2, 3, 0] rfl)
    obtain ⟨n13, hle13, hw⟩ := hw
    refine W.widen (k := (102 - n13 * 1)) (n := (611 - n13 * 6)) (by omega) (by omega) ?_
    exact LOOP13 n13 hle13 0 (fun _ => 0) o_q_ a_q_ h_q_ _ _ hw hP hD hS _ (lv_sub hl [2, 3, 1, 0] rfl)
theorem dL_copies_0 : decode cL_copies 0 = .ok (.iconst 0, 1) := by decide +kernel
theorem dL_copies_1 : decode cL_copies 1 = .ok (.istore_n 3, 1) := by decide +kernel
theorem dL_copies_88 : decode cL_copies 88 = .ok (.return_, 1) := by decide +kernel
theorem dL_copies_2 : decode cL_copies 2 = .ok (.iload_n 3, 1) := by decide +kernel
theorem dL_copies_3 : decode cL_copies 3 = .ok (.bipush 7, 2) := by decide +kernel
theorem dL_copies_5 : decode cL_copies 5 = .ok (.if_icmp .ge 83, 3) := by decide +kernel
theorem dL_copies_8 : decode cL_copies 8 = .ok (.aload_n 2, 1) := by decide +kernel
theorem dL_copies_9 : decode cL_copies 9 = .ok (.invokestatic 13, 3) := by decide +kernel
theorem dL_copies_12 : decode cL_copies 12 = .ok (.iconst 1, 1) := by decide +kernel
theorem dL_copies_13 : decode cL_copies 13 = .ok (.iushr, 1) := by decide +kernel
theorem dL_copies_14 : decode cL_copies 14 = .ok (.istore 4, 2) := by decide +kernel
theorem dL_copies_16 : decode cL_copies 16 = .ok (.aload_n 2, 1) := by decide +kernel
theorem dL_copies_17 : decode cL_copies 17 = .ok (.bipush 14, 2) := by decide +kernel
theorem dL_copies_19 : decode cL_copies 19 = .ok (.invokestatic 103, 3) := by decide +kernel
theorem dL_copies_22 : decode cL_copies 22 = .ok (.istore 5, 2) := by decide +kernel
theorem dL_copies_24 : decode cL_copies 24 = .ok (.iconst 1, 1) := by decide +kernel
theorem dL_copies_25 : decode cL_copies 25 = .ok (.aload_n 2, 1) := by decide +kernel
theorem dL_copies_26 : decode cL_copies 26 = .ok (.bipush 40, 2) := by decide +kernel
theorem dL_copies_28 : decode cL_copies 28 = .ok (.invokestatic 103, 3) := by decide +kernel
theorem dL_copies_31 : decode cL_copies 31 = .ok (.iadd, 1) := by decide +kernel
theorem dL_copies_32 : decode cL_copies 32 = .ok (.istore 6, 2) := by decide +kernel
theorem dL_copies_34 : decode cL_copies 34 = .ok (.aload_n 0, 1) := by decide +kernel
theorem dL_copies_35 : decode cL_copies 35 = .ok (.iload_n 3, 1) := by decide +kernel
theorem dL_copies_36 : decode cL_copies 36 = .ok (.iload 5, 2) := by decide +kernel
theorem dL_copies_38 : decode cL_copies 38 = .ok (.iload 6, 2) := by decide +kernel
theorem dL_copies_40 : decode cL_copies 40 = .ok (.iload 4, 2) := by decide +kernel
theorem dL_copies_42 : decode cL_copies 42 = .ok (.invokevirtual 27, 3) := by decide +kernel
theorem dL_copies_45 : decode cL_copies 45 = .ok (.aload_n 1, 1) := by decide +kernel
theorem dL_copies_46 : decode cL_copies 46 = .ok (.iload_n 3, 1) := by decide +kernel
theorem dL_copies_47 : decode cL_copies 47 = .ok (.iload 5, 2) := by decide +kernel
theorem dL_copies_49 : decode cL_copies 49 = .ok (.iload 6, 2) := by decide +kernel
theorem dL_copies_51 : decode cL_copies 51 = .ok (.iload 4, 2) := by decide +kernel
theorem dL_copies_53 : decode cL_copies 53 = .ok (.invokevirtual 27, 3) := by decide +kernel
theorem dL_copies_56 : decode cL_copies 56 = .ok (.iadd, 1) := by decide +kernel
theorem dL_copies_57 : decode cL_copies 57 = .ok (.istore 7, 2) := by decide +kernel
theorem dL_copies_59 : decode cL_copies 59 = .ok (.aload_n 2, 1) := by decide +kernel
theorem dL_copies_60 : decode cL_copies 60 = .ok (.iconst 2, 1) := by decide +kernel
theorem dL_copies_61 : decode cL_copies 61 = .ok (.invokestatic 103, 3) := by decide +kernel
theorem dL_copies_64 : decode cL_copies 64 = .ok (.ifCond .ne 18, 3) := by decide +kernel
theorem dL_copies_82 : decode cL_copies 82 = .ok (.iinc 3 1, 3) := by decide +kernel
theorem dL_copies_85 : decode cL_copies 85 = .ok (.goto (-83), 3) := by decide +kernel
theorem dL_copies_67 : decode cL_copies 67 = .ok (.aload_n 0, 1) := by decide +kernel
theorem dL_copies_68 : decode cL_copies 68 = .ok (.iload_n 3, 1) := by decide +kernel
theorem dL_copies_69 : decode cL_copies 69 = .ok (.iload_n 3, 1) := by decide +kernel
theorem dL_copies_70 : decode cL_copies 70 = .ok (.invokevirtual 171, 3) := by decide +kernel
theorem dL_copies_73 : decode cL_copies 73 = .ok (.aload_n 1, 1) := by decide +kernel
theorem dL_copies_74 : decode cL_copies 74 = .ok (.iload_n 3, 1) := by decide +kernel
theorem dL_copies_75 : decode cL_copies 75 = .ok (.iload_n 3, 1) := by decide +kernel
theorem dL_copies_76 : decode cL_copies 76 = .ok (.invokevirtual 171, 3) := by decide +kernel
theorem dL_copies_79 : decode cL_copies 79 = .ok (.iadd, 1) := by decide +kernel
theorem dL_copies_80 : decode cL_copies 80 = .ok (.istore 7, 2) := by decide +kernel

set_option maxHeartbeats 8000000 in
set_option maxRecDepth 100000 in
theorem c_L_copies (l : Launch) (hlf : l.stackTraces = false) (dC : Nat → ClassId) (dI : Nat → Nat → Nat) (g : Nat → ClassId) (tp_p_ hd_p_ : Nat → Nat) (tf_p_ cf_p_ : Nat → Option Nat) (htf_p_ : ∀ j, j < 8 → tf_p_ j = some (tp_p_ j)) (hcf_p_ : ∀ j, j < 8 → cf_p_ j = some (tp_p_ (8 + j))) (a_p_ : Nat → Nat) (t_p_ : Nat) (h_p_ : a_p_ 0 = t_p_) (o_p_ : OS) (tp_q_ hd_q_ : Nat → Nat) (tf_q_ cf_q_ : Nat → Option Nat) (htf_q_ : ∀ j, j < 8 → tf_q_ j = some (tp_q_ j)) (hcf_q_ : ∀ j, j < 8 → cf_q_ j = some (tp_q_ (8 + j))) (a_q_ : Nat → Nat) (t_q_ : Nat) (h_q_ : a_q_ 0 = t_q_) (o_q_ : OS) (a_r_ n_r_ : Nat) (r_ : Nat → Int32) (Q : (Nat → Int32) → OS → OS → Prop) (hw : wp_L_copies o_p_ o_q_ n_r_ r_ Q) (sz : Nat) : Met l yL_copies wqL_copies ({ frames := 8, cells := 96, slots := 576, locals := 155 }) (va_Pc [.ref t_p_, .ref t_q_, .ref a_r_] (PG (dC, dI) g ([(a_r_, .inl (g 0, n_r_, .inl r_))] ++ (offS a_p_ tp_p_ hd_p_ tf_p_ cf_p_ g o_p_ ++ (offS a_q_ tp_q_ hd_q_ tf_q_ cf_q_ g o_q_))) sz)) (va_Qv (fun (u : (Nat → Int32) × (Nat → Nat) × OS × (Nat → Nat) × OS × Unit) => Q u.1 u.2.2.1 u.2.2.2.2.1 ∧ u.2.1 0 = t_p_ ∧ u.2.2.2.1 0 = t_q_) (fun (u : (Nat → Int32) × (Nat → Nat) × OS × (Nat → Nat) × OS × Unit) t9 => va_P (dC, dI) vwCl ([(a_r_, .inl (g 0, n_r_, .inl u.1))] ++ (offS u.2.1 tp_p_ hd_p_ tf_p_ cf_p_ g u.2.2.1 ++ (offS u.2.2.2.1 tp_q_ hd_q_ tf_q_ cf_q_ g u.2.2.2.2.1))) t9.heap ∧ va_D (va_A ([(a_r_, .inl (g 0, n_r_, .inl r_))] ++ (offS a_p_ tp_p_ hd_p_ tf_p_ cf_p_ g o_p_ ++ (offS a_q_ tp_q_ hd_q_ tf_q_ cf_q_ g o_q_))) sz) ([(a_r_, .inl (g 0, n_r_, .inl u.1))] ++ (offS u.2.1 tp_p_ hd_p_ tf_p_ cf_p_ g u.2.2.1 ++ (offS u.2.2.2.1 tp_q_ hd_q_ tf_q_ cf_q_ g u.2.2.2.2.1)))) (va_A ([(a_r_, .inl (g 0, n_r_, .inl r_))] ++ (offS a_p_ tp_p_ hd_p_ tf_p_ cf_p_ g o_p_ ++ (offS a_q_ tp_q_ hd_q_ tf_q_ cf_q_ g o_q_))) sz)) 96 576 (va_A ([(a_r_, .inl (g 0, n_r_, .inl r_))] ++ (offS a_p_ tp_p_ hd_p_ tf_p_ cf_p_ g o_p_ ++ (offS a_q_ tp_q_ hd_q_ tf_q_ cf_q_ g o_q_))) sz) := by
  refine Met.ofW (cc := cL_copies) (maxL := 8) (ret := none) (by decide) rfl ?_
  intro p e s m args below meth c s₁ B hml hv
  obtain ⟨rfl, hsz, hP, hK, hD0, hG⟩ := hv
  have hx := B.exec
  have hb := B.bytes
  have hr := B.returns
  have hts := atoms_spec (ws := wqL_copies) B.pre
  have hown : s.vm.findClass RL = some m.cls := findClass_of_methodNamed B.named
  have hlocks := B.notSynchronized
  subst hsz
  have hD := hD0.self (sz := s.heap.size)
  generalize hAe : va_A ([(a_r_, .inl (g 0, n_r_, .inl r_))] ++ (offS a_p_ tp_p_ hd_p_ tf_p_ cf_p_ g o_p_ ++ (offS a_q_ tp_q_ hd_q_ tf_q_ cf_q_ g o_q_))) s.heap.size = A at hD hG ⊢
  have hA : ∀ q : Nat, s.heap.size ≤ q → A q := fun q h => by rw [← hAe]; exact Or.inr h
  have hS : va_S A s.heap s.heap [] := va_S.rf
  have hrc : (headSpec wqL_copies ({ frames := 8, cells := 96, slots := 576, locals := 155 })).room.cells = 96 := rfl
  have hrs : (headSpec wqL_copies ({ frames := 8, cells := 96, slots := 576, locals := 155 })).room.slots = 576 := rfl
  have hl := lv_entry ([.ref t_p_, .ref t_q_, .ref a_r_]) (n := 8) (Nat.le_of_ble_eq_true rfl)
  rw [lg_entry_eq]
  generalize (lg_sl ([.ref t_p_, .ref t_q_, .ref a_r_]) ++ List.replicate (8 - (lg_sl ([.ref t_p_, .ref t_q_, .ref a_r_])).length) Slot.unset).toArray = ls at hl ⊢
  have hl : lv_has ls 8 [(0, .ref t_p_), (1, .ref t_q_), (2, .ref a_r_)] := hl
  unfold wp_L_copies at hw
  refine lv_iconst (v := 0) hx hb dL_copies_0 (by decide) ?_
  refine lv_istore_n (lv' := [(3, .int 0), (0, .ref t_p_), (1, .ref t_q_), (2, .ref a_r_)]) hx hb dL_copies_1 rfl hl (by decide) rfl (fun ls hl => ?_)
  refine W_abs (fun QM hQM => ?_)
  have EX2_88 : ∀ (r__7 : Nat → Int32) (o_8 : OS) (o_9 : OS) (ad_10 : Nat → Nat) (ad_11 : Nat → Nat) (had_10 : ad_10 0 = t_p_) (had_11 : ad_11 0 = t_q_) (H : Heap) (locs : List Loc), (wx_L_copies_2_88 Q) r__7 o_8 o_9 → va_P (dC, dI) vwCl ([(a_r_, .inl (g 0, n_r_, .inl r__7))] ++ (offS ad_10 tp_p_ hd_p_ tf_p_ cf_p_ g o_8 ++ (offS ad_11 tp_q_ hd_q_ tf_q_ cf_q_ g o_9))) H → va_D A ([(a_r_, .inl (g 0, n_r_, .inl r__7))] ++ (offS ad_10 tp_p_ hd_p_ tf_p_ cf_p_ g o_8 ++ (offS ad_11 tp_q_ hd_q_ tf_q_ cf_q_ g o_9))) → va_S A s.heap H locs → ∀ (ls : Array Slot), lv_has ls 8 [] → W p l e (headSpec wqL_copies ({ frames := 8, cells := 96, slots := 576, locals := 155 })).room s m ([.ref t_p_, .ref t_q_, .ref a_r_] : List Value).toArray below meth c H locs 96 576 QM (F0 m 88 ls []) := by
    intro r__7 o_8 o_9 ad_10 ad_11 had_10 had_11 H locs hw hP hD hS ls hl
    refine W.widen (k := 96) (n := 576) (by omega) (by omega) ?_
    subst hQM
    exact W.vret hx hb hr (fun t ht hW => ⟨⟨(r__7, ad_10, o_8, ad_11, o_9, ()), rfl, ⟨hw, had_10, had_11⟩, ⟨P_at ht hP, hD⟩⟩, hS.F ht⟩) hS.2.2 dL_copies_88
  have LOOP2 : ∀ (n2 : Nat), n2 ≤ 8 → ∀ (v3_1 : Int32) (r__2 : Nat → Int32) (o_3 : OS) (o_4 : OS) (ad_5 : Nat → Nat) (ad_6 : Nat → Nat) (had_5 : ad_5 0 = t_p_) (had_6 : ad_6 0 = t_q_) (H : Heap) (locs : List Loc), wl_L_copies_2 n_r_ (wx_L_copies_2_88 Q) n2 v3_1 r__2 o_3 o_4 → va_P (dC, dI) vwCl ([(a_r_, .inl (g 0, n_r_, .inl r__2))] ++ (offS ad_5 tp_p_ hd_p_ tf_p_ cf_p_ g o_3 ++ (offS ad_6 tp_q_ hd_q_ tf_q_ cf_q_ g o_4))) H → va_D A ([(a_r_, .inl (g 0, n_r_, .inl r__2))] ++ (offS ad_5 tp_p_ hd_p_ tf_p_ cf_p_ g o_3 ++ (offS ad_6 tp_q_ hd_q_ tf_q_ cf_q_ g o_4))) → va_S A s.heap H locs → ∀ (ls : Array Slot), lv_has ls 8 [(0, .ref t_p_), (1, .ref t_q_), (2, .ref a_r_), (3, .int v3_1)] → W p l e (headSpec wqL_copies ({ frames := 8, cells := 96, slots := 576, locals := 155 })).room s m ([.ref t_p_, .ref t_q_, .ref a_r_] : List Value).toArray below meth c H locs (96 - n2 * 12) (576 - n2 * 72) QM (F0 m 2 ls []) := by
    intro n2
    induction n2 with
    | zero =>
      intro hle_n2
      intro v3_1 r__2 o_3 o_4 ad_5 ad_6 had_5 had_6 H locs hw hP hD hS ls hl
      exact False.elim hw
    | succ n2 ih2 =>
      intro hle_n2
      have ih2 := ih2 (by omega)
      intro v3_1 r__2 o_3 o_4 ad_5 ad_6 had_5 had_6 H locs hw hP hD hS ls hl
      rw [wl_L_copies_2_s] at hw
      obtain ⟨kb2, hkb2⟩ : ∃ x : Nat, x = 96 - (n2 + 1) * 12 := ⟨_, rfl⟩
      obtain ⟨nb2, hnb2⟩ : ∃ x : Nat, x = 576 - (n2 + 1) * 72 := ⟨_, rfl⟩
      refine W.widen (k := kb2) (n := nb2) (by omega) (by omega) ?_
      refine lv_iload_n hx hb dL_copies_2 rfl (lv_at hl 3 rfl) ?_
      refine lv_bipush (v := 7) hx hb dL_copies_3 (by decide) ?_
      refine lv_icmp_ge (tgt := 88) hx hb dL_copies_5 (by decide) (fun c_12 => ?_) (fun c_12 => ?_)
      · have hw := hw.1 c_12
        refine W.widen (k := 96) (n := 576) (by omega) (by omega) ?_
        exact EX2_88 r__2 o_3 o_4 ad_5 ad_6 had_5 had_6 _ _ hw hP hD hS _ (lv_sub hl [] rfl)
      · have hw := hw.2 c_12
        refine lv_aload_n hx hb dL_copies_8 rfl (lv_at hl 2 rfl) ?_
        obtain ⟨hPs, hDs⟩ := seg_call (segs := [[(a_r_, .inl (g 0, n_r_, .inl r__2))], offS ad_5 tp_p_ hd_p_ tf_p_ cf_p_ g o_3, offS ad_6 tp_q_ hd_q_ tf_q_ cf_q_ g o_4]) [offS ad_5 tp_p_ hd_p_ tf_p_ cf_p_ g o_3, offS ad_6 tp_q_ hd_q_ tf_q_ cf_q_ g o_4] [[(a_r_, .inl (g 0, n_r_, .inl r__2))]] 3 [1, 2, 0] rfl rfl (by decide) hP hD
        have hPc : va_P (dC, dI) vwCl [(a_r_, .inl (g 0, n_r_, .inl r__2))] H := P_r hPs
        have hDc : va_D A [(a_r_, .inl (g 0, n_r_, .inl r__2))] := D_r hDs
        have hFc : ∀ q, va_A [(a_r_, .inl (g 0, n_r_, .inl r__2))] H.size q → A q := A_all hDc hA hS.1
        refine va_calli (va_runS (As := [.ref a_r_]) (rest := []) ⟨hx, hb, hml, hown, hts⟩ (c_L_next l hlf dC dI g (a_r_ := a_r_) (n_r_ := n_r_) (r_ := r__2) (hw := hw) (sz := H.size)) (va_cwS 1 hts (gqS aw_2_218 aw_2_219 aw_1_0 aw_2_220) rfl rfl rfl (by decide +kernel) ⟨Nat.le_of_ble_eq_true rfl, Nat.le_of_ble_eq_true rfl⟩) ⟨PG_blind, PG_call hK hG hS hPc hDc hFc⟩ rfl rfl hl.1 rfl (lv_room (Nat.le_of_ble_eq_true rfl)) dL_copies_9 ⟨by rw [hrc]; omega, by rw [hrs]; omega⟩) hS (fun q _ h => hFc q h) hFc (fun r_13 u_13 t_13 H_13 L_13 ht_13 hvm_13 hw_13 hB_13 hz_13 hk_13 hS => ?_)
        obtain ⟨r__14, u_13⟩ := u_13
        have hw := hw_13
        rw [ht_13] at hB_13
        obtain ⟨hP1, hD1⟩ := hB_13
        obtain ⟨hP, hD⟩ := join_r hPs hDs hk_13 hFc hP1 hD1
        obtain ⟨hP, hD⟩ := seg_join [offS ad_5 tp_p_ hd_p_ tf_p_ cf_p_ g o_3, offS ad_6 tp_q_ hd_q_ tf_q_ cf_q_ g o_4] [[(a_r_, .inl (g 0, n_r_, .inl r__14))]] [[(a_r_, .inl (g 0, n_r_, .inl r__14))], offS ad_5 tp_p_ hd_p_ tf_p_ cf_p_ g o_3, offS ad_6 tp_q_ hd_q_ tf_q_ cf_q_ g o_4] 3 [2, 0, 1] rfl rfl (by decide) hP hD
        have hP : va_P (dC, dI) vwCl ([(a_r_, .inl (g 0, n_r_, .inl r__14))] ++ (offS ad_5 tp_p_ hd_p_ tf_p_ cf_p_ g o_3 ++ (offS ad_6 tp_q_ hd_q_ tf_q_ cf_q_ g o_4))) H_13 := hP
        have hD : va_D A ([(a_r_, .inl (g 0, n_r_, .inl r__14))] ++ (offS ad_5 tp_p_ hd_p_ tf_p_ cf_p_ g o_3 ++ (offS ad_6 tp_q_ hd_q_ tf_q_ cf_q_ g o_4))) := hD
        refine W.widen (k := (kb2 + 0)) (n := (nb2 + 0)) (by omega) (by omega) ?_
        refine lv_iconst (v := 1) hx hb dL_copies_12 (by decide) ?_
        refine lv_iushr hx hb dL_copies_13 rfl ?_
        refine lv_topi (fun x_15 ex_15 => ?_)
        have hw := hw x_15 ex_15
        refine lv_istore (lv' := [(4, .int x_15), (0, .ref t_p_), (1, .ref t_q_), (2, .ref a_r_), (3, .int v3_1)]) hx hb dL_copies_14 hl (by decide) rfl (fun ls hl => ?_)
        refine lv_aload_n hx hb dL_copies_16 rfl (lv_at hl 3 rfl) ?_
        refine lv_bipush (v := 14) hx hb dL_copies_17 (by decide) ?_
        obtain ⟨hPs, hDs⟩ := seg_call (segs := [[(a_r_, .inl (g 0, n_r_, .inl r__14))], offS ad_5 tp_p_ hd_p_ tf_p_ cf_p_ g o_3, offS ad_6 tp_q_ hd_q_ tf_q_ cf_q_ g o_4]) [offS ad_5 tp_p_ hd_p_ tf_p_ cf_p_ g o_3, offS ad_6 tp_q_ hd_q_ tf_q_ cf_q_ g o_4] [[(a_r_, .inl (g 0, n_r_, .inl r__14))]] 3 [1, 2, 0] rfl rfl (by decide) hP hD
        have hPc : va_P (dC, dI) vwCl [(a_r_, .inl (g 0, n_r_, .inl r__14))] H_13 := P_r hPs
        have hDc : va_D A [(a_r_, .inl (g 0, n_r_, .inl r__14))] := D_r hDs
        have hFc : ∀ q, va_A [(a_r_, .inl (g 0, n_r_, .inl r__14))] H_13.size q → A q := A_all hDc hA hS.1
        refine va_calli (va_runS (As := [.ref a_r_, .int 14]) (rest := []) ⟨hx, hb, hml, hown, hts⟩ (c_L_draw l hlf dC dI g (a_r_ := a_r_) (n_r_ := n_r_) (r_ := r__14) (many := 14) (hw := hw) (sz := H_13.size)) (va_cwS 2 hts (gqS aw_2_215 aw_2_216 aw_1_0 aw_2_217) rfl rfl rfl (by decide +kernel) ⟨Nat.le_of_ble_eq_true rfl, Nat.le_of_ble_eq_true rfl⟩) ⟨PG_blind, PG_call hK hG hS hPc hDc hFc⟩ rfl rfl hl.1 rfl (lv_room (Nat.le_of_ble_eq_true rfl)) dL_copies_19 ⟨by rw [hrc]; omega, by rw [hrs]; omega⟩) hS (fun q _ h => hFc q h) hFc (fun r_16 u_16 t_16 H_16 L_16 ht_16 hvm_16 hw_16 hB_16 hz_16 hk_16 hS => ?_)
        obtain ⟨r__17, u_16⟩ := u_16
        have hw := hw_16
        rw [ht_16] at hB_16
        obtain ⟨hP1, hD1⟩ := hB_16
        obtain ⟨hP, hD⟩ := join_r hPs hDs hk_16 hFc hP1 hD1
        obtain ⟨hP, hD⟩ := seg_join [offS ad_5 tp_p_ hd_p_ tf_p_ cf_p_ g o_3, offS ad_6 tp_q_ hd_q_ tf_q_ cf_q_ g o_4] [[(a_r_, .inl (g 0, n_r_, .inl r__17))]] [[(a_r_, .inl (g 0, n_r_, .inl r__17))], offS ad_5 tp_p_ hd_p_ tf_p_ cf_p_ g o_3, offS ad_6 tp_q_ hd_q_ tf_q_ cf_q_ g o_4] 3 [2, 0, 1] rfl rfl (by decide) hP hD
        have hP : va_P (dC, dI) vwCl ([(a_r_, .inl (g 0, n_r_, .inl r__17))] ++ (offS ad_5 tp_p_ hd_p_ tf_p_ cf_p_ g o_3 ++ (offS ad_6 tp_q_ hd_q_ tf_q_ cf_q_ g o_4))) H_16 := hP
        have hD : va_D A ([(a_r_, .inl (g 0, n_r_, .inl r__17))] ++ (offS ad_5 tp_p_ hd_p_ tf_p_ cf_p_ g o_3 ++ (offS ad_6 tp_q_ hd_q_ tf_q_ cf_q_ g o_4))) := hD
        refine W.widen (k := (kb2 + 0)) (n := (nb2 + 0)) (by omega) (by omega) ?_
        refine lv_istore (lv' := [(5, .int r_16), (4, .int x_15), (0, .ref t_p_), (1, .ref t_q_), (2, .ref a_r_), (3, .int v3_1)]) hx hb dL_copies_22 hl (by decide) rfl (fun ls hl => ?_)
        refine lv_iconst (v := 1) hx hb dL_copies_24 (by decide) ?_
        refine lv_aload_n hx hb dL_copies_25 rfl (lv_at hl 4 rfl) ?_
        refine lv_bipush (v := 40) hx hb dL_copies_26 (by decide) ?_
        obtain ⟨hPs, hDs⟩ := seg_call (segs := [[(a_r_, .inl (g 0, n_r_, .inl r__17))], offS ad_5 tp_p_ hd_p_ tf_p_ cf_p_ g o_3, offS ad_6 tp_q_ hd_q_ tf_q_ cf_q_ g o_4]) [offS ad_5 tp_p_ hd_p_ tf_p_ cf_p_ g o_3, offS ad_6 tp_q_ hd_q_ tf_q_ cf_q_ g o_4] [[(a_r_, .inl (g 0, n_r_, .inl r__17))]] 3 [1, 2, 0] rfl rfl (by decide) hP hD
        have hPc : va_P (dC, dI) vwCl [(a_r_, .inl (g 0, n_r_, .inl r__17))] H_16 := P_r hPs
        have hDc : va_D A [(a_r_, .inl (g 0, n_r_, .inl r__17))] := D_r hDs
        have hFc : ∀ q, va_A [(a_r_, .inl (g 0, n_r_, .inl r__17))] H_16.size q → A q := A_all hDc hA hS.1
        refine va_calli (va_runS (As := [.ref a_r_, .int 40]) (rest := [.int 1]) ⟨hx, hb, hml, hown, hts⟩ (c_L_draw l hlf dC dI g (a_r_ := a_r_) (n_r_ := n_r_) (r_ := r__17) (many := 40) (hw := hw) (sz := H_16.size)) (va_cwS 2 hts (gqS aw_2_215 aw_2_216 aw_1_0 aw_2_217) rfl rfl rfl (by decide +kernel) ⟨Nat.le_of_ble_eq_true rfl, Nat.le_of_ble_eq_true rfl⟩) ⟨PG_blind, PG_call hK hG hS hPc hDc hFc⟩ rfl rfl hl.1 rfl (lv_room (Nat.le_of_ble_eq_true rfl)) dL_copies_28 ⟨by rw [hrc]; omega, by rw [hrs]; omega⟩) hS (fun q _ h => hFc q h) hFc (fun r_18 u_18 t_18 H_18 L_18 ht_18 hvm_18 hw_18 hB_18 hz_18 hk_18 hS => ?_)
        obtain ⟨r__19, u_18⟩ := u_18
        have hw := hw_18
        rw [ht_18] at hB_18
        obtain ⟨hP1, hD1⟩ := hB_18
        obtain ⟨hP, hD⟩ := join_r hPs hDs hk_18 hFc hP1 hD1
        obtain ⟨hP, hD⟩ := seg_join [offS ad_5 tp_p_ hd_p_ tf_p_ cf_p_ g o_3, offS ad_6 tp_q_ hd_q_ tf_q_ cf_q_ g o_4] [[(a_r_, .inl (g 0, n_r_, .inl r__19))]] [[(a_r_, .inl (g 0, n_r_, .inl r__19))], offS ad_5 tp_p_ hd_p_ tf_p_ cf_p_ g o_3, offS ad_6 tp_q_ hd_q_ tf_q_ cf_q_ g o_4] 3 [2, 0, 1] rfl rfl (by decide) hP hD
        have hP : va_P (dC, dI) vwCl ([(a_r_, .inl (g 0, n_r_, .inl r__19))] ++ (offS ad_5 tp_p_ hd_p_ tf_p_ cf_p_ g o_3 ++ (offS ad_6 tp_q_ hd_q_ tf_q_ cf_q_ g o_4))) H_18 := hP
        have hD : va_D A ([(a_r_, .inl (g 0, n_r_, .inl r__19))] ++ (offS ad_5 tp_p_ hd_p_ tf_p_ cf_p_ g o_3 ++ (offS ad_6 tp_q_ hd_q_ tf_q_ cf_q_ g o_4))) := hD
        refine W.widen (k := (kb2 + 0)) (n := (nb2 + 0)) (by omega) (by omega) ?_
        refine lv_iadd hx hb dL_copies_31 ?_
        refine lv_topi (fun x_20 ex_20 => ?_)
        have hw := hw x_20 ex_20
        refine lv_istore (lv' := [(6, .int x_20), (5, .int r_16), (4, .int x_15), (0, .ref t_p_), (1, .ref t_q_), (2, .ref a_r_), (3, .int v3_1)]) hx hb dL_copies_32 hl (by decide) rfl (fun ls hl => ?_)
        refine lv_aload_n hx hb dL_copies_34 rfl (lv_at hl 3 rfl) ?_
        refine lv_iload_n hx hb dL_copies_35 rfl (lv_at hl 6 rfl) ?_
        refine lv_iload hx hb dL_copies_36 (lv_at hl 1 rfl) ?_
        refine lv_iload hx hb dL_copies_38 (lv_at hl 0 rfl) ?_
        refine lv_iload hx hb dL_copies_40 (lv_at hl 2 rfl) ?_
        obtain ⟨hPs, hDs⟩ := seg_call (segs := [[(a_r_, .inl (g 0, n_r_, .inl r__19))], offS ad_5 tp_p_ hd_p_ tf_p_ cf_p_ g o_3, offS ad_6 tp_q_ hd_q_ tf_q_ cf_q_ g o_4]) [[(a_r_, .inl (g 0, n_r_, .inl r__19))], offS ad_6 tp_q_ hd_q_ tf_q_ cf_q_ g o_4] [offS ad_5 tp_p_ hd_p_ tf_p_ cf_p_ g o_3] 3 [0, 2, 1] rfl rfl (by decide) hP hD
        have hPc : va_P (dC, dI) vwCl (offS ad_5 tp_p_ hd_p_ tf_p_ cf_p_ g o_3) H_18 := P_r hPs
        have hDc : va_D A (offS ad_5 tp_p_ hd_p_ tf_p_ cf_p_ g o_3) := D_r hDs
        have hFc : ∀ q, va_A (offS ad_5 tp_p_ hd_p_ tf_p_ cf_p_ g o_3) H_18.size q → A q := A_all hDc hA hS.1
        refine vx_calli (vx_runV (As := [.int v3_1, .int r_16, .int x_20, .int x_15]) (rest := []) ⟨hx, hb, hml, hown, hts⟩ (p_scatter l hlf dC dI g tp_p_ hd_p_ tf_p_ cf_p_ htf_p_ hcf_p_ ad_5 t_p_ had_5 o_3 v3_1 r_16 x_20 x_15 (hw := hw) (sz := H_18.size)) (cwV 4 hts (gqV aw_3_119 aw_3_120 aw_3_121 aw_1_1 aw_3_122) rfl rfl rfl (by decide +kernel) ⟨Nat.le_of_ble_eq_true rfl, Nat.le_of_ble_eq_true rfl⟩) ⟨PG_blind, off_recv had_5 hK hPc, PG_call hK hG hS hPc hDc hFc⟩ rfl rfl hl.1 rfl (lv_room (Nat.le_of_ble_eq_true rfl)) dL_copies_42 ⟨by rw [hrc]; omega, by rw [hrs]; omega⟩) hS (fun q _ h => hFc q h) hFc (fun q _ h => hFc q h) (fun E ce q9 ux t H1 locs1 ht hvm hp9 hB9 hz hk hS9 hce hcv hcl => ?_) (fun r_21 u_21 t_21 H_21 L_21 ht_21 hvm_21 hw_21 hB_21 hz_21 hk_21 hS => ?_)
        · exact (hB9.1.1).elim
        obtain ⟨ad_22, o_23⟩ := u_21
        obtain ⟨hw, had_22⟩ := hw_21
        rw [ht_21] at hB_21
        obtain ⟨hP1, hD1⟩ := hB_21
        obtain ⟨hP, hD⟩ := join_r hPs hDs hk_21 hFc hP1 hD1
        obtain ⟨hP, hD⟩ := seg_join [[(a_r_, .inl (g 0, n_r_, .inl r__19))], offS ad_6 tp_q_ hd_q_ tf_q_ cf_q_ g o_4] [offS ad_22 tp_p_ hd_p_ tf_p_ cf_p_ g o_23] [[(a_r_, .inl (g 0, n_r_, .inl r__19))], offS ad_22 tp_p_ hd_p_ tf_p_ cf_p_ g o_23, offS ad_6 tp_q_ hd_q_ tf_q_ cf_q_ g o_4] 3 [0, 2, 1] rfl rfl (by decide) hP hD
        have hP : va_P (dC, dI) vwCl ([(a_r_, .inl (g 0, n_r_, .inl r__19))] ++ (offS ad_22 tp_p_ hd_p_ tf_p_ cf_p_ g o_23 ++ (offS ad_6 tp_q_ hd_q_ tf_q_ cf_q_ g o_4))) H_21 := hP
        have hD : va_D A ([(a_r_, .inl (g 0, n_r_, .inl r__19))] ++ (offS ad_22 tp_p_ hd_p_ tf_p_ cf_p_ g o_23 ++ (offS ad_6 tp_q_ hd_q_ tf_q_ cf_q_ g o_4))) := hD
        refine W.widen (k := (kb2 + 4)) (n := (nb2 + 24)) (by omega) (by omega) ?_
        refine lv_aload_n hx hb dL_copies_45 rfl (lv_at hl 4 rfl) ?_
        refine lv_iload_n hx hb dL_copies_46 rfl (lv_at hl 6 rfl) ?_
        refine lv_iload hx hb dL_copies_47 (lv_at hl 1 rfl) ?_
        refine lv_iload hx hb dL_copies_49 (lv_at hl 0 rfl) ?_
        refine lv_iload hx hb dL_copies_51 (lv_at hl 2 rfl) ?_
        obtain ⟨hPs, hDs⟩ := seg_call (segs := [[(a_r_, .inl (g 0, n_r_, .inl r__19))], offS ad_22 tp_p_ hd_p_ tf_p_ cf_p_ g o_23, offS ad_6 tp_q_ hd_q_ tf_q_ cf_q_ g o_4]) [[(a_r_, .inl (g 0, n_r_, .inl r__19))], offS ad_22 tp_p_ hd_p_ tf_p_ cf_p_ g o_23] [offS ad_6 tp_q_ hd_q_ tf_q_ cf_q_ g o_4] 3 [0, 1, 2] rfl rfl (by decide) hP hD
        have hPc : va_P (dC, dI) vwCl (offS ad_6 tp_q_ hd_q_ tf_q_ cf_q_ g o_4) H_21 := P_r hPs
        have hDc : va_D A (offS ad_6 tp_q_ hd_q_ tf_q_ cf_q_ g o_4) := D_r hDs
        have hFc : ∀ q, va_A (offS ad_6 tp_q_ hd_q_ tf_q_ cf_q_ g o_4) H_21.size q → A q := A_all hDc hA hS.1
        refine vx_calli (vx_runV (As := [.int v3_1, .int r_16, .int x_20, .int x_15]) (rest := [.int r_21]) ⟨hx, hb, hml, hown, hts⟩ (p_scatter l hlf dC dI g tp_q_ hd_q_ tf_q_ cf_q_ htf_q_ hcf_q_ ad_6 t_q_ had_6 o_4 v3_1 r_16 x_20 x_15 (hw := hw) (sz := H_21.size)) (cwV 4 hts (gqV aw_3_119 aw_3_120 aw_3_121 aw_1_1 aw_3_122) rfl rfl rfl (by decide +kernel) ⟨Nat.le_of_ble_eq_true rfl, Nat.le_of_ble_eq_true rfl⟩) ⟨PG_blind, off_recv had_6 hK hPc, PG_call hK hG hS hPc hDc hFc⟩ rfl rfl hl.1 rfl (lv_room (Nat.le_of_ble_eq_true rfl)) dL_copies_53 ⟨by rw [hrc]; omega, by rw [hrs]; omega⟩) hS (fun q _ h => hFc q h) hFc (fun q _ h => hFc q h) (fun E ce q9 ux t H1 locs1 ht hvm hp9 hB9 hz hk hS9 hce hcv hcl => ?_) (fun r_24 u_24 t_24 H_24 L_24 ht_24 hvm_24 hw_24 hB_24 hz_24 hk_24 hS => ?_)
        · exact (hB9.1.1).elim
        obtain ⟨ad_25, o_26⟩ := u_24
        obtain ⟨hw, had_25⟩ := hw_24
        rw [ht_24] at hB_24
        obtain ⟨hP1, hD1⟩ := hB_24
        obtain ⟨hP, hD⟩ := join_r hPs hDs hk_24 hFc hP1 hD1
        obtain ⟨hP, hD⟩ := seg_join [[(a_r_, .inl (g 0, n_r_, .inl r__19))], offS ad_22 tp_p_ hd_p_ tf_p_ cf_p_ g o_23] [offS ad_25 tp_q_ hd_q_ tf_q_ cf_q_ g o_26] [[(a_r_, .inl (g 0, n_r_, .inl r__19))], offS ad_22 tp_p_ hd_p_ tf_p_ cf_p_ g o_23, offS ad_25 tp_q_ hd_q_ tf_q_ cf_q_ g o_26] 3 [0, 1, 2] rfl rfl (by decide) hP hD
        have hP : va_P (dC, dI) vwCl ([(a_r_, .inl (g 0, n_r_, .inl r__19))] ++ (offS ad_22 tp_p_ hd_p_ tf_p_ cf_p_ g o_23 ++ (offS ad_25 tp_q_ hd_q_ tf_q_ cf_q_ g o_26))) H_24 := hP
        have hD : va_D A ([(a_r_, .inl (g 0, n_r_, .inl r__19))] ++ (offS ad_22 tp_p_ hd_p_ tf_p_ cf_p_ g o_23 ++ (offS ad_25 tp_q_ hd_q_ tf_q_ cf_q_ g o_26))) := hD
        refine W.widen (k := (kb2 + 8)) (n := (nb2 + 48)) (by omega) (by omega) ?_
        refine lv_iadd hx hb dL_copies_56 ?_
        refine lv_topi (fun x_27 ex_27 => ?_)
        have hw := hw x_27 ex_27
        refine lv_istore (lv' := [(7, .int x_27), (6, .int x_20), (5, .int r_16), (4, .int x_15), (0, .ref t_p_), (1, .ref t_q_), (2, .ref a_r_), (3, .int v3_1)]) hx hb dL_copies_57 hl (by decide) rfl (fun ls hl => ?_)
        refine lv_aload_n hx hb dL_copies_59 rfl (lv_at hl 6 rfl) ?_
        refine lv_iconst (v := 2) hx hb dL_copies_60 (by decide) ?_
        obtain ⟨hPs, hDs⟩ := seg_call (segs := [[(a_r_, .inl (g 0, n_r_, .inl r__19))], offS ad_22 tp_p_ hd_p_ tf_p_ cf_p_ g o_23, offS ad_25 tp_q_ hd_q_ tf_q_ cf_q_ g o_26]) [offS ad_22 tp_p_ hd_p_ tf_p_ cf_p_ g o_23, offS ad_25 tp_q_ hd_q_ tf_q_ cf_q_ g o_26] [[(a_r_, .inl (g 0, n_r_, .inl r__19))]] 3 [1, 2, 0] rfl rfl (by decide) hP hD
        have hPc : va_P (dC, dI) vwCl [(a_r_, .inl (g 0, n_r_, .inl r__19))] H_24 := P_r hPs
        have hDc : va_D A [(a_r_, .inl (g 0, n_r_, .inl r__19))] := D_r hDs
        have hFc : ∀ q, va_A [(a_r_, .inl (g 0, n_r_, .inl r__19))] H_24.size q → A q := A_all hDc hA hS.1
        refine va_calli (va_runS (As := [.ref a_r_, .int 2]) (rest := []) ⟨hx, hb, hml, hown, hts⟩ (c_L_draw l hlf dC dI g (a_r_ := a_r_) (n_r_ := n_r_) (r_ := r__19) (many := 2) (hw := hw) (sz := H_24.size)) (va_cwS 2 hts (gqS aw_2_215 aw_2_216 aw_1_0 aw_2_217) rfl rfl rfl (by decide +kernel) ⟨Nat.le_of_ble_eq_true rfl, Nat.le_of_ble_eq_true rfl⟩) ⟨PG_blind, PG_call hK hG hS hPc hDc hFc⟩ rfl rfl hl.1 rfl (lv_room (Nat.le_of_ble_eq_true rfl)) dL_copies_61 ⟨by rw [hrc]; omega, by rw [hrs]; omega⟩) hS (fun q _ h => hFc q h) hFc (fun r_28 u_28 t_28 H_28 L_28 ht_28 hvm_28 hw_28 hB_28 hz_28 hk_28 hS => ?_)
        obtain ⟨r__29, u_28⟩ := u_28
        have hw := hw_28
        rw [ht_28] at hB_28
        obtain ⟨hP1, hD1⟩ := hB_28
        obtain ⟨hP, hD⟩ := join_r hPs hDs hk_28 hFc hP1 hD1
        obtain ⟨hP, hD⟩ := seg_join [offS ad_22 tp_p_ hd_p_ tf_p_ cf_p_ g o_23, offS ad_25 tp_q_ hd_q_ tf_q_ cf_q_ g o_26] [[(a_r_, .inl (g 0, n_r_, .inl r__29))]] [[(a_r_, .inl (g 0, n_r_, .inl r__29))], offS ad_22 tp_p_ hd_p_ tf_p_ cf_p_ g o_23, offS ad_25 tp_q_ hd_q_ tf_q_ cf_q_ g o_26] 3 [2, 0, 1] rfl rfl (by decide) hP hD
        have hP : va_P (dC, dI) vwCl ([(a_r_, .inl (g 0, n_r_, .inl r__29))] ++ (offS ad_22 tp_p_ hd_p_ tf_p_ cf_p_ g o_23 ++ (offS ad_25 tp_q_ hd_q_ tf_q_ cf_q_ g o_26))) H_28 := hP
        have hD : va_D A ([(a_r_, .inl (g 0, n_r_, .inl r__29))] ++ (offS ad_22 tp_p_ hd_p_ tf_p_ cf_p_ g o_23 ++ (offS ad_25 tp_q_ hd_q_ tf_q_ cf_q_ g o_26))) := hD
        refine W.widen (k := (kb2 + 8)) (n := (nb2 + 48)) (by omega) (by omega) ?_
        refine lv_if_ne (tgt := 82) hx hb dL_copies_64 (by decide) (fun c_30 => ?_) (fun c_30 => ?_)
        · have hw := hw.2 c_30
          obtain ⟨x_31, ex_31⟩ : ∃ y : Int32, y = v3_1 + 1 := ⟨_, rfl⟩
          have hw := hw x_31 ex_31
          refine lv_iinc (v := x_31) (lv' := [(3, .int x_31), (7, .int x_27), (6, .int x_20), (5, .int r_16), (4, .int x_15), (0, .ref t_p_), (1, .ref t_q_), (2, .ref a_r_)]) hx hb dL_copies_82 hl (k := 7) rfl (by rw [ex_31]; rfl) (by decide) rfl (fun ls hl => ?_)
          refine lv_goto (tgt := 2) hx hb dL_copies_85 (by decide) ?_
          refine W.widen (k := (96 - n2 * 12)) (n := (576 - n2 * 72)) (by omega) (by omega) ?_
          exact ih2 x_31 r__29 o_23 o_26 ad_22 ad_25 had_22 had_25 _ _ hw hP hD hS _ (lv_sub hl [5, 6, 7, 0] rfl)
        · have hw := hw.1 c_30
          refine lv_aload_n hx hb dL_copies_67 rfl (lv_at hl 4 rfl) ?_
          refine lv_iload_n hx hb dL_copies_68 rfl (lv_at hl 7 rfl) ?_
          refine lv_iload_n hx hb dL_copies_69 rfl (lv_at hl 7 rfl) ?_
          obtain ⟨hPs, hDs⟩ := seg_call (segs := [[(a_r_, .inl (g 0, n_r_, .inl r__29))], offS ad_22 tp_p_ hd_p_ tf_p_ cf_p_ g o_23, offS ad_25 tp_q_ hd_q_ tf_q_ cf_q_ g o_26]) [[(a_r_, .inl (g 0, n_r_, .inl r__29))], offS ad_25 tp_q_ hd_q_ tf_q_ cf_q_ g o_26] [offS ad_22 tp_p_ hd_p_ tf_p_ cf_p_ g o_23] 3 [0, 2, 1] rfl rfl (by decide) hP hD
          have hPc : va_P (dC, dI) vwCl (offS ad_22 tp_p_ hd_p_ tf_p_ cf_p_ g o_23) H_28 := P_r hPs
          have hDc : va_D A (offS ad_22 tp_p_ hd_p_ tf_p_ cf_p_ g o_23) := D_r hDs
          have hFc : ∀ q, va_A (offS ad_22 tp_p_ hd_p_ tf_p_ cf_p_ g o_23) H_28.size q → A q := A_all hDc hA hS.1
          refine vx_calli (vx_runV (As := [.int v3_1, .int v3_1]) (rest := []) ⟨hx, hb, hml, hown, hts⟩ (p_sort l hlf dC dI g tp_p_ hd_p_ tf_p_ cf_p_ htf_p_ hcf_p_ ad_22 t_p_ had_22 o_23 v3_1 v3_1 (hw := hw) (sz := H_28.size)) (cwV 2 hts (gqV aw_6_67 aw_6_68 aw_6_69 aw_1_1 aw_6_70) rfl rfl rfl (by decide +kernel) ⟨Nat.le_of_ble_eq_true rfl, Nat.le_of_ble_eq_true rfl⟩) ⟨PG_blind, off_recv had_22 hK hPc, PG_call hK hG hS hPc hDc hFc⟩ rfl rfl hl.1 rfl (lv_room (Nat.le_of_ble_eq_true rfl)) dL_copies_70 ⟨by rw [hrc]; omega, by rw [hrs]; omega⟩) hS (fun q _ h => hFc q h) hFc (fun q _ h => hFc q h) (fun E ce q9 ux t H1 locs1 ht hvm hp9 hB9 hz hk hS9 hce hcv hcl => ?_) (fun r_32 u_32 t_32 H_32 L_32 ht_32 hvm_32 hw_32 hB_32 hz_32 hk_32 hS => ?_)
          · exact (hB9.1.1).elim
          obtain ⟨ad_33, o_34⟩ := u_32
          obtain ⟨hw, had_33⟩ := hw_32
          rw [ht_32] at hB_32
          obtain ⟨hP1, hD1⟩ := hB_32
          obtain ⟨hP, hD⟩ := join_r hPs hDs hk_32 hFc hP1 hD1
          obtain ⟨hP, hD⟩ := seg_join [[(a_r_, .inl (g 0, n_r_, .inl r__29))], offS ad_25 tp_q_ hd_q_ tf_q_ cf_q_ g o_26] [offS ad_33 tp_p_ hd_p_ tf_p_ cf_p_ g o_34] [[(a_r_, .inl (g 0, n_r_, .inl r__29))], offS ad_33 tp_p_ hd_p_ tf_p_ cf_p_ g o_34, offS ad_25 tp_q_ hd_q_ tf_q_ cf_q_ g o_26] 3 [0, 2, 1] rfl rfl (by decide) hP hD
          have hP : va_P (dC, dI) vwCl ([(a_r_, .inl (g 0, n_r_, .inl r__29))] ++ (offS ad_33 tp_p_ hd_p_ tf_p_ cf_p_ g o_34 ++ (offS ad_25 tp_q_ hd_q_ tf_q_ cf_q_ g o_26))) H_32 := hP
          have hD : va_D A ([(a_r_, .inl (g 0, n_r_, .inl r__29))] ++ (offS ad_33 tp_p_ hd_p_ tf_p_ cf_p_ g o_34 ++ (offS ad_25 tp_q_ hd_q_ tf_q_ cf_q_ g o_26))) := hD
          refine W.widen (k := (kb2 + 10)) (n := (nb2 + 60)) (by omega) (by omega) ?_
          refine lv_aload_n hx hb dL_copies_73 rfl (lv_at hl 5 rfl) ?_
          refine lv_iload_n hx hb dL_copies_74 rfl (lv_at hl 7 rfl) ?_
          refine lv_iload_n hx hb dL_copies_75 rfl (lv_at hl 7 rfl) ?_
          obtain ⟨hPs, hDs⟩ := seg_call (segs := [[(a_r_, .inl (g 0, n_r_, .inl r__29))], offS ad_33 tp_p_ hd_p_ tf_p_ cf_p_ g o_34, offS ad_25 tp_q_ hd_q_ tf_q_ cf_q_ g o_26]) [[(a_r_, .inl (g 0, n_r_, .inl r__29))], offS ad_33 tp_p_ hd_p_ tf_p_ cf_p_ g o_34] [offS ad_25 tp_q_ hd_q_ tf_q_ cf_q_ g o_26] 3 [0, 1, 2] rfl rfl (by decide) hP hD
          have hPc : va_P (dC, dI) vwCl (offS ad_25 tp_q_ hd_q_ tf_q_ cf_q_ g o_26) H_32 := P_r hPs
          have hDc : va_D A (offS ad_25 tp_q_ hd_q_ tf_q_ cf_q_ g o_26) := D_r hDs
          have hFc : ∀ q, va_A (offS ad_25 tp_q_ hd_q_ tf_q_ cf_q_ g o_26) H_32.size q → A q := A_all hDc hA hS.1
          refine vx_calli (vx_runV (As := [.int v3_1, .int v3_1]) (rest := [.int r_32]) ⟨hx, hb, hml, hown, hts⟩ (p_sort l hlf dC dI g tp_q_ hd_q_ tf_q_ cf_q_ htf_q_ hcf_q_ ad_25 t_q_ had_25 o_26 v3_1 v3_1 (hw := hw) (sz := H_32.size)) (cwV 2 hts (gqV aw_6_67 aw_6_68 aw_6_69 aw_1_1 aw_6_70) rfl rfl rfl (by decide +kernel) ⟨Nat.le_of_ble_eq_true rfl, Nat.le_of_ble_eq_true rfl⟩) ⟨PG_blind, off_recv had_25 hK hPc, PG_call hK hG hS hPc hDc hFc⟩ rfl rfl hl.1 rfl (lv_room (Nat.le_of_ble_eq_true rfl)) dL_copies_76 ⟨by rw [hrc]; omega, by rw [hrs]; omega⟩) hS (fun q _ h => hFc q h) hFc (fun q _ h => hFc q h) (fun E ce q9 ux t H1 locs1 ht hvm hp9 hB9 hz hk hS9 hce hcv hcl => ?_) (fun r_35 u_35 t_35 H_35 L_35 ht_35 hvm_35 hw_35 hB_35 hz_35 hk_35 hS => ?_)
          · exact (hB9.1.1).elim
          obtain ⟨ad_36, o_37⟩ := u_35
          obtain ⟨hw, had_36⟩ := hw_35
          rw [ht_35] at hB_35
          obtain ⟨hP1, hD1⟩ := hB_35
          obtain ⟨hP, hD⟩ := join_r hPs hDs hk_35 hFc hP1 hD1
          obtain ⟨hP, hD⟩ := seg_join [[(a_r_, .inl (g 0, n_r_, .inl r__29))], offS ad_33 tp_p_ hd_p_ tf_p_ cf_p_ g o_34] [offS ad_36 tp_q_ hd_q_ tf_q_ cf_q_ g o_37] [[(a_r_, .inl (g 0, n_r_, .inl r__29))], offS ad_33 tp_p_ hd_p_ tf_p_ cf_p_ g o_34, offS ad_36 tp_q_ hd_q_ tf_q_ cf_q_ g o_37] 3 [0, 1, 2] rfl rfl (by decide) hP hD
          have hP : va_P (dC, dI) vwCl ([(a_r_, .inl (g 0, n_r_, .inl r__29))] ++ (offS ad_33 tp_p_ hd_p_ tf_p_ cf_p_ g o_34 ++ (offS ad_36 tp_q_ hd_q_ tf_q_ cf_q_ g o_37))) H_35 := hP
          have hD : va_D A ([(a_r_, .inl (g 0, n_r_, .inl r__29))] ++ (offS ad_33 tp_p_ hd_p_ tf_p_ cf_p_ g o_34 ++ (offS ad_36 tp_q_ hd_q_ tf_q_ cf_q_ g o_37))) := hD
          refine W.widen (k := (kb2 + 12)) (n := (nb2 + 72)) (by omega) (by omega) ?_
          refine lv_iadd hx hb dL_copies_79 ?_
          refine lv_topi (fun x_38 ex_38 => ?_)
          have hw := hw x_38 ex_38
          refine lv_istore (lv' := [(7, .int x_38), (6, .int x_20), (5, .int r_16), (4, .int x_15), (0, .ref t_p_), (1, .ref t_q_), (2, .ref a_r_), (3, .int v3_1)]) hx hb dL_copies_80 hl (by decide) rfl (fun ls hl => ?_)
          obtain ⟨x_39, ex_39⟩ : ∃ y : Int32, y = v3_1 + 1 := ⟨_, rfl⟩
          have hw := hw x_39 ex_39
          refine lv_iinc (v := x_39) (lv' := [(3, .int x_39), (7, .int x_38), (6, .int x_20), (5, .int r_16), (4, .int x_15), (0, .ref t_p_), (1, .ref t_q_), (2, .ref a_r_)]) hx hb dL_copies_82 hl (k := 7) rfl (by rw [ex_39]; rfl) (by decide) rfl (fun ls hl => ?_)
          refine lv_goto (tgt := 2) hx hb dL_copies_85 (by decide) ?_
          refine W.widen (k := (96 - n2 * 12)) (n := (576 - n2 * 72)) (by omega) (by omega) ?_
          exact ih2 x_39 r__29 o_34 o_37 ad_33 ad_36 had_33 had_36 _ _ hw hP hD hS _ (lv_sub hl [5, 6, 7, 0] rfl)
  obtain ⟨n2, hle2, hw⟩ := hw
  refine W.widen (k := (96 - n2 * 12)) (n := (576 - n2 * 72)) (by omega) (by omega) ?_
  exact LOOP2 n2 hle2 0 r_ o_p_ o_q_ a_p_ a_q_ h_p_ h_q_ _ _ hw hP hD hS _ (lv_sub hl [1, 2, 3, 0] rfl)
