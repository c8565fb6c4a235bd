theorem dL_polyphase_0 : decode cL_polyphase 0 = .ok (.iconst 4, 1) := by decide +kernel
theorem dL_polyphase_1 : decode cL_polyphase 1 = .ok (.newarray .int, 2) := by decide +kernel
theorem dL_polyphase_3 : decode cL_polyphase 3 = .ok (.astore_n 2, 1) := by decide +kernel
theorem dL_polyphase_4 : decode cL_polyphase 4 = .ok (.iload_n 1, 1) := by decide +kernel
theorem dL_polyphase_5 : decode cL_polyphase 5 = .ok (.newarray .int, 2) := by decide +kernel
theorem dL_polyphase_7 : decode cL_polyphase 7 = .ok (.astore_n 3, 1) := by decide +kernel
theorem dL_polyphase_8 : decode cL_polyphase 8 = .ok (.aload_n 3, 1) := by decide +kernel
theorem dL_polyphase_9 : decode cL_polyphase 9 = .ok (.iconst 0, 1) := by decide +kernel
theorem dL_polyphase_10 : decode cL_polyphase 10 = .ok (.iconst 1, 1) := by decide +kernel
theorem dL_polyphase_11 : decode cL_polyphase 11 = .ok (.iastore, 1) := by decide +kernel
theorem dL_polyphase_12 : decode cL_polyphase 12 = .ok (.iconst 1, 1) := by decide +kernel
theorem dL_polyphase_13 : decode cL_polyphase 13 = .ok (.istore 4, 2) := by decide +kernel
theorem dL_polyphase_89 : decode cL_polyphase 89 = .ok (.iload_n 1, 1) := by decide +kernel
theorem dL_polyphase_90 : decode cL_polyphase 90 = .ok (.iload 4, 2) := by decide +kernel
theorem dL_polyphase_92 : decode cL_polyphase 92 = .ok (.multianewarray 159 2, 4) := by decide +kernel
theorem dL_polyphase_96 : decode cL_polyphase 96 = .ok (.astore 5, 2) := by decide +kernel
theorem dL_polyphase_98 : decode cL_polyphase 98 = .ok (.iconst 0, 1) := by decide +kernel
theorem dL_polyphase_99 : decode cL_polyphase 99 = .ok (.istore 6, 2) := by decide +kernel
theorem dL_polyphase_101 : decode cL_polyphase 101 = .ok (.iconst 0, 1) := by decide +kernel
theorem dL_polyphase_102 : decode cL_polyphase 102 = .ok (.istore 7, 2) := by decide +kernel
theorem dL_polyphase_160 : decode cL_polyphase 160 = .ok (.aload_n 2, 1) := by decide +kernel
theorem dL_polyphase_161 : decode cL_polyphase 161 = .ok (.iconst 3, 1) := by decide +kernel
theorem dL_polyphase_162 : decode cL_polyphase 162 = .ok (.iaload, 1) := by decide +kernel
theorem dL_polyphase_163 : decode cL_polyphase 163 = .ok (.istore 7, 2) := by decide +kernel
theorem dL_polyphase_340 : decode cL_polyphase 340 = .ok (.aload_n 2, 1) := by decide +kernel
theorem dL_polyphase_341 : decode cL_polyphase 341 = .ok (.areturn, 1) := by decide +kernel
theorem dL_polyphase_165 : decode cL_polyphase 165 = .ok (.iload 7, 2) := by decide +kernel
theorem dL_polyphase_167 : decode cL_polyphase 167 = .ok (.ifCond .le 173, 3) := by decide +kernel
theorem dL_polyphase_170 : decode cL_polyphase 170 = .ok (.aload_n 3, 1) := by decide +kernel
theorem dL_polyphase_171 : decode cL_polyphase 171 = .ok (.iload_n 1, 1) := by decide +kernel
theorem dL_polyphase_172 : decode cL_polyphase 172 = .ok (.iconst 1, 1) := by decide +kernel
theorem dL_polyphase_173 : decode cL_polyphase 173 = .ok (.isub, 1) := by decide +kernel
theorem dL_polyphase_174 : decode cL_polyphase 174 = .ok (.iaload, 1) := by decide +kernel
theorem dL_polyphase_175 : decode cL_polyphase 175 = .ok (.istore 8, 2) := by decide +kernel
theorem dL_polyphase_177 : decode cL_polyphase 177 = .ok (.iload 4, 2) := by decide +kernel
theorem dL_polyphase_179 : decode cL_polyphase 179 = .ok (.newarray .int, 2) := by decide +kernel
theorem dL_polyphase_181 : decode cL_polyphase 181 = .ok (.astore 9, 2) := by decide +kernel
theorem dL_polyphase_183 : decode cL_polyphase 183 = .ok (.iconst 0, 1) := by decide +kernel
theorem dL_polyphase_184 : decode cL_polyphase 184 = .ok (.istore 10, 2) := by decide +kernel
theorem dL_polyphase_248 : decode cL_polyphase 248 = .ok (.iload_n 1, 1) := by decide +kernel
theorem dL_polyphase_249 : decode cL_polyphase 249 = .ok (.iconst 1, 1) := by decide +kernel
theorem dL_polyphase_250 : decode cL_polyphase 250 = .ok (.isub, 1) := by decide +kernel
theorem dL_polyphase_251 : decode cL_polyphase 251 = .ok (.istore 10, 2) := by decide +kernel
theorem dL_polyphase_316 : decode cL_polyphase 316 = .ok (.aload_n 3, 1) := by decide +kernel
theorem dL_polyphase_317 : decode cL_polyphase 317 = .ok (.iconst 0, 1) := by decide +kernel
theorem dL_polyphase_318 : decode cL_polyphase 318 = .ok (.iload 8, 2) := by decide +kernel
theorem dL_polyphase_320 : decode cL_polyphase 320 = .ok (.iastore, 1) := by decide +kernel
theorem dL_polyphase_321 : decode cL_polyphase 321 = .ok (.aload 5, 2) := by decide +kernel
theorem dL_polyphase_323 : decode cL_polyphase 323 = .ok (.iconst 0, 1) := by decide +kernel
theorem dL_polyphase_324 : decode cL_polyphase 324 = .ok (.aload 9, 2) := by decide +kernel
theorem dL_polyphase_326 : decode cL_polyphase 326 = .ok (.aastore, 1) := by decide +kernel
theorem dL_polyphase_327 : decode cL_polyphase 327 = .ok (.aload_n 2, 1) := by decide +kernel
theorem dL_polyphase_328 : decode cL_polyphase 328 = .ok (.iconst 0, 1) := by decide +kernel
theorem dL_polyphase_329 : decode cL_polyphase 329 = .ok (.dup2, 1) := by decide +kernel
theorem dL_polyphase_330 : decode cL_polyphase 330 = .ok (.iaload, 1) := by decide +kernel
theorem dL_polyphase_331 : decode cL_polyphase 331 = .ok (.iconst 1, 1) := by decide +kernel
theorem dL_polyphase_332 : decode cL_polyphase 332 = .ok (.iadd, 1) := by decide +kernel
theorem dL_polyphase_333 : decode cL_polyphase 333 = .ok (.iastore, 1) := by decide +kernel
theorem dL_polyphase_334 : decode cL_polyphase 334 = .ok (.iinc 7 (-1), 3) := by decide +kernel
theorem dL_polyphase_337 : decode cL_polyphase 337 = .ok (.goto (-172), 3) := by decide +kernel
theorem dL_polyphase_253 : decode cL_polyphase 253 = .ok (.iload 10, 2) := by decide +kernel
theorem dL_polyphase_255 : decode cL_polyphase 255 = .ok (.ifCond .le 61, 3) := by decide +kernel
theorem dL_polyphase_258 : decode cL_polyphase 258 = .ok (.aload_n 3, 1) := by decide +kernel
theorem dL_polyphase_259 : decode cL_polyphase 259 = .ok (.iload 10, 2) := by decide +kernel
theorem dL_polyphase_261 : decode cL_polyphase 261 = .ok (.aload_n 3, 1) := by decide +kernel
theorem dL_polyphase_262 : decode cL_polyphase 262 = .ok (.iload 10, 2) := by decide +kernel
theorem dL_polyphase_264 : decode cL_polyphase 264 = .ok (.iconst 1, 1) := by decide +kernel
theorem dL_polyphase_265 : decode cL_polyphase 265 = .ok (.isub, 1) := by decide +kernel
theorem dL_polyphase_266 : decode cL_polyphase 266 = .ok (.iaload, 1) := by decide +kernel
theorem dL_polyphase_267 : decode cL_polyphase 267 = .ok (.iload 8, 2) := by decide +kernel
theorem dL_polyphase_269 : decode cL_polyphase 269 = .ok (.isub, 1) := by decide +kernel
theorem dL_polyphase_270 : decode cL_polyphase 270 = .ok (.iastore, 1) := by decide +kernel
theorem dL_polyphase_271 : decode cL_polyphase 271 = .ok (.iconst 0, 1) := by decide +kernel
theorem dL_polyphase_272 : decode cL_polyphase 272 = .ok (.istore 11, 2) := by decide +kernel
theorem dL_polyphase_310 : decode cL_polyphase 310 = .ok (.iinc 10 (-1), 3) := by decide +kernel
theorem dL_polyphase_313 : decode cL_polyphase 313 = .ok (.goto (-60), 3) := by decide +kernel
theorem dL_polyphase_274 : decode cL_polyphase 274 = .ok (.iload 11, 2) := by decide +kernel
theorem dL_polyphase_276 : decode cL_polyphase 276 = .ok (.aload_n 3, 1) := by decide +kernel
theorem dL_polyphase_277 : decode cL_polyphase 277 = .ok (.iload 10, 2) := by decide +kernel
theorem dL_polyphase_279 : decode cL_polyphase 279 = .ok (.iaload, 1) := by decide +kernel
theorem dL_polyphase_280 : decode cL_polyphase 280 = .ok (.if_icmp .ge 30, 3) := by decide +kernel
theorem dL_polyphase_283 : decode cL_polyphase 283 = .ok (.aload 5, 2) := by decide +kernel
theorem dL_polyphase_285 : decode cL_polyphase 285 = .ok (.iload 10, 2) := by decide +kernel
theorem dL_polyphase_287 : decode cL_polyphase 287 = .ok (.aaload, 1) := by decide +kernel
theorem dL_polyphase_288 : decode cL_polyphase 288 = .ok (.iload 11, 2) := by decide +kernel
theorem dL_polyphase_290 : decode cL_polyphase 290 = .ok (.aload 5, 2) := by decide +kernel
theorem dL_polyphase_292 : decode cL_polyphase 292 = .ok (.iload 10, 2) := by decide +kernel
theorem dL_polyphase_294 : decode cL_polyphase 294 = .ok (.iconst 1, 1) := by decide +kernel
theorem dL_polyphase_295 : decode cL_polyphase 295 = .ok (.isub, 1) := by decide +kernel
theorem dL_polyphase_296 : decode cL_polyphase 296 = .ok (.aaload, 1) := by decide +kernel
theorem dL_polyphase_297 : decode cL_polyphase 297 = .ok (.iload 11, 2) := by decide +kernel
theorem dL_polyphase_299 : decode cL_polyphase 299 = .ok (.iload 8, 2) := by decide +kernel
theorem dL_polyphase_301 : decode cL_polyphase 301 = .ok (.iadd, 1) := by decide +kernel
theorem dL_polyphase_302 : decode cL_polyphase 302 = .ok (.iaload, 1) := by decide +kernel
theorem dL_polyphase_303 : decode cL_polyphase 303 = .ok (.iastore, 1) := by decide +kernel
theorem dL_polyphase_304 : decode cL_polyphase 304 = .ok (.iinc 11 1, 3) := by decide +kernel
theorem dL_polyphase_307 : decode cL_polyphase 307 = .ok (.goto (-33), 3) := by decide +kernel
theorem dL_polyphase_186 : decode cL_polyphase 186 = .ok (.iload 10, 2) := by decide +kernel
theorem dL_polyphase_188 : decode cL_polyphase 188 = .ok (.iload 8, 2) := by decide +kernel
theorem dL_polyphase_190 : decode cL_polyphase 190 = .ok (.if_icmp .ge 58, 3) := by decide +kernel
theorem dL_polyphase_193 : decode cL_polyphase 193 = .ok (.iconst 0, 1) := by decide +kernel
theorem dL_polyphase_194 : decode cL_polyphase 194 = .ok (.istore 11, 2) := by decide +kernel
theorem dL_polyphase_224 : decode cL_polyphase 224 = .ok (.aload_n 2, 1) := by decide +kernel
theorem dL_polyphase_225 : decode cL_polyphase 225 = .ok (.iconst 1, 1) := by decide +kernel
theorem dL_polyphase_226 : decode cL_polyphase 226 = .ok (.dup2, 1) := by decide +kernel
theorem dL_polyphase_227 : decode cL_polyphase 227 = .ok (.iaload, 1) := by decide +kernel
theorem dL_polyphase_228 : decode cL_polyphase 228 = .ok (.aload 9, 2) := by decide +kernel
theorem dL_polyphase_230 : decode cL_polyphase 230 = .ok (.iload 10, 2) := by decide +kernel
theorem dL_polyphase_232 : decode cL_polyphase 232 = .ok (.iaload, 1) := by decide +kernel
theorem dL_polyphase_233 : decode cL_polyphase 233 = .ok (.iadd, 1) := by decide +kernel
theorem dL_polyphase_234 : decode cL_polyphase 234 = .ok (.iastore, 1) := by decide +kernel
theorem dL_polyphase_235 : decode cL_polyphase 235 = .ok (.aload_n 2, 1) := by decide +kernel
theorem dL_polyphase_236 : decode cL_polyphase 236 = .ok (.iconst 2, 1) := by decide +kernel
theorem dL_polyphase_237 : decode cL_polyphase 237 = .ok (.dup2, 1) := by decide +kernel
theorem dL_polyphase_238 : decode cL_polyphase 238 = .ok (.iaload, 1) := by decide +kernel
theorem dL_polyphase_239 : decode cL_polyphase 239 = .ok (.iconst 1, 1) := by decide +kernel
theorem dL_polyphase_240 : decode cL_polyphase 240 = .ok (.iadd, 1) := by decide +kernel
theorem dL_polyphase_241 : decode cL_polyphase 241 = .ok (.iastore, 1) := by decide +kernel
theorem dL_polyphase_242 : decode cL_polyphase 242 = .ok (.iinc 10 1, 3) := by decide +kernel
theorem dL_polyphase_245 : decode cL_polyphase 245 = .ok (.goto (-59), 3) := by decide +kernel
theorem dL_polyphase_196 : decode cL_polyphase 196 = .ok (.iload 11, 2) := by decide +kernel
theorem dL_polyphase_198 : decode cL_polyphase 198 = .ok (.iload_n 1, 1) := by decide +kernel
theorem dL_polyphase_199 : decode cL_polyphase 199 = .ok (.if_icmp .ge 25, 3) := by decide +kernel
theorem dL_polyphase_202 : decode cL_polyphase 202 = .ok (.aload 9, 2) := by decide +kernel
theorem dL_polyphase_204 : decode cL_polyphase 204 = .ok (.iload 10, 2) := by decide +kernel
theorem dL_polyphase_206 : decode cL_polyphase 206 = .ok (.dup2, 1) := by decide +kernel
theorem dL_polyphase_207 : decode cL_polyphase 207 = .ok (.iaload, 1) := by decide +kernel
theorem dL_polyphase_208 : decode cL_polyphase 208 = .ok (.aload 5, 2) := by decide +kernel
theorem dL_polyphase_210 : decode cL_polyphase 210 = .ok (.iload 11, 2) := by decide +kernel
theorem dL_polyphase_212 : decode cL_polyphase 212 = .ok (.aaload, 1) := by decide +kernel
theorem dL_polyphase_213 : decode cL_polyphase 213 = .ok (.iload 10, 2) := by decide +kernel
theorem dL_polyphase_215 : decode cL_polyphase 215 = .ok (.iaload, 1) := by decide +kernel
theorem dL_polyphase_216 : decode cL_polyphase 216 = .ok (.iadd, 1) := by decide +kernel
theorem dL_polyphase_217 : decode cL_polyphase 217 = .ok (.iastore, 1) := by decide +kernel
theorem dL_polyphase_218 : decode cL_polyphase 218 = .ok (.iinc 11 1, 3) := by decide +kernel
theorem dL_polyphase_221 : decode cL_polyphase 221 = .ok (.goto (-25), 3) := by decide +kernel
theorem dL_polyphase_104 : decode cL_polyphase 104 = .ok (.iload 7, 2) := by decide +kernel
theorem dL_polyphase_106 : decode cL_polyphase 106 = .ok (.iload_n 1, 1) := by decide +kernel
theorem dL_polyphase_107 : decode cL_polyphase 107 = .ok (.if_icmp .ge 53, 3) := by decide +kernel
theorem dL_polyphase_110 : decode cL_polyphase 110 = .ok (.iconst 0, 1) := by decide +kernel
theorem dL_polyphase_111 : decode cL_polyphase 111 = .ok (.istore 8, 2) := by decide +kernel
theorem dL_polyphase_154 : decode cL_polyphase 154 = .ok (.iinc 7 1, 3) := by decide +kernel
theorem dL_polyphase_157 : decode cL_polyphase 157 = .ok (.goto (-53), 3) := by decide +kernel
theorem dL_polyphase_113 : decode cL_polyphase 113 = .ok (.iload 8, 2) := by decide +kernel
theorem dL_polyphase_115 : decode cL_polyphase 115 = .ok (.aload_n 3, 1) := by decide +kernel
theorem dL_polyphase_116 : decode cL_polyphase 116 = .ok (.iload 7, 2) := by decide +kernel
theorem dL_polyphase_118 : decode cL_polyphase 118 = .ok (.iaload, 1) := by decide +kernel
theorem dL_polyphase_119 : decode cL_polyphase 119 = .ok (.if_icmp .ge 35, 3) := by decide +kernel
theorem dL_polyphase_122 : decode cL_polyphase 122 = .ok (.aload 5, 2) := by decide +kernel
theorem dL_polyphase_124 : decode cL_polyphase 124 = .ok (.iload 7, 2) := by decide +kernel
theorem dL_polyphase_126 : decode cL_polyphase 126 = .ok (.aaload, 1) := by decide +kernel
theorem dL_polyphase_127 : decode cL_polyphase 127 = .ok (.iload 8, 2) := by decide +kernel
theorem dL_polyphase_129 : decode cL_polyphase 129 = .ok (.iload 6, 2) := by decide +kernel
theorem dL_polyphase_131 : decode cL_polyphase 131 = .ok (.aload_n 0, 1) := by decide +kernel
theorem dL_polyphase_132 : decode cL_polyphase 132 = .ok (.arraylength, 1) := by decide +kernel
theorem dL_polyphase_133 : decode cL_polyphase 133 = .ok (.if_icmp .ge 13, 3) := by decide +kernel
theorem dL_polyphase_146 : decode cL_polyphase 146 = .ok (.iconst 0, 1) := by decide +kernel
theorem dL_polyphase_147 : decode cL_polyphase 147 = .ok (.iastore, 1) := by decide +kernel
theorem dL_polyphase_148 : decode cL_polyphase 148 = .ok (.iinc 8 1, 3) := by decide +kernel
theorem dL_polyphase_151 : decode cL_polyphase 151 = .ok (.goto (-38), 3) := by decide +kernel
theorem dL_polyphase_136 : decode cL_polyphase 136 = .ok (.aload_n 0, 1) := by decide +kernel
theorem dL_polyphase_137 : decode cL_polyphase 137 = .ok (.iload 6, 2) := by decide +kernel
theorem dL_polyphase_139 : decode cL_polyphase 139 = .ok (.iinc 6 1, 3) := by decide +kernel
theorem dL_polyphase_142 : decode cL_polyphase 142 = .ok (.iaload, 1) := by decide +kernel
theorem dL_polyphase_143 : decode cL_polyphase 143 = .ok (.goto 4, 3) := by decide +kernel
theorem dL_polyphase_15 : decode cL_polyphase 15 = .ok (.iload 4, 2) := by decide +kernel
theorem dL_polyphase_17 : decode cL_polyphase 17 = .ok (.aload_n 0, 1) := by decide +kernel
theorem dL_polyphase_18 : decode cL_polyphase 18 = .ok (.arraylength, 1) := by decide +kernel
theorem dL_polyphase_19 : decode cL_polyphase 19 = .ok (.if_icmp .ge 70, 3) := by decide +kernel
theorem dL_polyphase_22 : decode cL_polyphase 22 = .ok (.aload_n 3, 1) := by decide +kernel
theorem dL_polyphase_23 : decode cL_polyphase 23 = .ok (.iconst 0, 1) := by decide +kernel
theorem dL_polyphase_24 : decode cL_polyphase 24 = .ok (.iaload, 1) := by decide +kernel
theorem dL_polyphase_25 : decode cL_polyphase 25 = .ok (.istore 5, 2) := by decide +kernel
theorem dL_polyphase_27 : decode cL_polyphase 27 = .ok (.iconst 0, 1) := by decide +kernel
theorem dL_polyphase_28 : decode cL_polyphase 28 = .ok (.istore 4, 2) := by decide +kernel
theorem dL_polyphase_30 : decode cL_polyphase 30 = .ok (.iconst 0, 1) := by decide +kernel
theorem dL_polyphase_31 : decode cL_polyphase 31 = .ok (.istore 6, 2) := by decide +kernel
theorem dL_polyphase_79 : decode cL_polyphase 79 = .ok (.aload_n 2, 1) := by decide +kernel
theorem dL_polyphase_80 : decode cL_polyphase 80 = .ok (.iconst 3, 1) := by decide +kernel
theorem dL_polyphase_81 : decode cL_polyphase 81 = .ok (.dup2, 1) := by decide +kernel
theorem dL_polyphase_82 : decode cL_polyphase 82 = .ok (.iaload, 1) := by decide +kernel
theorem dL_polyphase_83 : decode cL_polyphase 83 = .ok (.iconst 1, 1) := by decide +kernel
theorem dL_polyphase_84 : decode cL_polyphase 84 = .ok (.iadd, 1) := by decide +kernel
theorem dL_polyphase_85 : decode cL_polyphase 85 = .ok (.iastore, 1) := by decide +kernel
theorem dL_polyphase_86 : decode cL_polyphase 86 = .ok (.goto (-71), 3) := by decide +kernel
theorem dL_polyphase_33 : decode cL_polyphase 33 = .ok (.iload 6, 2) := by decide +kernel
theorem dL_polyphase_35 : decode cL_polyphase 35 = .ok (.iload_n 1, 1) := by decide +kernel
theorem dL_polyphase_36 : decode cL_polyphase 36 = .ok (.if_icmp .ge 43, 3) := by decide +kernel
theorem dL_polyphase_39 : decode cL_polyphase 39 = .ok (.aload_n 3, 1) := by decide +kernel
theorem dL_polyphase_40 : decode cL_polyphase 40 = .ok (.iload 6, 2) := by decide +kernel
theorem dL_polyphase_42 : decode cL_polyphase 42 = .ok (.iload 5, 2) := by decide +kernel
theorem dL_polyphase_44 : decode cL_polyphase 44 = .ok (.iload 6, 2) := by decide +kernel
theorem dL_polyphase_46 : decode cL_polyphase 46 = .ok (.iconst 1, 1) := by decide +kernel
theorem dL_polyphase_47 : decode cL_polyphase 47 = .ok (.iadd, 1) := by decide +kernel
theorem dL_polyphase_48 : decode cL_polyphase 48 = .ok (.iload_n 1, 1) := by decide +kernel
theorem dL_polyphase_62 : decode cL_polyphase 62 = .ok (.iadd, 1) := by decide +kernel
theorem dL_polyphase_63 : decode cL_polyphase 63 = .ok (.iastore, 1) := by decide +kernel
theorem dL_polyphase_64 : decode cL_polyphase 64 = .ok (.iload 4, 2) := by decide +kernel
theorem dL_polyphase_66 : decode cL_polyphase 66 = .ok (.aload_n 3, 1) := by decide +kernel
theorem dL_polyphase_67 : decode cL_polyphase 67 = .ok (.iload 6, 2) := by decide +kernel
theorem dL_polyphase_69 : decode cL_polyphase 69 = .ok (.iaload, 1) := by decide +kernel
theorem dL_polyphase_70 : decode cL_polyphase 70 = .ok (.iadd, 1) := by decide +kernel
theorem dL_polyphase_71 : decode cL_polyphase 71 = .ok (.istore 4, 2) := by decide +kernel
theorem dL_polyphase_73 : decode cL_polyphase 73 = .ok (.iinc 6 1, 3) := by decide +kernel
theorem dL_polyphase_76 : decode cL_polyphase 76 = .ok (.goto (-43), 3) := by decide +kernel
theorem dL_polyphase_49 : decode cL_polyphase 49 = .ok (.if_icmp .ge 12, 3) := by decide +kernel
theorem dL_polyphase_61 : decode cL_polyphase 61 = .ok (.iconst 0, 1) := by decide +kernel
theorem dL_polyphase_52 : decode cL_polyphase 52 = .ok (.aload_n 3, 1) := by decide +kernel
theorem dL_polyphase_53 : decode cL_polyphase 53 = .ok (.iload 6, 2) := by decide +kernel
theorem dL_polyphase_55 : decode cL_polyphase 55 = .ok (.iconst 1, 1) := by decide +kernel
theorem dL_polyphase_56 : decode cL_polyphase 56 = .ok (.iadd, 1) := by decide +kernel
theorem dL_polyphase_57 : decode cL_polyphase 57 = .ok (.iaload, 1) := by decide +kernel
theorem dL_polyphase_58 : decode cL_polyphase 58 = .ok (.goto 4, 3) := by decide +kernel

set_option maxHeartbeats 8000000 in
set_option maxRecDepth 100000 in
theorem c_L_polyphase (l : Launch) (hlf : l.stackTraces = false) (dC : Nat → ClassId) (dI : Nat → Nat → Nat) (g : Nat → ClassId) (a_lengths n_lengths : Nat) (lengths : Nat → Int32) (ways : Int32) (Q : Nat → (Nat → Int32) → Prop) (hw : wp_L_polyphase n_lengths lengths ways Q) (sz : Nat) : Met l yL_polyphase wqL_polyphase ({ frames := 0, cells := 33, slots := 6016, locals := 0 }) (va_Pc [.ref a_lengths, .int ways] (PG (dC, dI) g [(a_lengths, .inl (g 0, n_lengths, .inl lengths))] sz)) (va_Qq (fun (r : Option Nat) (u : Nat × Nat × (Nat → Int32) × Unit) => r = some u.1 ∧ (Q u.2.1 u.2.2.1)) (fun (u : Nat × Nat × (Nat → Int32) × Unit) t9 => va_P (dC, dI) vwCl [(a_lengths, .inl (g 0, n_lengths, .inl lengths)), (u.1, .inl (g 0, u.2.1, .inl u.2.2.1))] t9.heap ∧ va_D (va_A [(a_lengths, .inl (g 0, n_lengths, .inl lengths))] sz) [(a_lengths, .inl (g 0, n_lengths, .inl lengths)), (u.1, .inl (g 0, u.2.1, .inl u.2.2.1))]) (va_A [(a_lengths, .inl (g 0, n_lengths, .inl lengths))] sz)) 33 6016 (va_A [(a_lengths, .inl (g 0, n_lengths, .inl lengths))] sz) := by
  refine Met.ofW (cc := cL_polyphase) (maxL := 12) (ret := (some (.array .int))) (by decide) rfl ?_
  intro p e s m args below meth c s₁ B hml hv
  obtain ⟨rfl, hsz, hP, hK, hD0, hG⟩ := hv
  have hx := B.exec
  have hb := B.bytes
  have hr := B.returns
  have hts := atoms_spec (ws := wqL_polyphase) B.pre
  have hown : s.vm.findClass RL = some m.cls := findClass_of_methodNamed B.named
  have hlocks := B.notSynchronized
  subst hsz
  have hD := hD0.self (sz := s.heap.size)
  generalize hAe : va_A [(a_lengths, .inl (g 0, n_lengths, .inl lengths))] s.heap.size = A at hD hG ⊢
  have hA : ∀ q : Nat, s.heap.size ≤ q → A q := fun q h => by rw [← hAe]; exact Or.inr h
  have hS : va_S A s.heap s.heap [] := va_S.rf
  have hrc : (headSpec wqL_polyphase ({ frames := 0, cells := 33, slots := 6016, locals := 0 })).room.cells = 33 := rfl
  have hrs : (headSpec wqL_polyphase ({ frames := 0, cells := 33, slots := 6016, locals := 0 })).room.slots = 6016 := rfl
  have hl := lv_entry ([.ref a_lengths, .int ways]) (n := 12) (Nat.le_of_ble_eq_true rfl)
  rw [lg_entry_eq]
  generalize (lg_sl ([.ref a_lengths, .int ways]) ++ List.replicate (12 - (lg_sl ([.ref a_lengths, .int ways])).length) Slot.unset).toArray = ls at hl ⊢
  have hl : lv_has ls 12 [(0, .ref a_lengths), (1, .int ways)] := hl
  unfold wp_L_polyphase at hw
  have hnaint := hts (Cond.arrayClass .int) (aw_l aw_1_57)
  have hcl159 := hts (Cond.classLink RL 159 "[[I") (aw_l aw_6_1)
  have hna0 := hts (Cond.arrayClass .int) (aw_l aw_1_57)
  refine lv_iconst (v := 4) hx hb dL_polyphase_0 (by decide) ?_
  refine va_newa (atype := .int) (a0 := (4, .inl (fun _ => 0))) hx hb hnaint rfl hK hP hD hS hA (fun _ => rfl) (by decide) (N' := 4) (by decide) (Nat.le_of_ble_eq_true rfl) (by rw [hrc]; omega) (by rw [hrs]; omega) dL_polyphase_1 (fun a_q_1 cA_3 H_2 hK9 hP hD hS => ?_)
  obtain rfl : g 0 = cA_3 := K_one hK9 0 5 rfl rfl
  obtain ⟨hP, hD⟩ := seg_join [[(a_lengths, .inl (g 0, n_lengths, .inl lengths))]] [[(a_q_1, .inl (g 0, 4, .inl (fun _ => 0)))]] [[(a_lengths, .inl (g 0, n_lengths, .inl lengths))], [(a_q_1, .inl (g 0, 4, .inl (fun _ => 0)))]] 2 [0, 1] rfl rfl (by decide) hP hD
  have hP : va_P (dC, dI) vwCl [(a_lengths, .inl (g 0, n_lengths, .inl lengths)), (a_q_1, .inl (g 0, 4, .inl (fun _ => 0)))] H_2 := hP
  have hD : va_D A [(a_lengths, .inl (g 0, n_lengths, .inl lengths)), (a_q_1, .inl (g 0, 4, .inl (fun _ => 0)))] := hD
  refine W.widen (k := 1) (n := 4) (by omega) (by omega) ?_
  refine lv_astore_n (lv' := [(2, .ref a_q_1), (0, .ref a_lengths), (1, .int ways)]) hx hb dL_polyphase_3 rfl hl (by decide) rfl (fun ls hl => ?_)
  refine lv_iload_n hx hb dL_polyphase_4 rfl (lv_at hl 2 rfl) ?_
  obtain ⟨n_7, en_7, ln_7, hw⟩ := hw
  refine va_newa (atype := .int) (a0 := (n_7, .inl (fun _ => 0))) hx hb hnaint rfl hK hP hD hS hA (fun _ => rfl) (by rw [en_7]; exact nI_pos (by omega)) (N' := n_7) (by rw [en_7]; exact nI_clamp (by omega)) (show n_7 * 4 ≤ 536870912 by omega) (by rw [hrc]; omega) (by rw [hrs]; omega) dL_polyphase_5 (fun a_q_4 cA_6 H_5 hK9 hP hD hS => ?_)
  obtain rfl : g 0 = cA_6 := K_one hK9 0 5 rfl rfl
  obtain ⟨hP, hD⟩ := seg_join [[(a_lengths, .inl (g 0, n_lengths, .inl lengths))], [(a_q_1, .inl (g 0, 4, .inl (fun _ => 0)))]] [[(a_q_4, .inl (g 0, n_7, .inl (fun _ => 0)))]] [[(a_lengths, .inl (g 0, n_lengths, .inl lengths))], [(a_q_1, .inl (g 0, 4, .inl (fun _ => 0)))], [(a_q_4, .inl (g 0, n_7, .inl (fun _ => 0)))]] 3 [0, 1, 2] rfl rfl (by decide) hP hD
  have hP : va_P (dC, dI) vwCl [(a_lengths, .inl (g 0, n_lengths, .inl lengths)), (a_q_1, .inl (g 0, 4, .inl (fun _ => 0))), (a_q_4, .inl (g 0, n_7, .inl (fun _ => 0)))] H_5 := hP
  have hD : va_D A [(a_lengths, .inl (g 0, n_lengths, .inl lengths)), (a_q_1, .inl (g 0, 4, .inl (fun _ => 0))), (a_q_4, .inl (g 0, n_7, .inl (fun _ => 0)))] := hD
  refine W.widen (k := 2) (n := 10) (by omega) (by omega) ?_
  refine lv_astore_n (lv' := [(3, .ref a_q_4), (2, .ref a_q_1), (0, .ref a_lengths), (1, .int ways)]) hx hb dL_polyphase_7 rfl hl (by decide) rfl (fun ls hl => ?_)
  refine lv_aload_n hx hb dL_polyphase_8 rfl (lv_at hl 0 rfl) ?_
  refine lv_iconst (v := 0) hx hb dL_polyphase_9 (by decide) ?_
  refine lv_iconst (v := 1) hx hb dL_polyphase_10 (by decide) ?_
  refine va_iast hx hb hK hP hD hS 2 0 rfl rfl hw.1 dL_polyphase_11 (fun H_8 L_9 hP hD hS => ?_)
  have hw := hw.2
  have hP : va_P (dC, dI) vwCl [(a_lengths, .inl (g 0, n_lengths, .inl lengths)), (a_q_1, .inl (g 0, 4, .inl (fun _ => 0))), (a_q_4, .inl (g 0, n_7, .inl (upd (fun _ => 0) (0 : Int32).toNatClampNeg 1)))] H_8 := hP
  have hD : va_D A [(a_lengths, .inl (g 0, n_lengths, .inl lengths)), (a_q_1, .inl (g 0, 4, .inl (fun _ => 0))), (a_q_4, .inl (g 0, n_7, .inl (upd (fun _ => 0) (0 : Int32).toNatClampNeg 1)))] := hD
  refine lv_iconst (v := 1) hx hb dL_polyphase_12 (by decide) ?_
  refine lv_istore (lv' := [(4, .int 1), (3, .ref a_q_4), (2, .ref a_q_1), (0, .ref a_lengths), (1, .int ways)]) hx hb dL_polyphase_13 hl (by decide) rfl (fun ls hl => ?_)
  refine W_abs (fun QM hQM => ?_)
  have EX15_89 : ∀ (v4_13 : Int32) (q1_14 : Nat → Int32) (q5_15 : Nat → Int32) (H : Heap) (locs : List Loc), (wx_L_polyphase_15_89 n_lengths lengths ways Q n_7) v4_13 q1_14 q5_15 → va_P (dC, dI) vwCl [(a_lengths, .inl (g 0, n_lengths, .inl lengths)), (a_q_1, .inl (g 0, 4, .inl q1_14)), (a_q_4, .inl (g 0, n_7, .inl q5_15))] H → va_D A [(a_lengths, .inl (g 0, n_lengths, .inl lengths)), (a_q_1, .inl (g 0, 4, .inl q1_14)), (a_q_4, .inl (g 0, n_7, .inl q5_15))] → va_S A s.heap H locs → ∀ (ls : Array Slot), lv_has ls 12 [(0, .ref a_lengths), (1, .int ways), (2, .ref a_q_1), (3, .ref a_q_4), (4, .int v4_13)] → W p l e (headSpec wqL_polyphase ({ frames := 0, cells := 33, slots := 6016, locals := 0 })).room s m ([.ref a_lengths, .int ways] : List Value).toArray below meth c H locs 2 10 QM (F0 m 89 ls []) := by
    intro v4_13 q1_14 q5_15 H locs hw hP hD hS ls hl
    refine lv_iload_n hx hb dL_polyphase_89 rfl (lv_at hl 1 rfl) ?_
    refine lv_iload hx hb dL_polyphase_90 (lv_at hl 4 rfl) ?_
    obtain ⟨n_20, en_20, ln_20, hw⟩ := hw
    obtain ⟨n_21, en_21, ln_21, hw⟩ := hw
    have hP : va_P (dC, dI) vwCl ([(a_lengths, .inl (g 0, n_lengths, .inl lengths)), (a_q_1, .inl (g 0, 4, .inl q1_14)), (a_q_4, .inl (g 0, n_7, .inl q5_15))] ++ va_pl [] (fun _ => .inr (0, []))) H := by rw [show va_pl [] (fun _ => (.inr (0, []) : va_E)) = [] from rfl, List.append_nil]; exact hP
    have hD : va_D A ([(a_lengths, .inl (g 0, n_lengths, .inl lengths)), (a_q_1, .inl (g 0, 4, .inl q1_14)), (a_q_4, .inl (g 0, n_7, .inl q5_15))] ++ va_pl [] (fun _ => .inr (0, []))) := by rw [show va_pl [] (fun _ => (.inr (0, []) : va_E)) = [] from rfl, List.append_nil]; exact hD
    have hmu : n_20 * n_21 ≤ 6 * 200 := Nat.mul_le_mul ln_20 ln_21
    refine va_mna (ty := .int) (z := (n_21, .inl (fun _ => 0))) (cy := g 0) (N' := n_20) (K' := n_21) hx hb hown (by rw [show ("[" ++ (FieldType.array .int).toString) = "[[I" by decide +kernel]; exact hcl159) (ao_3 hG) hna0 ((hK.2 0 _ rfl).2) hK hP hD hS hA (by rw [en_20]; exact nI_pos (by omega)) (by rw [en_21]; exact nI_pos (by omega)) (by rw [en_20]; exact nI_clamp (by omega)) (by rw [en_21]; exact nI_clamp (by omega)) (by omega) (show n_21 * 4 ≤ 536870912 by omega) (by omega) rfl rfl (by rw [hrc]; omega) (by rw [hrs]; omega) (fun c9 => by rw [vp_cell_i]; show ({ cls := c9, slots := Array.replicate n_21 (.int 0), vm := .none } : Cell) = _; rw [arrV_new]) dL_polyphase_92 (fun a_q_16 rr_19 cA_18 H_17 hrj hrn hK9 hP hD hS => ?_)
    obtain rfl : g 3 = cA_18 := K_one hK9 3 5 rfl rfl
    rw [mna_rw] at hP hD
    rw [List.append_assoc] at hP hD
    obtain ⟨hP, hD⟩ := seg_join [[(a_lengths, .inl (g 0, n_lengths, .inl lengths))], [(a_q_1, .inl (g 0, 4, .inl q1_14))], [(a_q_4, .inl (g 0, n_7, .inl q5_15))]] [[(a_q_16, .inl (g 3, n_20, .inr (.inr (.inr (.inr (rowf n_20 rr_19))))))], RWs n_20 rr_19 (g 0) (fun _ => n_21) (fun _ _ => 0)] [[(a_lengths, .inl (g 0, n_lengths, .inl lengths))], [(a_q_1, .inl (g 0, 4, .inl q1_14))], [(a_q_4, .inl (g 0, n_7, .inl q5_15))], [(a_q_16, .inl (g 3, n_20, .inr (.inr (.inr (.inr (rowf n_20 rr_19))))))], RWs n_20 rr_19 (g 0) (fun _ => n_21) (fun _ _ => 0)] 5 [0, 1, 2, 3, 4] rfl rfl (by decide) hP hD
    have hP : va_P (dC, dI) vwCl ([(a_lengths, .inl (g 0, n_lengths, .inl lengths)), (a_q_1, .inl (g 0, 4, .inl q1_14)), (a_q_4, .inl (g 0, n_7, .inl q5_15)), (a_q_16, .inl (g 3, n_20, .inr (.inr (.inr (.inr (rowf n_20 rr_19))))))] ++ (RWs n_20 rr_19 (g 0) (fun _ => n_21) (fun _ _ => 0))) H_17 := hP
    have hD : va_D A ([(a_lengths, .inl (g 0, n_lengths, .inl lengths)), (a_q_1, .inl (g 0, 4, .inl q1_14)), (a_q_4, .inl (g 0, n_7, .inl q5_15)), (a_q_16, .inl (g 3, n_20, .inr (.inr (.inr (.inr (rowf n_20 rr_19))))))] ++ (RWs n_20 rr_19 (g 0) (fun _ => n_21) (fun _ _ => 0))) := hD
    refine W.widen (k := 9) (n := 1216) (by omega) (by omega) ?_
    refine lv_astore (lv' := [(5, .ref a_q_16), (0, .ref a_lengths), (1, .int ways), (2, .ref a_q_1), (3, .ref a_q_4), (4, .int v4_13)]) hx hb dL_polyphase_96 hl (by decide) rfl (fun ls hl => ?_)
    refine lv_iconst (v := 0) hx hb dL_polyphase_98 (by decide) ?_
    refine lv_istore (lv' := [(6, .int 0), (5, .ref a_q_16), (0, .ref a_lengths), (1, .int ways), (2, .ref a_q_1), (3, .ref a_q_4), (4, .int v4_13)]) hx hb dL_polyphase_99 hl (by decide) rfl (fun ls hl => ?_)
    refine lv_iconst (v := 0) hx hb dL_polyphase_101 (by decide) ?_
    refine lv_istore (lv' := [(7, .int 0), (6, .int 0), (5, .ref a_q_16), (0, .ref a_lengths), (1, .int ways), (2, .ref a_q_1), (3, .ref a_q_4), (4, .int v4_13)]) hx hb dL_polyphase_102 hl (by decide) rfl (fun ls hl => ?_)
    have EX104_160 : ∀ (rc_26 : Nat → Nat → Int32) (rr_27 : Nat → Nat) (H : Heap) (locs : List Loc), (wx_L_polyphase_104_160 ways Q n_7 v4_13 q1_14 q5_15 n_20 n_21) rc_26 → va_P (dC, dI) vwCl ([(a_lengths, .inl (g 0, n_lengths, .inl lengths)), (a_q_1, .inl (g 0, 4, .inl q1_14)), (a_q_4, .inl (g 0, n_7, .inl q5_15)), (a_q_16, .inl (g 3, n_20, .inr (.inr (.inr (.inr (rowf n_20 rr_27))))))] ++ (RWs n_20 rr_27 (g 0) (fun _ => n_21) rc_26)) H → va_D A ([(a_lengths, .inl (g 0, n_lengths, .inl lengths)), (a_q_1, .inl (g 0, 4, .inl q1_14)), (a_q_4, .inl (g 0, n_7, .inl q5_15)), (a_q_16, .inl (g 3, n_20, .inr (.inr (.inr (.inr (rowf n_20 rr_27))))))] ++ (RWs n_20 rr_27 (g 0) (fun _ => n_21) rc_26)) → va_S A s.heap H locs → ∀ (ls : Array Slot), lv_has ls 12 [(1, .int ways), (2, .ref a_q_1), (3, .ref a_q_4), (4, .int v4_13), (5, .ref a_q_16)] → W p l e (headSpec wqL_polyphase ({ frames := 0, cells := 33, slots := 6016, locals := 0 })).room s m ([.ref a_lengths, .int ways] : List Value).toArray below meth c H locs 9 1216 QM (F0 m 160 ls []) := by
      intro rc_26 rr_27 H locs hw hP hD hS ls hl
      refine lv_aload_n hx hb dL_polyphase_160 rfl (lv_at hl 1 rfl) ?_
      refine lv_iconst (v := 3) hx hb dL_polyphase_161 (by decide) ?_
      refine va_iald hx hb hK hP 1 0 rfl rfl (by unfold vp_in; decide) dL_polyphase_162 ?_
      refine lv_topi (fun x_28 ex_28 => ?_)
      have hw := hw x_28 ex_28
      refine lv_istore (lv' := [(7, .int x_28), (1, .int ways), (2, .ref a_q_1), (3, .ref a_q_4), (4, .int v4_13), (5, .ref a_q_16)]) hx hb dL_polyphase_163 hl (by decide) rfl (fun ls hl => ?_)
      have EX165_340 : ∀ (q1_34 : Nat → Int32) (rc_35 : Nat → Nat → Int32) (rr_36 : Nat → Nat) (H : Heap) (locs : List Loc), (wx_L_polyphase_165_340 Q) q1_34 rc_35 → va_P (dC, dI) vwCl ([(a_lengths, .inl (g 0, n_lengths, .inl lengths)), (a_q_1, .inl (g 0, 4, .inl q1_34))] ++ (RWs n_20 rr_36 (g 0) (fun _ => n_21) rc_35)) H → va_D A ([(a_lengths, .inl (g 0, n_lengths, .inl lengths)), (a_q_1, .inl (g 0, 4, .inl q1_34))] ++ (RWs n_20 rr_36 (g 0) (fun _ => n_21) rc_35)) → va_S A s.heap H locs → ∀ (ls : Array Slot), lv_has ls 12 [(2, .ref a_q_1)] → W p l e (headSpec wqL_polyphase ({ frames := 0, cells := 33, slots := 6016, locals := 0 })).room s m ([.ref a_lengths, .int ways] : List Value).toArray below meth c H locs 33 6016 QM (F0 m 340 ls []) := by
        intro q1_34 rc_35 rr_36 H locs hw hP hD hS ls hl
        refine lv_aload_n hx hb dL_polyphase_340 rfl (lv_at hl 0 rfl) ?_
        refine W.widen (k := 33) (n := 6016) (by omega) (by omega) ?_
        subst hQM
        obtain ⟨hP, hD⟩ := seg_sub (segs := [[(a_lengths, .inl (g 0, n_lengths, .inl lengths))], [(a_q_1, .inl (g 0, 4, .inl q1_34))], RWs n_20 rr_36 (g 0) (fun _ => n_21) rc_35]) [[(a_lengths, .inl (g 0, n_lengths, .inl lengths))], [(a_q_1, .inl (g 0, 4, .inl q1_34))]] [RWs n_20 rr_36 (g 0) (fun _ => n_21) rc_35] 3 [0, 1, 2] rfl rfl (by decide) hP hD
        exact W.aret (v := .ref a_q_1) hx hb hr (Or.inr ⟨_, rfl⟩) (Or.inr ⟨_, rfl⟩) (fun t ht hW => ⟨⟨some a_q_1, (a_q_1, 4, q1_34, ()), rfl, ⟨rfl, hw⟩, ⟨P_at ht hP, hD⟩⟩, hS.F ht⟩) hS.2.2 dL_polyphase_341
      have LOOP165 : ∀ (n165 : Nat), n165 ≤ 24 → ∀ (v7_29 : Int32) (q1_30 : Nat → Int32) (q5_31 : Nat → Int32) (rc_32 : Nat → Nat → Int32) (rr_33 : Nat → Nat) (H : Heap) (locs : List Loc), wl_L_polyphase_165 ways n_7 v4_13 n_20 n_21 (wx_L_polyphase_165_340 Q) n165 v7_29 q1_30 q5_31 rc_32 → va_P (dC, dI) vwCl ([(a_lengths, .inl (g 0, n_lengths, .inl lengths)), (a_q_1, .inl (g 0, 4, .inl q1_30)), (a_q_4, .inl (g 0, n_7, .inl q5_31)), (a_q_16, .inl (g 3, n_20, .inr (.inr (.inr (.inr (rowf n_20 rr_33))))))] ++ (RWs n_20 rr_33 (g 0) (fun _ => n_21) rc_32)) H → va_D A ([(a_lengths, .inl (g 0, n_lengths, .inl lengths)), (a_q_1, .inl (g 0, 4, .inl q1_30)), (a_q_4, .inl (g 0, n_7, .inl q5_31)), (a_q_16, .inl (g 3, n_20, .inr (.inr (.inr (.inr (rowf n_20 rr_33))))))] ++ (RWs n_20 rr_33 (g 0) (fun _ => n_21) rc_32)) → va_S A s.heap H locs → ∀ (ls : Array Slot), lv_has ls 12 [(1, .int ways), (2, .ref a_q_1), (3, .ref a_q_4), (4, .int v4_13), (5, .ref a_q_16), (7, .int v7_29)] → W p l e (headSpec wqL_polyphase ({ frames := 0, cells := 33, slots := 6016, locals := 0 })).room s m ([.ref a_lengths, .int ways] : List Value).toArray below meth c H locs (33 - n165 * 1) (6016 - n165 * 200) QM (F0 m 165 ls []) := by
        intro n165
        induction n165 with
        | zero =>
          intro hle_n165
          intro v7_29 q1_30 q5_31 rc_32 rr_33 H locs hw hP hD hS ls hl
          exact False.elim hw
        | succ n165 ih165 =>
          intro hle_n165
          have ih165 := ih165 (by omega)
          intro v7_29 q1_30 q5_31 rc_32 rr_33 H locs hw hP hD hS ls hl
          rw [wl_L_polyphase_165_s] at hw
          obtain ⟨kb165, hkb165⟩ : ∃ x : Nat, x = 33 - (n165 + 1) * 1 := ⟨_, rfl⟩
          obtain ⟨nb165, hnb165⟩ : ∃ x : Nat, x = 6016 - (n165 + 1) * 200 := ⟨_, rfl⟩
          refine W.widen (k := kb165) (n := nb165) (by omega) (by omega) ?_
          refine lv_iload hx hb dL_polyphase_165 (lv_at hl 5 rfl) ?_
          refine lv_if_le (tgt := 340) hx hb dL_polyphase_167 (by decide) (fun c_37 => ?_) (fun c_37 => ?_)
          · have hw := hw.1 c_37
            obtain ⟨hP, hD⟩ := seg_sub (segs := [[(a_lengths, .inl (g 0, n_lengths, .inl lengths))], [(a_q_1, .inl (g 0, 4, .inl q1_30))], [(a_q_4, .inl (g 0, n_7, .inl q5_31))], [(a_q_16, .inl (g 3, n_20, .inr (.inr (.inr (.inr (rowf n_20 rr_33))))))], RWs n_20 rr_33 (g 0) (fun _ => n_21) rc_32]) [[(a_lengths, .inl (g 0, n_lengths, .inl lengths))], [(a_q_1, .inl (g 0, 4, .inl q1_30))], RWs n_20 rr_33 (g 0) (fun _ => n_21) rc_32] [[(a_q_4, .inl (g 0, n_7, .inl q5_31))], [(a_q_16, .inl (g 3, n_20, .inr (.inr (.inr (.inr (rowf n_20 rr_33))))))]] 5 [0, 1, 4, 2, 3] rfl rfl (by decide) hP hD
            refine W.widen (k := 33) (n := 6016) (by omega) (by omega) ?_
            exact EX165_340 q1_30 rc_32 rr_33 _ _ hw hP hD hS _ (lv_sub hl [1] rfl)
          · have hw := hw.2 c_37
            refine lv_aload_n hx hb dL_polyphase_170 rfl (lv_at hl 2 rfl) ?_
            refine lv_iload_n hx hb dL_polyphase_171 rfl (lv_at hl 0 rfl) ?_
            refine lv_iconst (v := 1) hx hb dL_polyphase_172 (by decide) ?_
            refine lv_isub hx hb dL_polyphase_173 ?_
            refine lv_topi (fun x_38 ex_38 => ?_)
            have hw := hw x_38 ex_38
            refine va_iald hx hb hK hP 2 0 rfl rfl hw.1 dL_polyphase_174 ?_
            have hw := hw.2
            refine lv_topi (fun x_39 ex_39 => ?_)
            have hw := hw x_39 ex_39
            refine lv_istore (lv' := [(8, .int x_39), (1, .int ways), (2, .ref a_q_1), (3, .ref a_q_4), (4, .int v4_13), (5, .ref a_q_16), (7, .int v7_29)]) hx hb dL_polyphase_175 hl (by decide) rfl (fun ls hl => ?_)
            refine lv_iload hx hb dL_polyphase_177 (lv_at hl 4 rfl) ?_
            obtain ⟨n_43, en_43, ln_43, hw⟩ := hw
            refine va_newa (atype := .int) (a0 := (n_43, .inl (fun _ => 0))) hx hb hnaint rfl hK hP hD hS hA (fun _ => rfl) (by rw [en_43]; exact nI_pos (by omega)) (N' := n_43) (by rw [en_43]; exact nI_clamp (by omega)) (show n_43 * 4 ≤ 536870912 by omega) (by rw [hrc]; omega) (by rw [hrs]; omega) dL_polyphase_179 (fun a_q_40 cA_42 H_41 hK9 hP hD hS => ?_)
            obtain rfl : g 0 = cA_42 := K_one hK9 0 5 rfl rfl
            obtain ⟨hP, hD⟩ := seg_join [[(a_lengths, .inl (g 0, n_lengths, .inl lengths))], [(a_q_1, .inl (g 0, 4, .inl q1_30))], [(a_q_4, .inl (g 0, n_7, .inl q5_31))], [(a_q_16, .inl (g 3, n_20, .inr (.inr (.inr (.inr (rowf n_20 rr_33))))))], RWs n_20 rr_33 (g 0) (fun _ => n_21) rc_32] [[(a_q_40, .inl (g 0, n_43, .inl (fun _ => 0)))]] [[(a_lengths, .inl (g 0, n_lengths, .inl lengths))], [(a_q_1, .inl (g 0, 4, .inl q1_30))], [(a_q_4, .inl (g 0, n_7, .inl q5_31))], [(a_q_16, .inl (g 3, n_20, .inr (.inr (.inr (.inr (rowf n_20 rr_33))))))], [(a_q_40, .inl (g 0, n_43, .inl (fun _ => 0)))], RWs n_20 rr_33 (g 0) (fun _ => n_21) rc_32] 6 [0, 1, 2, 3, 5, 4] rfl rfl (by decide) hP hD
            have hP : va_P (dC, dI) vwCl ([(a_lengths, .inl (g 0, n_lengths, .inl lengths)), (a_q_1, .inl (g 0, 4, .inl q1_30)), (a_q_4, .inl (g 0, n_7, .inl q5_31)), (a_q_16, .inl (g 3, n_20, .inr (.inr (.inr (.inr (rowf n_20 rr_33)))))), (a_q_40, .inl (g 0, n_43, .inl (fun _ => 0)))] ++ (RWs n_20 rr_33 (g 0) (fun _ => n_21) rc_32)) H_41 := hP
            have hD : va_D A ([(a_lengths, .inl (g 0, n_lengths, .inl lengths)), (a_q_1, .inl (g 0, 4, .inl q1_30)), (a_q_4, .inl (g 0, n_7, .inl q5_31)), (a_q_16, .inl (g 3, n_20, .inr (.inr (.inr (.inr (rowf n_20 rr_33)))))), (a_q_40, .inl (g 0, n_43, .inl (fun _ => 0)))] ++ (RWs n_20 rr_33 (g 0) (fun _ => n_21) rc_32)) := hD
            refine W.widen (k := (kb165 + 1)) (n := (nb165 + 200)) (by omega) (by omega) ?_
            refine lv_astore (lv' := [(9, .ref a_q_40), (8, .int x_39), (1, .int ways), (2, .ref a_q_1), (3, .ref a_q_4), (4, .int v4_13), (5, .ref a_q_16), (7, .int v7_29)]) hx hb dL_polyphase_181 hl (by decide) rfl (fun ls hl => ?_)
            refine lv_iconst (v := 0) hx hb dL_polyphase_183 (by decide) ?_
            refine lv_istore (lv' := [(10, .int 0), (9, .ref a_q_40), (8, .int x_39), (1, .int ways), (2, .ref a_q_1), (3, .ref a_q_4), (4, .int v4_13), (5, .ref a_q_16), (7, .int v7_29)]) hx hb dL_polyphase_184 hl (by decide) rfl (fun ls hl => ?_)
            have EX186_248 : ∀ (q1_47 : Nat → Int32) (q179_48 : Nat → Int32) (H : Heap) (locs : List Loc), (wx_L_polyphase_186_248 ways n_7 n_20 n_21 v7_29 q5_31 rc_32 (wl_L_polyphase_165 ways n_7 v4_13 n_20 n_21 (wx_L_polyphase_165_340 Q) n165) x_39 n_43) q1_47 q179_48 → va_P (dC, dI) vwCl ([(a_lengths, .inl (g 0, n_lengths, .inl lengths)), (a_q_1, .inl (g 0, 4, .inl q1_47)), (a_q_4, .inl (g 0, n_7, .inl q5_31)), (a_q_16, .inl (g 3, n_20, .inr (.inr (.inr (.inr (rowf n_20 rr_33)))))), (a_q_40, .inl (g 0, n_43, .inl q179_48))] ++ (RWs n_20 rr_33 (g 0) (fun _ => n_21) rc_32)) H → va_D A ([(a_lengths, .inl (g 0, n_lengths, .inl lengths)), (a_q_1, .inl (g 0, 4, .inl q1_47)), (a_q_4, .inl (g 0, n_7, .inl q5_31)), (a_q_16, .inl (g 3, n_20, .inr (.inr (.inr (.inr (rowf n_20 rr_33)))))), (a_q_40, .inl (g 0, n_43, .inl q179_48))] ++ (RWs n_20 rr_33 (g 0) (fun _ => n_21) rc_32)) → va_S A s.heap H locs → ∀ (ls : Array Slot), lv_has ls 12 [(1, .int ways), (2, .ref a_q_1), (3, .ref a_q_4), (4, .int v4_13), (5, .ref a_q_16), (7, .int v7_29), (8, .int x_39), (9, .ref a_q_40)] → W p l e (headSpec wqL_polyphase ({ frames := 0, cells := 33, slots := 6016, locals := 0 })).room s m ([.ref a_lengths, .int ways] : List Value).toArray below meth c H locs (kb165 + 1) (nb165 + 200) QM (F0 m 248 ls []) := by
              intro q1_47 q179_48 H locs hw hP hD hS ls hl
              refine lv_iload_n hx hb dL_polyphase_248 rfl (lv_at hl 0 rfl) ?_
              refine lv_iconst (v := 1) hx hb dL_polyphase_249 (by decide) ?_
              refine lv_isub hx hb dL_polyphase_250 ?_
              refine lv_topi (fun x_49 ex_49 => ?_)
              have hw := hw x_49 ex_49
              refine lv_istore (lv' := [(10, .int x_49), (1, .int ways), (2, .ref a_q_1), (3, .ref a_q_4), (4, .int v4_13), (5, .ref a_q_16), (7, .int v7_29), (8, .int x_39), (9, .ref a_q_40)]) hx hb dL_polyphase_251 hl (by decide) rfl (fun ls hl => ?_)
              have EX253_316 : ∀ (q5_54 : Nat → Int32) (rc_55 : Nat → Nat → Int32) (rr_56 : Nat → Nat) (H : Heap) (locs : List Loc), (wx_L_polyphase_253_316 n_7 n_20 n_21 v7_29 (wl_L_polyphase_165 ways n_7 v4_13 n_20 n_21 (wx_L_polyphase_165_340 Q) n165) x_39 n_43 q1_47 q179_48) q5_54 rc_55 → va_P (dC, dI) vwCl ([(a_lengths, .inl (g 0, n_lengths, .inl lengths)), (a_q_1, .inl (g 0, 4, .inl q1_47)), (a_q_4, .inl (g 0, n_7, .inl q5_54)), (a_q_16, .inl (g 3, n_20, .inr (.inr (.inr (.inr (rowf n_20 rr_56)))))), (a_q_40, .inl (g 0, n_43, .inl q179_48))] ++ (RWs n_20 rr_56 (g 0) (fun _ => n_21) rc_55)) H → va_D A ([(a_lengths, .inl (g 0, n_lengths, .inl lengths)), (a_q_1, .inl (g 0, 4, .inl q1_47)), (a_q_4, .inl (g 0, n_7, .inl q5_54)), (a_q_16, .inl (g 3, n_20, .inr (.inr (.inr (.inr (rowf n_20 rr_56)))))), (a_q_40, .inl (g 0, n_43, .inl q179_48))] ++ (RWs n_20 rr_56 (g 0) (fun _ => n_21) rc_55)) → va_S A s.heap H locs → ∀ (ls : Array Slot), lv_has ls 12 [(1, .int ways), (2, .ref a_q_1), (3, .ref a_q_4), (4, .int v4_13), (5, .ref a_q_16), (7, .int v7_29), (8, .int x_39), (9, .ref a_q_40)] → W p l e (headSpec wqL_polyphase ({ frames := 0, cells := 33, slots := 6016, locals := 0 })).room s m ([.ref a_lengths, .int ways] : List Value).toArray below meth c H locs (kb165 + 1) (nb165 + 200) QM (F0 m 316 ls []) := by
                intro q5_54 rc_55 rr_56 H locs hw hP hD hS ls hl
                refine lv_aload_n hx hb dL_polyphase_316 rfl (lv_at hl 2 rfl) ?_
                refine lv_iconst (v := 0) hx hb dL_polyphase_317 (by decide) ?_
                refine lv_iload hx hb dL_polyphase_318 (lv_at hl 6 rfl) ?_
                refine va_iast hx hb hK hP hD hS 2 0 rfl rfl hw.1 dL_polyphase_320 (fun H_57 L_58 hP hD hS => ?_)
                have hw := hw.2
                have hP : va_P (dC, dI) vwCl ([(a_lengths, .inl (g 0, n_lengths, .inl lengths)), (a_q_1, .inl (g 0, 4, .inl q1_47)), (a_q_4, .inl (g 0, n_7, .inl (upd q5_54 (0 : Int32).toNatClampNeg x_39))), (a_q_16, .inl (g 3, n_20, .inr (.inr (.inr (.inr (rowf n_20 rr_56)))))), (a_q_40, .inl (g 0, n_43, .inl q179_48))] ++ (RWs n_20 rr_56 (g 0) (fun _ => n_21) rc_55)) H_57 := hP
                have hD : va_D A ([(a_lengths, .inl (g 0, n_lengths, .inl lengths)), (a_q_1, .inl (g 0, 4, .inl q1_47)), (a_q_4, .inl (g 0, n_7, .inl (upd q5_54 (0 : Int32).toNatClampNeg x_39))), (a_q_16, .inl (g 3, n_20, .inr (.inr (.inr (.inr (rowf n_20 rr_56)))))), (a_q_40, .inl (g 0, n_43, .inl q179_48))] ++ (RWs n_20 rr_56 (g 0) (fun _ => n_21) rc_55)) := hD
                refine lv_aload hx hb dL_polyphase_321 (lv_at hl 4 rfl) ?_
                refine lv_iconst (v := 0) hx hb dL_polyphase_323 (by decide) ?_
                refine lv_aload hx hb dL_polyphase_324 (lv_at hl 7 rfl) ?_
                obtain ⟨hi_61, hm_62, hw⟩ := hw
                refine va_astA hx hb hK (ao_3 hG) hP hD hS 3 4 rfl rfl hi_61 dL_polyphase_326 (fun H_59 L_60 hP hD hS => ?_)
                have hP : va_P (dC, dI) vwCl ([(a_lengths, .inl (g 0, n_lengths, .inl lengths)), (a_q_1, .inl (g 0, 4, .inl q1_47)), (a_q_4, .inl (g 0, n_7, .inl (upd q5_54 (0 : Int32).toNatClampNeg x_39))), (a_q_16, .inl (g 3, n_20, .inr (.inr (.inr (.inr (va_up (rowf n_20 rr_56) ((0 : Int32).toNatClampNeg) (some a_q_40))))))), (a_q_40, .inl (g 0, n_43, .inl q179_48))] ++ (RWs n_20 rr_56 (g 0) (fun _ => n_21) rc_55)) H_59 := hP
                have hD : va_D A ([(a_lengths, .inl (g 0, n_lengths, .inl lengths)), (a_q_1, .inl (g 0, 4, .inl q1_47)), (a_q_4, .inl (g 0, n_7, .inl (upd q5_54 (0 : Int32).toNatClampNeg x_39))), (a_q_16, .inl (g 3, n_20, .inr (.inr (.inr (.inr (va_up (rowf n_20 rr_56) ((0 : Int32).toNatClampNeg) (some a_q_40))))))), (a_q_40, .inl (g 0, n_43, .inl q179_48))] ++ (RWs n_20 rr_56 (g 0) (fun _ => n_21) rc_55)) := hD
                rw [rowf_up hm_62.1] at hP hD
                obtain ⟨hPs, hDs⟩ := seg_call (segs := [[(a_lengths, .inl (g 0, n_lengths, .inl lengths))], [(a_q_1, .inl (g 0, 4, .inl q1_47))], [(a_q_4, .inl (g 0, n_7, .inl (upd q5_54 (0 : Int32).toNatClampNeg x_39)))], [(a_q_16, .inl (g 3, n_20, .inr (.inr (.inr (.inr (rowf n_20 (va_up rr_56 ((0 : Int32).toNatClampNeg) a_q_40)))))))], [(a_q_40, .inl (g 0, n_43, .inl q179_48))], RWs n_20 rr_56 (g 0) (fun _ => n_21) rc_55]) [[(a_lengths, .inl (g 0, n_lengths, .inl lengths))], [(a_q_1, .inl (g 0, 4, .inl q1_47))], [(a_q_4, .inl (g 0, n_7, .inl (upd q5_54 (0 : Int32).toNatClampNeg x_39)))], [(a_q_16, .inl (g 3, n_20, .inr (.inr (.inr (.inr (rowf n_20 (va_up rr_56 ((0 : Int32).toNatClampNeg) a_q_40)))))))]] [[(a_q_40, .inl (g 0, n_43, .inl q179_48))], RWs n_20 rr_56 (g 0) (fun _ => n_21) rc_55] 6 [0, 1, 2, 3, 4, 5] rfl rfl (by decide) hP hD
                rw [hm_62.2] at hPs hDs
                have hPs := P_perm (List.Perm.append_left _ (RW_swap (m := n_20) (j := (0 : Int32).toNatClampNeg) (a := a_q_40) (r := rr_56) (ln := (fun _ => n_21)) (c0 := g 0) (c := rc_55) (f := q179_48) hm_62.1)) hPs
                have hDs := D_perm (List.Perm.append_left _ (RW_swap (m := n_20) (j := (0 : Int32).toNatClampNeg) (a := a_q_40) (r := rr_56) (ln := (fun _ => n_21)) (c0 := g 0) (c := rc_55) (f := q179_48) hm_62.1)) hDs
                obtain ⟨hP, hD⟩ := seg_join [[(a_lengths, .inl (g 0, n_lengths, .inl lengths))], [(a_q_1, .inl (g 0, 4, .inl q1_47))], [(a_q_4, .inl (g 0, n_7, .inl (upd q5_54 (0 : Int32).toNatClampNeg x_39)))], [(a_q_16, .inl (g 3, n_20, .inr (.inr (.inr (.inr (rowf n_20 (va_up rr_56 ((0 : Int32).toNatClampNeg) a_q_40)))))))]] [[(rr_56 ((0 : Int32).toNatClampNeg), .inl (g 0, (fun _ => n_21) ((0 : Int32).toNatClampNeg), .inl (rc_55 ((0 : Int32).toNatClampNeg))))], RWs n_20 (va_up rr_56 ((0 : Int32).toNatClampNeg) a_q_40) (g 0) (fun _ => n_21) (va_up rc_55 ((0 : Int32).toNatClampNeg) q179_48)] [[(rr_56 ((0 : Int32).toNatClampNeg), .inl (g 0, (fun _ => n_21) ((0 : Int32).toNatClampNeg), .inl (rc_55 ((0 : Int32).toNatClampNeg))))], [(a_lengths, .inl (g 0, n_lengths, .inl lengths))], [(a_q_1, .inl (g 0, 4, .inl q1_47))], [(a_q_4, .inl (g 0, n_7, .inl (upd q5_54 (0 : Int32).toNatClampNeg x_39)))], [(a_q_16, .inl (g 3, n_20, .inr (.inr (.inr (.inr (rowf n_20 (va_up rr_56 ((0 : Int32).toNatClampNeg) a_q_40)))))))], RWs n_20 (va_up rr_56 ((0 : Int32).toNatClampNeg) a_q_40) (g 0) (fun _ => n_21) (va_up rc_55 ((0 : Int32).toNatClampNeg) q179_48)] 6 [4, 0, 1, 2, 3, 5] rfl rfl (by decide) hPs hDs
                have hP := P_r (W1 := [(rr_56 ((0 : Int32).toNatClampNeg), .inl (g 0, (fun _ => n_21) ((0 : Int32).toNatClampNeg), .inl (rc_55 ((0 : Int32).toNatClampNeg))))]) (W2 := ([(a_lengths, .inl (g 0, n_lengths, .inl lengths)), (a_q_1, .inl (g 0, 4, .inl q1_47)), (a_q_4, .inl (g 0, n_7, .inl (upd q5_54 (0 : Int32).toNatClampNeg x_39))), (a_q_16, .inl (g 3, n_20, .inr (.inr (.inr (.inr (rowf n_20 (va_up rr_56 ((0 : Int32).toNatClampNeg) a_q_40)))))))] ++ (RWs n_20 (va_up rr_56 ((0 : Int32).toNatClampNeg) a_q_40) (g 0) (fun _ => n_21) (va_up rc_55 ((0 : Int32).toNatClampNeg) q179_48)))) hP
                have hD := D_r (W1 := [(rr_56 ((0 : Int32).toNatClampNeg), .inl (g 0, (fun _ => n_21) ((0 : Int32).toNatClampNeg), .inl (rc_55 ((0 : Int32).toNatClampNeg))))]) (W2 := ([(a_lengths, .inl (g 0, n_lengths, .inl lengths)), (a_q_1, .inl (g 0, 4, .inl q1_47)), (a_q_4, .inl (g 0, n_7, .inl (upd q5_54 (0 : Int32).toNatClampNeg x_39))), (a_q_16, .inl (g 3, n_20, .inr (.inr (.inr (.inr (rowf n_20 (va_up rr_56 ((0 : Int32).toNatClampNeg) a_q_40)))))))] ++ (RWs n_20 (va_up rr_56 ((0 : Int32).toNatClampNeg) a_q_40) (g 0) (fun _ => n_21) (va_up rc_55 ((0 : Int32).toNatClampNeg) q179_48)))) hD
                have hP : va_P (dC, dI) vwCl ([(a_lengths, .inl (g 0, n_lengths, .inl lengths)), (a_q_1, .inl (g 0, 4, .inl q1_47)), (a_q_4, .inl (g 0, n_7, .inl (upd q5_54 (0 : Int32).toNatClampNeg x_39))), (a_q_16, .inl (g 3, n_20, .inr (.inr (.inr (.inr (rowf n_20 (va_up rr_56 ((0 : Int32).toNatClampNeg) a_q_40)))))))] ++ (RWs n_20 (va_up rr_56 ((0 : Int32).toNatClampNeg) a_q_40) (g 0) (fun _ => n_21) (va_up rc_55 ((0 : Int32).toNatClampNeg) q179_48))) H_59 := hP
                have hD : va_D A ([(a_lengths, .inl (g 0, n_lengths, .inl lengths)), (a_q_1, .inl (g 0, 4, .inl q1_47)), (a_q_4, .inl (g 0, n_7, .inl (upd q5_54 (0 : Int32).toNatClampNeg x_39))), (a_q_16, .inl (g 3, n_20, .inr (.inr (.inr (.inr (rowf n_20 (va_up rr_56 ((0 : Int32).toNatClampNeg) a_q_40)))))))] ++ (RWs n_20 (va_up rr_56 ((0 : Int32).toNatClampNeg) a_q_40) (g 0) (fun _ => n_21) (va_up rc_55 ((0 : Int32).toNatClampNeg) q179_48))) := hD
                refine lv_aload_n hx hb dL_polyphase_327 rfl (lv_at hl 1 rfl) ?_
                refine lv_iconst (v := 0) hx hb dL_polyphase_328 (by decide) ?_
                refine lv_dup2_11 hx hb dL_polyphase_329 rfl rfl ?_
                refine va_iald hx hb hK hP 1 0 rfl rfl (by unfold vp_in; decide) dL_polyphase_330 ?_
                refine lv_topi (fun x_63 ex_63 => ?_)
                have hw := hw x_63 ex_63
                refine lv_iconst (v := 1) hx hb dL_polyphase_331 (by decide) ?_
                refine lv_iadd hx hb dL_polyphase_332 ?_
                refine lv_topi (fun x_64 ex_64 => ?_)
                have hw := hw x_64 ex_64
                refine va_iast hx hb hK hP hD hS 1 0 rfl rfl (by unfold vp_in; decide) dL_polyphase_333 (fun H_65 L_66 hP hD hS => ?_)
                have hP : va_P (dC, dI) vwCl ([(a_lengths, .inl (g 0, n_lengths, .inl lengths)), (a_q_1, .inl (g 0, 4, .inl (upd q1_47 (0 : Int32).toNatClampNeg x_64))), (a_q_4, .inl (g 0, n_7, .inl (upd q5_54 (0 : Int32).toNatClampNeg x_39))), (a_q_16, .inl (g 3, n_20, .inr (.inr (.inr (.inr (rowf n_20 (va_up rr_56 ((0 : Int32).toNatClampNeg) a_q_40)))))))] ++ (RWs n_20 (va_up rr_56 ((0 : Int32).toNatClampNeg) a_q_40) (g 0) (fun _ => n_21) (va_up rc_55 ((0 : Int32).toNatClampNeg) q179_48))) H_65 := hP
                have hD : va_D A ([(a_lengths, .inl (g 0, n_lengths, .inl lengths)), (a_q_1, .inl (g 0, 4, .inl (upd q1_47 (0 : Int32).toNatClampNeg x_64))), (a_q_4, .inl (g 0, n_7, .inl (upd q5_54 (0 : Int32).toNatClampNeg x_39))), (a_q_16, .inl (g 3, n_20, .inr (.inr (.inr (.inr (rowf n_20 (va_up rr_56 ((0 : Int32).toNatClampNeg) a_q_40)))))))] ++ (RWs n_20 (va_up rr_56 ((0 : Int32).toNatClampNeg) a_q_40) (g 0) (fun _ => n_21) (va_up rc_55 ((0 : Int32).toNatClampNeg) q179_48))) := hD
                obtain ⟨x_67, ex_67⟩ : ∃ y : Int32, y = v7_29 + (-1) := ⟨_, rfl⟩
                have hw := hw x_67 ex_67
                refine lv_iinc (v := x_67) (lv' := [(7, .int x_67), (1, .int ways), (2, .ref a_q_1), (3, .ref a_q_4), (4, .int v4_13), (5, .ref a_q_16), (8, .int x_39), (9, .ref a_q_40)]) hx hb dL_polyphase_334 hl (k := 5) rfl (by rw [ex_67]; rfl) (by decide) rfl (fun ls hl => ?_)
                refine lv_goto (tgt := 165) hx hb dL_polyphase_337 (by decide) ?_
                refine W.widen (k := (33 - n165 * 1)) (n := (6016 - n165 * 200)) (by omega) (by omega) ?_
                exact ih165 x_67 (upd q1_47 (0 : Int32).toNatClampNeg x_64) (upd q5_54 (0 : Int32).toNatClampNeg x_39) (va_up rc_55 ((0 : Int32).toNatClampNeg) q179_48) (va_up rr_56 ((0 : Int32).toNatClampNeg) a_q_40) _ _ hw hP hD hS _ (lv_sub hl [1, 2, 3, 4, 5, 0] rfl)
              have LOOP253 : ∀ (n253 : Nat) (v10_50 : Int32) (q5_51 : Nat → Int32) (rc_52 : Nat → Nat → Int32) (rr_53 : Nat → Nat) (H : Heap) (locs : List Loc), wl_L_polyphase_253 n_7 n_20 n_21 x_39 (wx_L_polyphase_253_316 n_7 n_20 n_21 v7_29 (wl_L_polyphase_165 ways n_7 v4_13 n_20 n_21 (wx_L_polyphase_165_340 Q) n165) x_39 n_43 q1_47 q179_48) n253 v10_50 q5_51 rc_52 → va_P (dC, dI) vwCl ([(a_lengths, .inl (g 0, n_lengths, .inl lengths)), (a_q_1, .inl (g 0, 4, .inl q1_47)), (a_q_4, .inl (g 0, n_7, .inl q5_51)), (a_q_16, .inl (g 3, n_20, .inr (.inr (.inr (.inr (rowf n_20 rr_53)))))), (a_q_40, .inl (g 0, n_43, .inl q179_48))] ++ (RWs n_20 rr_53 (g 0) (fun _ => n_21) rc_52)) H → va_D A ([(a_lengths, .inl (g 0, n_lengths, .inl lengths)), (a_q_1, .inl (g 0, 4, .inl q1_47)), (a_q_4, .inl (g 0, n_7, .inl q5_51)), (a_q_16, .inl (g 3, n_20, .inr (.inr (.inr (.inr (rowf n_20 rr_53)))))), (a_q_40, .inl (g 0, n_43, .inl q179_48))] ++ (RWs n_20 rr_53 (g 0) (fun _ => n_21) rc_52)) → va_S A s.heap H locs → ∀ (ls : Array Slot), lv_has ls 12 [(1, .int ways), (2, .ref a_q_1), (3, .ref a_q_4), (4, .int v4_13), (5, .ref a_q_16), (7, .int v7_29), (8, .int x_39), (9, .ref a_q_40), (10, .int v10_50)] → W p l e (headSpec wqL_polyphase ({ frames := 0, cells := 33, slots := 6016, locals := 0 })).room s m ([.ref a_lengths, .int ways] : List Value).toArray below meth c H locs (kb165 + 1) (nb165 + 200) QM (F0 m 253 ls []) := by
                intro n253
                induction n253 with
                | zero =>
                  intro v10_50 q5_51 rc_52 rr_53 H locs hw hP hD hS ls hl
                  exact False.elim hw
                | succ n253 ih253 =>
                  intro v10_50 q5_51 rc_52 rr_53 H locs hw hP hD hS ls hl
                  rw [wl_L_polyphase_253_s] at hw
                  refine lv_iload hx hb dL_polyphase_253 (lv_at hl 8 rfl) ?_
                  refine lv_if_le (tgt := 316) hx hb dL_polyphase_255 (by decide) (fun c_68 => ?_) (fun c_68 => ?_)
                  · have hw := hw.1 c_68
                    refine W.widen (k := (kb165 + 1)) (n := (nb165 + 200)) (by omega) (by omega) ?_
                    exact EX253_316 q5_51 rc_52 rr_53 _ _ hw hP hD hS _ (lv_sub hl [0, 1, 2, 3, 4, 5, 6, 7] rfl)
                  · have hw := hw.2 c_68
                    refine lv_aload_n hx hb dL_polyphase_258 rfl (lv_at hl 2 rfl) ?_
                    refine lv_iload hx hb dL_polyphase_259 (lv_at hl 8 rfl) ?_
                    refine lv_aload_n hx hb dL_polyphase_261 rfl (lv_at hl 2 rfl) ?_
                    refine lv_iload hx hb dL_polyphase_262 (lv_at hl 8 rfl) ?_
                    refine lv_iconst (v := 1) hx hb dL_polyphase_264 (by decide) ?_
                    refine lv_isub hx hb dL_polyphase_265 ?_
                    refine lv_topi (fun x_69 ex_69 => ?_)
                    have hw := hw x_69 ex_69
                    refine va_iald hx hb hK hP 2 0 rfl rfl hw.1 dL_polyphase_266 ?_
                    have hw := hw.2
                    refine lv_topi (fun x_70 ex_70 => ?_)
                    have hw := hw x_70 ex_70
                    refine lv_iload hx hb dL_polyphase_267 (lv_at hl 6 rfl) ?_
                    refine lv_isub hx hb dL_polyphase_269 ?_
                    refine lv_topi (fun x_71 ex_71 => ?_)
                    have hw := hw x_71 ex_71
                    refine va_iast hx hb hK hP hD hS 2 0 rfl rfl hw.1 dL_polyphase_270 (fun H_72 L_73 hP hD hS => ?_)
                    have hw := hw.2
                    have hP : va_P (dC, dI) vwCl ([(a_lengths, .inl (g 0, n_lengths, .inl lengths)), (a_q_1, .inl (g 0, 4, .inl q1_47)), (a_q_4, .inl (g 0, n_7, .inl (upd q5_51 v10_50.toNatClampNeg x_71))), (a_q_16, .inl (g 3, n_20, .inr (.inr (.inr (.inr (rowf n_20 rr_53)))))), (a_q_40, .inl (g 0, n_43, .inl q179_48))] ++ (RWs n_20 rr_53 (g 0) (fun _ => n_21) rc_52)) H_72 := hP
                    have hD : va_D A ([(a_lengths, .inl (g 0, n_lengths, .inl lengths)), (a_q_1, .inl (g 0, 4, .inl q1_47)), (a_q_4, .inl (g 0, n_7, .inl (upd q5_51 v10_50.toNatClampNeg x_71))), (a_q_16, .inl (g 3, n_20, .inr (.inr (.inr (.inr (rowf n_20 rr_53)))))), (a_q_40, .inl (g 0, n_43, .inl q179_48))] ++ (RWs n_20 rr_53 (g 0) (fun _ => n_21) rc_52)) := hD
                    refine lv_iconst (v := 0) hx hb dL_polyphase_271 (by decide) ?_
                    refine lv_istore (lv' := [(11, .int 0), (1, .int ways), (2, .ref a_q_1), (3, .ref a_q_4), (4, .int v4_13), (5, .ref a_q_16), (7, .int v7_29), (8, .int x_39), (9, .ref a_q_40), (10, .int v10_50)]) hx hb dL_polyphase_272 hl (by decide) rfl (fun ls hl => ?_)
                    have EX274_310 : ∀ (rc_77 : Nat → Nat → Int32) (rr_78 : Nat → Nat) (H : Heap) (locs : List Loc), (wx_L_polyphase_274_310 v10_50 q5_51 (wl_L_polyphase_253 n_7 n_20 n_21 x_39 (wx_L_polyphase_253_316 n_7 n_20 n_21 v7_29 (wl_L_polyphase_165 ways n_7 v4_13 n_20 n_21 (wx_L_polyphase_165_340 Q) n165) x_39 n_43 q1_47 q179_48) n253) x_71) rc_77 → va_P (dC, dI) vwCl ([(a_lengths, .inl (g 0, n_lengths, .inl lengths)), (a_q_1, .inl (g 0, 4, .inl q1_47)), (a_q_4, .inl (g 0, n_7, .inl (upd q5_51 v10_50.toNatClampNeg x_71))), (a_q_16, .inl (g 3, n_20, .inr (.inr (.inr (.inr (rowf n_20 rr_78)))))), (a_q_40, .inl (g 0, n_43, .inl q179_48))] ++ (RWs n_20 rr_78 (g 0) (fun _ => n_21) rc_77)) H → va_D A ([(a_lengths, .inl (g 0, n_lengths, .inl lengths)), (a_q_1, .inl (g 0, 4, .inl q1_47)), (a_q_4, .inl (g 0, n_7, .inl (upd q5_51 v10_50.toNatClampNeg x_71))), (a_q_16, .inl (g 3, n_20, .inr (.inr (.inr (.inr (rowf n_20 rr_78)))))), (a_q_40, .inl (g 0, n_43, .inl q179_48))] ++ (RWs n_20 rr_78 (g 0) (fun _ => n_21) rc_77)) → va_S A s.heap H locs → ∀ (ls : Array Slot), lv_has ls 12 [(1, .int ways), (2, .ref a_q_1), (3, .ref a_q_4), (4, .int v4_13), (5, .ref a_q_16), (7, .int v7_29), (8, .int x_39), (9, .ref a_q_40), (10, .int v10_50)] → W p l e (headSpec wqL_polyphase ({ frames := 0, cells := 33, slots := 6016, locals := 0 })).room s m ([.ref a_lengths, .int ways] : List Value).toArray below meth c H locs (kb165 + 1) (nb165 + 200) QM (F0 m 310 ls []) := by
                      intro rc_77 rr_78 H locs hw hP hD hS ls hl
                      obtain ⟨x_79, ex_79⟩ : ∃ y : Int32, y = v10_50 + (-1) := ⟨_, rfl⟩
                      have hw := hw x_79 ex_79
                      refine lv_iinc (v := x_79) (lv' := [(10, .int x_79), (1, .int ways), (2, .ref a_q_1), (3, .ref a_q_4), (4, .int v4_13), (5, .ref a_q_16), (7, .int v7_29), (8, .int x_39), (9, .ref a_q_40)]) hx hb dL_polyphase_310 hl (k := 8) rfl (by rw [ex_79]; rfl) (by decide) rfl (fun ls hl => ?_)
                      refine lv_goto (tgt := 253) hx hb dL_polyphase_313 (by decide) ?_
                      refine W.widen (k := (kb165 + 1)) (n := (nb165 + 200)) (by omega) (by omega) ?_
                      exact ih253 x_79 (upd q5_51 v10_50.toNatClampNeg x_71) rc_77 rr_78 _ _ hw hP hD hS _ (lv_sub hl [1, 2, 3, 4, 5, 6, 7, 8, 0] rfl)
                    have LOOP274 : ∀ (n274 : Nat) (v11_74 : Int32) (rc_75 : Nat → Nat → Int32) (rr_76 : Nat → Nat) (H : Heap) (locs : List Loc), wl_L_polyphase_274 n_7 n_20 n_21 x_39 v10_50 q5_51 x_71 (wx_L_polyphase_274_310 v10_50 q5_51 (wl_L_polyphase_253 n_7 n_20 n_21 x_39 (wx_L_polyphase_253_316 n_7 n_20 n_21 v7_29 (wl_L_polyphase_165 ways n_7 v4_13 n_20 n_21 (wx_L_polyphase_165_340 Q) n165) x_39 n_43 q1_47 q179_48) n253) x_71) n274 v11_74 rc_75 → va_P (dC, dI) vwCl ([(a_lengths, .inl (g 0, n_lengths, .inl lengths)), (a_q_1, .inl (g 0, 4, .inl q1_47)), (a_q_4, .inl (g 0, n_7, .inl (upd q5_51 v10_50.toNatClampNeg x_71))), (a_q_16, .inl (g 3, n_20, .inr (.inr (.inr (.inr (rowf n_20 rr_76)))))), (a_q_40, .inl (g 0, n_43, .inl q179_48))] ++ (RWs n_20 rr_76 (g 0) (fun _ => n_21) rc_75)) H → va_D A ([(a_lengths, .inl (g 0, n_lengths, .inl lengths)), (a_q_1, .inl (g 0, 4, .inl q1_47)), (a_q_4, .inl (g 0, n_7, .inl (upd q5_51 v10_50.toNatClampNeg x_71))), (a_q_16, .inl (g 3, n_20, .inr (.inr (.inr (.inr (rowf n_20 rr_76)))))), (a_q_40, .inl (g 0, n_43, .inl q179_48))] ++ (RWs n_20 rr_76 (g 0) (fun _ => n_21) rc_75)) → va_S A s.heap H locs → ∀ (ls : Array Slot), lv_has ls 12 [(1, .int ways), (2, .ref a_q_1), (3, .ref a_q_4), (4, .int v4_13), (5, .ref a_q_16), (7, .int v7_29), (8, .int x_39), (9, .ref a_q_40), (10, .int v10_50), (11, .int v11_74)] → W p l e (headSpec wqL_polyphase ({ frames := 0, cells := 33, slots := 6016, locals := 0 })).room s m ([.ref a_lengths, .int ways] : List Value).toArray below meth c H locs (kb165 + 1) (nb165 + 200) QM (F0 m 274 ls []) := by
                      intro n274
                      induction n274 with
                      | zero =>
                        intro v11_74 rc_75 rr_76 H locs hw hP hD hS ls hl
                        exact False.elim hw
                      | succ n274 ih274 =>
                        intro v11_74 rc_75 rr_76 H locs hw hP hD hS ls hl
                        rw [wl_L_polyphase_274_s] at hw
                        refine lv_iload hx hb dL_polyphase_274 (lv_at hl 9 rfl) ?_
                        refine lv_aload_n hx hb dL_polyphase_276 rfl (lv_at hl 2 rfl) ?_
                        refine lv_iload hx hb dL_polyphase_277 (lv_at hl 8 rfl) ?_
                        refine va_iald hx hb hK hP 2 0 rfl rfl hw.1 dL_polyphase_279 ?_
                        have hw := hw.2
                        refine lv_topi (fun x_80 ex_80 => ?_)
                        have hw := hw x_80 ex_80
                        refine lv_icmp_ge (tgt := 310) hx hb dL_polyphase_280 (by decide) (fun c_81 => ?_) (fun c_81 => ?_)
                        · have hw := hw.1 c_81
                          refine W.widen (k := (kb165 + 1)) (n := (nb165 + 200)) (by omega) (by omega) ?_
                          exact EX274_310 rc_75 rr_76 _ _ hw hP hD hS _ (lv_sub hl [0, 1, 2, 3, 4, 5, 6, 7, 8] rfl)
                        · have hw := hw.2 c_81
                          refine lv_aload hx hb dL_polyphase_283 (lv_at hl 4 rfl) ?_
                          refine lv_iload hx hb dL_polyphase_285 (lv_at hl 8 rfl) ?_
                          obtain ⟨hi_82, hj_83, hw⟩ := hw
                          refine va_aldA hx hb hK hP 3 rfl hi_82 dL_polyphase_287 ?_
                          refine W.eq (g2 := F0 m 288 ls (.ref (rr_76 v10_50.toNatClampNeg) :: [])) (by rw [rowf_at (vp_lt hj_83)]; rfl) ?_
                          refine lv_iload hx hb dL_polyphase_288 (lv_at hl 9 rfl) ?_
                          refine lv_aload hx hb dL_polyphase_290 (lv_at hl 4 rfl) ?_
                          refine lv_iload hx hb dL_polyphase_292 (lv_at hl 8 rfl) ?_
                          refine lv_iconst (v := 1) hx hb dL_polyphase_294 (by decide) ?_
                          refine lv_isub hx hb dL_polyphase_295 ?_
                          refine lv_topi (fun x_84 ex_84 => ?_)
                          have hw := hw x_84 ex_84
                          obtain ⟨hi_85, hj_86, hw⟩ := hw
                          refine va_aldA hx hb hK hP 3 rfl hi_85 dL_polyphase_296 ?_
                          refine W.eq (g2 := F0 m 297 ls (.ref (rr_76 x_84.toNatClampNeg) :: [.int v11_74, .ref (rr_76 v10_50.toNatClampNeg)])) (by rw [rowf_at (vp_lt hj_86)]; rfl) ?_
                          refine lv_iload hx hb dL_polyphase_297 (lv_at hl 9 rfl) ?_
                          refine lv_iload hx hb dL_polyphase_299 (lv_at hl 6 rfl) ?_
                          refine lv_iadd hx hb dL_polyphase_301 ?_
                          refine lv_topi (fun x_87 ex_87 => ?_)
                          have hw := hw x_87 ex_87
                          obtain ⟨hi_88, hw⟩ := hw
                          obtain ⟨k_89, hk_89⟩ := List.mem_iff_getElem?.mp (show _ ∈ ([(a_lengths, .inl (g 0, n_lengths, .inl lengths)), (a_q_1, .inl (g 0, 4, .inl q1_47)), (a_q_4, .inl (g 0, n_7, .inl (upd q5_51 v10_50.toNatClampNeg x_71))), (a_q_16, .inl (g 3, n_20, .inr (.inr (.inr (.inr (rowf n_20 rr_76)))))), (a_q_40, .inl (g 0, n_43, .inl q179_48))] ++ (RWs n_20 rr_76 (g 0) (fun _ => n_21) rc_75)) from (List.mem_append_right _ (RW_mem (vp_lt hj_86))))
                          refine va_iald hx hb hK hP k_89 0 hk_89 rfl hi_88 dL_polyphase_302 ?_
                          refine lv_topi (fun x_90 ex_90 => ?_)
                          have hw := hw x_90 ex_90
                          obtain ⟨hPs, hDs⟩ := seg_call (segs := [[(a_lengths, .inl (g 0, n_lengths, .inl lengths))], [(a_q_1, .inl (g 0, 4, .inl q1_47))], [(a_q_4, .inl (g 0, n_7, .inl (upd q5_51 v10_50.toNatClampNeg x_71)))], [(a_q_16, .inl (g 3, n_20, .inr (.inr (.inr (.inr (rowf n_20 rr_76))))))], [(a_q_40, .inl (g 0, n_43, .inl q179_48))], RWs n_20 rr_76 (g 0) (fun _ => n_21) rc_75]) [[(a_lengths, .inl (g 0, n_lengths, .inl lengths))], [(a_q_1, .inl (g 0, 4, .inl q1_47))], [(a_q_4, .inl (g 0, n_7, .inl (upd q5_51 v10_50.toNatClampNeg x_71)))], [(a_q_16, .inl (g 3, n_20, .inr (.inr (.inr (.inr (rowf n_20 rr_76))))))], [(a_q_40, .inl (g 0, n_43, .inl q179_48))]] [RWs n_20 rr_76 (g 0) (fun _ => n_21) rc_75] 6 [0, 1, 2, 3, 4, 5] rfl rfl (by decide) hP hD
                          have hPs := P_perm (List.Perm.append_left _ (RW_split (m := n_20) (j := v10_50.toNatClampNeg) (r := rr_76) (ln := (fun _ => n_21)) (c0 := g 0) (c := rc_75) (vp_lt hj_83))) hPs
                          have hDs := D_perm (List.Perm.append_left _ (RW_split (m := n_20) (j := v10_50.toNatClampNeg) (r := rr_76) (ln := (fun _ => n_21)) (c0 := g 0) (c := rc_75) (vp_lt hj_83))) hDs
                          obtain ⟨hP, hD⟩ := seg_join [[(a_lengths, .inl (g 0, n_lengths, .inl lengths))], [(a_q_1, .inl (g 0, 4, .inl q1_47))], [(a_q_4, .inl (g 0, n_7, .inl (upd q5_51 v10_50.toNatClampNeg x_71)))], [(a_q_16, .inl (g 3, n_20, .inr (.inr (.inr (.inr (rowf n_20 rr_76))))))], [(a_q_40, .inl (g 0, n_43, .inl q179_48))]] [[((rr_76 v10_50.toNatClampNeg), .inl (g 0, ((fun _ => n_21) v10_50.toNatClampNeg), .inl (rc_75 v10_50.toNatClampNeg)))], RWx n_20 v10_50.toNatClampNeg rr_76 (g 0) (fun _ => n_21) rc_75] [[(a_lengths, .inl (g 0, n_lengths, .inl lengths))], [(a_q_1, .inl (g 0, 4, .inl q1_47))], [(a_q_4, .inl (g 0, n_7, .inl (upd q5_51 v10_50.toNatClampNeg x_71)))], [(a_q_16, .inl (g 3, n_20, .inr (.inr (.inr (.inr (rowf n_20 rr_76))))))], [(a_q_40, .inl (g 0, n_43, .inl q179_48))], [((rr_76 v10_50.toNatClampNeg), .inl (g 0, ((fun _ => n_21) v10_50.toNatClampNeg), .inl (rc_75 v10_50.toNatClampNeg)))], RWx n_20 v10_50.toNatClampNeg rr_76 (g 0) (fun _ => n_21) rc_75] 7 [0, 1, 2, 3, 4, 5, 6] rfl rfl (by decide) hPs hDs
                          have hP : va_P (dC, dI) vwCl ([(a_lengths, .inl (g 0, n_lengths, .inl lengths)), (a_q_1, .inl (g 0, 4, .inl q1_47)), (a_q_4, .inl (g 0, n_7, .inl (upd q5_51 v10_50.toNatClampNeg x_71))), (a_q_16, .inl (g 3, n_20, .inr (.inr (.inr (.inr (rowf n_20 rr_76)))))), (a_q_40, .inl (g 0, n_43, .inl q179_48)), ((rr_76 v10_50.toNatClampNeg), .inl (g 0, ((fun _ => n_21) v10_50.toNatClampNeg), .inl (rc_75 v10_50.toNatClampNeg)))] ++ (RWx n_20 v10_50.toNatClampNeg rr_76 (g 0) (fun _ => n_21) rc_75)) H := hP
                          have hD : va_D A ([(a_lengths, .inl (g 0, n_lengths, .inl lengths)), (a_q_1, .inl (g 0, 4, .inl q1_47)), (a_q_4, .inl (g 0, n_7, .inl (upd q5_51 v10_50.toNatClampNeg x_71))), (a_q_16, .inl (g 3, n_20, .inr (.inr (.inr (.inr (rowf n_20 rr_76)))))), (a_q_40, .inl (g 0, n_43, .inl q179_48)), ((rr_76 v10_50.toNatClampNeg), .inl (g 0, ((fun _ => n_21) v10_50.toNatClampNeg), .inl (rc_75 v10_50.toNatClampNeg)))] ++ (RWx n_20 v10_50.toNatClampNeg rr_76 (g 0) (fun _ => n_21) rc_75)) := hD
                          refine va_iast hx hb hK hP hD hS 5 0 rfl rfl hw.1 dL_polyphase_303 (fun H_91 L_92 hP hD hS => ?_)
                          have hw := hw.2
                          have hP : va_P (dC, dI) vwCl ([(a_lengths, .inl (g 0, n_lengths, .inl lengths)), (a_q_1, .inl (g 0, 4, .inl q1_47)), (a_q_4, .inl (g 0, n_7, .inl (upd q5_51 v10_50.toNatClampNeg x_71))), (a_q_16, .inl (g 3, n_20, .inr (.inr (.inr (.inr (rowf n_20 rr_76)))))), (a_q_40, .inl (g 0, n_43, .inl q179_48)), ((rr_76 v10_50.toNatClampNeg), .inl (g 0, ((fun _ => n_21) v10_50.toNatClampNeg), .inl (upd (rc_75 v10_50.toNatClampNeg) v11_74.toNatClampNeg x_90)))] ++ (RWx n_20 v10_50.toNatClampNeg rr_76 (g 0) (fun _ => n_21) rc_75)) H_91 := hP
                          have hD : va_D A ([(a_lengths, .inl (g 0, n_lengths, .inl lengths)), (a_q_1, .inl (g 0, 4, .inl q1_47)), (a_q_4, .inl (g 0, n_7, .inl (upd q5_51 v10_50.toNatClampNeg x_71))), (a_q_16, .inl (g 3, n_20, .inr (.inr (.inr (.inr (rowf n_20 rr_76)))))), (a_q_40, .inl (g 0, n_43, .inl q179_48)), ((rr_76 v10_50.toNatClampNeg), .inl (g 0, ((fun _ => n_21) v10_50.toNatClampNeg), .inl (upd (rc_75 v10_50.toNatClampNeg) v11_74.toNatClampNeg x_90)))] ++ (RWx n_20 v10_50.toNatClampNeg rr_76 (g 0) (fun _ => n_21) rc_75)) := hD
                          obtain ⟨hPs, hDs⟩ := seg_call (segs := [[(a_lengths, .inl (g 0, n_lengths, .inl lengths))], [(a_q_1, .inl (g 0, 4, .inl q1_47))], [(a_q_4, .inl (g 0, n_7, .inl (upd q5_51 v10_50.toNatClampNeg x_71)))], [(a_q_16, .inl (g 3, n_20, .inr (.inr (.inr (.inr (rowf n_20 rr_76))))))], [(a_q_40, .inl (g 0, n_43, .inl q179_48))], [((rr_76 v10_50.toNatClampNeg), .inl (g 0, ((fun _ => n_21) v10_50.toNatClampNeg), .inl (upd (rc_75 v10_50.toNatClampNeg) v11_74.toNatClampNeg x_90)))], RWx n_20 v10_50.toNatClampNeg rr_76 (g 0) (fun _ => n_21) rc_75]) [[(a_lengths, .inl (g 0, n_lengths, .inl lengths))], [(a_q_1, .inl (g 0, 4, .inl q1_47))], [(a_q_4, .inl (g 0, n_7, .inl (upd q5_51 v10_50.toNatClampNeg x_71)))], [(a_q_16, .inl (g 3, n_20, .inr (.inr (.inr (.inr (rowf n_20 rr_76))))))], [(a_q_40, .inl (g 0, n_43, .inl q179_48))]] [[((rr_76 v10_50.toNatClampNeg), .inl (g 0, ((fun _ => n_21) v10_50.toNatClampNeg), .inl (upd (rc_75 v10_50.toNatClampNeg) v11_74.toNatClampNeg x_90)))], RWx n_20 v10_50.toNatClampNeg rr_76 (g 0) (fun _ => n_21) rc_75] 7 [0, 1, 2, 3, 4, 5, 6] rfl rfl (by decide) hP hD
                          have hPs := P_perm (List.Perm.append_left _ (RW_join (m := n_20) (j := v10_50.toNatClampNeg) (r := rr_76) (ln := (fun _ => n_21)) (c0 := g 0) (c := rc_75) (f := (upd (rc_75 v10_50.toNatClampNeg) v11_74.toNatClampNeg x_90)) (vp_lt hj_83))) hPs
                          have hDs := D_perm (List.Perm.append_left _ (RW_join (m := n_20) (j := v10_50.toNatClampNeg) (r := rr_76) (ln := (fun _ => n_21)) (c0 := g 0) (c := rc_75) (f := (upd (rc_75 v10_50.toNatClampNeg) v11_74.toNatClampNeg x_90)) (vp_lt hj_83))) hDs
                          obtain ⟨hP, hD⟩ := seg_join [[(a_lengths, .inl (g 0, n_lengths, .inl lengths))], [(a_q_1, .inl (g 0, 4, .inl q1_47))], [(a_q_4, .inl (g 0, n_7, .inl (upd q5_51 v10_50.toNatClampNeg x_71)))], [(a_q_16, .inl (g 3, n_20, .inr (.inr (.inr (.inr (rowf n_20 rr_76))))))], [(a_q_40, .inl (g 0, n_43, .inl q179_48))]] [RWs n_20 rr_76 (g 0) (fun _ => n_21) (va_up rc_75 v10_50.toNatClampNeg (upd (rc_75 v10_50.toNatClampNeg) v11_74.toNatClampNeg x_90))] [[(a_lengths, .inl (g 0, n_lengths, .inl lengths))], [(a_q_1, .inl (g 0, 4, .inl q1_47))], [(a_q_4, .inl (g 0, n_7, .inl (upd q5_51 v10_50.toNatClampNeg x_71)))], [(a_q_16, .inl (g 3, n_20, .inr (.inr (.inr (.inr (rowf n_20 rr_76))))))], [(a_q_40, .inl (g 0, n_43, .inl q179_48))], RWs n_20 rr_76 (g 0) (fun _ => n_21) (va_up rc_75 v10_50.toNatClampNeg (upd (rc_75 v10_50.toNatClampNeg) v11_74.toNatClampNeg x_90))] 6 [0, 1, 2, 3, 4, 5] rfl rfl (by decide) hPs hDs
                          have hP : va_P (dC, dI) vwCl ([(a_lengths, .inl (g 0, n_lengths, .inl lengths)), (a_q_1, .inl (g 0, 4, .inl q1_47)), (a_q_4, .inl (g 0, n_7, .inl (upd q5_51 v10_50.toNatClampNeg x_71))), (a_q_16, .inl (g 3, n_20, .inr (.inr (.inr (.inr (rowf n_20 rr_76)))))), (a_q_40, .inl (g 0, n_43, .inl q179_48))] ++ (RWs n_20 rr_76 (g 0) (fun _ => n_21) (va_up rc_75 v10_50.toNatClampNeg (upd (rc_75 v10_50.toNatClampNeg) v11_74.toNatClampNeg x_90)))) H_91 := hP
                          have hD : va_D A ([(a_lengths, .inl (g 0, n_lengths, .inl lengths)), (a_q_1, .inl (g 0, 4, .inl q1_47)), (a_q_4, .inl (g 0, n_7, .inl (upd q5_51 v10_50.toNatClampNeg x_71))), (a_q_16, .inl (g 3, n_20, .inr (.inr (.inr (.inr (rowf n_20 rr_76)))))), (a_q_40, .inl (g 0, n_43, .inl q179_48))] ++ (RWs n_20 rr_76 (g 0) (fun _ => n_21) (va_up rc_75 v10_50.toNatClampNeg (upd (rc_75 v10_50.toNatClampNeg) v11_74.toNatClampNeg x_90)))) := hD
                          obtain ⟨x_93, ex_93⟩ : ∃ y : Int32, y = v11_74 + 1 := ⟨_, rfl⟩
                          have hw := hw x_93 ex_93
                          refine lv_iinc (v := x_93) (lv' := [(11, .int x_93), (1, .int ways), (2, .ref a_q_1), (3, .ref a_q_4), (4, .int v4_13), (5, .ref a_q_16), (7, .int v7_29), (8, .int x_39), (9, .ref a_q_40), (10, .int v10_50)]) hx hb dL_polyphase_304 hl (k := 9) rfl (by rw [ex_93]; rfl) (by decide) rfl (fun ls hl => ?_)
                          refine lv_goto (tgt := 274) hx hb dL_polyphase_307 (by decide) ?_
                          refine W.widen (k := (kb165 + 1)) (n := (nb165 + 200)) (by omega) (by omega) ?_
                          exact ih274 x_93 (va_up rc_75 v10_50.toNatClampNeg (upd (rc_75 v10_50.toNatClampNeg) v11_74.toNatClampNeg x_90)) rr_76 _ _ hw hP hD hS _ (lv_sub hl [1, 2, 3, 4, 5, 6, 7, 8, 9, 0] rfl)
                    obtain ⟨n274, hw⟩ := hw
                    refine W.widen (k := (kb165 + 1)) (n := (nb165 + 200)) (by omega) (by omega) ?_
                    exact LOOP274 n274 0 rc_52 rr_53 _ _ hw hP hD hS _ (lv_sub hl [1, 2, 3, 4, 5, 6, 7, 8, 9, 0] rfl)
              obtain ⟨n253, hw⟩ := hw
              refine W.widen (k := (kb165 + 1)) (n := (nb165 + 200)) (by omega) (by omega) ?_
              exact LOOP253 n253 x_49 q5_31 rc_32 rr_33 _ _ hw hP hD hS _ (lv_sub hl [1, 2, 3, 4, 5, 6, 7, 8, 0] rfl)
            have LOOP186 : ∀ (n186 : Nat) (v10_44 : Int32) (q1_45 : Nat → Int32) (q179_46 : Nat → Int32) (H : Heap) (locs : List Loc), wl_L_polyphase_186 ways n_20 n_21 rc_32 x_39 n_43 (wx_L_polyphase_186_248 ways n_7 n_20 n_21 v7_29 q5_31 rc_32 (wl_L_polyphase_165 ways n_7 v4_13 n_20 n_21 (wx_L_polyphase_165_340 Q) n165) x_39 n_43) n186 v10_44 q1_45 q179_46 → va_P (dC, dI) vwCl ([(a_lengths, .inl (g 0, n_lengths, .inl lengths)), (a_q_1, .inl (g 0, 4, .inl q1_45)), (a_q_4, .inl (g 0, n_7, .inl q5_31)), (a_q_16, .inl (g 3, n_20, .inr (.inr (.inr (.inr (rowf n_20 rr_33)))))), (a_q_40, .inl (g 0, n_43, .inl q179_46))] ++ (RWs n_20 rr_33 (g 0) (fun _ => n_21) rc_32)) H → va_D A ([(a_lengths, .inl (g 0, n_lengths, .inl lengths)), (a_q_1, .inl (g 0, 4, .inl q1_45)), (a_q_4, .inl (g 0, n_7, .inl q5_31)), (a_q_16, .inl (g 3, n_20, .inr (.inr (.inr (.inr (rowf n_20 rr_33)))))), (a_q_40, .inl (g 0, n_43, .inl q179_46))] ++ (RWs n_20 rr_33 (g 0) (fun _ => n_21) rc_32)) → va_S A s.heap H locs → ∀ (ls : Array Slot), lv_has ls 12 [(1, .int ways), (2, .ref a_q_1), (3, .ref a_q_4), (4, .int v4_13), (5, .ref a_q_16), (7, .int v7_29), (8, .int x_39), (9, .ref a_q_40), (10, .int v10_44)] → W p l e (headSpec wqL_polyphase ({ frames := 0, cells := 33, slots := 6016, locals := 0 })).room s m ([.ref a_lengths, .int ways] : List Value).toArray below meth c H locs (kb165 + 1) (nb165 + 200) QM (F0 m 186 ls []) := by
              intro n186
              induction n186 with
              | zero =>
                intro v10_44 q1_45 q179_46 H locs hw hP hD hS ls hl
                exact False.elim hw
              | succ n186 ih186 =>
                intro v10_44 q1_45 q179_46 H locs hw hP hD hS ls hl
                rw [wl_L_polyphase_186_s] at hw
                refine lv_iload hx hb dL_polyphase_186 (lv_at hl 8 rfl) ?_
                refine lv_iload hx hb dL_polyphase_188 (lv_at hl 6 rfl) ?_
                refine lv_icmp_ge (tgt := 248) hx hb dL_polyphase_190 (by decide) (fun c_94 => ?_) (fun c_94 => ?_)
                · have hw := hw.1 c_94
                  refine W.widen (k := (kb165 + 1)) (n := (nb165 + 200)) (by omega) (by omega) ?_
                  exact EX186_248 q1_45 q179_46 _ _ hw hP hD hS _ (lv_sub hl [0, 1, 2, 3, 4, 5, 6, 7] rfl)
                · have hw := hw.2 c_94
                  refine lv_iconst (v := 0) hx hb dL_polyphase_193 (by decide) ?_
                  refine lv_istore (lv' := [(11, .int 0), (1, .int ways), (2, .ref a_q_1), (3, .ref a_q_4), (4, .int v4_13), (5, .ref a_q_16), (7, .int v7_29), (8, .int x_39), (9, .ref a_q_40), (10, .int v10_44)]) hx hb dL_polyphase_194 hl (by decide) rfl (fun ls hl => ?_)
                  have EX196_224 : ∀ (q179_97 : Nat → Int32) (H : Heap) (locs : List Loc), (wx_L_polyphase_196_224 n_43 v10_44 q1_45 (wl_L_polyphase_186 ways n_20 n_21 rc_32 x_39 n_43 (wx_L_polyphase_186_248 ways n_7 n_20 n_21 v7_29 q5_31 rc_32 (wl_L_polyphase_165 ways n_7 v4_13 n_20 n_21 (wx_L_polyphase_165_340 Q) n165) x_39 n_43) n186)) q179_97 → va_P (dC, dI) vwCl ([(a_lengths, .inl (g 0, n_lengths, .inl lengths)), (a_q_1, .inl (g 0, 4, .inl q1_45)), (a_q_4, .inl (g 0, n_7, .inl q5_31)), (a_q_16, .inl (g 3, n_20, .inr (.inr (.inr (.inr (rowf n_20 rr_33)))))), (a_q_40, .inl (g 0, n_43, .inl q179_97))] ++ (RWs n_20 rr_33 (g 0) (fun _ => n_21) rc_32)) H → va_D A ([(a_lengths, .inl (g 0, n_lengths, .inl lengths)), (a_q_1, .inl (g 0, 4, .inl q1_45)), (a_q_4, .inl (g 0, n_7, .inl q5_31)), (a_q_16, .inl (g 3, n_20, .inr (.inr (.inr (.inr (rowf n_20 rr_33)))))), (a_q_40, .inl (g 0, n_43, .inl q179_97))] ++ (RWs n_20 rr_33 (g 0) (fun _ => n_21) rc_32)) → va_S A s.heap H locs → ∀ (ls : Array Slot), lv_has ls 12 [(1, .int ways), (2, .ref a_q_1), (3, .ref a_q_4), (4, .int v4_13), (5, .ref a_q_16), (7, .int v7_29), (8, .int x_39), (9, .ref a_q_40), (10, .int v10_44)] → W p l e (headSpec wqL_polyphase ({ frames := 0, cells := 33, slots := 6016, locals := 0 })).room s m ([.ref a_lengths, .int ways] : List Value).toArray below meth c H locs (kb165 + 1) (nb165 + 200) QM (F0 m 224 ls []) := by
                    intro q179_97 H locs hw hP hD hS ls hl
                    refine lv_aload_n hx hb dL_polyphase_224 rfl (lv_at hl 1 rfl) ?_
                    refine lv_iconst (v := 1) hx hb dL_polyphase_225 (by decide) ?_
                    refine lv_dup2_11 hx hb dL_polyphase_226 rfl rfl ?_
                    refine va_iald hx hb hK hP 1 0 rfl rfl (by unfold vp_in; decide) dL_polyphase_227 ?_
                    refine lv_topi (fun x_98 ex_98 => ?_)
                    have hw := hw x_98 ex_98
                    refine lv_aload hx hb dL_polyphase_228 (lv_at hl 7 rfl) ?_
                    refine lv_iload hx hb dL_polyphase_230 (lv_at hl 8 rfl) ?_
                    refine va_iald hx hb hK hP 4 0 rfl rfl hw.1 dL_polyphase_232 ?_
                    have hw := hw.2
                    refine lv_topi (fun x_99 ex_99 => ?_)
                    have hw := hw x_99 ex_99
                    refine lv_iadd hx hb dL_polyphase_233 ?_
                    refine lv_topi (fun x_100 ex_100 => ?_)
                    have hw := hw x_100 ex_100
                    refine va_iast hx hb hK hP hD hS 1 0 rfl rfl (by unfold vp_in; decide) dL_polyphase_234 (fun H_101 L_102 hP hD hS => ?_)
                    have hP : va_P (dC, dI) vwCl ([(a_lengths, .inl (g 0, n_lengths, .inl lengths)), (a_q_1, .inl (g 0, 4, .inl (upd q1_45 (1 : Int32).toNatClampNeg x_100))), (a_q_4, .inl (g 0, n_7, .inl q5_31)), (a_q_16, .inl (g 3, n_20, .inr (.inr (.inr (.inr (rowf n_20 rr_33)))))), (a_q_40, .inl (g 0, n_43, .inl q179_97))] ++ (RWs n_20 rr_33 (g 0) (fun _ => n_21) rc_32)) H_101 := hP
                    have hD : va_D A ([(a_lengths, .inl (g 0, n_lengths, .inl lengths)), (a_q_1, .inl (g 0, 4, .inl (upd q1_45 (1 : Int32).toNatClampNeg x_100))), (a_q_4, .inl (g 0, n_7, .inl q5_31)), (a_q_16, .inl (g 3, n_20, .inr (.inr (.inr (.inr (rowf n_20 rr_33)))))), (a_q_40, .inl (g 0, n_43, .inl q179_97))] ++ (RWs n_20 rr_33 (g 0) (fun _ => n_21) rc_32)) := hD
                    refine lv_aload_n hx hb dL_polyphase_235 rfl (lv_at hl 1 rfl) ?_
                    refine lv_iconst (v := 2) hx hb dL_polyphase_236 (by decide) ?_
                    refine lv_dup2_11 hx hb dL_polyphase_237 rfl rfl ?_
                    refine va_iald hx hb hK hP 1 0 rfl rfl (by unfold vp_in; decide) dL_polyphase_238 ?_
                    refine lv_topi (fun x_103 ex_103 => ?_)
                    have hw := hw x_103 ex_103
                    refine lv_iconst (v := 1) hx hb dL_polyphase_239 (by decide) ?_
                    refine lv_iadd hx hb dL_polyphase_240 ?_
                    refine lv_topi (fun x_104 ex_104 => ?_)
                    have hw := hw x_104 ex_104
                    refine va_iast hx hb hK hP hD hS 1 0 rfl rfl (by unfold vp_in; decide) dL_polyphase_241 (fun H_105 L_106 hP hD hS => ?_)
                    have hP : va_P (dC, dI) vwCl ([(a_lengths, .inl (g 0, n_lengths, .inl lengths)), (a_q_1, .inl (g 0, 4, .inl (upd (upd q1_45 (1 : Int32).toNatClampNeg x_100) (2 : Int32).toNatClampNeg x_104))), (a_q_4, .inl (g 0, n_7, .inl q5_31)), (a_q_16, .inl (g 3, n_20, .inr (.inr (.inr (.inr (rowf n_20 rr_33)))))), (a_q_40, .inl (g 0, n_43, .inl q179_97))] ++ (RWs n_20 rr_33 (g 0) (fun _ => n_21) rc_32)) H_105 := hP
                    have hD : va_D A ([(a_lengths, .inl (g 0, n_lengths, .inl lengths)), (a_q_1, .inl (g 0, 4, .inl (upd (upd q1_45 (1 : Int32).toNatClampNeg x_100) (2 : Int32).toNatClampNeg x_104))), (a_q_4, .inl (g 0, n_7, .inl q5_31)), (a_q_16, .inl (g 3, n_20, .inr (.inr (.inr (.inr (rowf n_20 rr_33)))))), (a_q_40, .inl (g 0, n_43, .inl q179_97))] ++ (RWs n_20 rr_33 (g 0) (fun _ => n_21) rc_32)) := hD
                    obtain ⟨x_107, ex_107⟩ : ∃ y : Int32, y = v10_44 + 1 := ⟨_, rfl⟩
                    have hw := hw x_107 ex_107
                    refine lv_iinc (v := x_107) (lv' := [(10, .int x_107), (1, .int ways), (2, .ref a_q_1), (3, .ref a_q_4), (4, .int v4_13), (5, .ref a_q_16), (7, .int v7_29), (8, .int x_39), (9, .ref a_q_40)]) hx hb dL_polyphase_242 hl (k := 8) rfl (by rw [ex_107]; rfl) (by decide) rfl (fun ls hl => ?_)
                    refine lv_goto (tgt := 186) hx hb dL_polyphase_245 (by decide) ?_
                    refine W.widen (k := (kb165 + 1)) (n := (nb165 + 200)) (by omega) (by omega) ?_
                    exact ih186 x_107 (upd (upd q1_45 (1 : Int32).toNatClampNeg x_100) (2 : Int32).toNatClampNeg x_104) q179_97 _ _ hw hP hD hS _ (lv_sub hl [1, 2, 3, 4, 5, 6, 7, 8, 0] rfl)
                  have LOOP196 : ∀ (n196 : Nat) (v11_95 : Int32) (q179_96 : Nat → Int32) (H : Heap) (locs : List Loc), wl_L_polyphase_196 ways n_20 n_21 rc_32 n_43 v10_44 (wx_L_polyphase_196_224 n_43 v10_44 q1_45 (wl_L_polyphase_186 ways n_20 n_21 rc_32 x_39 n_43 (wx_L_polyphase_186_248 ways n_7 n_20 n_21 v7_29 q5_31 rc_32 (wl_L_polyphase_165 ways n_7 v4_13 n_20 n_21 (wx_L_polyphase_165_340 Q) n165) x_39 n_43) n186)) n196 v11_95 q179_96 → va_P (dC, dI) vwCl ([(a_lengths, .inl (g 0, n_lengths, .inl lengths)), (a_q_1, .inl (g 0, 4, .inl q1_45)), (a_q_4, .inl (g 0, n_7, .inl q5_31)), (a_q_16, .inl (g 3, n_20, .inr (.inr (.inr (.inr (rowf n_20 rr_33)))))), (a_q_40, .inl (g 0, n_43, .inl q179_96))] ++ (RWs n_20 rr_33 (g 0) (fun _ => n_21) rc_32)) H → va_D A ([(a_lengths, .inl (g 0, n_lengths, .inl lengths)), (a_q_1, .inl (g 0, 4, .inl q1_45)), (a_q_4, .inl (g 0, n_7, .inl q5_31)), (a_q_16, .inl (g 3, n_20, .inr (.inr (.inr (.inr (rowf n_20 rr_33)))))), (a_q_40, .inl (g 0, n_43, .inl q179_96))] ++ (RWs n_20 rr_33 (g 0) (fun _ => n_21) rc_32)) → va_S A s.heap H locs → ∀ (ls : Array Slot), lv_has ls 12 [(1, .int ways), (2, .ref a_q_1), (3, .ref a_q_4), (4, .int v4_13), (5, .ref a_q_16), (7, .int v7_29), (8, .int x_39), (9, .ref a_q_40), (10, .int v10_44), (11, .int v11_95)] → W p l e (headSpec wqL_polyphase ({ frames := 0, cells := 33, slots := 6016, locals := 0 })).room s m ([.ref a_lengths, .int ways] : List Value).toArray below meth c H locs (kb165 + 1) (nb165 + 200) QM (F0 m 196 ls []) := by
                    intro n196
                    induction n196 with
                    | zero =>
                      intro v11_95 q179_96 H locs hw hP hD hS ls hl
                      exact False.elim hw
                    | succ n196 ih196 =>
                      intro v11_95 q179_96 H locs hw hP hD hS ls hl
                      rw [wl_L_polyphase_196_s] at hw
                      refine lv_iload hx hb dL_polyphase_196 (lv_at hl 9 rfl) ?_
                      refine lv_iload_n hx hb dL_polyphase_198 rfl (lv_at hl 0 rfl) ?_
                      refine lv_icmp_ge (tgt := 224) hx hb dL_polyphase_199 (by decide) (fun c_108 => ?_) (fun c_108 => ?_)
                      · have hw := hw.1 c_108
                        refine W.widen (k := (kb165 + 1)) (n := (nb165 + 200)) (by omega) (by omega) ?_
                        exact EX196_224 q179_96 _ _ hw hP hD hS _ (lv_sub hl [0, 1, 2, 3, 4, 5, 6, 7, 8] rfl)
                      · have hw := hw.2 c_108
                        refine lv_aload hx hb dL_polyphase_202 (lv_at hl 7 rfl) ?_
                        refine lv_iload hx hb dL_polyphase_204 (lv_at hl 8 rfl) ?_
                        refine lv_dup2_11 hx hb dL_polyphase_206 rfl rfl ?_
                        refine va_iald hx hb hK hP 4 0 rfl rfl hw.1 dL_polyphase_207 ?_
                        have hw := hw.2
                        refine lv_topi (fun x_109 ex_109 => ?_)
                        have hw := hw x_109 ex_109
                        refine lv_aload hx hb dL_polyphase_208 (lv_at hl 4 rfl) ?_
                        refine lv_iload hx hb dL_polyphase_210 (lv_at hl 9 rfl) ?_
                        obtain ⟨hi_110, hj_111, hw⟩ := hw
                        refine va_aldA hx hb hK hP 3 rfl hi_110 dL_polyphase_212 ?_
                        refine W.eq (g2 := F0 m 213 ls (.ref (rr_33 v11_95.toNatClampNeg) :: [.int x_109, .int v10_44, .ref a_q_40])) (by rw [rowf_at (vp_lt hj_111)]; rfl) ?_
                        refine lv_iload hx hb dL_polyphase_213 (lv_at hl 8 rfl) ?_
                        obtain ⟨hi_112, hw⟩ := hw
                        obtain ⟨k_113, hk_113⟩ := List.mem_iff_getElem?.mp (show _ ∈ ([(a_lengths, .inl (g 0, n_lengths, .inl lengths)), (a_q_1, .inl (g 0, 4, .inl q1_45)), (a_q_4, .inl (g 0, n_7, .inl q5_31)), (a_q_16, .inl (g 3, n_20, .inr (.inr (.inr (.inr (rowf n_20 rr_33)))))), (a_q_40, .inl (g 0, n_43, .inl q179_96))] ++ (RWs n_20 rr_33 (g 0) (fun _ => n_21) rc_32)) from (List.mem_append_right _ (RW_mem (vp_lt hj_111))))
                        refine va_iald hx hb hK hP k_113 0 hk_113 rfl hi_112 dL_polyphase_215 ?_
                        refine lv_topi (fun x_114 ex_114 => ?_)
                        have hw := hw x_114 ex_114
                        refine lv_iadd hx hb dL_polyphase_216 ?_
                        refine lv_topi (fun x_115 ex_115 => ?_)
                        have hw := hw x_115 ex_115
                        refine va_iast hx hb hK hP hD hS 4 0 rfl rfl hw.1 dL_polyphase_217 (fun H_116 L_117 hP hD hS => ?_)
                        have hw := hw.2
                        have hP : va_P (dC, dI) vwCl ([(a_lengths, .inl (g 0, n_lengths, .inl lengths)), (a_q_1, .inl (g 0, 4, .inl q1_45)), (a_q_4, .inl (g 0, n_7, .inl q5_31)), (a_q_16, .inl (g 3, n_20, .inr (.inr (.inr (.inr (rowf n_20 rr_33)))))), (a_q_40, .inl (g 0, n_43, .inl (upd q179_96 v10_44.toNatClampNeg x_115)))] ++ (RWs n_20 rr_33 (g 0) (fun _ => n_21) rc_32)) H_116 := hP
                        have hD : va_D A ([(a_lengths, .inl (g 0, n_lengths, .inl lengths)), (a_q_1, .inl (g 0, 4, .inl q1_45)), (a_q_4, .inl (g 0, n_7, .inl q5_31)), (a_q_16, .inl (g 3, n_20, .inr (.inr (.inr (.inr (rowf n_20 rr_33)))))), (a_q_40, .inl (g 0, n_43, .inl (upd q179_96 v10_44.toNatClampNeg x_115)))] ++ (RWs n_20 rr_33 (g 0) (fun _ => n_21) rc_32)) := hD
                        obtain ⟨x_118, ex_118⟩ : ∃ y : Int32, y = v11_95 + 1 := ⟨_, rfl⟩
                        have hw := hw x_118 ex_118
                        refine lv_iinc (v := x_118) (lv' := [(11, .int x_118), (1, .int ways), (2, .ref a_q_1), (3, .ref a_q_4), (4, .int v4_13), (5, .ref a_q_16), (7, .int v7_29), (8, .int x_39), (9, .ref a_q_40), (10, .int v10_44)]) hx hb dL_polyphase_218 hl (k := 9) rfl (by rw [ex_118]; rfl) (by decide) rfl (fun ls hl => ?_)
                        refine lv_goto (tgt := 196) hx hb dL_polyphase_221 (by decide) ?_
                        refine W.widen (k := (kb165 + 1)) (n := (nb165 + 200)) (by omega) (by omega) ?_
                        exact ih196 x_118 (upd q179_96 v10_44.toNatClampNeg x_115) _ _ hw hP hD hS _ (lv_sub hl [1, 2, 3, 4, 5, 6, 7, 8, 9, 0] rfl)
                  obtain ⟨n196, hw⟩ := hw
                  refine W.widen (k := (kb165 + 1)) (n := (nb165 + 200)) (by omega) (by omega) ?_
                  exact LOOP196 n196 0 q179_46 _ _ hw hP hD hS _ (lv_sub hl [1, 2, 3, 4, 5, 6, 7, 8, 9, 0] rfl)
            obtain ⟨n186, hw⟩ := hw
            refine W.widen (k := (kb165 + 1)) (n := (nb165 + 200)) (by omega) (by omega) ?_
            exact LOOP186 n186 0 q1_30 (fun _ => 0) _ _ hw hP hD hS _ (lv_sub hl [3, 4, 5, 6, 7, 8, 2, 1, 0] rfl)
      obtain ⟨n165, hle165, hw⟩ := hw
      refine W.widen (k := (33 - n165 * 1)) (n := (6016 - n165 * 200)) (by omega) (by omega) ?_
      exact LOOP165 n165 hle165 x_28 q1_14 q5_15 rc_26 rr_27 _ _ hw hP hD hS _ (lv_sub hl [1, 2, 3, 4, 5, 0] rfl)
    have LOOP104 : ∀ (n104 : Nat) (v7_22 : Int32) (rc_23 : Nat → Nat → Int32) (v6_24 : Int32) (rr_25 : Nat → Nat) (H : Heap) (locs : List Loc), wl_L_polyphase_104 n_lengths lengths ways n_7 q5_15 n_20 n_21 (wx_L_polyphase_104_160 ways Q n_7 v4_13 q1_14 q5_15 n_20 n_21) n104 v7_22 rc_23 v6_24 → va_P (dC, dI) vwCl ([(a_lengths, .inl (g 0, n_lengths, .inl lengths)), (a_q_1, .inl (g 0, 4, .inl q1_14)), (a_q_4, .inl (g 0, n_7, .inl q5_15)), (a_q_16, .inl (g 3, n_20, .inr (.inr (.inr (.inr (rowf n_20 rr_25))))))] ++ (RWs n_20 rr_25 (g 0) (fun _ => n_21) rc_23)) H → va_D A ([(a_lengths, .inl (g 0, n_lengths, .inl lengths)), (a_q_1, .inl (g 0, 4, .inl q1_14)), (a_q_4, .inl (g 0, n_7, .inl q5_15)), (a_q_16, .inl (g 3, n_20, .inr (.inr (.inr (.inr (rowf n_20 rr_25))))))] ++ (RWs n_20 rr_25 (g 0) (fun _ => n_21) rc_23)) → va_S A s.heap H locs → ∀ (ls : Array Slot), lv_has ls 12 [(0, .ref a_lengths), (1, .int ways), (2, .ref a_q_1), (3, .ref a_q_4), (4, .int v4_13), (5, .ref a_q_16), (6, .int v6_24), (7, .int v7_22)] → W p l e (headSpec wqL_polyphase ({ frames := 0, cells := 33, slots := 6016, locals := 0 })).room s m ([.ref a_lengths, .int ways] : List Value).toArray below meth c H locs 9 1216 QM (F0 m 104 ls []) := by
      intro n104
      induction n104 with
      | zero =>
        intro v7_22 rc_23 v6_24 rr_25 H locs hw hP hD hS ls hl
        exact False.elim hw
      | succ n104 ih104 =>
        intro v7_22 rc_23 v6_24 rr_25 H locs hw hP hD hS ls hl
        rw [wl_L_polyphase_104_s] at hw
        refine lv_iload hx hb dL_polyphase_104 (lv_at hl 7 rfl) ?_
        refine lv_iload_n hx hb dL_polyphase_106 rfl (lv_at hl 1 rfl) ?_
        refine lv_icmp_ge (tgt := 160) hx hb dL_polyphase_107 (by decide) (fun c_119 => ?_) (fun c_119 => ?_)
        · have hw := hw.1 c_119
          refine W.widen (k := 9) (n := 1216) (by omega) (by omega) ?_
          exact EX104_160 rc_23 rr_25 _ _ hw hP hD hS _ (lv_sub hl [1, 2, 3, 4, 5] rfl)
        · have hw := hw.2 c_119
          refine lv_iconst (v := 0) hx hb dL_polyphase_110 (by decide) ?_
          refine lv_istore (lv' := [(8, .int 0), (0, .ref a_lengths), (1, .int ways), (2, .ref a_q_1), (3, .ref a_q_4), (4, .int v4_13), (5, .ref a_q_16), (6, .int v6_24), (7, .int v7_22)]) hx hb dL_polyphase_111 hl (by decide) rfl (fun ls hl => ?_)
          have EX113_154 : ∀ (rc_124 : Nat → Nat → Int32) (v6_125 : Int32) (rr_126 : Nat → Nat) (H : Heap) (locs : List Loc), (wx_L_polyphase_113_154 v7_22 (wl_L_polyphase_104 n_lengths lengths ways n_7 q5_15 n_20 n_21 (wx_L_polyphase_104_160 ways Q n_7 v4_13 q1_14 q5_15 n_20 n_21) n104)) rc_124 v6_125 → va_P (dC, dI) vwCl ([(a_lengths, .inl (g 0, n_lengths, .inl lengths)), (a_q_1, .inl (g 0, 4, .inl q1_14)), (a_q_4, .inl (g 0, n_7, .inl q5_15)), (a_q_16, .inl (g 3, n_20, .inr (.inr (.inr (.inr (rowf n_20 rr_126))))))] ++ (RWs n_20 rr_126 (g 0) (fun _ => n_21) rc_124)) H → va_D A ([(a_lengths, .inl (g 0, n_lengths, .inl lengths)), (a_q_1, .inl (g 0, 4, .inl q1_14)), (a_q_4, .inl (g 0, n_7, .inl q5_15)), (a_q_16, .inl (g 3, n_20, .inr (.inr (.inr (.inr (rowf n_20 rr_126))))))] ++ (RWs n_20 rr_126 (g 0) (fun _ => n_21) rc_124)) → va_S A s.heap H locs → ∀ (ls : Array Slot), lv_has ls 12 [(0, .ref a_lengths), (1, .int ways), (2, .ref a_q_1), (3, .ref a_q_4), (4, .int v4_13), (5, .ref a_q_16), (6, .int v6_125), (7, .int v7_22)] → W p l e (headSpec wqL_polyphase ({ frames := 0, cells := 33, slots := 6016, locals := 0 })).room s m ([.ref a_lengths, .int ways] : List Value).toArray below meth c H locs 9 1216 QM (F0 m 154 ls []) := by
            intro rc_124 v6_125 rr_126 H locs hw hP hD hS ls hl
            obtain ⟨x_127, ex_127⟩ : ∃ y : Int32, y = v7_22 + 1 := ⟨_, rfl⟩
            have hw := hw x_127 ex_127
            refine lv_iinc (v := x_127) (lv' := [(7, .int x_127), (0, .ref a_lengths), (1, .int ways), (2, .ref a_q_1), (3, .ref a_q_4), (4, .int v4_13), (5, .ref a_q_16), (6, .int v6_125)]) hx hb dL_polyphase_154 hl (k := 7) rfl (by rw [ex_127]; rfl) (by decide) rfl (fun ls hl => ?_)
            refine lv_goto (tgt := 104) hx hb dL_polyphase_157 (by decide) ?_
            refine W.widen (k := 9) (n := 1216) (by omega) (by omega) ?_
            exact ih104 x_127 rc_124 v6_125 rr_126 _ _ hw hP hD hS _ (lv_sub hl [1, 2, 3, 4, 5, 6, 7, 0] rfl)
          have LOOP113 : ∀ (n113 : Nat) (v8_120 : Int32) (rc_121 : Nat → Nat → Int32) (v6_122 : Int32) (rr_123 : Nat → Nat) (H : Heap) (locs : List Loc), wl_L_polyphase_113 n_lengths lengths n_7 q5_15 n_20 n_21 v7_22 (wx_L_polyphase_113_154 v7_22 (wl_L_polyphase_104 n_lengths lengths ways n_7 q5_15 n_20 n_21 (wx_L_polyphase_104_160 ways Q n_7 v4_13 q1_14 q5_15 n_20 n_21) n104)) n113 v8_120 rc_121 v6_122 → va_P (dC, dI) vwCl ([(a_lengths, .inl (g 0, n_lengths, .inl lengths)), (a_q_1, .inl (g 0, 4, .inl q1_14)), (a_q_4, .inl (g 0, n_7, .inl q5_15)), (a_q_16, .inl (g 3, n_20, .inr (.inr (.inr (.inr (rowf n_20 rr_123))))))] ++ (RWs n_20 rr_123 (g 0) (fun _ => n_21) rc_121)) H → va_D A ([(a_lengths, .inl (g 0, n_lengths, .inl lengths)), (a_q_1, .inl (g 0, 4, .inl q1_14)), (a_q_4, .inl (g 0, n_7, .inl q5_15)), (a_q_16, .inl (g 3, n_20, .inr (.inr (.inr (.inr (rowf n_20 rr_123))))))] ++ (RWs n_20 rr_123 (g 0) (fun _ => n_21) rc_121)) → va_S A s.heap H locs → ∀ (ls : Array Slot), lv_has ls 12 [(0, .ref a_lengths), (1, .int ways), (2, .ref a_q_1), (3, .ref a_q_4), (4, .int v4_13), (5, .ref a_q_16), (6, .int v6_122), (7, .int v7_22), (8, .int v8_120)] → W p l e (headSpec wqL_polyphase ({ frames := 0, cells := 33, slots := 6016, locals := 0 })).room s m ([.ref a_lengths, .int ways] : List Value).toArray below meth c H locs 9 1216 QM (F0 m 113 ls []) := by
            intro n113
            induction n113 with
            | zero =>
              intro v8_120 rc_121 v6_122 rr_123 H locs hw hP hD hS ls hl
              exact False.elim hw
            | succ n113 ih113 =>
              intro v8_120 rc_121 v6_122 rr_123 H locs hw hP hD hS ls hl
              rw [wl_L_polyphase_113_s] at hw
              refine lv_iload hx hb dL_polyphase_113 (lv_at hl 8 rfl) ?_
              refine lv_aload_n hx hb dL_polyphase_115 rfl (lv_at hl 3 rfl) ?_
              refine lv_iload hx hb dL_polyphase_116 (lv_at hl 7 rfl) ?_
              refine va_iald hx hb hK hP 2 0 rfl rfl hw.1 dL_polyphase_118 ?_
              have hw := hw.2
              refine lv_topi (fun x_128 ex_128 => ?_)
              have hw := hw x_128 ex_128
              refine lv_icmp_ge (tgt := 154) hx hb dL_polyphase_119 (by decide) (fun c_129 => ?_) (fun c_129 => ?_)
              · have hw := hw.1 c_129
                refine W.widen (k := 9) (n := 1216) (by omega) (by omega) ?_
                exact EX113_154 rc_121 v6_122 rr_123 _ _ hw hP hD hS _ (lv_sub hl [0, 1, 2, 3, 4, 5, 6, 7] rfl)
              · have hw := hw.2 c_129
                refine lv_aload hx hb dL_polyphase_122 (lv_at hl 5 rfl) ?_
                refine lv_iload hx hb dL_polyphase_124 (lv_at hl 7 rfl) ?_
                obtain ⟨hi_130, hj_131, hw⟩ := hw
                refine va_aldA hx hb hK hP 3 rfl hi_130 dL_polyphase_126 ?_
                refine W.eq (g2 := F0 m 127 ls (.ref (rr_123 v7_22.toNatClampNeg) :: [])) (by rw [rowf_at (vp_lt hj_131)]; rfl) ?_
                refine lv_iload hx hb dL_polyphase_127 (lv_at hl 8 rfl) ?_
                refine lv_iload hx hb dL_polyphase_129 (lv_at hl 6 rfl) ?_
                refine lv_aload_n hx hb dL_polyphase_131 rfl (lv_at hl 0 rfl) ?_
                refine va_alen hx hb hK hP 0 0 rfl rfl (v := nI n_lengths) rfl dL_polyphase_132 ?_
                refine lv_icmp_ge (tgt := 146) hx hb dL_polyphase_133 (by decide) (fun c_132 => ?_) (fun c_132 => ?_)
                · have hw := hw.1 c_132
                  refine lv_iconst (v := 0) hx hb dL_polyphase_146 (by decide) ?_
                  obtain ⟨hPs, hDs⟩ := seg_call (segs := [[(a_lengths, .inl (g 0, n_lengths, .inl lengths))], [(a_q_1, .inl (g 0, 4, .inl q1_14))], [(a_q_4, .inl (g 0, n_7, .inl q5_15))], [(a_q_16, .inl (g 3, n_20, .inr (.inr (.inr (.inr (rowf n_20 rr_123))))))], RWs n_20 rr_123 (g 0) (fun _ => n_21) rc_121]) [[(a_lengths, .inl (g 0, n_lengths, .inl lengths))], [(a_q_1, .inl (g 0, 4, .inl q1_14))], [(a_q_4, .inl (g 0, n_7, .inl q5_15))], [(a_q_16, .inl (g 3, n_20, .inr (.inr (.inr (.inr (rowf n_20 rr_123))))))]] [RWs n_20 rr_123 (g 0) (fun _ => n_21) rc_121] 5 [0, 1, 2, 3, 4] rfl rfl (by decide) hP hD
                  have hPs := P_perm (List.Perm.append_left _ (RW_split (m := n_20) (j := v7_22.toNatClampNeg) (r := rr_123) (ln := (fun _ => n_21)) (c0 := g 0) (c := rc_121) (vp_lt hj_131))) hPs
                  have hDs := D_perm (List.Perm.append_left _ (RW_split (m := n_20) (j := v7_22.toNatClampNeg) (r := rr_123) (ln := (fun _ => n_21)) (c0 := g 0) (c := rc_121) (vp_lt hj_131))) hDs
                  obtain ⟨hP, hD⟩ := seg_join [[(a_lengths, .inl (g 0, n_lengths, .inl lengths))], [(a_q_1, .inl (g 0, 4, .inl q1_14))], [(a_q_4, .inl (g 0, n_7, .inl q5_15))], [(a_q_16, .inl (g 3, n_20, .inr (.inr (.inr (.inr (rowf n_20 rr_123))))))]] [[((rr_123 v7_22.toNatClampNeg), .inl (g 0, ((fun _ => n_21) v7_22.toNatClampNeg), .inl (rc_121 v7_22.toNatClampNeg)))], RWx n_20 v7_22.toNatClampNeg rr_123 (g 0) (fun _ => n_21) rc_121] [[(a_lengths, .inl (g 0, n_lengths, .inl lengths))], [(a_q_1, .inl (g 0, 4, .inl q1_14))], [(a_q_4, .inl (g 0, n_7, .inl q5_15))], [(a_q_16, .inl (g 3, n_20, .inr (.inr (.inr (.inr (rowf n_20 rr_123))))))], [((rr_123 v7_22.toNatClampNeg), .inl (g 0, ((fun _ => n_21) v7_22.toNatClampNeg), .inl (rc_121 v7_22.toNatClampNeg)))], RWx n_20 v7_22.toNatClampNeg rr_123 (g 0) (fun _ => n_21) rc_121] 6 [0, 1, 2, 3, 4, 5] rfl rfl (by decide) hPs hDs
                  have hP : va_P (dC, dI) vwCl ([(a_lengths, .inl (g 0, n_lengths, .inl lengths)), (a_q_1, .inl (g 0, 4, .inl q1_14)), (a_q_4, .inl (g 0, n_7, .inl q5_15)), (a_q_16, .inl (g 3, n_20, .inr (.inr (.inr (.inr (rowf n_20 rr_123)))))), ((rr_123 v7_22.toNatClampNeg), .inl (g 0, ((fun _ => n_21) v7_22.toNatClampNeg), .inl (rc_121 v7_22.toNatClampNeg)))] ++ (RWx n_20 v7_22.toNatClampNeg rr_123 (g 0) (fun _ => n_21) rc_121)) H := hP
                  have hD : va_D A ([(a_lengths, .inl (g 0, n_lengths, .inl lengths)), (a_q_1, .inl (g 0, 4, .inl q1_14)), (a_q_4, .inl (g 0, n_7, .inl q5_15)), (a_q_16, .inl (g 3, n_20, .inr (.inr (.inr (.inr (rowf n_20 rr_123)))))), ((rr_123 v7_22.toNatClampNeg), .inl (g 0, ((fun _ => n_21) v7_22.toNatClampNeg), .inl (rc_121 v7_22.toNatClampNeg)))] ++ (RWx n_20 v7_22.toNatClampNeg rr_123 (g 0) (fun _ => n_21) rc_121)) := hD
                  refine va_iast hx hb hK hP hD hS 4 0 rfl rfl hw.1 dL_polyphase_147 (fun H_133 L_134 hP hD hS => ?_)
                  have hw := hw.2
                  have hP : va_P (dC, dI) vwCl ([(a_lengths, .inl (g 0, n_lengths, .inl lengths)), (a_q_1, .inl (g 0, 4, .inl q1_14)), (a_q_4, .inl (g 0, n_7, .inl q5_15)), (a_q_16, .inl (g 3, n_20, .inr (.inr (.inr (.inr (rowf n_20 rr_123)))))), ((rr_123 v7_22.toNatClampNeg), .inl (g 0, ((fun _ => n_21) v7_22.toNatClampNeg), .inl (upd (rc_121 v7_22.toNatClampNeg) v8_120.toNatClampNeg 0)))] ++ (RWx n_20 v7_22.toNatClampNeg rr_123 (g 0) (fun _ => n_21) rc_121)) H_133 := hP
                  have hD : va_D A ([(a_lengths, .inl (g 0, n_lengths, .inl lengths)), (a_q_1, .inl (g 0, 4, .inl q1_14)), (a_q_4, .inl (g 0, n_7, .inl q5_15)), (a_q_16, .inl (g 3, n_20, .inr (.inr (.inr (.inr (rowf n_20 rr_123)))))), ((rr_123 v7_22.toNatClampNeg), .inl (g 0, ((fun _ => n_21) v7_22.toNatClampNeg), .inl (upd (rc_121 v7_22.toNatClampNeg) v8_120.toNatClampNeg 0)))] ++ (RWx n_20 v7_22.toNatClampNeg rr_123 (g 0) (fun _ => n_21) rc_121)) := hD
                  obtain ⟨hPs, hDs⟩ := seg_call (segs := [[(a_lengths, .inl (g 0, n_lengths, .inl lengths))], [(a_q_1, .inl (g 0, 4, .inl q1_14))], [(a_q_4, .inl (g 0, n_7, .inl q5_15))], [(a_q_16, .inl (g 3, n_20, .inr (.inr (.inr (.inr (rowf n_20 rr_123))))))], [((rr_123 v7_22.toNatClampNeg), .inl (g 0, ((fun _ => n_21) v7_22.toNatClampNeg), .inl (upd (rc_121 v7_22.toNatClampNeg) v8_120.toNatClampNeg 0)))], RWx n_20 v7_22.toNatClampNeg rr_123 (g 0) (fun _ => n_21) rc_121]) [[(a_lengths, .inl (g 0, n_lengths, .inl lengths))], [(a_q_1, .inl (g 0, 4, .inl q1_14))], [(a_q_4, .inl (g 0, n_7, .inl q5_15))], [(a_q_16, .inl (g 3, n_20, .inr (.inr (.inr (.inr (rowf n_20 rr_123))))))]] [[((rr_123 v7_22.toNatClampNeg), .inl (g 0, ((fun _ => n_21) v7_22.toNatClampNeg), .inl (upd (rc_121 v7_22.toNatClampNeg) v8_120.toNatClampNeg 0)))], RWx n_20 v7_22.toNatClampNeg rr_123 (g 0) (fun _ => n_21) rc_121] 6 [0, 1, 2, 3, 4, 5] rfl rfl (by decide) hP hD
                  have hPs := P_perm (List.Perm.append_left _ (RW_join (m := n_20) (j := v7_22.toNatClampNeg) (r := rr_123) (ln := (fun _ => n_21)) (c0 := g 0) (c := rc_121) (f := (upd (rc_121 v7_22.toNatClampNeg) v8_120.toNatClampNeg 0)) (vp_lt hj_131))) hPs
                  have hDs := D_perm (List.Perm.append_left _ (RW_join (m := n_20) (j := v7_22.toNatClampNeg) (r := rr_123) (ln := (fun _ => n_21)) (c0 := g 0) (c := rc_121) (f := (upd (rc_121 v7_22.toNatClampNeg) v8_120.toNatClampNeg 0)) (vp_lt hj_131))) hDs
                  obtain ⟨hP, hD⟩ := seg_join [[(a_lengths, .inl (g 0, n_lengths, .inl lengths))], [(a_q_1, .inl (g 0, 4, .inl q1_14))], [(a_q_4, .inl (g 0, n_7, .inl q5_15))], [(a_q_16, .inl (g 3, n_20, .inr (.inr (.inr (.inr (rowf n_20 rr_123))))))]] [RWs n_20 rr_123 (g 0) (fun _ => n_21) (va_up rc_121 v7_22.toNatClampNeg (upd (rc_121 v7_22.toNatClampNeg) v8_120.toNatClampNeg 0))] [[(a_lengths, .inl (g 0, n_lengths, .inl lengths))], [(a_q_1, .inl (g 0, 4, .inl q1_14))], [(a_q_4, .inl (g 0, n_7, .inl q5_15))], [(a_q_16, .inl (g 3, n_20, .inr (.inr (.inr (.inr (rowf n_20 rr_123))))))], RWs n_20 rr_123 (g 0) (fun _ => n_21) (va_up rc_121 v7_22.toNatClampNeg (upd (rc_121 v7_22.toNatClampNeg) v8_120.toNatClampNeg 0))] 5 [0, 1, 2, 3, 4] rfl rfl (by decide) hPs hDs
                  have hP : va_P (dC, dI) vwCl ([(a_lengths, .inl (g 0, n_lengths, .inl lengths)), (a_q_1, .inl (g 0, 4, .inl q1_14)), (a_q_4, .inl (g 0, n_7, .inl q5_15)), (a_q_16, .inl (g 3, n_20, .inr (.inr (.inr (.inr (rowf n_20 rr_123))))))] ++ (RWs n_20 rr_123 (g 0) (fun _ => n_21) (va_up rc_121 v7_22.toNatClampNeg (upd (rc_121 v7_22.toNatClampNeg) v8_120.toNatClampNeg 0)))) H_133 := hP
                  have hD : va_D A ([(a_lengths, .inl (g 0, n_lengths, .inl lengths)), (a_q_1, .inl (g 0, 4, .inl q1_14)), (a_q_4, .inl (g 0, n_7, .inl q5_15)), (a_q_16, .inl (g 3, n_20, .inr (.inr (.inr (.inr (rowf n_20 rr_123))))))] ++ (RWs n_20 rr_123 (g 0) (fun _ => n_21) (va_up rc_121 v7_22.toNatClampNeg (upd (rc_121 v7_22.toNatClampNeg) v8_120.toNatClampNeg 0)))) := hD
                  obtain ⟨x_135, ex_135⟩ : ∃ y : Int32, y = v8_120 + 1 := ⟨_, rfl⟩
                  have hw := hw x_135 ex_135
                  refine lv_iinc (v := x_135) (lv' := [(8, .int x_135), (0, .ref a_lengths), (1, .int ways), (2, .ref a_q_1), (3, .ref a_q_4), (4, .int v4_13), (5, .ref a_q_16), (6, .int v6_122), (7, .int v7_22)]) hx hb dL_polyphase_148 hl (k := 8) rfl (by rw [ex_135]; rfl) (by decide) rfl (fun ls hl => ?_)
                  refine lv_goto (tgt := 113) hx hb dL_polyphase_151 (by decide) ?_
                  refine W.widen (k := 9) (n := 1216) (by omega) (by omega) ?_
                  exact ih113 x_135 (va_up rc_121 v7_22.toNatClampNeg (upd (rc_121 v7_22.toNatClampNeg) v8_120.toNatClampNeg 0)) v6_122 rr_123 _ _ hw hP hD hS _ (lv_sub hl [1, 2, 3, 4, 5, 6, 7, 8, 0] rfl)
                · have hw := hw.2 c_132
                  refine lv_aload_n hx hb dL_polyphase_136 rfl (lv_at hl 0 rfl) ?_
                  refine lv_iload hx hb dL_polyphase_137 (lv_at hl 6 rfl) ?_
                  obtain ⟨x_136, ex_136⟩ : ∃ y : Int32, y = v6_122 + 1 := ⟨_, rfl⟩
                  have hw := hw x_136 ex_136
                  refine lv_iinc (v := x_136) (lv' := [(6, .int x_136), (0, .ref a_lengths), (1, .int ways), (2, .ref a_q_1), (3, .ref a_q_4), (4, .int v4_13), (5, .ref a_q_16), (7, .int v7_22), (8, .int v8_120)]) hx hb dL_polyphase_139 hl (k := 6) rfl (by rw [ex_136]; rfl) (by decide) rfl (fun ls hl => ?_)
                  refine va_iald hx hb hK hP 0 0 rfl rfl hw.1 dL_polyphase_142 ?_
                  have hw := hw.2
                  refine lv_topi (fun x_137 ex_137 => ?_)
                  have hw := hw x_137 ex_137
                  refine lv_goto (tgt := 147) hx hb dL_polyphase_143 (by decide) ?_
                  obtain ⟨hPs, hDs⟩ := seg_call (segs := [[(a_lengths, .inl (g 0, n_lengths, .inl lengths))], [(a_q_1, .inl (g 0, 4, .inl q1_14))], [(a_q_4, .inl (g 0, n_7, .inl q5_15))], [(a_q_16, .inl (g 3, n_20, .inr (.inr (.inr (.inr (rowf n_20 rr_123))))))], RWs n_20 rr_123 (g 0) (fun _ => n_21) rc_121]) [[(a_lengths, .inl (g 0, n_lengths, .inl lengths))], [(a_q_1, .inl (g 0, 4, .inl q1_14))], [(a_q_4, .inl (g 0, n_7, .inl q5_15))], [(a_q_16, .inl (g 3, n_20, .inr (.inr (.inr (.inr (rowf n_20 rr_123))))))]] [RWs n_20 rr_123 (g 0) (fun _ => n_21) rc_121] 5 [0, 1, 2, 3, 4] rfl rfl (by decide) hP hD
                  have hPs := P_perm (List.Perm.append_left _ (RW_split (m := n_20) (j := v7_22.toNatClampNeg) (r := rr_123) (ln := (fun _ => n_21)) (c0 := g 0) (c := rc_121) (vp_lt hj_131))) hPs
                  have hDs := D_perm (List.Perm.append_left _ (RW_split (m := n_20) (j := v7_22.toNatClampNeg) (r := rr_123) (ln := (fun _ => n_21)) (c0 := g 0) (c := rc_121) (vp_lt hj_131))) hDs
                  obtain ⟨hP, hD⟩ := seg_join [[(a_lengths, .inl (g 0, n_lengths, .inl lengths))], [(a_q_1, .inl (g 0, 4, .inl q1_14))], [(a_q_4, .inl (g 0, n_7, .inl q5_15))], [(a_q_16, .inl (g 3, n_20, .inr (.inr (.inr (.inr (rowf n_20 rr_123))))))]] [[((rr_123 v7_22.toNatClampNeg), .inl (g 0, ((fun _ => n_21) v7_22.toNatClampNeg), .inl (rc_121 v7_22.toNatClampNeg)))], RWx n_20 v7_22.toNatClampNeg rr_123 (g 0) (fun _ => n_21) rc_121] [[(a_lengths, .inl (g 0, n_lengths, .inl lengths))], [(a_q_1, .inl (g 0, 4, .inl q1_14))], [(a_q_4, .inl (g 0, n_7, .inl q5_15))], [(a_q_16, .inl (g 3, n_20, .inr (.inr (.inr (.inr (rowf n_20 rr_123))))))], [((rr_123 v7_22.toNatClampNeg), .inl (g 0, ((fun _ => n_21) v7_22.toNatClampNeg), .inl (rc_121 v7_22.toNatClampNeg)))], RWx n_20 v7_22.toNatClampNeg rr_123 (g 0) (fun _ => n_21) rc_121] 6 [0, 1, 2, 3, 4, 5] rfl rfl (by decide) hPs hDs
                  have hP : va_P (dC, dI) vwCl ([(a_lengths, .inl (g 0, n_lengths, .inl lengths)), (a_q_1, .inl (g 0, 4, .inl q1_14)), (a_q_4, .inl (g 0, n_7, .inl q5_15)), (a_q_16, .inl (g 3, n_20, .inr (.inr (.inr (.inr (rowf n_20 rr_123)))))), ((rr_123 v7_22.toNatClampNeg), .inl (g 0, ((fun _ => n_21) v7_22.toNatClampNeg), .inl (rc_121 v7_22.toNatClampNeg)))] ++ (RWx n_20 v7_22.toNatClampNeg rr_123 (g 0) (fun _ => n_21) rc_121)) H := hP
                  have hD : va_D A ([(a_lengths, .inl (g 0, n_lengths, .inl lengths)), (a_q_1, .inl (g 0, 4, .inl q1_14)), (a_q_4, .inl (g 0, n_7, .inl q5_15)), (a_q_16, .inl (g 3, n_20, .inr (.inr (.inr (.inr (rowf n_20 rr_123)))))), ((rr_123 v7_22.toNatClampNeg), .inl (g 0, ((fun _ => n_21) v7_22.toNatClampNeg), .inl (rc_121 v7_22.toNatClampNeg)))] ++ (RWx n_20 v7_22.toNatClampNeg rr_123 (g 0) (fun _ => n_21) rc_121)) := hD
                  refine va_iast hx hb hK hP hD hS 4 0 rfl rfl hw.1 dL_polyphase_147 (fun H_138 L_139 hP hD hS => ?_)
                  have hw := hw.2
                  have hP : va_P (dC, dI) vwCl ([(a_lengths, .inl (g 0, n_lengths, .inl lengths)), (a_q_1, .inl (g 0, 4, .inl q1_14)), (a_q_4, .inl (g 0, n_7, .inl q5_15)), (a_q_16, .inl (g 3, n_20, .inr (.inr (.inr (.inr (rowf n_20 rr_123)))))), ((rr_123 v7_22.toNatClampNeg), .inl (g 0, ((fun _ => n_21) v7_22.toNatClampNeg), .inl (upd (rc_121 v7_22.toNatClampNeg) v8_120.toNatClampNeg x_137)))] ++ (RWx n_20 v7_22.toNatClampNeg rr_123 (g 0) (fun _ => n_21) rc_121)) H_138 := hP
                  have hD : va_D A ([(a_lengths, .inl (g 0, n_lengths, .inl lengths)), (a_q_1, .inl (g 0, 4, .inl q1_14)), (a_q_4, .inl (g 0, n_7, .inl q5_15)), (a_q_16, .inl (g 3, n_20, .inr (.inr (.inr (.inr (rowf n_20 rr_123)))))), ((rr_123 v7_22.toNatClampNeg), .inl (g 0, ((fun _ => n_21) v7_22.toNatClampNeg), .inl (upd (rc_121 v7_22.toNatClampNeg) v8_120.toNatClampNeg x_137)))] ++ (RWx n_20 v7_22.toNatClampNeg rr_123 (g 0) (fun _ => n_21) rc_121)) := hD
                  obtain ⟨hPs, hDs⟩ := seg_call (segs := [[(a_lengths, .inl (g 0, n_lengths, .inl lengths))], [(a_q_1, .inl (g 0, 4, .inl q1_14))], [(a_q_4, .inl (g 0, n_7, .inl q5_15))], [(a_q_16, .inl (g 3, n_20, .inr (.inr (.inr (.inr (rowf n_20 rr_123))))))], [((rr_123 v7_22.toNatClampNeg), .inl (g 0, ((fun _ => n_21) v7_22.toNatClampNeg), .inl (upd (rc_121 v7_22.toNatClampNeg) v8_120.toNatClampNeg x_137)))], RWx n_20 v7_22.toNatClampNeg rr_123 (g 0) (fun _ => n_21) rc_121]) [[(a_lengths, .inl (g 0, n_lengths, .inl lengths))], [(a_q_1, .inl (g 0, 4, .inl q1_14))], [(a_q_4, .inl (g 0, n_7, .inl q5_15))], [(a_q_16, .inl (g 3, n_20, .inr (.inr (.inr (.inr (rowf n_20 rr_123))))))]] [[((rr_123 v7_22.toNatClampNeg), .inl (g 0, ((fun _ => n_21) v7_22.toNatClampNeg), .inl (upd (rc_121 v7_22.toNatClampNeg) v8_120.toNatClampNeg x_137)))], RWx n_20 v7_22.toNatClampNeg rr_123 (g 0) (fun _ => n_21) rc_121] 6 [0, 1, 2, 3, 4, 5] rfl rfl (by decide) hP hD
                  have hPs := P_perm (List.Perm.append_left _ (RW_join (m := n_20) (j := v7_22.toNatClampNeg) (r := rr_123) (ln := (fun _ => n_21)) (c0 := g 0) (c := rc_121) (f := (upd (rc_121 v7_22.toNatClampNeg) v8_120.toNatClampNeg x_137)) (vp_lt hj_131))) hPs
                  have hDs := D_perm (List.Perm.append_left _ (RW_join (m := n_20) (j := v7_22.toNatClampNeg) (r := rr_123) (ln := (fun _ => n_21)) (c0 := g 0) (c := rc_121) (f := (upd (rc_121 v7_22.toNatClampNeg) v8_120.toNatClampNeg x_137)) (vp_lt hj_131))) hDs
                  obtain ⟨hP, hD⟩ := seg_join [[(a_lengths, .inl (g 0, n_lengths, .inl lengths))], [(a_q_1, .inl (g 0, 4, .inl q1_14))], [(a_q_4, .inl (g 0, n_7, .inl q5_15))], [(a_q_16, .inl (g 3, n_20, .inr (.inr (.inr (.inr (rowf n_20 rr_123))))))]] [RWs n_20 rr_123 (g 0) (fun _ => n_21) (va_up rc_121 v7_22.toNatClampNeg (upd (rc_121 v7_22.toNatClampNeg) v8_120.toNatClampNeg x_137))] [[(a_lengths, .inl (g 0, n_lengths, .inl lengths))], [(a_q_1, .inl (g 0, 4, .inl q1_14))], [(a_q_4, .inl (g 0, n_7, .inl q5_15))], [(a_q_16, .inl (g 3, n_20, .inr (.inr (.inr (.inr (rowf n_20 rr_123))))))], RWs n_20 rr_123 (g 0) (fun _ => n_21) (va_up rc_121 v7_22.toNatClampNeg (upd (rc_121 v7_22.toNatClampNeg) v8_120.toNatClampNeg x_137))] 5 [0, 1, 2, 3, 4] rfl rfl (by decide) hPs hDs
                  have hP : va_P (dC, dI) vwCl ([(a_lengths, .inl (g 0, n_lengths, .inl lengths)), (a_q_1, .inl (g 0, 4, .inl q1_14)), (a_q_4, .inl (g 0, n_7, .inl q5_15)), (a_q_16, .inl (g 3, n_20, .inr (.inr (.inr (.inr (rowf n_20 rr_123))))))] ++ (RWs n_20 rr_123 (g 0) (fun _ => n_21) (va_up rc_121 v7_22.toNatClampNeg (upd (rc_121 v7_22.toNatClampNeg) v8_120.toNatClampNeg x_137)))) H_138 := hP
                  have hD : va_D A ([(a_lengths, .inl (g 0, n_lengths, .inl lengths)), (a_q_1, .inl (g 0, 4, .inl q1_14)), (a_q_4, .inl (g 0, n_7, .inl q5_15)), (a_q_16, .inl (g 3, n_20, .inr (.inr (.inr (.inr (rowf n_20 rr_123))))))] ++ (RWs n_20 rr_123 (g 0) (fun _ => n_21) (va_up rc_121 v7_22.toNatClampNeg (upd (rc_121 v7_22.toNatClampNeg) v8_120.toNatClampNeg x_137)))) := hD
                  obtain ⟨x_140, ex_140⟩ : ∃ y : Int32, y = v8_120 + 1 := ⟨_, rfl⟩
                  have hw := hw x_140 ex_140
                  refine lv_iinc (v := x_140) (lv' := [(8, .int x_140), (6, .int x_136), (0, .ref a_lengths), (1, .int ways), (2, .ref a_q_1), (3, .ref a_q_4), (4, .int v4_13), (5, .ref a_q_16), (7, .int v7_22)]) hx hb dL_polyphase_148 hl (k := 8) rfl (by rw [ex_140]; rfl) (by decide) rfl (fun ls hl => ?_)
                  refine lv_goto (tgt := 113) hx hb dL_polyphase_151 (by decide) ?_
                  refine W.widen (k := 9) (n := 1216) (by omega) (by omega) ?_
                  exact ih113 x_140 (va_up rc_121 v7_22.toNatClampNeg (upd (rc_121 v7_22.toNatClampNeg) v8_120.toNatClampNeg x_137)) x_136 rr_123 _ _ hw hP hD hS _ (lv_sub hl [2, 3, 4, 5, 6, 7, 1, 8, 0] rfl)
          obtain ⟨n113, hw⟩ := hw
          refine W.widen (k := 9) (n := 1216) (by omega) (by omega) ?_
          exact LOOP113 n113 0 rc_23 v6_24 rr_25 _ _ hw hP hD hS _ (lv_sub hl [1, 2, 3, 4, 5, 6, 7, 8, 0] rfl)
    obtain ⟨n104, hw⟩ := hw
    refine W.widen (k := 9) (n := 1216) (by omega) (by omega) ?_
    exact LOOP104 n104 0 (fun _ _ => 0) 0 rr_19 _ _ hw hP hD hS _ (lv_sub hl [3, 4, 5, 6, 7, 2, 1, 0] rfl)
  have LOOP15 : ∀ (n15 : Nat) (v4_10 : Int32) (q1_11 : Nat → Int32) (q5_12 : Nat → Int32) (H : Heap) (locs : List Loc), wl_L_polyphase_15 n_lengths ways n_7 (wx_L_polyphase_15_89 n_lengths lengths ways Q n_7) n15 v4_10 q1_11 q5_12 → va_P (dC, dI) vwCl [(a_lengths, .inl (g 0, n_lengths, .inl lengths)), (a_q_1, .inl (g 0, 4, .inl q1_11)), (a_q_4, .inl (g 0, n_7, .inl q5_12))] H → va_D A [(a_lengths, .inl (g 0, n_lengths, .inl lengths)), (a_q_1, .inl (g 0, 4, .inl q1_11)), (a_q_4, .inl (g 0, n_7, .inl q5_12))] → va_S A s.heap H locs → ∀ (ls : Array Slot), lv_has ls 12 [(0, .ref a_lengths), (1, .int ways), (2, .ref a_q_1), (3, .ref a_q_4), (4, .int v4_10)] → W p l e (headSpec wqL_polyphase ({ frames := 0, cells := 33, slots := 6016, locals := 0 })).room s m ([.ref a_lengths, .int ways] : List Value).toArray below meth c H locs 2 10 QM (F0 m 15 ls []) := by
    intro n15
    induction n15 with
    | zero =>
      intro v4_10 q1_11 q5_12 H locs hw hP hD hS ls hl
      exact False.elim hw
    | succ n15 ih15 =>
      intro v4_10 q1_11 q5_12 H locs hw hP hD hS ls hl
      rw [wl_L_polyphase_15_s] at hw
      refine lv_iload hx hb dL_polyphase_15 (lv_at hl 4 rfl) ?_
      refine lv_aload_n hx hb dL_polyphase_17 rfl (lv_at hl 0 rfl) ?_
      refine va_alen hx hb hK hP 0 0 rfl rfl (v := nI n_lengths) rfl dL_polyphase_18 ?_
      refine lv_icmp_ge (tgt := 89) hx hb dL_polyphase_19 (by decide) (fun c_141 => ?_) (fun c_141 => ?_)
      · have hw := hw.1 c_141
        refine W.widen (k := 2) (n := 10) (by omega) (by omega) ?_
        exact EX15_89 v4_10 q1_11 q5_12 _ _ hw hP hD hS _ (lv_sub hl [0, 1, 2, 3, 4] rfl)
      · have hw := hw.2 c_141
        refine lv_aload_n hx hb dL_polyphase_22 rfl (lv_at hl 3 rfl) ?_
        refine lv_iconst (v := 0) hx hb dL_polyphase_23 (by decide) ?_
        refine va_iald hx hb hK hP 2 0 rfl rfl hw.1 dL_polyphase_24 ?_
        have hw := hw.2
        refine lv_topi (fun x_142 ex_142 => ?_)
        have hw := hw x_142 ex_142
        refine lv_istore (lv' := [(5, .int x_142), (0, .ref a_lengths), (1, .int ways), (2, .ref a_q_1), (3, .ref a_q_4), (4, .int v4_10)]) hx hb dL_polyphase_25 hl (by decide) rfl (fun ls hl => ?_)
        refine lv_iconst (v := 0) hx hb dL_polyphase_27 (by decide) ?_
        refine lv_istore (lv' := [(4, .int 0), (5, .int x_142), (0, .ref a_lengths), (1, .int ways), (2, .ref a_q_1), (3, .ref a_q_4)]) hx hb dL_polyphase_28 hl (by decide) rfl (fun ls hl => ?_)
        refine lv_iconst (v := 0) hx hb dL_polyphase_30 (by decide) ?_
        refine lv_istore (lv' := [(6, .int 0), (4, .int 0), (5, .int x_142), (0, .ref a_lengths), (1, .int ways), (2, .ref a_q_1), (3, .ref a_q_4)]) hx hb dL_polyphase_31 hl (by decide) rfl (fun ls hl => ?_)
        have EX33_79 : ∀ (v4_146 : Int32) (q5_147 : Nat → Int32) (H : Heap) (locs : List Loc), (wx_L_polyphase_33_79 q1_11 (wl_L_polyphase_15 n_lengths ways n_7 (wx_L_polyphase_15_89 n_lengths lengths ways Q n_7) n15)) v4_146 q5_147 → va_P (dC, dI) vwCl [(a_lengths, .inl (g 0, n_lengths, .inl lengths)), (a_q_1, .inl (g 0, 4, .inl q1_11)), (a_q_4, .inl (g 0, n_7, .inl q5_147))] H → va_D A [(a_lengths, .inl (g 0, n_lengths, .inl lengths)), (a_q_1, .inl (g 0, 4, .inl q1_11)), (a_q_4, .inl (g 0, n_7, .inl q5_147))] → va_S A s.heap H locs → ∀ (ls : Array Slot), lv_has ls 12 [(0, .ref a_lengths), (1, .int ways), (2, .ref a_q_1), (3, .ref a_q_4), (4, .int v4_146)] → W p l e (headSpec wqL_polyphase ({ frames := 0, cells := 33, slots := 6016, locals := 0 })).room s m ([.ref a_lengths, .int ways] : List Value).toArray below meth c H locs 2 10 QM (F0 m 79 ls []) := by
          intro v4_146 q5_147 H locs hw hP hD hS ls hl
          refine lv_aload_n hx hb dL_polyphase_79 rfl (lv_at hl 2 rfl) ?_
          refine lv_iconst (v := 3) hx hb dL_polyphase_80 (by decide) ?_
          refine lv_dup2_11 hx hb dL_polyphase_81 rfl rfl ?_
          refine va_iald hx hb hK hP 1 0 rfl rfl (by unfold vp_in; decide) dL_polyphase_82 ?_
          refine lv_topi (fun x_148 ex_148 => ?_)
          have hw := hw x_148 ex_148
          refine lv_iconst (v := 1) hx hb dL_polyphase_83 (by decide) ?_
          refine lv_iadd hx hb dL_polyphase_84 ?_
          refine lv_topi (fun x_149 ex_149 => ?_)
          have hw := hw x_149 ex_149
          refine va_iast hx hb hK hP hD hS 1 0 rfl rfl (by unfold vp_in; decide) dL_polyphase_85 (fun H_150 L_151 hP hD hS => ?_)
          have hP : va_P (dC, dI) vwCl [(a_lengths, .inl (g 0, n_lengths, .inl lengths)), (a_q_1, .inl (g 0, 4, .inl (upd q1_11 (3 : Int32).toNatClampNeg x_149))), (a_q_4, .inl (g 0, n_7, .inl q5_147))] H_150 := hP
          have hD : va_D A [(a_lengths, .inl (g 0, n_lengths, .inl lengths)), (a_q_1, .inl (g 0, 4, .inl (upd q1_11 (3 : Int32).toNatClampNeg x_149))), (a_q_4, .inl (g 0, n_7, .inl q5_147))] := hD
          refine lv_goto (tgt := 15) hx hb dL_polyphase_86 (by decide) ?_
          refine W.widen (k := 2) (n := 10) (by omega) (by omega) ?_
          exact ih15 v4_146 (upd q1_11 (3 : Int32).toNatClampNeg x_149) q5_147 _ _ hw hP hD hS _ (lv_sub hl [0, 1, 2, 3, 4] rfl)
        have LOOP33 : ∀ (n33 : Nat) (v6_143 : Int32) (v4_144 : Int32) (q5_145 : Nat → Int32) (H : Heap) (locs : List Loc), wl_L_polyphase_33 ways n_7 x_142 (wx_L_polyphase_33_79 q1_11 (wl_L_polyphase_15 n_lengths ways n_7 (wx_L_polyphase_15_89 n_lengths lengths ways Q n_7) n15)) n33 v6_143 v4_144 q5_145 → va_P (dC, dI) vwCl [(a_lengths, .inl (g 0, n_lengths, .inl lengths)), (a_q_1, .inl (g 0, 4, .inl q1_11)), (a_q_4, .inl (g 0, n_7, .inl q5_145))] H → va_D A [(a_lengths, .inl (g 0, n_lengths, .inl lengths)), (a_q_1, .inl (g 0, 4, .inl q1_11)), (a_q_4, .inl (g 0, n_7, .inl q5_145))] → va_S A s.heap H locs → ∀ (ls : Array Slot), lv_has ls 12 [(0, .ref a_lengths), (1, .int ways), (2, .ref a_q_1), (3, .ref a_q_4), (4, .int v4_144), (5, .int x_142), (6, .int v6_143)] → W p l e (headSpec wqL_polyphase ({ frames := 0, cells := 33, slots := 6016, locals := 0 })).room s m ([.ref a_lengths, .int ways] : List Value).toArray below meth c H locs 2 10 QM (F0 m 33 ls []) := by
          intro n33
          induction n33 with
          | zero =>
            intro v6_143 v4_144 q5_145 H locs hw hP hD hS ls hl
            exact False.elim hw
          | succ n33 ih33 =>
            intro v6_143 v4_144 q5_145 H locs hw hP hD hS ls hl
            rw [wl_L_polyphase_33_s] at hw
            refine lv_iload hx hb dL_polyphase_33 (lv_at hl 6 rfl) ?_
            refine lv_iload_n hx hb dL_polyphase_35 rfl (lv_at hl 1 rfl) ?_
            refine lv_icmp_ge (tgt := 79) hx hb dL_polyphase_36 (by decide) (fun c_152 => ?_) (fun c_152 => ?_)
            · have hw := hw.1 c_152
              refine W.widen (k := 2) (n := 10) (by omega) (by omega) ?_
              exact EX33_79 v4_144 q5_145 _ _ hw hP hD hS _ (lv_sub hl [0, 1, 2, 3, 4] rfl)
            · have hw := hw.2 c_152
              refine lv_aload_n hx hb dL_polyphase_39 rfl (lv_at hl 3 rfl) ?_
              refine lv_iload hx hb dL_polyphase_40 (lv_at hl 6 rfl) ?_
              refine lv_iload hx hb dL_polyphase_42 (lv_at hl 5 rfl) ?_
              refine lv_iload hx hb dL_polyphase_44 (lv_at hl 6 rfl) ?_
              refine lv_iconst (v := 1) hx hb dL_polyphase_46 (by decide) ?_
              refine lv_iadd hx hb dL_polyphase_47 ?_
              refine lv_topi (fun x_153 ex_153 => ?_)
              have hw := hw x_153 ex_153
              refine lv_iload_n hx hb dL_polyphase_48 rfl (lv_at hl 1 rfl) ?_
              have JN62 : ∀ (sk0_154 : Int32) (H : Heap) (locs : List Loc), (wj_L_polyphase_62 n_7 x_142 v6_143 v4_144 q5_145 (wl_L_polyphase_33 ways n_7 x_142 (wx_L_polyphase_33_79 q1_11 (wl_L_polyphase_15 n_lengths ways n_7 (wx_L_polyphase_15_89 n_lengths lengths ways Q n_7) n15)) n33)) sk0_154 → va_P (dC, dI) vwCl [(a_lengths, .inl (g 0, n_lengths, .inl lengths)), (a_q_1, .inl (g 0, 4, .inl q1_11)), (a_q_4, .inl (g 0, n_7, .inl q5_145))] H → va_D A [(a_lengths, .inl (g 0, n_lengths, .inl lengths)), (a_q_1, .inl (g 0, 4, .inl q1_11)), (a_q_4, .inl (g 0, n_7, .inl q5_145))] → va_S A s.heap H locs → ∀ (ls : Array Slot), lv_has ls 12 [(0, .ref a_lengths), (1, .int ways), (2, .ref a_q_1), (3, .ref a_q_4), (4, .int v4_144), (5, .int x_142), (6, .int v6_143)] → W p l e (headSpec wqL_polyphase ({ frames := 0, cells := 33, slots := 6016, locals := 0 })).room s m ([.ref a_lengths, .int ways] : List Value).toArray below meth c H locs 2 10 QM (F0 m 62 ls [.int sk0_154, .int x_142, .int v6_143, .ref a_q_4]) := by
                intro sk0_154 H locs hw hP hD hS ls hl
                refine lv_iadd hx hb dL_polyphase_62 ?_
                refine lv_topi (fun x_155 ex_155 => ?_)
                have hw := hw x_155 ex_155
                refine va_iast hx hb hK hP hD hS 2 0 rfl rfl hw.1 dL_polyphase_63 (fun H_156 L_157 hP hD hS => ?_)
                have hw := hw.2
                have hP : va_P (dC, dI) vwCl [(a_lengths, .inl (g 0, n_lengths, .inl lengths)), (a_q_1, .inl (g 0, 4, .inl q1_11)), (a_q_4, .inl (g 0, n_7, .inl (upd q5_145 v6_143.toNatClampNeg x_155)))] H_156 := hP
                have hD : va_D A [(a_lengths, .inl (g 0, n_lengths, .inl lengths)), (a_q_1, .inl (g 0, 4, .inl q1_11)), (a_q_4, .inl (g 0, n_7, .inl (upd q5_145 v6_143.toNatClampNeg x_155)))] := hD
                refine lv_iload hx hb dL_polyphase_64 (lv_at hl 4 rfl) ?_
                refine lv_aload_n hx hb dL_polyphase_66 rfl (lv_at hl 3 rfl) ?_
                refine lv_iload hx hb dL_polyphase_67 (lv_at hl 6 rfl) ?_
                refine va_iald hx hb hK hP 2 0 rfl rfl hw.1 dL_polyphase_69 ?_
                have hw := hw.2
                refine lv_topi (fun x_158 ex_158 => ?_)
                have hw := hw x_158 ex_158
                refine lv_iadd hx hb dL_polyphase_70 ?_
                refine lv_topi (fun x_159 ex_159 => ?_)
                have hw := hw x_159 ex_159
                refine lv_istore (lv' := [(4, .int x_159), (0, .ref a_lengths), (1, .int ways), (2, .ref a_q_1), (3, .ref a_q_4), (5, .int x_142), (6, .int v6_143)]) hx hb dL_polyphase_71 hl (by decide) rfl (fun ls hl => ?_)
                obtain ⟨x_160, ex_160⟩ : ∃ y : Int32, y = v6_143 + 1 := ⟨_, rfl⟩
                have hw := hw x_160 ex_160
                refine lv_iinc (v := x_160) (lv' := [(6, .int x_160), (4, .int x_159), (0, .ref a_lengths), (1, .int ways), (2, .ref a_q_1), (3, .ref a_q_4), (5, .int x_142)]) hx hb dL_polyphase_73 hl (k := 6) rfl (by rw [ex_160]; rfl) (by decide) rfl (fun ls hl => ?_)
                refine lv_goto (tgt := 33) hx hb dL_polyphase_76 (by decide) ?_
                refine W.widen (k := 2) (n := 10) (by omega) (by omega) ?_
                exact ih33 x_160 x_159 (upd q5_145 v6_143.toNatClampNeg x_155) _ _ hw hP hD hS _ (lv_sub hl [2, 3, 4, 5, 1, 6, 0] rfl)
              refine lv_icmp_ge (tgt := 61) hx hb dL_polyphase_49 (by decide) (fun c_161 => ?_) (fun c_161 => ?_)
              · have hw := hw.1 c_161
                refine lv_iconst (v := 0) hx hb dL_polyphase_61 (by decide) ?_
                refine W.widen (k := 2) (n := 10) (by omega) (by omega) ?_
                exact JN62 0 _ _ hw hP hD hS _ (lv_sub hl [0, 1, 2, 3, 4, 5, 6] rfl)
              · have hw := hw.2 c_161
                refine lv_aload_n hx hb dL_polyphase_52 rfl (lv_at hl 3 rfl) ?_
                refine lv_iload hx hb dL_polyphase_53 (lv_at hl 6 rfl) ?_
                refine lv_iconst (v := 1) hx hb dL_polyphase_55 (by decide) ?_
                refine lv_iadd hx hb dL_polyphase_56 ?_
                refine lv_topi (fun x_162 ex_162 => ?_)
                have hw := hw x_162 ex_162
                refine va_iald hx hb hK hP 2 0 rfl rfl hw.1 dL_polyphase_57 ?_
                have hw := hw.2
                refine lv_topi (fun x_163 ex_163 => ?_)
                have hw := hw x_163 ex_163
                refine lv_goto (tgt := 62) hx hb dL_polyphase_58 (by decide) ?_
                refine W.widen (k := 2) (n := 10) (by omega) (by omega) ?_
                exact JN62 x_163 _ _ hw hP hD hS _ (lv_sub hl [0, 1, 2, 3, 4, 5, 6] rfl)
        obtain ⟨n33, hw⟩ := hw
        refine W.widen (k := 2) (n := 10) (by omega) (by omega) ?_
        exact LOOP33 n33 0 0 q5_12 _ _ hw hP hD hS _ (lv_sub hl [3, 4, 5, 6, 1, 2, 0] rfl)
  obtain ⟨n15, hw⟩ := hw
  refine W.widen (k := 2) (n := 10) (by omega) (by omega) ?_
  exact LOOP15 n15 1 (fun _ => 0) (upd (fun _ => 0) (0 : Int32).toNatClampNeg 1) _ _ hw hP hD hS _ (lv_sub hl [3, 4, 2, 1, 0] rfl)
theorem dL_planned_0 : decode cL_planned 0 = .ok (.iconst 4, 1) := by decide +kernel
theorem dL_planned_1 : decode cL_planned 1 = .ok (.newarray .int, 2) := by decide +kernel
theorem dL_planned_3 : decode cL_planned 3 = .ok (.astore_n 3, 1) := by decide +kernel
theorem dL_planned_4 : decode cL_planned 4 = .ok (.aload_n 0, 1) := by decide +kernel
theorem dL_planned_5 : decode cL_planned 5 = .ok (.arraylength, 1) := by decide +kernel
theorem dL_planned_6 : decode cL_planned 6 = .ok (.iconst 1, 1) := by decide +kernel
theorem dL_planned_7 : decode cL_planned 7 = .ok (.iadd, 1) := by decide +kernel
theorem dL_planned_8 : decode cL_planned 8 = .ok (.newarray .int, 2) := by decide +kernel
theorem dL_planned_10 : decode cL_planned 10 = .ok (.astore 4, 2) := by decide +kernel
theorem dL_planned_12 : decode cL_planned 12 = .ok (.aload_n 0, 1) := by decide +kernel
theorem dL_planned_13 : decode cL_planned 13 = .ok (.arraylength, 1) := by decide +kernel
theorem dL_planned_14 : decode cL_planned 14 = .ok (.istore 5, 2) := by decide +kernel
theorem dL_planned_16 : decode cL_planned 16 = .ok (.iconst 0, 1) := by decide +kernel
theorem dL_planned_17 : decode cL_planned 17 = .ok (.istore 6, 2) := by decide +kernel
theorem dL_planned_41 : decode cL_planned 41 = .ok (.iload_n 1, 1) := by decide +kernel
theorem dL_planned_42 : decode cL_planned 42 = .ok (.iconst 2, 1) := by decide +kernel
theorem dL_planned_43 : decode cL_planned 43 = .ok (.if_icmp .ne 9, 3) := by decide +kernel
theorem dL_planned_239 : decode cL_planned 239 = .ok (.aload_n 3, 1) := by decide +kernel
theorem dL_planned_240 : decode cL_planned 240 = .ok (.areturn, 1) := by decide +kernel
theorem dL_planned_52 : decode cL_planned 52 = .ok (.iload 5, 2) := by decide +kernel
theorem dL_planned_54 : decode cL_planned 54 = .ok (.iconst 1, 1) := by decide +kernel
theorem dL_planned_55 : decode cL_planned 55 = .ok (.if_icmp .le 184, 3) := by decide +kernel
theorem dL_planned_58 : decode cL_planned 58 = .ok (.aload_n 3, 1) := by decide +kernel
theorem dL_planned_59 : decode cL_planned 59 = .ok (.iconst 0, 1) := by decide +kernel
theorem dL_planned_60 : decode cL_planned 60 = .ok (.dup2, 1) := by decide +kernel
theorem dL_planned_61 : decode cL_planned 61 = .ok (.iaload, 1) := by decide +kernel
theorem dL_planned_62 : decode cL_planned 62 = .ok (.iconst 1, 1) := by decide +kernel
theorem dL_planned_63 : decode cL_planned 63 = .ok (.iadd, 1) := by decide +kernel
theorem dL_planned_64 : decode cL_planned 64 = .ok (.iastore, 1) := by decide +kernel
theorem dL_planned_65 : decode cL_planned 65 = .ok (.iload_n 1, 1) := by decide +kernel
theorem dL_planned_66 : decode cL_planned 66 = .ok (.iconst 1, 1) := by decide +kernel
theorem dL_planned_67 : decode cL_planned 67 = .ok (.if_icmp .ne 72, 3) := by decide +kernel
theorem dL_planned_139 : decode cL_planned 139 = .ok (.iconst 0, 1) := by decide +kernel
theorem dL_planned_140 : decode cL_planned 140 = .ok (.istore 6, 2) := by decide +kernel
theorem dL_planned_142 : decode cL_planned 142 = .ok (.iconst 0, 1) := by decide +kernel
theorem dL_planned_143 : decode cL_planned 143 = .ok (.istore 7, 2) := by decide +kernel
theorem dL_planned_232 : decode cL_planned 232 = .ok (.iload 6, 2) := by decide +kernel
theorem dL_planned_234 : decode cL_planned 234 = .ok (.istore 5, 2) := by decide +kernel
theorem dL_planned_236 : decode cL_planned 236 = .ok (.goto (-184), 3) := by decide +kernel
theorem dL_planned_145 : decode cL_planned 145 = .ok (.iload 7, 2) := by decide +kernel
theorem dL_planned_147 : decode cL_planned 147 = .ok (.iload 5, 2) := by decide +kernel
theorem dL_planned_149 : decode cL_planned 149 = .ok (.if_icmp .ge 83, 3) := by decide +kernel
theorem dL_planned_152 : decode cL_planned 152 = .ok (.iconst 0, 1) := by decide +kernel
theorem dL_planned_153 : decode cL_planned 153 = .ok (.istore 8, 2) := by decide +kernel
theorem dL_planned_155 : decode cL_planned 155 = .ok (.iload 7, 2) := by decide +kernel
theorem dL_planned_157 : decode cL_planned 157 = .ok (.istore 9, 2) := by decide +kernel
theorem dL_planned_189 : decode cL_planned 189 = .ok (.iload 7, 2) := by decide +kernel
theorem dL_planned_191 : decode cL_planned 191 = .ok (.iconst 1, 1) := by decide +kernel
theorem dL_planned_192 : decode cL_planned 192 = .ok (.iadd, 1) := by decide +kernel
theorem dL_planned_193 : decode cL_planned 193 = .ok (.iload 5, 2) := by decide +kernel
theorem dL_planned_213 : decode cL_planned 213 = .ok (.aload 4, 2) := by decide +kernel
theorem dL_planned_215 : decode cL_planned 215 = .ok (.iload 6, 2) := by decide +kernel
theorem dL_planned_217 : decode cL_planned 217 = .ok (.iinc 6 1, 3) := by decide +kernel
theorem dL_planned_220 : decode cL_planned 220 = .ok (.iload 8, 2) := by decide +kernel
theorem dL_planned_222 : decode cL_planned 222 = .ok (.iastore, 1) := by decide +kernel
theorem dL_planned_223 : decode cL_planned 223 = .ok (.iload 7, 2) := by decide +kernel
theorem dL_planned_225 : decode cL_planned 225 = .ok (.iload_n 2, 1) := by decide +kernel
theorem dL_planned_226 : decode cL_planned 226 = .ok (.iadd, 1) := by decide +kernel
theorem dL_planned_227 : decode cL_planned 227 = .ok (.istore 7, 2) := by decide +kernel
theorem dL_planned_229 : decode cL_planned 229 = .ok (.goto (-84), 3) := by decide +kernel
theorem dL_planned_195 : decode cL_planned 195 = .ok (.if_icmp .ge 18, 3) := by decide +kernel
theorem dL_planned_198 : decode cL_planned 198 = .ok (.aload_n 3, 1) := by decide +kernel
theorem dL_planned_199 : decode cL_planned 199 = .ok (.iconst 1, 1) := by decide +kernel
theorem dL_planned_200 : decode cL_planned 200 = .ok (.dup2, 1) := by decide +kernel
theorem dL_planned_201 : decode cL_planned 201 = .ok (.iaload, 1) := by decide +kernel
theorem dL_planned_202 : decode cL_planned 202 = .ok (.iload 8, 2) := by decide +kernel
theorem dL_planned_204 : decode cL_planned 204 = .ok (.iadd, 1) := by decide +kernel
theorem dL_planned_205 : decode cL_planned 205 = .ok (.iastore, 1) := by decide +kernel
theorem dL_planned_206 : decode cL_planned 206 = .ok (.aload_n 3, 1) := by decide +kernel
theorem dL_planned_207 : decode cL_planned 207 = .ok (.iconst 2, 1) := by decide +kernel
theorem dL_planned_208 : decode cL_planned 208 = .ok (.dup2, 1) := by decide +kernel
theorem dL_planned_209 : decode cL_planned 209 = .ok (.iaload, 1) := by decide +kernel
theorem dL_planned_210 : decode cL_planned 210 = .ok (.iconst 1, 1) := by decide +kernel
theorem dL_planned_211 : decode cL_planned 211 = .ok (.iadd, 1) := by decide +kernel
theorem dL_planned_212 : decode cL_planned 212 = .ok (.iastore, 1) := by decide +kernel
theorem dL_planned_159 : decode cL_planned 159 = .ok (.iload 9, 2) := by decide +kernel
theorem dL_planned_161 : decode cL_planned 161 = .ok (.iload 5, 2) := by decide +kernel
theorem dL_planned_163 : decode cL_planned 163 = .ok (.iload 7, 2) := by decide +kernel
theorem dL_planned_165 : decode cL_planned 165 = .ok (.iload_n 2, 1) := by decide +kernel
theorem dL_planned_166 : decode cL_planned 166 = .ok (.iadd, 1) := by decide +kernel
theorem dL_planned_167 : decode cL_planned 167 = .ok (.invokestatic 127, 3) := by decide +kernel
theorem dL_planned_170 : decode cL_planned 170 = .ok (.if_icmp .ge 19, 3) := by decide +kernel
theorem dL_planned_173 : decode cL_planned 173 = .ok (.iload 8, 2) := by decide +kernel
theorem dL_planned_175 : decode cL_planned 175 = .ok (.aload 4, 2) := by decide +kernel
theorem dL_planned_177 : decode cL_planned 177 = .ok (.iload 9, 2) := by decide +kernel
theorem dL_planned_179 : decode cL_planned 179 = .ok (.iaload, 1) := by decide +kernel
theorem dL_planned_180 : decode cL_planned 180 = .ok (.iadd, 1) := by decide +kernel
theorem dL_planned_181 : decode cL_planned 181 = .ok (.istore 8, 2) := by decide +kernel
theorem dL_planned_183 : decode cL_planned 183 = .ok (.iinc 9 1, 3) := by decide +kernel
theorem dL_planned_186 : decode cL_planned 186 = .ok (.goto (-27), 3) := by decide +kernel
theorem dL_planned_70 : decode cL_planned 70 = .ok (.aload 4, 2) := by decide +kernel
theorem dL_planned_72 : decode cL_planned 72 = .ok (.iload 5, 2) := by decide +kernel
theorem dL_planned_74 : decode cL_planned 74 = .ok (.aload 4, 2) := by decide +kernel
theorem dL_planned_76 : decode cL_planned 76 = .ok (.iload 5, 2) := by decide +kernel
theorem dL_planned_78 : decode cL_planned 78 = .ok (.invokestatic 152, 3) := by decide +kernel
theorem dL_planned_81 : decode cL_planned 81 = .ok (.invokestatic 155, 3) := by decide +kernel
theorem dL_planned_84 : decode cL_planned 84 = .ok (.istore 6, 2) := by decide +kernel
theorem dL_planned_86 : decode cL_planned 86 = .ok (.iload 6, 2) := by decide +kernel
theorem dL_planned_88 : decode cL_planned 88 = .ok (.aload 4, 2) := by decide +kernel
theorem dL_planned_90 : decode cL_planned 90 = .ok (.iload 5, 2) := by decide +kernel
theorem dL_planned_92 : decode cL_planned 92 = .ok (.iconst 1, 1) := by decide +kernel
theorem dL_planned_93 : decode cL_planned 93 = .ok (.isub, 1) := by decide +kernel
theorem dL_planned_94 : decode cL_planned 94 = .ok (.aload 4, 2) := by decide +kernel
theorem dL_planned_96 : decode cL_planned 96 = .ok (.iload 5, 2) := by decide +kernel
theorem dL_planned_98 : decode cL_planned 98 = .ok (.iconst 1, 1) := by decide +kernel
theorem dL_planned_99 : decode cL_planned 99 = .ok (.isub, 1) := by decide +kernel
theorem dL_planned_100 : decode cL_planned 100 = .ok (.invokestatic 152, 3) := by decide +kernel
theorem dL_planned_103 : decode cL_planned 103 = .ok (.invokestatic 155, 3) := by decide +kernel
theorem dL_planned_106 : decode cL_planned 106 = .ok (.iadd, 1) := by decide +kernel
theorem dL_planned_107 : decode cL_planned 107 = .ok (.istore 6, 2) := by decide +kernel
theorem dL_planned_109 : decode cL_planned 109 = .ok (.aload 4, 2) := by decide +kernel
theorem dL_planned_111 : decode cL_planned 111 = .ok (.iload 5, 2) := by decide +kernel
theorem dL_planned_113 : decode cL_planned 113 = .ok (.iconst 2, 1) := by decide +kernel
theorem dL_planned_114 : decode cL_planned 114 = .ok (.isub, 1) := by decide +kernel
theorem dL_planned_115 : decode cL_planned 115 = .ok (.iload 6, 2) := by decide +kernel
theorem dL_planned_117 : decode cL_planned 117 = .ok (.iastore, 1) := by decide +kernel
theorem dL_planned_118 : decode cL_planned 118 = .ok (.iinc 5 (-1), 3) := by decide +kernel
theorem dL_planned_121 : decode cL_planned 121 = .ok (.aload_n 3, 1) := by decide +kernel
theorem dL_planned_122 : decode cL_planned 122 = .ok (.iconst 1, 1) := by decide +kernel
theorem dL_planned_123 : decode cL_planned 123 = .ok (.dup2, 1) := by decide +kernel
theorem dL_planned_124 : decode cL_planned 124 = .ok (.iaload, 1) := by decide +kernel
theorem dL_planned_125 : decode cL_planned 125 = .ok (.iload 6, 2) := by decide +kernel
theorem dL_planned_127 : decode cL_planned 127 = .ok (.iadd, 1) := by decide +kernel
theorem dL_planned_128 : decode cL_planned 128 = .ok (.iastore, 1) := by decide +kernel
theorem dL_planned_129 : decode cL_planned 129 = .ok (.aload_n 3, 1) := by decide +kernel
theorem dL_planned_130 : decode cL_planned 130 = .ok (.iconst 2, 1) := by decide +kernel
theorem dL_planned_131 : decode cL_planned 131 = .ok (.dup2, 1) := by decide +kernel
theorem dL_planned_132 : decode cL_planned 132 = .ok (.iaload, 1) := by decide +kernel
theorem dL_planned_133 : decode cL_planned 133 = .ok (.iconst 1, 1) := by decide +kernel
theorem dL_planned_134 : decode cL_planned 134 = .ok (.iadd, 1) := by decide +kernel
theorem dL_planned_135 : decode cL_planned 135 = .ok (.iastore, 1) := by decide +kernel
theorem dL_planned_136 : decode cL_planned 136 = .ok (.goto (-84), 3) := by decide +kernel
theorem dL_planned_46 : decode cL_planned 46 = .ok (.aload_n 0, 1) := by decide +kernel
theorem dL_planned_47 : decode cL_planned 47 = .ok (.iload_n 2, 1) := by decide +kernel
theorem dL_planned_48 : decode cL_planned 48 = .ok (.invokestatic 148, 3) := by decide +kernel
theorem dL_planned_51 : decode cL_planned 51 = .ok (.areturn, 1) := by decide +kernel
theorem dL_planned_19 : decode cL_planned 19 = .ok (.iload 6, 2) := by decide +kernel
theorem dL_planned_21 : decode cL_planned 21 = .ok (.iload 5, 2) := by decide +kernel
theorem dL_planned_23 : decode cL_planned 23 = .ok (.if_icmp .ge 18, 3) := by decide +kernel
theorem dL_planned_26 : decode cL_planned 26 = .ok (.aload 4, 2) := by decide +kernel
theorem dL_planned_28 : decode cL_planned 28 = .ok (.iload 6, 2) := by decide +kernel
theorem dL_planned_30 : decode cL_planned 30 = .ok (.aload_n 0, 1) := by decide +kernel
theorem dL_planned_31 : decode cL_planned 31 = .ok (.iload 6, 2) := by decide +kernel
theorem dL_planned_33 : decode cL_planned 33 = .ok (.iaload, 1) := by decide +kernel
theorem dL_planned_34 : decode cL_planned 34 = .ok (.iastore, 1) := by decide +kernel
theorem dL_planned_35 : decode cL_planned 35 = .ok (.iinc 6 1, 3) := by decide +kernel
theorem dL_planned_38 : decode cL_planned 38 = .ok (.goto (-19), 3) := by decide +kernel

set_option maxHeartbeats 8000000 in
set_option maxRecDepth 100000 in
theorem c_L_planned (l : Launch) (hlf : l.stackTraces = false) (dC : Nat → ClassId) (dI : Nat → Nat → Nat) (g : Nat → ClassId) (a_lengths n_lengths : Nat) (lengths : Nat → Int32) (way : Int32) (ways : Int32) (Q : Nat → (Nat → Int32) → Prop) (hw : wp_L_planned n_lengths lengths way ways Q) (sz : Nat) : Met l yL_planned wqL_planned ({ frames := 1, cells := 35, slots := 6220, locals := 31 }) (va_Pc [.ref a_lengths, .int way, .int ways] (PG (dC, dI) g [(a_lengths, .inl (g 0, n_lengths, .inl lengths))] sz)) (va_Qq (fun (r : Option Nat) (u : Nat × Nat × (Nat → Int32) × Unit) => r = some u.1 ∧ (Q u.2.1 u.2.2.1)) (fun (u : Nat × Nat × (Nat → Int32) × Unit) t9 => va_P (dC, dI) vwCl [(a_lengths, .inl (g 0, n_lengths, .inl lengths)), (u.1, .inl (g 0, u.2.1, .inl u.2.2.1))] t9.heap ∧ va_D (va_A [(a_lengths, .inl (g 0, n_lengths, .inl lengths))] sz) [(a_lengths, .inl (g 0, n_lengths, .inl lengths)), (u.1, .inl (g 0, u.2.1, .inl u.2.2.1))]) (va_A [(a_lengths, .inl (g 0, n_lengths, .inl lengths))] sz)) 35 6220 (va_A [(a_lengths, .inl (g 0, n_lengths, .inl lengths))] sz) := by
  refine Met.ofW (cc := cL_planned) (maxL := 10) (ret := (some (.array .int))) (by decide) rfl ?_
  intro p e s m args below meth c s₁ B hml hv
  obtain ⟨rfl, hsz, hP, hK, hD0, hG⟩ := hv
  have hx := B.exec
  have hb := B.bytes
  have hr := B.returns
  have hts := atoms_spec (ws := wqL_planned) B.pre
  have hown : s.vm.findClass RL = some m.cls := findClass_of_methodNamed B.named
  have hlocks := B.notSynchronized
  subst hsz
  have hD := hD0.self (sz := s.heap.size)
  generalize hAe : va_A [(a_lengths, .inl (g 0, n_lengths, .inl lengths))] s.heap.size = A at hD hG ⊢
  have hA : ∀ q : Nat, s.heap.size ≤ q → A q := fun q h => by rw [← hAe]; exact Or.inr h
  have hS : va_S A s.heap s.heap [] := va_S.rf
  have hrc : (headSpec wqL_planned ({ frames := 1, cells := 35, slots := 6220, locals := 31 })).room.cells = 35 := rfl
  have hrs : (headSpec wqL_planned ({ frames := 1, cells := 35, slots := 6220, locals := 31 })).room.slots = 6220 := rfl
  have hl := lv_entry ([.ref a_lengths, .int way, .int ways]) (n := 10) (Nat.le_of_ble_eq_true rfl)
  rw [lg_entry_eq]
  generalize (lg_sl ([.ref a_lengths, .int way, .int ways]) ++ List.replicate (10 - (lg_sl ([.ref a_lengths, .int way, .int ways])).length) Slot.unset).toArray = ls at hl ⊢
  have hl : lv_has ls 10 [(0, .ref a_lengths), (1, .int way), (2, .int ways)] := hl
  unfold wp_L_planned at hw
  have hnaint := hts (Cond.arrayClass .int) (aw_l aw_1_57)
  have hmmin127_0 := hts (Cond.methodLink RL 127 Lib.Math.min.name) (aw_l aw_4_38)
  have hmmin127_1 := hts (Cond.static Lib.Math.min.name) (aw_l aw_3_141)
  have hmmin127_2 := hts (Cond.initialized "java/lang/Math") (aw_l aw_1_19)
  have hmmin127_3 := hts (Cond.code Lib.Math.min.name Lib.Math.min.code 2 (some .int)) (aw_l aw_3_142)
  refine lv_iconst (v := 4) hx hb dL_planned_0 (by decide) ?_
  refine va_newa (atype := .int) (a0 := (4, .inl (fun _ => 0))) hx hb hnaint rfl hK hP hD hS hA (fun _ => rfl) (by decide) (N' := 4) (by decide) (Nat.le_of_ble_eq_true rfl) (by rw [hrc]; omega) (by rw [hrs]; omega) dL_planned_1 (fun a_q_1 cA_3 H_2 hK9 hP hD hS => ?_)
  obtain rfl : g 0 = cA_3 := K_one hK9 0 5 rfl rfl
  obtain ⟨hP, hD⟩ := seg_join [[(a_lengths, .inl (g 0, n_lengths, .inl lengths))]] [[(a_q_1, .inl (g 0, 4, .inl (fun _ => 0)))]] [[(a_lengths, .inl (g 0, n_lengths, .inl lengths))], [(a_q_1, .inl (g 0, 4, .inl (fun _ => 0)))]] 2 [0, 1] rfl rfl (by decide) hP hD
  have hP : va_P (dC, dI) vwCl [(a_lengths, .inl (g 0, n_lengths, .inl lengths)), (a_q_1, .inl (g 0, 4, .inl (fun _ => 0)))] H_2 := hP
  have hD : va_D A [(a_lengths, .inl (g 0, n_lengths, .inl lengths)), (a_q_1, .inl (g 0, 4, .inl (fun _ => 0)))] := hD
  refine W.widen (k := 1) (n := 4) (by omega) (by omega) ?_
  refine lv_astore_n (lv' := [(3, .ref a_q_1), (0, .ref a_lengths), (1, .int way), (2, .int ways)]) hx hb dL_planned_3 rfl hl (by decide) rfl (fun ls hl => ?_)
  refine lv_aload_n hx hb dL_planned_4 rfl (lv_at hl 1 rfl) ?_
  refine va_alen hx hb hK hP 0 0 rfl rfl (v := nI n_lengths) rfl dL_planned_5 ?_
  refine lv_iconst (v := 1) hx hb dL_planned_6 (by decide) ?_
  refine lv_iadd hx hb dL_planned_7 ?_
  refine lv_topi (fun x_4 ex_4 => ?_)
  have hw := hw x_4 ex_4
  obtain ⟨n_8, en_8, ln_8, hw⟩ := hw
  refine va_newa (atype := .int) (a0 := (n_8, .inl (fun _ => 0))) hx hb hnaint rfl hK hP hD hS hA (fun _ => rfl) (by rw [en_8]; exact nI_pos (by omega)) (N' := n_8) (by rw [en_8]; exact nI_clamp (by omega)) (show n_8 * 4 ≤ 536870912 by omega) (by rw [hrc]; omega) (by rw [hrs]; omega) dL_planned_8 (fun a_q_5 cA_7 H_6 hK9 hP hD hS => ?_)
  obtain rfl : g 0 = cA_7 := K_one hK9 0 5 rfl rfl
  obtain ⟨hP, hD⟩ := seg_join [[(a_lengths, .inl (g 0, n_lengths, .inl lengths))], [(a_q_1, .inl (g 0, 4, .inl (fun _ => 0)))]] [[(a_q_5, .inl (g 0, n_8, .inl (fun _ => 0)))]] [[(a_lengths, .inl (g 0, n_lengths, .inl lengths))], [(a_q_1, .inl (g 0, 4, .inl (fun _ => 0)))], [(a_q_5, .inl (g 0, n_8, .inl (fun _ => 0)))]] 3 [0, 1, 2] rfl rfl (by decide) hP hD
  have hP : va_P (dC, dI) vwCl [(a_lengths, .inl (g 0, n_lengths, .inl lengths)), (a_q_1, .inl (g 0, 4, .inl (fun _ => 0))), (a_q_5, .inl (g 0, n_8, .inl (fun _ => 0)))] H_6 := hP
  have hD : va_D A [(a_lengths, .inl (g 0, n_lengths, .inl lengths)), (a_q_1, .inl (g 0, 4, .inl (fun _ => 0))), (a_q_5, .inl (g 0, n_8, .inl (fun _ => 0)))] := hD
  refine W.widen (k := 2) (n := 204) (by omega) (by omega) ?_
  refine lv_astore (lv' := [(4, .ref a_q_5), (3, .ref a_q_1), (0, .ref a_lengths), (1, .int way), (2, .int ways)]) hx hb dL_planned_10 hl (by decide) rfl (fun ls hl => ?_)
  refine lv_aload_n hx hb dL_planned_12 rfl (lv_at hl 2 rfl) ?_
  refine va_alen hx hb hK hP 0 0 rfl rfl (v := nI n_lengths) rfl dL_planned_13 ?_
  refine lv_istore (lv' := [(5, .int (nI n_lengths)), (4, .ref a_q_5), (3, .ref a_q_1), (0, .ref a_lengths), (1, .int way), (2, .int ways)]) hx hb dL_planned_14 hl (by decide) rfl (fun ls hl => ?_)
  refine lv_iconst (v := 0) hx hb dL_planned_16 (by decide) ?_
  refine lv_istore (lv' := [(6, .int 0), (5, .int (nI n_lengths)), (4, .ref a_q_5), (3, .ref a_q_1), (0, .ref a_lengths), (1, .int way), (2, .int ways)]) hx hb dL_planned_17 hl (by decide) rfl (fun ls hl => ?_)
  refine W_abs (fun QM hQM => ?_)
  have EX19_41 : ∀ (q8_11 : Nat → Int32) (H : Heap) (locs : List Loc), (wx_L_planned_19_41 n_lengths lengths way ways Q n_8) q8_11 → va_P (dC, dI) vwCl [(a_lengths, .inl (g 0, n_lengths, .inl lengths)), (a_q_1, .inl (g 0, 4, .inl (fun _ => 0))), (a_q_5, .inl (g 0, n_8, .inl q8_11))] H → va_D A [(a_lengths, .inl (g 0, n_lengths, .inl lengths)), (a_q_1, .inl (g 0, 4, .inl (fun _ => 0))), (a_q_5, .inl (g 0, n_8, .inl q8_11))] → va_S A s.heap H locs → ∀ (ls : Array Slot), lv_has ls 10 [(0, .ref a_lengths), (1, .int way), (2, .int ways), (3, .ref a_q_1), (4, .ref a_q_5), (5, .int (nI n_lengths))] → W p l e (headSpec wqL_planned ({ frames := 1, cells := 35, slots := 6220, locals := 31 })).room s m ([.ref a_lengths, .int way, .int ways] : List Value).toArray below meth c H locs 2 204 QM (F0 m 41 ls []) := by
    intro q8_11 H locs hw hP hD hS ls hl
    refine lv_iload_n hx hb dL_planned_41 rfl (lv_at hl 1 rfl) ?_
    refine lv_iconst (v := 2) hx hb dL_planned_42 (by decide) ?_
    refine lv_icmp_ne (tgt := 52) hx hb dL_planned_43 (by decide) (fun c_12 => ?_) (fun c_12 => ?_)
    · have hw := hw.2 c_12
      have EX52_239 : ∀ (q1_16 : Nat → Int32) (H : Heap) (locs : List Loc), (wx_L_planned_52_239 Q) q1_16 → va_P (dC, dI) vwCl [(a_lengths, .inl (g 0, n_lengths, .inl lengths)), (a_q_1, .inl (g 0, 4, .inl q1_16))] H → va_D A [(a_lengths, .inl (g 0, n_lengths, .inl lengths)), (a_q_1, .inl (g 0, 4, .inl q1_16))] → va_S A s.heap H locs → ∀ (ls : Array Slot), lv_has ls 10 [(3, .ref a_q_1)] → W p l e (headSpec wqL_planned ({ frames := 1, cells := 35, slots := 6220, locals := 31 })).room s m ([.ref a_lengths, .int way, .int ways] : List Value).toArray below meth c H locs 2 204 QM (F0 m 239 ls []) := by
        intro q1_16 H locs hw hP hD hS ls hl
        refine lv_aload_n hx hb dL_planned_239 rfl (lv_at hl 0 rfl) ?_
        refine W.widen (k := 35) (n := 6220) (by omega) (by omega) ?_
        subst hQM
        exact W.aret (v := .ref a_q_1) hx hb hr (Or.inr ⟨_, rfl⟩) (Or.inr ⟨_, rfl⟩) (fun t ht hW => ⟨⟨some a_q_1, (a_q_1, 4, q1_16, ()), rfl, ⟨rfl, hw⟩, ⟨P_at ht hP, hD⟩⟩, hS.F ht⟩) hS.2.2 dL_planned_240
      have LOOP52 : ∀ (n52 : Nat) (v5_13 : Int32) (q1_14 : Nat → Int32) (q8_15 : Nat → Int32) (H : Heap) (locs : List Loc), wl_L_planned_52 way ways n_8 (wx_L_planned_52_239 Q) n52 v5_13 q1_14 q8_15 → va_P (dC, dI) vwCl [(a_lengths, .inl (g 0, n_lengths, .inl lengths)), (a_q_1, .inl (g 0, 4, .inl q1_14)), (a_q_5, .inl (g 0, n_8, .inl q8_15))] H → va_D A [(a_lengths, .inl (g 0, n_lengths, .inl lengths)), (a_q_1, .inl (g 0, 4, .inl q1_14)), (a_q_5, .inl (g 0, n_8, .inl q8_15))] → va_S A s.heap H locs → ∀ (ls : Array Slot), lv_has ls 10 [(1, .int way), (2, .int ways), (3, .ref a_q_1), (4, .ref a_q_5), (5, .int v5_13)] → W p l e (headSpec wqL_planned ({ frames := 1, cells := 35, slots := 6220, locals := 31 })).room s m ([.ref a_lengths, .int way, .int ways] : List Value).toArray below meth c H locs 2 204 QM (F0 m 52 ls []) := by
        intro n52
        induction n52 with
        | zero =>
          intro v5_13 q1_14 q8_15 H locs hw hP hD hS ls hl
          exact False.elim hw
        | succ n52 ih52 =>
          intro v5_13 q1_14 q8_15 H locs hw hP hD hS ls hl
          rw [wl_L_planned_52_s] at hw
          refine lv_iload hx hb dL_planned_52 (lv_at hl 4 rfl) ?_
          refine lv_iconst (v := 1) hx hb dL_planned_54 (by decide) ?_
          refine lv_icmp_le (tgt := 239) hx hb dL_planned_55 (by decide) (fun c_17 => ?_) (fun c_17 => ?_)
          · have hw := hw.1 c_17
            obtain ⟨hP, hD⟩ := seg_sub (segs := [[(a_lengths, .inl (g 0, n_lengths, .inl lengths))], [(a_q_1, .inl (g 0, 4, .inl q1_14))], [(a_q_5, .inl (g 0, n_8, .inl q8_15))]]) [[(a_lengths, .inl (g 0, n_lengths, .inl lengths))], [(a_q_1, .inl (g 0, 4, .inl q1_14))]] [[(a_q_5, .inl (g 0, n_8, .inl q8_15))]] 3 [0, 1, 2] rfl rfl (by decide) hP hD
            refine W.widen (k := 2) (n := 204) (by omega) (by omega) ?_
            exact EX52_239 q1_14 _ _ hw hP hD hS _ (lv_sub hl [2] rfl)
          · have hw := hw.2 c_17
            refine lv_aload_n hx hb dL_planned_58 rfl (lv_at hl 2 rfl) ?_
            refine lv_iconst (v := 0) hx hb dL_planned_59 (by decide) ?_
            refine lv_dup2_11 hx hb dL_planned_60 rfl rfl ?_
            refine va_iald hx hb hK hP 1 0 rfl rfl (by unfold vp_in; decide) dL_planned_61 ?_
            refine lv_topi (fun x_18 ex_18 => ?_)
            have hw := hw x_18 ex_18
            refine lv_iconst (v := 1) hx hb dL_planned_62 (by decide) ?_
            refine lv_iadd hx hb dL_planned_63 ?_
            refine lv_topi (fun x_19 ex_19 => ?_)
            have hw := hw x_19 ex_19
            refine va_iast hx hb hK hP hD hS 1 0 rfl rfl (by unfold vp_in; decide) dL_planned_64 (fun H_20 L_21 hP hD hS => ?_)
            have hP : va_P (dC, dI) vwCl [(a_lengths, .inl (g 0, n_lengths, .inl lengths)), (a_q_1, .inl (g 0, 4, .inl (upd q1_14 (0 : Int32).toNatClampNeg x_19))), (a_q_5, .inl (g 0, n_8, .inl q8_15))] H_20 := hP
            have hD : va_D A [(a_lengths, .inl (g 0, n_lengths, .inl lengths)), (a_q_1, .inl (g 0, 4, .inl (upd q1_14 (0 : Int32).toNatClampNeg x_19))), (a_q_5, .inl (g 0, n_8, .inl q8_15))] := hD
            refine lv_iload_n hx hb dL_planned_65 rfl (lv_at hl 0 rfl) ?_
            refine lv_iconst (v := 1) hx hb dL_planned_66 (by decide) ?_
            refine lv_icmp_ne (tgt := 139) hx hb dL_planned_67 (by decide) (fun c_22 => ?_) (fun c_22 => ?_)
            · have hw := hw.2 c_22
              refine lv_iconst (v := 0) hx hb dL_planned_139 (by decide) ?_
              refine lv_istore (lv' := [(6, .int 0), (1, .int way), (2, .int ways), (3, .ref a_q_1), (4, .ref a_q_5), (5, .int v5_13)]) hx hb dL_planned_140 hl (by decide) rfl (fun ls hl => ?_)
              refine lv_iconst (v := 0) hx hb dL_planned_142 (by decide) ?_
              refine lv_istore (lv' := [(7, .int 0), (6, .int 0), (1, .int way), (2, .int ways), (3, .ref a_q_1), (4, .ref a_q_5), (5, .int v5_13)]) hx hb dL_planned_143 hl (by decide) rfl (fun ls hl => ?_)
              have EX145_232 : ∀ (v6_27 : Int32) (q8_28 : Nat → Int32) (q1_29 : Nat → Int32) (H : Heap) (locs : List Loc), (wx_L_planned_145_232 (wl_L_planned_52 way ways n_8 (wx_L_planned_52_239 Q) n52)) v6_27 q8_28 q1_29 → va_P (dC, dI) vwCl [(a_lengths, .inl (g 0, n_lengths, .inl lengths)), (a_q_1, .inl (g 0, 4, .inl q1_29)), (a_q_5, .inl (g 0, n_8, .inl q8_28))] H → va_D A [(a_lengths, .inl (g 0, n_lengths, .inl lengths)), (a_q_1, .inl (g 0, 4, .inl q1_29)), (a_q_5, .inl (g 0, n_8, .inl q8_28))] → va_S A s.heap H locs → ∀ (ls : Array Slot), lv_has ls 10 [(1, .int way), (2, .int ways), (3, .ref a_q_1), (4, .ref a_q_5), (6, .int v6_27)] → W p l e (headSpec wqL_planned ({ frames := 1, cells := 35, slots := 6220, locals := 31 })).room s m ([.ref a_lengths, .int way, .int ways] : List Value).toArray below meth c H locs 2 204 QM (F0 m 232 ls []) := by
                intro v6_27 q8_28 q1_29 H locs hw hP hD hS ls hl
                refine lv_iload hx hb dL_planned_232 (lv_at hl 4 rfl) ?_
                refine lv_istore (lv' := [(5, .int v6_27), (1, .int way), (2, .int ways), (3, .ref a_q_1), (4, .ref a_q_5), (6, .int v6_27)]) hx hb dL_planned_234 hl (by decide) rfl (fun ls hl => ?_)
                refine lv_goto (tgt := 52) hx hb dL_planned_236 (by decide) ?_
                refine W.widen (k := 2) (n := 204) (by omega) (by omega) ?_
                exact ih52 v6_27 q1_29 q8_28 _ _ hw hP hD hS _ (lv_sub hl [1, 2, 3, 4, 0] rfl)
              have LOOP145 : ∀ (n145 : Nat) (v7_23 : Int32) (v6_24 : Int32) (q8_25 : Nat → Int32) (q1_26 : Nat → Int32) (H : Heap) (locs : List Loc), wl_L_planned_145 ways n_8 v5_13 (wx_L_planned_145_232 (wl_L_planned_52 way ways n_8 (wx_L_planned_52_239 Q) n52)) n145 v7_23 v6_24 q8_25 q1_26 → va_P (dC, dI) vwCl [(a_lengths, .inl (g 0, n_lengths, .inl lengths)), (a_q_1, .inl (g 0, 4, .inl q1_26)), (a_q_5, .inl (g 0, n_8, .inl q8_25))] H → va_D A [(a_lengths, .inl (g 0, n_lengths, .inl lengths)), (a_q_1, .inl (g 0, 4, .inl q1_26)), (a_q_5, .inl (g 0, n_8, .inl q8_25))] → va_S A s.heap H locs → ∀ (ls : Array Slot), lv_has ls 10 [(1, .int way), (2, .int ways), (3, .ref a_q_1), (4, .ref a_q_5), (5, .int v5_13), (6, .int v6_24), (7, .int v7_23)] → W p l e (headSpec wqL_planned ({ frames := 1, cells := 35, slots := 6220, locals := 31 })).room s m ([.ref a_lengths, .int way, .int ways] : List Value).toArray below meth c H locs 2 204 QM (F0 m 145 ls []) := by
                intro n145
                induction n145 with
                | zero =>
                  intro v7_23 v6_24 q8_25 q1_26 H locs hw hP hD hS ls hl
                  exact False.elim hw
                | succ n145 ih145 =>
                  intro v7_23 v6_24 q8_25 q1_26 H locs hw hP hD hS ls hl
                  rw [wl_L_planned_145_s] at hw
                  refine lv_iload hx hb dL_planned_145 (lv_at hl 6 rfl) ?_
                  refine lv_iload hx hb dL_planned_147 (lv_at hl 4 rfl) ?_
                  refine lv_icmp_ge (tgt := 232) hx hb dL_planned_149 (by decide) (fun c_30 => ?_) (fun c_30 => ?_)
                  · have hw := hw.1 c_30
                    refine W.widen (k := 2) (n := 204) (by omega) (by omega) ?_
                    exact EX145_232 v6_24 q8_25 q1_26 _ _ hw hP hD hS _ (lv_sub hl [0, 1, 2, 3, 5] rfl)
                  · have hw := hw.2 c_30
                    refine lv_iconst (v := 0) hx hb dL_planned_152 (by decide) ?_
                    refine lv_istore (lv' := [(8, .int 0), (1, .int way), (2, .int ways), (3, .ref a_q_1), (4, .ref a_q_5), (5, .int v5_13), (6, .int v6_24), (7, .int v7_23)]) hx hb dL_planned_153 hl (by decide) rfl (fun ls hl => ?_)
                    refine lv_iload hx hb dL_planned_155 (lv_at hl 7 rfl) ?_
                    refine lv_istore (lv' := [(9, .int v7_23), (8, .int 0), (1, .int way), (2, .int ways), (3, .ref a_q_1), (4, .ref a_q_5), (5, .int v5_13), (6, .int v6_24), (7, .int v7_23)]) hx hb dL_planned_157 hl (by decide) rfl (fun ls hl => ?_)
                    have EX159_189 : ∀ (v8_33 : Int32) (H : Heap) (locs : List Loc), (wx_L_planned_159_189 ways n_8 v5_13 v7_23 v6_24 q8_25 q1_26 (wl_L_planned_145 ways n_8 v5_13 (wx_L_planned_145_232 (wl_L_planned_52 way ways n_8 (wx_L_planned_52_239 Q) n52)) n145)) v8_33 → va_P (dC, dI) vwCl [(a_lengths, .inl (g 0, n_lengths, .inl lengths)), (a_q_1, .inl (g 0, 4, .inl q1_26)), (a_q_5, .inl (g 0, n_8, .inl q8_25))] H → va_D A [(a_lengths, .inl (g 0, n_lengths, .inl lengths)), (a_q_1, .inl (g 0, 4, .inl q1_26)), (a_q_5, .inl (g 0, n_8, .inl q8_25))] → va_S A s.heap H locs → ∀ (ls : Array Slot), lv_has ls 10 [(1, .int way), (2, .int ways), (3, .ref a_q_1), (4, .ref a_q_5), (5, .int v5_13), (6, .int v6_24), (7, .int v7_23), (8, .int v8_33)] → W p l e (headSpec wqL_planned ({ frames := 1, cells := 35, slots := 6220, locals := 31 })).room s m ([.ref a_lengths, .int way, .int ways] : List Value).toArray below meth c H locs 2 204 QM (F0 m 189 ls []) := by
                      intro v8_33 H locs hw hP hD hS ls hl
                      refine lv_iload hx hb dL_planned_189 (lv_at hl 6 rfl) ?_
                      refine lv_iconst (v := 1) hx hb dL_planned_191 (by decide) ?_
                      refine lv_iadd hx hb dL_planned_192 ?_
                      refine lv_topi (fun x_34 ex_34 => ?_)
                      have hw := hw x_34 ex_34
                      refine lv_iload hx hb dL_planned_193 (lv_at hl 4 rfl) ?_
                      have JN213 : ∀ (q1_35 : Nat → Int32) (H : Heap) (locs : List Loc), (wj_L_planned_213 ways n_8 v7_23 v6_24 q8_25 (wl_L_planned_145 ways n_8 v5_13 (wx_L_planned_145_232 (wl_L_planned_52 way ways n_8 (wx_L_planned_52_239 Q) n52)) n145) v8_33) q1_35 → va_P (dC, dI) vwCl [(a_lengths, .inl (g 0, n_lengths, .inl lengths)), (a_q_1, .inl (g 0, 4, .inl q1_35)), (a_q_5, .inl (g 0, n_8, .inl q8_25))] H → va_D A [(a_lengths, .inl (g 0, n_lengths, .inl lengths)), (a_q_1, .inl (g 0, 4, .inl q1_35)), (a_q_5, .inl (g 0, n_8, .inl q8_25))] → va_S A s.heap H locs → ∀ (ls : Array Slot), lv_has ls 10 [(1, .int way), (2, .int ways), (3, .ref a_q_1), (4, .ref a_q_5), (5, .int v5_13), (6, .int v6_24), (7, .int v7_23), (8, .int v8_33)] → W p l e (headSpec wqL_planned ({ frames := 1, cells := 35, slots := 6220, locals := 31 })).room s m ([.ref a_lengths, .int way, .int ways] : List Value).toArray below meth c H locs 2 204 QM (F0 m 213 ls []) := by
                        intro q1_35 H locs hw hP hD hS ls hl
                        refine lv_aload hx hb dL_planned_213 (lv_at hl 3 rfl) ?_
                        refine lv_iload hx hb dL_planned_215 (lv_at hl 5 rfl) ?_
                        obtain ⟨x_36, ex_36⟩ : ∃ y : Int32, y = v6_24 + 1 := ⟨_, rfl⟩
                        have hw := hw x_36 ex_36
                        refine lv_iinc (v := x_36) (lv' := [(6, .int x_36), (1, .int way), (2, .int ways), (3, .ref a_q_1), (4, .ref a_q_5), (5, .int v5_13), (7, .int v7_23), (8, .int v8_33)]) hx hb dL_planned_217 hl (k := 5) rfl (by rw [ex_36]; rfl) (by decide) rfl (fun ls hl => ?_)
                        refine lv_iload hx hb dL_planned_220 (lv_at hl 7 rfl) ?_
                        refine va_iast hx hb hK hP hD hS 2 0 rfl rfl hw.1 dL_planned_222 (fun H_37 L_38 hP hD hS => ?_)
                        have hw := hw.2
                        have hP : va_P (dC, dI) vwCl [(a_lengths, .inl (g 0, n_lengths, .inl lengths)), (a_q_1, .inl (g 0, 4, .inl q1_35)), (a_q_5, .inl (g 0, n_8, .inl (upd q8_25 v6_24.toNatClampNeg v8_33)))] H_37 := hP
                        have hD : va_D A [(a_lengths, .inl (g 0, n_lengths, .inl lengths)), (a_q_1, .inl (g 0, 4, .inl q1_35)), (a_q_5, .inl (g 0, n_8, .inl (upd q8_25 v6_24.toNatClampNeg v8_33)))] := hD
                        refine lv_iload hx hb dL_planned_223 (lv_at hl 6 rfl) ?_
                        refine lv_iload_n hx hb dL_planned_225 rfl (lv_at hl 2 rfl) ?_
                        refine lv_iadd hx hb dL_planned_226 ?_
                        refine lv_topi (fun x_39 ex_39 => ?_)
                        have hw := hw x_39 ex_39
                        refine lv_istore (lv' := [(7, .int x_39), (6, .int x_36), (1, .int way), (2, .int ways), (3, .ref a_q_1), (4, .ref a_q_5), (5, .int v5_13), (8, .int v8_33)]) hx hb dL_planned_227 hl (by decide) rfl (fun ls hl => ?_)
                        refine lv_goto (tgt := 145) hx hb dL_planned_229 (by decide) ?_
                        refine W.widen (k := 2) (n := 204) (by omega) (by omega) ?_
                        exact ih145 x_39 x_36 (upd q8_25 v6_24.toNatClampNeg v8_33) q1_35 _ _ hw hP hD hS _ (lv_sub hl [2, 3, 4, 5, 6, 1, 0] rfl)
                      refine lv_icmp_ge (tgt := 213) hx hb dL_planned_195 (by decide) (fun c_40 => ?_) (fun c_40 => ?_)
                      · have hw := hw.1 c_40
                        refine W.widen (k := 2) (n := 204) (by omega) (by omega) ?_
                        exact JN213 q1_26 _ _ hw hP hD hS _ (lv_sub hl [0, 1, 2, 3, 4, 5, 6, 7] rfl)
                      · have hw := hw.2 c_40
                        refine lv_aload_n hx hb dL_planned_198 rfl (lv_at hl 2 rfl) ?_
                        refine lv_iconst (v := 1) hx hb dL_planned_199 (by decide) ?_
                        refine lv_dup2_11 hx hb dL_planned_200 rfl rfl ?_
                        refine va_iald hx hb hK hP 1 0 rfl rfl (by unfold vp_in; decide) dL_planned_201 ?_
                        refine lv_topi (fun x_41 ex_41 => ?_)
                        have hw := hw x_41 ex_41
                        refine lv_iload hx hb dL_planned_202 (lv_at hl 7 rfl) ?_
                        refine lv_iadd hx hb dL_planned_204 ?_
                        refine lv_topi (fun x_42 ex_42 => ?_)
                        have hw := hw x_42 ex_42
                        refine va_iast hx hb hK hP hD hS 1 0 rfl rfl (by unfold vp_in; decide) dL_planned_205 (fun H_43 L_44 hP hD hS => ?_)
                        have hP : va_P (dC, dI) vwCl [(a_lengths, .inl (g 0, n_lengths, .inl lengths)), (a_q_1, .inl (g 0, 4, .inl (upd q1_26 (1 : Int32).toNatClampNeg x_42))), (a_q_5, .inl (g 0, n_8, .inl q8_25))] H_43 := hP
                        have hD : va_D A [(a_lengths, .inl (g 0, n_lengths, .inl lengths)), (a_q_1, .inl (g 0, 4, .inl (upd q1_26 (1 : Int32).toNatClampNeg x_42))), (a_q_5, .inl (g 0, n_8, .inl q8_25))] := hD
                        refine lv_aload_n hx hb dL_planned_206 rfl (lv_at hl 2 rfl) ?_
                        refine lv_iconst (v := 2) hx hb dL_planned_207 (by decide) ?_
                        refine lv_dup2_11 hx hb dL_planned_208 rfl rfl ?_
                        refine va_iald hx hb hK hP 1 0 rfl rfl (by unfold vp_in; decide) dL_planned_209 ?_
                        refine lv_topi (fun x_45 ex_45 => ?_)
                        have hw := hw x_45 ex_45
                        refine lv_iconst (v := 1) hx hb dL_planned_210 (by decide) ?_
                        refine lv_iadd hx hb dL_planned_211 ?_
                        refine lv_topi (fun x_46 ex_46 => ?_)
                        have hw := hw x_46 ex_46
                        refine va_iast hx hb hK hP hD hS 1 0 rfl rfl (by unfold vp_in; decide) dL_planned_212 (fun H_47 L_48 hP hD hS => ?_)
                        have hP : va_P (dC, dI) vwCl [(a_lengths, .inl (g 0, n_lengths, .inl lengths)), (a_q_1, .inl (g 0, 4, .inl (upd (upd q1_26 (1 : Int32).toNatClampNeg x_42) (2 : Int32).toNatClampNeg x_46))), (a_q_5, .inl (g 0, n_8, .inl q8_25))] H_47 := hP
                        have hD : va_D A [(a_lengths, .inl (g 0, n_lengths, .inl lengths)), (a_q_1, .inl (g 0, 4, .inl (upd (upd q1_26 (1 : Int32).toNatClampNeg x_42) (2 : Int32).toNatClampNeg x_46))), (a_q_5, .inl (g 0, n_8, .inl q8_25))] := hD
                        refine W.widen (k := 2) (n := 204) (by omega) (by omega) ?_
                        exact JN213 (upd (upd q1_26 (1 : Int32).toNatClampNeg x_42) (2 : Int32).toNatClampNeg x_46) _ _ hw hP hD hS _ (lv_sub hl [0, 1, 2, 3, 4, 5, 6, 7] rfl)
                    have LOOP159 : ∀ (n159 : Nat) (v9_31 : Int32) (v8_32 : Int32) (H : Heap) (locs : List Loc), wl_L_planned_159 ways n_8 v5_13 v7_23 q8_25 (wx_L_planned_159_189 ways n_8 v5_13 v7_23 v6_24 q8_25 q1_26 (wl_L_planned_145 ways n_8 v5_13 (wx_L_planned_145_232 (wl_L_planned_52 way ways n_8 (wx_L_planned_52_239 Q) n52)) n145)) n159 v9_31 v8_32 → va_P (dC, dI) vwCl [(a_lengths, .inl (g 0, n_lengths, .inl lengths)), (a_q_1, .inl (g 0, 4, .inl q1_26)), (a_q_5, .inl (g 0, n_8, .inl q8_25))] H → va_D A [(a_lengths, .inl (g 0, n_lengths, .inl lengths)), (a_q_1, .inl (g 0, 4, .inl q1_26)), (a_q_5, .inl (g 0, n_8, .inl q8_25))] → va_S A s.heap H locs → ∀ (ls : Array Slot), lv_has ls 10 [(1, .int way), (2, .int ways), (3, .ref a_q_1), (4, .ref a_q_5), (5, .int v5_13), (6, .int v6_24), (7, .int v7_23), (8, .int v8_32), (9, .int v9_31)] → W p l e (headSpec wqL_planned ({ frames := 1, cells := 35, slots := 6220, locals := 31 })).room s m ([.ref a_lengths, .int way, .int ways] : List Value).toArray below meth c H locs 2 204 QM (F0 m 159 ls []) := by
                      intro n159
                      induction n159 with
                      | zero =>
                        intro v9_31 v8_32 H locs hw hP hD hS ls hl
                        exact False.elim hw
                      | succ n159 ih159 =>
                        intro v9_31 v8_32 H locs hw hP hD hS ls hl
                        rw [wl_L_planned_159_s] at hw
                        refine lv_iload hx hb dL_planned_159 (lv_at hl 8 rfl) ?_
                        refine lv_iload hx hb dL_planned_161 (lv_at hl 4 rfl) ?_
                        refine lv_iload hx hb dL_planned_163 (lv_at hl 6 rfl) ?_
                        refine lv_iload_n hx hb dL_planned_165 rfl (lv_at hl 1 rfl) ?_
                        refine lv_iadd hx hb dL_planned_166 ?_
                        refine lv_topi (fun x_49 ex_49 => ?_)
                        have hw := hw x_49 ex_49
                        refine va_mmin hx hb (hml.trans hl.1.symm) hown hmmin127_0 hmmin127_1 hmmin127_2 hmmin127_3 (Nat.le_of_ble_eq_true rfl) (Nat.le_of_ble_eq_true rfl) (by rw [hrc]; omega) (by rw [hrs]; omega) dL_planned_167 ?_
                        refine lv_topi (fun x_50 ex_50 => ?_)
                        have hw := hw x_50 ex_50
                        refine lv_icmp_ge (tgt := 189) hx hb dL_planned_170 (by decide) (fun c_51 => ?_) (fun c_51 => ?_)
                        · have hw := hw.1 c_51
                          refine W.widen (k := 2) (n := 204) (by omega) (by omega) ?_
                          exact EX159_189 v8_32 _ _ hw hP hD hS _ (lv_sub hl [0, 1, 2, 3, 4, 5, 6, 7] rfl)
                        · have hw := hw.2 c_51
                          refine lv_iload hx hb dL_planned_173 (lv_at hl 7 rfl) ?_
                          refine lv_aload hx hb dL_planned_175 (lv_at hl 3 rfl) ?_
                          refine lv_iload hx hb dL_planned_177 (lv_at hl 8 rfl) ?_
                          refine va_iald hx hb hK hP 2 0 rfl rfl hw.1 dL_planned_179 ?_
                          have hw := hw.2
                          refine lv_topi (fun x_52 ex_52 => ?_)
                          have hw := hw x_52 ex_52
                          refine lv_iadd hx hb dL_planned_180 ?_
                          refine lv_topi (fun x_53 ex_53 => ?_)
                          have hw := hw x_53 ex_53
                          refine lv_istore (lv' := [(8, .int x_53), (1, .int way), (2, .int ways), (3, .ref a_q_1), (4, .ref a_q_5), (5, .int v5_13), (6, .int v6_24), (7, .int v7_23), (9, .int v9_31)]) hx hb dL_planned_181 hl (by decide) rfl (fun ls hl => ?_)
                          obtain ⟨x_54, ex_54⟩ : ∃ y : Int32, y = v9_31 + 1 := ⟨_, rfl⟩
                          have hw := hw x_54 ex_54
                          refine lv_iinc (v := x_54) (lv' := [(9, .int x_54), (8, .int x_53), (1, .int way), (2, .int ways), (3, .ref a_q_1), (4, .ref a_q_5), (5, .int v5_13), (6, .int v6_24), (7, .int v7_23)]) hx hb dL_planned_183 hl (k := 8) rfl (by rw [ex_54]; rfl) (by decide) rfl (fun ls hl => ?_)
                          refine lv_goto (tgt := 159) hx hb dL_planned_186 (by decide) ?_
                          refine W.widen (k := 2) (n := 204) (by omega) (by omega) ?_
                          exact ih159 x_54 x_53 _ _ hw hP hD hS _ (lv_sub hl [2, 3, 4, 5, 6, 7, 8, 1, 0] rfl)
                    obtain ⟨n159, hw⟩ := hw
                    refine W.widen (k := 2) (n := 204) (by omega) (by omega) ?_
                    exact LOOP159 n159 v7_23 0 _ _ hw hP hD hS _ (lv_sub hl [2, 3, 4, 5, 6, 7, 8, 1, 0] rfl)
              obtain ⟨n145, hw⟩ := hw
              refine W.widen (k := 2) (n := 204) (by omega) (by omega) ?_
              exact LOOP145 n145 0 0 q8_15 (upd q1_14 (0 : Int32).toNatClampNeg x_19) _ _ hw hP hD hS _ (lv_sub hl [2, 3, 4, 5, 6, 1, 0] rfl)
            · have hw := hw.1 c_22
              refine lv_aload hx hb dL_planned_70 (lv_at hl 3 rfl) ?_
              refine lv_iload hx hb dL_planned_72 (lv_at hl 4 rfl) ?_
              refine lv_aload hx hb dL_planned_74 (lv_at hl 3 rfl) ?_
              refine lv_iload hx hb dL_planned_76 (lv_at hl 4 rfl) ?_
              obtain ⟨hPs, hDs⟩ := seg_call (segs := [[(a_lengths, .inl (g 0, n_lengths, .inl lengths))], [(a_q_1, .inl (g 0, 4, .inl (upd q1_14 (0 : Int32).toNatClampNeg x_19)))], [(a_q_5, .inl (g 0, n_8, .inl q8_15))]]) [[(a_lengths, .inl (g 0, n_lengths, .inl lengths))], [(a_q_1, .inl (g 0, 4, .inl (upd q1_14 (0 : Int32).toNatClampNeg x_19)))]] [[(a_q_5, .inl (g 0, n_8, .inl q8_15))]] 3 [0, 1, 2] rfl rfl (by decide) hP hD
              have hPc : va_P (dC, dI) vwCl [(a_q_5, .inl (g 0, n_8, .inl q8_15))] H_20 := P_r hPs
              have hDc : va_D A [(a_q_5, .inl (g 0, n_8, .inl q8_15))] := D_r hDs
              have hFc : ∀ q, va_A [(a_q_5, .inl (g 0, n_8, .inl q8_15))] H_20.size q → A q := A_all hDc hA hS.1
              refine va_calli (va_runS (As := [.ref a_q_5, .int v5_13]) (rest := [.int v5_13, .ref a_q_5]) ⟨hx, hb, hml, hown, hts⟩ (c_L_least l hlf dC dI g (a_all := a_q_5) (n_all := n_8) (all := q8_15) (many := v5_13) (hw := hw) (sz := H_20.size)) (va_cwS 2 hts (gqS aw_6_3 aw_6_4 aw_1_0 aw_6_5) rfl rfl rfl (by decide +kernel) ⟨Nat.le_of_ble_eq_true rfl, Nat.le_of_ble_eq_true rfl⟩) ⟨PG_blind, PG_call hK hG hS hPc hDc hFc⟩ rfl rfl hl.1 rfl (lv_room (Nat.le_of_ble_eq_true rfl)) dL_planned_78 ⟨by rw [hrc]; omega, by rw [hrs]; omega⟩) hS (fun q _ h => hFc q h) hFc (fun r_55 u_55 t_55 H_55 L_55 ht_55 hvm_55 hw_55 hB_55 hz_55 hk_55 hS => ?_)
              obtain ⟨u_55⟩ := u_55
              have hw := hw_55
              rw [ht_55] at hB_55
              obtain ⟨hP1, hD1⟩ := hB_55
              obtain ⟨hP, hD⟩ := join_r hPs hDs hk_55 hFc hP1 hD1
              obtain ⟨hP, hD⟩ := seg_join [[(a_lengths, .inl (g 0, n_lengths, .inl lengths))], [(a_q_1, .inl (g 0, 4, .inl (upd q1_14 (0 : Int32).toNatClampNeg x_19)))]] [[(a_q_5, .inl (g 0, n_8, .inl q8_15))]] [[(a_lengths, .inl (g 0, n_lengths, .inl lengths))], [(a_q_1, .inl (g 0, 4, .inl (upd q1_14 (0 : Int32).toNatClampNeg x_19)))], [(a_q_5, .inl (g 0, n_8, .inl q8_15))]] 3 [0, 1, 2] rfl rfl (by decide) hP hD
              have hP : va_P (dC, dI) vwCl [(a_lengths, .inl (g 0, n_lengths, .inl lengths)), (a_q_1, .inl (g 0, 4, .inl (upd q1_14 (0 : Int32).toNatClampNeg x_19))), (a_q_5, .inl (g 0, n_8, .inl q8_15))] H_55 := hP
              have hD : va_D A [(a_lengths, .inl (g 0, n_lengths, .inl lengths)), (a_q_1, .inl (g 0, 4, .inl (upd q1_14 (0 : Int32).toNatClampNeg x_19))), (a_q_5, .inl (g 0, n_8, .inl q8_15))] := hD
              refine W.widen (k := 2) (n := 204) (by omega) (by omega) ?_
              obtain ⟨hPs, hDs⟩ := seg_call (segs := [[(a_lengths, .inl (g 0, n_lengths, .inl lengths))], [(a_q_1, .inl (g 0, 4, .inl (upd q1_14 (0 : Int32).toNatClampNeg x_19)))], [(a_q_5, .inl (g 0, n_8, .inl q8_15))]]) [[(a_lengths, .inl (g 0, n_lengths, .inl lengths))], [(a_q_1, .inl (g 0, 4, .inl (upd q1_14 (0 : Int32).toNatClampNeg x_19)))]] [[(a_q_5, .inl (g 0, n_8, .inl q8_15))]] 3 [0, 1, 2] rfl rfl (by decide) hP hD
              have hPc : va_P (dC, dI) vwCl [(a_q_5, .inl (g 0, n_8, .inl q8_15))] H_55 := P_r hPs
              have hDc : va_D A [(a_q_5, .inl (g 0, n_8, .inl q8_15))] := D_r hDs
              have hFc : ∀ q, va_A [(a_q_5, .inl (g 0, n_8, .inl q8_15))] H_55.size q → A q := A_all hDc hA hS.1
              refine va_calli (va_runS (As := [.ref a_q_5, .int v5_13, .int r_55]) (rest := []) ⟨hx, hb, hml, hown, hts⟩ (c_L_takes l hlf dC dI g (a_all := a_q_5) (n_all := n_8) (all := q8_15) (many := v5_13) (at_ := r_55) (hw := hw) (sz := H_55.size)) (va_cwS 3 hts (gqS aw_6_6 aw_6_7 aw_1_0 aw_6_8) rfl rfl rfl (by decide +kernel) ⟨Nat.le_of_ble_eq_true rfl, Nat.le_of_ble_eq_true rfl⟩) ⟨PG_blind, PG_call hK hG hS hPc hDc hFc⟩ rfl rfl hl.1 rfl (lv_room (Nat.le_of_ble_eq_true rfl)) dL_planned_81 ⟨by rw [hrc]; omega, by rw [hrs]; omega⟩) hS (fun q _ h => hFc q h) hFc (fun r_56 u_56 t_56 H_56 L_56 ht_56 hvm_56 hw_56 hB_56 hz_56 hk_56 hS => ?_)
              obtain ⟨q8_57, u_56⟩ := u_56
              have hw := hw_56
              rw [ht_56] at hB_56
              obtain ⟨hP1, hD1⟩ := hB_56
              obtain ⟨hP, hD⟩ := join_r hPs hDs hk_56 hFc hP1 hD1
              obtain ⟨hP, hD⟩ := seg_join [[(a_lengths, .inl (g 0, n_lengths, .inl lengths))], [(a_q_1, .inl (g 0, 4, .inl (upd q1_14 (0 : Int32).toNatClampNeg x_19)))]] [[(a_q_5, .inl (g 0, n_8, .inl q8_57))]] [[(a_lengths, .inl (g 0, n_lengths, .inl lengths))], [(a_q_1, .inl (g 0, 4, .inl (upd q1_14 (0 : Int32).toNatClampNeg x_19)))], [(a_q_5, .inl (g 0, n_8, .inl q8_57))]] 3 [0, 1, 2] rfl rfl (by decide) hP hD
              have hP : va_P (dC, dI) vwCl [(a_lengths, .inl (g 0, n_lengths, .inl lengths)), (a_q_1, .inl (g 0, 4, .inl (upd q1_14 (0 : Int32).toNatClampNeg x_19))), (a_q_5, .inl (g 0, n_8, .inl q8_57))] H_56 := hP
              have hD : va_D A [(a_lengths, .inl (g 0, n_lengths, .inl lengths)), (a_q_1, .inl (g 0, 4, .inl (upd q1_14 (0 : Int32).toNatClampNeg x_19))), (a_q_5, .inl (g 0, n_8, .inl q8_57))] := hD
              refine W.widen (k := 2) (n := 204) (by omega) (by omega) ?_
              refine lv_istore (lv' := [(6, .int r_56), (1, .int way), (2, .int ways), (3, .ref a_q_1), (4, .ref a_q_5), (5, .int v5_13)]) hx hb dL_planned_84 hl (by decide) rfl (fun ls hl => ?_)
              refine lv_iload hx hb dL_planned_86 (lv_at hl 0 rfl) ?_
              refine lv_aload hx hb dL_planned_88 (lv_at hl 4 rfl) ?_
              refine lv_iload hx hb dL_planned_90 (lv_at hl 5 rfl) ?_
              refine lv_iconst (v := 1) hx hb dL_planned_92 (by decide) ?_
              refine lv_isub hx hb dL_planned_93 ?_
              refine lv_topi (fun x_58 ex_58 => ?_)
              have hw := hw x_58 ex_58
              refine lv_aload hx hb dL_planned_94 (lv_at hl 4 rfl) ?_
              refine lv_iload hx hb dL_planned_96 (lv_at hl 5 rfl) ?_
              refine lv_iconst (v := 1) hx hb dL_planned_98 (by decide) ?_
              refine lv_isub hx hb dL_planned_99 ?_
              refine lv_topi (fun x_59 ex_59 => ?_)
              have hw := hw x_59 ex_59
              obtain ⟨hPs, hDs⟩ := seg_call (segs := [[(a_lengths, .inl (g 0, n_lengths, .inl lengths))], [(a_q_1, .inl (g 0, 4, .inl (upd q1_14 (0 : Int32).toNatClampNeg x_19)))], [(a_q_5, .inl (g 0, n_8, .inl q8_57))]]) [[(a_lengths, .inl (g 0, n_lengths, .inl lengths))], [(a_q_1, .inl (g 0, 4, .inl (upd q1_14 (0 : Int32).toNatClampNeg x_19)))]] [[(a_q_5, .inl (g 0, n_8, .inl q8_57))]] 3 [0, 1, 2] rfl rfl (by decide) hP hD
              have hPc : va_P (dC, dI) vwCl [(a_q_5, .inl (g 0, n_8, .inl q8_57))] H_56 := P_r hPs
              have hDc : va_D A [(a_q_5, .inl (g 0, n_8, .inl q8_57))] := D_r hDs
              have hFc : ∀ q, va_A [(a_q_5, .inl (g 0, n_8, .inl q8_57))] H_56.size q → A q := A_all hDc hA hS.1
              refine va_calli (va_runS (As := [.ref a_q_5, .int x_59]) (rest := [.int x_58, .ref a_q_5, .int r_56]) ⟨hx, hb, hml, hown, hts⟩ (c_L_least l hlf dC dI g (a_all := a_q_5) (n_all := n_8) (all := q8_57) (many := x_59) (hw := hw) (sz := H_56.size)) (va_cwS 2 hts (gqS aw_6_3 aw_6_4 aw_1_0 aw_6_5) rfl rfl rfl (by decide +kernel) ⟨Nat.le_of_ble_eq_true rfl, Nat.le_of_ble_eq_true rfl⟩) ⟨PG_blind, PG_call hK hG hS hPc hDc hFc⟩ rfl rfl hl.1 rfl (lv_room (Nat.le_of_ble_eq_true rfl)) dL_planned_100 ⟨by rw [hrc]; omega, by rw [hrs]; omega⟩) hS (fun q _ h => hFc q h) hFc (fun r_60 u_60 t_60 H_60 L_60 ht_60 hvm_60 hw_60 hB_60 hz_60 hk_60 hS => ?_)
              obtain ⟨u_60⟩ := u_60
              have hw := hw_60
              rw [ht_60] at hB_60
              obtain ⟨hP1, hD1⟩ := hB_60
              obtain ⟨hP, hD⟩ := join_r hPs hDs hk_60 hFc hP1 hD1
              obtain ⟨hP, hD⟩ := seg_join [[(a_lengths, .inl (g 0, n_lengths, .inl lengths))], [(a_q_1, .inl (g 0, 4, .inl (upd q1_14 (0 : Int32).toNatClampNeg x_19)))]] [[(a_q_5, .inl (g 0, n_8, .inl q8_57))]] [[(a_lengths, .inl (g 0, n_lengths, .inl lengths))], [(a_q_1, .inl (g 0, 4, .inl (upd q1_14 (0 : Int32).toNatClampNeg x_19)))], [(a_q_5, .inl (g 0, n_8, .inl q8_57))]] 3 [0, 1, 2] rfl rfl (by decide) hP hD
              have hP : va_P (dC, dI) vwCl [(a_lengths, .inl (g 0, n_lengths, .inl lengths)), (a_q_1, .inl (g 0, 4, .inl (upd q1_14 (0 : Int32).toNatClampNeg x_19))), (a_q_5, .inl (g 0, n_8, .inl q8_57))] H_60 := hP
              have hD : va_D A [(a_lengths, .inl (g 0, n_lengths, .inl lengths)), (a_q_1, .inl (g 0, 4, .inl (upd q1_14 (0 : Int32).toNatClampNeg x_19))), (a_q_5, .inl (g 0, n_8, .inl q8_57))] := hD
              refine W.widen (k := 2) (n := 204) (by omega) (by omega) ?_
              obtain ⟨hPs, hDs⟩ := seg_call (segs := [[(a_lengths, .inl (g 0, n_lengths, .inl lengths))], [(a_q_1, .inl (g 0, 4, .inl (upd q1_14 (0 : Int32).toNatClampNeg x_19)))], [(a_q_5, .inl (g 0, n_8, .inl q8_57))]]) [[(a_lengths, .inl (g 0, n_lengths, .inl lengths))], [(a_q_1, .inl (g 0, 4, .inl (upd q1_14 (0 : Int32).toNatClampNeg x_19)))]] [[(a_q_5, .inl (g 0, n_8, .inl q8_57))]] 3 [0, 1, 2] rfl rfl (by decide) hP hD
              have hPc : va_P (dC, dI) vwCl [(a_q_5, .inl (g 0, n_8, .inl q8_57))] H_60 := P_r hPs
              have hDc : va_D A [(a_q_5, .inl (g 0, n_8, .inl q8_57))] := D_r hDs
              have hFc : ∀ q, va_A [(a_q_5, .inl (g 0, n_8, .inl q8_57))] H_60.size q → A q := A_all hDc hA hS.1
              refine va_calli (va_runS (As := [.ref a_q_5, .int x_58, .int r_60]) (rest := [.int r_56]) ⟨hx, hb, hml, hown, hts⟩ (c_L_takes l hlf dC dI g (a_all := a_q_5) (n_all := n_8) (all := q8_57) (many := x_58) (at_ := r_60) (hw := hw) (sz := H_60.size)) (va_cwS 3 hts (gqS aw_6_6 aw_6_7 aw_1_0 aw_6_8) rfl rfl rfl (by decide +kernel) ⟨Nat.le_of_ble_eq_true rfl, Nat.le_of_ble_eq_true rfl⟩) ⟨PG_blind, PG_call hK hG hS hPc hDc hFc⟩ rfl rfl hl.1 rfl (lv_room (Nat.le_of_ble_eq_true rfl)) dL_planned_103 ⟨by rw [hrc]; omega, by rw [hrs]; omega⟩) hS (fun q _ h => hFc q h) hFc (fun r_61 u_61 t_61 H_61 L_61 ht_61 hvm_61 hw_61 hB_61 hz_61 hk_61 hS => ?_)
              obtain ⟨q8_62, u_61⟩ := u_61
              have hw := hw_61
              rw [ht_61] at hB_61
              obtain ⟨hP1, hD1⟩ := hB_61
              obtain ⟨hP, hD⟩ := join_r hPs hDs hk_61 hFc hP1 hD1
              obtain ⟨hP, hD⟩ := seg_join [[(a_lengths, .inl (g 0, n_lengths, .inl lengths))], [(a_q_1, .inl (g 0, 4, .inl (upd q1_14 (0 : Int32).toNatClampNeg x_19)))]] [[(a_q_5, .inl (g 0, n_8, .inl q8_62))]] [[(a_lengths, .inl (g 0, n_lengths, .inl lengths))], [(a_q_1, .inl (g 0, 4, .inl (upd q1_14 (0 : Int32).toNatClampNeg x_19)))], [(a_q_5, .inl (g 0, n_8, .inl q8_62))]] 3 [0, 1, 2] rfl rfl (by decide) hP hD
              have hP : va_P (dC, dI) vwCl [(a_lengths, .inl (g 0, n_lengths, .inl lengths)), (a_q_1, .inl (g 0, 4, .inl (upd q1_14 (0 : Int32).toNatClampNeg x_19))), (a_q_5, .inl (g 0, n_8, .inl q8_62))] H_61 := hP
              have hD : va_D A [(a_lengths, .inl (g 0, n_lengths, .inl lengths)), (a_q_1, .inl (g 0, 4, .inl (upd q1_14 (0 : Int32).toNatClampNeg x_19))), (a_q_5, .inl (g 0, n_8, .inl q8_62))] := hD
              refine W.widen (k := 2) (n := 204) (by omega) (by omega) ?_
              refine lv_iadd hx hb dL_planned_106 ?_
              refine lv_topi (fun x_63 ex_63 => ?_)
              have hw := hw x_63 ex_63
              refine lv_istore (lv' := [(6, .int x_63), (1, .int way), (2, .int ways), (3, .ref a_q_1), (4, .ref a_q_5), (5, .int v5_13)]) hx hb dL_planned_107 hl (by decide) rfl (fun ls hl => ?_)
              refine lv_aload hx hb dL_planned_109 (lv_at hl 4 rfl) ?_
              refine lv_iload hx hb dL_planned_111 (lv_at hl 5 rfl) ?_
              refine lv_iconst (v := 2) hx hb dL_planned_113 (by decide) ?_
              refine lv_isub hx hb dL_planned_114 ?_
              refine lv_topi (fun x_64 ex_64 => ?_)
              have hw := hw x_64 ex_64
              refine lv_iload hx hb dL_planned_115 (lv_at hl 0 rfl) ?_
              refine va_iast hx hb hK hP hD hS 2 0 rfl rfl hw.1 dL_planned_117 (fun H_65 L_66 hP hD hS => ?_)
              have hw := hw.2
              have hP : va_P (dC, dI) vwCl [(a_lengths, .inl (g 0, n_lengths, .inl lengths)), (a_q_1, .inl (g 0, 4, .inl (upd q1_14 (0 : Int32).toNatClampNeg x_19))), (a_q_5, .inl (g 0, n_8, .inl (upd q8_62 x_64.toNatClampNeg x_63)))] H_65 := hP
              have hD : va_D A [(a_lengths, .inl (g 0, n_lengths, .inl lengths)), (a_q_1, .inl (g 0, 4, .inl (upd q1_14 (0 : Int32).toNatClampNeg x_19))), (a_q_5, .inl (g 0, n_8, .inl (upd q8_62 x_64.toNatClampNeg x_63)))] := hD
              obtain ⟨x_67, ex_67⟩ : ∃ y : Int32, y = v5_13 + (-1) := ⟨_, rfl⟩
              have hw := hw x_67 ex_67
              refine lv_iinc (v := x_67) (lv' := [(5, .int x_67), (6, .int x_63), (1, .int way), (2, .int ways), (3, .ref a_q_1), (4, .ref a_q_5)]) hx hb dL_planned_118 hl (k := 5) rfl (by rw [ex_67]; rfl) (by decide) rfl (fun ls hl => ?_)
              refine lv_aload_n hx hb dL_planned_121 rfl (lv_at hl 4 rfl) ?_
              refine lv_iconst (v := 1) hx hb dL_planned_122 (by decide) ?_
              refine lv_dup2_11 hx hb dL_planned_123 rfl rfl ?_
              refine va_iald hx hb hK hP 1 0 rfl rfl (by unfold vp_in; decide) dL_planned_124 ?_
              refine lv_topi (fun x_68 ex_68 => ?_)
              have hw := hw x_68 ex_68
              refine lv_iload hx hb dL_planned_125 (lv_at hl 1 rfl) ?_
              refine lv_iadd hx hb dL_planned_127 ?_
              refine lv_topi (fun x_69 ex_69 => ?_)
              have hw := hw x_69 ex_69
              refine va_iast hx hb hK hP hD hS 1 0 rfl rfl (by unfold vp_in; decide) dL_planned_128 (fun H_70 L_71 hP hD hS => ?_)
              have hP : va_P (dC, dI) vwCl [(a_lengths, .inl (g 0, n_lengths, .inl lengths)), (a_q_1, .inl (g 0, 4, .inl (upd (upd q1_14 (0 : Int32).toNatClampNeg x_19) (1 : Int32).toNatClampNeg x_69))), (a_q_5, .inl (g 0, n_8, .inl (upd q8_62 x_64.toNatClampNeg x_63)))] H_70 := hP
              have hD : va_D A [(a_lengths, .inl (g 0, n_lengths, .inl lengths)), (a_q_1, .inl (g 0, 4, .inl (upd (upd q1_14 (0 : Int32).toNatClampNeg x_19) (1 : Int32).toNatClampNeg x_69))), (a_q_5, .inl (g 0, n_8, .inl (upd q8_62 x_64.toNatClampNeg x_63)))] := hD
              refine lv_aload_n hx hb dL_planned_129 rfl (lv_at hl 4 rfl) ?_
              refine lv_iconst (v := 2) hx hb dL_planned_130 (by decide) ?_
              refine lv_dup2_11 hx hb dL_planned_131 rfl rfl ?_
              refine va_iald hx hb hK hP 1 0 rfl rfl (by unfold vp_in; decide) dL_planned_132 ?_
              refine lv_topi (fun x_72 ex_72 => ?_)
              have hw := hw x_72 ex_72
              refine lv_iconst (v := 1) hx hb dL_planned_133 (by decide) ?_
              refine lv_iadd hx hb dL_planned_134 ?_
              refine lv_topi (fun x_73 ex_73 => ?_)
              have hw := hw x_73 ex_73
              refine va_iast hx hb hK hP hD hS 1 0 rfl rfl (by unfold vp_in; decide) dL_planned_135 (fun H_74 L_75 hP hD hS => ?_)
              have hP : va_P (dC, dI) vwCl [(a_lengths, .inl (g 0, n_lengths, .inl lengths)), (a_q_1, .inl (g 0, 4, .inl (upd (upd (upd q1_14 (0 : Int32).toNatClampNeg x_19) (1 : Int32).toNatClampNeg x_69) (2 : Int32).toNatClampNeg x_73))), (a_q_5, .inl (g 0, n_8, .inl (upd q8_62 x_64.toNatClampNeg x_63)))] H_74 := hP
              have hD : va_D A [(a_lengths, .inl (g 0, n_lengths, .inl lengths)), (a_q_1, .inl (g 0, 4, .inl (upd (upd (upd q1_14 (0 : Int32).toNatClampNeg x_19) (1 : Int32).toNatClampNeg x_69) (2 : Int32).toNatClampNeg x_73))), (a_q_5, .inl (g 0, n_8, .inl (upd q8_62 x_64.toNatClampNeg x_63)))] := hD
              refine lv_goto (tgt := 52) hx hb dL_planned_136 (by decide) ?_
              refine W.widen (k := 2) (n := 204) (by omega) (by omega) ?_
              exact ih52 x_67 (upd (upd (upd q1_14 (0 : Int32).toNatClampNeg x_19) (1 : Int32).toNatClampNeg x_69) (2 : Int32).toNatClampNeg x_73) (upd q8_62 x_64.toNatClampNeg x_63) _ _ hw hP hD hS _ (lv_sub hl [2, 3, 4, 5, 0] rfl)
      obtain ⟨n52, hw⟩ := hw
      refine W.widen (k := 2) (n := 204) (by omega) (by omega) ?_
      exact LOOP52 n52 (nI n_lengths) (fun _ => 0) q8_11 _ _ hw hP hD hS _ (lv_sub hl [1, 2, 3, 4, 5] rfl)
    · have hw := hw.1 c_12
      refine lv_aload_n hx hb dL_planned_46 rfl (lv_at hl 0 rfl) ?_
      refine lv_iload_n hx hb dL_planned_47 rfl (lv_at hl 2 rfl) ?_
      obtain ⟨hPs, hDs⟩ := seg_call (segs := [[(a_lengths, .inl (g 0, n_lengths, .inl lengths))], [(a_q_1, .inl (g 0, 4, .inl (fun _ => 0)))], [(a_q_5, .inl (g 0, n_8, .inl q8_11))]]) [[(a_q_1, .inl (g 0, 4, .inl (fun _ => 0)))], [(a_q_5, .inl (g 0, n_8, .inl q8_11))]] [[(a_lengths, .inl (g 0, n_lengths, .inl lengths))]] 3 [1, 2, 0] rfl rfl (by decide) hP hD
      have hPc : va_P (dC, dI) vwCl [(a_lengths, .inl (g 0, n_lengths, .inl lengths))] H := P_r hPs
      have hDc : va_D A [(a_lengths, .inl (g 0, n_lengths, .inl lengths))] := D_r hDs
      have hFc : ∀ q, va_A [(a_lengths, .inl (g 0, n_lengths, .inl lengths))] H.size q → A q := A_all hDc hA hS.1
      refine va_callq (va_runS (As := [.ref a_lengths, .int ways]) (rest := []) ⟨hx, hb, hml, hown, hts⟩ (c_L_polyphase l hlf dC dI g (a_lengths := a_lengths) (n_lengths := n_lengths) (lengths := lengths) (ways := ways) (hw := hw) (sz := H.size)) (va_cwS 2 hts (gqS aw_5_238 aw_5_239 aw_1_0 aw_6_0) rfl rfl rfl (by decide +kernel) ⟨Nat.le_of_ble_eq_true rfl, Nat.le_of_ble_eq_true rfl⟩) ⟨PG_blind, PG_call hK hG hS hPc hDc hFc⟩ rfl rfl hl.1 rfl (lv_room (Nat.le_of_ble_eq_true rfl)) dL_planned_48 ⟨by rw [hrc]; omega, by rw [hrs]; omega⟩) hS (fun q _ h => hFc q h) hFc (fun r_76 u_76 t_76 H_76 L_76 ht_76 hvm_76 hw_76 hB_76 hz_76 hk_76 hS => ?_)
      obtain ⟨a_q_77, n_78, q_79, u_76⟩ := u_76
      obtain ⟨rfl, hw⟩ := hw_76
      rw [ht_76] at hB_76
      obtain ⟨hP1, hD1⟩ := hB_76
      obtain ⟨hP, hD⟩ := join_r hPs hDs hk_76 hFc hP1 hD1
      obtain ⟨hP, hD⟩ := seg_join [[(a_q_1, .inl (g 0, 4, .inl (fun _ => 0)))], [(a_q_5, .inl (g 0, n_8, .inl q8_11))]] [[(a_lengths, .inl (g 0, n_lengths, .inl lengths))], [(a_q_77, .inl (g 0, n_78, .inl q_79))]] [[(a_lengths, .inl (g 0, n_lengths, .inl lengths))], [(a_q_1, .inl (g 0, 4, .inl (fun _ => 0)))], [(a_q_5, .inl (g 0, n_8, .inl q8_11))], [(a_q_77, .inl (g 0, n_78, .inl q_79))]] 4 [2, 0, 1, 3] rfl rfl (by decide) hP hD
      have hP : va_P (dC, dI) vwCl [(a_lengths, .inl (g 0, n_lengths, .inl lengths)), (a_q_1, .inl (g 0, 4, .inl (fun _ => 0))), (a_q_5, .inl (g 0, n_8, .inl q8_11)), (a_q_77, .inl (g 0, n_78, .inl q_79))] H_76 := hP
      have hD : va_D A [(a_lengths, .inl (g 0, n_lengths, .inl lengths)), (a_q_1, .inl (g 0, 4, .inl (fun _ => 0))), (a_q_5, .inl (g 0, n_8, .inl q8_11)), (a_q_77, .inl (g 0, n_78, .inl q_79))] := hD
      refine W.widen (k := 35) (n := 6220) (by omega) (by omega) ?_
      refine W.widen (k := 35) (n := 6220) (by omega) (by omega) ?_
      subst hQM
      obtain ⟨hP, hD⟩ := seg_sub (segs := [[(a_lengths, .inl (g 0, n_lengths, .inl lengths))], [(a_q_1, .inl (g 0, 4, .inl (fun _ => 0)))], [(a_q_5, .inl (g 0, n_8, .inl q8_11))], [(a_q_77, .inl (g 0, n_78, .inl q_79))]]) [[(a_lengths, .inl (g 0, n_lengths, .inl lengths))], [(a_q_77, .inl (g 0, n_78, .inl q_79))]] [[(a_q_1, .inl (g 0, 4, .inl (fun _ => 0)))], [(a_q_5, .inl (g 0, n_8, .inl q8_11))]] 4 [0, 3, 1, 2] rfl rfl (by decide) hP hD
      exact W.aret (v := .ref a_q_77) hx hb hr (Or.inr ⟨_, rfl⟩) (Or.inr ⟨_, rfl⟩) (fun t ht hW => ⟨⟨some a_q_77, (a_q_77, n_78, q_79, ()), rfl, ⟨rfl, hw⟩, ⟨P_at ht hP, hD⟩⟩, hS.F ht⟩) hS.2.2 dL_planned_51
  have LOOP19 : ∀ (n19 : Nat) (v6_9 : Int32) (q8_10 : Nat → Int32) (H : Heap) (locs : List Loc), wl_L_planned_19 n_lengths lengths n_8 (wx_L_planned_19_41 n_lengths lengths way ways Q n_8) n19 v6_9 q8_10 → va_P (dC, dI) vwCl [(a_lengths, .inl (g 0, n_lengths, .inl lengths)), (a_q_1, .inl (g 0, 4, .inl (fun _ => 0))), (a_q_5, .inl (g 0, n_8, .inl q8_10))] H → va_D A [(a_lengths, .inl (g 0, n_lengths, .inl lengths)), (a_q_1, .inl (g 0, 4, .inl (fun _ => 0))), (a_q_5, .inl (g 0, n_8, .inl q8_10))] → va_S A s.heap H locs → ∀ (ls : Array Slot), lv_has ls 10 [(0, .ref a_lengths), (1, .int way), (2, .int ways), (3, .ref a_q_1), (4, .ref a_q_5), (5, .int (nI n_lengths)), (6, .int v6_9)] → W p l e (headSpec wqL_planned ({ frames := 1, cells := 35, slots := 6220, locals := 31 })).room s m ([.ref a_lengths, .int way, .int ways] : List Value).toArray below meth c H locs 2 204 QM (F0 m 19 ls []) := by
    intro n19
    induction n19 with
    | zero =>
      intro v6_9 q8_10 H locs hw hP hD hS ls hl
      exact False.elim hw
    | succ n19 ih19 =>
      intro v6_9 q8_10 H locs hw hP hD hS ls hl
      rw [wl_L_planned_19_s] at hw
      refine lv_iload hx hb dL_planned_19 (lv_at hl 6 rfl) ?_
      refine lv_iload hx hb dL_planned_21 (lv_at hl 5 rfl) ?_
      refine lv_icmp_ge (tgt := 41) hx hb dL_planned_23 (by decide) (fun c_80 => ?_) (fun c_80 => ?_)
      · have hw := hw.1 c_80
        refine W.widen (k := 2) (n := 204) (by omega) (by omega) ?_
        exact EX19_41 q8_10 _ _ hw hP hD hS _ (lv_sub hl [0, 1, 2, 3, 4, 5] rfl)
      · have hw := hw.2 c_80
        refine lv_aload hx hb dL_planned_26 (lv_at hl 4 rfl) ?_
        refine lv_iload hx hb dL_planned_28 (lv_at hl 6 rfl) ?_
        refine lv_aload_n hx hb dL_planned_30 rfl (lv_at hl 0 rfl) ?_
        refine lv_iload hx hb dL_planned_31 (lv_at hl 6 rfl) ?_
        refine va_iald hx hb hK hP 0 0 rfl rfl hw.1 dL_planned_33 ?_
        have hw := hw.2
        refine lv_topi (fun x_81 ex_81 => ?_)
        have hw := hw x_81 ex_81
        refine va_iast hx hb hK hP hD hS 2 0 rfl rfl hw.1 dL_planned_34 (fun H_82 L_83 hP hD hS => ?_)
        have hw := hw.2
        have hP : va_P (dC, dI) vwCl [(a_lengths, .inl (g 0, n_lengths, .inl lengths)), (a_q_1, .inl (g 0, 4, .inl (fun _ => 0))), (a_q_5, .inl (g 0, n_8, .inl (upd q8_10 v6_9.toNatClampNeg x_81)))] H_82 := hP
        have hD : va_D A [(a_lengths, .inl (g 0, n_lengths, .inl lengths)), (a_q_1, .inl (g 0, 4, .inl (fun _ => 0))), (a_q_5, .inl (g 0, n_8, .inl (upd q8_10 v6_9.toNatClampNeg x_81)))] := hD
        obtain ⟨x_84, ex_84⟩ : ∃ y : Int32, y = v6_9 + 1 := ⟨_, rfl⟩
        have hw := hw x_84 ex_84
        refine lv_iinc (v := x_84) (lv' := [(6, .int x_84), (0, .ref a_lengths), (1, .int way), (2, .int ways), (3, .ref a_q_1), (4, .ref a_q_5), (5, .int (nI n_lengths))]) hx hb dL_planned_35 hl (k := 6) rfl (by rw [ex_84]; rfl) (by decide) rfl (fun ls hl => ?_)
        refine lv_goto (tgt := 19) hx hb dL_planned_38 (by decide) ?_
        refine W.widen (k := 2) (n := 204) (by omega) (by omega) ?_
        exact ih19 x_84 (upd q8_10 v6_9.toNatClampNeg x_81) _ _ hw hP hD hS _ (lv_sub hl [1, 2, 3, 4, 5, 6, 0] rfl)
  obtain ⟨n19, hw⟩ := hw
  refine W.widen (k := 2) (n := 204) (by omega) (by omega) ?_
  exact LOOP19 n19 0 (fun _ => 0) _ _ hw hP hD hS _ (lv_sub hl [4, 5, 6, 3, 2, 1, 0] rfl)
theorem dL_isPlanned_0 : decode cL_isPlanned 0 = .ok (.aload_n 1, 1) := by decide +kernel
theorem dL_isPlanned_1 : decode cL_isPlanned 1 = .ok (.iconst 3, 1) := by decide +kernel
theorem dL_isPlanned_2 : decode cL_isPlanned 2 = .ok (.invokestatic 103, 3) := by decide +kernel
theorem dL_isPlanned_5 : decode cL_isPlanned 5 = .ok (.istore_n 3, 1) := by decide +kernel
theorem dL_isPlanned_6 : decode cL_isPlanned 6 = .ok (.iconst 2, 1) := by decide +kernel
theorem dL_isPlanned_7 : decode cL_isPlanned 7 = .ok (.aload_n 1, 1) := by decide +kernel
theorem dL_isPlanned_8 : decode cL_isPlanned 8 = .ok (.iconst 5, 1) := by decide +kernel
theorem dL_isPlanned_9 : decode cL_isPlanned 9 = .ok (.invokestatic 103, 3) := by decide +kernel
theorem dL_isPlanned_12 : decode cL_isPlanned 12 = .ok (.iadd, 1) := by decide +kernel
theorem dL_isPlanned_13 : decode cL_isPlanned 13 = .ok (.istore 4, 2) := by decide +kernel
theorem dL_isPlanned_15 : decode cL_isPlanned 15 = .ok (.aload_n 0, 1) := by decide +kernel
theorem dL_isPlanned_16 : decode cL_isPlanned 16 = .ok (.iload_n 2, 1) := by decide +kernel
theorem dL_isPlanned_17 : decode cL_isPlanned 17 = .ok (.invokestatic 124, 3) := by decide +kernel
theorem dL_isPlanned_20 : decode cL_isPlanned 20 = .ok (.astore 5, 2) := by decide +kernel
theorem dL_isPlanned_22 : decode cL_isPlanned 22 = .ok (.aload_n 0, 1) := by decide +kernel
theorem dL_isPlanned_23 : decode cL_isPlanned 23 = .ok (.iload_n 3, 1) := by decide +kernel
theorem dL_isPlanned_24 : decode cL_isPlanned 24 = .ok (.iload 4, 2) := by decide +kernel
theorem dL_isPlanned_26 : decode cL_isPlanned 26 = .ok (.invokevirtual 37, 3) := by decide +kernel
theorem dL_isPlanned_29 : decode cL_isPlanned 29 = .ok (.istore 6, 2) := by decide +kernel
theorem dL_isPlanned_31 : decode cL_isPlanned 31 = .ok (.aload 5, 2) := by decide +kernel
theorem dL_isPlanned_33 : decode cL_isPlanned 33 = .ok (.iload_n 3, 1) := by decide +kernel
theorem dL_isPlanned_34 : decode cL_isPlanned 34 = .ok (.iload 4, 2) := by decide +kernel
theorem dL_isPlanned_36 : decode cL_isPlanned 36 = .ok (.invokestatic 161, 3) := by decide +kernel
theorem dL_isPlanned_39 : decode cL_isPlanned 39 = .ok (.astore 7, 2) := by decide +kernel
theorem dL_isPlanned_41 : decode cL_isPlanned 41 = .ok (.iconst 0, 1) := by decide +kernel
theorem dL_isPlanned_42 : decode cL_isPlanned 42 = .ok (.istore 8, 2) := by decide +kernel
theorem dL_isPlanned_65 : decode cL_isPlanned 65 = .ok (.iconst 0, 1) := by decide +kernel
theorem dL_isPlanned_66 : decode cL_isPlanned 66 = .ok (.ireturn, 1) := by decide +kernel
theorem dL_isPlanned_73 : decode cL_isPlanned 73 = .ok (.aload_n 0, 1) := by decide +kernel
theorem dL_isPlanned_74 : decode cL_isPlanned 74 = .ok (.iload_n 2, 1) := by decide +kernel
theorem dL_isPlanned_75 : decode cL_isPlanned 75 = .ok (.invokevirtual 165, 3) := by decide +kernel
theorem dL_isPlanned_78 : decode cL_isPlanned 78 = .ok (.aload 5, 2) := by decide +kernel
theorem dL_isPlanned_80 : decode cL_isPlanned 80 = .ok (.iconst 1, 1) := by decide +kernel
theorem dL_isPlanned_81 : decode cL_isPlanned 81 = .ok (.iconst 2, 1) := by decide +kernel
theorem dL_isPlanned_82 : decode cL_isPlanned 82 = .ok (.invokestatic 161, 3) := by decide +kernel
theorem dL_isPlanned_85 : decode cL_isPlanned 85 = .ok (.iconst 1, 1) := by decide +kernel
theorem dL_isPlanned_86 : decode cL_isPlanned 86 = .ok (.iaload, 1) := by decide +kernel
theorem dL_isPlanned_87 : decode cL_isPlanned 87 = .ok (.if_icmp .eq 5, 3) := by decide +kernel
theorem dL_isPlanned_92 : decode cL_isPlanned 92 = .ok (.iconst 0, 1) := by decide +kernel
theorem dL_isPlanned_93 : decode cL_isPlanned 93 = .ok (.istore 8, 2) := by decide +kernel
theorem dL_isPlanned_95 : decode cL_isPlanned 95 = .ok (.aload 5, 2) := by decide +kernel
theorem dL_isPlanned_97 : decode cL_isPlanned 97 = .ok (.arraylength, 1) := by decide +kernel
theorem dL_isPlanned_98 : decode cL_isPlanned 98 = .ok (.istore 9, 2) := by decide +kernel
theorem dL_isPlanned_157 : decode cL_isPlanned 157 = .ok (.iconst 0, 1) := by decide +kernel
theorem dL_isPlanned_158 : decode cL_isPlanned 158 = .ok (.istore 10, 2) := by decide +kernel
theorem dL_isPlanned_160 : decode cL_isPlanned 160 = .ok (.iconst 1, 1) := by decide +kernel
theorem dL_isPlanned_161 : decode cL_isPlanned 161 = .ok (.istore 11, 2) := by decide +kernel
theorem dL_isPlanned_186 : decode cL_isPlanned 186 = .ok (.aload_n 0, 1) := by decide +kernel
theorem dL_isPlanned_187 : decode cL_isPlanned 187 = .ok (.iload_n 2, 1) := by decide +kernel
theorem dL_isPlanned_188 : decode cL_isPlanned 188 = .ok (.invokevirtual 165, 3) := by decide +kernel
theorem dL_isPlanned_191 : decode cL_isPlanned 191 = .ok (.iload 8, 2) := by decide +kernel
theorem dL_isPlanned_193 : decode cL_isPlanned 193 = .ok (.if_icmp .gt 20, 3) := by decide +kernel
theorem dL_isPlanned_213 : decode cL_isPlanned 213 = .ok (.iconst 0, 1) := by decide +kernel
theorem dL_isPlanned_214 : decode cL_isPlanned 214 = .ok (.ireturn, 1) := by decide +kernel
theorem dL_isPlanned_196 : decode cL_isPlanned 196 = .ok (.iload_n 3, 1) := by decide +kernel
theorem dL_isPlanned_197 : decode cL_isPlanned 197 = .ok (.ifCond .ne 12, 3) := by decide +kernel
theorem dL_isPlanned_209 : decode cL_isPlanned 209 = .ok (.iconst 1, 1) := by decide +kernel
theorem dL_isPlanned_210 : decode cL_isPlanned 210 = .ok (.goto 4, 3) := by decide +kernel
theorem dL_isPlanned_200 : decode cL_isPlanned 200 = .ok (.aload 7, 2) := by decide +kernel
theorem dL_isPlanned_202 : decode cL_isPlanned 202 = .ok (.iconst 0, 1) := by decide +kernel
theorem dL_isPlanned_203 : decode cL_isPlanned 203 = .ok (.iaload, 1) := by decide +kernel
theorem dL_isPlanned_204 : decode cL_isPlanned 204 = .ok (.iload 10, 2) := by decide +kernel
theorem dL_isPlanned_206 : decode cL_isPlanned 206 = .ok (.if_icmp .ne 7, 3) := by decide +kernel
theorem dL_isPlanned_163 : decode cL_isPlanned 163 = .ok (.iload 11, 2) := by decide +kernel
theorem dL_isPlanned_165 : decode cL_isPlanned 165 = .ok (.aload_n 0, 1) := by decide +kernel
theorem dL_isPlanned_166 : decode cL_isPlanned 166 = .ok (.iload_n 2, 1) := by decide +kernel
theorem dL_isPlanned_167 : decode cL_isPlanned 167 = .ok (.invokevirtual 114, 3) := by decide +kernel
theorem dL_isPlanned_170 : decode cL_isPlanned 170 = .ok (.if_icmp .ge 16, 3) := by decide +kernel
theorem dL_isPlanned_173 : decode cL_isPlanned 173 = .ok (.iinc 10 1, 3) := by decide +kernel
theorem dL_isPlanned_176 : decode cL_isPlanned 176 = .ok (.iload 11, 2) := by decide +kernel
theorem dL_isPlanned_178 : decode cL_isPlanned 178 = .ok (.iload 4, 2) := by decide +kernel
theorem dL_isPlanned_180 : decode cL_isPlanned 180 = .ok (.imul, 1) := by decide +kernel
theorem dL_isPlanned_181 : decode cL_isPlanned 181 = .ok (.istore 11, 2) := by decide +kernel
theorem dL_isPlanned_183 : decode cL_isPlanned 183 = .ok (.goto (-20), 3) := by decide +kernel
theorem dL_isPlanned_100 : decode cL_isPlanned 100 = .ok (.iload 9, 2) := by decide +kernel
theorem dL_isPlanned_102 : decode cL_isPlanned 102 = .ok (.iconst 1, 1) := by decide +kernel
theorem dL_isPlanned_103 : decode cL_isPlanned 103 = .ok (.if_icmp .le 54, 3) := by decide +kernel
theorem dL_isPlanned_106 : decode cL_isPlanned 106 = .ok (.aload 5, 2) := by decide +kernel
theorem dL_isPlanned_108 : decode cL_isPlanned 108 = .ok (.iload 9, 2) := by decide +kernel
theorem dL_isPlanned_110 : decode cL_isPlanned 110 = .ok (.aload_n 1, 1) := by decide +kernel
theorem dL_isPlanned_111 : decode cL_isPlanned 111 = .ok (.iload 9, 2) := by decide +kernel
theorem dL_isPlanned_113 : decode cL_isPlanned 113 = .ok (.invokestatic 103, 3) := by decide +kernel
theorem dL_isPlanned_116 : decode cL_isPlanned 116 = .ok (.invokestatic 155, 3) := by decide +kernel
theorem dL_isPlanned_119 : decode cL_isPlanned 119 = .ok (.istore 10, 2) := by decide +kernel
theorem dL_isPlanned_121 : decode cL_isPlanned 121 = .ok (.aload_n 1, 1) := by decide +kernel
theorem dL_isPlanned_122 : decode cL_isPlanned 122 = .ok (.iload 9, 2) := by decide +kernel
theorem dL_isPlanned_124 : decode cL_isPlanned 124 = .ok (.iconst 1, 1) := by decide +kernel
theorem dL_isPlanned_125 : decode cL_isPlanned 125 = .ok (.isub, 1) := by decide +kernel
theorem dL_isPlanned_126 : decode cL_isPlanned 126 = .ok (.invokestatic 103, 3) := by decide +kernel
theorem dL_isPlanned_129 : decode cL_isPlanned 129 = .ok (.istore 11, 2) := by decide +kernel
theorem dL_isPlanned_131 : decode cL_isPlanned 131 = .ok (.aload 5, 2) := by decide +kernel
theorem dL_isPlanned_133 : decode cL_isPlanned 133 = .ok (.iload 11, 2) := by decide +kernel
theorem dL_isPlanned_135 : decode cL_isPlanned 135 = .ok (.dup2, 1) := by decide +kernel
theorem dL_isPlanned_136 : decode cL_isPlanned 136 = .ok (.iaload, 1) := by decide +kernel
theorem dL_isPlanned_137 : decode cL_isPlanned 137 = .ok (.iload 10, 2) := by decide +kernel
theorem dL_isPlanned_139 : decode cL_isPlanned 139 = .ok (.iadd, 1) := by decide +kernel
theorem dL_isPlanned_140 : decode cL_isPlanned 140 = .ok (.iastore, 1) := by decide +kernel
theorem dL_isPlanned_141 : decode cL_isPlanned 141 = .ok (.iload 8, 2) := by decide +kernel
theorem dL_isPlanned_143 : decode cL_isPlanned 143 = .ok (.aload 5, 2) := by decide +kernel
theorem dL_isPlanned_145 : decode cL_isPlanned 145 = .ok (.iload 11, 2) := by decide +kernel
theorem dL_isPlanned_147 : decode cL_isPlanned 147 = .ok (.iaload, 1) := by decide +kernel
theorem dL_isPlanned_148 : decode cL_isPlanned 148 = .ok (.iadd, 1) := by decide +kernel
theorem dL_isPlanned_149 : decode cL_isPlanned 149 = .ok (.istore 8, 2) := by decide +kernel
theorem dL_isPlanned_151 : decode cL_isPlanned 151 = .ok (.iinc 9 (-1), 3) := by decide +kernel
theorem dL_isPlanned_154 : decode cL_isPlanned 154 = .ok (.goto (-54), 3) := by decide +kernel
theorem dL_isPlanned_90 : decode cL_isPlanned 90 = .ok (.iconst 0, 1) := by decide +kernel
theorem dL_isPlanned_91 : decode cL_isPlanned 91 = .ok (.ireturn, 1) := by decide +kernel
theorem dL_isPlanned_44 : decode cL_isPlanned 44 = .ok (.iload 8, 2) := by decide +kernel
theorem dL_isPlanned_46 : decode cL_isPlanned 46 = .ok (.iconst 4, 1) := by decide +kernel
theorem dL_isPlanned_47 : decode cL_isPlanned 47 = .ok (.if_icmp .ge 26, 3) := by decide +kernel
theorem dL_isPlanned_50 : decode cL_isPlanned 50 = .ok (.aload_n 0, 1) := by decide +kernel
theorem dL_isPlanned_51 : decode cL_isPlanned 51 = .ok (.iload_n 2, 1) := by decide +kernel
theorem dL_isPlanned_52 : decode cL_isPlanned 52 = .ok (.iload 8, 2) := by decide +kernel
theorem dL_isPlanned_54 : decode cL_isPlanned 54 = .ok (.invokevirtual 43, 3) := by decide +kernel
theorem dL_isPlanned_57 : decode cL_isPlanned 57 = .ok (.aload 7, 2) := by decide +kernel
theorem dL_isPlanned_59 : decode cL_isPlanned 59 = .ok (.iload 8, 2) := by decide +kernel
theorem dL_isPlanned_61 : decode cL_isPlanned 61 = .ok (.iaload, 1) := by decide +kernel
theorem dL_isPlanned_62 : decode cL_isPlanned 62 = .ok (.if_icmp .eq 5, 3) := by decide +kernel
theorem dL_isPlanned_67 : decode cL_isPlanned 67 = .ok (.iinc 8 1, 3) := by decide +kernel
theorem dL_isPlanned_70 : decode cL_isPlanned 70 = .ok (.goto (-26), 3) := by decide +kernel

set_option maxHeartbeats 8000000 in
set_option maxRecDepth 100000 in
theorem c_L_isPlanned (l : Launch) (hlf : l.stackTraces = false) (dC : Nat → ClassId) (dI : Nat → Nat → Nat) (g : Nat → ClassId) (tp_p_ hd_p_ : Nat → Nat) (tf_p_ cf_p_ : Nat → Option Nat) (htf_p_ : ∀ j, j < 8 → tf_p_ j = some (tp_p_ j)) (hcf_p_ : ∀ j, j < 8 → cf_p_ j = some (tp_p_ (8 + j))) (a_p_ : Nat → Nat) (t_p_ : Nat) (h_p_ : a_p_ 0 = t_p_) (o_p_ : OS) (a_r_ n_r_ : Nat) (r_ : Nat → Int32) (tape : Int32) (Q : Bool → (Nat → Int32) → OS → Prop) (hw : wp_L_isPlanned o_p_ n_r_ r_ tape Q) (sz : Nat) : Met l yL_isPlanned wqL_isPlanned ({ frames := 10, cells := 581, slots := 15700, locals := 170 }) (va_Pc [.ref t_p_, .ref a_r_, .int tape] (PG (dC, dI) g ([(a_r_, .inl (g 0, n_r_, .inl r_))] ++ (offS a_p_ tp_p_ hd_p_ tf_p_ cf_p_ g o_p_)) sz)) (va_Qi (fun (r : Int32) (u : (Nat → Int32) × (Nat → Nat) × OS × Unit) => ∃ b : Bool, r = b2i b ∧ (Q b u.1 u.2.2.1 ∧ u.2.1 0 = t_p_)) (fun (u : (Nat → Int32) × (Nat → Nat) × OS × Unit) t9 => va_P (dC, dI) vwCl ([(a_r_, .inl (g 0, n_r_, .inl u.1))] ++ (offS u.2.1 tp_p_ hd_p_ tf_p_ cf_p_ g u.2.2.1)) t9.heap ∧ va_D (va_A ([(a_r_, .inl (g 0, n_r_, .inl r_))] ++ (offS a_p_ tp_p_ hd_p_ tf_p_ cf_p_ g o_p_)) sz) ([(a_r_, .inl (g 0, n_r_, .inl u.1))] ++ (offS u.2.1 tp_p_ hd_p_ tf_p_ cf_p_ g u.2.2.1))) (va_A ([(a_r_, .inl (g 0, n_r_, .inl r_))] ++ (offS a_p_ tp_p_ hd_p_ tf_p_ cf_p_ g o_p_)) sz)) 581 15700 (va_A ([(a_r_, .inl (g 0, n_r_, .inl r_))] ++ (offS a_p_ tp_p_ hd_p_ tf_p_ cf_p_ g o_p_)) sz) := by
  refine Met.ofW (cc := cL_isPlanned) (maxL := 12) (ret := (some .boolean)) (by decide) rfl ?_
  intro p e s m args below meth c s₁ B hml hv
  obtain ⟨rfl, hsz, hP, hK, hD0, hG⟩ := hv
  have hx := B.exec
  have hb := B.bytes
  have hr := B.returns
  have hts := atoms_spec (ws := wqL_isPlanned) B.pre
  have hown : s.vm.findClass RL = some m.cls := findClass_of_methodNamed B.named
  have hlocks := B.notSynchronized
  subst hsz
  have hD := hD0.self (sz := s.heap.size)
  generalize hAe : va_A ([(a_r_, .inl (g 0, n_r_, .inl r_))] ++ (offS a_p_ tp_p_ hd_p_ tf_p_ cf_p_ g o_p_)) s.heap.size = A at hD hG ⊢
  have hA : ∀ q : Nat, s.heap.size ≤ q → A q := fun q h => by rw [← hAe]; exact Or.inr h
  have hS : va_S A s.heap s.heap [] := va_S.rf
  have hrc : (headSpec wqL_isPlanned ({ frames := 10, cells := 581, slots := 15700, locals := 170 })).room.cells = 581 := rfl
  have hrs : (headSpec wqL_isPlanned ({ frames := 10, cells := 581, slots := 15700, locals := 170 })).room.slots = 15700 := rfl
  have hl := lv_entry ([.ref t_p_, .ref a_r_, .int tape]) (n := 12) (Nat.le_of_ble_eq_true rfl)
  rw [lg_entry_eq]
  generalize (lg_sl ([.ref t_p_, .ref a_r_, .int tape]) ++ List.replicate (12 - (lg_sl ([.ref t_p_, .ref a_r_, .int tape])).length) Slot.unset).toArray = ls at hl ⊢
  have hl : lv_has ls 12 [(0, .ref t_p_), (1, .ref a_r_), (2, .int tape)] := hl
  unfold wp_L_isPlanned at hw
  refine lv_aload_n hx hb dL_isPlanned_0 rfl (lv_at hl 1 rfl) ?_
  refine lv_iconst (v := 3) hx hb dL_isPlanned_1 (by decide) ?_
  obtain ⟨hPs, hDs⟩ := seg_call (segs := [[(a_r_, .inl (g 0, n_r_, .inl r_))], offS a_p_ tp_p_ hd_p_ tf_p_ cf_p_ g o_p_]) [offS a_p_ tp_p_ hd_p_ tf_p_ cf_p_ g o_p_] [[(a_r_, .inl (g 0, n_r_, .inl r_))]] 2 [1, 0] rfl rfl (by decide) hP hD
  have hPc : va_P (dC, dI) vwCl [(a_r_, .inl (g 0, n_r_, .inl r_))] s.heap := P_r hPs
  have hDc : va_D A [(a_r_, .inl (g 0, n_r_, .inl r_))] := D_r hDs
  have hFc : ∀ q, va_A [(a_r_, .inl (g 0, n_r_, .inl r_))] s.heap.size q → A q := A_all hDc hA hS.1
  refine va_calli (va_runS (As := [.ref a_r_, .int 3]) (rest := []) ⟨hx, hb, hml, hown, hts⟩ (c_L_draw l hlf dC dI g (a_r_ := a_r_) (n_r_ := n_r_) (r_ := r_) (many := 3) (hw := hw) (sz := s.heap.size)) (va_cwS 2 hts (gqS aw_2_215 aw_2_216 aw_1_0 aw_2_217) rfl rfl rfl (by decide +kernel) ⟨Nat.le_of_ble_eq_true rfl, Nat.le_of_ble_eq_true rfl⟩) ⟨PG_blind, PG_call hK hG hS hPc hDc hFc⟩ rfl rfl hl.1 rfl (lv_room (Nat.le_of_ble_eq_true rfl)) dL_isPlanned_2 ⟨by rw [hrc]; omega, by rw [hrs]; omega⟩) hS (fun q _ h => hFc q h) hFc (fun r_1 u_1 t_1 H_1 L_1 ht_1 hvm_1 hw_1 hB_1 hz_1 hk_1 hS => ?_)
  obtain ⟨r__2, u_1⟩ := u_1
  have hw := hw_1
  rw [ht_1] at hB_1
  obtain ⟨hP1, hD1⟩ := hB_1
  obtain ⟨hP, hD⟩ := join_r hPs hDs hk_1 hFc hP1 hD1
  obtain ⟨hP, hD⟩ := seg_join [offS a_p_ tp_p_ hd_p_ tf_p_ cf_p_ g o_p_] [[(a_r_, .inl (g 0, n_r_, .inl r__2))]] [[(a_r_, .inl (g 0, n_r_, .inl r__2))], offS a_p_ tp_p_ hd_p_ tf_p_ cf_p_ g o_p_] 2 [1, 0] rfl rfl (by decide) hP hD
  have hP : va_P (dC, dI) vwCl ([(a_r_, .inl (g 0, n_r_, .inl r__2))] ++ (offS a_p_ tp_p_ hd_p_ tf_p_ cf_p_ g o_p_)) H_1 := hP
  have hD : va_D A ([(a_r_, .inl (g 0, n_r_, .inl r__2))] ++ (offS a_p_ tp_p_ hd_p_ tf_p_ cf_p_ g o_p_)) := hD
  refine W.widen (k := 0) (n := 0) (by omega) (by omega) ?_
  refine lv_istore_n (lv' := [(3, .int r_1), (0, .ref t_p_), (1, .ref a_r_), (2, .int tape)]) hx hb dL_isPlanned_5 rfl hl (by decide) rfl (fun ls hl => ?_)
  refine lv_iconst (v := 2) hx hb dL_isPlanned_6 (by decide) ?_
  refine lv_aload_n hx hb dL_isPlanned_7 rfl (lv_at hl 2 rfl) ?_
  refine lv_iconst (v := 5) hx hb dL_isPlanned_8 (by decide) ?_
  obtain ⟨hPs, hDs⟩ := seg_call (segs := [[(a_r_, .inl (g 0, n_r_, .inl r__2))], offS a_p_ tp_p_ hd_p_ tf_p_ cf_p_ g o_p_]) [offS a_p_ tp_p_ hd_p_ tf_p_ cf_p_ g o_p_] [[(a_r_, .inl (g 0, n_r_, .inl r__2))]] 2 [1, 0] rfl rfl (by decide) hP hD
  have hPc : va_P (dC, dI) vwCl [(a_r_, .inl (g 0, n_r_, .inl r__2))] H_1 := P_r hPs
  have hDc : va_D A [(a_r_, .inl (g 0, n_r_, .inl r__2))] := D_r hDs
  have hFc : ∀ q, va_A [(a_r_, .inl (g 0, n_r_, .inl r__2))] H_1.size q → A q := A_all hDc hA hS.1
  refine va_calli (va_runS (As := [.ref a_r_, .int 5]) (rest := [.int 2]) ⟨hx, hb, hml, hown, hts⟩ (c_L_draw l hlf dC dI g (a_r_ := a_r_) (n_r_ := n_r_) (r_ := r__2) (many := 5) (hw := hw) (sz := H_1.size)) (va_cwS 2 hts (gqS aw_2_215 aw_2_216 aw_1_0 aw_2_217) rfl rfl rfl (by decide +kernel) ⟨Nat.le_of_ble_eq_true rfl, Nat.le_of_ble_eq_true rfl⟩) ⟨PG_blind, PG_call hK hG hS hPc hDc hFc⟩ rfl rfl hl.1 rfl (lv_room (Nat.le_of_ble_eq_true rfl)) dL_isPlanned_9 ⟨by rw [hrc]; omega, by rw [hrs]; omega⟩) hS (fun q _ h => hFc q h) hFc (fun r_3 u_3 t_3 H_3 L_3 ht_3 hvm_3 hw_3 hB_3 hz_3 hk_3 hS => ?_)
  obtain ⟨r__4, u_3⟩ := u_3
  have hw := hw_3
  rw [ht_3] at hB_3
  obtain ⟨hP1, hD1⟩ := hB_3
  obtain ⟨hP, hD⟩ := join_r hPs hDs hk_3 hFc hP1 hD1
  obtain ⟨hP, hD⟩ := seg_join [offS a_p_ tp_p_ hd_p_ tf_p_ cf_p_ g o_p_] [[(a_r_, .inl (g 0, n_r_, .inl r__4))]] [[(a_r_, .inl (g 0, n_r_, .inl r__4))], offS a_p_ tp_p_ hd_p_ tf_p_ cf_p_ g o_p_] 2 [1, 0] rfl rfl (by decide) hP hD
  have hP : va_P (dC, dI) vwCl ([(a_r_, .inl (g 0, n_r_, .inl r__4))] ++ (offS a_p_ tp_p_ hd_p_ tf_p_ cf_p_ g o_p_)) H_3 := hP
  have hD : va_D A ([(a_r_, .inl (g 0, n_r_, .inl r__4))] ++ (offS a_p_ tp_p_ hd_p_ tf_p_ cf_p_ g o_p_)) := hD
  refine W.widen (k := 0) (n := 0) (by omega) (by omega) ?_
  refine lv_iadd hx hb dL_isPlanned_12 ?_
  refine lv_topi (fun x_5 ex_5 => ?_)
  have hw := hw x_5 ex_5
  refine lv_istore (lv' := [(4, .int x_5), (3, .int r_1), (0, .ref t_p_), (1, .ref a_r_), (2, .int tape)]) hx hb dL_isPlanned_13 hl (by decide) rfl (fun ls hl => ?_)
  refine lv_aload_n hx hb dL_isPlanned_15 rfl (lv_at hl 2 rfl) ?_
  refine lv_iload_n hx hb dL_isPlanned_16 rfl (lv_at hl 4 rfl) ?_
  obtain ⟨hPs, hDs⟩ := seg_call (segs := [[(a_r_, .inl (g 0, n_r_, .inl r__4))], offS a_p_ tp_p_ hd_p_ tf_p_ cf_p_ g o_p_]) [[(a_r_, .inl (g 0, n_r_, .inl r__4))]] [offS a_p_ tp_p_ hd_p_ tf_p_ cf_p_ g o_p_] 2 [0, 1] rfl rfl (by decide) hP hD
  have hPc : va_P (dC, dI) vwCl (offS a_p_ tp_p_ hd_p_ tf_p_ cf_p_ g o_p_) H_3 := P_r hPs
  have hDc : va_D A (offS a_p_ tp_p_ hd_p_ tf_p_ cf_p_ g o_p_) := D_r hDs
  have hFc : ∀ q, va_A (offS a_p_ tp_p_ hd_p_ tf_p_ cf_p_ g o_p_) H_3.size q → A q := A_all hDc hA hS.1
  refine va_callq (va_runS (As := [.ref t_p_, .int tape]) (rest := []) ⟨hx, hb, hml, hown, hts⟩ (c_L_lengths l hlf dC dI g (tp_p_ := tp_p_) (hd_p_ := hd_p_) (tf_p_ := tf_p_) (cf_p_ := cf_p_) (htf_p_ := htf_p_) (hcf_p_ := hcf_p_) (a_p_ := a_p_) (t_p_ := t_p_) (h_p_ := h_p_) (o_p_ := o_p_) (tape := tape) (hw := hw) (sz := H_3.size)) (va_cwS 2 hts (gqS aw_3_174 aw_3_175 aw_1_0 aw_3_176) rfl rfl rfl (by decide +kernel) ⟨Nat.le_of_ble_eq_true rfl, Nat.le_of_ble_eq_true rfl⟩) ⟨PG_blind, PG_call hK hG hS hPc hDc hFc⟩ rfl rfl hl.1 rfl (lv_room (Nat.le_of_ble_eq_true rfl)) dL_isPlanned_17 ⟨by rw [hrc]; omega, by rw [hrs]; omega⟩) hS (fun q _ h => hFc q h) hFc (fun r_6 u_6 t_6 H_6 L_6 ht_6 hvm_6 hw_6 hB_6 hz_6 hk_6 hS => ?_)
  obtain ⟨ad_7, o_8, a_q_9, n_10, q_11, u_6⟩ := u_6
  obtain ⟨rfl, ⟨hw, had_7⟩⟩ := hw_6
  rw [ht_6] at hB_6
  obtain ⟨hP1, hD1⟩ := hB_6
  obtain ⟨hP, hD⟩ := join_r hPs hDs hk_6 hFc hP1 hD1
  obtain ⟨hP, hD⟩ := seg_join [[(a_r_, .inl (g 0, n_r_, .inl r__4))]] [[(a_q_9, .inl (g 0, n_10, .inl q_11))], offS ad_7 tp_p_ hd_p_ tf_p_ cf_p_ g o_8] [[(a_r_, .inl (g 0, n_r_, .inl r__4))], [(a_q_9, .inl (g 0, n_10, .inl q_11))], offS ad_7 tp_p_ hd_p_ tf_p_ cf_p_ g o_8] 3 [0, 1, 2] rfl rfl (by decide) hP hD
  have hP : va_P (dC, dI) vwCl ([(a_r_, .inl (g 0, n_r_, .inl r__4)), (a_q_9, .inl (g 0, n_10, .inl q_11))] ++ (offS ad_7 tp_p_ hd_p_ tf_p_ cf_p_ g o_8)) H_6 := hP
  have hD : va_D A ([(a_r_, .inl (g 0, n_r_, .inl r__4)), (a_q_9, .inl (g 0, n_10, .inl q_11))] ++ (offS ad_7 tp_p_ hd_p_ tf_p_ cf_p_ g o_8)) := hD
  refine W.widen (k := 204) (n := 1418) (by omega) (by omega) ?_
  refine lv_astore (lv' := [(5, .ref a_q_9), (4, .int x_5), (3, .int r_1), (0, .ref t_p_), (1, .ref a_r_), (2, .int tape)]) hx hb dL_isPlanned_20 hl (by decide) rfl (fun ls hl => ?_)
  refine lv_aload_n hx hb dL_isPlanned_22 rfl (lv_at hl 3 rfl) ?_
  refine lv_iload_n hx hb dL_isPlanned_23 rfl (lv_at hl 2 rfl) ?_
  refine lv_iload hx hb dL_isPlanned_24 (lv_at hl 1 rfl) ?_
  obtain ⟨hPs, hDs⟩ := seg_call (segs := [[(a_r_, .inl (g 0, n_r_, .inl r__4))], [(a_q_9, .inl (g 0, n_10, .inl q_11))], offS ad_7 tp_p_ hd_p_ tf_p_ cf_p_ g o_8]) [[(a_r_, .inl (g 0, n_r_, .inl r__4))], [(a_q_9, .inl (g 0, n_10, .inl q_11))]] [offS ad_7 tp_p_ hd_p_ tf_p_ cf_p_ g o_8] 3 [0, 1, 2] rfl rfl (by decide) hP hD
  have hPc : va_P (dC, dI) vwCl (offS ad_7 tp_p_ hd_p_ tf_p_ cf_p_ g o_8) H_6 := P_r hPs
  have hDc : va_D A (offS ad_7 tp_p_ hd_p_ tf_p_ cf_p_ g o_8) := D_r hDs
  have hFc : ∀ q, va_A (offS ad_7 tp_p_ hd_p_ tf_p_ cf_p_ g o_8) H_6.size q → A q := A_all hDc hA hS.1
  refine vx_calli (vx_runV (As := [.int r_1, .int x_5]) (rest := []) ⟨hx, hb, hml, hown, hts⟩ (p_setMerge l hlf dC dI g tp_p_ hd_p_ tf_p_ cf_p_ htf_p_ hcf_p_ ad_7 t_p_ had_7 o_8 r_1 x_5 (hw := hw) (sz := H_6.size)) (cwV 2 hts (gqV aw_4_52 aw_4_53 aw_4_54 aw_1_1 aw_4_55) rfl rfl rfl (by decide +kernel) ⟨Nat.le_of_ble_eq_true rfl, Nat.le_of_ble_eq_true rfl⟩) ⟨PG_blind, off_recv had_7 hK hPc, PG_call hK hG hS hPc hDc hFc⟩ rfl rfl hl.1 rfl (lv_room (Nat.le_of_ble_eq_true rfl)) dL_isPlanned_26 ⟨by rw [hrc]; omega, by rw [hrs]; omega⟩) hS (fun q _ h => hFc q h) hFc (fun q _ h => hFc q h) (fun E ce q9 ux t H1 locs1 ht hvm hp9 hB9 hz hk hS9 hce hcv hcl => ?_) (fun r_12 u_12 t_12 H_12 L_12 ht_12 hvm_12 hw_12 hB_12 hz_12 hk_12 hS => ?_)
  · exact (hB9.1.1).elim
  obtain ⟨ad_13, o_14⟩ := u_12
  obtain ⟨hw, had_13⟩ := hw_12
  rw [ht_12] at hB_12
  obtain ⟨hP1, hD1⟩ := hB_12
  obtain ⟨hP, hD⟩ := join_r hPs hDs hk_12 hFc hP1 hD1
  obtain ⟨hP, hD⟩ := seg_join [[(a_r_, .inl (g 0, n_r_, .inl r__4))], [(a_q_9, .inl (g 0, n_10, .inl q_11))]] [offS ad_13 tp_p_ hd_p_ tf_p_ cf_p_ g o_14] [[(a_r_, .inl (g 0, n_r_, .inl r__4))], [(a_q_9, .inl (g 0, n_10, .inl q_11))], offS ad_13 tp_p_ hd_p_ tf_p_ cf_p_ g o_14] 3 [0, 1, 2] rfl rfl (by decide) hP hD
  have hP : va_P (dC, dI) vwCl ([(a_r_, .inl (g 0, n_r_, .inl r__4)), (a_q_9, .inl (g 0, n_10, .inl q_11))] ++ (offS ad_13 tp_p_ hd_p_ tf_p_ cf_p_ g o_14)) H_12 := hP
  have hD : va_D A ([(a_r_, .inl (g 0, n_r_, .inl r__4)), (a_q_9, .inl (g 0, n_10, .inl q_11))] ++ (offS ad_13 tp_p_ hd_p_ tf_p_ cf_p_ g o_14)) := hD
  refine W.widen (k := 206) (n := 1430) (by omega) (by omega) ?_
  refine lv_istore (lv' := [(6, .int r_12), (5, .ref a_q_9), (4, .int x_5), (3, .int r_1), (0, .ref t_p_), (1, .ref a_r_), (2, .int tape)]) hx hb dL_isPlanned_29 hl (by decide) rfl (fun ls hl => ?_)
  refine lv_aload hx hb dL_isPlanned_31 (lv_at hl 1 rfl) ?_
  refine lv_iload_n hx hb dL_isPlanned_33 rfl (lv_at hl 3 rfl) ?_
  refine lv_iload hx hb dL_isPlanned_34 (lv_at hl 2 rfl) ?_
  obtain ⟨hPs, hDs⟩ := seg_call (segs := [[(a_r_, .inl (g 0, n_r_, .inl r__4))], [(a_q_9, .inl (g 0, n_10, .inl q_11))], offS ad_13 tp_p_ hd_p_ tf_p_ cf_p_ g o_14]) [[(a_r_, .inl (g 0, n_r_, .inl r__4))], offS ad_13 tp_p_ hd_p_ tf_p_ cf_p_ g o_14] [[(a_q_9, .inl (g 0, n_10, .inl q_11))]] 3 [0, 2, 1] rfl rfl (by decide) hP hD
  have hPc : va_P (dC, dI) vwCl [(a_q_9, .inl (g 0, n_10, .inl q_11))] H_12 := P_r hPs
  have hDc : va_D A [(a_q_9, .inl (g 0, n_10, .inl q_11))] := D_r hDs
  have hFc : ∀ q, va_A [(a_q_9, .inl (g 0, n_10, .inl q_11))] H_12.size q → A q := A_all hDc hA hS.1
  refine va_callq (va_runS (As := [.ref a_q_9, .int r_1, .int x_5]) (rest := []) ⟨hx, hb, hml, hown, hts⟩ (c_L_planned l hlf dC dI g (a_lengths := a_q_9) (n_lengths := n_10) (lengths := q_11) (way := r_1) (ways := x_5) (hw := hw) (sz := H_12.size)) (va_cwS 3 hts (gqS aw_5_235 aw_5_236 aw_1_0 aw_5_237) rfl rfl rfl (by decide +kernel) ⟨Nat.le_of_ble_eq_true rfl, Nat.le_of_ble_eq_true rfl⟩) ⟨PG_blind, PG_call hK hG hS hPc hDc hFc⟩ rfl rfl hl.1 rfl (lv_room (Nat.le_of_ble_eq_true rfl)) dL_isPlanned_36 ⟨by rw [hrc]; omega, by rw [hrs]; omega⟩) hS (fun q _ h => hFc q h) hFc (fun r_15 u_15 t_15 H_15 L_15 ht_15 hvm_15 hw_15 hB_15 hz_15 hk_15 hS => ?_)
  obtain ⟨a_q_16, n_17, q_18, u_15⟩ := u_15
  obtain ⟨rfl, hw⟩ := hw_15
  rw [ht_15] at hB_15
  obtain ⟨hP1, hD1⟩ := hB_15
  obtain ⟨hP, hD⟩ := join_r hPs hDs hk_15 hFc hP1 hD1
  obtain ⟨hP, hD⟩ := seg_join [[(a_r_, .inl (g 0, n_r_, .inl r__4))], offS ad_13 tp_p_ hd_p_ tf_p_ cf_p_ g o_14] [[(a_q_9, .inl (g 0, n_10, .inl q_11))], [(a_q_16, .inl (g 0, n_17, .inl q_18))]] [[(a_r_, .inl (g 0, n_r_, .inl r__4))], [(a_q_9, .inl (g 0, n_10, .inl q_11))], [(a_q_16, .inl (g 0, n_17, .inl q_18))], offS ad_13 tp_p_ hd_p_ tf_p_ cf_p_ g o_14] 4 [0, 2, 3, 1] rfl rfl (by decide) hP hD
  have hP : va_P (dC, dI) vwCl ([(a_r_, .inl (g 0, n_r_, .inl r__4)), (a_q_9, .inl (g 0, n_10, .inl q_11)), (a_q_16, .inl (g 0, n_17, .inl q_18))] ++ (offS ad_13 tp_p_ hd_p_ tf_p_ cf_p_ g o_14)) H_15 := hP
  have hD : va_D A ([(a_r_, .inl (g 0, n_r_, .inl r__4)), (a_q_9, .inl (g 0, n_10, .inl q_11)), (a_q_16, .inl (g 0, n_17, .inl q_18))] ++ (offS ad_13 tp_p_ hd_p_ tf_p_ cf_p_ g o_14)) := hD
  refine W.widen (k := 241) (n := 7650) (by omega) (by omega) ?_
  refine lv_astore (lv' := [(7, .ref a_q_16), (6, .int r_12), (5, .ref a_q_9), (4, .int x_5), (3, .int r_1), (0, .ref t_p_), (1, .ref a_r_), (2, .int tape)]) hx hb dL_isPlanned_39 hl (by decide) rfl (fun ls hl => ?_)
  refine lv_iconst (v := 0) hx hb dL_isPlanned_41 (by decide) ?_
  refine lv_istore (lv' := [(8, .int 0), (7, .ref a_q_16), (6, .int r_12), (5, .ref a_q_9), (4, .int x_5), (3, .int r_1), (0, .ref t_p_), (1, .ref a_r_), (2, .int tape)]) hx hb dL_isPlanned_42 hl (by decide) rfl (fun ls hl => ?_)
  refine W_abs (fun QM hQM => ?_)
  have EX44_65 : ∀ (o_22 : OS) (ad_23 : Nat → Nat) (had_23 : ad_23 0 = t_p_) (H : Heap) (locs : List Loc), (wx_L_isPlanned_44_65 Q r__4) o_22 → va_P (dC, dI) vwCl ([(a_r_, .inl (g 0, n_r_, .inl r__4))] ++ (offS ad_23 tp_p_ hd_p_ tf_p_ cf_p_ g o_22)) H → va_D A ([(a_r_, .inl (g 0, n_r_, .inl r__4))] ++ (offS ad_23 tp_p_ hd_p_ tf_p_ cf_p_ g o_22)) → va_S A s.heap H locs → ∀ (ls : Array Slot), lv_has ls 12 [] → W p l e (headSpec wqL_isPlanned ({ frames := 10, cells := 581, slots := 15700, locals := 170 })).room s m ([.ref t_p_, .ref a_r_, .int tape] : List Value).toArray below meth c H locs 443 8862 QM (F0 m 65 ls []) := by
    intro o_22 ad_23 had_23 H locs hw hP hD hS ls hl
    refine lv_iconst (v := 0) hx hb dL_isPlanned_65 (by decide) ?_
    refine W.widen (k := 581) (n := 15700) (by omega) (by omega) ?_
    subst hQM
    exact W.zret (v := 0) hx hb hr rfl (fun t ht hW => ⟨⟨_, (r__4, ad_23, o_22, ()), rfl, ⟨false, rfl, ⟨hw, had_23⟩⟩, ⟨P_at ht hP, hD⟩⟩, hS.F ht⟩) hS.2.2 dL_isPlanned_66
  have EX44_73 : ∀ (o_24 : OS) (ad_25 : Nat → Nat) (had_25 : ad_25 0 = t_p_) (H : Heap) (locs : List Loc), (wx_L_isPlanned_44_73 n_r_ tape Q r_1 r__4 x_5 n_10 q_11 n_17 q_18) o_24 → va_P (dC, dI) vwCl ([(a_r_, .inl (g 0, n_r_, .inl r__4)), (a_q_9, .inl (g 0, n_10, .inl q_11)), (a_q_16, .inl (g 0, n_17, .inl q_18))] ++ (offS ad_25 tp_p_ hd_p_ tf_p_ cf_p_ g o_24)) H → va_D A ([(a_r_, .inl (g 0, n_r_, .inl r__4)), (a_q_9, .inl (g 0, n_10, .inl q_11)), (a_q_16, .inl (g 0, n_17, .inl q_18))] ++ (offS ad_25 tp_p_ hd_p_ tf_p_ cf_p_ g o_24)) → va_S A s.heap H locs → ∀ (ls : Array Slot), lv_has ls 12 [(0, .ref t_p_), (1, .ref a_r_), (2, .int tape), (3, .int r_1), (4, .int x_5), (5, .ref a_q_9), (7, .ref a_q_16)] → W p l e (headSpec wqL_isPlanned ({ frames := 10, cells := 581, slots := 15700, locals := 170 })).room s m ([.ref t_p_, .ref a_r_, .int tape] : List Value).toArray below meth c H locs 443 8862 QM (F0 m 73 ls []) := by
    intro o_24 ad_25 had_25 H locs hw hP hD hS ls hl
    refine lv_aload_n hx hb dL_isPlanned_73 rfl (lv_at hl 0 rfl) ?_
    refine lv_iload_n hx hb dL_isPlanned_74 rfl (lv_at hl 2 rfl) ?_
    obtain ⟨hPs, hDs⟩ := seg_call (segs := [[(a_r_, .inl (g 0, n_r_, .inl r__4))], [(a_q_9, .inl (g 0, n_10, .inl q_11))], [(a_q_16, .inl (g 0, n_17, .inl q_18))], offS ad_25 tp_p_ hd_p_ tf_p_ cf_p_ g o_24]) [[(a_r_, .inl (g 0, n_r_, .inl r__4))], [(a_q_9, .inl (g 0, n_10, .inl q_11))], [(a_q_16, .inl (g 0, n_17, .inl q_18))]] [offS ad_25 tp_p_ hd_p_ tf_p_ cf_p_ g o_24] 4 [0, 1, 2, 3] rfl rfl (by decide) hP hD
    have hPc : va_P (dC, dI) vwCl (offS ad_25 tp_p_ hd_p_ tf_p_ cf_p_ g o_24) H := P_r hPs
    have hDc : va_D A (offS ad_25 tp_p_ hd_p_ tf_p_ cf_p_ g o_24) := D_r hDs
    have hFc : ∀ q, va_A (offS ad_25 tp_p_ hd_p_ tf_p_ cf_p_ g o_24) H.size q → A q := A_all hDc hA hS.1
    refine vx_calli (vx_runV (As := [.int tape]) (rest := []) ⟨hx, hb, hml, hown, hts⟩ (p_leastMoves l hlf dC dI g tp_p_ hd_p_ tf_p_ cf_p_ htf_p_ hcf_p_ ad_25 t_p_ had_25 o_24 tape (hw := hw) (sz := H.size)) (cwV 1 hts (gqV aw_6_9 aw_6_10 aw_6_11 aw_1_1 aw_6_12) rfl rfl rfl (by decide +kernel) ⟨Nat.le_of_ble_eq_true rfl, Nat.le_of_ble_eq_true rfl⟩) ⟨PG_blind, off_recv had_25 hK hPc, PG_call hK hG hS hPc hDc hFc⟩ rfl rfl hl.1 rfl (lv_room (Nat.le_of_ble_eq_true rfl)) dL_isPlanned_75 ⟨by rw [hrc]; omega, by rw [hrs]; omega⟩) hS (fun q _ h => hFc q h) hFc (fun q _ h => hFc q h) (fun E ce q9 ux t H1 locs1 ht hvm hp9 hB9 hz hk hS9 hce hcv hcl => ?_) (fun r_26 u_26 t_26 H_26 L_26 ht_26 hvm_26 hw_26 hB_26 hz_26 hk_26 hS => ?_)
    · exact (hB9.1.1).elim
    obtain ⟨ad_27, o_28⟩ := u_26
    obtain ⟨hw, had_27⟩ := hw_26
    rw [ht_26] at hB_26
    obtain ⟨hP1, hD1⟩ := hB_26
    obtain ⟨hP, hD⟩ := join_r hPs hDs hk_26 hFc hP1 hD1
    obtain ⟨hP, hD⟩ := seg_join [[(a_r_, .inl (g 0, n_r_, .inl r__4))], [(a_q_9, .inl (g 0, n_10, .inl q_11))], [(a_q_16, .inl (g 0, n_17, .inl q_18))]] [offS ad_27 tp_p_ hd_p_ tf_p_ cf_p_ g o_28] [[(a_r_, .inl (g 0, n_r_, .inl r__4))], [(a_q_9, .inl (g 0, n_10, .inl q_11))], [(a_q_16, .inl (g 0, n_17, .inl q_18))], offS ad_27 tp_p_ hd_p_ tf_p_ cf_p_ g o_28] 4 [0, 1, 2, 3] rfl rfl (by decide) hP hD
    have hP : va_P (dC, dI) vwCl ([(a_r_, .inl (g 0, n_r_, .inl r__4)), (a_q_9, .inl (g 0, n_10, .inl q_11)), (a_q_16, .inl (g 0, n_17, .inl q_18))] ++ (offS ad_27 tp_p_ hd_p_ tf_p_ cf_p_ g o_28)) H_26 := hP
    have hD : va_D A ([(a_r_, .inl (g 0, n_r_, .inl r__4)), (a_q_9, .inl (g 0, n_10, .inl q_11)), (a_q_16, .inl (g 0, n_17, .inl q_18))] ++ (offS ad_27 tp_p_ hd_p_ tf_p_ cf_p_ g o_28)) := hD
    refine W.widen (k := 444) (n := 8868) (by omega) (by omega) ?_
    refine lv_aload hx hb dL_isPlanned_78 (lv_at hl 5 rfl) ?_
    refine lv_iconst (v := 1) hx hb dL_isPlanned_80 (by decide) ?_
    refine lv_iconst (v := 2) hx hb dL_isPlanned_81 (by decide) ?_
    obtain ⟨hPs, hDs⟩ := seg_call (segs := [[(a_r_, .inl (g 0, n_r_, .inl r__4))], [(a_q_9, .inl (g 0, n_10, .inl q_11))], [(a_q_16, .inl (g 0, n_17, .inl q_18))], offS ad_27 tp_p_ hd_p_ tf_p_ cf_p_ g o_28]) [[(a_r_, .inl (g 0, n_r_, .inl r__4))], [(a_q_16, .inl (g 0, n_17, .inl q_18))], offS ad_27 tp_p_ hd_p_ tf_p_ cf_p_ g o_28] [[(a_q_9, .inl (g 0, n_10, .inl q_11))]] 4 [0, 2, 3, 1] rfl rfl (by decide) hP hD
    have hPc : va_P (dC, dI) vwCl [(a_q_9, .inl (g 0, n_10, .inl q_11))] H_26 := P_r hPs
    have hDc : va_D A [(a_q_9, .inl (g 0, n_10, .inl q_11))] := D_r hDs
    have hFc : ∀ q, va_A [(a_q_9, .inl (g 0, n_10, .inl q_11))] H_26.size q → A q := A_all hDc hA hS.1
    refine va_callq (va_runS (As := [.ref a_q_9, .int 1, .int 2]) (rest := [.int r_26]) ⟨hx, hb, hml, hown, hts⟩ (c_L_planned l hlf dC dI g (a_lengths := a_q_9) (n_lengths := n_10) (lengths := q_11) (way := 1) (ways := 2) (hw := hw) (sz := H_26.size)) (va_cwS 3 hts (gqS aw_5_235 aw_5_236 aw_1_0 aw_5_237) rfl rfl rfl (by decide +kernel) ⟨Nat.le_of_ble_eq_true rfl, Nat.le_of_ble_eq_true rfl⟩) ⟨PG_blind, PG_call hK hG hS hPc hDc hFc⟩ rfl rfl hl.1 rfl (lv_room (Nat.le_of_ble_eq_true rfl)) dL_isPlanned_82 ⟨by rw [hrc]; omega, by rw [hrs]; omega⟩) hS (fun q _ h => hFc q h) hFc (fun r_29 u_29 t_29 H_29 L_29 ht_29 hvm_29 hw_29 hB_29 hz_29 hk_29 hS => ?_)
    obtain ⟨a_q_30, n_31, q_32, u_29⟩ := u_29
    obtain ⟨rfl, hw⟩ := hw_29
    rw [ht_29] at hB_29
    obtain ⟨hP1, hD1⟩ := hB_29
    obtain ⟨hP, hD⟩ := join_r hPs hDs hk_29 hFc hP1 hD1
    obtain ⟨hP, hD⟩ := seg_join [[(a_r_, .inl (g 0, n_r_, .inl r__4))], [(a_q_16, .inl (g 0, n_17, .inl q_18))], offS ad_27 tp_p_ hd_p_ tf_p_ cf_p_ g o_28] [[(a_q_9, .inl (g 0, n_10, .inl q_11))], [(a_q_30, .inl (g 0, n_31, .inl q_32))]] [[(a_r_, .inl (g 0, n_r_, .inl r__4))], [(a_q_9, .inl (g 0, n_10, .inl q_11))], [(a_q_16, .inl (g 0, n_17, .inl q_18))], [(a_q_30, .inl (g 0, n_31, .inl q_32))], offS ad_27 tp_p_ hd_p_ tf_p_ cf_p_ g o_28] 5 [0, 3, 1, 4, 2] rfl rfl (by decide) hP hD
    have hP : va_P (dC, dI) vwCl ([(a_r_, .inl (g 0, n_r_, .inl r__4)), (a_q_9, .inl (g 0, n_10, .inl q_11)), (a_q_16, .inl (g 0, n_17, .inl q_18)), (a_q_30, .inl (g 0, n_31, .inl q_32))] ++ (offS ad_27 tp_p_ hd_p_ tf_p_ cf_p_ g o_28)) H_29 := hP
    have hD : va_D A ([(a_r_, .inl (g 0, n_r_, .inl r__4)), (a_q_9, .inl (g 0, n_10, .inl q_11)), (a_q_16, .inl (g 0, n_17, .inl q_18)), (a_q_30, .inl (g 0, n_31, .inl q_32))] ++ (offS ad_27 tp_p_ hd_p_ tf_p_ cf_p_ g o_28)) := hD
    refine W.widen (k := 479) (n := 15088) (by omega) (by omega) ?_
    refine lv_iconst (v := 1) hx hb dL_isPlanned_85 (by decide) ?_
    refine va_iald hx hb hK hP 3 0 rfl rfl hw.1 dL_isPlanned_86 ?_
    have hw := hw.2
    refine lv_topi (fun x_33 ex_33 => ?_)
    have hw := hw x_33 ex_33
    refine lv_icmp_eq (tgt := 92) hx hb dL_isPlanned_87 (by decide) (fun c_34 => ?_) (fun c_34 => ?_)
    · have hw := hw.1 c_34
      refine lv_iconst (v := 0) hx hb dL_isPlanned_92 (by decide) ?_
      refine lv_istore (lv' := [(8, .int 0), (0, .ref t_p_), (1, .ref a_r_), (2, .int tape), (3, .int r_1), (4, .int x_5), (5, .ref a_q_9), (7, .ref a_q_16)]) hx hb dL_isPlanned_93 hl (by decide) rfl (fun ls hl => ?_)
      refine lv_aload hx hb dL_isPlanned_95 (lv_at hl 6 rfl) ?_
      refine va_alen hx hb hK hP 1 0 rfl rfl (v := nI n_10) rfl dL_isPlanned_97 ?_
      refine lv_istore (lv' := [(9, .int (nI n_10)), (8, .int 0), (0, .ref t_p_), (1, .ref a_r_), (2, .int tape), (3, .int r_1), (4, .int x_5), (5, .ref a_q_9), (7, .ref a_q_16)]) hx hb dL_isPlanned_98 hl (by decide) rfl (fun ls hl => ?_)
      have EX100_157 : ∀ (v8_39 : Int32) (r__40 : Nat → Int32) (H : Heap) (locs : List Loc), (wx_L_isPlanned_100_157 tape Q r_1 x_5 n_17 q_18 o_28) v8_39 r__40 → va_P (dC, dI) vwCl ([(a_r_, .inl (g 0, n_r_, .inl r__40)), (a_q_16, .inl (g 0, n_17, .inl q_18))] ++ (offS ad_27 tp_p_ hd_p_ tf_p_ cf_p_ g o_28)) H → va_D A ([(a_r_, .inl (g 0, n_r_, .inl r__40)), (a_q_16, .inl (g 0, n_17, .inl q_18))] ++ (offS ad_27 tp_p_ hd_p_ tf_p_ cf_p_ g o_28)) → va_S A s.heap H locs → ∀ (ls : Array Slot), lv_has ls 12 [(0, .ref t_p_), (2, .int tape), (3, .int r_1), (4, .int x_5), (7, .ref a_q_16), (8, .int v8_39)] → W p l e (headSpec wqL_isPlanned ({ frames := 10, cells := 581, slots := 15700, locals := 170 })).room s m ([.ref t_p_, .ref a_r_, .int tape] : List Value).toArray below meth c H locs 479 15088 QM (F0 m 157 ls []) := by
        intro v8_39 r__40 H locs hw hP hD hS ls hl
        refine lv_iconst (v := 0) hx hb dL_isPlanned_157 (by decide) ?_
        refine lv_istore (lv' := [(10, .int 0), (0, .ref t_p_), (2, .int tape), (3, .int r_1), (4, .int x_5), (7, .ref a_q_16), (8, .int v8_39)]) hx hb dL_isPlanned_158 hl (by decide) rfl (fun ls hl => ?_)
        refine lv_iconst (v := 1) hx hb dL_isPlanned_160 (by decide) ?_
        refine lv_istore (lv' := [(11, .int 1), (10, .int 0), (0, .ref t_p_), (2, .int tape), (3, .int r_1), (4, .int x_5), (7, .ref a_q_16), (8, .int v8_39)]) hx hb dL_isPlanned_161 hl (by decide) rfl (fun ls hl => ?_)
        have EX163_186 : ∀ (o_45 : OS) (v10_46 : Int32) (ad_47 : Nat → Nat) (had_47 : ad_47 0 = t_p_) (H : Heap) (locs : List Loc), (wx_L_isPlanned_163_186 tape Q r_1 n_17 q_18 v8_39 r__40) o_45 v10_46 → va_P (dC, dI) vwCl ([(a_r_, .inl (g 0, n_r_, .inl r__40)), (a_q_16, .inl (g 0, n_17, .inl q_18))] ++ (offS ad_47 tp_p_ hd_p_ tf_p_ cf_p_ g o_45)) H → va_D A ([(a_r_, .inl (g 0, n_r_, .inl r__40)), (a_q_16, .inl (g 0, n_17, .inl q_18))] ++ (offS ad_47 tp_p_ hd_p_ tf_p_ cf_p_ g o_45)) → va_S A s.heap H locs → ∀ (ls : Array Slot), lv_has ls 12 [(0, .ref t_p_), (2, .int tape), (3, .int r_1), (7, .ref a_q_16), (8, .int v8_39), (10, .int v10_46)] → W p l e (headSpec wqL_isPlanned ({ frames := 10, cells := 581, slots := 15700, locals := 170 })).room s m ([.ref t_p_, .ref a_r_, .int tape] : List Value).toArray below meth c H locs 580 15694 QM (F0 m 186 ls []) := by
          intro o_45 v10_46 ad_47 had_47 H locs hw hP hD hS ls hl
          refine lv_aload_n hx hb dL_isPlanned_186 rfl (lv_at hl 0 rfl) ?_
          refine lv_iload_n hx hb dL_isPlanned_187 rfl (lv_at hl 1 rfl) ?_
          obtain ⟨hPs, hDs⟩ := seg_call (segs := [[(a_r_, .inl (g 0, n_r_, .inl r__40))], [(a_q_16, .inl (g 0, n_17, .inl q_18))], offS ad_47 tp_p_ hd_p_ tf_p_ cf_p_ g o_45]) [[(a_r_, .inl (g 0, n_r_, .inl r__40))], [(a_q_16, .inl (g 0, n_17, .inl q_18))]] [offS ad_47 tp_p_ hd_p_ tf_p_ cf_p_ g o_45] 3 [0, 1, 2] rfl rfl (by decide) hP hD
          have hPc : va_P (dC, dI) vwCl (offS ad_47 tp_p_ hd_p_ tf_p_ cf_p_ g o_45) H := P_r hPs
          have hDc : va_D A (offS ad_47 tp_p_ hd_p_ tf_p_ cf_p_ g o_45) := D_r hDs
          have hFc : ∀ q, va_A (offS ad_47 tp_p_ hd_p_ tf_p_ cf_p_ g o_45) H.size q → A q := A_all hDc hA hS.1
          refine vx_calli (vx_runV (As := [.int tape]) (rest := []) ⟨hx, hb, hml, hown, hts⟩ (p_leastMoves l hlf dC dI g tp_p_ hd_p_ tf_p_ cf_p_ htf_p_ hcf_p_ ad_47 t_p_ had_47 o_45 tape (hw := hw) (sz := H.size)) (cwV 1 hts (gqV aw_6_9 aw_6_10 aw_6_11 aw_1_1 aw_6_12) rfl rfl rfl (by decide +kernel) ⟨Nat.le_of_ble_eq_true rfl, Nat.le_of_ble_eq_true rfl⟩) ⟨PG_blind, off_recv had_47 hK hPc, PG_call hK hG hS hPc hDc hFc⟩ rfl rfl hl.1 rfl (lv_room (Nat.le_of_ble_eq_true rfl)) dL_isPlanned_188 ⟨by rw [hrc]; omega, by rw [hrs]; omega⟩) hS (fun q _ h => hFc q h) hFc (fun q _ h => hFc q h) (fun E ce q9 ux t H1 locs1 ht hvm hp9 hB9 hz hk hS9 hce hcv hcl => ?_) (fun r_48 u_48 t_48 H_48 L_48 ht_48 hvm_48 hw_48 hB_48 hz_48 hk_48 hS => ?_)
          · exact (hB9.1.1).elim
          obtain ⟨ad_49, o_50⟩ := u_48
          obtain ⟨hw, had_49⟩ := hw_48
          rw [ht_48] at hB_48
          obtain ⟨hP1, hD1⟩ := hB_48
          obtain ⟨hP, hD⟩ := join_r hPs hDs hk_48 hFc hP1 hD1
          obtain ⟨hP, hD⟩ := seg_join [[(a_r_, .inl (g 0, n_r_, .inl r__40))], [(a_q_16, .inl (g 0, n_17, .inl q_18))]] [offS ad_49 tp_p_ hd_p_ tf_p_ cf_p_ g o_50] [[(a_r_, .inl (g 0, n_r_, .inl r__40))], [(a_q_16, .inl (g 0, n_17, .inl q_18))], offS ad_49 tp_p_ hd_p_ tf_p_ cf_p_ g o_50] 3 [0, 1, 2] rfl rfl (by decide) hP hD
          have hP : va_P (dC, dI) vwCl ([(a_r_, .inl (g 0, n_r_, .inl r__40)), (a_q_16, .inl (g 0, n_17, .inl q_18))] ++ (offS ad_49 tp_p_ hd_p_ tf_p_ cf_p_ g o_50)) H_48 := hP
          have hD : va_D A ([(a_r_, .inl (g 0, n_r_, .inl r__40)), (a_q_16, .inl (g 0, n_17, .inl q_18))] ++ (offS ad_49 tp_p_ hd_p_ tf_p_ cf_p_ g o_50)) := hD
          refine W.widen (k := 581) (n := 15700) (by omega) (by omega) ?_
          refine lv_iload hx hb dL_isPlanned_191 (lv_at hl 4 rfl) ?_
          refine lv_icmp_gt (tgt := 213) hx hb dL_isPlanned_193 (by decide) (fun c_51 => ?_) (fun c_51 => ?_)
          · have hw := hw.1 c_51
            refine lv_iconst (v := 0) hx hb dL_isPlanned_213 (by decide) ?_
            refine W.widen (k := 581) (n := 15700) (by omega) (by omega) ?_
            subst hQM
            obtain ⟨hP, hD⟩ := seg_sub (segs := [[(a_r_, .inl (g 0, n_r_, .inl r__40))], [(a_q_16, .inl (g 0, n_17, .inl q_18))], offS ad_49 tp_p_ hd_p_ tf_p_ cf_p_ g o_50]) [[(a_r_, .inl (g 0, n_r_, .inl r__40))], offS ad_49 tp_p_ hd_p_ tf_p_ cf_p_ g o_50] [[(a_q_16, .inl (g 0, n_17, .inl q_18))]] 3 [0, 2, 1] rfl rfl (by decide) hP hD
            exact W.zret (v := 0) hx hb hr rfl (fun t ht hW => ⟨⟨_, (r__40, ad_49, o_50, ()), rfl, ⟨false, rfl, ⟨hw, had_49⟩⟩, ⟨P_at ht hP, hD⟩⟩, hS.F ht⟩) hS.2.2 dL_isPlanned_214
          · have hw := hw.2 c_51
            refine lv_iload_n hx hb dL_isPlanned_196 rfl (lv_at hl 2 rfl) ?_
            refine lv_if_ne (tgt := 209) hx hb dL_isPlanned_197 (by decide) (fun c_52 => ?_) (fun c_52 => ?_)
            · have hw := hw.2 c_52
              refine lv_iconst (v := 1) hx hb dL_isPlanned_209 (by decide) ?_
              refine lv_goto (tgt := 214) hx hb dL_isPlanned_210 (by decide) ?_
              refine W.widen (k := 581) (n := 15700) (by omega) (by omega) ?_
              subst hQM
              obtain ⟨hP, hD⟩ := seg_sub (segs := [[(a_r_, .inl (g 0, n_r_, .inl r__40))], [(a_q_16, .inl (g 0, n_17, .inl q_18))], offS ad_49 tp_p_ hd_p_ tf_p_ cf_p_ g o_50]) [[(a_r_, .inl (g 0, n_r_, .inl r__40))], offS ad_49 tp_p_ hd_p_ tf_p_ cf_p_ g o_50] [[(a_q_16, .inl (g 0, n_17, .inl q_18))]] 3 [0, 2, 1] rfl rfl (by decide) hP hD
              exact W.zret (v := 1) hx hb hr rfl (fun t ht hW => ⟨⟨_, (r__40, ad_49, o_50, ()), rfl, ⟨true, rfl, ⟨hw, had_49⟩⟩, ⟨P_at ht hP, hD⟩⟩, hS.F ht⟩) hS.2.2 dL_isPlanned_214
            · have hw := hw.1 c_52
              refine lv_aload hx hb dL_isPlanned_200 (lv_at hl 3 rfl) ?_
              refine lv_iconst (v := 0) hx hb dL_isPlanned_202 (by decide) ?_
              refine va_iald hx hb hK hP 1 0 rfl rfl hw.1 dL_isPlanned_203 ?_
              have hw := hw.2
              refine lv_topi (fun x_53 ex_53 => ?_)
              have hw := hw x_53 ex_53
              refine lv_iload hx hb dL_isPlanned_204 (lv_at hl 5 rfl) ?_
              refine lv_icmp_ne (tgt := 213) hx hb dL_isPlanned_206 (by decide) (fun c_54 => ?_) (fun c_54 => ?_)
              · have hw := hw.2 c_54
                refine lv_iconst (v := 0) hx hb dL_isPlanned_213 (by decide) ?_
                refine W.widen (k := 581) (n := 15700) (by omega) (by omega) ?_
                subst hQM
                obtain ⟨hP, hD⟩ := seg_sub (segs := [[(a_r_, .inl (g 0, n_r_, .inl r__40))], [(a_q_16, .inl (g 0, n_17, .inl q_18))], offS ad_49 tp_p_ hd_p_ tf_p_ cf_p_ g o_50]) [[(a_r_, .inl (g 0, n_r_, .inl r__40))], offS ad_49 tp_p_ hd_p_ tf_p_ cf_p_ g o_50] [[(a_q_16, .inl (g 0, n_17, .inl q_18))]] 3 [0, 2, 1] rfl rfl (by decide) hP hD
                exact W.zret (v := 0) hx hb hr rfl (fun t ht hW => ⟨⟨_, (r__40, ad_49, o_50, ()), rfl, ⟨false, rfl, ⟨hw, had_49⟩⟩, ⟨P_at ht hP, hD⟩⟩, hS.F ht⟩) hS.2.2 dL_isPlanned_214
              · have hw := hw.1 c_54
                refine lv_iconst (v := 1) hx hb dL_isPlanned_209 (by decide) ?_
                refine lv_goto (tgt := 214) hx hb dL_isPlanned_210 (by decide) ?_
                refine W.widen (k := 581) (n := 15700) (by omega) (by omega) ?_
                subst hQM
                obtain ⟨hP, hD⟩ := seg_sub (segs := [[(a_r_, .inl (g 0, n_r_, .inl r__40))], [(a_q_16, .inl (g 0, n_17, .inl q_18))], offS ad_49 tp_p_ hd_p_ tf_p_ cf_p_ g o_50]) [[(a_r_, .inl (g 0, n_r_, .inl r__40))], offS ad_49 tp_p_ hd_p_ tf_p_ cf_p_ g o_50] [[(a_q_16, .inl (g 0, n_17, .inl q_18))]] 3 [0, 2, 1] rfl rfl (by decide) hP hD
                exact W.zret (v := 1) hx hb hr rfl (fun t ht hW => ⟨⟨_, (r__40, ad_49, o_50, ()), rfl, ⟨true, rfl, ⟨hw, had_49⟩⟩, ⟨P_at ht hP, hD⟩⟩, hS.F ht⟩) hS.2.2 dL_isPlanned_214
        have LOOP163 : ∀ (n163 : Nat), n163 ≤ 101 → ∀ (o_41 : OS) (v11_42 : Int32) (v10_43 : Int32) (ad_44 : Nat → Nat) (had_44 : ad_44 0 = t_p_) (H : Heap) (locs : List Loc), wl_L_isPlanned_163 tape x_5 (wx_L_isPlanned_163_186 tape Q r_1 n_17 q_18 v8_39 r__40) n163 o_41 v11_42 v10_43 → va_P (dC, dI) vwCl ([(a_r_, .inl (g 0, n_r_, .inl r__40)), (a_q_16, .inl (g 0, n_17, .inl q_18))] ++ (offS ad_44 tp_p_ hd_p_ tf_p_ cf_p_ g o_41)) H → va_D A ([(a_r_, .inl (g 0, n_r_, .inl r__40)), (a_q_16, .inl (g 0, n_17, .inl q_18))] ++ (offS ad_44 tp_p_ hd_p_ tf_p_ cf_p_ g o_41)) → va_S A s.heap H locs → ∀ (ls : Array Slot), lv_has ls 12 [(0, .ref t_p_), (2, .int tape), (3, .int r_1), (4, .int x_5), (7, .ref a_q_16), (8, .int v8_39), (10, .int v10_43), (11, .int v11_42)] → W p l e (headSpec wqL_isPlanned ({ frames := 10, cells := 581, slots := 15700, locals := 170 })).room s m ([.ref t_p_, .ref a_r_, .int tape] : List Value).toArray below meth c H locs (580 - n163 * 1) (15694 - n163 * 6) QM (F0 m 163 ls []) := by
          intro n163
          induction n163 with
          | zero =>
            intro hle_n163
            intro o_41 v11_42 v10_43 ad_44 had_44 H locs hw hP hD hS ls hl
            exact False.elim hw
          | succ n163 ih163 =>
            intro hle_n163
            have ih163 := ih163 (by omega)
            intro o_41 v11_42 v10_43 ad_44 had_44 H locs hw hP hD hS ls hl
            rw [wl_L_isPlanned_163_s] at hw
            obtain ⟨kb163, hkb163⟩ : ∃ x : Nat, x = 580 - (n163 + 1) * 1 := ⟨_, rfl⟩
            obtain ⟨nb163, hnb163⟩ : ∃ x : Nat, x = 15694 - (n163 + 1) * 6 := ⟨_, rfl⟩
            refine W.widen (k := kb163) (n := nb163) (by omega) (by omega) ?_
            refine lv_iload hx hb dL_isPlanned_163 (lv_at hl 7 rfl) ?_
            refine lv_aload_n hx hb dL_isPlanned_165 rfl (lv_at hl 0 rfl) ?_
            refine lv_iload_n hx hb dL_isPlanned_166 rfl (lv_at hl 1 rfl) ?_
            obtain ⟨hPs, hDs⟩ := seg_call (segs := [[(a_r_, .inl (g 0, n_r_, .inl r__40))], [(a_q_16, .inl (g 0, n_17, .inl q_18))], offS ad_44 tp_p_ hd_p_ tf_p_ cf_p_ g o_41]) [[(a_r_, .inl (g 0, n_r_, .inl r__40))], [(a_q_16, .inl (g 0, n_17, .inl q_18))]] [offS ad_44 tp_p_ hd_p_ tf_p_ cf_p_ g o_41] 3 [0, 1, 2] rfl rfl (by decide) hP hD
            have hPc : va_P (dC, dI) vwCl (offS ad_44 tp_p_ hd_p_ tf_p_ cf_p_ g o_41) H := P_r hPs
            have hDc : va_D A (offS ad_44 tp_p_ hd_p_ tf_p_ cf_p_ g o_41) := D_r hDs
            have hFc : ∀ q, va_A (offS ad_44 tp_p_ hd_p_ tf_p_ cf_p_ g o_41) H.size q → A q := A_all hDc hA hS.1
            refine vx_calli (vx_runV (As := [.int tape]) (rest := [.int v11_42]) ⟨hx, hb, hml, hown, hts⟩ (p_runs l hlf dC dI g tp_p_ hd_p_ tf_p_ cf_p_ htf_p_ hcf_p_ ad_44 t_p_ had_44 o_41 tape (hw := hw) (sz := H.size)) (cwV 1 hts (gqV aw_3_177 aw_3_178 aw_3_179 aw_1_1 aw_3_180) rfl rfl rfl (by decide +kernel) ⟨Nat.le_of_ble_eq_true rfl, Nat.le_of_ble_eq_true rfl⟩) ⟨PG_blind, off_recv had_44 hK hPc, PG_call hK hG hS hPc hDc hFc⟩ rfl rfl hl.1 rfl (lv_room (Nat.le_of_ble_eq_true rfl)) dL_isPlanned_167 ⟨by rw [hrc]; omega, by rw [hrs]; omega⟩) hS (fun q _ h => hFc q h) hFc (fun q _ h => hFc q h) (fun E ce q9 ux t H1 locs1 ht hvm hp9 hB9 hz hk hS9 hce hcv hcl => ?_) (fun r_55 u_55 t_55 H_55 L_55 ht_55 hvm_55 hw_55 hB_55 hz_55 hk_55 hS => ?_)
            · exact (hB9.1.1).elim
            obtain ⟨ad_56, o_57⟩ := u_55
            obtain ⟨hw, had_56⟩ := hw_55
            rw [ht_55] at hB_55
            obtain ⟨hP1, hD1⟩ := hB_55
            obtain ⟨hP, hD⟩ := join_r hPs hDs hk_55 hFc hP1 hD1
            obtain ⟨hP, hD⟩ := seg_join [[(a_r_, .inl (g 0, n_r_, .inl r__40))], [(a_q_16, .inl (g 0, n_17, .inl q_18))]] [offS ad_56 tp_p_ hd_p_ tf_p_ cf_p_ g o_57] [[(a_r_, .inl (g 0, n_r_, .inl r__40))], [(a_q_16, .inl (g 0, n_17, .inl q_18))], offS ad_56 tp_p_ hd_p_ tf_p_ cf_p_ g o_57] 3 [0, 1, 2] rfl rfl (by decide) hP hD
            have hP : va_P (dC, dI) vwCl ([(a_r_, .inl (g 0, n_r_, .inl r__40)), (a_q_16, .inl (g 0, n_17, .inl q_18))] ++ (offS ad_56 tp_p_ hd_p_ tf_p_ cf_p_ g o_57)) H_55 := hP
            have hD : va_D A ([(a_r_, .inl (g 0, n_r_, .inl r__40)), (a_q_16, .inl (g 0, n_17, .inl q_18))] ++ (offS ad_56 tp_p_ hd_p_ tf_p_ cf_p_ g o_57)) := hD
            refine W.widen (k := (kb163 + 1)) (n := (nb163 + 6)) (by omega) (by omega) ?_
            refine lv_icmp_ge (tgt := 186) hx hb dL_isPlanned_170 (by decide) (fun c_58 => ?_) (fun c_58 => ?_)
            · have hw := hw.1 c_58
              refine W.widen (k := 580) (n := 15694) (by omega) (by omega) ?_
              exact EX163_186 o_57 v10_43 ad_56 had_56 _ _ hw hP hD hS _ (lv_sub hl [0, 1, 2, 4, 5, 6] rfl)
            · have hw := hw.2 c_58
              obtain ⟨x_59, ex_59⟩ : ∃ y : Int32, y = v10_43 + 1 := ⟨_, rfl⟩
              have hw := hw x_59 ex_59
              refine lv_iinc (v := x_59) (lv' := [(10, .int x_59), (0, .ref t_p_), (2, .int tape), (3, .int r_1), (4, .int x_5), (7, .ref a_q_16), (8, .int v8_39), (11, .int v11_42)]) hx hb dL_isPlanned_173 hl (k := 6) rfl (by rw [ex_59]; rfl) (by decide) rfl (fun ls hl => ?_)
              refine lv_iload hx hb dL_isPlanned_176 (lv_at hl 7 rfl) ?_
              refine lv_iload hx hb dL_isPlanned_178 (lv_at hl 4 rfl) ?_
              refine lv_imul hx hb dL_isPlanned_180 ?_
              refine lv_topi (fun x_60 ex_60 => ?_)
              have hw := hw x_60 ex_60
              refine lv_istore (lv' := [(11, .int x_60), (10, .int x_59), (0, .ref t_p_), (2, .int tape), (3, .int r_1), (4, .int x_5), (7, .ref a_q_16), (8, .int v8_39)]) hx hb dL_isPlanned_181 hl (by decide) rfl (fun ls hl => ?_)
              refine lv_goto (tgt := 163) hx hb dL_isPlanned_183 (by decide) ?_
              refine W.widen (k := (580 - n163 * 1)) (n := (15694 - n163 * 6)) (by omega) (by omega) ?_
              exact ih163 o_57 x_60 x_59 ad_56 had_56 _ _ hw hP hD hS _ (lv_sub hl [2, 3, 4, 5, 6, 7, 1, 0] rfl)
        obtain ⟨n163, hle163, hw⟩ := hw
        refine W.widen (k := (580 - n163 * 1)) (n := (15694 - n163 * 6)) (by omega) (by omega) ?_
        exact LOOP163 n163 hle163 o_28 1 0 ad_27 had_27 _ _ hw hP hD hS _ (lv_sub hl [2, 3, 4, 5, 6, 7, 1, 0] rfl)
      have LOOP100 : ∀ (n100 : Nat) (v9_35 : Int32) (v8_36 : Int32) (r__37 : Nat → Int32) (q17_38 : Nat → Int32) (H : Heap) (locs : List Loc), wl_L_isPlanned_100 n_r_ n_10 (wx_L_isPlanned_100_157 tape Q r_1 x_5 n_17 q_18 o_28) n100 v9_35 v8_36 r__37 q17_38 → va_P (dC, dI) vwCl ([(a_r_, .inl (g 0, n_r_, .inl r__37)), (a_q_9, .inl (g 0, n_10, .inl q17_38)), (a_q_16, .inl (g 0, n_17, .inl q_18))] ++ (offS ad_27 tp_p_ hd_p_ tf_p_ cf_p_ g o_28)) H → va_D A ([(a_r_, .inl (g 0, n_r_, .inl r__37)), (a_q_9, .inl (g 0, n_10, .inl q17_38)), (a_q_16, .inl (g 0, n_17, .inl q_18))] ++ (offS ad_27 tp_p_ hd_p_ tf_p_ cf_p_ g o_28)) → va_S A s.heap H locs → ∀ (ls : Array Slot), lv_has ls 12 [(0, .ref t_p_), (1, .ref a_r_), (2, .int tape), (3, .int r_1), (4, .int x_5), (5, .ref a_q_9), (7, .ref a_q_16), (8, .int v8_36), (9, .int v9_35)] → W p l e (headSpec wqL_isPlanned ({ frames := 10, cells := 581, slots := 15700, locals := 170 })).room s m ([.ref t_p_, .ref a_r_, .int tape] : List Value).toArray below meth c H locs 479 15088 QM (F0 m 100 ls []) := by
        intro n100
        induction n100 with
        | zero =>
          intro v9_35 v8_36 r__37 q17_38 H locs hw hP hD hS ls hl
          exact False.elim hw
        | succ n100 ih100 =>
          intro v9_35 v8_36 r__37 q17_38 H locs hw hP hD hS ls hl
          rw [wl_L_isPlanned_100_s] at hw
          refine lv_iload hx hb dL_isPlanned_100 (lv_at hl 8 rfl) ?_
          refine lv_iconst (v := 1) hx hb dL_isPlanned_102 (by decide) ?_
          refine lv_icmp_le (tgt := 157) hx hb dL_isPlanned_103 (by decide) (fun c_61 => ?_) (fun c_61 => ?_)
          · have hw := hw.1 c_61
            obtain ⟨hP, hD⟩ := seg_sub (segs := [[(a_r_, .inl (g 0, n_r_, .inl r__37))], [(a_q_9, .inl (g 0, n_10, .inl q17_38))], [(a_q_16, .inl (g 0, n_17, .inl q_18))], offS ad_27 tp_p_ hd_p_ tf_p_ cf_p_ g o_28]) [[(a_r_, .inl (g 0, n_r_, .inl r__37))], [(a_q_16, .inl (g 0, n_17, .inl q_18))], offS ad_27 tp_p_ hd_p_ tf_p_ cf_p_ g o_28] [[(a_q_9, .inl (g 0, n_10, .inl q17_38))]] 4 [0, 2, 3, 1] rfl rfl (by decide) hP hD
            refine W.widen (k := 479) (n := 15088) (by omega) (by omega) ?_
            exact EX100_157 v8_36 r__37 _ _ hw hP hD hS _ (lv_sub hl [0, 2, 3, 4, 6, 7] rfl)
          · have hw := hw.2 c_61
            refine lv_aload hx hb dL_isPlanned_106 (lv_at hl 5 rfl) ?_
            refine lv_iload hx hb dL_isPlanned_108 (lv_at hl 8 rfl) ?_
            refine lv_aload_n hx hb dL_isPlanned_110 rfl (lv_at hl 1 rfl) ?_
            refine lv_iload hx hb dL_isPlanned_111 (lv_at hl 8 rfl) ?_
            obtain ⟨hPs, hDs⟩ := seg_call (segs := [[(a_r_, .inl (g 0, n_r_, .inl r__37))], [(a_q_9, .inl (g 0, n_10, .inl q17_38))], [(a_q_16, .inl (g 0, n_17, .inl q_18))], offS ad_27 tp_p_ hd_p_ tf_p_ cf_p_ g o_28]) [[(a_q_9, .inl (g 0, n_10, .inl q17_38))], [(a_q_16, .inl (g 0, n_17, .inl q_18))], offS ad_27 tp_p_ hd_p_ tf_p_ cf_p_ g o_28] [[(a_r_, .inl (g 0, n_r_, .inl r__37))]] 4 [1, 2, 3, 0] rfl rfl (by decide) hP hD
            have hPc : va_P (dC, dI) vwCl [(a_r_, .inl (g 0, n_r_, .inl r__37))] H := P_r hPs
            have hDc : va_D A [(a_r_, .inl (g 0, n_r_, .inl r__37))] := D_r hDs
            have hFc : ∀ q, va_A [(a_r_, .inl (g 0, n_r_, .inl r__37))] H.size q → A q := A_all hDc hA hS.1
            refine va_calli (va_runS (As := [.ref a_r_, .int v9_35]) (rest := [.int v9_35, .ref a_q_9]) ⟨hx, hb, hml, hown, hts⟩ (c_L_draw l hlf dC dI g (a_r_ := a_r_) (n_r_ := n_r_) (r_ := r__37) (many := v9_35) (hw := hw) (sz := H.size)) (va_cwS 2 hts (gqS aw_2_215 aw_2_216 aw_1_0 aw_2_217) rfl rfl rfl (by decide +kernel) ⟨Nat.le_of_ble_eq_true rfl, Nat.le_of_ble_eq_true rfl⟩) ⟨PG_blind, PG_call hK hG hS hPc hDc hFc⟩ rfl rfl hl.1 rfl (lv_room (Nat.le_of_ble_eq_true rfl)) dL_isPlanned_113 ⟨by rw [hrc]; omega, by rw [hrs]; omega⟩) hS (fun q _ h => hFc q h) hFc (fun r_62 u_62 t_62 H_62 L_62 ht_62 hvm_62 hw_62 hB_62 hz_62 hk_62 hS => ?_)
            obtain ⟨r__63, u_62⟩ := u_62
            have hw := hw_62
            rw [ht_62] at hB_62
            obtain ⟨hP1, hD1⟩ := hB_62
            obtain ⟨hP, hD⟩ := join_r hPs hDs hk_62 hFc hP1 hD1
            obtain ⟨hP, hD⟩ := seg_join [[(a_q_9, .inl (g 0, n_10, .inl q17_38))], [(a_q_16, .inl (g 0, n_17, .inl q_18))], offS ad_27 tp_p_ hd_p_ tf_p_ cf_p_ g o_28] [[(a_r_, .inl (g 0, n_r_, .inl r__63))]] [[(a_r_, .inl (g 0, n_r_, .inl r__63))], [(a_q_9, .inl (g 0, n_10, .inl q17_38))], [(a_q_16, .inl (g 0, n_17, .inl q_18))], offS ad_27 tp_p_ hd_p_ tf_p_ cf_p_ g o_28] 4 [3, 0, 1, 2] rfl rfl (by decide) hP hD
            have hP : va_P (dC, dI) vwCl ([(a_r_, .inl (g 0, n_r_, .inl r__63)), (a_q_9, .inl (g 0, n_10, .inl q17_38)), (a_q_16, .inl (g 0, n_17, .inl q_18))] ++ (offS ad_27 tp_p_ hd_p_ tf_p_ cf_p_ g o_28)) H_62 := hP
            have hD : va_D A ([(a_r_, .inl (g 0, n_r_, .inl r__63)), (a_q_9, .inl (g 0, n_10, .inl q17_38)), (a_q_16, .inl (g 0, n_17, .inl q_18))] ++ (offS ad_27 tp_p_ hd_p_ tf_p_ cf_p_ g o_28)) := hD
            refine W.widen (k := 479) (n := 15088) (by omega) (by omega) ?_
            obtain ⟨hPs, hDs⟩ := seg_call (segs := [[(a_r_, .inl (g 0, n_r_, .inl r__63))], [(a_q_9, .inl (g 0, n_10, .inl q17_38))], [(a_q_16, .inl (g 0, n_17, .inl q_18))], offS ad_27 tp_p_ hd_p_ tf_p_ cf_p_ g o_28]) [[(a_r_, .inl (g 0, n_r_, .inl r__63))], [(a_q_16, .inl (g 0, n_17, .inl q_18))], offS ad_27 tp_p_ hd_p_ tf_p_ cf_p_ g o_28] [[(a_q_9, .inl (g 0, n_10, .inl q17_38))]] 4 [0, 2, 3, 1] rfl rfl (by decide) hP hD
            have hPc : va_P (dC, dI) vwCl [(a_q_9, .inl (g 0, n_10, .inl q17_38))] H_62 := P_r hPs
            have hDc : va_D A [(a_q_9, .inl (g 0, n_10, .inl q17_38))] := D_r hDs
            have hFc : ∀ q, va_A [(a_q_9, .inl (g 0, n_10, .inl q17_38))] H_62.size q → A q := A_all hDc hA hS.1
            refine va_calli (va_runS (As := [.ref a_q_9, .int v9_35, .int r_62]) (rest := []) ⟨hx, hb, hml, hown, hts⟩ (c_L_takes l hlf dC dI g (a_all := a_q_9) (n_all := n_10) (all := q17_38) (many := v9_35) (at_ := r_62) (hw := hw) (sz := H_62.size)) (va_cwS 3 hts (gqS aw_6_6 aw_6_7 aw_1_0 aw_6_8) rfl rfl rfl (by decide +kernel) ⟨Nat.le_of_ble_eq_true rfl, Nat.le_of_ble_eq_true rfl⟩) ⟨PG_blind, PG_call hK hG hS hPc hDc hFc⟩ rfl rfl hl.1 rfl (lv_room (Nat.le_of_ble_eq_true rfl)) dL_isPlanned_116 ⟨by rw [hrc]; omega, by rw [hrs]; omega⟩) hS (fun q _ h => hFc q h) hFc (fun r_64 u_64 t_64 H_64 L_64 ht_64 hvm_64 hw_64 hB_64 hz_64 hk_64 hS => ?_)
            obtain ⟨q17_65, u_64⟩ := u_64
            have hw := hw_64
            rw [ht_64] at hB_64
            obtain ⟨hP1, hD1⟩ := hB_64
            obtain ⟨hP, hD⟩ := join_r hPs hDs hk_64 hFc hP1 hD1
            obtain ⟨hP, hD⟩ := seg_join [[(a_r_, .inl (g 0, n_r_, .inl r__63))], [(a_q_16, .inl (g 0, n_17, .inl q_18))], offS ad_27 tp_p_ hd_p_ tf_p_ cf_p_ g o_28] [[(a_q_9, .inl (g 0, n_10, .inl q17_65))]] [[(a_r_, .inl (g 0, n_r_, .inl r__63))], [(a_q_9, .inl (g 0, n_10, .inl q17_65))], [(a_q_16, .inl (g 0, n_17, .inl q_18))], offS ad_27 tp_p_ hd_p_ tf_p_ cf_p_ g o_28] 4 [0, 3, 1, 2] rfl rfl (by decide) hP hD
            have hP : va_P (dC, dI) vwCl ([(a_r_, .inl (g 0, n_r_, .inl r__63)), (a_q_9, .inl (g 0, n_10, .inl q17_65)), (a_q_16, .inl (g 0, n_17, .inl q_18))] ++ (offS ad_27 tp_p_ hd_p_ tf_p_ cf_p_ g o_28)) H_64 := hP
            have hD : va_D A ([(a_r_, .inl (g 0, n_r_, .inl r__63)), (a_q_9, .inl (g 0, n_10, .inl q17_65)), (a_q_16, .inl (g 0, n_17, .inl q_18))] ++ (offS ad_27 tp_p_ hd_p_ tf_p_ cf_p_ g o_28)) := hD
            refine W.widen (k := 479) (n := 15088) (by omega) (by omega) ?_
            refine lv_istore (lv' := [(10, .int r_64), (0, .ref t_p_), (1, .ref a_r_), (2, .int tape), (3, .int r_1), (4, .int x_5), (5, .ref a_q_9), (7, .ref a_q_16), (8, .int v8_36), (9, .int v9_35)]) hx hb dL_isPlanned_119 hl (by decide) rfl (fun ls hl => ?_)
            refine lv_aload_n hx hb dL_isPlanned_121 rfl (lv_at hl 2 rfl) ?_
            refine lv_iload hx hb dL_isPlanned_122 (lv_at hl 9 rfl) ?_
            refine lv_iconst (v := 1) hx hb dL_isPlanned_124 (by decide) ?_
            refine lv_isub hx hb dL_isPlanned_125 ?_
            refine lv_topi (fun x_66 ex_66 => ?_)
            have hw := hw x_66 ex_66
            obtain ⟨hPs, hDs⟩ := seg_call (segs := [[(a_r_, .inl (g 0, n_r_, .inl r__63))], [(a_q_9, .inl (g 0, n_10, .inl q17_65))], [(a_q_16, .inl (g 0, n_17, .inl q_18))], offS ad_27 tp_p_ hd_p_ tf_p_ cf_p_ g o_28]) [[(a_q_9, .inl (g 0, n_10, .inl q17_65))], [(a_q_16, .inl (g 0, n_17, .inl q_18))], offS ad_27 tp_p_ hd_p_ tf_p_ cf_p_ g o_28] [[(a_r_, .inl (g 0, n_r_, .inl r__63))]] 4 [1, 2, 3, 0] rfl rfl (by decide) hP hD
            have hPc : va_P (dC, dI) vwCl [(a_r_, .inl (g 0, n_r_, .inl r__63))] H_64 := P_r hPs
            have hDc : va_D A [(a_r_, .inl (g 0, n_r_, .inl r__63))] := D_r hDs
            have hFc : ∀ q, va_A [(a_r_, .inl (g 0, n_r_, .inl r__63))] H_64.size q → A q := A_all hDc hA hS.1
            refine va_calli (va_runS (As := [.ref a_r_, .int x_66]) (rest := []) ⟨hx, hb, hml, hown, hts⟩ (c_L_draw l hlf dC dI g (a_r_ := a_r_) (n_r_ := n_r_) (r_ := r__63) (many := x_66) (hw := hw) (sz := H_64.size)) (va_cwS 2 hts (gqS aw_2_215 aw_2_216 aw_1_0 aw_2_217) rfl rfl rfl (by decide +kernel) ⟨Nat.le_of_ble_eq_true rfl, Nat.le_of_ble_eq_true rfl⟩) ⟨PG_blind, PG_call hK hG hS hPc hDc hFc⟩ rfl rfl hl.1 rfl (lv_room (Nat.le_of_ble_eq_true rfl)) dL_isPlanned_126 ⟨by rw [hrc]; omega, by rw [hrs]; omega⟩) hS (fun q _ h => hFc q h) hFc (fun r_67 u_67 t_67 H_67 L_67 ht_67 hvm_67 hw_67 hB_67 hz_67 hk_67 hS => ?_)
            obtain ⟨r__68, u_67⟩ := u_67
            have hw := hw_67
            rw [ht_67] at hB_67
            obtain ⟨hP1, hD1⟩ := hB_67
            obtain ⟨hP, hD⟩ := join_r hPs hDs hk_67 hFc hP1 hD1
            obtain ⟨hP, hD⟩ := seg_join [[(a_q_9, .inl (g 0, n_10, .inl q17_65))], [(a_q_16, .inl (g 0, n_17, .inl q_18))], offS ad_27 tp_p_ hd_p_ tf_p_ cf_p_ g o_28] [[(a_r_, .inl (g 0, n_r_, .inl r__68))]] [[(a_r_, .inl (g 0, n_r_, .inl r__68))], [(a_q_9, .inl (g 0, n_10, .inl q17_65))], [(a_q_16, .inl (g 0, n_17, .inl q_18))], offS ad_27 tp_p_ hd_p_ tf_p_ cf_p_ g o_28] 4 [3, 0, 1, 2] rfl rfl (by decide) hP hD
            have hP : va_P (dC, dI) vwCl ([(a_r_, .inl (g 0, n_r_, .inl r__68)), (a_q_9, .inl (g 0, n_10, .inl q17_65)), (a_q_16, .inl (g 0, n_17, .inl q_18))] ++ (offS ad_27 tp_p_ hd_p_ tf_p_ cf_p_ g o_28)) H_67 := hP
            have hD : va_D A ([(a_r_, .inl (g 0, n_r_, .inl r__68)), (a_q_9, .inl (g 0, n_10, .inl q17_65)), (a_q_16, .inl (g 0, n_17, .inl q_18))] ++ (offS ad_27 tp_p_ hd_p_ tf_p_ cf_p_ g o_28)) := hD
            refine W.widen (k := 479) (n := 15088) (by omega) (by omega) ?_
            refine lv_istore (lv' := [(11, .int r_67), (10, .int r_64), (0, .ref t_p_), (1, .ref a_r_), (2, .int tape), (3, .int r_1), (4, .int x_5), (5, .ref a_q_9), (7, .ref a_q_16), (8, .int v8_36), (9, .int v9_35)]) hx hb dL_isPlanned_129 hl (by decide) rfl (fun ls hl => ?_)
            refine lv_aload hx hb dL_isPlanned_131 (lv_at hl 7 rfl) ?_
            refine lv_iload hx hb dL_isPlanned_133 (lv_at hl 0 rfl) ?_
            refine lv_dup2_11 hx hb dL_isPlanned_135 rfl rfl ?_
            refine va_iald hx hb hK hP 1 0 rfl rfl hw.1 dL_isPlanned_136 ?_
            have hw := hw.2
            refine lv_topi (fun x_69 ex_69 => ?_)
            have hw := hw x_69 ex_69
            refine lv_iload hx hb dL_isPlanned_137 (lv_at hl 1 rfl) ?_
            refine lv_iadd hx hb dL_isPlanned_139 ?_
            refine lv_topi (fun x_70 ex_70 => ?_)
            have hw := hw x_70 ex_70
            refine va_iast hx hb hK hP hD hS 1 0 rfl rfl hw.1 dL_isPlanned_140 (fun H_71 L_72 hP hD hS => ?_)
            have hw := hw.2
            have hP : va_P (dC, dI) vwCl ([(a_r_, .inl (g 0, n_r_, .inl r__68)), (a_q_9, .inl (g 0, n_10, .inl (upd q17_65 r_67.toNatClampNeg x_70))), (a_q_16, .inl (g 0, n_17, .inl q_18))] ++ (offS ad_27 tp_p_ hd_p_ tf_p_ cf_p_ g o_28)) H_71 := hP
            have hD : va_D A ([(a_r_, .inl (g 0, n_r_, .inl r__68)), (a_q_9, .inl (g 0, n_10, .inl (upd q17_65 r_67.toNatClampNeg x_70))), (a_q_16, .inl (g 0, n_17, .inl q_18))] ++ (offS ad_27 tp_p_ hd_p_ tf_p_ cf_p_ g o_28)) := hD
            refine lv_iload hx hb dL_isPlanned_141 (lv_at hl 9 rfl) ?_
            refine lv_aload hx hb dL_isPlanned_143 (lv_at hl 7 rfl) ?_
            refine lv_iload hx hb dL_isPlanned_145 (lv_at hl 0 rfl) ?_
            refine va_iald hx hb hK hP 1 0 rfl rfl hw.1 dL_isPlanned_147 ?_
            have hw := hw.2
            refine lv_topi (fun x_73 ex_73 => ?_)
            have hw := hw x_73 ex_73
            refine lv_iadd hx hb dL_isPlanned_148 ?_
            refine lv_topi (fun x_74 ex_74 => ?_)
            have hw := hw x_74 ex_74
            refine lv_istore (lv' := [(8, .int x_74), (11, .int r_67), (10, .int r_64), (0, .ref t_p_), (1, .ref a_r_), (2, .int tape), (3, .int r_1), (4, .int x_5), (5, .ref a_q_9), (7, .ref a_q_16), (9, .int v9_35)]) hx hb dL_isPlanned_149 hl (by decide) rfl (fun ls hl => ?_)
            obtain ⟨x_75, ex_75⟩ : ∃ y : Int32, y = v9_35 + (-1) := ⟨_, rfl⟩
            have hw := hw x_75 ex_75
            refine lv_iinc (v := x_75) (lv' := [(9, .int x_75), (8, .int x_74), (11, .int r_67), (10, .int r_64), (0, .ref t_p_), (1, .ref a_r_), (2, .int tape), (3, .int r_1), (4, .int x_5), (5, .ref a_q_9), (7, .ref a_q_16)]) hx hb dL_isPlanned_151 hl (k := 10) rfl (by rw [ex_75]; rfl) (by decide) rfl (fun ls hl => ?_)
            refine lv_goto (tgt := 100) hx hb dL_isPlanned_154 (by decide) ?_
            refine W.widen (k := 479) (n := 15088) (by omega) (by omega) ?_
            exact ih100 x_75 x_74 r__68 (upd q17_65 r_67.toNatClampNeg x_70) _ _ hw hP hD hS _ (lv_sub hl [4, 5, 6, 7, 8, 9, 10, 1, 0] rfl)
      obtain ⟨n100, hw⟩ := hw
      obtain ⟨hP, hD⟩ := seg_sub (segs := [[(a_r_, .inl (g 0, n_r_, .inl r__4))], [(a_q_9, .inl (g 0, n_10, .inl q_11))], [(a_q_16, .inl (g 0, n_17, .inl q_18))], [(a_q_30, .inl (g 0, n_31, .inl q_32))], offS ad_27 tp_p_ hd_p_ tf_p_ cf_p_ g o_28]) [[(a_r_, .inl (g 0, n_r_, .inl r__4))], [(a_q_9, .inl (g 0, n_10, .inl q_11))], [(a_q_16, .inl (g 0, n_17, .inl q_18))], offS ad_27 tp_p_ hd_p_ tf_p_ cf_p_ g o_28] [[(a_q_30, .inl (g 0, n_31, .inl q_32))]] 5 [0, 1, 2, 4, 3] rfl rfl (by decide) hP hD
      refine W.widen (k := 479) (n := 15088) (by omega) (by omega) ?_
      exact LOOP100 n100 (nI n_10) 0 r__4 q_11 _ _ hw hP hD hS _ (lv_sub hl [2, 3, 4, 5, 6, 7, 8, 1, 0] rfl)
    · have hw := hw.2 c_34
      refine lv_iconst (v := 0) hx hb dL_isPlanned_90 (by decide) ?_
      refine W.widen (k := 581) (n := 15700) (by omega) (by omega) ?_
      subst hQM
      obtain ⟨hP, hD⟩ := seg_sub (segs := [[(a_r_, .inl (g 0, n_r_, .inl r__4))], [(a_q_9, .inl (g 0, n_10, .inl q_11))], [(a_q_16, .inl (g 0, n_17, .inl q_18))], [(a_q_30, .inl (g 0, n_31, .inl q_32))], offS ad_27 tp_p_ hd_p_ tf_p_ cf_p_ g o_28]) [[(a_r_, .inl (g 0, n_r_, .inl r__4))], offS ad_27 tp_p_ hd_p_ tf_p_ cf_p_ g o_28] [[(a_q_9, .inl (g 0, n_10, .inl q_11))], [(a_q_16, .inl (g 0, n_17, .inl q_18))], [(a_q_30, .inl (g 0, n_31, .inl q_32))]] 5 [0, 4, 1, 2, 3] rfl rfl (by decide) hP hD
      exact W.zret (v := 0) hx hb hr rfl (fun t ht hW => ⟨⟨_, (r__4, ad_27, o_28, ()), rfl, ⟨false, rfl, ⟨hw, had_27⟩⟩, ⟨P_at ht hP, hD⟩⟩, hS.F ht⟩) hS.2.2 dL_isPlanned_91
  have LOOP44 : ∀ (n44 : Nat), n44 ≤ 101 → ∀ (v8_19 : Int32) (o_20 : OS) (ad_21 : Nat → Nat) (had_21 : ad_21 0 = t_p_) (H : Heap) (locs : List Loc), wl_L_isPlanned_44 tape n_17 q_18 (wx_L_isPlanned_44_65 Q r__4) (wx_L_isPlanned_44_73 n_r_ tape Q r_1 r__4 x_5 n_10 q_11 n_17 q_18) n44 v8_19 o_20 → va_P (dC, dI) vwCl ([(a_r_, .inl (g 0, n_r_, .inl r__4)), (a_q_9, .inl (g 0, n_10, .inl q_11)), (a_q_16, .inl (g 0, n_17, .inl q_18))] ++ (offS ad_21 tp_p_ hd_p_ tf_p_ cf_p_ g o_20)) H → va_D A ([(a_r_, .inl (g 0, n_r_, .inl r__4)), (a_q_9, .inl (g 0, n_10, .inl q_11)), (a_q_16, .inl (g 0, n_17, .inl q_18))] ++ (offS ad_21 tp_p_ hd_p_ tf_p_ cf_p_ g o_20)) → va_S A s.heap H locs → ∀ (ls : Array Slot), lv_has ls 12 [(0, .ref t_p_), (1, .ref a_r_), (2, .int tape), (3, .int r_1), (4, .int x_5), (5, .ref a_q_9), (7, .ref a_q_16), (8, .int v8_19)] → W p l e (headSpec wqL_isPlanned ({ frames := 10, cells := 581, slots := 15700, locals := 170 })).room s m ([.ref t_p_, .ref a_r_, .int tape] : List Value).toArray below meth c H locs (443 - n44 * 2) (8862 - n44 * 12) QM (F0 m 44 ls []) := by
    intro n44
    induction n44 with
    | zero =>
      intro hle_n44
      intro v8_19 o_20 ad_21 had_21 H locs hw hP hD hS ls hl
      exact False.elim hw
    | succ n44 ih44 =>
      intro hle_n44
      have ih44 := ih44 (by omega)
      intro v8_19 o_20 ad_21 had_21 H locs hw hP hD hS ls hl
      rw [wl_L_isPlanned_44_s] at hw
      obtain ⟨kb44, hkb44⟩ : ∃ x : Nat, x = 443 - (n44 + 1) * 2 := ⟨_, rfl⟩
      obtain ⟨nb44, hnb44⟩ : ∃ x : Nat, x = 8862 - (n44 + 1) * 12 := ⟨_, rfl⟩
      refine W.widen (k := kb44) (n := nb44) (by omega) (by omega) ?_
      refine lv_iload hx hb dL_isPlanned_44 (lv_at hl 7 rfl) ?_
      refine lv_iconst (v := 4) hx hb dL_isPlanned_46 (by decide) ?_
      refine lv_icmp_ge (tgt := 73) hx hb dL_isPlanned_47 (by decide) (fun c_76 => ?_) (fun c_76 => ?_)
      · have hw := hw.1 c_76
        refine W.widen (k := 443) (n := 8862) (by omega) (by omega) ?_
        exact EX44_73 o_20 ad_21 had_21 _ _ hw hP hD hS _ (lv_sub hl [0, 1, 2, 3, 4, 5, 6] rfl)
      · have hw := hw.2 c_76
        refine lv_aload_n hx hb dL_isPlanned_50 rfl (lv_at hl 0 rfl) ?_
        refine lv_iload_n hx hb dL_isPlanned_51 rfl (lv_at hl 2 rfl) ?_
        refine lv_iload hx hb dL_isPlanned_52 (lv_at hl 7 rfl) ?_
        obtain ⟨hPs, hDs⟩ := seg_call (segs := [[(a_r_, .inl (g 0, n_r_, .inl r__4))], [(a_q_9, .inl (g 0, n_10, .inl q_11))], [(a_q_16, .inl (g 0, n_17, .inl q_18))], offS ad_21 tp_p_ hd_p_ tf_p_ cf_p_ g o_20]) [[(a_r_, .inl (g 0, n_r_, .inl r__4))], [(a_q_9, .inl (g 0, n_10, .inl q_11))], [(a_q_16, .inl (g 0, n_17, .inl q_18))]] [offS ad_21 tp_p_ hd_p_ tf_p_ cf_p_ g o_20] 4 [0, 1, 2, 3] rfl rfl (by decide) hP hD
        have hPc : va_P (dC, dI) vwCl (offS ad_21 tp_p_ hd_p_ tf_p_ cf_p_ g o_20) H := P_r hPs
        have hDc : va_D A (offS ad_21 tp_p_ hd_p_ tf_p_ cf_p_ g o_20) := D_r hDs
        have hFc : ∀ q, va_A (offS ad_21 tp_p_ hd_p_ tf_p_ cf_p_ g o_20) H.size q → A q := A_all hDc hA hS.1
        refine vx_calli (vx_runV (As := [.int tape, .int v8_19]) (rest := []) ⟨hx, hb, hml, hown, hts⟩ (p_plan l hlf dC dI g tp_p_ hd_p_ tf_p_ cf_p_ htf_p_ hcf_p_ ad_21 t_p_ had_21 o_20 tape v8_19 (hw := hw) (sz := H.size)) (cwV 2 hts (gqV aw_4_56 aw_4_57 aw_4_58 aw_1_1 aw_4_59) rfl rfl rfl (by decide +kernel) ⟨Nat.le_of_ble_eq_true rfl, Nat.le_of_ble_eq_true rfl⟩) ⟨PG_blind, off_recv had_21 hK hPc, PG_call hK hG hS hPc hDc hFc⟩ rfl rfl hl.1 rfl (lv_room (Nat.le_of_ble_eq_true rfl)) dL_isPlanned_54 ⟨by rw [hrc]; omega, by rw [hrs]; omega⟩) hS (fun q _ h => hFc q h) hFc (fun q _ h => hFc q h) (fun E ce q9 ux t H1 locs1 ht hvm hp9 hB9 hz hk hS9 hce hcv hcl => ?_) (fun r_77 u_77 t_77 H_77 L_77 ht_77 hvm_77 hw_77 hB_77 hz_77 hk_77 hS => ?_)
        · exact (hB9.1.1).elim
        obtain ⟨ad_78, o_79⟩ := u_77
        obtain ⟨hw, had_78⟩ := hw_77
        rw [ht_77] at hB_77
        obtain ⟨hP1, hD1⟩ := hB_77
        obtain ⟨hP, hD⟩ := join_r hPs hDs hk_77 hFc hP1 hD1
        obtain ⟨hP, hD⟩ := seg_join [[(a_r_, .inl (g 0, n_r_, .inl r__4))], [(a_q_9, .inl (g 0, n_10, .inl q_11))], [(a_q_16, .inl (g 0, n_17, .inl q_18))]] [offS ad_78 tp_p_ hd_p_ tf_p_ cf_p_ g o_79] [[(a_r_, .inl (g 0, n_r_, .inl r__4))], [(a_q_9, .inl (g 0, n_10, .inl q_11))], [(a_q_16, .inl (g 0, n_17, .inl q_18))], offS ad_78 tp_p_ hd_p_ tf_p_ cf_p_ g o_79] 4 [0, 1, 2, 3] rfl rfl (by decide) hP hD
        have hP : va_P (dC, dI) vwCl ([(a_r_, .inl (g 0, n_r_, .inl r__4)), (a_q_9, .inl (g 0, n_10, .inl q_11)), (a_q_16, .inl (g 0, n_17, .inl q_18))] ++ (offS ad_78 tp_p_ hd_p_ tf_p_ cf_p_ g o_79)) H_77 := hP
        have hD : va_D A ([(a_r_, .inl (g 0, n_r_, .inl r__4)), (a_q_9, .inl (g 0, n_10, .inl q_11)), (a_q_16, .inl (g 0, n_17, .inl q_18))] ++ (offS ad_78 tp_p_ hd_p_ tf_p_ cf_p_ g o_79)) := hD
        refine W.widen (k := (kb44 + 2)) (n := (nb44 + 12)) (by omega) (by omega) ?_
        refine lv_aload hx hb dL_isPlanned_57 (lv_at hl 6 rfl) ?_
        refine lv_iload hx hb dL_isPlanned_59 (lv_at hl 7 rfl) ?_
        refine va_iald hx hb hK hP 2 0 rfl rfl hw.1 dL_isPlanned_61 ?_
        have hw := hw.2
        refine lv_topi (fun x_80 ex_80 => ?_)
        have hw := hw x_80 ex_80
        refine lv_icmp_eq (tgt := 67) hx hb dL_isPlanned_62 (by decide) (fun c_81 => ?_) (fun c_81 => ?_)
        · have hw := hw.1 c_81
          obtain ⟨x_82, ex_82⟩ : ∃ y : Int32, y = v8_19 + 1 := ⟨_, rfl⟩
          have hw := hw x_82 ex_82
          refine lv_iinc (v := x_82) (lv' := [(8, .int x_82), (0, .ref t_p_), (1, .ref a_r_), (2, .int tape), (3, .int r_1), (4, .int x_5), (5, .ref a_q_9), (7, .ref a_q_16)]) hx hb dL_isPlanned_67 hl (k := 7) rfl (by rw [ex_82]; rfl) (by decide) rfl (fun ls hl => ?_)
          refine lv_goto (tgt := 44) hx hb dL_isPlanned_70 (by decide) ?_
          refine W.widen (k := (443 - n44 * 2)) (n := (8862 - n44 * 12)) (by omega) (by omega) ?_
          exact ih44 x_82 o_79 ad_78 had_78 _ _ hw hP hD hS _ (lv_sub hl [1, 2, 3, 4, 5, 6, 7, 0] rfl)
        · have hw := hw.2 c_81
          obtain ⟨hP, hD⟩ := seg_sub (segs := [[(a_r_, .inl (g 0, n_r_, .inl r__4))], [(a_q_9, .inl (g 0, n_10, .inl q_11))], [(a_q_16, .inl (g 0, n_17, .inl q_18))], offS ad_78 tp_p_ hd_p_ tf_p_ cf_p_ g o_79]) [[(a_r_, .inl (g 0, n_r_, .inl r__4))], offS ad_78 tp_p_ hd_p_ tf_p_ cf_p_ g o_79] [[(a_q_9, .inl (g 0, n_10, .inl q_11))], [(a_q_16, .inl (g 0, n_17, .inl q_18))]] 4 [0, 3, 1, 2] rfl rfl (by decide) hP hD
          refine W.widen (k := 443) (n := 8862) (by omega) (by omega) ?_
          exact EX44_65 o_79 ad_78 had_78 _ _ hw hP hD hS _ (lv_sub hl [] rfl)
  obtain ⟨n44, hle44, hw⟩ := hw
  refine W.widen (k := (443 - n44 * 2)) (n := (8862 - n44 * 12)) (by omega) (by omega) ?_
  exact LOOP44 n44 hle44 0 o_14 ad_13 had_13 _ _ hw hP hD hS _ (lv_sub hl [6, 7, 8, 5, 4, 3, 1, 0] rfl)
