theorem dX11_init_0 : decode cX11_init 0 = .ok (.aload_n 0, 1) := by decide +kernel
theorem dX11_init_1 : decode cX11_init 1 = .ok (.invokespecial 1, 3) := by decide +kernel
theorem dX11_init_4 : decode cX11_init 4 = .ok (.aload_n 0, 1) := by decide +kernel
theorem dX11_init_5 : decode cX11_init 5 = .ok (.bipush 74, 2) := by decide +kernel
theorem dX11_init_7 : decode cX11_init 7 = .ok (.newarray .int, 2) := by decide +kernel
theorem dX11_init_9 : decode cX11_init 9 = .ok (.putfield 7, 3) := by decide +kernel
theorem dX11_init_12 : decode cX11_init 12 = .ok (.aload_n 0, 1) := by decide +kernel
theorem dX11_init_13 : decode cX11_init 13 = .ok (.bipush 74, 2) := by decide +kernel
theorem dX11_init_15 : decode cX11_init 15 = .ok (.newarray .int, 2) := by decide +kernel
theorem dX11_init_17 : decode cX11_init 17 = .ok (.putfield 13, 3) := by decide +kernel
theorem dX11_init_20 : decode cX11_init 20 = .ok (.aload_n 0, 1) := by decide +kernel
theorem dX11_init_21 : decode cX11_init 21 = .ok (.bipush 74, 2) := by decide +kernel
theorem dX11_init_23 : decode cX11_init 23 = .ok (.newarray .int, 2) := by decide +kernel
theorem dX11_init_25 : decode cX11_init 25 = .ok (.putfield 16, 3) := by decide +kernel
theorem dX11_init_28 : decode cX11_init 28 = .ok (.aload_n 0, 1) := by decide +kernel
theorem dX11_init_29 : decode cX11_init 29 = .ok (.bipush 12, 2) := by decide +kernel
theorem dX11_init_31 : decode cX11_init 31 = .ok (.newarray .int, 2) := by decide +kernel
theorem dX11_init_33 : decode cX11_init 33 = .ok (.putfield 19, 3) := by decide +kernel
theorem dX11_init_36 : decode cX11_init 36 = .ok (.aload_n 0, 1) := by decide +kernel
theorem dX11_init_37 : decode cX11_init 37 = .ok (.bipush 24, 2) := by decide +kernel
theorem dX11_init_39 : decode cX11_init 39 = .ok (.newarray .int, 2) := by decide +kernel
theorem dX11_init_41 : decode cX11_init 41 = .ok (.putfield 22, 3) := by decide +kernel
theorem dX11_init_44 : decode cX11_init 44 = .ok (.aload_n 0, 1) := by decide +kernel
theorem dX11_init_45 : decode cX11_init 45 = .ok (.bipush 24, 2) := by decide +kernel
theorem dX11_init_47 : decode cX11_init 47 = .ok (.newarray .int, 2) := by decide +kernel
theorem dX11_init_49 : decode cX11_init 49 = .ok (.putfield 25, 3) := by decide +kernel
theorem dX11_init_52 : decode cX11_init 52 = .ok (.aload_n 0, 1) := by decide +kernel
theorem dX11_init_53 : decode cX11_init 53 = .ok (.sipush 260, 3) := by decide +kernel
theorem dX11_init_56 : decode cX11_init 56 = .ok (.newarray .byte, 2) := by decide +kernel
theorem dX11_init_58 : decode cX11_init 58 = .ok (.putfield 28, 3) := by decide +kernel
theorem dX11_init_61 : decode cX11_init 61 = .ok (.aload_n 0, 1) := by decide +kernel
theorem dX11_init_62 : decode cX11_init 62 = .ok (.sipush 260, 3) := by decide +kernel
theorem dX11_init_65 : decode cX11_init 65 = .ok (.newarray .int, 2) := by decide +kernel
theorem dX11_init_67 : decode cX11_init 67 = .ok (.putfield 32, 3) := by decide +kernel
theorem dX11_init_70 : decode cX11_init 70 = .ok (.aload_n 0, 1) := by decide +kernel
theorem dX11_init_71 : decode cX11_init 71 = .ok (.sipush 260, 3) := by decide +kernel
theorem dX11_init_74 : decode cX11_init 74 = .ok (.newarray .int, 2) := by decide +kernel
theorem dX11_init_76 : decode cX11_init 76 = .ok (.putfield 35, 3) := by decide +kernel
theorem dX11_init_79 : decode cX11_init 79 = .ok (.aload_n 0, 1) := by decide +kernel
theorem dX11_init_80 : decode cX11_init 80 = .ok (.bipush 16, 2) := by decide +kernel
theorem dX11_init_82 : decode cX11_init 82 = .ok (.newarray .int, 2) := by decide +kernel
theorem dX11_init_84 : decode cX11_init 84 = .ok (.putfield 38, 3) := by decide +kernel
theorem dX11_init_87 : decode cX11_init 87 = .ok (.aload_n 0, 1) := by decide +kernel
theorem dX11_init_88 : decode cX11_init 88 = .ok (.bipush 16, 2) := by decide +kernel
theorem dX11_init_90 : decode cX11_init 90 = .ok (.newarray .int, 2) := by decide +kernel
theorem dX11_init_92 : decode cX11_init 92 = .ok (.putfield 41, 3) := by decide +kernel
theorem dX11_init_95 : decode cX11_init 95 = .ok (.aload_n 0, 1) := by decide +kernel
theorem dX11_init_96 : decode cX11_init 96 = .ok (.bipush 16, 2) := by decide +kernel
theorem dX11_init_98 : decode cX11_init 98 = .ok (.newarray .int, 2) := by decide +kernel
theorem dX11_init_100 : decode cX11_init 100 = .ok (.putfield 44, 3) := by decide +kernel
theorem dX11_init_103 : decode cX11_init 103 = .ok (.aload_n 0, 1) := by decide +kernel
theorem dX11_init_104 : decode cX11_init 104 = .ok (.bipush 16, 2) := by decide +kernel
theorem dX11_init_106 : decode cX11_init 106 = .ok (.newarray .int, 2) := by decide +kernel
theorem dX11_init_108 : decode cX11_init 108 = .ok (.putfield 47, 3) := by decide +kernel
theorem dX11_init_111 : decode cX11_init 111 = .ok (.aload_n 0, 1) := by decide +kernel
theorem dX11_init_112 : decode cX11_init 112 = .ok (.sipush 260, 3) := by decide +kernel
theorem dX11_init_115 : decode cX11_init 115 = .ok (.newarray .int, 2) := by decide +kernel
theorem dX11_init_117 : decode cX11_init 117 = .ok (.putfield 50, 3) := by decide +kernel
theorem dX11_init_120 : decode cX11_init 120 = .ok (.aload_n 0, 1) := by decide +kernel
theorem dX11_init_121 : decode cX11_init 121 = .ok (.bipush 16, 2) := by decide +kernel
theorem dX11_init_123 : decode cX11_init 123 = .ok (.newarray .int, 2) := by decide +kernel
theorem dX11_init_125 : decode cX11_init 125 = .ok (.putfield 53, 3) := by decide +kernel
theorem dX11_init_128 : decode cX11_init 128 = .ok (.aload_n 0, 1) := by decide +kernel
theorem dX11_init_129 : decode cX11_init 129 = .ok (.bipush 16, 2) := by decide +kernel
theorem dX11_init_131 : decode cX11_init 131 = .ok (.newarray .int, 2) := by decide +kernel
theorem dX11_init_133 : decode cX11_init 133 = .ok (.putfield 56, 3) := by decide +kernel
theorem dX11_init_136 : decode cX11_init 136 = .ok (.aload_n 0, 1) := by decide +kernel
theorem dX11_init_137 : decode cX11_init 137 = .ok (.bipush 16, 2) := by decide +kernel
theorem dX11_init_139 : decode cX11_init 139 = .ok (.newarray .int, 2) := by decide +kernel
theorem dX11_init_141 : decode cX11_init 141 = .ok (.putfield 59, 3) := by decide +kernel
theorem dX11_init_144 : decode cX11_init 144 = .ok (.aload_n 0, 1) := by decide +kernel
theorem dX11_init_145 : decode cX11_init 145 = .ok (.bipush 16, 2) := by decide +kernel
theorem dX11_init_147 : decode cX11_init 147 = .ok (.newarray .int, 2) := by decide +kernel
theorem dX11_init_149 : decode cX11_init 149 = .ok (.putfield 62, 3) := by decide +kernel
theorem dX11_init_152 : decode cX11_init 152 = .ok (.aload_n 0, 1) := by decide +kernel
theorem dX11_init_153 : decode cX11_init 153 = .ok (.sipush 260, 3) := by decide +kernel
theorem dX11_init_156 : decode cX11_init 156 = .ok (.newarray .int, 2) := by decide +kernel
theorem dX11_init_158 : decode cX11_init 158 = .ok (.putfield 65, 3) := by decide +kernel
theorem dX11_init_161 : decode cX11_init 161 = .ok (.aload_n 0, 1) := by decide +kernel
theorem dX11_init_162 : decode cX11_init 162 = .ok (.bipush 10, 2) := by decide +kernel
theorem dX11_init_164 : decode cX11_init 164 = .ok (.newarray .int, 2) := by decide +kernel
theorem dX11_init_166 : decode cX11_init 166 = .ok (.putfield 68, 3) := by decide +kernel
theorem dX11_init_169 : decode cX11_init 169 = .ok (.aload_n 0, 1) := by decide +kernel
theorem dX11_init_170 : decode cX11_init 170 = .ok (.bipush 12, 2) := by decide +kernel
theorem dX11_init_172 : decode cX11_init 172 = .ok (.newarray .int, 2) := by decide +kernel
theorem dX11_init_174 : decode cX11_init 174 = .ok (.putfield 71, 3) := by decide +kernel
theorem dX11_init_177 : decode cX11_init 177 = .ok (.aload_n 0, 1) := by decide +kernel
theorem dX11_init_178 : decode cX11_init 178 = .ok (.bipush 12, 2) := by decide +kernel
theorem dX11_init_180 : decode cX11_init 180 = .ok (.newarray .int, 2) := by decide +kernel
theorem dX11_init_182 : decode cX11_init 182 = .ok (.putfield 74, 3) := by decide +kernel
theorem dX11_init_185 : decode cX11_init 185 = .ok (.aload_n 0, 1) := by decide +kernel
theorem dX11_init_186 : decode cX11_init 186 = .ok (.bipush 24, 2) := by decide +kernel
theorem dX11_init_188 : decode cX11_init 188 = .ok (.newarray .int, 2) := by decide +kernel
theorem dX11_init_190 : decode cX11_init 190 = .ok (.putfield 77, 3) := by decide +kernel
theorem dX11_init_193 : decode cX11_init 193 = .ok (.aload_n 0, 1) := by decide +kernel
theorem dX11_init_194 : decode cX11_init 194 = .ok (.bipush 24, 2) := by decide +kernel
theorem dX11_init_196 : decode cX11_init 196 = .ok (.newarray .int, 2) := by decide +kernel
theorem dX11_init_198 : decode cX11_init 198 = .ok (.putfield 80, 3) := by decide +kernel
theorem dX11_init_201 : decode cX11_init 201 = .ok (.aload_n 0, 1) := by decide +kernel
theorem dX11_init_202 : decode cX11_init 202 = .ok (.bipush 24, 2) := by decide +kernel
theorem dX11_init_204 : decode cX11_init 204 = .ok (.newarray .int, 2) := by decide +kernel
theorem dX11_init_206 : decode cX11_init 206 = .ok (.putfield 83, 3) := by decide +kernel
theorem dX11_init_209 : decode cX11_init 209 = .ok (.aload_n 0, 1) := by decide +kernel
theorem dX11_init_210 : decode cX11_init 210 = .ok (.sipush 1024, 3) := by decide +kernel
theorem dX11_init_213 : decode cX11_init 213 = .ok (.newarray .int, 2) := by decide +kernel
theorem dX11_init_215 : decode cX11_init 215 = .ok (.putfield 86, 3) := by decide +kernel
theorem dX11_init_218 : decode cX11_init 218 = .ok (.aload_n 0, 1) := by decide +kernel
theorem dX11_init_219 : decode cX11_init 219 = .ok (.sipush 1024, 3) := by decide +kernel
theorem dX11_init_222 : decode cX11_init 222 = .ok (.newarray .int, 2) := by decide +kernel
theorem dX11_init_224 : decode cX11_init 224 = .ok (.putfield 89, 3) := by decide +kernel
theorem dX11_init_227 : decode cX11_init 227 = .ok (.aload_n 0, 1) := by decide +kernel
theorem dX11_init_228 : decode cX11_init 228 = .ok (.bipush 64, 2) := by decide +kernel
theorem dX11_init_230 : decode cX11_init 230 = .ok (.newarray .int, 2) := by decide +kernel
theorem dX11_init_232 : decode cX11_init 232 = .ok (.putfield 92, 3) := by decide +kernel
theorem dX11_init_235 : decode cX11_init 235 = .ok (.aload_n 0, 1) := by decide +kernel
theorem dX11_init_236 : decode cX11_init 236 = .ok (.iconst 2, 1) := by decide +kernel
theorem dX11_init_237 : decode cX11_init 237 = .ok (.newarray .int, 2) := by decide +kernel
theorem dX11_init_239 : decode cX11_init 239 = .ok (.putfield 95, 3) := by decide +kernel
theorem dX11_init_242 : decode cX11_init 242 = .ok (.aload_n 0, 1) := by decide +kernel
theorem dX11_init_243 : decode cX11_init 243 = .ok (.iconst 2, 1) := by decide +kernel
theorem dX11_init_244 : decode cX11_init 244 = .ok (.newarray .int, 2) := by decide +kernel
theorem dX11_init_246 : decode cX11_init 246 = .ok (.putfield 98, 3) := by decide +kernel
theorem dX11_init_249 : decode cX11_init 249 = .ok (.aload_n 0, 1) := by decide +kernel
theorem dX11_init_250 : decode cX11_init 250 = .ok (.iconst 2, 1) := by decide +kernel
theorem dX11_init_251 : decode cX11_init 251 = .ok (.newarray .int, 2) := by decide +kernel
theorem dX11_init_253 : decode cX11_init 253 = .ok (.putfield 101, 3) := by decide +kernel
theorem dX11_init_256 : decode cX11_init 256 = .ok (.aload_n 0, 1) := by decide +kernel
theorem dX11_init_257 : decode cX11_init 257 = .ok (.sipush 256, 3) := by decide +kernel
theorem dX11_init_260 : decode cX11_init 260 = .ok (.newarray .int, 2) := by decide +kernel
theorem dX11_init_262 : decode cX11_init 262 = .ok (.putfield 104, 3) := by decide +kernel
theorem dX11_init_265 : decode cX11_init 265 = .ok (.aload_n 0, 1) := by decide +kernel
theorem dX11_init_266 : decode cX11_init 266 = .ok (.sipush 256, 3) := by decide +kernel
theorem dX11_init_269 : decode cX11_init 269 = .ok (.newarray .int, 2) := by decide +kernel
theorem dX11_init_271 : decode cX11_init 271 = .ok (.putfield 107, 3) := by decide +kernel
theorem dX11_init_274 : decode cX11_init 274 = .ok (.aload_n 0, 1) := by decide +kernel
theorem dX11_init_275 : decode cX11_init 275 = .ok (.bipush 20, 2) := by decide +kernel
theorem dX11_init_277 : decode cX11_init 277 = .ok (.newarray .int, 2) := by decide +kernel
theorem dX11_init_279 : decode cX11_init 279 = .ok (.putfield 110, 3) := by decide +kernel
theorem dX11_init_282 : decode cX11_init 282 = .ok (.aload_n 0, 1) := by decide +kernel
theorem dX11_init_283 : decode cX11_init 283 = .ok (.sipush 256, 3) := by decide +kernel
theorem dX11_init_286 : decode cX11_init 286 = .ok (.newarray .int, 2) := by decide +kernel
theorem dX11_init_288 : decode cX11_init 288 = .ok (.putfield 113, 3) := by decide +kernel
theorem dX11_init_291 : decode cX11_init 291 = .ok (.aload_n 0, 1) := by decide +kernel
theorem dX11_init_292 : decode cX11_init 292 = .ok (.sipush 256, 3) := by decide +kernel
theorem dX11_init_295 : decode cX11_init 295 = .ok (.newarray .int, 2) := by decide +kernel
theorem dX11_init_297 : decode cX11_init 297 = .ok (.putfield 116, 3) := by decide +kernel
theorem dX11_init_300 : decode cX11_init 300 = .ok (.aload_n 0, 1) := by decide +kernel
theorem dX11_init_301 : decode cX11_init 301 = .ok (.bipush 16, 2) := by decide +kernel
theorem dX11_init_303 : decode cX11_init 303 = .ok (.newarray .int, 2) := by decide +kernel
theorem dX11_init_305 : decode cX11_init 305 = .ok (.putfield 119, 3) := by decide +kernel
theorem dX11_init_308 : decode cX11_init 308 = .ok (.aload_n 0, 1) := by decide +kernel
theorem dX11_init_309 : decode cX11_init 309 = .ok (.bipush 16, 2) := by decide +kernel
theorem dX11_init_311 : decode cX11_init 311 = .ok (.newarray .int, 2) := by decide +kernel
theorem dX11_init_313 : decode cX11_init 313 = .ok (.putfield 122, 3) := by decide +kernel
theorem dX11_init_316 : decode cX11_init 316 = .ok (.aload_n 0, 1) := by decide +kernel
theorem dX11_init_317 : decode cX11_init 317 = .ok (.getfield 7, 3) := by decide +kernel
theorem dX11_init_320 : decode cX11_init 320 = .ok (.bipush 73, 2) := by decide +kernel
theorem dX11_init_322 : decode cX11_init 322 = .ok (.iconst 1, 1) := by decide +kernel
theorem dX11_init_323 : decode cX11_init 323 = .ok (.iastore, 1) := by decide +kernel
theorem dX11_init_324 : decode cX11_init 324 = .ok (.return_, 1) := by decide +kernel
theorem dX11_in_0 : decode cX11_in 0 = .ok (.iload_n 0, 1) := by decide +kernel
theorem dX11_in_1 : decode cX11_in 1 = .ok (.iload_n 1, 1) := by decide +kernel
theorem dX11_in_2 : decode cX11_in 2 = .ok (.if_icmp .lt 12, 3) := by decide +kernel
theorem dX11_in_5 : decode cX11_in 5 = .ok (.iload_n 0, 1) := by decide +kernel
theorem dX11_in_6 : decode cX11_in 6 = .ok (.iload_n 2, 1) := by decide +kernel
theorem dX11_in_7 : decode cX11_in 7 = .ok (.if_icmp .gt 7, 3) := by decide +kernel
theorem dX11_in_10 : decode cX11_in 10 = .ok (.iconst 1, 1) := by decide +kernel
theorem dX11_in_11 : decode cX11_in 11 = .ok (.goto 4, 3) := by decide +kernel
theorem dX11_in_14 : decode cX11_in 14 = .ok (.iconst 0, 1) := by decide +kernel
theorem dX11_in_15 : decode cX11_in 15 = .ok (.ireturn, 1) := by decide +kernel
theorem dX11_min_0 : decode cX11_min 0 = .ok (.iload_n 0, 1) := by decide +kernel
theorem dX11_min_1 : decode cX11_min 1 = .ok (.iload_n 1, 1) := by decide +kernel
theorem dX11_min_2 : decode cX11_min 2 = .ok (.if_icmp .ge 7, 3) := by decide +kernel
theorem dX11_min_5 : decode cX11_min 5 = .ok (.iload_n 0, 1) := by decide +kernel
theorem dX11_min_6 : decode cX11_min 6 = .ok (.goto 4, 3) := by decide +kernel
theorem dX11_min_9 : decode cX11_min 9 = .ok (.iload_n 1, 1) := by decide +kernel
theorem dX11_min_10 : decode cX11_min 10 = .ok (.ireturn, 1) := by decide +kernel
theorem dX11_max_0 : decode cX11_max 0 = .ok (.iload_n 0, 1) := by decide +kernel
theorem dX11_max_1 : decode cX11_max 1 = .ok (.iload_n 1, 1) := by decide +kernel
theorem dX11_max_2 : decode cX11_max 2 = .ok (.if_icmp .le 7, 3) := by decide +kernel
theorem dX11_max_5 : decode cX11_max 5 = .ok (.iload_n 0, 1) := by decide +kernel
theorem dX11_max_6 : decode cX11_max 6 = .ok (.goto 4, 3) := by decide +kernel
theorem dX11_max_9 : decode cX11_max 9 = .ok (.iload_n 1, 1) := by decide +kernel
theorem dX11_max_10 : decode cX11_max 10 = .ok (.ireturn, 1) := by decide +kernel
theorem dX11_has_0 : decode cX11_has 0 = .ok (.iload_n 0, 1) := by decide +kernel
theorem dX11_has_1 : decode cX11_has 1 = .ok (.iload_n 1, 1) := by decide +kernel
theorem dX11_has_2 : decode cX11_has 2 = .ok (.ishr, 1) := by decide +kernel
theorem dX11_has_3 : decode cX11_has 3 = .ok (.iconst 1, 1) := by decide +kernel
theorem dX11_has_4 : decode cX11_has 4 = .ok (.iand, 1) := by decide +kernel
theorem dX11_has_5 : decode cX11_has 5 = .ok (.iconst 1, 1) := by decide +kernel
theorem dX11_has_6 : decode cX11_has 6 = .ok (.if_icmp .ne 7, 3) := by decide +kernel
theorem dX11_has_9 : decode cX11_has 9 = .ok (.iconst 1, 1) := by decide +kernel
theorem dX11_has_10 : decode cX11_has 10 = .ok (.goto 4, 3) := by decide +kernel
theorem dX11_has_13 : decode cX11_has 13 = .ok (.iconst 0, 1) := by decide +kernel
theorem dX11_has_14 : decode cX11_has 14 = .ok (.ireturn, 1) := by decide +kernel
theorem dX11_bits_0 : decode cX11_bits 0 = .ok (.iconst 0, 1) := by decide +kernel
theorem dX11_bits_1 : decode cX11_bits 1 = .ok (.istore_n 1, 1) := by decide +kernel
theorem dX11_bits_2 : decode cX11_bits 2 = .ok (.iconst 0, 1) := by decide +kernel
theorem dX11_bits_3 : decode cX11_bits 3 = .ok (.istore_n 2, 1) := by decide +kernel
theorem dX11_bits_4 : decode cX11_bits 4 = .ok (.iload_n 2, 1) := by decide +kernel
theorem dX11_bits_5 : decode cX11_bits 5 = .ok (.bipush 24, 2) := by decide +kernel
theorem dX11_bits_7 : decode cX11_bits 7 = .ok (.if_icmp .ge 17, 3) := by decide +kernel
theorem dX11_bits_10 : decode cX11_bits 10 = .ok (.iload_n 1, 1) := by decide +kernel
theorem dX11_bits_11 : decode cX11_bits 11 = .ok (.iload_n 0, 1) := by decide +kernel
theorem dX11_bits_12 : decode cX11_bits 12 = .ok (.iload_n 2, 1) := by decide +kernel
theorem dX11_bits_13 : decode cX11_bits 13 = .ok (.ishr, 1) := by decide +kernel
theorem dX11_bits_14 : decode cX11_bits 14 = .ok (.iconst 1, 1) := by decide +kernel
theorem dX11_bits_15 : decode cX11_bits 15 = .ok (.iand, 1) := by decide +kernel
theorem dX11_bits_16 : decode cX11_bits 16 = .ok (.iadd, 1) := by decide +kernel
theorem dX11_bits_17 : decode cX11_bits 17 = .ok (.istore_n 1, 1) := by decide +kernel
theorem dX11_bits_18 : decode cX11_bits 18 = .ok (.iinc 2 1, 3) := by decide +kernel
theorem dX11_bits_21 : decode cX11_bits 21 = .ok (.goto (-17), 3) := by decide +kernel
theorem dX11_bits_24 : decode cX11_bits 24 = .ok (.iload_n 1, 1) := by decide +kernel
theorem dX11_bits_25 : decode cX11_bits 25 = .ok (.ireturn, 1) := by decide +kernel
theorem dX11_copies_0 : decode cX11_copies 0 = .ok (.iconst 0, 1) := by decide +kernel
theorem dX11_copies_1 : decode cX11_copies 1 = .ok (.istore_n 2, 1) := by decide +kernel
theorem dX11_copies_2 : decode cX11_copies 2 = .ok (.iload_n 2, 1) := by decide +kernel
theorem dX11_copies_3 : decode cX11_copies 3 = .ok (.bipush 74, 2) := by decide +kernel
theorem dX11_copies_5 : decode cX11_copies 5 = .ok (.if_icmp .ge 15, 3) := by decide +kernel
theorem dX11_copies_8 : decode cX11_copies 8 = .ok (.aload_n 1, 1) := by decide +kernel
theorem dX11_copies_9 : decode cX11_copies 9 = .ok (.iload_n 2, 1) := by decide +kernel
theorem dX11_copies_10 : decode cX11_copies 10 = .ok (.aload_n 0, 1) := by decide +kernel
theorem dX11_copies_11 : decode cX11_copies 11 = .ok (.iload_n 2, 1) := by decide +kernel
theorem dX11_copies_12 : decode cX11_copies 12 = .ok (.iaload, 1) := by decide +kernel
theorem dX11_copies_13 : decode cX11_copies 13 = .ok (.iastore, 1) := by decide +kernel
theorem dX11_copies_14 : decode cX11_copies 14 = .ok (.iinc 2 1, 3) := by decide +kernel
theorem dX11_copies_17 : decode cX11_copies 17 = .ok (.goto (-15), 3) := by decide +kernel
theorem dX11_copies_20 : decode cX11_copies 20 = .ok (.return_, 1) := by decide +kernel
theorem dX11_isDrawer_0 : decode cX11_isDrawer 0 = .ok (.iload_n 1, 1) := by decide +kernel
theorem dX11_isDrawer_1 : decode cX11_isDrawer 1 = .ok (.iconst 0, 1) := by decide +kernel
theorem dX11_isDrawer_2 : decode cX11_isDrawer 2 = .ok (.bipush 11, 2) := by decide +kernel
theorem dX11_isDrawer_4 : decode cX11_isDrawer 4 = .ok (.invokestatic 125, 3) := by decide +kernel
theorem dX11_isDrawer_7 : decode cX11_isDrawer 7 = .ok (.ifCond .eq 18, 3) := by decide +kernel
theorem dX11_isDrawer_10 : decode cX11_isDrawer 10 = .ok (.aload_n 0, 1) := by decide +kernel
theorem dX11_isDrawer_11 : decode cX11_isDrawer 11 = .ok (.getfield 129, 3) := by decide +kernel
theorem dX11_isDrawer_14 : decode cX11_isDrawer 14 = .ok (.iload_n 1, 1) := by decide +kernel
theorem dX11_isDrawer_15 : decode cX11_isDrawer 15 = .ok (.invokestatic 133, 3) := by decide +kernel
theorem dX11_isDrawer_18 : decode cX11_isDrawer 18 = .ok (.ifCond .eq 7, 3) := by decide +kernel
theorem dX11_isDrawer_21 : decode cX11_isDrawer 21 = .ok (.iconst 1, 1) := by decide +kernel
theorem dX11_isDrawer_22 : decode cX11_isDrawer 22 = .ok (.goto 4, 3) := by decide +kernel
theorem dX11_isDrawer_25 : decode cX11_isDrawer 25 = .ok (.iconst 0, 1) := by decide +kernel
theorem dX11_isDrawer_26 : decode cX11_isDrawer 26 = .ok (.ireturn, 1) := by decide +kernel
theorem dX11_isPaper_0 : decode cX11_isPaper 0 = .ok (.iload_n 1, 1) := by decide +kernel
theorem dX11_isPaper_1 : decode cX11_isPaper 1 = .ok (.iconst 0, 1) := by decide +kernel
theorem dX11_isPaper_2 : decode cX11_isPaper 2 = .ok (.aload_n 0, 1) := by decide +kernel
theorem dX11_isPaper_3 : decode cX11_isPaper 3 = .ok (.getfield 137, 3) := by decide +kernel
theorem dX11_isPaper_6 : decode cX11_isPaper 6 = .ok (.iconst 1, 1) := by decide +kernel
theorem dX11_isPaper_7 : decode cX11_isPaper 7 = .ok (.isub, 1) := by decide +kernel
theorem dX11_isPaper_8 : decode cX11_isPaper 8 = .ok (.invokestatic 125, 3) := by decide +kernel
theorem dX11_isPaper_11 : decode cX11_isPaper 11 = .ok (.ireturn, 1) := by decide +kernel
theorem dX11_papersIn_0 : decode cX11_papersIn 0 = .ok (.iconst 0, 1) := by decide +kernel
theorem dX11_papersIn_1 : decode cX11_papersIn 1 = .ok (.istore_n 2, 1) := by decide +kernel
theorem dX11_papersIn_2 : decode cX11_papersIn 2 = .ok (.iconst 0, 1) := by decide +kernel
theorem dX11_papersIn_3 : decode cX11_papersIn 3 = .ok (.istore_n 3, 1) := by decide +kernel
theorem dX11_papersIn_4 : decode cX11_papersIn 4 = .ok (.iload_n 3, 1) := by decide +kernel
theorem dX11_papersIn_5 : decode cX11_papersIn 5 = .ok (.aload_n 0, 1) := by decide +kernel
theorem dX11_papersIn_6 : decode cX11_papersIn 6 = .ok (.getfield 137, 3) := by decide +kernel
theorem dX11_papersIn_9 : decode cX11_papersIn 9 = .ok (.if_icmp .ge 27, 3) := by decide +kernel
theorem dX11_papersIn_12 : decode cX11_papersIn 12 = .ok (.aload_n 0, 1) := by decide +kernel
theorem dX11_papersIn_13 : decode cX11_papersIn 13 = .ok (.getfield 7, 3) := by decide +kernel
theorem dX11_papersIn_16 : decode cX11_papersIn 16 = .ok (.iconst 0, 1) := by decide +kernel
theorem dX11_papersIn_17 : decode cX11_papersIn 17 = .ok (.iload_n 3, 1) := by decide +kernel
theorem dX11_papersIn_18 : decode cX11_papersIn 18 = .ok (.iadd, 1) := by decide +kernel
theorem dX11_papersIn_19 : decode cX11_papersIn 19 = .ok (.iaload, 1) := by decide +kernel
theorem dX11_papersIn_20 : decode cX11_papersIn 20 = .ok (.iload_n 1, 1) := by decide +kernel
theorem dX11_papersIn_21 : decode cX11_papersIn 21 = .ok (.if_icmp .ne 9, 3) := by decide +kernel
theorem dX11_papersIn_24 : decode cX11_papersIn 24 = .ok (.iload_n 2, 1) := by decide +kernel
theorem dX11_papersIn_25 : decode cX11_papersIn 25 = .ok (.iconst 1, 1) := by decide +kernel
theorem dX11_papersIn_26 : decode cX11_papersIn 26 = .ok (.iload_n 3, 1) := by decide +kernel
theorem dX11_papersIn_27 : decode cX11_papersIn 27 = .ok (.ishl, 1) := by decide +kernel
theorem dX11_papersIn_28 : decode cX11_papersIn 28 = .ok (.ior, 1) := by decide +kernel
theorem dX11_papersIn_29 : decode cX11_papersIn 29 = .ok (.istore_n 2, 1) := by decide +kernel
theorem dX11_papersIn_30 : decode cX11_papersIn 30 = .ok (.iinc 3 1, 3) := by decide +kernel
theorem dX11_papersIn_33 : decode cX11_papersIn 33 = .ok (.goto (-29), 3) := by decide +kernel
theorem dX11_papersIn_36 : decode cX11_papersIn 36 = .ok (.iload_n 2, 1) := by decide +kernel
theorem dX11_papersIn_37 : decode cX11_papersIn 37 = .ok (.ireturn, 1) := by decide +kernel
theorem dX11_fullOf_0 : decode cX11_fullOf 0 = .ok (.iconst 0, 1) := by decide +kernel
theorem dX11_fullOf_1 : decode cX11_fullOf 1 = .ok (.istore_n 2, 1) := by decide +kernel
theorem dX11_fullOf_2 : decode cX11_fullOf 2 = .ok (.iconst 0, 1) := by decide +kernel
theorem dX11_fullOf_3 : decode cX11_fullOf 3 = .ok (.istore_n 3, 1) := by decide +kernel
theorem dX11_fullOf_4 : decode cX11_fullOf 4 = .ok (.iload_n 3, 1) := by decide +kernel
theorem dX11_fullOf_5 : decode cX11_fullOf 5 = .ok (.aload_n 0, 1) := by decide +kernel
theorem dX11_fullOf_6 : decode cX11_fullOf 6 = .ok (.getfield 137, 3) := by decide +kernel
theorem dX11_fullOf_9 : decode cX11_fullOf 9 = .ok (.if_icmp .ge 30, 3) := by decide +kernel
theorem dX11_fullOf_12 : decode cX11_fullOf 12 = .ok (.aload_n 0, 1) := by decide +kernel
theorem dX11_fullOf_13 : decode cX11_fullOf 13 = .ok (.getfield 7, 3) := by decide +kernel
theorem dX11_fullOf_16 : decode cX11_fullOf 16 = .ok (.iconst 0, 1) := by decide +kernel
theorem dX11_fullOf_17 : decode cX11_fullOf 17 = .ok (.iload_n 3, 1) := by decide +kernel
theorem dX11_fullOf_18 : decode cX11_fullOf 18 = .ok (.iadd, 1) := by decide +kernel
theorem dX11_fullOf_19 : decode cX11_fullOf 19 = .ok (.iaload, 1) := by decide +kernel
theorem dX11_fullOf_20 : decode cX11_fullOf 20 = .ok (.iload_n 1, 1) := by decide +kernel
theorem dX11_fullOf_21 : decode cX11_fullOf 21 = .ok (.if_icmp .ne 12, 3) := by decide +kernel
theorem dX11_fullOf_24 : decode cX11_fullOf 24 = .ok (.iload_n 2, 1) := by decide +kernel
theorem dX11_fullOf_25 : decode cX11_fullOf 25 = .ok (.aload_n 0, 1) := by decide +kernel
theorem dX11_fullOf_26 : decode cX11_fullOf 26 = .ok (.getfield 25, 3) := by decide +kernel
theorem dX11_fullOf_29 : decode cX11_fullOf 29 = .ok (.iload_n 3, 1) := by decide +kernel
theorem dX11_fullOf_30 : decode cX11_fullOf 30 = .ok (.iaload, 1) := by decide +kernel
theorem dX11_fullOf_31 : decode cX11_fullOf 31 = .ok (.iadd, 1) := by decide +kernel
theorem dX11_fullOf_32 : decode cX11_fullOf 32 = .ok (.istore_n 2, 1) := by decide +kernel
theorem dX11_fullOf_33 : decode cX11_fullOf 33 = .ok (.iinc 3 1, 3) := by decide +kernel
theorem dX11_fullOf_36 : decode cX11_fullOf 36 = .ok (.goto (-32), 3) := by decide +kernel
theorem dX11_fullOf_39 : decode cX11_fullOf 39 = .ok (.iload_n 2, 1) := by decide +kernel
theorem dX11_fullOf_40 : decode cX11_fullOf 40 = .ok (.ireturn, 1) := by decide +kernel
theorem dX11_roomLeft_0 : decode cX11_roomLeft 0 = .ok (.aload_n 0, 1) := by decide +kernel
theorem dX11_roomLeft_1 : decode cX11_roomLeft 1 = .ok (.getfield 19, 3) := by decide +kernel
theorem dX11_roomLeft_4 : decode cX11_roomLeft 4 = .ok (.iload_n 1, 1) := by decide +kernel
theorem dX11_roomLeft_5 : decode cX11_roomLeft 5 = .ok (.iaload, 1) := by decide +kernel
theorem dX11_roomLeft_6 : decode cX11_roomLeft 6 = .ok (.aload_n 0, 1) := by decide +kernel
theorem dX11_roomLeft_7 : decode cX11_roomLeft 7 = .ok (.iload_n 1, 1) := by decide +kernel
theorem dX11_roomLeft_8 : decode cX11_roomLeft 8 = .ok (.invokevirtual 140, 3) := by decide +kernel
theorem dX11_roomLeft_11 : decode cX11_roomLeft 11 = .ok (.isub, 1) := by decide +kernel
theorem dX11_roomLeft_12 : decode cX11_roomLeft 12 = .ok (.ireturn, 1) := by decide +kernel
theorem dX11_takesOut_0 : decode cX11_takesOut 0 = .ok (.aload_n 0, 1) := by decide +kernel
theorem dX11_takesOut_1 : decode cX11_takesOut 1 = .ok (.getfield 7, 3) := by decide +kernel
theorem dX11_takesOut_4 : decode cX11_takesOut 4 = .ok (.iconst 0, 1) := by decide +kernel
theorem dX11_takesOut_5 : decode cX11_takesOut 5 = .ok (.iload_n 1, 1) := by decide +kernel
theorem dX11_takesOut_6 : decode cX11_takesOut 6 = .ok (.iadd, 1) := by decide +kernel
theorem dX11_takesOut_7 : decode cX11_takesOut 7 = .ok (.iconst (-1), 1) := by decide +kernel
theorem dX11_takesOut_8 : decode cX11_takesOut 8 = .ok (.iastore, 1) := by decide +kernel
theorem dX11_takesOut_9 : decode cX11_takesOut 9 = .ok (.aload_n 0, 1) := by decide +kernel
theorem dX11_takesOut_10 : decode cX11_takesOut 10 = .ok (.getfield 7, 3) := by decide +kernel
theorem dX11_takesOut_13 : decode cX11_takesOut 13 = .ok (.bipush 24, 2) := by decide +kernel
theorem dX11_takesOut_15 : decode cX11_takesOut 15 = .ok (.iload_n 1, 1) := by decide +kernel
theorem dX11_takesOut_16 : decode cX11_takesOut 16 = .ok (.iadd, 1) := by decide +kernel
theorem dX11_takesOut_17 : decode cX11_takesOut 17 = .ok (.iconst 0, 1) := by decide +kernel
theorem dX11_takesOut_18 : decode cX11_takesOut 18 = .ok (.iastore, 1) := by decide +kernel
theorem dX11_takesOut_19 : decode cX11_takesOut 19 = .ok (.aload_n 0, 1) := by decide +kernel
theorem dX11_takesOut_20 : decode cX11_takesOut 20 = .ok (.getfield 7, 3) := by decide +kernel
theorem dX11_takesOut_23 : decode cX11_takesOut 23 = .ok (.bipush 48, 2) := by decide +kernel
theorem dX11_takesOut_25 : decode cX11_takesOut 25 = .ok (.iload_n 1, 1) := by decide +kernel
theorem dX11_takesOut_26 : decode cX11_takesOut 26 = .ok (.iadd, 1) := by decide +kernel
theorem dX11_takesOut_27 : decode cX11_takesOut 27 = .ok (.iconst 0, 1) := by decide +kernel
theorem dX11_takesOut_28 : decode cX11_takesOut 28 = .ok (.iastore, 1) := by decide +kernel
theorem dX11_takesOut_29 : decode cX11_takesOut 29 = .ok (.return_, 1) := by decide +kernel
theorem dX11_put_0 : decode cX11_put 0 = .ok (.aload_n 0, 1) := by decide +kernel
theorem dX11_put_1 : decode cX11_put 1 = .ok (.iload_n 1, 1) := by decide +kernel
theorem dX11_put_2 : decode cX11_put 2 = .ok (.invokevirtual 144, 3) := by decide +kernel
theorem dX11_put_5 : decode cX11_put 5 = .ok (.ifCond .ne 5, 3) := by decide +kernel
theorem dX11_put_8 : decode cX11_put 8 = .ok (.iconst 0, 1) := by decide +kernel
theorem dX11_put_9 : decode cX11_put 9 = .ok (.ireturn, 1) := by decide +kernel
theorem dX11_put_10 : decode cX11_put 10 = .ok (.iload_n 2, 1) := by decide +kernel
theorem dX11_put_11 : decode cX11_put 11 = .ok (.iconst (-1), 1) := by decide +kernel
theorem dX11_put_12 : decode cX11_put 12 = .ok (.if_icmp .ne 10, 3) := by decide +kernel
theorem dX11_put_15 : decode cX11_put 15 = .ok (.aload_n 0, 1) := by decide +kernel
theorem dX11_put_16 : decode cX11_put 16 = .ok (.iload_n 1, 1) := by decide +kernel
theorem dX11_put_17 : decode cX11_put 17 = .ok (.invokevirtual 148, 3) := by decide +kernel
theorem dX11_put_20 : decode cX11_put 20 = .ok (.iconst 1, 1) := by decide +kernel
theorem dX11_put_21 : decode cX11_put 21 = .ok (.ireturn, 1) := by decide +kernel
theorem dX11_put_22 : decode cX11_put 22 = .ok (.aload_n 0, 1) := by decide +kernel
theorem dX11_put_23 : decode cX11_put 23 = .ok (.iload_n 2, 1) := by decide +kernel
theorem dX11_put_24 : decode cX11_put 24 = .ok (.invokevirtual 152, 3) := by decide +kernel
theorem dX11_put_27 : decode cX11_put 27 = .ok (.ifCond .ne 5, 3) := by decide +kernel
theorem dX11_put_30 : decode cX11_put 30 = .ok (.iconst 0, 1) := by decide +kernel
theorem dX11_put_31 : decode cX11_put 31 = .ok (.ireturn, 1) := by decide +kernel
theorem dX11_put_32 : decode cX11_put 32 = .ok (.aload_n 0, 1) := by decide +kernel
theorem dX11_put_33 : decode cX11_put 33 = .ok (.getfield 7, 3) := by decide +kernel
theorem dX11_put_36 : decode cX11_put 36 = .ok (.iconst 0, 1) := by decide +kernel
theorem dX11_put_37 : decode cX11_put 37 = .ok (.iload_n 1, 1) := by decide +kernel
theorem dX11_put_38 : decode cX11_put 38 = .ok (.iadd, 1) := by decide +kernel
theorem dX11_put_39 : decode cX11_put 39 = .ok (.iaload, 1) := by decide +kernel
theorem dX11_put_40 : decode cX11_put 40 = .ok (.iload_n 2, 1) := by decide +kernel
theorem dX11_put_41 : decode cX11_put 41 = .ok (.if_icmp .ne 5, 3) := by decide +kernel
theorem dX11_put_44 : decode cX11_put 44 = .ok (.iconst 1, 1) := by decide +kernel
theorem dX11_put_45 : decode cX11_put 45 = .ok (.ireturn, 1) := by decide +kernel
theorem dX11_put_46 : decode cX11_put 46 = .ok (.aload_n 0, 1) := by decide +kernel
theorem dX11_put_47 : decode cX11_put 47 = .ok (.iload_n 2, 1) := by decide +kernel
theorem dX11_put_48 : decode cX11_put 48 = .ok (.invokevirtual 155, 3) := by decide +kernel
theorem dX11_put_51 : decode cX11_put 51 = .ok (.aload_n 0, 1) := by decide +kernel
theorem dX11_put_52 : decode cX11_put 52 = .ok (.getfield 25, 3) := by decide +kernel
theorem dX11_put_55 : decode cX11_put 55 = .ok (.iload_n 1, 1) := by decide +kernel
theorem dX11_put_56 : decode cX11_put 56 = .ok (.iaload, 1) := by decide +kernel
theorem dX11_put_57 : decode cX11_put 57 = .ok (.if_icmp .ge 5, 3) := by decide +kernel
theorem dX11_put_60 : decode cX11_put 60 = .ok (.iconst 0, 1) := by decide +kernel
theorem dX11_put_61 : decode cX11_put 61 = .ok (.ireturn, 1) := by decide +kernel
theorem dX11_put_62 : decode cX11_put 62 = .ok (.aload_n 0, 1) := by decide +kernel
theorem dX11_put_63 : decode cX11_put 63 = .ok (.getfield 7, 3) := by decide +kernel
theorem dX11_put_66 : decode cX11_put 66 = .ok (.iconst 0, 1) := by decide +kernel
theorem dX11_put_67 : decode cX11_put 67 = .ok (.iload_n 1, 1) := by decide +kernel
theorem dX11_put_68 : decode cX11_put 68 = .ok (.iadd, 1) := by decide +kernel
theorem dX11_put_69 : decode cX11_put 69 = .ok (.iload_n 2, 1) := by decide +kernel
theorem dX11_put_70 : decode cX11_put 70 = .ok (.iastore, 1) := by decide +kernel
theorem dX11_put_71 : decode cX11_put 71 = .ok (.aload_n 0, 1) := by decide +kernel
theorem dX11_put_72 : decode cX11_put 72 = .ok (.getfield 7, 3) := by decide +kernel
theorem dX11_put_75 : decode cX11_put 75 = .ok (.bipush 48, 2) := by decide +kernel
theorem dX11_put_77 : decode cX11_put 77 = .ok (.iload_n 1, 1) := by decide +kernel
theorem dX11_put_78 : decode cX11_put 78 = .ok (.iadd, 1) := by decide +kernel
theorem dX11_put_79 : decode cX11_put 79 = .ok (.iconst 0, 1) := by decide +kernel
theorem dX11_put_80 : decode cX11_put 80 = .ok (.iastore, 1) := by decide +kernel
theorem dX11_put_81 : decode cX11_put 81 = .ok (.iconst 1, 1) := by decide +kernel
theorem dX11_put_82 : decode cX11_put 82 = .ok (.ireturn, 1) := by decide +kernel
theorem dX11_types_0 : decode cX11_types 0 = .ok (.iconst 3, 1) := by decide +kernel
theorem dX11_types_1 : decode cX11_types 1 = .ok (.istore_n 2, 1) := by decide +kernel
theorem dX11_types_2 : decode cX11_types 2 = .ok (.iload_n 2, 1) := by decide +kernel
theorem dX11_types_3 : decode cX11_types 3 = .ok (.ifCond .lt 35, 3) := by decide +kernel
theorem dX11_types_6 : decode cX11_types 6 = .ok (.aload_n 0, 1) := by decide +kernel
theorem dX11_types_7 : decode cX11_types 7 = .ok (.getfield 28, 3) := by decide +kernel
theorem dX11_types_10 : decode cX11_types 10 = .ok (.aload_n 0, 1) := by decide +kernel
theorem dX11_types_11 : decode cX11_types 11 = .ok (.getfield 158, 3) := by decide +kernel
theorem dX11_types_14 : decode cX11_types 14 = .ok (.iload_n 1, 1) := by decide +kernel
theorem dX11_types_15 : decode cX11_types 15 = .ok (.bipush 8, 2) := by decide +kernel
theorem dX11_types_17 : decode cX11_types 17 = .ok (.iload_n 2, 1) := by decide +kernel
theorem dX11_types_18 : decode cX11_types 18 = .ok (.imul, 1) := by decide +kernel
theorem dX11_types_19 : decode cX11_types 19 = .ok (.ishr, 1) := by decide +kernel
theorem dX11_types_20 : decode cX11_types 20 = .ok (.i2b, 1) := by decide +kernel
theorem dX11_types_21 : decode cX11_types 21 = .ok (.bastore, 1) := by decide +kernel
theorem dX11_types_22 : decode cX11_types 22 = .ok (.aload_n 0, 1) := by decide +kernel
theorem dX11_types_23 : decode cX11_types 23 = .ok (.aload_n 0, 1) := by decide +kernel
theorem dX11_types_24 : decode cX11_types 24 = .ok (.getfield 158, 3) := by decide +kernel
theorem dX11_types_27 : decode cX11_types 27 = .ok (.iconst 1, 1) := by decide +kernel
theorem dX11_types_28 : decode cX11_types 28 = .ok (.iadd, 1) := by decide +kernel
theorem dX11_types_29 : decode cX11_types 29 = .ok (.putfield 158, 3) := by decide +kernel
theorem dX11_types_32 : decode cX11_types 32 = .ok (.iinc 2 (-1), 3) := by decide +kernel
theorem dX11_types_35 : decode cX11_types 35 = .ok (.goto (-33), 3) := by decide +kernel
theorem dX11_types_38 : decode cX11_types 38 = .ok (.return_, 1) := by decide +kernel
theorem dX11_feed_0 : decode cX11_feed 0 = .ok (.aload_n 0, 1) := by decide +kernel
theorem dX11_feed_1 : decode cX11_feed 1 = .ok (.getfield 158, 3) := by decide +kernel
theorem dX11_feed_4 : decode cX11_feed 4 = .ok (.bipush 20, 2) := by decide +kernel
theorem dX11_feed_6 : decode cX11_feed 6 = .ok (.iadd, 1) := by decide +kernel
theorem dX11_feed_7 : decode cX11_feed 7 = .ok (.sipush 260, 3) := by decide +kernel
theorem dX11_feed_10 : decode cX11_feed 10 = .ok (.if_icmp .le 5, 3) := by decide +kernel
theorem dX11_feed_13 : decode cX11_feed 13 = .ok (.iconst (-1), 1) := by decide +kernel
theorem dX11_feed_14 : decode cX11_feed 14 = .ok (.ireturn, 1) := by decide +kernel
theorem dX11_feed_15 : decode cX11_feed 15 = .ok (.aload_n 0, 1) := by decide +kernel
theorem dX11_feed_16 : decode cX11_feed 16 = .ok (.iload_n 1, 1) := by decide +kernel
theorem dX11_feed_17 : decode cX11_feed 17 = .ok (.invokevirtual 161, 3) := by decide +kernel
theorem dX11_feed_20 : decode cX11_feed 20 = .ok (.aload_n 0, 1) := by decide +kernel
theorem dX11_feed_21 : decode cX11_feed 21 = .ok (.iload_n 2, 1) := by decide +kernel
theorem dX11_feed_22 : decode cX11_feed 22 = .ok (.invokevirtual 161, 3) := by decide +kernel
theorem dX11_feed_25 : decode cX11_feed 25 = .ok (.aload_n 0, 1) := by decide +kernel
theorem dX11_feed_26 : decode cX11_feed 26 = .ok (.iload_n 3, 1) := by decide +kernel
theorem dX11_feed_27 : decode cX11_feed 27 = .ok (.invokevirtual 161, 3) := by decide +kernel
theorem dX11_feed_30 : decode cX11_feed 30 = .ok (.aload_n 0, 1) := by decide +kernel
theorem dX11_feed_31 : decode cX11_feed 31 = .ok (.iload 4, 2) := by decide +kernel
theorem dX11_feed_33 : decode cX11_feed 33 = .ok (.invokevirtual 161, 3) := by decide +kernel
theorem dX11_feed_36 : decode cX11_feed 36 = .ok (.aload_n 0, 1) := by decide +kernel
theorem dX11_feed_37 : decode cX11_feed 37 = .ok (.iload 5, 2) := by decide +kernel
theorem dX11_feed_39 : decode cX11_feed 39 = .ok (.invokevirtual 161, 3) := by decide +kernel
theorem dX11_feed_42 : decode cX11_feed 42 = .ok (.aload_n 0, 1) := by decide +kernel
theorem dX11_feed_43 : decode cX11_feed 43 = .ok (.getfield 158, 3) := by decide +kernel
theorem dX11_feed_46 : decode cX11_feed 46 = .ok (.ireturn, 1) := by decide +kernel
theorem dX11_octet_0 : decode cX11_octet 0 = .ok (.aload_n 0, 1) := by decide +kernel
theorem dX11_octet_1 : decode cX11_octet 1 = .ok (.getfield 28, 3) := by decide +kernel
theorem dX11_octet_4 : decode cX11_octet 4 = .ok (.iload_n 1, 1) := by decide +kernel
theorem dX11_octet_5 : decode cX11_octet 5 = .ok (.baload, 1) := by decide +kernel
theorem dX11_octet_6 : decode cX11_octet 6 = .ok (.sipush 255, 3) := by decide +kernel
theorem dX11_octet_9 : decode cX11_octet 9 = .ok (.iand, 1) := by decide +kernel
theorem dX11_octet_10 : decode cX11_octet 10 = .ok (.ireturn, 1) := by decide +kernel
theorem dX11_here_0 : decode cX11_here 0 = .ok (.aload_n 0, 1) := by decide +kernel
theorem dX11_here_1 : decode cX11_here 1 = .ok (.getfield 164, 3) := by decide +kernel
theorem dX11_here_4 : decode cX11_here 4 = .ok (.aload_n 0, 1) := by decide +kernel
theorem dX11_here_5 : decode cX11_here 5 = .ok (.getfield 167, 3) := by decide +kernel
theorem dX11_here_8 : decode cX11_here 8 = .ok (.if_icmp .ge 19, 3) := by decide +kernel
theorem dX11_here_11 : decode cX11_here 11 = .ok (.aload_n 0, 1) := by decide +kernel
theorem dX11_here_12 : decode cX11_here 12 = .ok (.getfield 28, 3) := by decide +kernel
theorem dX11_here_15 : decode cX11_here 15 = .ok (.aload_n 0, 1) := by decide +kernel
theorem dX11_here_16 : decode cX11_here 16 = .ok (.getfield 164, 3) := by decide +kernel
theorem dX11_here_19 : decode cX11_here 19 = .ok (.baload, 1) := by decide +kernel
theorem dX11_here_20 : decode cX11_here 20 = .ok (.sipush 255, 3) := by decide +kernel
theorem dX11_here_23 : decode cX11_here 23 = .ok (.iand, 1) := by decide +kernel
theorem dX11_here_24 : decode cX11_here 24 = .ok (.goto 4, 3) := by decide +kernel
theorem dX11_here_27 : decode cX11_here 27 = .ok (.iconst (-1), 1) := by decide +kernel
theorem dX11_here_28 : decode cX11_here 28 = .ok (.ireturn, 1) := by decide +kernel
theorem dX11_isDigit_0 : decode cX11_isDigit 0 = .ok (.aload_n 0, 1) := by decide +kernel
theorem dX11_isDigit_1 : decode cX11_isDigit 1 = .ok (.invokevirtual 170, 3) := by decide +kernel
theorem dX11_isDigit_4 : decode cX11_isDigit 4 = .ok (.bipush 48, 2) := by decide +kernel
theorem dX11_isDigit_6 : decode cX11_isDigit 6 = .ok (.if_icmp .lt 16, 3) := by decide +kernel
theorem dX11_isDigit_9 : decode cX11_isDigit 9 = .ok (.aload_n 0, 1) := by decide +kernel
theorem dX11_isDigit_10 : decode cX11_isDigit 10 = .ok (.invokevirtual 170, 3) := by decide +kernel
theorem dX11_isDigit_13 : decode cX11_isDigit 13 = .ok (.bipush 57, 2) := by decide +kernel
theorem dX11_isDigit_15 : decode cX11_isDigit 15 = .ok (.if_icmp .gt 7, 3) := by decide +kernel
theorem dX11_isDigit_18 : decode cX11_isDigit 18 = .ok (.iconst 1, 1) := by decide +kernel
theorem dX11_isDigit_19 : decode cX11_isDigit 19 = .ok (.goto 4, 3) := by decide +kernel
theorem dX11_isDigit_22 : decode cX11_isDigit 22 = .ok (.iconst 0, 1) := by decide +kernel
theorem dX11_isDigit_23 : decode cX11_isDigit 23 = .ok (.ireturn, 1) := by decide +kernel
theorem dX11_wrongAt_0 : decode cX11_wrongAt 0 = .ok (.aload_n 0, 1) := by decide +kernel
theorem dX11_wrongAt_1 : decode cX11_wrongAt 1 = .ok (.sipush (-1000), 3) := by decide +kernel
theorem dX11_wrongAt_4 : decode cX11_wrongAt 4 = .ok (.iload_n 1, 1) := by decide +kernel
theorem dX11_wrongAt_5 : decode cX11_wrongAt 5 = .ok (.imul, 1) := by decide +kernel
theorem dX11_wrongAt_6 : decode cX11_wrongAt 6 = .ok (.iload_n 2, 1) := by decide +kernel
theorem dX11_wrongAt_7 : decode cX11_wrongAt 7 = .ok (.isub, 1) := by decide +kernel
theorem dX11_wrongAt_8 : decode cX11_wrongAt 8 = .ok (.putfield 174, 3) := by decide +kernel
theorem dX11_wrongAt_11 : decode cX11_wrongAt 11 = .ok (.iconst 0, 1) := by decide +kernel
theorem dX11_wrongAt_12 : decode cX11_wrongAt 12 = .ok (.ireturn, 1) := by decide +kernel
theorem dX11_takes_0 : decode cX11_takes 0 = .ok (.aload_n 0, 1) := by decide +kernel
theorem dX11_takes_1 : decode cX11_takes 1 = .ok (.invokevirtual 170, 3) := by decide +kernel
theorem dX11_takes_4 : decode cX11_takes 4 = .ok (.iload_n 1, 1) := by decide +kernel
theorem dX11_takes_5 : decode cX11_takes 5 = .ok (.if_icmp .eq 13, 3) := by decide +kernel
theorem dX11_takes_8 : decode cX11_takes 8 = .ok (.aload_n 0, 1) := by decide +kernel
theorem dX11_takes_9 : decode cX11_takes 9 = .ok (.iconst 1, 1) := by decide +kernel
theorem dX11_takes_10 : decode cX11_takes 10 = .ok (.aload_n 0, 1) := by decide +kernel
theorem dX11_takes_11 : decode cX11_takes 11 = .ok (.getfield 164, 3) := by decide +kernel
theorem dX11_takes_14 : decode cX11_takes 14 = .ok (.invokevirtual 177, 3) := by decide +kernel
theorem dX11_takes_17 : decode cX11_takes 17 = .ok (.ireturn, 1) := by decide +kernel
theorem dX11_takes_18 : decode cX11_takes 18 = .ok (.aload_n 0, 1) := by decide +kernel
theorem dX11_takes_19 : decode cX11_takes 19 = .ok (.aload_n 0, 1) := by decide +kernel
theorem dX11_takes_20 : decode cX11_takes 20 = .ok (.getfield 164, 3) := by decide +kernel
theorem dX11_takes_23 : decode cX11_takes 23 = .ok (.iconst 1, 1) := by decide +kernel
theorem dX11_takes_24 : decode cX11_takes 24 = .ok (.iadd, 1) := by decide +kernel
theorem dX11_takes_25 : decode cX11_takes 25 = .ok (.putfield 164, 3) := by decide +kernel
theorem dX11_takes_28 : decode cX11_takes 28 = .ok (.iconst 1, 1) := by decide +kernel
theorem dX11_takes_29 : decode cX11_takes 29 = .ok (.ireturn, 1) := by decide +kernel
theorem dX11_readsNumber_0 : decode cX11_readsNumber 0 = .ok (.aload_n 0, 1) := by decide +kernel
theorem dX11_readsNumber_1 : decode cX11_readsNumber 1 = .ok (.getfield 164, 3) := by decide +kernel
theorem dX11_readsNumber_4 : decode cX11_readsNumber 4 = .ok (.istore_n 1, 1) := by decide +kernel
theorem dX11_readsNumber_5 : decode cX11_readsNumber 5 = .ok (.aload_n 0, 1) := by decide +kernel
theorem dX11_readsNumber_6 : decode cX11_readsNumber 6 = .ok (.iconst 0, 1) := by decide +kernel
theorem dX11_readsNumber_7 : decode cX11_readsNumber 7 = .ok (.putfield 180, 3) := by decide +kernel
theorem dX11_readsNumber_10 : decode cX11_readsNumber 10 = .ok (.aload_n 0, 1) := by decide +kernel
theorem dX11_readsNumber_11 : decode cX11_readsNumber 11 = .ok (.invokevirtual 183, 3) := by decide +kernel
theorem dX11_readsNumber_14 : decode cX11_readsNumber 14 = .ok (.ifCond .eq 55, 3) := by decide +kernel
theorem dX11_readsNumber_17 : decode cX11_readsNumber 17 = .ok (.aload_n 0, 1) := by decide +kernel
theorem dX11_readsNumber_18 : decode cX11_readsNumber 18 = .ok (.getfield 164, 3) := by decide +kernel
theorem dX11_readsNumber_21 : decode cX11_readsNumber 21 = .ok (.iload_n 1, 1) := by decide +kernel
theorem dX11_readsNumber_22 : decode cX11_readsNumber 22 = .ok (.iconst 5, 1) := by decide +kernel
theorem dX11_readsNumber_23 : decode cX11_readsNumber 23 = .ok (.iadd, 1) := by decide +kernel
theorem dX11_readsNumber_24 : decode cX11_readsNumber 24 = .ok (.if_icmp .ne 13, 3) := by decide +kernel
theorem dX11_readsNumber_27 : decode cX11_readsNumber 27 = .ok (.aload_n 0, 1) := by decide +kernel
theorem dX11_readsNumber_28 : decode cX11_readsNumber 28 = .ok (.iconst 2, 1) := by decide +kernel
theorem dX11_readsNumber_29 : decode cX11_readsNumber 29 = .ok (.aload_n 0, 1) := by decide +kernel
theorem dX11_readsNumber_30 : decode cX11_readsNumber 30 = .ok (.getfield 164, 3) := by decide +kernel
theorem dX11_readsNumber_33 : decode cX11_readsNumber 33 = .ok (.invokevirtual 177, 3) := by decide +kernel
theorem dX11_readsNumber_36 : decode cX11_readsNumber 36 = .ok (.ireturn, 1) := by decide +kernel
theorem dX11_readsNumber_37 : decode cX11_readsNumber 37 = .ok (.aload_n 0, 1) := by decide +kernel
theorem dX11_readsNumber_38 : decode cX11_readsNumber 38 = .ok (.bipush 10, 2) := by decide +kernel
theorem dX11_readsNumber_40 : decode cX11_readsNumber 40 = .ok (.aload_n 0, 1) := by decide +kernel
theorem dX11_readsNumber_41 : decode cX11_readsNumber 41 = .ok (.getfield 180, 3) := by decide +kernel
theorem dX11_readsNumber_44 : decode cX11_readsNumber 44 = .ok (.imul, 1) := by decide +kernel
theorem dX11_readsNumber_45 : decode cX11_readsNumber 45 = .ok (.aload_n 0, 1) := by decide +kernel
theorem dX11_readsNumber_46 : decode cX11_readsNumber 46 = .ok (.invokevirtual 170, 3) := by decide +kernel
theorem dX11_readsNumber_49 : decode cX11_readsNumber 49 = .ok (.iadd, 1) := by decide +kernel
theorem dX11_readsNumber_50 : decode cX11_readsNumber 50 = .ok (.bipush 48, 2) := by decide +kernel
theorem dX11_readsNumber_52 : decode cX11_readsNumber 52 = .ok (.isub, 1) := by decide +kernel
theorem dX11_readsNumber_53 : decode cX11_readsNumber 53 = .ok (.putfield 180, 3) := by decide +kernel
theorem dX11_readsNumber_56 : decode cX11_readsNumber 56 = .ok (.aload_n 0, 1) := by decide +kernel
theorem dX11_readsNumber_57 : decode cX11_readsNumber 57 = .ok (.aload_n 0, 1) := by decide +kernel
theorem dX11_readsNumber_58 : decode cX11_readsNumber 58 = .ok (.getfield 164, 3) := by decide +kernel
theorem dX11_readsNumber_61 : decode cX11_readsNumber 61 = .ok (.iconst 1, 1) := by decide +kernel
theorem dX11_readsNumber_62 : decode cX11_readsNumber 62 = .ok (.iadd, 1) := by decide +kernel
theorem dX11_readsNumber_63 : decode cX11_readsNumber 63 = .ok (.putfield 164, 3) := by decide +kernel
theorem dX11_readsNumber_66 : decode cX11_readsNumber 66 = .ok (.goto (-56), 3) := by decide +kernel
theorem dX11_readsNumber_69 : decode cX11_readsNumber 69 = .ok (.iconst 1, 1) := by decide +kernel
theorem dX11_readsNumber_70 : decode cX11_readsNumber 70 = .ok (.ireturn, 1) := by decide +kernel
theorem dX11_notes_0 : decode cX11_notes 0 = .ok (.aload_n 0, 1) := by decide +kernel
theorem dX11_notes_1 : decode cX11_notes 1 = .ok (.getfield 32, 3) := by decide +kernel
theorem dX11_notes_4 : decode cX11_notes 4 = .ok (.aload_n 0, 1) := by decide +kernel
theorem dX11_notes_5 : decode cX11_notes 5 = .ok (.getfield 187, 3) := by decide +kernel
theorem dX11_notes_8 : decode cX11_notes 8 = .ok (.ldc 190, 2) := by decide +kernel
theorem dX11_notes_10 : decode cX11_notes 10 = .ok (.iload_n 1, 1) := by decide +kernel
theorem dX11_notes_11 : decode cX11_notes 11 = .ok (.imul, 1) := by decide +kernel
theorem dX11_notes_12 : decode cX11_notes 12 = .ok (.iload_n 2, 1) := by decide +kernel
theorem dX11_notes_13 : decode cX11_notes 13 = .ok (.iadd, 1) := by decide +kernel
theorem dX11_notes_14 : decode cX11_notes 14 = .ok (.iastore, 1) := by decide +kernel
theorem dX11_notes_15 : decode cX11_notes 15 = .ok (.aload_n 0, 1) := by decide +kernel
theorem dX11_notes_16 : decode cX11_notes 16 = .ok (.aload_n 0, 1) := by decide +kernel
theorem dX11_notes_17 : decode cX11_notes 17 = .ok (.getfield 187, 3) := by decide +kernel
theorem dX11_notes_20 : decode cX11_notes 20 = .ok (.iconst 1, 1) := by decide +kernel
theorem dX11_notes_21 : decode cX11_notes 21 = .ok (.iadd, 1) := by decide +kernel
theorem dX11_notes_22 : decode cX11_notes 22 = .ok (.putfield 187, 3) := by decide +kernel
theorem dX11_notes_25 : decode cX11_notes 25 = .ok (.return_, 1) := by decide +kernel
theorem dX11_opens_0 : decode cX11_opens 0 = .ok (.aload_n 0, 1) := by decide +kernel
theorem dX11_opens_1 : decode cX11_opens 1 = .ok (.getfield 191, 3) := by decide +kernel
theorem dX11_opens_4 : decode cX11_opens 4 = .ok (.bipush 6, 2) := by decide +kernel
theorem dX11_opens_6 : decode cX11_opens 6 = .ok (.if_icmp .ne 13, 3) := by decide +kernel
theorem dX11_opens_9 : decode cX11_opens 9 = .ok (.aload_n 0, 1) := by decide +kernel
theorem dX11_opens_10 : decode cX11_opens 10 = .ok (.iconst 5, 1) := by decide +kernel
theorem dX11_opens_11 : decode cX11_opens 11 = .ok (.aload_n 0, 1) := by decide +kernel
theorem dX11_opens_12 : decode cX11_opens 12 = .ok (.getfield 164, 3) := by decide +kernel
theorem dX11_opens_15 : decode cX11_opens 15 = .ok (.invokevirtual 177, 3) := by decide +kernel
theorem dX11_opens_18 : decode cX11_opens 18 = .ok (.ireturn, 1) := by decide +kernel
theorem dX11_opens_19 : decode cX11_opens 19 = .ok (.aload_n 0, 1) := by decide +kernel
theorem dX11_opens_20 : decode cX11_opens 20 = .ok (.aload_n 0, 1) := by decide +kernel
theorem dX11_opens_21 : decode cX11_opens 21 = .ok (.getfield 191, 3) := by decide +kernel
theorem dX11_opens_24 : decode cX11_opens 24 = .ok (.iconst 1, 1) := by decide +kernel
theorem dX11_opens_25 : decode cX11_opens 25 = .ok (.iadd, 1) := by decide +kernel
theorem dX11_opens_26 : decode cX11_opens 26 = .ok (.putfield 191, 3) := by decide +kernel
theorem dX11_opens_29 : decode cX11_opens 29 = .ok (.aload_n 0, 1) := by decide +kernel
theorem dX11_opens_30 : decode cX11_opens 30 = .ok (.getfield 35, 3) := by decide +kernel
theorem dX11_opens_33 : decode cX11_opens 33 = .ok (.aload_n 0, 1) := by decide +kernel
theorem dX11_opens_34 : decode cX11_opens 34 = .ok (.getfield 194, 3) := by decide +kernel
theorem dX11_opens_37 : decode cX11_opens 37 = .ok (.ldc 190, 2) := by decide +kernel
theorem dX11_opens_39 : decode cX11_opens 39 = .ok (.iload_n 1, 1) := by decide +kernel
theorem dX11_opens_40 : decode cX11_opens 40 = .ok (.imul, 1) := by decide +kernel
theorem dX11_opens_41 : decode cX11_opens 41 = .ok (.iastore, 1) := by decide +kernel
theorem dX11_opens_42 : decode cX11_opens 42 = .ok (.aload_n 0, 1) := by decide +kernel
theorem dX11_opens_43 : decode cX11_opens 43 = .ok (.aload_n 0, 1) := by decide +kernel
theorem dX11_opens_44 : decode cX11_opens 44 = .ok (.getfield 194, 3) := by decide +kernel
theorem dX11_opens_47 : decode cX11_opens 47 = .ok (.iconst 1, 1) := by decide +kernel
theorem dX11_opens_48 : decode cX11_opens 48 = .ok (.iadd, 1) := by decide +kernel
theorem dX11_opens_49 : decode cX11_opens 49 = .ok (.putfield 194, 3) := by decide +kernel
theorem dX11_opens_52 : decode cX11_opens 52 = .ok (.aload_n 0, 1) := by decide +kernel
theorem dX11_opens_53 : decode cX11_opens 53 = .ok (.aload_n 0, 1) := by decide +kernel
theorem dX11_opens_54 : decode cX11_opens 54 = .ok (.getfield 164, 3) := by decide +kernel
theorem dX11_opens_57 : decode cX11_opens 57 = .ok (.iconst 1, 1) := by decide +kernel
theorem dX11_opens_58 : decode cX11_opens 58 = .ok (.iadd, 1) := by decide +kernel
theorem dX11_opens_59 : decode cX11_opens 59 = .ok (.putfield 164, 3) := by decide +kernel
theorem dX11_opens_62 : decode cX11_opens 62 = .ok (.iconst 1, 1) := by decide +kernel
theorem dX11_opens_63 : decode cX11_opens 63 = .ok (.ireturn, 1) := by decide +kernel
theorem dX11_waitTop_0 : decode cX11_waitTop 0 = .ok (.aload_n 0, 1) := by decide +kernel
theorem dX11_waitTop_1 : decode cX11_waitTop 1 = .ok (.getfield 194, 3) := by decide +kernel
theorem dX11_waitTop_4 : decode cX11_waitTop 4 = .ok (.ifCond .ne 7, 3) := by decide +kernel
theorem dX11_waitTop_7 : decode cX11_waitTop 7 = .ok (.iconst (-1), 1) := by decide +kernel
theorem dX11_waitTop_8 : decode cX11_waitTop 8 = .ok (.goto 17, 3) := by decide +kernel
theorem dX11_waitTop_11 : decode cX11_waitTop 11 = .ok (.aload_n 0, 1) := by decide +kernel
theorem dX11_waitTop_12 : decode cX11_waitTop 12 = .ok (.getfield 35, 3) := by decide +kernel
theorem dX11_waitTop_15 : decode cX11_waitTop 15 = .ok (.aload_n 0, 1) := by decide +kernel
theorem dX11_waitTop_16 : decode cX11_waitTop 16 = .ok (.getfield 194, 3) := by decide +kernel
theorem dX11_waitTop_19 : decode cX11_waitTop 19 = .ok (.iconst 1, 1) := by decide +kernel
theorem dX11_waitTop_20 : decode cX11_waitTop 20 = .ok (.isub, 1) := by decide +kernel
theorem dX11_waitTop_21 : decode cX11_waitTop 21 = .ok (.iaload, 1) := by decide +kernel
theorem dX11_waitTop_22 : decode cX11_waitTop 22 = .ok (.ldc 190, 2) := by decide +kernel
theorem dX11_waitTop_24 : decode cX11_waitTop 24 = .ok (.idiv, 1) := by decide +kernel
theorem dX11_waitTop_25 : decode cX11_waitTop 25 = .ok (.ireturn, 1) := by decide +kernel
theorem dX11_factOf_0 : decode cX11_factOf 0 = .ok (.iload_n 0, 1) := by decide +kernel
theorem dX11_factOf_1 : decode cX11_factOf 1 = .ok (.tableswitch 143 97 122 #[131, 143, 143, 125, 143, 127, 143, 143, 134, 143, 143, 143, 143, 129, 143, 119, 143, 143, 121, 137, 143, 143, 140, 143, 143, 123], 119) := by decide +kernel
theorem dX11_factOf_120 : decode cX11_factOf 120 = .ok (.iconst 0, 1) := by decide +kernel
theorem dX11_factOf_121 : decode cX11_factOf 121 = .ok (.ireturn, 1) := by decide +kernel
theorem dX11_factOf_122 : decode cX11_factOf 122 = .ok (.iconst 1, 1) := by decide +kernel
theorem dX11_factOf_123 : decode cX11_factOf 123 = .ok (.ireturn, 1) := by decide +kernel
theorem dX11_factOf_124 : decode cX11_factOf 124 = .ok (.iconst 2, 1) := by decide +kernel
theorem dX11_factOf_125 : decode cX11_factOf 125 = .ok (.ireturn, 1) := by decide +kernel
theorem dX11_factOf_126 : decode cX11_factOf 126 = .ok (.iconst 3, 1) := by decide +kernel
theorem dX11_factOf_127 : decode cX11_factOf 127 = .ok (.ireturn, 1) := by decide +kernel
theorem dX11_factOf_128 : decode cX11_factOf 128 = .ok (.iconst 4, 1) := by decide +kernel
theorem dX11_factOf_129 : decode cX11_factOf 129 = .ok (.ireturn, 1) := by decide +kernel
theorem dX11_factOf_130 : decode cX11_factOf 130 = .ok (.iconst 5, 1) := by decide +kernel
theorem dX11_factOf_131 : decode cX11_factOf 131 = .ok (.ireturn, 1) := by decide +kernel
theorem dX11_factOf_132 : decode cX11_factOf 132 = .ok (.bipush 6, 2) := by decide +kernel
theorem dX11_factOf_134 : decode cX11_factOf 134 = .ok (.ireturn, 1) := by decide +kernel
theorem dX11_factOf_135 : decode cX11_factOf 135 = .ok (.bipush 7, 2) := by decide +kernel
theorem dX11_factOf_137 : decode cX11_factOf 137 = .ok (.ireturn, 1) := by decide +kernel
theorem dX11_factOf_138 : decode cX11_factOf 138 = .ok (.bipush 8, 2) := by decide +kernel
theorem dX11_factOf_140 : decode cX11_factOf 140 = .ok (.ireturn, 1) := by decide +kernel
theorem dX11_factOf_141 : decode cX11_factOf 141 = .ok (.bipush 9, 2) := by decide +kernel
theorem dX11_factOf_143 : decode cX11_factOf 143 = .ok (.ireturn, 1) := by decide +kernel
theorem dX11_factOf_144 : decode cX11_factOf 144 = .ok (.iconst (-1), 1) := by decide +kernel
theorem dX11_factOf_145 : decode cX11_factOf 145 = .ok (.ireturn, 1) := by decide +kernel
theorem dX11_sumSign_0 : decode cX11_sumSign 0 = .ok (.iload_n 0, 1) := by decide +kernel
theorem dX11_sumSign_1 : decode cX11_sumSign 1 = .ok (.bipush 43, 2) := by decide +kernel
theorem dX11_sumSign_3 : decode cX11_sumSign 3 = .ok (.if_icmp .ne 7, 3) := by decide +kernel
theorem dX11_sumSign_6 : decode cX11_sumSign 6 = .ok (.iconst 2, 1) := by decide +kernel
theorem dX11_sumSign_7 : decode cX11_sumSign 7 = .ok (.goto 45, 3) := by decide +kernel
theorem dX11_sumSign_10 : decode cX11_sumSign 10 = .ok (.iload_n 0, 1) := by decide +kernel
theorem dX11_sumSign_11 : decode cX11_sumSign 11 = .ok (.bipush 45, 2) := by decide +kernel
theorem dX11_sumSign_13 : decode cX11_sumSign 13 = .ok (.if_icmp .ne 7, 3) := by decide +kernel
theorem dX11_sumSign_16 : decode cX11_sumSign 16 = .ok (.iconst 3, 1) := by decide +kernel
theorem dX11_sumSign_17 : decode cX11_sumSign 17 = .ok (.goto 35, 3) := by decide +kernel
theorem dX11_sumSign_20 : decode cX11_sumSign 20 = .ok (.iload_n 0, 1) := by decide +kernel
theorem dX11_sumSign_21 : decode cX11_sumSign 21 = .ok (.bipush 42, 2) := by decide +kernel
theorem dX11_sumSign_23 : decode cX11_sumSign 23 = .ok (.if_icmp .ne 7, 3) := by decide +kernel
theorem dX11_sumSign_26 : decode cX11_sumSign 26 = .ok (.iconst 4, 1) := by decide +kernel
theorem dX11_sumSign_27 : decode cX11_sumSign 27 = .ok (.goto 25, 3) := by decide +kernel
theorem dX11_sumSign_30 : decode cX11_sumSign 30 = .ok (.iload_n 0, 1) := by decide +kernel
theorem dX11_sumSign_31 : decode cX11_sumSign 31 = .ok (.bipush 47, 2) := by decide +kernel
theorem dX11_sumSign_33 : decode cX11_sumSign 33 = .ok (.if_icmp .ne 7, 3) := by decide +kernel
theorem dX11_sumSign_36 : decode cX11_sumSign 36 = .ok (.iconst 5, 1) := by decide +kernel
theorem dX11_sumSign_37 : decode cX11_sumSign 37 = .ok (.goto 15, 3) := by decide +kernel
theorem dX11_sumSign_40 : decode cX11_sumSign 40 = .ok (.iload_n 0, 1) := by decide +kernel
theorem dX11_sumSign_41 : decode cX11_sumSign 41 = .ok (.bipush 37, 2) := by decide +kernel
theorem dX11_sumSign_43 : decode cX11_sumSign 43 = .ok (.if_icmp .ne 8, 3) := by decide +kernel
theorem dX11_sumSign_46 : decode cX11_sumSign 46 = .ok (.bipush 6, 2) := by decide +kernel
theorem dX11_sumSign_48 : decode cX11_sumSign 48 = .ok (.goto 4, 3) := by decide +kernel
theorem dX11_sumSign_51 : decode cX11_sumSign 51 = .ok (.iconst (-1), 1) := by decide +kernel
theorem dX11_sumSign_52 : decode cX11_sumSign 52 = .ok (.ireturn, 1) := by decide +kernel
theorem dX11_closesSums_0 : decode cX11_closesSums 0 = .ok (.aload_n 0, 1) := by decide +kernel
theorem dX11_closesSums_1 : decode cX11_closesSums 1 = .ok (.invokevirtual 197, 3) := by decide +kernel
theorem dX11_closesSums_4 : decode cX11_closesSums 4 = .ok (.iconst 4, 1) := by decide +kernel
theorem dX11_closesSums_5 : decode cX11_closesSums 5 = .ok (.if_icmp .lt 12, 3) := by decide +kernel
theorem dX11_closesSums_8 : decode cX11_closesSums 8 = .ok (.aload_n 0, 1) := by decide +kernel
theorem dX11_closesSums_9 : decode cX11_closesSums 9 = .ok (.invokevirtual 197, 3) := by decide +kernel
theorem dX11_closesSums_12 : decode cX11_closesSums 12 = .ok (.bipush 6, 2) := by decide +kernel
theorem dX11_closesSums_14 : decode cX11_closesSums 14 = .ok (.if_icmp .le 23, 3) := by decide +kernel
theorem dX11_closesSums_17 : decode cX11_closesSums 17 = .ok (.iload_n 1, 1) := by decide +kernel
theorem dX11_closesSums_18 : decode cX11_closesSums 18 = .ok (.ifCond .eq 41, 3) := by decide +kernel
theorem dX11_closesSums_21 : decode cX11_closesSums 21 = .ok (.aload_n 0, 1) := by decide +kernel
theorem dX11_closesSums_22 : decode cX11_closesSums 22 = .ok (.invokevirtual 197, 3) := by decide +kernel
theorem dX11_closesSums_25 : decode cX11_closesSums 25 = .ok (.iconst 2, 1) := by decide +kernel
theorem dX11_closesSums_26 : decode cX11_closesSums 26 = .ok (.if_icmp .eq 11, 3) := by decide +kernel
theorem dX11_closesSums_29 : decode cX11_closesSums 29 = .ok (.aload_n 0, 1) := by decide +kernel
theorem dX11_closesSums_30 : decode cX11_closesSums 30 = .ok (.invokevirtual 197, 3) := by decide +kernel
theorem dX11_closesSums_33 : decode cX11_closesSums 33 = .ok (.iconst 3, 1) := by decide +kernel
theorem dX11_closesSums_34 : decode cX11_closesSums 34 = .ok (.if_icmp .ne 25, 3) := by decide +kernel
theorem dX11_closesSums_37 : decode cX11_closesSums 37 = .ok (.aload_n 0, 1) := by decide +kernel
theorem dX11_closesSums_38 : decode cX11_closesSums 38 = .ok (.aload_n 0, 1) := by decide +kernel
theorem dX11_closesSums_39 : decode cX11_closesSums 39 = .ok (.invokevirtual 197, 3) := by decide +kernel
theorem dX11_closesSums_42 : decode cX11_closesSums 42 = .ok (.iconst 0, 1) := by decide +kernel
theorem dX11_closesSums_43 : decode cX11_closesSums 43 = .ok (.invokevirtual 200, 3) := by decide +kernel
theorem dX11_closesSums_46 : decode cX11_closesSums 46 = .ok (.aload_n 0, 1) := by decide +kernel
theorem dX11_closesSums_47 : decode cX11_closesSums 47 = .ok (.aload_n 0, 1) := by decide +kernel
theorem dX11_closesSums_48 : decode cX11_closesSums 48 = .ok (.getfield 194, 3) := by decide +kernel
theorem dX11_closesSums_51 : decode cX11_closesSums 51 = .ok (.iconst 1, 1) := by decide +kernel
theorem dX11_closesSums_52 : decode cX11_closesSums 52 = .ok (.isub, 1) := by decide +kernel
theorem dX11_closesSums_53 : decode cX11_closesSums 53 = .ok (.putfield 194, 3) := by decide +kernel
theorem dX11_closesSums_56 : decode cX11_closesSums 56 = .ok (.goto (-56), 3) := by decide +kernel
theorem dX11_closesSums_59 : decode cX11_closesSums 59 = .ok (.return_, 1) := by decide +kernel
theorem dX11_readsFactor_0 : decode cX11_readsFactor 0 = .ok (.aload_n 0, 1) := by decide +kernel
theorem dX11_readsFactor_1 : decode cX11_readsFactor 1 = .ok (.invokevirtual 170, 3) := by decide +kernel
theorem dX11_readsFactor_4 : decode cX11_readsFactor 4 = .ok (.bipush 91, 2) := by decide +kernel
theorem dX11_readsFactor_6 : decode cX11_readsFactor 6 = .ok (.if_icmp .ne 14, 3) := by decide +kernel
theorem dX11_readsFactor_9 : decode cX11_readsFactor 9 = .ok (.aload_n 0, 1) := by decide +kernel
theorem dX11_readsFactor_10 : decode cX11_readsFactor 10 = .ok (.bipush 14, 2) := by decide +kernel
theorem dX11_readsFactor_12 : decode cX11_readsFactor 12 = .ok (.invokevirtual 204, 3) := by decide +kernel
theorem dX11_readsFactor_15 : decode cX11_readsFactor 15 = .ok (.ifCond .ne (-15), 3) := by decide +kernel
theorem dX11_readsFactor_18 : decode cX11_readsFactor 18 = .ok (.iconst 0, 1) := by decide +kernel
theorem dX11_readsFactor_19 : decode cX11_readsFactor 19 = .ok (.ireturn, 1) := by decide +kernel
theorem dX11_readsFactor_20 : decode cX11_readsFactor 20 = .ok (.aload_n 0, 1) := by decide +kernel
theorem dX11_readsFactor_21 : decode cX11_readsFactor 21 = .ok (.invokevirtual 183, 3) := by decide +kernel
theorem dX11_readsFactor_24 : decode cX11_readsFactor 24 = .ok (.ifCond .eq 23, 3) := by decide +kernel
theorem dX11_readsFactor_27 : decode cX11_readsFactor 27 = .ok (.aload_n 0, 1) := by decide +kernel
theorem dX11_readsFactor_28 : decode cX11_readsFactor 28 = .ok (.invokevirtual 207, 3) := by decide +kernel
theorem dX11_readsFactor_31 : decode cX11_readsFactor 31 = .ok (.ifCond .ne 5, 3) := by decide +kernel
theorem dX11_readsFactor_34 : decode cX11_readsFactor 34 = .ok (.iconst 0, 1) := by decide +kernel
theorem dX11_readsFactor_35 : decode cX11_readsFactor 35 = .ok (.ireturn, 1) := by decide +kernel
theorem dX11_readsFactor_36 : decode cX11_readsFactor 36 = .ok (.aload_n 0, 1) := by decide +kernel
theorem dX11_readsFactor_37 : decode cX11_readsFactor 37 = .ok (.iconst 0, 1) := by decide +kernel
theorem dX11_readsFactor_38 : decode cX11_readsFactor 38 = .ok (.aload_n 0, 1) := by decide +kernel
theorem dX11_readsFactor_39 : decode cX11_readsFactor 39 = .ok (.getfield 180, 3) := by decide +kernel
theorem dX11_readsFactor_42 : decode cX11_readsFactor 42 = .ok (.invokevirtual 200, 3) := by decide +kernel
theorem dX11_readsFactor_45 : decode cX11_readsFactor 45 = .ok (.iconst 1, 1) := by decide +kernel
theorem dX11_readsFactor_46 : decode cX11_readsFactor 46 = .ok (.ireturn, 1) := by decide +kernel
theorem dX11_readsFactor_47 : decode cX11_readsFactor 47 = .ok (.aload_n 0, 1) := by decide +kernel
theorem dX11_readsFactor_48 : decode cX11_readsFactor 48 = .ok (.invokevirtual 170, 3) := by decide +kernel
theorem dX11_readsFactor_51 : decode cX11_readsFactor 51 = .ok (.invokestatic 210, 3) := by decide +kernel
theorem dX11_readsFactor_54 : decode cX11_readsFactor 54 = .ok (.istore_n 1, 1) := by decide +kernel
theorem dX11_readsFactor_55 : decode cX11_readsFactor 55 = .ok (.iload_n 1, 1) := by decide +kernel
theorem dX11_readsFactor_56 : decode cX11_readsFactor 56 = .ok (.iconst (-1), 1) := by decide +kernel
theorem dX11_readsFactor_57 : decode cX11_readsFactor 57 = .ok (.if_icmp .ne 13, 3) := by decide +kernel
theorem dX11_readsFactor_60 : decode cX11_readsFactor 60 = .ok (.aload_n 0, 1) := by decide +kernel
theorem dX11_readsFactor_61 : decode cX11_readsFactor 61 = .ok (.iconst 1, 1) := by decide +kernel
theorem dX11_readsFactor_62 : decode cX11_readsFactor 62 = .ok (.aload_n 0, 1) := by decide +kernel
theorem dX11_readsFactor_63 : decode cX11_readsFactor 63 = .ok (.getfield 164, 3) := by decide +kernel
theorem dX11_readsFactor_66 : decode cX11_readsFactor 66 = .ok (.invokevirtual 177, 3) := by decide +kernel
theorem dX11_readsFactor_69 : decode cX11_readsFactor 69 = .ok (.ireturn, 1) := by decide +kernel
theorem dX11_readsFactor_70 : decode cX11_readsFactor 70 = .ok (.aload_n 0, 1) := by decide +kernel
theorem dX11_readsFactor_71 : decode cX11_readsFactor 71 = .ok (.iconst 1, 1) := by decide +kernel
theorem dX11_readsFactor_72 : decode cX11_readsFactor 72 = .ok (.iload_n 1, 1) := by decide +kernel
theorem dX11_readsFactor_73 : decode cX11_readsFactor 73 = .ok (.invokevirtual 200, 3) := by decide +kernel
theorem dX11_readsFactor_76 : decode cX11_readsFactor 76 = .ok (.aload_n 0, 1) := by decide +kernel
theorem dX11_readsFactor_77 : decode cX11_readsFactor 77 = .ok (.aload_n 0, 1) := by decide +kernel
theorem dX11_readsFactor_78 : decode cX11_readsFactor 78 = .ok (.getfield 164, 3) := by decide +kernel
theorem dX11_readsFactor_81 : decode cX11_readsFactor 81 = .ok (.iconst 1, 1) := by decide +kernel
theorem dX11_readsFactor_82 : decode cX11_readsFactor 82 = .ok (.iadd, 1) := by decide +kernel
theorem dX11_readsFactor_83 : decode cX11_readsFactor 83 = .ok (.putfield 164, 3) := by decide +kernel
theorem dX11_readsFactor_86 : decode cX11_readsFactor 86 = .ok (.iconst 1, 1) := by decide +kernel
theorem dX11_readsFactor_87 : decode cX11_readsFactor 87 = .ok (.ireturn, 1) := by decide +kernel
theorem dX11_hasOpenSum_0 : decode cX11_hasOpenSum 0 = .ok (.iload_n 1, 1) := by decide +kernel
theorem dX11_hasOpenSum_1 : decode cX11_hasOpenSum 1 = .ok (.istore_n 2, 1) := by decide +kernel
theorem dX11_hasOpenSum_2 : decode cX11_hasOpenSum 2 = .ok (.iload_n 2, 1) := by decide +kernel
theorem dX11_hasOpenSum_3 : decode cX11_hasOpenSum 3 = .ok (.aload_n 0, 1) := by decide +kernel
theorem dX11_hasOpenSum_4 : decode cX11_hasOpenSum 4 = .ok (.getfield 194, 3) := by decide +kernel
theorem dX11_hasOpenSum_7 : decode cX11_hasOpenSum 7 = .ok (.if_icmp .ge 25, 3) := by decide +kernel
theorem dX11_hasOpenSum_10 : decode cX11_hasOpenSum 10 = .ok (.aload_n 0, 1) := by decide +kernel
theorem dX11_hasOpenSum_11 : decode cX11_hasOpenSum 11 = .ok (.getfield 35, 3) := by decide +kernel
theorem dX11_hasOpenSum_14 : decode cX11_hasOpenSum 14 = .ok (.iload_n 2, 1) := by decide +kernel
theorem dX11_hasOpenSum_15 : decode cX11_hasOpenSum 15 = .ok (.iaload, 1) := by decide +kernel
theorem dX11_hasOpenSum_16 : decode cX11_hasOpenSum 16 = .ok (.ldc 190, 2) := by decide +kernel
theorem dX11_hasOpenSum_18 : decode cX11_hasOpenSum 18 = .ok (.idiv, 1) := by decide +kernel
theorem dX11_hasOpenSum_19 : decode cX11_hasOpenSum 19 = .ok (.bipush 14, 2) := by decide +kernel
theorem dX11_hasOpenSum_21 : decode cX11_hasOpenSum 21 = .ok (.if_icmp .ne 5, 3) := by decide +kernel
theorem dX11_hasOpenSum_24 : decode cX11_hasOpenSum 24 = .ok (.iconst 1, 1) := by decide +kernel
theorem dX11_hasOpenSum_25 : decode cX11_hasOpenSum 25 = .ok (.ireturn, 1) := by decide +kernel
theorem dX11_hasOpenSum_26 : decode cX11_hasOpenSum 26 = .ok (.iinc 2 1, 3) := by decide +kernel
theorem dX11_hasOpenSum_29 : decode cX11_hasOpenSum 29 = .ok (.goto (-27), 3) := by decide +kernel
theorem dX11_hasOpenSum_32 : decode cX11_hasOpenSum 32 = .ok (.iconst 0, 1) := by decide +kernel
theorem dX11_hasOpenSum_33 : decode cX11_hasOpenSum 33 = .ok (.ireturn, 1) := by decide +kernel
theorem dX11_readsSum_0 : decode cX11_readsSum 0 = .ok (.aload_n 0, 1) := by decide +kernel
theorem dX11_readsSum_1 : decode cX11_readsSum 1 = .ok (.getfield 194, 3) := by decide +kernel
theorem dX11_readsSum_4 : decode cX11_readsSum 4 = .ok (.istore_n 1, 1) := by decide +kernel
theorem dX11_readsSum_5 : decode cX11_readsSum 5 = .ok (.aload_n 0, 1) := by decide +kernel
theorem dX11_readsSum_6 : decode cX11_readsSum 6 = .ok (.invokevirtual 213, 3) := by decide +kernel
theorem dX11_readsSum_9 : decode cX11_readsSum 9 = .ok (.ifCond .ne 5, 3) := by decide +kernel
theorem dX11_readsSum_12 : decode cX11_readsSum 12 = .ok (.iconst 0, 1) := by decide +kernel
theorem dX11_readsSum_13 : decode cX11_readsSum 13 = .ok (.ireturn, 1) := by decide +kernel
theorem dX11_readsSum_14 : decode cX11_readsSum 14 = .ok (.aload_n 0, 1) := by decide +kernel
theorem dX11_readsSum_15 : decode cX11_readsSum 15 = .ok (.invokevirtual 170, 3) := by decide +kernel
theorem dX11_readsSum_18 : decode cX11_readsSum 18 = .ok (.invokestatic 216, 3) := by decide +kernel
theorem dX11_readsSum_21 : decode cX11_readsSum 21 = .ok (.istore_n 2, 1) := by decide +kernel
theorem dX11_readsSum_22 : decode cX11_readsSum 22 = .ok (.iload_n 2, 1) := by decide +kernel
theorem dX11_readsSum_23 : decode cX11_readsSum 23 = .ok (.iconst (-1), 1) := by decide +kernel
theorem dX11_readsSum_24 : decode cX11_readsSum 24 = .ok (.if_icmp .eq 59, 3) := by decide +kernel
theorem dX11_readsSum_27 : decode cX11_readsSum 27 = .ok (.aload_n 0, 1) := by decide +kernel
theorem dX11_readsSum_28 : decode cX11_readsSum 28 = .ok (.iload_n 2, 1) := by decide +kernel
theorem dX11_readsSum_29 : decode cX11_readsSum 29 = .ok (.iconst 4, 1) := by decide +kernel
theorem dX11_readsSum_30 : decode cX11_readsSum 30 = .ok (.if_icmp .ge 7, 3) := by decide +kernel
theorem dX11_readsSum_33 : decode cX11_readsSum 33 = .ok (.iconst 1, 1) := by decide +kernel
theorem dX11_readsSum_34 : decode cX11_readsSum 34 = .ok (.goto 4, 3) := by decide +kernel
theorem dX11_readsSum_37 : decode cX11_readsSum 37 = .ok (.iconst 0, 1) := by decide +kernel
theorem dX11_readsSum_38 : decode cX11_readsSum 38 = .ok (.invokevirtual 219, 3) := by decide +kernel
theorem dX11_readsSum_41 : decode cX11_readsSum 41 = .ok (.aload_n 0, 1) := by decide +kernel
theorem dX11_readsSum_42 : decode cX11_readsSum 42 = .ok (.getfield 35, 3) := by decide +kernel
theorem dX11_readsSum_45 : decode cX11_readsSum 45 = .ok (.aload_n 0, 1) := by decide +kernel
theorem dX11_readsSum_46 : decode cX11_readsSum 46 = .ok (.getfield 194, 3) := by decide +kernel
theorem dX11_readsSum_49 : decode cX11_readsSum 49 = .ok (.ldc 190, 2) := by decide +kernel
theorem dX11_readsSum_51 : decode cX11_readsSum 51 = .ok (.iload_n 2, 1) := by decide +kernel
theorem dX11_readsSum_52 : decode cX11_readsSum 52 = .ok (.imul, 1) := by decide +kernel
theorem dX11_readsSum_53 : decode cX11_readsSum 53 = .ok (.iastore, 1) := by decide +kernel
theorem dX11_readsSum_54 : decode cX11_readsSum 54 = .ok (.aload_n 0, 1) := by decide +kernel
theorem dX11_readsSum_55 : decode cX11_readsSum 55 = .ok (.aload_n 0, 1) := by decide +kernel
theorem dX11_readsSum_56 : decode cX11_readsSum 56 = .ok (.getfield 194, 3) := by decide +kernel
theorem dX11_readsSum_59 : decode cX11_readsSum 59 = .ok (.iconst 1, 1) := by decide +kernel
theorem dX11_readsSum_60 : decode cX11_readsSum 60 = .ok (.iadd, 1) := by decide +kernel
theorem dX11_readsSum_61 : decode cX11_readsSum 61 = .ok (.putfield 194, 3) := by decide +kernel
theorem dX11_readsSum_64 : decode cX11_readsSum 64 = .ok (.aload_n 0, 1) := by decide +kernel
theorem dX11_readsSum_65 : decode cX11_readsSum 65 = .ok (.aload_n 0, 1) := by decide +kernel
theorem dX11_readsSum_66 : decode cX11_readsSum 66 = .ok (.getfield 164, 3) := by decide +kernel
theorem dX11_readsSum_69 : decode cX11_readsSum 69 = .ok (.iconst 1, 1) := by decide +kernel
theorem dX11_readsSum_70 : decode cX11_readsSum 70 = .ok (.iadd, 1) := by decide +kernel
theorem dX11_readsSum_71 : decode cX11_readsSum 71 = .ok (.putfield 164, 3) := by decide +kernel
theorem dX11_readsSum_74 : decode cX11_readsSum 74 = .ok (.aload_n 0, 1) := by decide +kernel
theorem dX11_readsSum_75 : decode cX11_readsSum 75 = .ok (.invokevirtual 213, 3) := by decide +kernel
theorem dX11_readsSum_78 : decode cX11_readsSum 78 = .ok (.ifCond .ne 85, 3) := by decide +kernel
theorem dX11_readsSum_81 : decode cX11_readsSum 81 = .ok (.iconst 0, 1) := by decide +kernel
theorem dX11_readsSum_82 : decode cX11_readsSum 82 = .ok (.ireturn, 1) := by decide +kernel
theorem dX11_readsSum_83 : decode cX11_readsSum 83 = .ok (.aload_n 0, 1) := by decide +kernel
theorem dX11_readsSum_84 : decode cX11_readsSum 84 = .ok (.invokevirtual 170, 3) := by decide +kernel
theorem dX11_readsSum_87 : decode cX11_readsSum 87 = .ok (.bipush 93, 2) := by decide +kernel
theorem dX11_readsSum_89 : decode cX11_readsSum 89 = .ok (.if_icmp .ne 49, 3) := by decide +kernel
theorem dX11_readsSum_92 : decode cX11_readsSum 92 = .ok (.aload_n 0, 1) := by decide +kernel
theorem dX11_readsSum_93 : decode cX11_readsSum 93 = .ok (.iload_n 1, 1) := by decide +kernel
theorem dX11_readsSum_94 : decode cX11_readsSum 94 = .ok (.invokevirtual 223, 3) := by decide +kernel
theorem dX11_readsSum_97 : decode cX11_readsSum 97 = .ok (.ifCond .eq 41, 3) := by decide +kernel
theorem dX11_readsSum_100 : decode cX11_readsSum 100 = .ok (.aload_n 0, 1) := by decide +kernel
theorem dX11_readsSum_101 : decode cX11_readsSum 101 = .ok (.iconst 1, 1) := by decide +kernel
theorem dX11_readsSum_102 : decode cX11_readsSum 102 = .ok (.invokevirtual 219, 3) := by decide +kernel
theorem dX11_readsSum_105 : decode cX11_readsSum 105 = .ok (.aload_n 0, 1) := by decide +kernel
theorem dX11_readsSum_106 : decode cX11_readsSum 106 = .ok (.aload_n 0, 1) := by decide +kernel
theorem dX11_readsSum_107 : decode cX11_readsSum 107 = .ok (.getfield 194, 3) := by decide +kernel
theorem dX11_readsSum_110 : decode cX11_readsSum 110 = .ok (.iconst 1, 1) := by decide +kernel
theorem dX11_readsSum_111 : decode cX11_readsSum 111 = .ok (.isub, 1) := by decide +kernel
theorem dX11_readsSum_112 : decode cX11_readsSum 112 = .ok (.putfield 194, 3) := by decide +kernel
theorem dX11_readsSum_115 : decode cX11_readsSum 115 = .ok (.aload_n 0, 1) := by decide +kernel
theorem dX11_readsSum_116 : decode cX11_readsSum 116 = .ok (.aload_n 0, 1) := by decide +kernel
theorem dX11_readsSum_117 : decode cX11_readsSum 117 = .ok (.getfield 191, 3) := by decide +kernel
theorem dX11_readsSum_120 : decode cX11_readsSum 120 = .ok (.iconst 1, 1) := by decide +kernel
theorem dX11_readsSum_121 : decode cX11_readsSum 121 = .ok (.isub, 1) := by decide +kernel
theorem dX11_readsSum_122 : decode cX11_readsSum 122 = .ok (.putfield 191, 3) := by decide +kernel
theorem dX11_readsSum_125 : decode cX11_readsSum 125 = .ok (.aload_n 0, 1) := by decide +kernel
theorem dX11_readsSum_126 : decode cX11_readsSum 126 = .ok (.aload_n 0, 1) := by decide +kernel
theorem dX11_readsSum_127 : decode cX11_readsSum 127 = .ok (.getfield 164, 3) := by decide +kernel
theorem dX11_readsSum_130 : decode cX11_readsSum 130 = .ok (.iconst 1, 1) := by decide +kernel
theorem dX11_readsSum_131 : decode cX11_readsSum 131 = .ok (.iadd, 1) := by decide +kernel
theorem dX11_readsSum_132 : decode cX11_readsSum 132 = .ok (.putfield 164, 3) := by decide +kernel
theorem dX11_readsSum_135 : decode cX11_readsSum 135 = .ok (.goto 28, 3) := by decide +kernel
theorem dX11_readsSum_138 : decode cX11_readsSum 138 = .ok (.aload_n 0, 1) := by decide +kernel
theorem dX11_readsSum_139 : decode cX11_readsSum 139 = .ok (.iload_n 1, 1) := by decide +kernel
theorem dX11_readsSum_140 : decode cX11_readsSum 140 = .ok (.invokevirtual 223, 3) := by decide +kernel
theorem dX11_readsSum_143 : decode cX11_readsSum 143 = .ok (.ifCond .eq 13, 3) := by decide +kernel
theorem dX11_readsSum_146 : decode cX11_readsSum 146 = .ok (.aload_n 0, 1) := by decide +kernel
theorem dX11_readsSum_147 : decode cX11_readsSum 147 = .ok (.iconst 1, 1) := by decide +kernel
theorem dX11_readsSum_148 : decode cX11_readsSum 148 = .ok (.aload_n 0, 1) := by decide +kernel
theorem dX11_readsSum_149 : decode cX11_readsSum 149 = .ok (.getfield 164, 3) := by decide +kernel
theorem dX11_readsSum_152 : decode cX11_readsSum 152 = .ok (.invokevirtual 177, 3) := by decide +kernel
theorem dX11_readsSum_155 : decode cX11_readsSum 155 = .ok (.ireturn, 1) := by decide +kernel
theorem dX11_readsSum_156 : decode cX11_readsSum 156 = .ok (.aload_n 0, 1) := by decide +kernel
theorem dX11_readsSum_157 : decode cX11_readsSum 157 = .ok (.iconst 1, 1) := by decide +kernel
theorem dX11_readsSum_158 : decode cX11_readsSum 158 = .ok (.invokevirtual 219, 3) := by decide +kernel
theorem dX11_readsSum_161 : decode cX11_readsSum 161 = .ok (.iconst 1, 1) := by decide +kernel
theorem dX11_readsSum_162 : decode cX11_readsSum 162 = .ok (.ireturn, 1) := by decide +kernel
theorem dX11_readsSum_163 : decode cX11_readsSum 163 = .ok (.goto (-149), 3) := by decide +kernel
theorem dX11_endsPiece_0 : decode cX11_endsPiece 0 = .ok (.aload_n 0, 1) := by decide +kernel
theorem dX11_endsPiece_1 : decode cX11_endsPiece 1 = .ok (.invokevirtual 197, 3) := by decide +kernel
theorem dX11_endsPiece_4 : decode cX11_endsPiece 4 = .ok (.bipush 10, 2) := by decide +kernel
theorem dX11_endsPiece_6 : decode cX11_endsPiece 6 = .ok (.if_icmp .ne 33, 3) := by decide +kernel
theorem dX11_endsPiece_9 : decode cX11_endsPiece 9 = .ok (.aload_n 0, 1) := by decide +kernel
theorem dX11_endsPiece_10 : decode cX11_endsPiece 10 = .ok (.bipush 10, 2) := by decide +kernel
theorem dX11_endsPiece_12 : decode cX11_endsPiece 12 = .ok (.iconst 0, 1) := by decide +kernel
theorem dX11_endsPiece_13 : decode cX11_endsPiece 13 = .ok (.invokevirtual 200, 3) := by decide +kernel
theorem dX11_endsPiece_16 : decode cX11_endsPiece 16 = .ok (.aload_n 0, 1) := by decide +kernel
theorem dX11_endsPiece_17 : decode cX11_endsPiece 17 = .ok (.aload_n 0, 1) := by decide +kernel
theorem dX11_endsPiece_18 : decode cX11_endsPiece 18 = .ok (.getfield 194, 3) := by decide +kernel
theorem dX11_endsPiece_21 : decode cX11_endsPiece 21 = .ok (.iconst 1, 1) := by decide +kernel
theorem dX11_endsPiece_22 : decode cX11_endsPiece 22 = .ok (.isub, 1) := by decide +kernel
theorem dX11_endsPiece_23 : decode cX11_endsPiece 23 = .ok (.putfield 194, 3) := by decide +kernel
theorem dX11_endsPiece_26 : decode cX11_endsPiece 26 = .ok (.aload_n 0, 1) := by decide +kernel
theorem dX11_endsPiece_27 : decode cX11_endsPiece 27 = .ok (.aload_n 0, 1) := by decide +kernel
theorem dX11_endsPiece_28 : decode cX11_endsPiece 28 = .ok (.getfield 191, 3) := by decide +kernel
theorem dX11_endsPiece_31 : decode cX11_endsPiece 31 = .ok (.iconst 1, 1) := by decide +kernel
theorem dX11_endsPiece_32 : decode cX11_endsPiece 32 = .ok (.isub, 1) := by decide +kernel
theorem dX11_endsPiece_33 : decode cX11_endsPiece 33 = .ok (.putfield 191, 3) := by decide +kernel
theorem dX11_endsPiece_36 : decode cX11_endsPiece 36 = .ok (.goto (-36), 3) := by decide +kernel
theorem dX11_endsPiece_39 : decode cX11_endsPiece 39 = .ok (.return_, 1) := by decide +kernel
theorem dX11_lands_0 : decode cX11_lands 0 = .ok (.aload_n 0, 1) := by decide +kernel
theorem dX11_lands_1 : decode cX11_lands 1 = .ok (.invokevirtual 197, 3) := by decide +kernel
theorem dX11_lands_4 : decode cX11_lands 4 = .ok (.bipush 11, 2) := by decide +kernel
theorem dX11_lands_6 : decode cX11_lands 6 = .ok (.if_icmp .eq 16, 3) := by decide +kernel
theorem dX11_lands_9 : decode cX11_lands 9 = .ok (.iload_n 1, 1) := by decide +kernel
theorem dX11_lands_10 : decode cX11_lands 10 = .ok (.ifCond .eq 63, 3) := by decide +kernel
theorem dX11_lands_13 : decode cX11_lands 13 = .ok (.aload_n 0, 1) := by decide +kernel
theorem dX11_lands_14 : decode cX11_lands 14 = .ok (.invokevirtual 197, 3) := by decide +kernel
theorem dX11_lands_17 : decode cX11_lands 17 = .ok (.bipush 12, 2) := by decide +kernel
theorem dX11_lands_19 : decode cX11_lands 19 = .ok (.if_icmp .ne 54, 3) := by decide +kernel
theorem dX11_lands_22 : decode cX11_lands 22 = .ok (.aload_n 0, 1) := by decide +kernel
theorem dX11_lands_23 : decode cX11_lands 23 = .ok (.getfield 35, 3) := by decide +kernel
theorem dX11_lands_26 : decode cX11_lands 26 = .ok (.aload_n 0, 1) := by decide +kernel
theorem dX11_lands_27 : decode cX11_lands 27 = .ok (.getfield 194, 3) := by decide +kernel
theorem dX11_lands_30 : decode cX11_lands 30 = .ok (.iconst 1, 1) := by decide +kernel
theorem dX11_lands_31 : decode cX11_lands 31 = .ok (.isub, 1) := by decide +kernel
theorem dX11_lands_32 : decode cX11_lands 32 = .ok (.iaload, 1) := by decide +kernel
theorem dX11_lands_33 : decode cX11_lands 33 = .ok (.ldc 190, 2) := by decide +kernel
theorem dX11_lands_35 : decode cX11_lands 35 = .ok (.irem, 1) := by decide +kernel
theorem dX11_lands_36 : decode cX11_lands 36 = .ok (.istore_n 2, 1) := by decide +kernel
theorem dX11_lands_37 : decode cX11_lands 37 = .ok (.aload_n 0, 1) := by decide +kernel
theorem dX11_lands_38 : decode cX11_lands 38 = .ok (.getfield 32, 3) := by decide +kernel
theorem dX11_lands_41 : decode cX11_lands 41 = .ok (.iload_n 2, 1) := by decide +kernel
theorem dX11_lands_42 : decode cX11_lands 42 = .ok (.ldc 190, 2) := by decide +kernel
theorem dX11_lands_44 : decode cX11_lands 44 = .ok (.aload_n 0, 1) := by decide +kernel
theorem dX11_lands_45 : decode cX11_lands 45 = .ok (.getfield 32, 3) := by decide +kernel
theorem dX11_lands_48 : decode cX11_lands 48 = .ok (.iload_n 2, 1) := by decide +kernel
theorem dX11_lands_49 : decode cX11_lands 49 = .ok (.iaload, 1) := by decide +kernel
theorem dX11_lands_50 : decode cX11_lands 50 = .ok (.ldc 190, 2) := by decide +kernel
theorem dX11_lands_52 : decode cX11_lands 52 = .ok (.idiv, 1) := by decide +kernel
theorem dX11_lands_53 : decode cX11_lands 53 = .ok (.imul, 1) := by decide +kernel
theorem dX11_lands_54 : decode cX11_lands 54 = .ok (.aload_n 0, 1) := by decide +kernel
theorem dX11_lands_55 : decode cX11_lands 55 = .ok (.getfield 187, 3) := by decide +kernel
theorem dX11_lands_58 : decode cX11_lands 58 = .ok (.iadd, 1) := by decide +kernel
theorem dX11_lands_59 : decode cX11_lands 59 = .ok (.iastore, 1) := by decide +kernel
theorem dX11_lands_60 : decode cX11_lands 60 = .ok (.aload_n 0, 1) := by decide +kernel
theorem dX11_lands_61 : decode cX11_lands 61 = .ok (.aload_n 0, 1) := by decide +kernel
theorem dX11_lands_62 : decode cX11_lands 62 = .ok (.getfield 194, 3) := by decide +kernel
theorem dX11_lands_65 : decode cX11_lands 65 = .ok (.iconst 1, 1) := by decide +kernel
theorem dX11_lands_66 : decode cX11_lands 66 = .ok (.isub, 1) := by decide +kernel
theorem dX11_lands_67 : decode cX11_lands 67 = .ok (.putfield 194, 3) := by decide +kernel
theorem dX11_lands_70 : decode cX11_lands 70 = .ok (.goto (-70), 3) := by decide +kernel
theorem dX11_lands_73 : decode cX11_lands 73 = .ok (.return_, 1) := by decide +kernel
theorem dX11_jumps_0 : decode cX11_jumps 0 = .ok (.aload_n 0, 1) := by decide +kernel
theorem dX11_jumps_1 : decode cX11_jumps 1 = .ok (.getfield 35, 3) := by decide +kernel
theorem dX11_jumps_4 : decode cX11_jumps 4 = .ok (.aload_n 0, 1) := by decide +kernel
theorem dX11_jumps_5 : decode cX11_jumps 5 = .ok (.getfield 194, 3) := by decide +kernel
theorem dX11_jumps_8 : decode cX11_jumps 8 = .ok (.ldc 190, 2) := by decide +kernel
theorem dX11_jumps_10 : decode cX11_jumps 10 = .ok (.iload_n 1, 1) := by decide +kernel
theorem dX11_jumps_11 : decode cX11_jumps 11 = .ok (.imul, 1) := by decide +kernel
theorem dX11_jumps_12 : decode cX11_jumps 12 = .ok (.aload_n 0, 1) := by decide +kernel
theorem dX11_jumps_13 : decode cX11_jumps 13 = .ok (.getfield 187, 3) := by decide +kernel
theorem dX11_jumps_16 : decode cX11_jumps 16 = .ok (.iadd, 1) := by decide +kernel
theorem dX11_jumps_17 : decode cX11_jumps 17 = .ok (.iastore, 1) := by decide +kernel
theorem dX11_jumps_18 : decode cX11_jumps 18 = .ok (.aload_n 0, 1) := by decide +kernel
theorem dX11_jumps_19 : decode cX11_jumps 19 = .ok (.aload_n 0, 1) := by decide +kernel
theorem dX11_jumps_20 : decode cX11_jumps 20 = .ok (.getfield 194, 3) := by decide +kernel
theorem dX11_jumps_23 : decode cX11_jumps 23 = .ok (.iconst 1, 1) := by decide +kernel
theorem dX11_jumps_24 : decode cX11_jumps 24 = .ok (.iadd, 1) := by decide +kernel
theorem dX11_jumps_25 : decode cX11_jumps 25 = .ok (.putfield 194, 3) := by decide +kernel
theorem dX11_jumps_28 : decode cX11_jumps 28 = .ok (.aload_n 0, 1) := by decide +kernel
theorem dX11_jumps_29 : decode cX11_jumps 29 = .ok (.iload_n 1, 1) := by decide +kernel
theorem dX11_jumps_30 : decode cX11_jumps 30 = .ok (.iconst 0, 1) := by decide +kernel
theorem dX11_jumps_31 : decode cX11_jumps 31 = .ok (.invokevirtual 200, 3) := by decide +kernel
theorem dX11_jumps_34 : decode cX11_jumps 34 = .ok (.aload_n 0, 1) := by decide +kernel
theorem dX11_jumps_35 : decode cX11_jumps 35 = .ok (.aload_n 0, 1) := by decide +kernel
theorem dX11_jumps_36 : decode cX11_jumps 36 = .ok (.getfield 164, 3) := by decide +kernel
theorem dX11_jumps_39 : decode cX11_jumps 39 = .ok (.iconst 1, 1) := by decide +kernel
theorem dX11_jumps_40 : decode cX11_jumps 40 = .ok (.iadd, 1) := by decide +kernel
theorem dX11_jumps_41 : decode cX11_jumps 41 = .ok (.putfield 164, 3) := by decide +kernel
theorem dX11_jumps_44 : decode cX11_jumps 44 = .ok (.return_, 1) := by decide +kernel
theorem dX11_readsCompared_0 : decode cX11_readsCompared 0 = .ok (.aload_n 0, 1) := by decide +kernel
theorem dX11_readsCompared_1 : decode cX11_readsCompared 1 = .ok (.invokevirtual 226, 3) := by decide +kernel
theorem dX11_readsCompared_4 : decode cX11_readsCompared 4 = .ok (.ifCond .ne 5, 3) := by decide +kernel
theorem dX11_readsCompared_7 : decode cX11_readsCompared 7 = .ok (.iconst 0, 1) := by decide +kernel
theorem dX11_readsCompared_8 : decode cX11_readsCompared 8 = .ok (.ireturn, 1) := by decide +kernel
theorem dX11_readsCompared_9 : decode cX11_readsCompared 9 = .ok (.aload_n 0, 1) := by decide +kernel
theorem dX11_readsCompared_10 : decode cX11_readsCompared 10 = .ok (.invokevirtual 170, 3) := by decide +kernel
theorem dX11_readsCompared_13 : decode cX11_readsCompared 13 = .ok (.bipush 60, 2) := by decide +kernel
theorem dX11_readsCompared_15 : decode cX11_readsCompared 15 = .ok (.if_icmp .ne 8, 3) := by decide +kernel
theorem dX11_readsCompared_18 : decode cX11_readsCompared 18 = .ok (.bipush 7, 2) := by decide +kernel
theorem dX11_readsCompared_20 : decode cX11_readsCompared 20 = .ok (.goto 32, 3) := by decide +kernel
theorem dX11_readsCompared_23 : decode cX11_readsCompared 23 = .ok (.aload_n 0, 1) := by decide +kernel
theorem dX11_readsCompared_24 : decode cX11_readsCompared 24 = .ok (.invokevirtual 170, 3) := by decide +kernel
theorem dX11_readsCompared_27 : decode cX11_readsCompared 27 = .ok (.bipush 62, 2) := by decide +kernel
theorem dX11_readsCompared_29 : decode cX11_readsCompared 29 = .ok (.if_icmp .ne 8, 3) := by decide +kernel
theorem dX11_readsCompared_32 : decode cX11_readsCompared 32 = .ok (.bipush 8, 2) := by decide +kernel
theorem dX11_readsCompared_34 : decode cX11_readsCompared 34 = .ok (.goto 18, 3) := by decide +kernel
theorem dX11_readsCompared_37 : decode cX11_readsCompared 37 = .ok (.aload_n 0, 1) := by decide +kernel
theorem dX11_readsCompared_38 : decode cX11_readsCompared 38 = .ok (.invokevirtual 170, 3) := by decide +kernel
theorem dX11_readsCompared_41 : decode cX11_readsCompared 41 = .ok (.bipush 61, 2) := by decide +kernel
theorem dX11_readsCompared_43 : decode cX11_readsCompared 43 = .ok (.if_icmp .ne 8, 3) := by decide +kernel
theorem dX11_readsCompared_46 : decode cX11_readsCompared 46 = .ok (.bipush 9, 2) := by decide +kernel
theorem dX11_readsCompared_48 : decode cX11_readsCompared 48 = .ok (.goto 4, 3) := by decide +kernel
theorem dX11_readsCompared_51 : decode cX11_readsCompared 51 = .ok (.iconst (-1), 1) := by decide +kernel
theorem dX11_readsCompared_52 : decode cX11_readsCompared 52 = .ok (.istore_n 1, 1) := by decide +kernel
theorem dX11_readsCompared_53 : decode cX11_readsCompared 53 = .ok (.iload_n 1, 1) := by decide +kernel
theorem dX11_readsCompared_54 : decode cX11_readsCompared 54 = .ok (.iconst (-1), 1) := by decide +kernel
theorem dX11_readsCompared_55 : decode cX11_readsCompared 55 = .ok (.if_icmp .ne 13, 3) := by decide +kernel
theorem dX11_readsCompared_58 : decode cX11_readsCompared 58 = .ok (.aload_n 0, 1) := by decide +kernel
theorem dX11_readsCompared_59 : decode cX11_readsCompared 59 = .ok (.iconst 1, 1) := by decide +kernel
theorem dX11_readsCompared_60 : decode cX11_readsCompared 60 = .ok (.aload_n 0, 1) := by decide +kernel
theorem dX11_readsCompared_61 : decode cX11_readsCompared 61 = .ok (.getfield 164, 3) := by decide +kernel
theorem dX11_readsCompared_64 : decode cX11_readsCompared 64 = .ok (.invokevirtual 177, 3) := by decide +kernel
theorem dX11_readsCompared_67 : decode cX11_readsCompared 67 = .ok (.ireturn, 1) := by decide +kernel
theorem dX11_readsCompared_68 : decode cX11_readsCompared 68 = .ok (.aload_n 0, 1) := by decide +kernel
theorem dX11_readsCompared_69 : decode cX11_readsCompared 69 = .ok (.aload_n 0, 1) := by decide +kernel
theorem dX11_readsCompared_70 : decode cX11_readsCompared 70 = .ok (.getfield 164, 3) := by decide +kernel
theorem dX11_readsCompared_73 : decode cX11_readsCompared 73 = .ok (.iconst 1, 1) := by decide +kernel
theorem dX11_readsCompared_74 : decode cX11_readsCompared 74 = .ok (.iadd, 1) := by decide +kernel
theorem dX11_readsCompared_75 : decode cX11_readsCompared 75 = .ok (.putfield 164, 3) := by decide +kernel
theorem dX11_readsCompared_78 : decode cX11_readsCompared 78 = .ok (.aload_n 0, 1) := by decide +kernel
theorem dX11_readsCompared_79 : decode cX11_readsCompared 79 = .ok (.invokevirtual 226, 3) := by decide +kernel
theorem dX11_readsCompared_82 : decode cX11_readsCompared 82 = .ok (.ifCond .ne 5, 3) := by decide +kernel
theorem dX11_readsCompared_85 : decode cX11_readsCompared 85 = .ok (.iconst 0, 1) := by decide +kernel
theorem dX11_readsCompared_86 : decode cX11_readsCompared 86 = .ok (.ireturn, 1) := by decide +kernel
theorem dX11_readsCompared_87 : decode cX11_readsCompared 87 = .ok (.aload_n 0, 1) := by decide +kernel
theorem dX11_readsCompared_88 : decode cX11_readsCompared 88 = .ok (.iload_n 1, 1) := by decide +kernel
theorem dX11_readsCompared_89 : decode cX11_readsCompared 89 = .ok (.iconst 0, 1) := by decide +kernel
theorem dX11_readsCompared_90 : decode cX11_readsCompared 90 = .ok (.invokevirtual 200, 3) := by decide +kernel
theorem dX11_readsCompared_93 : decode cX11_readsCompared 93 = .ok (.aload_n 0, 1) := by decide +kernel
theorem dX11_readsCompared_94 : decode cX11_readsCompared 94 = .ok (.invokevirtual 229, 3) := by decide +kernel
theorem dX11_readsCompared_97 : decode cX11_readsCompared 97 = .ok (.iconst 1, 1) := by decide +kernel
theorem dX11_readsCompared_98 : decode cX11_readsCompared 98 = .ok (.ireturn, 1) := by decide +kernel
theorem dX11_readsCondition_0 : decode cX11_readsCondition 0 = .ok (.aload_n 0, 1) := by decide +kernel
theorem dX11_readsCondition_1 : decode cX11_readsCondition 1 = .ok (.invokevirtual 170, 3) := by decide +kernel
theorem dX11_readsCondition_4 : decode cX11_readsCondition 4 = .ok (.bipush 40, 2) := by decide +kernel
theorem dX11_readsCondition_6 : decode cX11_readsCondition 6 = .ok (.if_icmp .eq 13, 3) := by decide +kernel
theorem dX11_readsCondition_9 : decode cX11_readsCondition 9 = .ok (.aload_n 0, 1) := by decide +kernel
theorem dX11_readsCondition_10 : decode cX11_readsCondition 10 = .ok (.iconst 1, 1) := by decide +kernel
theorem dX11_readsCondition_11 : decode cX11_readsCondition 11 = .ok (.aload_n 0, 1) := by decide +kernel
theorem dX11_readsCondition_12 : decode cX11_readsCondition 12 = .ok (.getfield 164, 3) := by decide +kernel
theorem dX11_readsCondition_15 : decode cX11_readsCondition 15 = .ok (.invokevirtual 177, 3) := by decide +kernel
theorem dX11_readsCondition_18 : decode cX11_readsCondition 18 = .ok (.ireturn, 1) := by decide +kernel
theorem dX11_readsCondition_19 : decode cX11_readsCondition 19 = .ok (.aload_n 0, 1) := by decide +kernel
theorem dX11_readsCondition_20 : decode cX11_readsCondition 20 = .ok (.iconst 0, 1) := by decide +kernel
theorem dX11_readsCondition_21 : decode cX11_readsCondition 21 = .ok (.putfield 191, 3) := by decide +kernel
theorem dX11_readsCondition_24 : decode cX11_readsCondition 24 = .ok (.aload_n 0, 1) := by decide +kernel
theorem dX11_readsCondition_25 : decode cX11_readsCondition 25 = .ok (.iconst 0, 1) := by decide +kernel
theorem dX11_readsCondition_26 : decode cX11_readsCondition 26 = .ok (.putfield 194, 3) := by decide +kernel
theorem dX11_readsCondition_29 : decode cX11_readsCondition 29 = .ok (.aload_n 0, 1) := by decide +kernel
theorem dX11_readsCondition_30 : decode cX11_readsCondition 30 = .ok (.bipush 13, 2) := by decide +kernel
theorem dX11_readsCondition_32 : decode cX11_readsCondition 32 = .ok (.invokevirtual 204, 3) := by decide +kernel
theorem dX11_readsCondition_35 : decode cX11_readsCondition 35 = .ok (.ifCond .ne 5, 3) := by decide +kernel
theorem dX11_readsCondition_38 : decode cX11_readsCondition 38 = .ok (.iconst 0, 1) := by decide +kernel
theorem dX11_readsCondition_39 : decode cX11_readsCondition 39 = .ok (.ireturn, 1) := by decide +kernel
theorem dX11_readsCondition_40 : decode cX11_readsCondition 40 = .ok (.aload_n 0, 1) := by decide +kernel
theorem dX11_readsCondition_41 : decode cX11_readsCondition 41 = .ok (.invokevirtual 170, 3) := by decide +kernel
theorem dX11_readsCondition_44 : decode cX11_readsCondition 44 = .ok (.bipush 33, 2) := by decide +kernel
theorem dX11_readsCondition_46 : decode cX11_readsCondition 46 = .ok (.if_icmp .eq 12, 3) := by decide +kernel
theorem dX11_readsCondition_49 : decode cX11_readsCondition 49 = .ok (.aload_n 0, 1) := by decide +kernel
theorem dX11_readsCondition_50 : decode cX11_readsCondition 50 = .ok (.invokevirtual 170, 3) := by decide +kernel
theorem dX11_readsCondition_53 : decode cX11_readsCondition 53 = .ok (.bipush 40, 2) := by decide +kernel
theorem dX11_readsCondition_55 : decode cX11_readsCondition 55 = .ok (.if_icmp .ne 28, 3) := by decide +kernel
theorem dX11_readsCondition_58 : decode cX11_readsCondition 58 = .ok (.aload_n 0, 1) := by decide +kernel
theorem dX11_readsCondition_59 : decode cX11_readsCondition 59 = .ok (.aload_n 0, 1) := by decide +kernel
theorem dX11_readsCondition_60 : decode cX11_readsCondition 60 = .ok (.invokevirtual 170, 3) := by decide +kernel
theorem dX11_readsCondition_63 : decode cX11_readsCondition 63 = .ok (.bipush 33, 2) := by decide +kernel
theorem dX11_readsCondition_65 : decode cX11_readsCondition 65 = .ok (.if_icmp .ne 8, 3) := by decide +kernel
theorem dX11_readsCondition_68 : decode cX11_readsCondition 68 = .ok (.bipush 10, 2) := by decide +kernel
theorem dX11_readsCondition_70 : decode cX11_readsCondition 70 = .ok (.goto 5, 3) := by decide +kernel
theorem dX11_readsCondition_73 : decode cX11_readsCondition 73 = .ok (.bipush 13, 2) := by decide +kernel
theorem dX11_readsCondition_75 : decode cX11_readsCondition 75 = .ok (.invokevirtual 204, 3) := by decide +kernel
theorem dX11_readsCondition_78 : decode cX11_readsCondition 78 = .ok (.ifCond .ne (-38), 3) := by decide +kernel
theorem dX11_readsCondition_81 : decode cX11_readsCondition 81 = .ok (.iconst 0, 1) := by decide +kernel
theorem dX11_readsCondition_82 : decode cX11_readsCondition 82 = .ok (.ireturn, 1) := by decide +kernel
theorem dX11_readsCondition_83 : decode cX11_readsCondition 83 = .ok (.aload_n 0, 1) := by decide +kernel
theorem dX11_readsCondition_84 : decode cX11_readsCondition 84 = .ok (.invokevirtual 232, 3) := by decide +kernel
theorem dX11_readsCondition_87 : decode cX11_readsCondition 87 = .ok (.ifCond .ne 5, 3) := by decide +kernel
theorem dX11_readsCondition_90 : decode cX11_readsCondition 90 = .ok (.iconst 0, 1) := by decide +kernel
theorem dX11_readsCondition_91 : decode cX11_readsCondition 91 = .ok (.ireturn, 1) := by decide +kernel
theorem dX11_readsCondition_92 : decode cX11_readsCondition 92 = .ok (.aload_n 0, 1) := by decide +kernel
theorem dX11_readsCondition_93 : decode cX11_readsCondition 93 = .ok (.invokevirtual 170, 3) := by decide +kernel
theorem dX11_readsCondition_96 : decode cX11_readsCondition 96 = .ok (.bipush 41, 2) := by decide +kernel
theorem dX11_readsCondition_98 : decode cX11_readsCondition 98 = .ok (.if_icmp .ne 54, 3) := by decide +kernel
theorem dX11_readsCondition_101 : decode cX11_readsCondition 101 = .ok (.aload_n 0, 1) := by decide +kernel
theorem dX11_readsCondition_102 : decode cX11_readsCondition 102 = .ok (.iconst 1, 1) := by decide +kernel
theorem dX11_readsCondition_103 : decode cX11_readsCondition 103 = .ok (.invokevirtual 235, 3) := by decide +kernel
theorem dX11_readsCondition_106 : decode cX11_readsCondition 106 = .ok (.aload_n 0, 1) := by decide +kernel
theorem dX11_readsCondition_107 : decode cX11_readsCondition 107 = .ok (.aload_n 0, 1) := by decide +kernel
theorem dX11_readsCondition_108 : decode cX11_readsCondition 108 = .ok (.getfield 194, 3) := by decide +kernel
theorem dX11_readsCondition_111 : decode cX11_readsCondition 111 = .ok (.iconst 1, 1) := by decide +kernel
theorem dX11_readsCondition_112 : decode cX11_readsCondition 112 = .ok (.isub, 1) := by decide +kernel
theorem dX11_readsCondition_113 : decode cX11_readsCondition 113 = .ok (.putfield 194, 3) := by decide +kernel
theorem dX11_readsCondition_116 : decode cX11_readsCondition 116 = .ok (.aload_n 0, 1) := by decide +kernel
theorem dX11_readsCondition_117 : decode cX11_readsCondition 117 = .ok (.aload_n 0, 1) := by decide +kernel
theorem dX11_readsCondition_118 : decode cX11_readsCondition 118 = .ok (.getfield 191, 3) := by decide +kernel
theorem dX11_readsCondition_121 : decode cX11_readsCondition 121 = .ok (.iconst 1, 1) := by decide +kernel
theorem dX11_readsCondition_122 : decode cX11_readsCondition 122 = .ok (.isub, 1) := by decide +kernel
theorem dX11_readsCondition_123 : decode cX11_readsCondition 123 = .ok (.putfield 191, 3) := by decide +kernel
theorem dX11_readsCondition_126 : decode cX11_readsCondition 126 = .ok (.aload_n 0, 1) := by decide +kernel
theorem dX11_readsCondition_127 : decode cX11_readsCondition 127 = .ok (.aload_n 0, 1) := by decide +kernel
theorem dX11_readsCondition_128 : decode cX11_readsCondition 128 = .ok (.getfield 164, 3) := by decide +kernel
theorem dX11_readsCondition_131 : decode cX11_readsCondition 131 = .ok (.iconst 1, 1) := by decide +kernel
theorem dX11_readsCondition_132 : decode cX11_readsCondition 132 = .ok (.iadd, 1) := by decide +kernel
theorem dX11_readsCondition_133 : decode cX11_readsCondition 133 = .ok (.putfield 164, 3) := by decide +kernel
theorem dX11_readsCondition_136 : decode cX11_readsCondition 136 = .ok (.aload_n 0, 1) := by decide +kernel
theorem dX11_readsCondition_137 : decode cX11_readsCondition 137 = .ok (.getfield 194, 3) := by decide +kernel
theorem dX11_readsCondition_140 : decode cX11_readsCondition 140 = .ok (.ifCond .ne 5, 3) := by decide +kernel
theorem dX11_readsCondition_143 : decode cX11_readsCondition 143 = .ok (.iconst 1, 1) := by decide +kernel
theorem dX11_readsCondition_144 : decode cX11_readsCondition 144 = .ok (.ireturn, 1) := by decide +kernel
theorem dX11_readsCondition_145 : decode cX11_readsCondition 145 = .ok (.aload_n 0, 1) := by decide +kernel
theorem dX11_readsCondition_146 : decode cX11_readsCondition 146 = .ok (.invokevirtual 229, 3) := by decide +kernel
theorem dX11_readsCondition_149 : decode cX11_readsCondition 149 = .ok (.goto (-57), 3) := by decide +kernel
theorem dX11_readsCondition_152 : decode cX11_readsCondition 152 = .ok (.aload_n 0, 1) := by decide +kernel
theorem dX11_readsCondition_153 : decode cX11_readsCondition 153 = .ok (.invokevirtual 170, 3) := by decide +kernel
theorem dX11_readsCondition_156 : decode cX11_readsCondition 156 = .ok (.bipush 38, 2) := by decide +kernel
theorem dX11_readsCondition_158 : decode cX11_readsCondition 158 = .ok (.if_icmp .eq 22, 3) := by decide +kernel
theorem dX11_readsCondition_161 : decode cX11_readsCondition 161 = .ok (.aload_n 0, 1) := by decide +kernel
theorem dX11_readsCondition_162 : decode cX11_readsCondition 162 = .ok (.invokevirtual 170, 3) := by decide +kernel
theorem dX11_readsCondition_165 : decode cX11_readsCondition 165 = .ok (.bipush 124, 2) := by decide +kernel
theorem dX11_readsCondition_167 : decode cX11_readsCondition 167 = .ok (.if_icmp .eq 13, 3) := by decide +kernel
theorem dX11_readsCondition_170 : decode cX11_readsCondition 170 = .ok (.aload_n 0, 1) := by decide +kernel
theorem dX11_readsCondition_171 : decode cX11_readsCondition 171 = .ok (.iconst 1, 1) := by decide +kernel
theorem dX11_readsCondition_172 : decode cX11_readsCondition 172 = .ok (.aload_n 0, 1) := by decide +kernel
theorem dX11_readsCondition_173 : decode cX11_readsCondition 173 = .ok (.getfield 164, 3) := by decide +kernel
theorem dX11_readsCondition_176 : decode cX11_readsCondition 176 = .ok (.invokevirtual 177, 3) := by decide +kernel
theorem dX11_readsCondition_179 : decode cX11_readsCondition 179 = .ok (.ireturn, 1) := by decide +kernel
theorem dX11_readsCondition_180 : decode cX11_readsCondition 180 = .ok (.aload_n 0, 1) := by decide +kernel
theorem dX11_readsCondition_181 : decode cX11_readsCondition 181 = .ok (.aload_n 0, 1) := by decide +kernel
theorem dX11_readsCondition_182 : decode cX11_readsCondition 182 = .ok (.invokevirtual 170, 3) := by decide +kernel
theorem dX11_readsCondition_185 : decode cX11_readsCondition 185 = .ok (.bipush 124, 2) := by decide +kernel
theorem dX11_readsCondition_187 : decode cX11_readsCondition 187 = .ok (.if_icmp .ne 7, 3) := by decide +kernel
theorem dX11_readsCondition_190 : decode cX11_readsCondition 190 = .ok (.iconst 1, 1) := by decide +kernel
theorem dX11_readsCondition_191 : decode cX11_readsCondition 191 = .ok (.goto 4, 3) := by decide +kernel
theorem dX11_readsCondition_194 : decode cX11_readsCondition 194 = .ok (.iconst 0, 1) := by decide +kernel
theorem dX11_readsCondition_195 : decode cX11_readsCondition 195 = .ok (.invokevirtual 235, 3) := by decide +kernel
theorem dX11_readsCondition_198 : decode cX11_readsCondition 198 = .ok (.aload_n 0, 1) := by decide +kernel
theorem dX11_readsCondition_199 : decode cX11_readsCondition 199 = .ok (.aload_n 0, 1) := by decide +kernel
theorem dX11_readsCondition_200 : decode cX11_readsCondition 200 = .ok (.invokevirtual 170, 3) := by decide +kernel
theorem dX11_readsCondition_203 : decode cX11_readsCondition 203 = .ok (.bipush 38, 2) := by decide +kernel
theorem dX11_readsCondition_205 : decode cX11_readsCondition 205 = .ok (.if_icmp .ne 8, 3) := by decide +kernel
theorem dX11_readsCondition_208 : decode cX11_readsCondition 208 = .ok (.bipush 11, 2) := by decide +kernel
theorem dX11_readsCondition_210 : decode cX11_readsCondition 210 = .ok (.goto 5, 3) := by decide +kernel
theorem dX11_readsCondition_213 : decode cX11_readsCondition 213 = .ok (.bipush 12, 2) := by decide +kernel
theorem dX11_readsCondition_215 : decode cX11_readsCondition 215 = .ok (.invokevirtual 238, 3) := by decide +kernel
theorem dX11_readsCondition_218 : decode cX11_readsCondition 218 = .ok (.goto (-178), 3) := by decide +kernel
theorem dX11_readsRule_0 : decode cX11_readsRule 0 = .ok (.aload_n 0, 1) := by decide +kernel
theorem dX11_readsRule_1 : decode cX11_readsRule 1 = .ok (.invokevirtual 170, 3) := by decide +kernel
theorem dX11_readsRule_4 : decode cX11_readsRule 4 = .ok (.istore_n 1, 1) := by decide +kernel
theorem dX11_readsRule_5 : decode cX11_readsRule 5 = .ok (.iload_n 1, 1) := by decide +kernel
theorem dX11_readsRule_6 : decode cX11_readsRule 6 = .ok (.bipush 101, 2) := by decide +kernel
theorem dX11_readsRule_8 : decode cX11_readsRule 8 = .ok (.if_icmp .eq 25, 3) := by decide +kernel
theorem dX11_readsRule_11 : decode cX11_readsRule 11 = .ok (.iload_n 1, 1) := by decide +kernel
theorem dX11_readsRule_12 : decode cX11_readsRule 12 = .ok (.bipush 114, 2) := by decide +kernel
theorem dX11_readsRule_14 : decode cX11_readsRule 14 = .ok (.if_icmp .eq 19, 3) := by decide +kernel
theorem dX11_readsRule_17 : decode cX11_readsRule 17 = .ok (.iload_n 1, 1) := by decide +kernel
theorem dX11_readsRule_18 : decode cX11_readsRule 18 = .ok (.bipush 120, 2) := by decide +kernel
theorem dX11_readsRule_20 : decode cX11_readsRule 20 = .ok (.if_icmp .eq 13, 3) := by decide +kernel
theorem dX11_readsRule_23 : decode cX11_readsRule 23 = .ok (.aload_n 0, 1) := by decide +kernel
theorem dX11_readsRule_24 : decode cX11_readsRule 24 = .ok (.iconst 1, 1) := by decide +kernel
theorem dX11_readsRule_25 : decode cX11_readsRule 25 = .ok (.aload_n 0, 1) := by decide +kernel
theorem dX11_readsRule_26 : decode cX11_readsRule 26 = .ok (.getfield 164, 3) := by decide +kernel
theorem dX11_readsRule_29 : decode cX11_readsRule 29 = .ok (.invokevirtual 177, 3) := by decide +kernel
theorem dX11_readsRule_32 : decode cX11_readsRule 32 = .ok (.ireturn, 1) := by decide +kernel
theorem dX11_readsRule_33 : decode cX11_readsRule 33 = .ok (.aload_n 0, 1) := by decide +kernel
theorem dX11_readsRule_34 : decode cX11_readsRule 34 = .ok (.getfield 241, 3) := by decide +kernel
theorem dX11_readsRule_37 : decode cX11_readsRule 37 = .ok (.bipush 16, 2) := by decide +kernel
theorem dX11_readsRule_39 : decode cX11_readsRule 39 = .ok (.if_icmp .ne 13, 3) := by decide +kernel
theorem dX11_readsRule_42 : decode cX11_readsRule 42 = .ok (.aload_n 0, 1) := by decide +kernel
theorem dX11_readsRule_43 : decode cX11_readsRule 43 = .ok (.iconst 4, 1) := by decide +kernel
theorem dX11_readsRule_44 : decode cX11_readsRule 44 = .ok (.aload_n 0, 1) := by decide +kernel
theorem dX11_readsRule_45 : decode cX11_readsRule 45 = .ok (.getfield 164, 3) := by decide +kernel
theorem dX11_readsRule_48 : decode cX11_readsRule 48 = .ok (.invokevirtual 177, 3) := by decide +kernel
theorem dX11_readsRule_51 : decode cX11_readsRule 51 = .ok (.ireturn, 1) := by decide +kernel
theorem dX11_readsRule_52 : decode cX11_readsRule 52 = .ok (.aload_n 0, 1) := by decide +kernel
theorem dX11_readsRule_53 : decode cX11_readsRule 53 = .ok (.getfield 38, 3) := by decide +kernel
theorem dX11_readsRule_56 : decode cX11_readsRule 56 = .ok (.aload_n 0, 1) := by decide +kernel
theorem dX11_readsRule_57 : decode cX11_readsRule 57 = .ok (.getfield 241, 3) := by decide +kernel
theorem dX11_readsRule_60 : decode cX11_readsRule 60 = .ok (.iload_n 1, 1) := by decide +kernel
theorem dX11_readsRule_61 : decode cX11_readsRule 61 = .ok (.iastore, 1) := by decide +kernel
theorem dX11_readsRule_62 : decode cX11_readsRule 62 = .ok (.aload_n 0, 1) := by decide +kernel
theorem dX11_readsRule_63 : decode cX11_readsRule 63 = .ok (.aload_n 0, 1) := by decide +kernel
theorem dX11_readsRule_64 : decode cX11_readsRule 64 = .ok (.getfield 164, 3) := by decide +kernel
theorem dX11_readsRule_67 : decode cX11_readsRule 67 = .ok (.iconst 1, 1) := by decide +kernel
theorem dX11_readsRule_68 : decode cX11_readsRule 68 = .ok (.iadd, 1) := by decide +kernel
theorem dX11_readsRule_69 : decode cX11_readsRule 69 = .ok (.putfield 164, 3) := by decide +kernel
theorem dX11_readsRule_72 : decode cX11_readsRule 72 = .ok (.aload_n 0, 1) := by decide +kernel
theorem dX11_readsRule_73 : decode cX11_readsRule 73 = .ok (.getfield 41, 3) := by decide +kernel
theorem dX11_readsRule_76 : decode cX11_readsRule 76 = .ok (.aload_n 0, 1) := by decide +kernel
theorem dX11_readsRule_77 : decode cX11_readsRule 77 = .ok (.getfield 241, 3) := by decide +kernel
theorem dX11_readsRule_80 : decode cX11_readsRule 80 = .ok (.aload_n 0, 1) := by decide +kernel
theorem dX11_readsRule_81 : decode cX11_readsRule 81 = .ok (.getfield 187, 3) := by decide +kernel
theorem dX11_readsRule_84 : decode cX11_readsRule 84 = .ok (.iastore, 1) := by decide +kernel
theorem dX11_readsRule_85 : decode cX11_readsRule 85 = .ok (.aload_n 0, 1) := by decide +kernel
theorem dX11_readsRule_86 : decode cX11_readsRule 86 = .ok (.iconst 0, 1) := by decide +kernel
theorem dX11_readsRule_87 : decode cX11_readsRule 87 = .ok (.putfield 191, 3) := by decide +kernel
theorem dX11_readsRule_90 : decode cX11_readsRule 90 = .ok (.aload_n 0, 1) := by decide +kernel
theorem dX11_readsRule_91 : decode cX11_readsRule 91 = .ok (.iconst 0, 1) := by decide +kernel
theorem dX11_readsRule_92 : decode cX11_readsRule 92 = .ok (.putfield 194, 3) := by decide +kernel
theorem dX11_readsRule_95 : decode cX11_readsRule 95 = .ok (.iload_n 1, 1) := by decide +kernel
theorem dX11_readsRule_96 : decode cX11_readsRule 96 = .ok (.bipush 120, 2) := by decide +kernel
theorem dX11_readsRule_98 : decode cX11_readsRule 98 = .ok (.if_icmp .eq 12, 3) := by decide +kernel
theorem dX11_readsRule_101 : decode cX11_readsRule 101 = .ok (.aload_n 0, 1) := by decide +kernel
theorem dX11_readsRule_102 : decode cX11_readsRule 102 = .ok (.invokevirtual 226, 3) := by decide +kernel
theorem dX11_readsRule_105 : decode cX11_readsRule 105 = .ok (.ifCond .ne 5, 3) := by decide +kernel
theorem dX11_readsRule_108 : decode cX11_readsRule 108 = .ok (.iconst 0, 1) := by decide +kernel
theorem dX11_readsRule_109 : decode cX11_readsRule 109 = .ok (.ireturn, 1) := by decide +kernel
theorem dX11_readsRule_110 : decode cX11_readsRule 110 = .ok (.aload_n 0, 1) := by decide +kernel
theorem dX11_readsRule_111 : decode cX11_readsRule 111 = .ok (.getfield 44, 3) := by decide +kernel
theorem dX11_readsRule_114 : decode cX11_readsRule 114 = .ok (.aload_n 0, 1) := by decide +kernel
theorem dX11_readsRule_115 : decode cX11_readsRule 115 = .ok (.getfield 241, 3) := by decide +kernel
theorem dX11_readsRule_118 : decode cX11_readsRule 118 = .ok (.aload_n 0, 1) := by decide +kernel
theorem dX11_readsRule_119 : decode cX11_readsRule 119 = .ok (.getfield 187, 3) := by decide +kernel
theorem dX11_readsRule_122 : decode cX11_readsRule 122 = .ok (.iastore, 1) := by decide +kernel
theorem dX11_readsRule_123 : decode cX11_readsRule 123 = .ok (.aload_n 0, 1) := by decide +kernel
theorem dX11_readsRule_124 : decode cX11_readsRule 124 = .ok (.invokevirtual 244, 3) := by decide +kernel
theorem dX11_readsRule_127 : decode cX11_readsRule 127 = .ok (.ifCond .ne 5, 3) := by decide +kernel
theorem dX11_readsRule_130 : decode cX11_readsRule 130 = .ok (.iconst 0, 1) := by decide +kernel
theorem dX11_readsRule_131 : decode cX11_readsRule 131 = .ok (.ireturn, 1) := by decide +kernel
theorem dX11_readsRule_132 : decode cX11_readsRule 132 = .ok (.aload_n 0, 1) := by decide +kernel
theorem dX11_readsRule_133 : decode cX11_readsRule 133 = .ok (.getfield 47, 3) := by decide +kernel
theorem dX11_readsRule_136 : decode cX11_readsRule 136 = .ok (.aload_n 0, 1) := by decide +kernel
theorem dX11_readsRule_137 : decode cX11_readsRule 137 = .ok (.getfield 241, 3) := by decide +kernel
theorem dX11_readsRule_140 : decode cX11_readsRule 140 = .ok (.aload_n 0, 1) := by decide +kernel
theorem dX11_readsRule_141 : decode cX11_readsRule 141 = .ok (.getfield 187, 3) := by decide +kernel
theorem dX11_readsRule_144 : decode cX11_readsRule 144 = .ok (.iastore, 1) := by decide +kernel
theorem dX11_readsRule_145 : decode cX11_readsRule 145 = .ok (.aload_n 0, 1) := by decide +kernel
theorem dX11_readsRule_146 : decode cX11_readsRule 146 = .ok (.aload_n 0, 1) := by decide +kernel
theorem dX11_readsRule_147 : decode cX11_readsRule 147 = .ok (.getfield 241, 3) := by decide +kernel
theorem dX11_readsRule_150 : decode cX11_readsRule 150 = .ok (.iconst 1, 1) := by decide +kernel
theorem dX11_readsRule_151 : decode cX11_readsRule 151 = .ok (.iadd, 1) := by decide +kernel
theorem dX11_readsRule_152 : decode cX11_readsRule 152 = .ok (.putfield 241, 3) := by decide +kernel
theorem dX11_readsRule_155 : decode cX11_readsRule 155 = .ok (.iconst 1, 1) := by decide +kernel
theorem dX11_readsRule_156 : decode cX11_readsRule 156 = .ok (.ireturn, 1) := by decide +kernel
theorem dX11_beginsText_0 : decode cX11_beginsText 0 = .ok (.aload_n 0, 1) := by decide +kernel
theorem dX11_beginsText_1 : decode cX11_beginsText 1 = .ok (.iconst 0, 1) := by decide +kernel
theorem dX11_beginsText_2 : decode cX11_beginsText 2 = .ok (.putfield 164, 3) := by decide +kernel
theorem dX11_beginsText_5 : decode cX11_beginsText 5 = .ok (.aload_n 0, 1) := by decide +kernel
theorem dX11_beginsText_6 : decode cX11_beginsText 6 = .ok (.iload_n 1, 1) := by decide +kernel
theorem dX11_beginsText_7 : decode cX11_beginsText 7 = .ok (.putfield 167, 3) := by decide +kernel
theorem dX11_beginsText_10 : decode cX11_beginsText 10 = .ok (.aload_n 0, 1) := by decide +kernel
theorem dX11_beginsText_11 : decode cX11_beginsText 11 = .ok (.iconst 0, 1) := by decide +kernel
theorem dX11_beginsText_12 : decode cX11_beginsText 12 = .ok (.putfield 187, 3) := by decide +kernel
theorem dX11_beginsText_15 : decode cX11_beginsText 15 = .ok (.aload_n 0, 1) := by decide +kernel
theorem dX11_beginsText_16 : decode cX11_beginsText 16 = .ok (.iconst 0, 1) := by decide +kernel
theorem dX11_beginsText_17 : decode cX11_beginsText 17 = .ok (.putfield 241, 3) := by decide +kernel
theorem dX11_beginsText_20 : decode cX11_beginsText 20 = .ok (.return_, 1) := by decide +kernel
theorem dX11_law_0 : decode cX11_law 0 = .ok (.iload_n 1, 1) := by decide +kernel
theorem dX11_law_1 : decode cX11_law 1 = .ok (.iconst 1, 1) := by decide +kernel
theorem dX11_law_2 : decode cX11_law 2 = .ok (.sipush 240, 3) := by decide +kernel
theorem dX11_law_5 : decode cX11_law 5 = .ok (.invokestatic 125, 3) := by decide +kernel
theorem dX11_law_8 : decode cX11_law 8 = .ok (.ifCond .eq 11, 3) := by decide +kernel
theorem dX11_law_11 : decode cX11_law 11 = .ok (.iload_n 1, 1) := by decide +kernel
theorem dX11_law_12 : decode cX11_law 12 = .ok (.aload_n 0, 1) := by decide +kernel
theorem dX11_law_13 : decode cX11_law 13 = .ok (.getfield 158, 3) := by decide +kernel
theorem dX11_law_16 : decode cX11_law 16 = .ok (.if_icmp .le 5, 3) := by decide +kernel
theorem dX11_law_19 : decode cX11_law 19 = .ok (.iconst (-1), 1) := by decide +kernel
theorem dX11_law_20 : decode cX11_law 20 = .ok (.ireturn, 1) := by decide +kernel
theorem dX11_law_21 : decode cX11_law 21 = .ok (.aload_n 0, 1) := by decide +kernel
theorem dX11_law_22 : decode cX11_law 22 = .ok (.iload_n 1, 1) := by decide +kernel
theorem dX11_law_23 : decode cX11_law 23 = .ok (.invokevirtual 247, 3) := by decide +kernel
theorem dX11_law_26 : decode cX11_law 26 = .ok (.aload_n 0, 1) := by decide +kernel
theorem dX11_law_27 : decode cX11_law 27 = .ok (.invokevirtual 250, 3) := by decide +kernel
theorem dX11_law_30 : decode cX11_law 30 = .ok (.istore_n 2, 1) := by decide +kernel
theorem dX11_law_31 : decode cX11_law 31 = .ok (.iload_n 2, 1) := by decide +kernel
theorem dX11_law_32 : decode cX11_law 32 = .ok (.ifCond .eq 39, 3) := by decide +kernel
theorem dX11_law_35 : decode cX11_law 35 = .ok (.aload_n 0, 1) := by decide +kernel
theorem dX11_law_36 : decode cX11_law 36 = .ok (.getfield 164, 3) := by decide +kernel
theorem dX11_law_39 : decode cX11_law 39 = .ok (.aload_n 0, 1) := by decide +kernel
theorem dX11_law_40 : decode cX11_law 40 = .ok (.getfield 167, 3) := by decide +kernel
theorem dX11_law_43 : decode cX11_law 43 = .ok (.if_icmp .ge 28, 3) := by decide +kernel
theorem dX11_law_46 : decode cX11_law 46 = .ok (.aload_n 0, 1) := by decide +kernel
theorem dX11_law_47 : decode cX11_law 47 = .ok (.bipush 59, 2) := by decide +kernel
theorem dX11_law_49 : decode cX11_law 49 = .ok (.invokevirtual 253, 3) := by decide +kernel
theorem dX11_law_52 : decode cX11_law 52 = .ok (.ifCond .eq 14, 3) := by decide +kernel
theorem dX11_law_55 : decode cX11_law 55 = .ok (.aload_n 0, 1) := by decide +kernel
theorem dX11_law_56 : decode cX11_law 56 = .ok (.invokevirtual 250, 3) := by decide +kernel
theorem dX11_law_59 : decode cX11_law 59 = .ok (.ifCond .eq 7, 3) := by decide +kernel
theorem dX11_law_62 : decode cX11_law 62 = .ok (.iconst 1, 1) := by decide +kernel
theorem dX11_law_63 : decode cX11_law 63 = .ok (.goto 4, 3) := by decide +kernel
theorem dX11_law_66 : decode cX11_law 66 = .ok (.iconst 0, 1) := by decide +kernel
theorem dX11_law_67 : decode cX11_law 67 = .ok (.istore_n 2, 1) := by decide +kernel
theorem dX11_law_68 : decode cX11_law 68 = .ok (.goto (-37), 3) := by decide +kernel
theorem dX11_law_71 : decode cX11_law 71 = .ok (.aload_n 0, 1) := by decide +kernel
theorem dX11_law_72 : decode cX11_law 72 = .ok (.iconst 0, 1) := by decide +kernel
theorem dX11_law_73 : decode cX11_law 73 = .ok (.putfield 158, 3) := by decide +kernel
theorem dX11_law_76 : decode cX11_law 76 = .ok (.iload_n 2, 1) := by decide +kernel
theorem dX11_law_77 : decode cX11_law 77 = .ok (.ifCond .ne 8, 3) := by decide +kernel
theorem dX11_law_80 : decode cX11_law 80 = .ok (.aload_n 0, 1) := by decide +kernel
theorem dX11_law_81 : decode cX11_law 81 = .ok (.getfield 174, 3) := by decide +kernel
theorem dX11_law_84 : decode cX11_law 84 = .ok (.ireturn, 1) := by decide +kernel
theorem dX11_law_85 : decode cX11_law 85 = .ok (.aload_n 0, 1) := by decide +kernel
theorem dX11_law_86 : decode cX11_law 86 = .ok (.aload_n 0, 1) := by decide +kernel
theorem dX11_law_87 : decode cX11_law 87 = .ok (.getfield 241, 3) := by decide +kernel
theorem dX11_law_90 : decode cX11_law 90 = .ok (.putfield 256, 3) := by decide +kernel
theorem dX11_law_93 : decode cX11_law 93 = .ok (.iconst 0, 1) := by decide +kernel
theorem dX11_law_94 : decode cX11_law 94 = .ok (.istore_n 3, 1) := by decide +kernel
theorem dX11_law_95 : decode cX11_law 95 = .ok (.iload_n 3, 1) := by decide +kernel
theorem dX11_law_96 : decode cX11_law 96 = .ok (.aload_n 0, 1) := by decide +kernel
theorem dX11_law_97 : decode cX11_law 97 = .ok (.getfield 187, 3) := by decide +kernel
theorem dX11_law_100 : decode cX11_law 100 = .ok (.if_icmp .ge 21, 3) := by decide +kernel
theorem dX11_law_103 : decode cX11_law 103 = .ok (.aload_n 0, 1) := by decide +kernel
theorem dX11_law_104 : decode cX11_law 104 = .ok (.getfield 50, 3) := by decide +kernel
theorem dX11_law_107 : decode cX11_law 107 = .ok (.iload_n 3, 1) := by decide +kernel
theorem dX11_law_108 : decode cX11_law 108 = .ok (.aload_n 0, 1) := by decide +kernel
theorem dX11_law_109 : decode cX11_law 109 = .ok (.getfield 32, 3) := by decide +kernel
theorem dX11_law_112 : decode cX11_law 112 = .ok (.iload_n 3, 1) := by decide +kernel
theorem dX11_law_113 : decode cX11_law 113 = .ok (.iaload, 1) := by decide +kernel
theorem dX11_law_114 : decode cX11_law 114 = .ok (.iastore, 1) := by decide +kernel
theorem dX11_law_115 : decode cX11_law 115 = .ok (.iinc 3 1, 3) := by decide +kernel
theorem dX11_law_118 : decode cX11_law 118 = .ok (.goto (-23), 3) := by decide +kernel
theorem dX11_law_121 : decode cX11_law 121 = .ok (.iconst 0, 1) := by decide +kernel
theorem dX11_law_122 : decode cX11_law 122 = .ok (.istore_n 3, 1) := by decide +kernel
theorem dX11_law_123 : decode cX11_law 123 = .ok (.iload_n 3, 1) := by decide +kernel
theorem dX11_law_124 : decode cX11_law 124 = .ok (.aload_n 0, 1) := by decide +kernel
theorem dX11_law_125 : decode cX11_law 125 = .ok (.getfield 241, 3) := by decide +kernel
theorem dX11_law_128 : decode cX11_law 128 = .ok (.if_icmp .ge 57, 3) := by decide +kernel
theorem dX11_law_131 : decode cX11_law 131 = .ok (.aload_n 0, 1) := by decide +kernel
theorem dX11_law_132 : decode cX11_law 132 = .ok (.getfield 53, 3) := by decide +kernel
theorem dX11_law_135 : decode cX11_law 135 = .ok (.iload_n 3, 1) := by decide +kernel
theorem dX11_law_136 : decode cX11_law 136 = .ok (.aload_n 0, 1) := by decide +kernel
theorem dX11_law_137 : decode cX11_law 137 = .ok (.getfield 38, 3) := by decide +kernel
theorem dX11_law_140 : decode cX11_law 140 = .ok (.iload_n 3, 1) := by decide +kernel
theorem dX11_law_141 : decode cX11_law 141 = .ok (.iaload, 1) := by decide +kernel
theorem dX11_law_142 : decode cX11_law 142 = .ok (.iastore, 1) := by decide +kernel
theorem dX11_law_143 : decode cX11_law 143 = .ok (.aload_n 0, 1) := by decide +kernel
theorem dX11_law_144 : decode cX11_law 144 = .ok (.getfield 56, 3) := by decide +kernel
theorem dX11_law_147 : decode cX11_law 147 = .ok (.iload_n 3, 1) := by decide +kernel
theorem dX11_law_148 : decode cX11_law 148 = .ok (.aload_n 0, 1) := by decide +kernel
theorem dX11_law_149 : decode cX11_law 149 = .ok (.getfield 41, 3) := by decide +kernel
theorem dX11_law_152 : decode cX11_law 152 = .ok (.iload_n 3, 1) := by decide +kernel
theorem dX11_law_153 : decode cX11_law 153 = .ok (.iaload, 1) := by decide +kernel
theorem dX11_law_154 : decode cX11_law 154 = .ok (.iastore, 1) := by decide +kernel
theorem dX11_law_155 : decode cX11_law 155 = .ok (.aload_n 0, 1) := by decide +kernel
theorem dX11_law_156 : decode cX11_law 156 = .ok (.getfield 59, 3) := by decide +kernel
theorem dX11_law_159 : decode cX11_law 159 = .ok (.iload_n 3, 1) := by decide +kernel
theorem dX11_law_160 : decode cX11_law 160 = .ok (.aload_n 0, 1) := by decide +kernel
theorem dX11_law_161 : decode cX11_law 161 = .ok (.getfield 44, 3) := by decide +kernel
theorem dX11_law_164 : decode cX11_law 164 = .ok (.iload_n 3, 1) := by decide +kernel
theorem dX11_law_165 : decode cX11_law 165 = .ok (.iaload, 1) := by decide +kernel
theorem dX11_law_166 : decode cX11_law 166 = .ok (.iastore, 1) := by decide +kernel
theorem dX11_law_167 : decode cX11_law 167 = .ok (.aload_n 0, 1) := by decide +kernel
theorem dX11_law_168 : decode cX11_law 168 = .ok (.getfield 62, 3) := by decide +kernel
theorem dX11_law_171 : decode cX11_law 171 = .ok (.iload_n 3, 1) := by decide +kernel
theorem dX11_law_172 : decode cX11_law 172 = .ok (.aload_n 0, 1) := by decide +kernel
theorem dX11_law_173 : decode cX11_law 173 = .ok (.getfield 47, 3) := by decide +kernel
theorem dX11_law_176 : decode cX11_law 176 = .ok (.iload_n 3, 1) := by decide +kernel
theorem dX11_law_177 : decode cX11_law 177 = .ok (.iaload, 1) := by decide +kernel
theorem dX11_law_178 : decode cX11_law 178 = .ok (.iastore, 1) := by decide +kernel
theorem dX11_law_179 : decode cX11_law 179 = .ok (.iinc 3 1, 3) := by decide +kernel
theorem dX11_law_182 : decode cX11_law 182 = .ok (.goto (-59), 3) := by decide +kernel
theorem dX11_law_185 : decode cX11_law 185 = .ok (.aload_n 0, 1) := by decide +kernel
theorem dX11_law_186 : decode cX11_law 186 = .ok (.getfield 241, 3) := by decide +kernel
theorem dX11_law_189 : decode cX11_law 189 = .ok (.ireturn, 1) := by decide +kernel
theorem dX11_reckon_0 : decode cX11_reckon 0 = .ok (.iload_n 0, 1) := by decide +kernel
theorem dX11_reckon_1 : decode cX11_reckon 1 = .ok (.tableswitch 85 2 8 #[43, 47, 51, 55, 59, 63, 74], 43) := by decide +kernel
theorem dX11_reckon_44 : decode cX11_reckon 44 = .ok (.iload_n 1, 1) := by decide +kernel
theorem dX11_reckon_45 : decode cX11_reckon 45 = .ok (.iload_n 2, 1) := by decide +kernel
theorem dX11_reckon_46 : decode cX11_reckon 46 = .ok (.iadd, 1) := by decide +kernel
theorem dX11_reckon_47 : decode cX11_reckon 47 = .ok (.ireturn, 1) := by decide +kernel
theorem dX11_reckon_48 : decode cX11_reckon 48 = .ok (.iload_n 1, 1) := by decide +kernel
theorem dX11_reckon_49 : decode cX11_reckon 49 = .ok (.iload_n 2, 1) := by decide +kernel
theorem dX11_reckon_50 : decode cX11_reckon 50 = .ok (.isub, 1) := by decide +kernel
theorem dX11_reckon_51 : decode cX11_reckon 51 = .ok (.ireturn, 1) := by decide +kernel
theorem dX11_reckon_52 : decode cX11_reckon 52 = .ok (.iload_n 1, 1) := by decide +kernel
theorem dX11_reckon_53 : decode cX11_reckon 53 = .ok (.iload_n 2, 1) := by decide +kernel
theorem dX11_reckon_54 : decode cX11_reckon 54 = .ok (.imul, 1) := by decide +kernel
theorem dX11_reckon_55 : decode cX11_reckon 55 = .ok (.ireturn, 1) := by decide +kernel
theorem dX11_reckon_56 : decode cX11_reckon 56 = .ok (.iload_n 1, 1) := by decide +kernel
theorem dX11_reckon_57 : decode cX11_reckon 57 = .ok (.iload_n 2, 1) := by decide +kernel
theorem dX11_reckon_58 : decode cX11_reckon 58 = .ok (.idiv, 1) := by decide +kernel
theorem dX11_reckon_59 : decode cX11_reckon 59 = .ok (.ireturn, 1) := by decide +kernel
theorem dX11_reckon_60 : decode cX11_reckon 60 = .ok (.iload_n 1, 1) := by decide +kernel
theorem dX11_reckon_61 : decode cX11_reckon 61 = .ok (.iload_n 2, 1) := by decide +kernel
theorem dX11_reckon_62 : decode cX11_reckon 62 = .ok (.irem, 1) := by decide +kernel
theorem dX11_reckon_63 : decode cX11_reckon 63 = .ok (.ireturn, 1) := by decide +kernel
theorem dX11_reckon_64 : decode cX11_reckon 64 = .ok (.iload_n 1, 1) := by decide +kernel
theorem dX11_reckon_65 : decode cX11_reckon 65 = .ok (.iload_n 2, 1) := by decide +kernel
theorem dX11_reckon_66 : decode cX11_reckon 66 = .ok (.if_icmp .ge 7, 3) := by decide +kernel
theorem dX11_reckon_69 : decode cX11_reckon 69 = .ok (.iconst 1, 1) := by decide +kernel
theorem dX11_reckon_70 : decode cX11_reckon 70 = .ok (.goto 4, 3) := by decide +kernel
theorem dX11_reckon_73 : decode cX11_reckon 73 = .ok (.iconst 0, 1) := by decide +kernel
theorem dX11_reckon_74 : decode cX11_reckon 74 = .ok (.ireturn, 1) := by decide +kernel
theorem dX11_reckon_75 : decode cX11_reckon 75 = .ok (.iload_n 1, 1) := by decide +kernel
theorem dX11_reckon_76 : decode cX11_reckon 76 = .ok (.iload_n 2, 1) := by decide +kernel
theorem dX11_reckon_77 : decode cX11_reckon 77 = .ok (.if_icmp .le 7, 3) := by decide +kernel
theorem dX11_reckon_80 : decode cX11_reckon 80 = .ok (.iconst 1, 1) := by decide +kernel
theorem dX11_reckon_81 : decode cX11_reckon 81 = .ok (.goto 4, 3) := by decide +kernel
theorem dX11_reckon_84 : decode cX11_reckon 84 = .ok (.iconst 0, 1) := by decide +kernel
theorem dX11_reckon_85 : decode cX11_reckon 85 = .ok (.ireturn, 1) := by decide +kernel
theorem dX11_reckon_86 : decode cX11_reckon 86 = .ok (.iload_n 1, 1) := by decide +kernel
theorem dX11_reckon_87 : decode cX11_reckon 87 = .ok (.iload_n 2, 1) := by decide +kernel
theorem dX11_reckon_88 : decode cX11_reckon 88 = .ok (.if_icmp .ne 7, 3) := by decide +kernel
theorem dX11_reckon_91 : decode cX11_reckon 91 = .ok (.iconst 1, 1) := by decide +kernel
theorem dX11_reckon_92 : decode cX11_reckon 92 = .ok (.goto 4, 3) := by decide +kernel
theorem dX11_reckon_95 : decode cX11_reckon 95 = .ok (.iconst 0, 1) := by decide +kernel
theorem dX11_reckon_96 : decode cX11_reckon 96 = .ok (.ireturn, 1) := by decide +kernel
theorem dX11_reckonsTo_0 : decode cX11_reckonsTo 0 = .ok (.iconst 0, 1) := by decide +kernel
theorem dX11_reckonsTo_1 : decode cX11_reckonsTo 1 = .ok (.istore_n 3, 1) := by decide +kernel
theorem dX11_reckonsTo_2 : decode cX11_reckonsTo 2 = .ok (.sipush 260, 3) := by decide +kernel
theorem dX11_reckonsTo_5 : decode cX11_reckonsTo 5 = .ok (.iload_n 1, 1) := by decide +kernel
theorem dX11_reckonsTo_6 : decode cX11_reckonsTo 6 = .ok (.sipush 260, 3) := by decide +kernel
theorem dX11_reckonsTo_9 : decode cX11_reckonsTo 9 = .ok (.idiv, 1) := by decide +kernel
theorem dX11_reckonsTo_10 : decode cX11_reckonsTo 10 = .ok (.imul, 1) := by decide +kernel
theorem dX11_reckonsTo_11 : decode cX11_reckonsTo 11 = .ok (.istore 4, 2) := by decide +kernel
theorem dX11_reckonsTo_13 : decode cX11_reckonsTo 13 = .ok (.iload_n 1, 1) := by decide +kernel
theorem dX11_reckonsTo_14 : decode cX11_reckonsTo 14 = .ok (.istore 5, 2) := by decide +kernel
theorem dX11_reckonsTo_16 : decode cX11_reckonsTo 16 = .ok (.iload 5, 2) := by decide +kernel
theorem dX11_reckonsTo_18 : decode cX11_reckonsTo 18 = .ok (.iload_n 2, 1) := by decide +kernel
theorem dX11_reckonsTo_19 : decode cX11_reckonsTo 19 = .ok (.if_icmp .ge 214, 3) := by decide +kernel
theorem dX11_reckonsTo_22 : decode cX11_reckonsTo 22 = .ok (.aload_n 0, 1) := by decide +kernel
theorem dX11_reckonsTo_23 : decode cX11_reckonsTo 23 = .ok (.getfield 50, 3) := by decide +kernel
theorem dX11_reckonsTo_26 : decode cX11_reckonsTo 26 = .ok (.iload 5, 2) := by decide +kernel
theorem dX11_reckonsTo_28 : decode cX11_reckonsTo 28 = .ok (.iaload, 1) := by decide +kernel
theorem dX11_reckonsTo_29 : decode cX11_reckonsTo 29 = .ok (.ldc 190, 2) := by decide +kernel
theorem dX11_reckonsTo_31 : decode cX11_reckonsTo 31 = .ok (.idiv, 1) := by decide +kernel
theorem dX11_reckonsTo_32 : decode cX11_reckonsTo 32 = .ok (.istore 6, 2) := by decide +kernel
theorem dX11_reckonsTo_34 : decode cX11_reckonsTo 34 = .ok (.aload_n 0, 1) := by decide +kernel
theorem dX11_reckonsTo_35 : decode cX11_reckonsTo 35 = .ok (.getfield 50, 3) := by decide +kernel
theorem dX11_reckonsTo_38 : decode cX11_reckonsTo 38 = .ok (.iload 5, 2) := by decide +kernel
theorem dX11_reckonsTo_40 : decode cX11_reckonsTo 40 = .ok (.iaload, 1) := by decide +kernel
theorem dX11_reckonsTo_41 : decode cX11_reckonsTo 41 = .ok (.ldc 190, 2) := by decide +kernel
theorem dX11_reckonsTo_43 : decode cX11_reckonsTo 43 = .ok (.irem, 1) := by decide +kernel
theorem dX11_reckonsTo_44 : decode cX11_reckonsTo 44 = .ok (.istore 7, 2) := by decide +kernel
theorem dX11_reckonsTo_46 : decode cX11_reckonsTo 46 = .ok (.iload 5, 2) := by decide +kernel
theorem dX11_reckonsTo_48 : decode cX11_reckonsTo 48 = .ok (.iconst 1, 1) := by decide +kernel
theorem dX11_reckonsTo_49 : decode cX11_reckonsTo 49 = .ok (.iadd, 1) := by decide +kernel
theorem dX11_reckonsTo_50 : decode cX11_reckonsTo 50 = .ok (.istore 5, 2) := by decide +kernel
theorem dX11_reckonsTo_52 : decode cX11_reckonsTo 52 = .ok (.iload 6, 2) := by decide +kernel
theorem dX11_reckonsTo_54 : decode cX11_reckonsTo 54 = .ok (.ifCond .eq 9, 3) := by decide +kernel
theorem dX11_reckonsTo_57 : decode cX11_reckonsTo 57 = .ok (.iload 6, 2) := by decide +kernel
theorem dX11_reckonsTo_59 : decode cX11_reckonsTo 59 = .ok (.iconst 1, 1) := by decide +kernel
theorem dX11_reckonsTo_60 : decode cX11_reckonsTo 60 = .ok (.if_icmp .ne 33, 3) := by decide +kernel
theorem dX11_reckonsTo_63 : decode cX11_reckonsTo 63 = .ok (.aload_n 0, 1) := by decide +kernel
theorem dX11_reckonsTo_64 : decode cX11_reckonsTo 64 = .ok (.getfield 65, 3) := by decide +kernel
theorem dX11_reckonsTo_67 : decode cX11_reckonsTo 67 = .ok (.iload_n 3, 1) := by decide +kernel
theorem dX11_reckonsTo_68 : decode cX11_reckonsTo 68 = .ok (.iload 6, 2) := by decide +kernel
theorem dX11_reckonsTo_70 : decode cX11_reckonsTo 70 = .ok (.ifCond .ne 8, 3) := by decide +kernel
theorem dX11_reckonsTo_73 : decode cX11_reckonsTo 73 = .ok (.iload 7, 2) := by decide +kernel
theorem dX11_reckonsTo_75 : decode cX11_reckonsTo 75 = .ok (.goto 10, 3) := by decide +kernel
theorem dX11_reckonsTo_78 : decode cX11_reckonsTo 78 = .ok (.aload_n 0, 1) := by decide +kernel
theorem dX11_reckonsTo_79 : decode cX11_reckonsTo 79 = .ok (.getfield 68, 3) := by decide +kernel
theorem dX11_reckonsTo_82 : decode cX11_reckonsTo 82 = .ok (.iload 7, 2) := by decide +kernel
theorem dX11_reckonsTo_84 : decode cX11_reckonsTo 84 = .ok (.iaload, 1) := by decide +kernel
theorem dX11_reckonsTo_85 : decode cX11_reckonsTo 85 = .ok (.iastore, 1) := by decide +kernel
theorem dX11_reckonsTo_86 : decode cX11_reckonsTo 86 = .ok (.iload_n 3, 1) := by decide +kernel
theorem dX11_reckonsTo_87 : decode cX11_reckonsTo 87 = .ok (.iconst 1, 1) := by decide +kernel
theorem dX11_reckonsTo_88 : decode cX11_reckonsTo 88 = .ok (.iadd, 1) := by decide +kernel
theorem dX11_reckonsTo_89 : decode cX11_reckonsTo 89 = .ok (.istore_n 3, 1) := by decide +kernel
theorem dX11_reckonsTo_90 : decode cX11_reckonsTo 90 = .ok (.goto 140, 3) := by decide +kernel
theorem dX11_reckonsTo_93 : decode cX11_reckonsTo 93 = .ok (.iload 6, 2) := by decide +kernel
theorem dX11_reckonsTo_95 : decode cX11_reckonsTo 95 = .ok (.bipush 10, 2) := by decide +kernel
theorem dX11_reckonsTo_97 : decode cX11_reckonsTo 97 = .ok (.if_icmp .ne 24, 3) := by decide +kernel
theorem dX11_reckonsTo_100 : decode cX11_reckonsTo 100 = .ok (.aload_n 0, 1) := by decide +kernel
theorem dX11_reckonsTo_101 : decode cX11_reckonsTo 101 = .ok (.getfield 65, 3) := by decide +kernel
theorem dX11_reckonsTo_104 : decode cX11_reckonsTo 104 = .ok (.iload_n 3, 1) := by decide +kernel
theorem dX11_reckonsTo_105 : decode cX11_reckonsTo 105 = .ok (.iconst 1, 1) := by decide +kernel
theorem dX11_reckonsTo_106 : decode cX11_reckonsTo 106 = .ok (.isub, 1) := by decide +kernel
theorem dX11_reckonsTo_107 : decode cX11_reckonsTo 107 = .ok (.iconst 1, 1) := by decide +kernel
theorem dX11_reckonsTo_108 : decode cX11_reckonsTo 108 = .ok (.aload_n 0, 1) := by decide +kernel
theorem dX11_reckonsTo_109 : decode cX11_reckonsTo 109 = .ok (.getfield 65, 3) := by decide +kernel
theorem dX11_reckonsTo_112 : decode cX11_reckonsTo 112 = .ok (.iload_n 3, 1) := by decide +kernel
theorem dX11_reckonsTo_113 : decode cX11_reckonsTo 113 = .ok (.iconst 1, 1) := by decide +kernel
theorem dX11_reckonsTo_114 : decode cX11_reckonsTo 114 = .ok (.isub, 1) := by decide +kernel
theorem dX11_reckonsTo_115 : decode cX11_reckonsTo 115 = .ok (.iaload, 1) := by decide +kernel
theorem dX11_reckonsTo_116 : decode cX11_reckonsTo 116 = .ok (.isub, 1) := by decide +kernel
theorem dX11_reckonsTo_117 : decode cX11_reckonsTo 117 = .ok (.iastore, 1) := by decide +kernel
theorem dX11_reckonsTo_118 : decode cX11_reckonsTo 118 = .ok (.goto 112, 3) := by decide +kernel
theorem dX11_reckonsTo_121 : decode cX11_reckonsTo 121 = .ok (.iload 6, 2) := by decide +kernel
theorem dX11_reckonsTo_123 : decode cX11_reckonsTo 123 = .ok (.bipush 11, 2) := by decide +kernel
theorem dX11_reckonsTo_125 : decode cX11_reckonsTo 125 = .ok (.if_icmp .eq 10, 3) := by decide +kernel
theorem dX11_reckonsTo_128 : decode cX11_reckonsTo 128 = .ok (.iload 6, 2) := by decide +kernel
theorem dX11_reckonsTo_130 : decode cX11_reckonsTo 130 = .ok (.bipush 12, 2) := by decide +kernel
theorem dX11_reckonsTo_132 : decode cX11_reckonsTo 132 = .ok (.if_icmp .ne 43, 3) := by decide +kernel
theorem dX11_reckonsTo_135 : decode cX11_reckonsTo 135 = .ok (.aload_n 0, 1) := by decide +kernel
theorem dX11_reckonsTo_136 : decode cX11_reckonsTo 136 = .ok (.getfield 65, 3) := by decide +kernel
theorem dX11_reckonsTo_139 : decode cX11_reckonsTo 139 = .ok (.iload_n 3, 1) := by decide +kernel
theorem dX11_reckonsTo_140 : decode cX11_reckonsTo 140 = .ok (.iconst 1, 1) := by decide +kernel
theorem dX11_reckonsTo_141 : decode cX11_reckonsTo 141 = .ok (.isub, 1) := by decide +kernel
theorem dX11_reckonsTo_142 : decode cX11_reckonsTo 142 = .ok (.iaload, 1) := by decide +kernel
theorem dX11_reckonsTo_143 : decode cX11_reckonsTo 143 = .ok (.iload 6, 2) := by decide +kernel
theorem dX11_reckonsTo_145 : decode cX11_reckonsTo 145 = .ok (.bipush 12, 2) := by decide +kernel
theorem dX11_reckonsTo_147 : decode cX11_reckonsTo 147 = .ok (.if_icmp .ne 7, 3) := by decide +kernel
theorem dX11_reckonsTo_150 : decode cX11_reckonsTo 150 = .ok (.iconst 1, 1) := by decide +kernel
theorem dX11_reckonsTo_151 : decode cX11_reckonsTo 151 = .ok (.goto 4, 3) := by decide +kernel
theorem dX11_reckonsTo_154 : decode cX11_reckonsTo 154 = .ok (.iconst 0, 1) := by decide +kernel
theorem dX11_reckonsTo_155 : decode cX11_reckonsTo 155 = .ok (.if_icmp .ne 13, 3) := by decide +kernel
theorem dX11_reckonsTo_158 : decode cX11_reckonsTo 158 = .ok (.iload 4, 2) := by decide +kernel
theorem dX11_reckonsTo_160 : decode cX11_reckonsTo 160 = .ok (.iload 7, 2) := by decide +kernel
theorem dX11_reckonsTo_162 : decode cX11_reckonsTo 162 = .ok (.iadd, 1) := by decide +kernel
theorem dX11_reckonsTo_163 : decode cX11_reckonsTo 163 = .ok (.istore 5, 2) := by decide +kernel
theorem dX11_reckonsTo_165 : decode cX11_reckonsTo 165 = .ok (.goto 65, 3) := by decide +kernel
theorem dX11_reckonsTo_168 : decode cX11_reckonsTo 168 = .ok (.iload_n 3, 1) := by decide +kernel
theorem dX11_reckonsTo_169 : decode cX11_reckonsTo 169 = .ok (.iconst 1, 1) := by decide +kernel
theorem dX11_reckonsTo_170 : decode cX11_reckonsTo 170 = .ok (.isub, 1) := by decide +kernel
theorem dX11_reckonsTo_171 : decode cX11_reckonsTo 171 = .ok (.istore_n 3, 1) := by decide +kernel
theorem dX11_reckonsTo_172 : decode cX11_reckonsTo 172 = .ok (.goto 58, 3) := by decide +kernel
theorem dX11_reckonsTo_175 : decode cX11_reckonsTo 175 = .ok (.iload_n 3, 1) := by decide +kernel
theorem dX11_reckonsTo_176 : decode cX11_reckonsTo 176 = .ok (.iconst 1, 1) := by decide +kernel
theorem dX11_reckonsTo_177 : decode cX11_reckonsTo 177 = .ok (.isub, 1) := by decide +kernel
theorem dX11_reckonsTo_178 : decode cX11_reckonsTo 178 = .ok (.istore_n 3, 1) := by decide +kernel
theorem dX11_reckonsTo_179 : decode cX11_reckonsTo 179 = .ok (.iload 6, 2) := by decide +kernel
theorem dX11_reckonsTo_181 : decode cX11_reckonsTo 181 = .ok (.iconst 5, 1) := by decide +kernel
theorem dX11_reckonsTo_182 : decode cX11_reckonsTo 182 = .ok (.if_icmp .eq 10, 3) := by decide +kernel
theorem dX11_reckonsTo_185 : decode cX11_reckonsTo 185 = .ok (.iload 6, 2) := by decide +kernel
theorem dX11_reckonsTo_187 : decode cX11_reckonsTo 187 = .ok (.bipush 6, 2) := by decide +kernel
theorem dX11_reckonsTo_189 : decode cX11_reckonsTo 189 = .ok (.if_icmp .ne 14, 3) := by decide +kernel
theorem dX11_reckonsTo_192 : decode cX11_reckonsTo 192 = .ok (.aload_n 0, 1) := by decide +kernel
theorem dX11_reckonsTo_193 : decode cX11_reckonsTo 193 = .ok (.getfield 65, 3) := by decide +kernel
theorem dX11_reckonsTo_196 : decode cX11_reckonsTo 196 = .ok (.iload_n 3, 1) := by decide +kernel
theorem dX11_reckonsTo_197 : decode cX11_reckonsTo 197 = .ok (.iaload, 1) := by decide +kernel
theorem dX11_reckonsTo_198 : decode cX11_reckonsTo 198 = .ok (.ifCond .ne 5, 3) := by decide +kernel
theorem dX11_reckonsTo_201 : decode cX11_reckonsTo 201 = .ok (.iconst 0, 1) := by decide +kernel
theorem dX11_reckonsTo_202 : decode cX11_reckonsTo 202 = .ok (.ireturn, 1) := by decide +kernel
theorem dX11_reckonsTo_203 : decode cX11_reckonsTo 203 = .ok (.aload_n 0, 1) := by decide +kernel
theorem dX11_reckonsTo_204 : decode cX11_reckonsTo 204 = .ok (.getfield 65, 3) := by decide +kernel
theorem dX11_reckonsTo_207 : decode cX11_reckonsTo 207 = .ok (.iload_n 3, 1) := by decide +kernel
theorem dX11_reckonsTo_208 : decode cX11_reckonsTo 208 = .ok (.iconst 1, 1) := by decide +kernel
theorem dX11_reckonsTo_209 : decode cX11_reckonsTo 209 = .ok (.isub, 1) := by decide +kernel
theorem dX11_reckonsTo_210 : decode cX11_reckonsTo 210 = .ok (.iload 6, 2) := by decide +kernel
theorem dX11_reckonsTo_212 : decode cX11_reckonsTo 212 = .ok (.aload_n 0, 1) := by decide +kernel
theorem dX11_reckonsTo_213 : decode cX11_reckonsTo 213 = .ok (.getfield 65, 3) := by decide +kernel
theorem dX11_reckonsTo_216 : decode cX11_reckonsTo 216 = .ok (.iload_n 3, 1) := by decide +kernel
theorem dX11_reckonsTo_217 : decode cX11_reckonsTo 217 = .ok (.iconst 1, 1) := by decide +kernel
theorem dX11_reckonsTo_218 : decode cX11_reckonsTo 218 = .ok (.isub, 1) := by decide +kernel
theorem dX11_reckonsTo_219 : decode cX11_reckonsTo 219 = .ok (.iaload, 1) := by decide +kernel
theorem dX11_reckonsTo_220 : decode cX11_reckonsTo 220 = .ok (.aload_n 0, 1) := by decide +kernel
theorem dX11_reckonsTo_221 : decode cX11_reckonsTo 221 = .ok (.getfield 65, 3) := by decide +kernel
theorem dX11_reckonsTo_224 : decode cX11_reckonsTo 224 = .ok (.iload_n 3, 1) := by decide +kernel
theorem dX11_reckonsTo_225 : decode cX11_reckonsTo 225 = .ok (.iaload, 1) := by decide +kernel
theorem dX11_reckonsTo_226 : decode cX11_reckonsTo 226 = .ok (.invokestatic 259, 3) := by decide +kernel
theorem dX11_reckonsTo_229 : decode cX11_reckonsTo 229 = .ok (.iastore, 1) := by decide +kernel
theorem dX11_reckonsTo_230 : decode cX11_reckonsTo 230 = .ok (.goto (-214), 3) := by decide +kernel
theorem dX11_reckonsTo_233 : decode cX11_reckonsTo 233 = .ok (.aload_n 0, 1) := by decide +kernel
theorem dX11_reckonsTo_234 : decode cX11_reckonsTo 234 = .ok (.getfield 65, 3) := by decide +kernel
theorem dX11_reckonsTo_237 : decode cX11_reckonsTo 237 = .ok (.iconst 0, 1) := by decide +kernel
theorem dX11_reckonsTo_238 : decode cX11_reckonsTo 238 = .ok (.iaload, 1) := by decide +kernel
theorem dX11_reckonsTo_239 : decode cX11_reckonsTo 239 = .ok (.ireturn, 1) := by decide +kernel
theorem dX11_byLaw_0 : decode cX11_byLaw 0 = .ok (.iconst 0, 1) := by decide +kernel
theorem dX11_byLaw_1 : decode cX11_byLaw 1 = .ok (.istore_n 3, 1) := by decide +kernel
theorem dX11_byLaw_2 : decode cX11_byLaw 2 = .ok (.iload_n 3, 1) := by decide +kernel
theorem dX11_byLaw_3 : decode cX11_byLaw 3 = .ok (.aload_n 0, 1) := by decide +kernel
theorem dX11_byLaw_4 : decode cX11_byLaw 4 = .ok (.getfield 256, 3) := by decide +kernel
theorem dX11_byLaw_7 : decode cX11_byLaw 7 = .ok (.if_icmp .ge 82, 3) := by decide +kernel
theorem dX11_byLaw_10 : decode cX11_byLaw 10 = .ok (.aload_n 0, 1) := by decide +kernel
theorem dX11_byLaw_11 : decode cX11_byLaw 11 = .ok (.getfield 53, 3) := by decide +kernel
theorem dX11_byLaw_14 : decode cX11_byLaw 14 = .ok (.iload_n 3, 1) := by decide +kernel
theorem dX11_byLaw_15 : decode cX11_byLaw 15 = .ok (.iaload, 1) := by decide +kernel
theorem dX11_byLaw_16 : decode cX11_byLaw 16 = .ok (.iload_n 1, 1) := by decide +kernel
theorem dX11_byLaw_17 : decode cX11_byLaw 17 = .ok (.if_icmp .ne 66, 3) := by decide +kernel
theorem dX11_byLaw_20 : decode cX11_byLaw 20 = .ok (.aload_n 0, 1) := by decide +kernel
theorem dX11_byLaw_21 : decode cX11_byLaw 21 = .ok (.aload_n 0, 1) := by decide +kernel
theorem dX11_byLaw_22 : decode cX11_byLaw 22 = .ok (.getfield 59, 3) := by decide +kernel
theorem dX11_byLaw_25 : decode cX11_byLaw 25 = .ok (.iload_n 3, 1) := by decide +kernel
theorem dX11_byLaw_26 : decode cX11_byLaw 26 = .ok (.iaload, 1) := by decide +kernel
theorem dX11_byLaw_27 : decode cX11_byLaw 27 = .ok (.aload_n 0, 1) := by decide +kernel
theorem dX11_byLaw_28 : decode cX11_byLaw 28 = .ok (.getfield 62, 3) := by decide +kernel
theorem dX11_byLaw_31 : decode cX11_byLaw 31 = .ok (.iload_n 3, 1) := by decide +kernel
theorem dX11_byLaw_32 : decode cX11_byLaw 32 = .ok (.iaload, 1) := by decide +kernel
theorem dX11_byLaw_33 : decode cX11_byLaw 33 = .ok (.invokevirtual 263, 3) := by decide +kernel
theorem dX11_byLaw_36 : decode cX11_byLaw 36 = .ok (.iconst 1, 1) := by decide +kernel
theorem dX11_byLaw_37 : decode cX11_byLaw 37 = .ok (.if_icmp .eq 6, 3) := by decide +kernel
theorem dX11_byLaw_40 : decode cX11_byLaw 40 = .ok (.goto 43, 3) := by decide +kernel
theorem dX11_byLaw_43 : decode cX11_byLaw 43 = .ok (.aload_n 0, 1) := by decide +kernel
theorem dX11_byLaw_44 : decode cX11_byLaw 44 = .ok (.aload_n 0, 1) := by decide +kernel
theorem dX11_byLaw_45 : decode cX11_byLaw 45 = .ok (.getfield 56, 3) := by decide +kernel
theorem dX11_byLaw_48 : decode cX11_byLaw 48 = .ok (.iload_n 3, 1) := by decide +kernel
theorem dX11_byLaw_49 : decode cX11_byLaw 49 = .ok (.iaload, 1) := by decide +kernel
theorem dX11_byLaw_50 : decode cX11_byLaw 50 = .ok (.aload_n 0, 1) := by decide +kernel
theorem dX11_byLaw_51 : decode cX11_byLaw 51 = .ok (.getfield 59, 3) := by decide +kernel
theorem dX11_byLaw_54 : decode cX11_byLaw 54 = .ok (.iload_n 3, 1) := by decide +kernel
theorem dX11_byLaw_55 : decode cX11_byLaw 55 = .ok (.iaload, 1) := by decide +kernel
theorem dX11_byLaw_56 : decode cX11_byLaw 56 = .ok (.invokevirtual 263, 3) := by decide +kernel
theorem dX11_byLaw_59 : decode cX11_byLaw 59 = .ok (.istore 4, 2) := by decide +kernel
theorem dX11_byLaw_61 : decode cX11_byLaw 61 = .ok (.iload 4, 2) := by decide +kernel
theorem dX11_byLaw_63 : decode cX11_byLaw 63 = .ok (.ifCond .ge 7, 3) := by decide +kernel
theorem dX11_byLaw_66 : decode cX11_byLaw 66 = .ok (.iconst 0, 1) := by decide +kernel
theorem dX11_byLaw_67 : decode cX11_byLaw 67 = .ok (.goto 15, 3) := by decide +kernel
theorem dX11_byLaw_70 : decode cX11_byLaw 70 = .ok (.iload 4, 2) := by decide +kernel
theorem dX11_byLaw_72 : decode cX11_byLaw 72 = .ok (.iload_n 2, 1) := by decide +kernel
theorem dX11_byLaw_73 : decode cX11_byLaw 73 = .ok (.if_icmp .le 7, 3) := by decide +kernel
theorem dX11_byLaw_76 : decode cX11_byLaw 76 = .ok (.iload_n 2, 1) := by decide +kernel
theorem dX11_byLaw_77 : decode cX11_byLaw 77 = .ok (.goto 5, 3) := by decide +kernel
theorem dX11_byLaw_80 : decode cX11_byLaw 80 = .ok (.iload 4, 2) := by decide +kernel
theorem dX11_byLaw_82 : decode cX11_byLaw 82 = .ok (.ireturn, 1) := by decide +kernel
theorem dX11_byLaw_83 : decode cX11_byLaw 83 = .ok (.iinc 3 1, 3) := by decide +kernel
theorem dX11_byLaw_86 : decode cX11_byLaw 86 = .ok (.goto (-84), 3) := by decide +kernel
theorem dX11_byLaw_89 : decode cX11_byLaw 89 = .ok (.iconst 0, 1) := by decide +kernel
theorem dX11_byLaw_90 : decode cX11_byLaw 90 = .ok (.ireturn, 1) := by decide +kernel
theorem dX11_holdsAny_0 : decode cX11_holdsAny 0 = .ok (.iconst 0, 1) := by decide +kernel
theorem dX11_holdsAny_1 : decode cX11_holdsAny 1 = .ok (.istore_n 2, 1) := by decide +kernel
theorem dX11_holdsAny_2 : decode cX11_holdsAny 2 = .ok (.iload_n 2, 1) := by decide +kernel
theorem dX11_holdsAny_3 : decode cX11_holdsAny 3 = .ok (.aload_n 0, 1) := by decide +kernel
theorem dX11_holdsAny_4 : decode cX11_holdsAny 4 = .ok (.getfield 256, 3) := by decide +kernel
theorem dX11_holdsAny_7 : decode cX11_holdsAny 7 = .ok (.if_icmp .ge 41, 3) := by decide +kernel
theorem dX11_holdsAny_10 : decode cX11_holdsAny 10 = .ok (.aload_n 0, 1) := by decide +kernel
theorem dX11_holdsAny_11 : decode cX11_holdsAny 11 = .ok (.getfield 53, 3) := by decide +kernel
theorem dX11_holdsAny_14 : decode cX11_holdsAny 14 = .ok (.iload_n 2, 1) := by decide +kernel
theorem dX11_holdsAny_15 : decode cX11_holdsAny 15 = .ok (.iaload, 1) := by decide +kernel
theorem dX11_holdsAny_16 : decode cX11_holdsAny 16 = .ok (.iload_n 1, 1) := by decide +kernel
theorem dX11_holdsAny_17 : decode cX11_holdsAny 17 = .ok (.if_icmp .ne 25, 3) := by decide +kernel
theorem dX11_holdsAny_20 : decode cX11_holdsAny 20 = .ok (.aload_n 0, 1) := by decide +kernel
theorem dX11_holdsAny_21 : decode cX11_holdsAny 21 = .ok (.aload_n 0, 1) := by decide +kernel
theorem dX11_holdsAny_22 : decode cX11_holdsAny 22 = .ok (.getfield 59, 3) := by decide +kernel
theorem dX11_holdsAny_25 : decode cX11_holdsAny 25 = .ok (.iload_n 2, 1) := by decide +kernel
theorem dX11_holdsAny_26 : decode cX11_holdsAny 26 = .ok (.iaload, 1) := by decide +kernel
theorem dX11_holdsAny_27 : decode cX11_holdsAny 27 = .ok (.aload_n 0, 1) := by decide +kernel
theorem dX11_holdsAny_28 : decode cX11_holdsAny 28 = .ok (.getfield 62, 3) := by decide +kernel
theorem dX11_holdsAny_31 : decode cX11_holdsAny 31 = .ok (.iload_n 2, 1) := by decide +kernel
theorem dX11_holdsAny_32 : decode cX11_holdsAny 32 = .ok (.iaload, 1) := by decide +kernel
theorem dX11_holdsAny_33 : decode cX11_holdsAny 33 = .ok (.invokevirtual 263, 3) := by decide +kernel
theorem dX11_holdsAny_36 : decode cX11_holdsAny 36 = .ok (.iconst 1, 1) := by decide +kernel
theorem dX11_holdsAny_37 : decode cX11_holdsAny 37 = .ok (.if_icmp .ne 5, 3) := by decide +kernel
theorem dX11_holdsAny_40 : decode cX11_holdsAny 40 = .ok (.iconst 1, 1) := by decide +kernel
theorem dX11_holdsAny_41 : decode cX11_holdsAny 41 = .ok (.ireturn, 1) := by decide +kernel
theorem dX11_holdsAny_42 : decode cX11_holdsAny 42 = .ok (.iinc 2 1, 3) := by decide +kernel
theorem dX11_holdsAny_45 : decode cX11_holdsAny 45 = .ok (.goto (-43), 3) := by decide +kernel
theorem dX11_holdsAny_48 : decode cX11_holdsAny 48 = .ok (.iconst 0, 1) := by decide +kernel
theorem dX11_holdsAny_49 : decode cX11_holdsAny 49 = .ok (.ireturn, 1) := by decide +kernel
theorem dX11_readsRoom_0 : decode cX11_readsRoom 0 = .ok (.aload_n 0, 1) := by decide +kernel
theorem dX11_readsRoom_1 : decode cX11_readsRoom 1 = .ok (.getfield 164, 3) := by decide +kernel
theorem dX11_readsRoom_4 : decode cX11_readsRoom 4 = .ok (.istore_n 2, 1) := by decide +kernel
theorem dX11_readsRoom_5 : decode cX11_readsRoom 5 = .ok (.aload_n 0, 1) := by decide +kernel
theorem dX11_readsRoom_6 : decode cX11_readsRoom 6 = .ok (.invokevirtual 183, 3) := by decide +kernel
theorem dX11_readsRoom_9 : decode cX11_readsRoom 9 = .ok (.ifCond .ne 13, 3) := by decide +kernel
theorem dX11_readsRoom_12 : decode cX11_readsRoom 12 = .ok (.aload_n 0, 1) := by decide +kernel
theorem dX11_readsRoom_13 : decode cX11_readsRoom 13 = .ok (.iconst 1, 1) := by decide +kernel
theorem dX11_readsRoom_14 : decode cX11_readsRoom 14 = .ok (.aload_n 0, 1) := by decide +kernel
theorem dX11_readsRoom_15 : decode cX11_readsRoom 15 = .ok (.getfield 164, 3) := by decide +kernel
theorem dX11_readsRoom_18 : decode cX11_readsRoom 18 = .ok (.invokevirtual 177, 3) := by decide +kernel
theorem dX11_readsRoom_21 : decode cX11_readsRoom 21 = .ok (.ireturn, 1) := by decide +kernel
theorem dX11_readsRoom_22 : decode cX11_readsRoom 22 = .ok (.aload_n 0, 1) := by decide +kernel
theorem dX11_readsRoom_23 : decode cX11_readsRoom 23 = .ok (.iconst 0, 1) := by decide +kernel
theorem dX11_readsRoom_24 : decode cX11_readsRoom 24 = .ok (.putfield 180, 3) := by decide +kernel
theorem dX11_readsRoom_27 : decode cX11_readsRoom 27 = .ok (.aload_n 0, 1) := by decide +kernel
theorem dX11_readsRoom_28 : decode cX11_readsRoom 28 = .ok (.invokevirtual 183, 3) := by decide +kernel
theorem dX11_readsRoom_31 : decode cX11_readsRoom 31 = .ok (.ifCond .eq 55, 3) := by decide +kernel
theorem dX11_readsRoom_34 : decode cX11_readsRoom 34 = .ok (.aload_n 0, 1) := by decide +kernel
theorem dX11_readsRoom_35 : decode cX11_readsRoom 35 = .ok (.getfield 164, 3) := by decide +kernel
theorem dX11_readsRoom_38 : decode cX11_readsRoom 38 = .ok (.iload_n 2, 1) := by decide +kernel
theorem dX11_readsRoom_39 : decode cX11_readsRoom 39 = .ok (.iconst 2, 1) := by decide +kernel
theorem dX11_readsRoom_40 : decode cX11_readsRoom 40 = .ok (.iadd, 1) := by decide +kernel
theorem dX11_readsRoom_41 : decode cX11_readsRoom 41 = .ok (.if_icmp .ne 13, 3) := by decide +kernel
theorem dX11_readsRoom_44 : decode cX11_readsRoom 44 = .ok (.aload_n 0, 1) := by decide +kernel
theorem dX11_readsRoom_45 : decode cX11_readsRoom 45 = .ok (.iconst 2, 1) := by decide +kernel
theorem dX11_readsRoom_46 : decode cX11_readsRoom 46 = .ok (.aload_n 0, 1) := by decide +kernel
theorem dX11_readsRoom_47 : decode cX11_readsRoom 47 = .ok (.getfield 164, 3) := by decide +kernel
theorem dX11_readsRoom_50 : decode cX11_readsRoom 50 = .ok (.invokevirtual 177, 3) := by decide +kernel
theorem dX11_readsRoom_53 : decode cX11_readsRoom 53 = .ok (.ireturn, 1) := by decide +kernel
theorem dX11_readsRoom_54 : decode cX11_readsRoom 54 = .ok (.aload_n 0, 1) := by decide +kernel
theorem dX11_readsRoom_55 : decode cX11_readsRoom 55 = .ok (.bipush 10, 2) := by decide +kernel
theorem dX11_readsRoom_57 : decode cX11_readsRoom 57 = .ok (.aload_n 0, 1) := by decide +kernel
theorem dX11_readsRoom_58 : decode cX11_readsRoom 58 = .ok (.getfield 180, 3) := by decide +kernel
theorem dX11_readsRoom_61 : decode cX11_readsRoom 61 = .ok (.imul, 1) := by decide +kernel
theorem dX11_readsRoom_62 : decode cX11_readsRoom 62 = .ok (.aload_n 0, 1) := by decide +kernel
theorem dX11_readsRoom_63 : decode cX11_readsRoom 63 = .ok (.invokevirtual 170, 3) := by decide +kernel
theorem dX11_readsRoom_66 : decode cX11_readsRoom 66 = .ok (.iadd, 1) := by decide +kernel
theorem dX11_readsRoom_67 : decode cX11_readsRoom 67 = .ok (.bipush 48, 2) := by decide +kernel
theorem dX11_readsRoom_69 : decode cX11_readsRoom 69 = .ok (.isub, 1) := by decide +kernel
theorem dX11_readsRoom_70 : decode cX11_readsRoom 70 = .ok (.putfield 180, 3) := by decide +kernel
theorem dX11_readsRoom_73 : decode cX11_readsRoom 73 = .ok (.aload_n 0, 1) := by decide +kernel
theorem dX11_readsRoom_74 : decode cX11_readsRoom 74 = .ok (.aload_n 0, 1) := by decide +kernel
theorem dX11_readsRoom_75 : decode cX11_readsRoom 75 = .ok (.getfield 164, 3) := by decide +kernel
theorem dX11_readsRoom_78 : decode cX11_readsRoom 78 = .ok (.iconst 1, 1) := by decide +kernel
theorem dX11_readsRoom_79 : decode cX11_readsRoom 79 = .ok (.iadd, 1) := by decide +kernel
theorem dX11_readsRoom_80 : decode cX11_readsRoom 80 = .ok (.putfield 164, 3) := by decide +kernel
theorem dX11_readsRoom_83 : decode cX11_readsRoom 83 = .ok (.goto (-56), 3) := by decide +kernel
theorem dX11_readsRoom_86 : decode cX11_readsRoom 86 = .ok (.aload_n 0, 1) := by decide +kernel
theorem dX11_readsRoom_87 : decode cX11_readsRoom 87 = .ok (.getfield 180, 3) := by decide +kernel
theorem dX11_readsRoom_90 : decode cX11_readsRoom 90 = .ok (.ifCond .ne 10, 3) := by decide +kernel
theorem dX11_readsRoom_93 : decode cX11_readsRoom 93 = .ok (.aload_n 0, 1) := by decide +kernel
theorem dX11_readsRoom_94 : decode cX11_readsRoom 94 = .ok (.iconst 3, 1) := by decide +kernel
theorem dX11_readsRoom_95 : decode cX11_readsRoom 95 = .ok (.iload_n 2, 1) := by decide +kernel
theorem dX11_readsRoom_96 : decode cX11_readsRoom 96 = .ok (.invokevirtual 177, 3) := by decide +kernel
theorem dX11_readsRoom_99 : decode cX11_readsRoom 99 = .ok (.ireturn, 1) := by decide +kernel
theorem dX11_readsRoom_100 : decode cX11_readsRoom 100 = .ok (.aload_n 0, 1) := by decide +kernel
theorem dX11_readsRoom_101 : decode cX11_readsRoom 101 = .ok (.getfield 71, 3) := by decide +kernel
theorem dX11_readsRoom_104 : decode cX11_readsRoom 104 = .ok (.iload_n 1, 1) := by decide +kernel
theorem dX11_readsRoom_105 : decode cX11_readsRoom 105 = .ok (.aload_n 0, 1) := by decide +kernel
theorem dX11_readsRoom_106 : decode cX11_readsRoom 106 = .ok (.getfield 180, 3) := by decide +kernel
theorem dX11_readsRoom_109 : decode cX11_readsRoom 109 = .ok (.iastore, 1) := by decide +kernel
theorem dX11_readsRoom_110 : decode cX11_readsRoom 110 = .ok (.aload_n 0, 1) := by decide +kernel
theorem dX11_readsRoom_111 : decode cX11_readsRoom 111 = .ok (.getfield 74, 3) := by decide +kernel
theorem dX11_readsRoom_114 : decode cX11_readsRoom 114 = .ok (.iload_n 1, 1) := by decide +kernel
theorem dX11_readsRoom_115 : decode cX11_readsRoom 115 = .ok (.iconst 0, 1) := by decide +kernel
theorem dX11_readsRoom_116 : decode cX11_readsRoom 116 = .ok (.iastore, 1) := by decide +kernel
theorem dX11_readsRoom_117 : decode cX11_readsRoom 117 = .ok (.aload_n 0, 1) := by decide +kernel
theorem dX11_readsRoom_118 : decode cX11_readsRoom 118 = .ok (.aload_n 0, 1) := by decide +kernel
theorem dX11_readsRoom_119 : decode cX11_readsRoom 119 = .ok (.getfield 267, 3) := by decide +kernel
theorem dX11_readsRoom_122 : decode cX11_readsRoom 122 = .ok (.iconst 1, 1) := by decide +kernel
theorem dX11_readsRoom_123 : decode cX11_readsRoom 123 = .ok (.iload_n 1, 1) := by decide +kernel
theorem dX11_readsRoom_124 : decode cX11_readsRoom 124 = .ok (.ishl, 1) := by decide +kernel
theorem dX11_readsRoom_125 : decode cX11_readsRoom 125 = .ok (.ior, 1) := by decide +kernel
theorem dX11_readsRoom_126 : decode cX11_readsRoom 126 = .ok (.putfield 267, 3) := by decide +kernel
theorem dX11_readsRoom_129 : decode cX11_readsRoom 129 = .ok (.iconst 1, 1) := by decide +kernel
theorem dX11_readsRoom_130 : decode cX11_readsRoom 130 = .ok (.ireturn, 1) := by decide +kernel
theorem dX11_readsPaper_0 : decode cX11_readsPaper 0 = .ok (.aload_n 0, 1) := by decide +kernel
theorem dX11_readsPaper_1 : decode cX11_readsPaper 1 = .ok (.getfield 77, 3) := by decide +kernel
theorem dX11_readsPaper_4 : decode cX11_readsPaper 4 = .ok (.aload_n 0, 1) := by decide +kernel
theorem dX11_readsPaper_5 : decode cX11_readsPaper 5 = .ok (.getfield 270, 3) := by decide +kernel
theorem dX11_readsPaper_8 : decode cX11_readsPaper 8 = .ok (.aload_n 0, 1) := by decide +kernel
theorem dX11_readsPaper_9 : decode cX11_readsPaper 9 = .ok (.invokevirtual 170, 3) := by decide +kernel
theorem dX11_readsPaper_12 : decode cX11_readsPaper 12 = .ok (.bipush 65, 2) := by decide +kernel
theorem dX11_readsPaper_14 : decode cX11_readsPaper 14 = .ok (.isub, 1) := by decide +kernel
theorem dX11_readsPaper_15 : decode cX11_readsPaper 15 = .ok (.iastore, 1) := by decide +kernel
theorem dX11_readsPaper_16 : decode cX11_readsPaper 16 = .ok (.aload_n 0, 1) := by decide +kernel
theorem dX11_readsPaper_17 : decode cX11_readsPaper 17 = .ok (.aload_n 0, 1) := by decide +kernel
theorem dX11_readsPaper_18 : decode cX11_readsPaper 18 = .ok (.getfield 164, 3) := by decide +kernel
theorem dX11_readsPaper_21 : decode cX11_readsPaper 21 = .ok (.iconst 1, 1) := by decide +kernel
theorem dX11_readsPaper_22 : decode cX11_readsPaper 22 = .ok (.iadd, 1) := by decide +kernel
theorem dX11_readsPaper_23 : decode cX11_readsPaper 23 = .ok (.putfield 164, 3) := by decide +kernel
theorem dX11_readsPaper_26 : decode cX11_readsPaper 26 = .ok (.aload_n 0, 1) := by decide +kernel
theorem dX11_readsPaper_27 : decode cX11_readsPaper 27 = .ok (.invokevirtual 170, 3) := by decide +kernel
theorem dX11_readsPaper_30 : decode cX11_readsPaper 30 = .ok (.bipush 49, 2) := by decide +kernel
theorem dX11_readsPaper_32 : decode cX11_readsPaper 32 = .ok (.bipush 57, 2) := by decide +kernel
theorem dX11_readsPaper_34 : decode cX11_readsPaper 34 = .ok (.invokestatic 125, 3) := by decide +kernel
theorem dX11_readsPaper_37 : decode cX11_readsPaper 37 = .ok (.ifCond .ne 13, 3) := by decide +kernel
theorem dX11_readsPaper_40 : decode cX11_readsPaper 40 = .ok (.aload_n 0, 1) := by decide +kernel
theorem dX11_readsPaper_41 : decode cX11_readsPaper 41 = .ok (.iconst 1, 1) := by decide +kernel
theorem dX11_readsPaper_42 : decode cX11_readsPaper 42 = .ok (.aload_n 0, 1) := by decide +kernel
theorem dX11_readsPaper_43 : decode cX11_readsPaper 43 = .ok (.getfield 164, 3) := by decide +kernel
theorem dX11_readsPaper_46 : decode cX11_readsPaper 46 = .ok (.invokevirtual 177, 3) := by decide +kernel
theorem dX11_readsPaper_49 : decode cX11_readsPaper 49 = .ok (.ireturn, 1) := by decide +kernel
theorem dX11_readsPaper_50 : decode cX11_readsPaper 50 = .ok (.aload_n 0, 1) := by decide +kernel
theorem dX11_readsPaper_51 : decode cX11_readsPaper 51 = .ok (.invokevirtual 170, 3) := by decide +kernel
theorem dX11_readsPaper_54 : decode cX11_readsPaper 54 = .ok (.bipush 48, 2) := by decide +kernel
theorem dX11_readsPaper_56 : decode cX11_readsPaper 56 = .ok (.isub, 1) := by decide +kernel
theorem dX11_readsPaper_57 : decode cX11_readsPaper 57 = .ok (.istore_n 1, 1) := by decide +kernel
theorem dX11_readsPaper_58 : decode cX11_readsPaper 58 = .ok (.aload_n 0, 1) := by decide +kernel
theorem dX11_readsPaper_59 : decode cX11_readsPaper 59 = .ok (.getfield 80, 3) := by decide +kernel
theorem dX11_readsPaper_62 : decode cX11_readsPaper 62 = .ok (.aload_n 0, 1) := by decide +kernel
theorem dX11_readsPaper_63 : decode cX11_readsPaper 63 = .ok (.getfield 270, 3) := by decide +kernel
theorem dX11_readsPaper_66 : decode cX11_readsPaper 66 = .ok (.iload_n 1, 1) := by decide +kernel
theorem dX11_readsPaper_67 : decode cX11_readsPaper 67 = .ok (.iastore, 1) := by decide +kernel
theorem dX11_readsPaper_68 : decode cX11_readsPaper 68 = .ok (.aload_n 0, 1) := by decide +kernel
theorem dX11_readsPaper_69 : decode cX11_readsPaper 69 = .ok (.getfield 83, 3) := by decide +kernel
theorem dX11_readsPaper_72 : decode cX11_readsPaper 72 = .ok (.aload_n 0, 1) := by decide +kernel
theorem dX11_readsPaper_73 : decode cX11_readsPaper 73 = .ok (.getfield 270, 3) := by decide +kernel
theorem dX11_readsPaper_76 : decode cX11_readsPaper 76 = .ok (.iconst (-1), 1) := by decide +kernel
theorem dX11_readsPaper_77 : decode cX11_readsPaper 77 = .ok (.iastore, 1) := by decide +kernel
theorem dX11_readsPaper_78 : decode cX11_readsPaper 78 = .ok (.aload_n 0, 1) := by decide +kernel
theorem dX11_readsPaper_79 : decode cX11_readsPaper 79 = .ok (.aload_n 0, 1) := by decide +kernel
theorem dX11_readsPaper_80 : decode cX11_readsPaper 80 = .ok (.getfield 164, 3) := by decide +kernel
theorem dX11_readsPaper_83 : decode cX11_readsPaper 83 = .ok (.iconst 1, 1) := by decide +kernel
theorem dX11_readsPaper_84 : decode cX11_readsPaper 84 = .ok (.iadd, 1) := by decide +kernel
theorem dX11_readsPaper_85 : decode cX11_readsPaper 85 = .ok (.putfield 164, 3) := by decide +kernel
theorem dX11_readsPaper_88 : decode cX11_readsPaper 88 = .ok (.aload_n 0, 1) := by decide +kernel
theorem dX11_readsPaper_89 : decode cX11_readsPaper 89 = .ok (.invokevirtual 170, 3) := by decide +kernel
theorem dX11_readsPaper_92 : decode cX11_readsPaper 92 = .ok (.bipush 62, 2) := by decide +kernel
theorem dX11_readsPaper_94 : decode cX11_readsPaper 94 = .ok (.if_icmp .ne 125, 3) := by decide +kernel
theorem dX11_readsPaper_97 : decode cX11_readsPaper 97 = .ok (.aload_n 0, 1) := by decide +kernel
theorem dX11_readsPaper_98 : decode cX11_readsPaper 98 = .ok (.aload_n 0, 1) := by decide +kernel
theorem dX11_readsPaper_99 : decode cX11_readsPaper 99 = .ok (.getfield 164, 3) := by decide +kernel
theorem dX11_readsPaper_102 : decode cX11_readsPaper 102 = .ok (.iconst 1, 1) := by decide +kernel
theorem dX11_readsPaper_103 : decode cX11_readsPaper 103 = .ok (.iadd, 1) := by decide +kernel
theorem dX11_readsPaper_104 : decode cX11_readsPaper 104 = .ok (.putfield 164, 3) := by decide +kernel
theorem dX11_readsPaper_107 : decode cX11_readsPaper 107 = .ok (.aload_n 0, 1) := by decide +kernel
theorem dX11_readsPaper_108 : decode cX11_readsPaper 108 = .ok (.invokevirtual 170, 3) := by decide +kernel
theorem dX11_readsPaper_111 : decode cX11_readsPaper 111 = .ok (.bipush 97, 2) := by decide +kernel
theorem dX11_readsPaper_113 : decode cX11_readsPaper 113 = .ok (.isub, 1) := by decide +kernel
theorem dX11_readsPaper_114 : decode cX11_readsPaper 114 = .ok (.istore_n 2, 1) := by decide +kernel
theorem dX11_readsPaper_115 : decode cX11_readsPaper 115 = .ok (.iload_n 2, 1) := by decide +kernel
theorem dX11_readsPaper_116 : decode cX11_readsPaper 116 = .ok (.iconst 0, 1) := by decide +kernel
theorem dX11_readsPaper_117 : decode cX11_readsPaper 117 = .ok (.bipush 11, 2) := by decide +kernel
theorem dX11_readsPaper_119 : decode cX11_readsPaper 119 = .ok (.invokestatic 125, 3) := by decide +kernel
theorem dX11_readsPaper_122 : decode cX11_readsPaper 122 = .ok (.ifCond .ne 13, 3) := by decide +kernel
theorem dX11_readsPaper_125 : decode cX11_readsPaper 125 = .ok (.aload_n 0, 1) := by decide +kernel
theorem dX11_readsPaper_126 : decode cX11_readsPaper 126 = .ok (.iconst 1, 1) := by decide +kernel
theorem dX11_readsPaper_127 : decode cX11_readsPaper 127 = .ok (.aload_n 0, 1) := by decide +kernel
theorem dX11_readsPaper_128 : decode cX11_readsPaper 128 = .ok (.getfield 164, 3) := by decide +kernel
theorem dX11_readsPaper_131 : decode cX11_readsPaper 131 = .ok (.invokevirtual 177, 3) := by decide +kernel
theorem dX11_readsPaper_134 : decode cX11_readsPaper 134 = .ok (.ireturn, 1) := by decide +kernel
theorem dX11_readsPaper_135 : decode cX11_readsPaper 135 = .ok (.aload_n 0, 1) := by decide +kernel
theorem dX11_readsPaper_136 : decode cX11_readsPaper 136 = .ok (.getfield 267, 3) := by decide +kernel
theorem dX11_readsPaper_139 : decode cX11_readsPaper 139 = .ok (.iload_n 2, 1) := by decide +kernel
theorem dX11_readsPaper_140 : decode cX11_readsPaper 140 = .ok (.invokestatic 133, 3) := by decide +kernel
theorem dX11_readsPaper_143 : decode cX11_readsPaper 143 = .ok (.ifCond .ne 14, 3) := by decide +kernel
theorem dX11_readsPaper_146 : decode cX11_readsPaper 146 = .ok (.aload_n 0, 1) := by decide +kernel
theorem dX11_readsPaper_147 : decode cX11_readsPaper 147 = .ok (.bipush 7, 2) := by decide +kernel
theorem dX11_readsPaper_149 : decode cX11_readsPaper 149 = .ok (.aload_n 0, 1) := by decide +kernel
theorem dX11_readsPaper_150 : decode cX11_readsPaper 150 = .ok (.getfield 164, 3) := by decide +kernel
theorem dX11_readsPaper_153 : decode cX11_readsPaper 153 = .ok (.invokevirtual 177, 3) := by decide +kernel
theorem dX11_readsPaper_156 : decode cX11_readsPaper 156 = .ok (.ireturn, 1) := by decide +kernel
theorem dX11_readsPaper_157 : decode cX11_readsPaper 157 = .ok (.aload_n 0, 1) := by decide +kernel
theorem dX11_readsPaper_158 : decode cX11_readsPaper 158 = .ok (.getfield 74, 3) := by decide +kernel
theorem dX11_readsPaper_161 : decode cX11_readsPaper 161 = .ok (.iload_n 2, 1) := by decide +kernel
theorem dX11_readsPaper_162 : decode cX11_readsPaper 162 = .ok (.iaload, 1) := by decide +kernel
theorem dX11_readsPaper_163 : decode cX11_readsPaper 163 = .ok (.iload_n 1, 1) := by decide +kernel
theorem dX11_readsPaper_164 : decode cX11_readsPaper 164 = .ok (.iadd, 1) := by decide +kernel
theorem dX11_readsPaper_165 : decode cX11_readsPaper 165 = .ok (.aload_n 0, 1) := by decide +kernel
theorem dX11_readsPaper_166 : decode cX11_readsPaper 166 = .ok (.getfield 71, 3) := by decide +kernel
theorem dX11_readsPaper_169 : decode cX11_readsPaper 169 = .ok (.iload_n 2, 1) := by decide +kernel
theorem dX11_readsPaper_170 : decode cX11_readsPaper 170 = .ok (.iaload, 1) := by decide +kernel
theorem dX11_readsPaper_171 : decode cX11_readsPaper 171 = .ok (.if_icmp .le 14, 3) := by decide +kernel
theorem dX11_readsPaper_174 : decode cX11_readsPaper 174 = .ok (.aload_n 0, 1) := by decide +kernel
theorem dX11_readsPaper_175 : decode cX11_readsPaper 175 = .ok (.bipush 8, 2) := by decide +kernel
theorem dX11_readsPaper_177 : decode cX11_readsPaper 177 = .ok (.aload_n 0, 1) := by decide +kernel
theorem dX11_readsPaper_178 : decode cX11_readsPaper 178 = .ok (.getfield 164, 3) := by decide +kernel
theorem dX11_readsPaper_181 : decode cX11_readsPaper 181 = .ok (.invokevirtual 177, 3) := by decide +kernel
theorem dX11_readsPaper_184 : decode cX11_readsPaper 184 = .ok (.ireturn, 1) := by decide +kernel
theorem dX11_readsPaper_185 : decode cX11_readsPaper 185 = .ok (.aload_n 0, 1) := by decide +kernel
theorem dX11_readsPaper_186 : decode cX11_readsPaper 186 = .ok (.getfield 74, 3) := by decide +kernel
theorem dX11_readsPaper_189 : decode cX11_readsPaper 189 = .ok (.iload_n 2, 1) := by decide +kernel
theorem dX11_readsPaper_190 : decode cX11_readsPaper 190 = .ok (.aload_n 0, 1) := by decide +kernel
theorem dX11_readsPaper_191 : decode cX11_readsPaper 191 = .ok (.getfield 74, 3) := by decide +kernel
theorem dX11_readsPaper_194 : decode cX11_readsPaper 194 = .ok (.iload_n 2, 1) := by decide +kernel
theorem dX11_readsPaper_195 : decode cX11_readsPaper 195 = .ok (.iaload, 1) := by decide +kernel
theorem dX11_readsPaper_196 : decode cX11_readsPaper 196 = .ok (.iload_n 1, 1) := by decide +kernel
theorem dX11_readsPaper_197 : decode cX11_readsPaper 197 = .ok (.iadd, 1) := by decide +kernel
theorem dX11_readsPaper_198 : decode cX11_readsPaper 198 = .ok (.iastore, 1) := by decide +kernel
theorem dX11_readsPaper_199 : decode cX11_readsPaper 199 = .ok (.aload_n 0, 1) := by decide +kernel
theorem dX11_readsPaper_200 : decode cX11_readsPaper 200 = .ok (.getfield 83, 3) := by decide +kernel
theorem dX11_readsPaper_203 : decode cX11_readsPaper 203 = .ok (.aload_n 0, 1) := by decide +kernel
theorem dX11_readsPaper_204 : decode cX11_readsPaper 204 = .ok (.getfield 270, 3) := by decide +kernel
theorem dX11_readsPaper_207 : decode cX11_readsPaper 207 = .ok (.iload_n 2, 1) := by decide +kernel
theorem dX11_readsPaper_208 : decode cX11_readsPaper 208 = .ok (.iastore, 1) := by decide +kernel
theorem dX11_readsPaper_209 : decode cX11_readsPaper 209 = .ok (.aload_n 0, 1) := by decide +kernel
theorem dX11_readsPaper_210 : decode cX11_readsPaper 210 = .ok (.aload_n 0, 1) := by decide +kernel
theorem dX11_readsPaper_211 : decode cX11_readsPaper 211 = .ok (.getfield 164, 3) := by decide +kernel
theorem dX11_readsPaper_214 : decode cX11_readsPaper 214 = .ok (.iconst 1, 1) := by decide +kernel
theorem dX11_readsPaper_215 : decode cX11_readsPaper 215 = .ok (.iadd, 1) := by decide +kernel
theorem dX11_readsPaper_216 : decode cX11_readsPaper 216 = .ok (.putfield 164, 3) := by decide +kernel
theorem dX11_readsPaper_219 : decode cX11_readsPaper 219 = .ok (.aload_n 0, 1) := by decide +kernel
theorem dX11_readsPaper_220 : decode cX11_readsPaper 220 = .ok (.aload_n 0, 1) := by decide +kernel
theorem dX11_readsPaper_221 : decode cX11_readsPaper 221 = .ok (.getfield 270, 3) := by decide +kernel
theorem dX11_readsPaper_224 : decode cX11_readsPaper 224 = .ok (.iconst 1, 1) := by decide +kernel
theorem dX11_readsPaper_225 : decode cX11_readsPaper 225 = .ok (.iadd, 1) := by decide +kernel
theorem dX11_readsPaper_226 : decode cX11_readsPaper 226 = .ok (.putfield 270, 3) := by decide +kernel
theorem dX11_readsPaper_229 : decode cX11_readsPaper 229 = .ok (.iconst 1, 1) := by decide +kernel
theorem dX11_readsPaper_230 : decode cX11_readsPaper 230 = .ok (.ireturn, 1) := by decide +kernel
theorem dX11_readsLine_0 : decode cX11_readsLine 0 = .ok (.aload_n 0, 1) := by decide +kernel
theorem dX11_readsLine_1 : decode cX11_readsLine 1 = .ok (.invokevirtual 170, 3) := by decide +kernel
theorem dX11_readsLine_4 : decode cX11_readsLine 4 = .ok (.bipush 97, 2) := by decide +kernel
theorem dX11_readsLine_6 : decode cX11_readsLine 6 = .ok (.isub, 1) := by decide +kernel
theorem dX11_readsLine_7 : decode cX11_readsLine 7 = .ok (.iconst 0, 1) := by decide +kernel
theorem dX11_readsLine_8 : decode cX11_readsLine 8 = .ok (.bipush 11, 2) := by decide +kernel
theorem dX11_readsLine_10 : decode cX11_readsLine 10 = .ok (.invokestatic 125, 3) := by decide +kernel
theorem dX11_readsLine_13 : decode cX11_readsLine 13 = .ok (.istore_n 1, 1) := by decide +kernel
theorem dX11_readsLine_14 : decode cX11_readsLine 14 = .ok (.iload_n 1, 1) := by decide +kernel
theorem dX11_readsLine_15 : decode cX11_readsLine 15 = .ok (.ifCond .ne 29, 3) := by decide +kernel
theorem dX11_readsLine_18 : decode cX11_readsLine 18 = .ok (.aload_n 0, 1) := by decide +kernel
theorem dX11_readsLine_19 : decode cX11_readsLine 19 = .ok (.invokevirtual 170, 3) := by decide +kernel
theorem dX11_readsLine_22 : decode cX11_readsLine 22 = .ok (.bipush 65, 2) := by decide +kernel
theorem dX11_readsLine_24 : decode cX11_readsLine 24 = .ok (.isub, 1) := by decide +kernel
theorem dX11_readsLine_25 : decode cX11_readsLine 25 = .ok (.iconst 0, 1) := by decide +kernel
theorem dX11_readsLine_26 : decode cX11_readsLine 26 = .ok (.bipush 15, 2) := by decide +kernel
theorem dX11_readsLine_28 : decode cX11_readsLine 28 = .ok (.invokestatic 125, 3) := by decide +kernel
theorem dX11_readsLine_31 : decode cX11_readsLine 31 = .ok (.ifCond .ne 13, 3) := by decide +kernel
theorem dX11_readsLine_34 : decode cX11_readsLine 34 = .ok (.aload_n 0, 1) := by decide +kernel
theorem dX11_readsLine_35 : decode cX11_readsLine 35 = .ok (.iconst 1, 1) := by decide +kernel
theorem dX11_readsLine_36 : decode cX11_readsLine 36 = .ok (.aload_n 0, 1) := by decide +kernel
theorem dX11_readsLine_37 : decode cX11_readsLine 37 = .ok (.getfield 164, 3) := by decide +kernel
theorem dX11_readsLine_40 : decode cX11_readsLine 40 = .ok (.invokevirtual 177, 3) := by decide +kernel
theorem dX11_readsLine_43 : decode cX11_readsLine 43 = .ok (.ireturn, 1) := by decide +kernel
theorem dX11_readsLine_44 : decode cX11_readsLine 44 = .ok (.aload_n 0, 1) := by decide +kernel
theorem dX11_readsLine_45 : decode cX11_readsLine 45 = .ok (.getfield 273, 3) := by decide +kernel
theorem dX11_readsLine_48 : decode cX11_readsLine 48 = .ok (.bipush 36, 2) := by decide +kernel
theorem dX11_readsLine_50 : decode cX11_readsLine 50 = .ok (.if_icmp .eq 16, 3) := by decide +kernel
theorem dX11_readsLine_53 : decode cX11_readsLine 53 = .ok (.iload_n 1, 1) := by decide +kernel
theorem dX11_readsLine_54 : decode cX11_readsLine 54 = .ok (.ifCond .ne 22, 3) := by decide +kernel
theorem dX11_readsLine_57 : decode cX11_readsLine 57 = .ok (.aload_n 0, 1) := by decide +kernel
theorem dX11_readsLine_58 : decode cX11_readsLine 58 = .ok (.getfield 270, 3) := by decide +kernel
theorem dX11_readsLine_61 : decode cX11_readsLine 61 = .ok (.bipush 24, 2) := by decide +kernel
theorem dX11_readsLine_63 : decode cX11_readsLine 63 = .ok (.if_icmp .ne 13, 3) := by decide +kernel
theorem dX11_readsLine_66 : decode cX11_readsLine 66 = .ok (.aload_n 0, 1) := by decide +kernel
theorem dX11_readsLine_67 : decode cX11_readsLine 67 = .ok (.iconst 4, 1) := by decide +kernel
theorem dX11_readsLine_68 : decode cX11_readsLine 68 = .ok (.aload_n 0, 1) := by decide +kernel
theorem dX11_readsLine_69 : decode cX11_readsLine 69 = .ok (.getfield 164, 3) := by decide +kernel
theorem dX11_readsLine_72 : decode cX11_readsLine 72 = .ok (.invokevirtual 177, 3) := by decide +kernel
theorem dX11_readsLine_75 : decode cX11_readsLine 75 = .ok (.ireturn, 1) := by decide +kernel
theorem dX11_readsLine_76 : decode cX11_readsLine 76 = .ok (.aload_n 0, 1) := by decide +kernel
theorem dX11_readsLine_77 : decode cX11_readsLine 77 = .ok (.aload_n 0, 1) := by decide +kernel
theorem dX11_readsLine_78 : decode cX11_readsLine 78 = .ok (.getfield 273, 3) := by decide +kernel
theorem dX11_readsLine_81 : decode cX11_readsLine 81 = .ok (.iconst 1, 1) := by decide +kernel
theorem dX11_readsLine_82 : decode cX11_readsLine 82 = .ok (.iadd, 1) := by decide +kernel
theorem dX11_readsLine_83 : decode cX11_readsLine 83 = .ok (.putfield 273, 3) := by decide +kernel
theorem dX11_readsLine_86 : decode cX11_readsLine 86 = .ok (.iload_n 1, 1) := by decide +kernel
theorem dX11_readsLine_87 : decode cX11_readsLine 87 = .ok (.ifCond .ne 8, 3) := by decide +kernel
theorem dX11_readsLine_90 : decode cX11_readsLine 90 = .ok (.aload_n 0, 1) := by decide +kernel
theorem dX11_readsLine_91 : decode cX11_readsLine 91 = .ok (.invokevirtual 276, 3) := by decide +kernel
theorem dX11_readsLine_94 : decode cX11_readsLine 94 = .ok (.ireturn, 1) := by decide +kernel
theorem dX11_readsLine_95 : decode cX11_readsLine 95 = .ok (.aload_n 0, 1) := by decide +kernel
theorem dX11_readsLine_96 : decode cX11_readsLine 96 = .ok (.invokevirtual 170, 3) := by decide +kernel
theorem dX11_readsLine_99 : decode cX11_readsLine 99 = .ok (.bipush 97, 2) := by decide +kernel
theorem dX11_readsLine_101 : decode cX11_readsLine 101 = .ok (.isub, 1) := by decide +kernel
theorem dX11_readsLine_102 : decode cX11_readsLine 102 = .ok (.istore_n 2, 1) := by decide +kernel
theorem dX11_readsLine_103 : decode cX11_readsLine 103 = .ok (.aload_n 0, 1) := by decide +kernel
theorem dX11_readsLine_104 : decode cX11_readsLine 104 = .ok (.getfield 267, 3) := by decide +kernel
theorem dX11_readsLine_107 : decode cX11_readsLine 107 = .ok (.iload_n 2, 1) := by decide +kernel
theorem dX11_readsLine_108 : decode cX11_readsLine 108 = .ok (.invokestatic 133, 3) := by decide +kernel
theorem dX11_readsLine_111 : decode cX11_readsLine 111 = .ok (.ifCond .eq 14, 3) := by decide +kernel
theorem dX11_readsLine_114 : decode cX11_readsLine 114 = .ok (.aload_n 0, 1) := by decide +kernel
theorem dX11_readsLine_115 : decode cX11_readsLine 115 = .ok (.bipush 6, 2) := by decide +kernel
theorem dX11_readsLine_117 : decode cX11_readsLine 117 = .ok (.aload_n 0, 1) := by decide +kernel
theorem dX11_readsLine_118 : decode cX11_readsLine 118 = .ok (.getfield 164, 3) := by decide +kernel
theorem dX11_readsLine_121 : decode cX11_readsLine 121 = .ok (.invokevirtual 177, 3) := by decide +kernel
theorem dX11_readsLine_124 : decode cX11_readsLine 124 = .ok (.ireturn, 1) := by decide +kernel
theorem dX11_readsLine_125 : decode cX11_readsLine 125 = .ok (.aload_n 0, 1) := by decide +kernel
theorem dX11_readsLine_126 : decode cX11_readsLine 126 = .ok (.aload_n 0, 1) := by decide +kernel
theorem dX11_readsLine_127 : decode cX11_readsLine 127 = .ok (.getfield 164, 3) := by decide +kernel
theorem dX11_readsLine_130 : decode cX11_readsLine 130 = .ok (.iconst 1, 1) := by decide +kernel
theorem dX11_readsLine_131 : decode cX11_readsLine 131 = .ok (.iadd, 1) := by decide +kernel
theorem dX11_readsLine_132 : decode cX11_readsLine 132 = .ok (.putfield 164, 3) := by decide +kernel
theorem dX11_readsLine_135 : decode cX11_readsLine 135 = .ok (.aload_n 0, 1) := by decide +kernel
theorem dX11_readsLine_136 : decode cX11_readsLine 136 = .ok (.iload_n 2, 1) := by decide +kernel
theorem dX11_readsLine_137 : decode cX11_readsLine 137 = .ok (.invokevirtual 279, 3) := by decide +kernel
theorem dX11_readsLine_140 : decode cX11_readsLine 140 = .ok (.ireturn, 1) := by decide +kernel
theorem dX11_cabinet_0 : decode cX11_cabinet 0 = .ok (.iload_n 1, 1) := by decide +kernel
theorem dX11_cabinet_1 : decode cX11_cabinet 1 = .ok (.iconst 1, 1) := by decide +kernel
theorem dX11_cabinet_2 : decode cX11_cabinet 2 = .ok (.sipush 160, 3) := by decide +kernel
theorem dX11_cabinet_5 : decode cX11_cabinet 5 = .ok (.invokestatic 125, 3) := by decide +kernel
theorem dX11_cabinet_8 : decode cX11_cabinet 8 = .ok (.ifCond .eq 11, 3) := by decide +kernel
theorem dX11_cabinet_11 : decode cX11_cabinet 11 = .ok (.iload_n 1, 1) := by decide +kernel
theorem dX11_cabinet_12 : decode cX11_cabinet 12 = .ok (.aload_n 0, 1) := by decide +kernel
theorem dX11_cabinet_13 : decode cX11_cabinet 13 = .ok (.getfield 158, 3) := by decide +kernel
theorem dX11_cabinet_16 : decode cX11_cabinet 16 = .ok (.if_icmp .le 5, 3) := by decide +kernel
theorem dX11_cabinet_19 : decode cX11_cabinet 19 = .ok (.iconst (-1), 1) := by decide +kernel
theorem dX11_cabinet_20 : decode cX11_cabinet 20 = .ok (.ireturn, 1) := by decide +kernel
theorem dX11_cabinet_21 : decode cX11_cabinet 21 = .ok (.aload_n 0, 1) := by decide +kernel
theorem dX11_cabinet_22 : decode cX11_cabinet 22 = .ok (.iload_n 1, 1) := by decide +kernel
theorem dX11_cabinet_23 : decode cX11_cabinet 23 = .ok (.invokevirtual 247, 3) := by decide +kernel
theorem dX11_cabinet_26 : decode cX11_cabinet 26 = .ok (.aload_n 0, 1) := by decide +kernel
theorem dX11_cabinet_27 : decode cX11_cabinet 27 = .ok (.iconst 0, 1) := by decide +kernel
theorem dX11_cabinet_28 : decode cX11_cabinet 28 = .ok (.putfield 267, 3) := by decide +kernel
theorem dX11_cabinet_31 : decode cX11_cabinet 31 = .ok (.aload_n 0, 1) := by decide +kernel
theorem dX11_cabinet_32 : decode cX11_cabinet 32 = .ok (.iconst 0, 1) := by decide +kernel
theorem dX11_cabinet_33 : decode cX11_cabinet 33 = .ok (.putfield 270, 3) := by decide +kernel
theorem dX11_cabinet_36 : decode cX11_cabinet 36 = .ok (.aload_n 0, 1) := by decide +kernel
theorem dX11_cabinet_37 : decode cX11_cabinet 37 = .ok (.iconst 0, 1) := by decide +kernel
theorem dX11_cabinet_38 : decode cX11_cabinet 38 = .ok (.putfield 273, 3) := by decide +kernel
theorem dX11_cabinet_41 : decode cX11_cabinet 41 = .ok (.aload_n 0, 1) := by decide +kernel
theorem dX11_cabinet_42 : decode cX11_cabinet 42 = .ok (.invokevirtual 282, 3) := by decide +kernel
theorem dX11_cabinet_45 : decode cX11_cabinet 45 = .ok (.istore_n 2, 1) := by decide +kernel
theorem dX11_cabinet_46 : decode cX11_cabinet 46 = .ok (.iload_n 2, 1) := by decide +kernel
theorem dX11_cabinet_47 : decode cX11_cabinet 47 = .ok (.ifCond .eq 39, 3) := by decide +kernel
theorem dX11_cabinet_50 : decode cX11_cabinet 50 = .ok (.aload_n 0, 1) := by decide +kernel
theorem dX11_cabinet_51 : decode cX11_cabinet 51 = .ok (.getfield 164, 3) := by decide +kernel
theorem dX11_cabinet_54 : decode cX11_cabinet 54 = .ok (.aload_n 0, 1) := by decide +kernel
theorem dX11_cabinet_55 : decode cX11_cabinet 55 = .ok (.getfield 167, 3) := by decide +kernel
theorem dX11_cabinet_58 : decode cX11_cabinet 58 = .ok (.if_icmp .ge 28, 3) := by decide +kernel
theorem dX11_cabinet_61 : decode cX11_cabinet 61 = .ok (.aload_n 0, 1) := by decide +kernel
theorem dX11_cabinet_62 : decode cX11_cabinet 62 = .ok (.bipush 59, 2) := by decide +kernel
theorem dX11_cabinet_64 : decode cX11_cabinet 64 = .ok (.invokevirtual 253, 3) := by decide +kernel
theorem dX11_cabinet_67 : decode cX11_cabinet 67 = .ok (.ifCond .eq 14, 3) := by decide +kernel
theorem dX11_cabinet_70 : decode cX11_cabinet 70 = .ok (.aload_n 0, 1) := by decide +kernel
theorem dX11_cabinet_71 : decode cX11_cabinet 71 = .ok (.invokevirtual 282, 3) := by decide +kernel
theorem dX11_cabinet_74 : decode cX11_cabinet 74 = .ok (.ifCond .eq 7, 3) := by decide +kernel
theorem dX11_cabinet_77 : decode cX11_cabinet 77 = .ok (.iconst 1, 1) := by decide +kernel
theorem dX11_cabinet_78 : decode cX11_cabinet 78 = .ok (.goto 4, 3) := by decide +kernel
theorem dX11_cabinet_81 : decode cX11_cabinet 81 = .ok (.iconst 0, 1) := by decide +kernel
theorem dX11_cabinet_82 : decode cX11_cabinet 82 = .ok (.istore_n 2, 1) := by decide +kernel
theorem dX11_cabinet_83 : decode cX11_cabinet 83 = .ok (.goto (-37), 3) := by decide +kernel
theorem dX11_cabinet_86 : decode cX11_cabinet 86 = .ok (.aload_n 0, 1) := by decide +kernel
theorem dX11_cabinet_87 : decode cX11_cabinet 87 = .ok (.iconst 0, 1) := by decide +kernel
theorem dX11_cabinet_88 : decode cX11_cabinet 88 = .ok (.putfield 158, 3) := by decide +kernel
theorem dX11_cabinet_91 : decode cX11_cabinet 91 = .ok (.iload_n 2, 1) := by decide +kernel
theorem dX11_cabinet_92 : decode cX11_cabinet 92 = .ok (.ifCond .ne 8, 3) := by decide +kernel
theorem dX11_cabinet_95 : decode cX11_cabinet 95 = .ok (.aload_n 0, 1) := by decide +kernel
theorem dX11_cabinet_96 : decode cX11_cabinet 96 = .ok (.getfield 174, 3) := by decide +kernel
theorem dX11_cabinet_99 : decode cX11_cabinet 99 = .ok (.ireturn, 1) := by decide +kernel
theorem dX11_cabinet_100 : decode cX11_cabinet 100 = .ok (.aload_n 0, 1) := by decide +kernel
theorem dX11_cabinet_101 : decode cX11_cabinet 101 = .ok (.aload_n 0, 1) := by decide +kernel
theorem dX11_cabinet_102 : decode cX11_cabinet 102 = .ok (.getfield 267, 3) := by decide +kernel
theorem dX11_cabinet_105 : decode cX11_cabinet 105 = .ok (.putfield 129, 3) := by decide +kernel
theorem dX11_cabinet_108 : decode cX11_cabinet 108 = .ok (.aload_n 0, 1) := by decide +kernel
theorem dX11_cabinet_109 : decode cX11_cabinet 109 = .ok (.aload_n 0, 1) := by decide +kernel
theorem dX11_cabinet_110 : decode cX11_cabinet 110 = .ok (.getfield 270, 3) := by decide +kernel
theorem dX11_cabinet_113 : decode cX11_cabinet 113 = .ok (.putfield 137, 3) := by decide +kernel
theorem dX11_cabinet_116 : decode cX11_cabinet 116 = .ok (.iconst 0, 1) := by decide +kernel
theorem dX11_cabinet_117 : decode cX11_cabinet 117 = .ok (.istore_n 3, 1) := by decide +kernel
theorem dX11_cabinet_118 : decode cX11_cabinet 118 = .ok (.iload_n 3, 1) := by decide +kernel
theorem dX11_cabinet_119 : decode cX11_cabinet 119 = .ok (.bipush 12, 2) := by decide +kernel
theorem dX11_cabinet_121 : decode cX11_cabinet 121 = .ok (.if_icmp .ge 21, 3) := by decide +kernel
theorem dX11_cabinet_124 : decode cX11_cabinet 124 = .ok (.aload_n 0, 1) := by decide +kernel
theorem dX11_cabinet_125 : decode cX11_cabinet 125 = .ok (.getfield 19, 3) := by decide +kernel
theorem dX11_cabinet_128 : decode cX11_cabinet 128 = .ok (.iload_n 3, 1) := by decide +kernel
theorem dX11_cabinet_129 : decode cX11_cabinet 129 = .ok (.aload_n 0, 1) := by decide +kernel
theorem dX11_cabinet_130 : decode cX11_cabinet 130 = .ok (.getfield 71, 3) := by decide +kernel
theorem dX11_cabinet_133 : decode cX11_cabinet 133 = .ok (.iload_n 3, 1) := by decide +kernel
theorem dX11_cabinet_134 : decode cX11_cabinet 134 = .ok (.iaload, 1) := by decide +kernel
theorem dX11_cabinet_135 : decode cX11_cabinet 135 = .ok (.iastore, 1) := by decide +kernel
theorem dX11_cabinet_136 : decode cX11_cabinet 136 = .ok (.iinc 3 1, 3) := by decide +kernel
theorem dX11_cabinet_139 : decode cX11_cabinet 139 = .ok (.goto (-21), 3) := by decide +kernel
theorem dX11_cabinet_142 : decode cX11_cabinet 142 = .ok (.iconst 0, 1) := by decide +kernel
theorem dX11_cabinet_143 : decode cX11_cabinet 143 = .ok (.istore_n 3, 1) := by decide +kernel
theorem dX11_cabinet_144 : decode cX11_cabinet 144 = .ok (.iload_n 3, 1) := by decide +kernel
theorem dX11_cabinet_145 : decode cX11_cabinet 145 = .ok (.aload_n 0, 1) := by decide +kernel
theorem dX11_cabinet_146 : decode cX11_cabinet 146 = .ok (.getfield 137, 3) := by decide +kernel
theorem dX11_cabinet_149 : decode cX11_cabinet 149 = .ok (.if_icmp .ge 52, 3) := by decide +kernel
theorem dX11_cabinet_152 : decode cX11_cabinet 152 = .ok (.aload_n 0, 1) := by decide +kernel
theorem dX11_cabinet_153 : decode cX11_cabinet 153 = .ok (.getfield 22, 3) := by decide +kernel
theorem dX11_cabinet_156 : decode cX11_cabinet 156 = .ok (.iload_n 3, 1) := by decide +kernel
theorem dX11_cabinet_157 : decode cX11_cabinet 157 = .ok (.aload_n 0, 1) := by decide +kernel
theorem dX11_cabinet_158 : decode cX11_cabinet 158 = .ok (.getfield 77, 3) := by decide +kernel
theorem dX11_cabinet_161 : decode cX11_cabinet 161 = .ok (.iload_n 3, 1) := by decide +kernel
theorem dX11_cabinet_162 : decode cX11_cabinet 162 = .ok (.iaload, 1) := by decide +kernel
theorem dX11_cabinet_163 : decode cX11_cabinet 163 = .ok (.iastore, 1) := by decide +kernel
theorem dX11_cabinet_164 : decode cX11_cabinet 164 = .ok (.aload_n 0, 1) := by decide +kernel
theorem dX11_cabinet_165 : decode cX11_cabinet 165 = .ok (.getfield 25, 3) := by decide +kernel
theorem dX11_cabinet_168 : decode cX11_cabinet 168 = .ok (.iload_n 3, 1) := by decide +kernel
theorem dX11_cabinet_169 : decode cX11_cabinet 169 = .ok (.aload_n 0, 1) := by decide +kernel
theorem dX11_cabinet_170 : decode cX11_cabinet 170 = .ok (.getfield 80, 3) := by decide +kernel
theorem dX11_cabinet_173 : decode cX11_cabinet 173 = .ok (.iload_n 3, 1) := by decide +kernel
theorem dX11_cabinet_174 : decode cX11_cabinet 174 = .ok (.iaload, 1) := by decide +kernel
theorem dX11_cabinet_175 : decode cX11_cabinet 175 = .ok (.iastore, 1) := by decide +kernel
theorem dX11_cabinet_176 : decode cX11_cabinet 176 = .ok (.aload_n 0, 1) := by decide +kernel
theorem dX11_cabinet_177 : decode cX11_cabinet 177 = .ok (.iload_n 3, 1) := by decide +kernel
theorem dX11_cabinet_178 : decode cX11_cabinet 178 = .ok (.invokevirtual 148, 3) := by decide +kernel
theorem dX11_cabinet_181 : decode cX11_cabinet 181 = .ok (.aload_n 0, 1) := by decide +kernel
theorem dX11_cabinet_182 : decode cX11_cabinet 182 = .ok (.getfield 7, 3) := by decide +kernel
theorem dX11_cabinet_185 : decode cX11_cabinet 185 = .ok (.iconst 0, 1) := by decide +kernel
theorem dX11_cabinet_186 : decode cX11_cabinet 186 = .ok (.iload_n 3, 1) := by decide +kernel
theorem dX11_cabinet_187 : decode cX11_cabinet 187 = .ok (.iadd, 1) := by decide +kernel
theorem dX11_cabinet_188 : decode cX11_cabinet 188 = .ok (.aload_n 0, 1) := by decide +kernel
theorem dX11_cabinet_189 : decode cX11_cabinet 189 = .ok (.getfield 83, 3) := by decide +kernel
theorem dX11_cabinet_192 : decode cX11_cabinet 192 = .ok (.iload_n 3, 1) := by decide +kernel
theorem dX11_cabinet_193 : decode cX11_cabinet 193 = .ok (.iaload, 1) := by decide +kernel
theorem dX11_cabinet_194 : decode cX11_cabinet 194 = .ok (.iastore, 1) := by decide +kernel
theorem dX11_cabinet_195 : decode cX11_cabinet 195 = .ok (.iinc 3 1, 3) := by decide +kernel
theorem dX11_cabinet_198 : decode cX11_cabinet 198 = .ok (.goto (-54), 3) := by decide +kernel
theorem dX11_cabinet_201 : decode cX11_cabinet 201 = .ok (.aload_n 0, 1) := by decide +kernel
theorem dX11_cabinet_202 : decode cX11_cabinet 202 = .ok (.getfield 273, 3) := by decide +kernel
theorem dX11_cabinet_205 : decode cX11_cabinet 205 = .ok (.ireturn, 1) := by decide +kernel
theorem dX11_draws_0 : decode cX11_draws 0 = .ok (.aload_n 0, 1) := by decide +kernel
theorem dX11_draws_1 : decode cX11_draws 1 = .ok (.getfield 7, 3) := by decide +kernel
theorem dX11_draws_4 : decode cX11_draws 4 = .ok (.bipush 73, 2) := by decide +kernel
theorem dX11_draws_6 : decode cX11_draws 6 = .ok (.sipush 25173, 3) := by decide +kernel
theorem dX11_draws_9 : decode cX11_draws 9 = .ok (.aload_n 0, 1) := by decide +kernel
theorem dX11_draws_10 : decode cX11_draws 10 = .ok (.getfield 7, 3) := by decide +kernel
theorem dX11_draws_13 : decode cX11_draws 13 = .ok (.bipush 73, 2) := by decide +kernel
theorem dX11_draws_15 : decode cX11_draws 15 = .ok (.iaload, 1) := by decide +kernel
theorem dX11_draws_16 : decode cX11_draws 16 = .ok (.imul, 1) := by decide +kernel
theorem dX11_draws_17 : decode cX11_draws 17 = .ok (.sipush 13849, 3) := by decide +kernel
theorem dX11_draws_20 : decode cX11_draws 20 = .ok (.iadd, 1) := by decide +kernel
theorem dX11_draws_21 : decode cX11_draws 21 = .ok (.ldc_w 285, 3) := by decide +kernel
theorem dX11_draws_24 : decode cX11_draws 24 = .ok (.irem, 1) := by decide +kernel
theorem dX11_draws_25 : decode cX11_draws 25 = .ok (.iastore, 1) := by decide +kernel
theorem dX11_draws_26 : decode cX11_draws 26 = .ok (.aload_n 0, 1) := by decide +kernel
theorem dX11_draws_27 : decode cX11_draws 27 = .ok (.getfield 7, 3) := by decide +kernel
theorem dX11_draws_30 : decode cX11_draws 30 = .ok (.bipush 73, 2) := by decide +kernel
theorem dX11_draws_32 : decode cX11_draws 32 = .ok (.iaload, 1) := by decide +kernel
theorem dX11_draws_33 : decode cX11_draws 33 = .ok (.bipush 10, 2) := by decide +kernel
theorem dX11_draws_35 : decode cX11_draws 35 = .ok (.irem, 1) := by decide +kernel
theorem dX11_draws_36 : decode cX11_draws 36 = .ok (.ireturn, 1) := by decide +kernel
theorem dX11_feelsDrawer_0 : decode cX11_feelsDrawer 0 = .ok (.aload_n 0, 1) := by decide +kernel
theorem dX11_feelsDrawer_1 : decode cX11_feelsDrawer 1 = .ok (.getfield 68, 3) := by decide +kernel
theorem dX11_feelsDrawer_4 : decode cX11_feelsDrawer 4 = .ok (.iconst 0, 1) := by decide +kernel
theorem dX11_feelsDrawer_5 : decode cX11_feelsDrawer 5 = .ok (.bipush 24, 2) := by decide +kernel
theorem dX11_feelsDrawer_7 : decode cX11_feelsDrawer 7 = .ok (.iastore, 1) := by decide +kernel
theorem dX11_feelsDrawer_8 : decode cX11_feelsDrawer 8 = .ok (.aload_n 0, 1) := by decide +kernel
theorem dX11_feelsDrawer_9 : decode cX11_feelsDrawer 9 = .ok (.getfield 68, 3) := by decide +kernel
theorem dX11_feelsDrawer_12 : decode cX11_feelsDrawer 12 = .ok (.iconst 1, 1) := by decide +kernel
theorem dX11_feelsDrawer_13 : decode cX11_feelsDrawer 13 = .ok (.bipush 16, 2) := by decide +kernel
theorem dX11_feelsDrawer_15 : decode cX11_feelsDrawer 15 = .ok (.iastore, 1) := by decide +kernel
theorem dX11_feelsDrawer_16 : decode cX11_feelsDrawer 16 = .ok (.aload_n 0, 1) := by decide +kernel
theorem dX11_feelsDrawer_17 : decode cX11_feelsDrawer 17 = .ok (.getfield 68, 3) := by decide +kernel
theorem dX11_feelsDrawer_20 : decode cX11_feelsDrawer 20 = .ok (.iconst 2, 1) := by decide +kernel
theorem dX11_feelsDrawer_21 : decode cX11_feelsDrawer 21 = .ok (.iconst 0, 1) := by decide +kernel
theorem dX11_feelsDrawer_22 : decode cX11_feelsDrawer 22 = .ok (.iastore, 1) := by decide +kernel
theorem dX11_feelsDrawer_23 : decode cX11_feelsDrawer 23 = .ok (.aload_n 0, 1) := by decide +kernel
theorem dX11_feelsDrawer_24 : decode cX11_feelsDrawer 24 = .ok (.getfield 68, 3) := by decide +kernel
theorem dX11_feelsDrawer_27 : decode cX11_feelsDrawer 27 = .ok (.iconst 3, 1) := by decide +kernel
theorem dX11_feelsDrawer_28 : decode cX11_feelsDrawer 28 = .ok (.iload_n 1, 1) := by decide +kernel
theorem dX11_feelsDrawer_29 : decode cX11_feelsDrawer 29 = .ok (.iastore, 1) := by decide +kernel
theorem dX11_feelsDrawer_30 : decode cX11_feelsDrawer 30 = .ok (.aload_n 0, 1) := by decide +kernel
theorem dX11_feelsDrawer_31 : decode cX11_feelsDrawer 31 = .ok (.getfield 68, 3) := by decide +kernel
theorem dX11_feelsDrawer_34 : decode cX11_feelsDrawer 34 = .ok (.iconst 4, 1) := by decide +kernel
theorem dX11_feelsDrawer_35 : decode cX11_feelsDrawer 35 = .ok (.aload_n 0, 1) := by decide +kernel
theorem dX11_feelsDrawer_36 : decode cX11_feelsDrawer 36 = .ok (.iload_n 1, 1) := by decide +kernel
theorem dX11_feelsDrawer_37 : decode cX11_feelsDrawer 37 = .ok (.invokevirtual 155, 3) := by decide +kernel
theorem dX11_feelsDrawer_40 : decode cX11_feelsDrawer 40 = .ok (.iastore, 1) := by decide +kernel
theorem dX11_feelsDrawer_41 : decode cX11_feelsDrawer 41 = .ok (.aload_n 0, 1) := by decide +kernel
theorem dX11_feelsDrawer_42 : decode cX11_feelsDrawer 42 = .ok (.getfield 68, 3) := by decide +kernel
theorem dX11_feelsDrawer_45 : decode cX11_feelsDrawer 45 = .ok (.iconst 5, 1) := by decide +kernel
theorem dX11_feelsDrawer_46 : decode cX11_feelsDrawer 46 = .ok (.aload_n 0, 1) := by decide +kernel
theorem dX11_feelsDrawer_47 : decode cX11_feelsDrawer 47 = .ok (.iload_n 1, 1) := by decide +kernel
theorem dX11_feelsDrawer_48 : decode cX11_feelsDrawer 48 = .ok (.invokevirtual 286, 3) := by decide +kernel
theorem dX11_feelsDrawer_51 : decode cX11_feelsDrawer 51 = .ok (.invokestatic 289, 3) := by decide +kernel
theorem dX11_feelsDrawer_54 : decode cX11_feelsDrawer 54 = .ok (.iastore, 1) := by decide +kernel
theorem dX11_feelsDrawer_55 : decode cX11_feelsDrawer 55 = .ok (.aload_n 0, 1) := by decide +kernel
theorem dX11_feelsDrawer_56 : decode cX11_feelsDrawer 56 = .ok (.getfield 68, 3) := by decide +kernel
theorem dX11_feelsDrawer_59 : decode cX11_feelsDrawer 59 = .ok (.bipush 6, 2) := by decide +kernel
theorem dX11_feelsDrawer_61 : decode cX11_feelsDrawer 61 = .ok (.iconst 0, 1) := by decide +kernel
theorem dX11_feelsDrawer_62 : decode cX11_feelsDrawer 62 = .ok (.iastore, 1) := by decide +kernel
theorem dX11_feelsDrawer_63 : decode cX11_feelsDrawer 63 = .ok (.aload_n 0, 1) := by decide +kernel
theorem dX11_feelsDrawer_64 : decode cX11_feelsDrawer 64 = .ok (.getfield 68, 3) := by decide +kernel
theorem dX11_feelsDrawer_67 : decode cX11_feelsDrawer 67 = .ok (.bipush 7, 2) := by decide +kernel
theorem dX11_feelsDrawer_69 : decode cX11_feelsDrawer 69 = .ok (.iconst 0, 1) := by decide +kernel
theorem dX11_feelsDrawer_70 : decode cX11_feelsDrawer 70 = .ok (.iastore, 1) := by decide +kernel
theorem dX11_feelsDrawer_71 : decode cX11_feelsDrawer 71 = .ok (.aload_n 0, 1) := by decide +kernel
theorem dX11_feelsDrawer_72 : decode cX11_feelsDrawer 72 = .ok (.getfield 68, 3) := by decide +kernel
theorem dX11_feelsDrawer_75 : decode cX11_feelsDrawer 75 = .ok (.bipush 8, 2) := by decide +kernel
theorem dX11_feelsDrawer_77 : decode cX11_feelsDrawer 77 = .ok (.aload_n 0, 1) := by decide +kernel
theorem dX11_feelsDrawer_78 : decode cX11_feelsDrawer 78 = .ok (.getfield 7, 3) := by decide +kernel
theorem dX11_feelsDrawer_81 : decode cX11_feelsDrawer 81 = .ok (.bipush 72, 2) := by decide +kernel
theorem dX11_feelsDrawer_83 : decode cX11_feelsDrawer 83 = .ok (.iaload, 1) := by decide +kernel
theorem dX11_feelsDrawer_84 : decode cX11_feelsDrawer 84 = .ok (.bipush 100, 2) := by decide +kernel
theorem dX11_feelsDrawer_86 : decode cX11_feelsDrawer 86 = .ok (.irem, 1) := by decide +kernel
theorem dX11_feelsDrawer_87 : decode cX11_feelsDrawer 87 = .ok (.iastore, 1) := by decide +kernel
theorem dX11_feelsDrawer_88 : decode cX11_feelsDrawer 88 = .ok (.aload_n 0, 1) := by decide +kernel
theorem dX11_feelsDrawer_89 : decode cX11_feelsDrawer 89 = .ok (.getfield 68, 3) := by decide +kernel
theorem dX11_feelsDrawer_92 : decode cX11_feelsDrawer 92 = .ok (.bipush 9, 2) := by decide +kernel
theorem dX11_feelsDrawer_94 : decode cX11_feelsDrawer 94 = .ok (.iload_n 2, 1) := by decide +kernel
theorem dX11_feelsDrawer_95 : decode cX11_feelsDrawer 95 = .ok (.iastore, 1) := by decide +kernel
theorem dX11_feelsDrawer_96 : decode cX11_feelsDrawer 96 = .ok (.return_, 1) := by decide +kernel
theorem dX11_feelsPaper_0 : decode cX11_feelsPaper 0 = .ok (.aload_n 0, 1) := by decide +kernel
theorem dX11_feelsPaper_1 : decode cX11_feelsPaper 1 = .ok (.iload_n 2, 1) := by decide +kernel
theorem dX11_feelsPaper_2 : decode cX11_feelsPaper 2 = .ok (.iload_n 3, 1) := by decide +kernel
theorem dX11_feelsPaper_3 : decode cX11_feelsPaper 3 = .ok (.invokevirtual 292, 3) := by decide +kernel
theorem dX11_feelsPaper_6 : decode cX11_feelsPaper 6 = .ok (.aload_n 0, 1) := by decide +kernel
theorem dX11_feelsPaper_7 : decode cX11_feelsPaper 7 = .ok (.getfield 68, 3) := by decide +kernel
theorem dX11_feelsPaper_10 : decode cX11_feelsPaper 10 = .ok (.iconst 0, 1) := by decide +kernel
theorem dX11_feelsPaper_11 : decode cX11_feelsPaper 11 = .ok (.iload_n 1, 1) := by decide +kernel
theorem dX11_feelsPaper_12 : decode cX11_feelsPaper 12 = .ok (.iastore, 1) := by decide +kernel
theorem dX11_feelsPaper_13 : decode cX11_feelsPaper 13 = .ok (.aload_n 0, 1) := by decide +kernel
theorem dX11_feelsPaper_14 : decode cX11_feelsPaper 14 = .ok (.getfield 68, 3) := by decide +kernel
theorem dX11_feelsPaper_17 : decode cX11_feelsPaper 17 = .ok (.iconst 1, 1) := by decide +kernel
theorem dX11_feelsPaper_18 : decode cX11_feelsPaper 18 = .ok (.aload_n 0, 1) := by decide +kernel
theorem dX11_feelsPaper_19 : decode cX11_feelsPaper 19 = .ok (.getfield 22, 3) := by decide +kernel
theorem dX11_feelsPaper_22 : decode cX11_feelsPaper 22 = .ok (.iload_n 1, 1) := by decide +kernel
theorem dX11_feelsPaper_23 : decode cX11_feelsPaper 23 = .ok (.iaload, 1) := by decide +kernel
theorem dX11_feelsPaper_24 : decode cX11_feelsPaper 24 = .ok (.iastore, 1) := by decide +kernel
theorem dX11_feelsPaper_25 : decode cX11_feelsPaper 25 = .ok (.aload_n 0, 1) := by decide +kernel
theorem dX11_feelsPaper_26 : decode cX11_feelsPaper 26 = .ok (.getfield 68, 3) := by decide +kernel
theorem dX11_feelsPaper_29 : decode cX11_feelsPaper 29 = .ok (.iconst 2, 1) := by decide +kernel
theorem dX11_feelsPaper_30 : decode cX11_feelsPaper 30 = .ok (.aload_n 0, 1) := by decide +kernel
theorem dX11_feelsPaper_31 : decode cX11_feelsPaper 31 = .ok (.getfield 25, 3) := by decide +kernel
theorem dX11_feelsPaper_34 : decode cX11_feelsPaper 34 = .ok (.iload_n 1, 1) := by decide +kernel
theorem dX11_feelsPaper_35 : decode cX11_feelsPaper 35 = .ok (.iaload, 1) := by decide +kernel
theorem dX11_feelsPaper_36 : decode cX11_feelsPaper 36 = .ok (.iastore, 1) := by decide +kernel
theorem dX11_feelsPaper_37 : decode cX11_feelsPaper 37 = .ok (.aload_n 0, 1) := by decide +kernel
theorem dX11_feelsPaper_38 : decode cX11_feelsPaper 38 = .ok (.getfield 68, 3) := by decide +kernel
theorem dX11_feelsPaper_41 : decode cX11_feelsPaper 41 = .ok (.bipush 6, 2) := by decide +kernel
theorem dX11_feelsPaper_43 : decode cX11_feelsPaper 43 = .ok (.aload_n 0, 1) := by decide +kernel
theorem dX11_feelsPaper_44 : decode cX11_feelsPaper 44 = .ok (.getfield 7, 3) := by decide +kernel
theorem dX11_feelsPaper_47 : decode cX11_feelsPaper 47 = .ok (.iconst 0, 1) := by decide +kernel
theorem dX11_feelsPaper_48 : decode cX11_feelsPaper 48 = .ok (.iload_n 1, 1) := by decide +kernel
theorem dX11_feelsPaper_49 : decode cX11_feelsPaper 49 = .ok (.iadd, 1) := by decide +kernel
theorem dX11_feelsPaper_50 : decode cX11_feelsPaper 50 = .ok (.iaload, 1) := by decide +kernel
theorem dX11_feelsPaper_51 : decode cX11_feelsPaper 51 = .ok (.iconst (-1), 1) := by decide +kernel
theorem dX11_feelsPaper_52 : decode cX11_feelsPaper 52 = .ok (.if_icmp .ne 7, 3) := by decide +kernel
theorem dX11_feelsPaper_55 : decode cX11_feelsPaper 55 = .ok (.iconst 0, 1) := by decide +kernel
theorem dX11_feelsPaper_56 : decode cX11_feelsPaper 56 = .ok (.goto 12, 3) := by decide +kernel
theorem dX11_feelsPaper_59 : decode cX11_feelsPaper 59 = .ok (.aload_n 0, 1) := by decide +kernel
theorem dX11_feelsPaper_60 : decode cX11_feelsPaper 60 = .ok (.getfield 7, 3) := by decide +kernel
theorem dX11_feelsPaper_63 : decode cX11_feelsPaper 63 = .ok (.bipush 48, 2) := by decide +kernel
theorem dX11_feelsPaper_65 : decode cX11_feelsPaper 65 = .ok (.iload_n 1, 1) := by decide +kernel
theorem dX11_feelsPaper_66 : decode cX11_feelsPaper 66 = .ok (.iadd, 1) := by decide +kernel
theorem dX11_feelsPaper_67 : decode cX11_feelsPaper 67 = .ok (.iaload, 1) := by decide +kernel
theorem dX11_feelsPaper_68 : decode cX11_feelsPaper 68 = .ok (.iastore, 1) := by decide +kernel
theorem dX11_feelsPaper_69 : decode cX11_feelsPaper 69 = .ok (.aload_n 0, 1) := by decide +kernel
theorem dX11_feelsPaper_70 : decode cX11_feelsPaper 70 = .ok (.getfield 68, 3) := by decide +kernel
theorem dX11_feelsPaper_73 : decode cX11_feelsPaper 73 = .ok (.bipush 7, 2) := by decide +kernel
theorem dX11_feelsPaper_75 : decode cX11_feelsPaper 75 = .ok (.aload_n 0, 1) := by decide +kernel
theorem dX11_feelsPaper_76 : decode cX11_feelsPaper 76 = .ok (.getfield 7, 3) := by decide +kernel
theorem dX11_feelsPaper_79 : decode cX11_feelsPaper 79 = .ok (.bipush 24, 2) := by decide +kernel
theorem dX11_feelsPaper_81 : decode cX11_feelsPaper 81 = .ok (.iload_n 1, 1) := by decide +kernel
theorem dX11_feelsPaper_82 : decode cX11_feelsPaper 82 = .ok (.iadd, 1) := by decide +kernel
theorem dX11_feelsPaper_83 : decode cX11_feelsPaper 83 = .ok (.iaload, 1) := by decide +kernel
theorem dX11_feelsPaper_84 : decode cX11_feelsPaper 84 = .ok (.iastore, 1) := by decide +kernel
theorem dX11_feelsPaper_85 : decode cX11_feelsPaper 85 = .ok (.return_, 1) := by decide +kernel
theorem dX11_goesIn_0 : decode cX11_goesIn 0 = .ok (.iconst (-1), 1) := by decide +kernel
theorem dX11_goesIn_1 : decode cX11_goesIn 1 = .ok (.istore_n 2, 1) := by decide +kernel
theorem dX11_goesIn_2 : decode cX11_goesIn 2 = .ok (.iconst 0, 1) := by decide +kernel
theorem dX11_goesIn_3 : decode cX11_goesIn 3 = .ok (.istore_n 3, 1) := by decide +kernel
theorem dX11_goesIn_4 : decode cX11_goesIn 4 = .ok (.iconst 0, 1) := by decide +kernel
theorem dX11_goesIn_5 : decode cX11_goesIn 5 = .ok (.istore 4, 2) := by decide +kernel
theorem dX11_goesIn_7 : decode cX11_goesIn 7 = .ok (.iload 4, 2) := by decide +kernel
theorem dX11_goesIn_9 : decode cX11_goesIn 9 = .ok (.bipush 12, 2) := by decide +kernel
theorem dX11_goesIn_11 : decode cX11_goesIn 11 = .ok (.if_icmp .ge 82, 3) := by decide +kernel
theorem dX11_goesIn_14 : decode cX11_goesIn 14 = .ok (.aload_n 0, 1) := by decide +kernel
theorem dX11_goesIn_15 : decode cX11_goesIn 15 = .ok (.iload 4, 2) := by decide +kernel
theorem dX11_goesIn_17 : decode cX11_goesIn 17 = .ok (.invokevirtual 152, 3) := by decide +kernel
theorem dX11_goesIn_20 : decode cX11_goesIn 20 = .ok (.ifCond .eq 67, 3) := by decide +kernel
theorem dX11_goesIn_23 : decode cX11_goesIn 23 = .ok (.aload_n 0, 1) := by decide +kernel
theorem dX11_goesIn_24 : decode cX11_goesIn 24 = .ok (.getfield 295, 3) := by decide +kernel
theorem dX11_goesIn_27 : decode cX11_goesIn 27 = .ok (.iload 4, 2) := by decide +kernel
theorem dX11_goesIn_29 : decode cX11_goesIn 29 = .ok (.invokestatic 133, 3) := by decide +kernel
theorem dX11_goesIn_32 : decode cX11_goesIn 32 = .ok (.ifCond .ne 55, 3) := by decide +kernel
theorem dX11_goesIn_35 : decode cX11_goesIn 35 = .ok (.aload_n 0, 1) := by decide +kernel
theorem dX11_goesIn_36 : decode cX11_goesIn 36 = .ok (.iload 4, 2) := by decide +kernel
theorem dX11_goesIn_38 : decode cX11_goesIn 38 = .ok (.invokevirtual 155, 3) := by decide +kernel
theorem dX11_goesIn_41 : decode cX11_goesIn 41 = .ok (.aload_n 0, 1) := by decide +kernel
theorem dX11_goesIn_42 : decode cX11_goesIn 42 = .ok (.getfield 25, 3) := by decide +kernel
theorem dX11_goesIn_45 : decode cX11_goesIn 45 = .ok (.iload_n 1, 1) := by decide +kernel
theorem dX11_goesIn_46 : decode cX11_goesIn 46 = .ok (.iaload, 1) := by decide +kernel
theorem dX11_goesIn_47 : decode cX11_goesIn 47 = .ok (.if_icmp .ge 6, 3) := by decide +kernel
theorem dX11_goesIn_50 : decode cX11_goesIn 50 = .ok (.goto 37, 3) := by decide +kernel
theorem dX11_goesIn_53 : decode cX11_goesIn 53 = .ok (.aload_n 0, 1) := by decide +kernel
theorem dX11_goesIn_54 : decode cX11_goesIn 54 = .ok (.iload_n 1, 1) := by decide +kernel
theorem dX11_goesIn_55 : decode cX11_goesIn 55 = .ok (.iload 4, 2) := by decide +kernel
theorem dX11_goesIn_57 : decode cX11_goesIn 57 = .ok (.iconst 0, 1) := by decide +kernel
theorem dX11_goesIn_58 : decode cX11_goesIn 58 = .ok (.invokevirtual 298, 3) := by decide +kernel
theorem dX11_goesIn_61 : decode cX11_goesIn 61 = .ok (.aload_n 0, 1) := by decide +kernel
theorem dX11_goesIn_62 : decode cX11_goesIn 62 = .ok (.bipush 101, 2) := by decide +kernel
theorem dX11_goesIn_64 : decode cX11_goesIn 64 = .ok (.sipush 9999, 3) := by decide +kernel
theorem dX11_goesIn_67 : decode cX11_goesIn 67 = .ok (.invokevirtual 302, 3) := by decide +kernel
theorem dX11_goesIn_70 : decode cX11_goesIn 70 = .ok (.istore 5, 2) := by decide +kernel
theorem dX11_goesIn_72 : decode cX11_goesIn 72 = .ok (.iload 5, 2) := by decide +kernel
theorem dX11_goesIn_74 : decode cX11_goesIn 74 = .ok (.iload_n 3, 1) := by decide +kernel
theorem dX11_goesIn_75 : decode cX11_goesIn 75 = .ok (.if_icmp .gt 6, 3) := by decide +kernel
theorem dX11_goesIn_78 : decode cX11_goesIn 78 = .ok (.goto 9, 3) := by decide +kernel
theorem dX11_goesIn_81 : decode cX11_goesIn 81 = .ok (.iload 5, 2) := by decide +kernel
theorem dX11_goesIn_83 : decode cX11_goesIn 83 = .ok (.istore_n 3, 1) := by decide +kernel
theorem dX11_goesIn_84 : decode cX11_goesIn 84 = .ok (.iload 4, 2) := by decide +kernel
theorem dX11_goesIn_86 : decode cX11_goesIn 86 = .ok (.istore_n 2, 1) := by decide +kernel
theorem dX11_goesIn_87 : decode cX11_goesIn 87 = .ok (.iinc 4 1, 3) := by decide +kernel
theorem dX11_goesIn_90 : decode cX11_goesIn 90 = .ok (.goto (-83), 3) := by decide +kernel
theorem dX11_goesIn_93 : decode cX11_goesIn 93 = .ok (.iload_n 2, 1) := by decide +kernel
theorem dX11_goesIn_94 : decode cX11_goesIn 94 = .ok (.iconst (-1), 1) := by decide +kernel
theorem dX11_goesIn_95 : decode cX11_goesIn 95 = .ok (.if_icmp .ne 4, 3) := by decide +kernel
theorem dX11_goesIn_98 : decode cX11_goesIn 98 = .ok (.return_, 1) := by decide +kernel
theorem dX11_goesIn_99 : decode cX11_goesIn 99 = .ok (.aload_n 0, 1) := by decide +kernel
theorem dX11_goesIn_100 : decode cX11_goesIn 100 = .ok (.getfield 7, 3) := by decide +kernel
theorem dX11_goesIn_103 : decode cX11_goesIn 103 = .ok (.iconst 0, 1) := by decide +kernel
theorem dX11_goesIn_104 : decode cX11_goesIn 104 = .ok (.iload_n 1, 1) := by decide +kernel
theorem dX11_goesIn_105 : decode cX11_goesIn 105 = .ok (.iadd, 1) := by decide +kernel
theorem dX11_goesIn_106 : decode cX11_goesIn 106 = .ok (.iload_n 2, 1) := by decide +kernel
theorem dX11_goesIn_107 : decode cX11_goesIn 107 = .ok (.iastore, 1) := by decide +kernel
theorem dX11_goesIn_108 : decode cX11_goesIn 108 = .ok (.aload_n 0, 1) := by decide +kernel
theorem dX11_goesIn_109 : decode cX11_goesIn 109 = .ok (.getfield 7, 3) := by decide +kernel
theorem dX11_goesIn_112 : decode cX11_goesIn 112 = .ok (.bipush 48, 2) := by decide +kernel
theorem dX11_goesIn_114 : decode cX11_goesIn 114 = .ok (.iload_n 1, 1) := by decide +kernel
theorem dX11_goesIn_115 : decode cX11_goesIn 115 = .ok (.iadd, 1) := by decide +kernel
theorem dX11_goesIn_116 : decode cX11_goesIn 116 = .ok (.iconst 0, 1) := by decide +kernel
theorem dX11_goesIn_117 : decode cX11_goesIn 117 = .ok (.iastore, 1) := by decide +kernel
theorem dX11_goesIn_118 : decode cX11_goesIn 118 = .ok (.aload_n 0, 1) := by decide +kernel
theorem dX11_goesIn_119 : decode cX11_goesIn 119 = .ok (.aload_n 0, 1) := by decide +kernel
theorem dX11_goesIn_120 : decode cX11_goesIn 120 = .ok (.getfield 305, 3) := by decide +kernel
theorem dX11_goesIn_123 : decode cX11_goesIn 123 = .ok (.iconst 1, 1) := by decide +kernel
theorem dX11_goesIn_124 : decode cX11_goesIn 124 = .ok (.iadd, 1) := by decide +kernel
theorem dX11_goesIn_125 : decode cX11_goesIn 125 = .ok (.putfield 305, 3) := by decide +kernel
theorem dX11_goesIn_128 : decode cX11_goesIn 128 = .ok (.return_, 1) := by decide +kernel
theorem dX11_isPeeped_0 : decode cX11_isPeeped 0 = .ok (.aload_n 0, 1) := by decide +kernel
theorem dX11_isPeeped_1 : decode cX11_isPeeped 1 = .ok (.iload_n 1, 1) := by decide +kernel
theorem dX11_isPeeped_2 : decode cX11_isPeeped 2 = .ok (.aload_n 0, 1) := by decide +kernel
theorem dX11_isPeeped_3 : decode cX11_isPeeped 3 = .ok (.getfield 7, 3) := by decide +kernel
theorem dX11_isPeeped_6 : decode cX11_isPeeped 6 = .ok (.iconst 0, 1) := by decide +kernel
theorem dX11_isPeeped_7 : decode cX11_isPeeped 7 = .ok (.iload_n 1, 1) := by decide +kernel
theorem dX11_isPeeped_8 : decode cX11_isPeeped 8 = .ok (.iadd, 1) := by decide +kernel
theorem dX11_isPeeped_9 : decode cX11_isPeeped 9 = .ok (.iaload, 1) := by decide +kernel
theorem dX11_isPeeped_10 : decode cX11_isPeeped 10 = .ok (.aload_n 0, 1) := by decide +kernel
theorem dX11_isPeeped_11 : decode cX11_isPeeped 11 = .ok (.invokevirtual 308, 3) := by decide +kernel
theorem dX11_isPeeped_14 : decode cX11_isPeeped 14 = .ok (.invokevirtual 298, 3) := by decide +kernel
theorem dX11_isPeeped_17 : decode cX11_isPeeped 17 = .ok (.aload_n 0, 1) := by decide +kernel
theorem dX11_isPeeped_18 : decode cX11_isPeeped 18 = .ok (.getfield 68, 3) := by decide +kernel
theorem dX11_isPeeped_21 : decode cX11_isPeeped 21 = .ok (.bipush 9, 2) := by decide +kernel
theorem dX11_isPeeped_23 : decode cX11_isPeeped 23 = .ok (.iaload, 1) := by decide +kernel
theorem dX11_isPeeped_24 : decode cX11_isPeeped 24 = .ok (.aload_n 0, 1) := by decide +kernel
theorem dX11_isPeeped_25 : decode cX11_isPeeped 25 = .ok (.bipush 114, 2) := by decide +kernel
theorem dX11_isPeeped_27 : decode cX11_isPeeped 27 = .ok (.bipush 10, 2) := by decide +kernel
theorem dX11_isPeeped_29 : decode cX11_isPeeped 29 = .ok (.invokevirtual 302, 3) := by decide +kernel
theorem dX11_isPeeped_32 : decode cX11_isPeeped 32 = .ok (.if_icmp .ge 35, 3) := by decide +kernel
theorem dX11_isPeeped_35 : decode cX11_isPeeped 35 = .ok (.aload_n 0, 1) := by decide +kernel
theorem dX11_isPeeped_36 : decode cX11_isPeeped 36 = .ok (.getfield 7, 3) := by decide +kernel
theorem dX11_isPeeped_39 : decode cX11_isPeeped 39 = .ok (.bipush 24, 2) := by decide +kernel
theorem dX11_isPeeped_41 : decode cX11_isPeeped 41 = .ok (.iload_n 1, 1) := by decide +kernel
theorem dX11_isPeeped_42 : decode cX11_isPeeped 42 = .ok (.iadd, 1) := by decide +kernel
theorem dX11_isPeeped_43 : decode cX11_isPeeped 43 = .ok (.iaload, 1) := by decide +kernel
theorem dX11_isPeeped_44 : decode cX11_isPeeped 44 = .ok (.ifCond .ne 13, 3) := by decide +kernel
theorem dX11_isPeeped_47 : decode cX11_isPeeped 47 = .ok (.aload_n 0, 1) := by decide +kernel
theorem dX11_isPeeped_48 : decode cX11_isPeeped 48 = .ok (.aload_n 0, 1) := by decide +kernel
theorem dX11_isPeeped_49 : decode cX11_isPeeped 49 = .ok (.getfield 311, 3) := by decide +kernel
theorem dX11_isPeeped_52 : decode cX11_isPeeped 52 = .ok (.iconst 1, 1) := by decide +kernel
theorem dX11_isPeeped_53 : decode cX11_isPeeped 53 = .ok (.iadd, 1) := by decide +kernel
theorem dX11_isPeeped_54 : decode cX11_isPeeped 54 = .ok (.putfield 311, 3) := by decide +kernel
theorem dX11_isPeeped_57 : decode cX11_isPeeped 57 = .ok (.aload_n 0, 1) := by decide +kernel
theorem dX11_isPeeped_58 : decode cX11_isPeeped 58 = .ok (.getfield 7, 3) := by decide +kernel
theorem dX11_isPeeped_61 : decode cX11_isPeeped 61 = .ok (.bipush 24, 2) := by decide +kernel
theorem dX11_isPeeped_63 : decode cX11_isPeeped 63 = .ok (.iload_n 1, 1) := by decide +kernel
theorem dX11_isPeeped_64 : decode cX11_isPeeped 64 = .ok (.iadd, 1) := by decide +kernel
theorem dX11_isPeeped_65 : decode cX11_isPeeped 65 = .ok (.iconst 1, 1) := by decide +kernel
theorem dX11_isPeeped_66 : decode cX11_isPeeped 66 = .ok (.iastore, 1) := by decide +kernel
theorem dX11_isPeeped_67 : decode cX11_isPeeped 67 = .ok (.aload_n 0, 1) := by decide +kernel
theorem dX11_isPeeped_68 : decode cX11_isPeeped 68 = .ok (.getfield 7, 3) := by decide +kernel
theorem dX11_isPeeped_71 : decode cX11_isPeeped 71 = .ok (.bipush 48, 2) := by decide +kernel
theorem dX11_isPeeped_73 : decode cX11_isPeeped 73 = .ok (.iload_n 1, 1) := by decide +kernel
theorem dX11_isPeeped_74 : decode cX11_isPeeped 74 = .ok (.iadd, 1) := by decide +kernel
theorem dX11_isPeeped_75 : decode cX11_isPeeped 75 = .ok (.sipush 9999, 3) := by decide +kernel
theorem dX11_isPeeped_78 : decode cX11_isPeeped 78 = .ok (.aload_n 0, 1) := by decide +kernel
theorem dX11_isPeeped_79 : decode cX11_isPeeped 79 = .ok (.getfield 7, 3) := by decide +kernel
theorem dX11_isPeeped_82 : decode cX11_isPeeped 82 = .ok (.bipush 48, 2) := by decide +kernel
theorem dX11_isPeeped_84 : decode cX11_isPeeped 84 = .ok (.iload_n 1, 1) := by decide +kernel
theorem dX11_isPeeped_85 : decode cX11_isPeeped 85 = .ok (.iadd, 1) := by decide +kernel
theorem dX11_isPeeped_86 : decode cX11_isPeeped 86 = .ok (.iaload, 1) := by decide +kernel
theorem dX11_isPeeped_87 : decode cX11_isPeeped 87 = .ok (.iconst 1, 1) := by decide +kernel
theorem dX11_isPeeped_88 : decode cX11_isPeeped 88 = .ok (.iadd, 1) := by decide +kernel
theorem dX11_isPeeped_89 : decode cX11_isPeeped 89 = .ok (.invokestatic 314, 3) := by decide +kernel
theorem dX11_isPeeped_92 : decode cX11_isPeeped 92 = .ok (.iastore, 1) := by decide +kernel
theorem dX11_isPeeped_93 : decode cX11_isPeeped 93 = .ok (.return_, 1) := by decide +kernel
theorem dX11_dayGoes_0 : decode cX11_dayGoes 0 = .ok (.aload_n 0, 1) := by decide +kernel
theorem dX11_dayGoes_1 : decode cX11_dayGoes 1 = .ok (.iconst 0, 1) := by decide +kernel
theorem dX11_dayGoes_2 : decode cX11_dayGoes 2 = .ok (.putfield 295, 3) := by decide +kernel
theorem dX11_dayGoes_5 : decode cX11_dayGoes 5 = .ok (.iconst 0, 1) := by decide +kernel
theorem dX11_dayGoes_6 : decode cX11_dayGoes 6 = .ok (.istore_n 1, 1) := by decide +kernel
theorem dX11_dayGoes_7 : decode cX11_dayGoes 7 = .ok (.iload_n 1, 1) := by decide +kernel
theorem dX11_dayGoes_8 : decode cX11_dayGoes 8 = .ok (.bipush 12, 2) := by decide +kernel
theorem dX11_dayGoes_10 : decode cX11_dayGoes 10 = .ok (.if_icmp .ge 50, 3) := by decide +kernel
theorem dX11_dayGoes_13 : decode cX11_dayGoes 13 = .ok (.aload_n 0, 1) := by decide +kernel
theorem dX11_dayGoes_14 : decode cX11_dayGoes 14 = .ok (.iload_n 1, 1) := by decide +kernel
theorem dX11_dayGoes_15 : decode cX11_dayGoes 15 = .ok (.invokevirtual 152, 3) := by decide +kernel
theorem dX11_dayGoes_18 : decode cX11_dayGoes 18 = .ok (.ifCond .ne 6, 3) := by decide +kernel
theorem dX11_dayGoes_21 : decode cX11_dayGoes 21 = .ok (.goto 33, 3) := by decide +kernel
theorem dX11_dayGoes_24 : decode cX11_dayGoes 24 = .ok (.aload_n 0, 1) := by decide +kernel
theorem dX11_dayGoes_25 : decode cX11_dayGoes 25 = .ok (.iload_n 1, 1) := by decide +kernel
theorem dX11_dayGoes_26 : decode cX11_dayGoes 26 = .ok (.aload_n 0, 1) := by decide +kernel
theorem dX11_dayGoes_27 : decode cX11_dayGoes 27 = .ok (.invokevirtual 308, 3) := by decide +kernel
theorem dX11_dayGoes_30 : decode cX11_dayGoes 30 = .ok (.invokevirtual 292, 3) := by decide +kernel
theorem dX11_dayGoes_33 : decode cX11_dayGoes 33 = .ok (.aload_n 0, 1) := by decide +kernel
theorem dX11_dayGoes_34 : decode cX11_dayGoes 34 = .ok (.bipush 120, 2) := by decide +kernel
theorem dX11_dayGoes_36 : decode cX11_dayGoes 36 = .ok (.invokevirtual 317, 3) := by decide +kernel
theorem dX11_dayGoes_39 : decode cX11_dayGoes 39 = .ok (.ifCond .eq 15, 3) := by decide +kernel
theorem dX11_dayGoes_42 : decode cX11_dayGoes 42 = .ok (.aload_n 0, 1) := by decide +kernel
theorem dX11_dayGoes_43 : decode cX11_dayGoes 43 = .ok (.aload_n 0, 1) := by decide +kernel
theorem dX11_dayGoes_44 : decode cX11_dayGoes 44 = .ok (.getfield 295, 3) := by decide +kernel
theorem dX11_dayGoes_47 : decode cX11_dayGoes 47 = .ok (.iconst 1, 1) := by decide +kernel
theorem dX11_dayGoes_48 : decode cX11_dayGoes 48 = .ok (.iload_n 1, 1) := by decide +kernel
theorem dX11_dayGoes_49 : decode cX11_dayGoes 49 = .ok (.ishl, 1) := by decide +kernel
theorem dX11_dayGoes_50 : decode cX11_dayGoes 50 = .ok (.ior, 1) := by decide +kernel
theorem dX11_dayGoes_51 : decode cX11_dayGoes 51 = .ok (.putfield 295, 3) := by decide +kernel
theorem dX11_dayGoes_54 : decode cX11_dayGoes 54 = .ok (.iinc 1 1, 3) := by decide +kernel
theorem dX11_dayGoes_57 : decode cX11_dayGoes 57 = .ok (.goto (-50), 3) := by decide +kernel
theorem dX11_dayGoes_60 : decode cX11_dayGoes 60 = .ok (.iconst 0, 1) := by decide +kernel
theorem dX11_dayGoes_61 : decode cX11_dayGoes 61 = .ok (.istore_n 1, 1) := by decide +kernel
theorem dX11_dayGoes_62 : decode cX11_dayGoes 62 = .ok (.iload_n 1, 1) := by decide +kernel
theorem dX11_dayGoes_63 : decode cX11_dayGoes 63 = .ok (.aload_n 0, 1) := by decide +kernel
theorem dX11_dayGoes_64 : decode cX11_dayGoes 64 = .ok (.getfield 137, 3) := by decide +kernel
theorem dX11_dayGoes_67 : decode cX11_dayGoes 67 = .ok (.if_icmp .ge 26, 3) := by decide +kernel
theorem dX11_dayGoes_70 : decode cX11_dayGoes 70 = .ok (.aload_n 0, 1) := by decide +kernel
theorem dX11_dayGoes_71 : decode cX11_dayGoes 71 = .ok (.getfield 7, 3) := by decide +kernel
theorem dX11_dayGoes_74 : decode cX11_dayGoes 74 = .ok (.iconst 0, 1) := by decide +kernel
theorem dX11_dayGoes_75 : decode cX11_dayGoes 75 = .ok (.iload_n 1, 1) := by decide +kernel
theorem dX11_dayGoes_76 : decode cX11_dayGoes 76 = .ok (.iadd, 1) := by decide +kernel
theorem dX11_dayGoes_77 : decode cX11_dayGoes 77 = .ok (.iaload, 1) := by decide +kernel
theorem dX11_dayGoes_78 : decode cX11_dayGoes 78 = .ok (.iconst (-1), 1) := by decide +kernel
theorem dX11_dayGoes_79 : decode cX11_dayGoes 79 = .ok (.if_icmp .ne 8, 3) := by decide +kernel
theorem dX11_dayGoes_82 : decode cX11_dayGoes 82 = .ok (.aload_n 0, 1) := by decide +kernel
theorem dX11_dayGoes_83 : decode cX11_dayGoes 83 = .ok (.iload_n 1, 1) := by decide +kernel
theorem dX11_dayGoes_84 : decode cX11_dayGoes 84 = .ok (.invokevirtual 320, 3) := by decide +kernel
theorem dX11_dayGoes_87 : decode cX11_dayGoes 87 = .ok (.iinc 1 1, 3) := by decide +kernel
theorem dX11_dayGoes_90 : decode cX11_dayGoes 90 = .ok (.goto (-28), 3) := by decide +kernel
theorem dX11_dayGoes_93 : decode cX11_dayGoes 93 = .ok (.iconst 0, 1) := by decide +kernel
theorem dX11_dayGoes_94 : decode cX11_dayGoes 94 = .ok (.istore_n 1, 1) := by decide +kernel
theorem dX11_dayGoes_95 : decode cX11_dayGoes 95 = .ok (.iload_n 1, 1) := by decide +kernel
theorem dX11_dayGoes_96 : decode cX11_dayGoes 96 = .ok (.aload_n 0, 1) := by decide +kernel
theorem dX11_dayGoes_97 : decode cX11_dayGoes 97 = .ok (.getfield 137, 3) := by decide +kernel
theorem dX11_dayGoes_100 : decode cX11_dayGoes 100 = .ok (.if_icmp .ge 26, 3) := by decide +kernel
theorem dX11_dayGoes_103 : decode cX11_dayGoes 103 = .ok (.aload_n 0, 1) := by decide +kernel
theorem dX11_dayGoes_104 : decode cX11_dayGoes 104 = .ok (.getfield 7, 3) := by decide +kernel
theorem dX11_dayGoes_107 : decode cX11_dayGoes 107 = .ok (.iconst 0, 1) := by decide +kernel
theorem dX11_dayGoes_108 : decode cX11_dayGoes 108 = .ok (.iload_n 1, 1) := by decide +kernel
theorem dX11_dayGoes_109 : decode cX11_dayGoes 109 = .ok (.iadd, 1) := by decide +kernel
theorem dX11_dayGoes_110 : decode cX11_dayGoes 110 = .ok (.iaload, 1) := by decide +kernel
theorem dX11_dayGoes_111 : decode cX11_dayGoes 111 = .ok (.iconst (-1), 1) := by decide +kernel
theorem dX11_dayGoes_112 : decode cX11_dayGoes 112 = .ok (.if_icmp .eq 8, 3) := by decide +kernel
theorem dX11_dayGoes_115 : decode cX11_dayGoes 115 = .ok (.aload_n 0, 1) := by decide +kernel
theorem dX11_dayGoes_116 : decode cX11_dayGoes 116 = .ok (.iload_n 1, 1) := by decide +kernel
theorem dX11_dayGoes_117 : decode cX11_dayGoes 117 = .ok (.invokevirtual 323, 3) := by decide +kernel
theorem dX11_dayGoes_120 : decode cX11_dayGoes 120 = .ok (.iinc 1 1, 3) := by decide +kernel
theorem dX11_dayGoes_123 : decode cX11_dayGoes 123 = .ok (.goto (-28), 3) := by decide +kernel
theorem dX11_dayGoes_126 : decode cX11_dayGoes 126 = .ok (.aload_n 0, 1) := by decide +kernel
theorem dX11_dayGoes_127 : decode cX11_dayGoes 127 = .ok (.getfield 7, 3) := by decide +kernel
theorem dX11_dayGoes_130 : decode cX11_dayGoes 130 = .ok (.bipush 72, 2) := by decide +kernel
theorem dX11_dayGoes_132 : decode cX11_dayGoes 132 = .ok (.aload_n 0, 1) := by decide +kernel
theorem dX11_dayGoes_133 : decode cX11_dayGoes 133 = .ok (.getfield 7, 3) := by decide +kernel
theorem dX11_dayGoes_136 : decode cX11_dayGoes 136 = .ok (.bipush 72, 2) := by decide +kernel
theorem dX11_dayGoes_138 : decode cX11_dayGoes 138 = .ok (.iaload, 1) := by decide +kernel
theorem dX11_dayGoes_139 : decode cX11_dayGoes 139 = .ok (.iconst 1, 1) := by decide +kernel
theorem dX11_dayGoes_140 : decode cX11_dayGoes 140 = .ok (.iadd, 1) := by decide +kernel
theorem dX11_dayGoes_141 : decode cX11_dayGoes 141 = .ok (.iastore, 1) := by decide +kernel
theorem dX11_dayGoes_142 : decode cX11_dayGoes 142 = .ok (.return_, 1) := by decide +kernel
theorem dX11_daysGo_0 : decode cX11_daysGo 0 = .ok (.aload_n 0, 1) := by decide +kernel
theorem dX11_daysGo_1 : decode cX11_daysGo 1 = .ok (.iconst 0, 1) := by decide +kernel
theorem dX11_daysGo_2 : decode cX11_daysGo 2 = .ok (.putfield 305, 3) := by decide +kernel
theorem dX11_daysGo_5 : decode cX11_daysGo 5 = .ok (.aload_n 0, 1) := by decide +kernel
theorem dX11_daysGo_6 : decode cX11_daysGo 6 = .ok (.iconst 0, 1) := by decide +kernel
theorem dX11_daysGo_7 : decode cX11_daysGo 7 = .ok (.putfield 311, 3) := by decide +kernel
theorem dX11_daysGo_10 : decode cX11_daysGo 10 = .ok (.iconst 0, 1) := by decide +kernel
theorem dX11_daysGo_11 : decode cX11_daysGo 11 = .ok (.istore_n 2, 1) := by decide +kernel
theorem dX11_daysGo_12 : decode cX11_daysGo 12 = .ok (.iload_n 2, 1) := by decide +kernel
theorem dX11_daysGo_13 : decode cX11_daysGo 13 = .ok (.iload_n 1, 1) := by decide +kernel
theorem dX11_daysGo_14 : decode cX11_daysGo 14 = .ok (.if_icmp .ge 26, 3) := by decide +kernel
theorem dX11_daysGo_17 : decode cX11_daysGo 17 = .ok (.aload_n 0, 1) := by decide +kernel
theorem dX11_daysGo_18 : decode cX11_daysGo 18 = .ok (.getfield 7, 3) := by decide +kernel
theorem dX11_daysGo_21 : decode cX11_daysGo 21 = .ok (.bipush 72, 2) := by decide +kernel
theorem dX11_daysGo_23 : decode cX11_daysGo 23 = .ok (.iaload, 1) := by decide +kernel
theorem dX11_daysGo_24 : decode cX11_daysGo 24 = .ok (.sipush 9999, 3) := by decide +kernel
theorem dX11_daysGo_27 : decode cX11_daysGo 27 = .ok (.if_icmp .ge 13, 3) := by decide +kernel
theorem dX11_daysGo_30 : decode cX11_daysGo 30 = .ok (.aload_n 0, 1) := by decide +kernel
theorem dX11_daysGo_31 : decode cX11_daysGo 31 = .ok (.invokevirtual 326, 3) := by decide +kernel
theorem dX11_daysGo_34 : decode cX11_daysGo 34 = .ok (.iinc 2 1, 3) := by decide +kernel
theorem dX11_daysGo_37 : decode cX11_daysGo 37 = .ok (.goto (-25), 3) := by decide +kernel
theorem dX11_daysGo_40 : decode cX11_daysGo 40 = .ok (.return_, 1) := by decide +kernel
theorem dX11_days_0 : decode cX11_days 0 = .ok (.iload_n 1, 1) := by decide +kernel
theorem dX11_days_1 : decode cX11_days 1 = .ok (.iconst 1, 1) := by decide +kernel
theorem dX11_days_2 : decode cX11_days 2 = .ok (.bipush 100, 2) := by decide +kernel
theorem dX11_days_4 : decode cX11_days 4 = .ok (.invokestatic 125, 3) := by decide +kernel
theorem dX11_days_7 : decode cX11_days 7 = .ok (.ifCond .ne 5, 3) := by decide +kernel
theorem dX11_days_10 : decode cX11_days 10 = .ok (.iconst (-1), 1) := by decide +kernel
theorem dX11_days_11 : decode cX11_days 11 = .ok (.ireturn, 1) := by decide +kernel
theorem dX11_days_12 : decode cX11_days 12 = .ok (.aload_n 0, 1) := by decide +kernel
theorem dX11_days_13 : decode cX11_days 13 = .ok (.iload_n 1, 1) := by decide +kernel
theorem dX11_days_14 : decode cX11_days 14 = .ok (.invokevirtual 329, 3) := by decide +kernel
theorem dX11_days_17 : decode cX11_days 17 = .ok (.aload_n 0, 1) := by decide +kernel
theorem dX11_days_18 : decode cX11_days 18 = .ok (.getfield 305, 3) := by decide +kernel
theorem dX11_days_21 : decode cX11_days 21 = .ok (.ireturn, 1) := by decide +kernel
theorem dX11_readSet_0 : decode cX11_readSet 0 = .ok (.iconst 0, 1) := by decide +kernel
theorem dX11_readSet_1 : decode cX11_readSet 1 = .ok (.istore_n 1, 1) := by decide +kernel
theorem dX11_readSet_2 : decode cX11_readSet 2 = .ok (.iconst 0, 1) := by decide +kernel
theorem dX11_readSet_3 : decode cX11_readSet 3 = .ok (.istore_n 2, 1) := by decide +kernel
theorem dX11_readSet_4 : decode cX11_readSet 4 = .ok (.iload_n 2, 1) := by decide +kernel
theorem dX11_readSet_5 : decode cX11_readSet 5 = .ok (.aload_n 0, 1) := by decide +kernel
theorem dX11_readSet_6 : decode cX11_readSet 6 = .ok (.getfield 137, 3) := by decide +kernel
theorem dX11_readSet_9 : decode cX11_readSet 9 = .ok (.if_icmp .ge 23, 3) := by decide +kernel
theorem dX11_readSet_12 : decode cX11_readSet 12 = .ok (.iload_n 1, 1) := by decide +kernel
theorem dX11_readSet_13 : decode cX11_readSet 13 = .ok (.aload_n 0, 1) := by decide +kernel
theorem dX11_readSet_14 : decode cX11_readSet 14 = .ok (.getfield 7, 3) := by decide +kernel
theorem dX11_readSet_17 : decode cX11_readSet 17 = .ok (.bipush 24, 2) := by decide +kernel
theorem dX11_readSet_19 : decode cX11_readSet 19 = .ok (.iload_n 2, 1) := by decide +kernel
theorem dX11_readSet_20 : decode cX11_readSet 20 = .ok (.iadd, 1) := by decide +kernel
theorem dX11_readSet_21 : decode cX11_readSet 21 = .ok (.iaload, 1) := by decide +kernel
theorem dX11_readSet_22 : decode cX11_readSet 22 = .ok (.iload_n 2, 1) := by decide +kernel
theorem dX11_readSet_23 : decode cX11_readSet 23 = .ok (.ishl, 1) := by decide +kernel
theorem dX11_readSet_24 : decode cX11_readSet 24 = .ok (.ior, 1) := by decide +kernel
theorem dX11_readSet_25 : decode cX11_readSet 25 = .ok (.istore_n 1, 1) := by decide +kernel
theorem dX11_readSet_26 : decode cX11_readSet 26 = .ok (.iinc 2 1, 3) := by decide +kernel
theorem dX11_readSet_29 : decode cX11_readSet 29 = .ok (.goto (-25), 3) := by decide +kernel
theorem dX11_readSet_32 : decode cX11_readSet 32 = .ok (.iload_n 1, 1) := by decide +kernel
theorem dX11_readSet_33 : decode cX11_readSet 33 = .ok (.ireturn, 1) := by decide +kernel
theorem dX11_orNone_0 : decode cX11_orNone 0 = .ok (.iload_n 0, 1) := by decide +kernel
theorem dX11_orNone_1 : decode cX11_orNone 1 = .ok (.iconst (-1), 1) := by decide +kernel
theorem dX11_orNone_2 : decode cX11_orNone 2 = .ok (.if_icmp .ne 8, 3) := by decide +kernel
theorem dX11_orNone_5 : decode cX11_orNone 5 = .ok (.bipush (-2), 2) := by decide +kernel
theorem dX11_orNone_7 : decode cX11_orNone 7 = .ok (.goto 4, 3) := by decide +kernel
theorem dX11_orNone_10 : decode cX11_orNone 10 = .ok (.iload_n 0, 1) := by decide +kernel
theorem dX11_orNone_11 : decode cX11_orNone 11 = .ok (.ireturn, 1) := by decide +kernel
theorem dX11_tried_0 : decode cX11_tried 0 = .ok (.iload_n 1, 1) := by decide +kernel
theorem dX11_tried_1 : decode cX11_tried 1 = .ok (.iconst 1, 1) := by decide +kernel
theorem dX11_tried_2 : decode cX11_tried 2 = .ok (.bipush 100, 2) := by decide +kernel
theorem dX11_tried_4 : decode cX11_tried 4 = .ok (.invokestatic 125, 3) := by decide +kernel
theorem dX11_tried_7 : decode cX11_tried 7 = .ok (.ifCond .eq 34, 3) := by decide +kernel
theorem dX11_tried_10 : decode cX11_tried 10 = .ok (.iload_n 2, 1) := by decide +kernel
theorem dX11_tried_11 : decode cX11_tried 11 = .ok (.iconst 0, 1) := by decide +kernel
theorem dX11_tried_12 : decode cX11_tried 12 = .ok (.iconst 3, 1) := by decide +kernel
theorem dX11_tried_13 : decode cX11_tried 13 = .ok (.invokestatic 125, 3) := by decide +kernel
theorem dX11_tried_16 : decode cX11_tried 16 = .ok (.ifCond .ne 27, 3) := by decide +kernel
theorem dX11_tried_19 : decode cX11_tried 19 = .ok (.aload_n 0, 1) := by decide +kernel
theorem dX11_tried_20 : decode cX11_tried 20 = .ok (.iload_n 2, 1) := by decide +kernel
theorem dX11_tried_21 : decode cX11_tried 21 = .ok (.bipush 10, 2) := by decide +kernel
theorem dX11_tried_23 : decode cX11_tried 23 = .ok (.isub, 1) := by decide +kernel
theorem dX11_tried_24 : decode cX11_tried 24 = .ok (.invokevirtual 152, 3) := by decide +kernel
theorem dX11_tried_27 : decode cX11_tried 27 = .ok (.ifCond .ne 16, 3) := by decide +kernel
theorem dX11_tried_30 : decode cX11_tried 30 = .ok (.aload_n 0, 1) := by decide +kernel
theorem dX11_tried_31 : decode cX11_tried 31 = .ok (.iload_n 2, 1) := by decide +kernel
theorem dX11_tried_32 : decode cX11_tried 32 = .ok (.bipush 30, 2) := by decide +kernel
theorem dX11_tried_34 : decode cX11_tried 34 = .ok (.isub, 1) := by decide +kernel
theorem dX11_tried_35 : decode cX11_tried 35 = .ok (.invokevirtual 144, 3) := by decide +kernel
theorem dX11_tried_38 : decode cX11_tried 38 = .ok (.ifCond .ne 5, 3) := by decide +kernel
theorem dX11_tried_41 : decode cX11_tried 41 = .ok (.iconst (-1), 1) := by decide +kernel
theorem dX11_tried_42 : decode cX11_tried 42 = .ok (.ireturn, 1) := by decide +kernel
theorem dX11_tried_43 : decode cX11_tried 43 = .ok (.aload_n 0, 1) := by decide +kernel
theorem dX11_tried_44 : decode cX11_tried 44 = .ok (.getfield 7, 3) := by decide +kernel
theorem dX11_tried_47 : decode cX11_tried 47 = .ok (.aload_n 0, 1) := by decide +kernel
theorem dX11_tried_48 : decode cX11_tried 48 = .ok (.getfield 13, 3) := by decide +kernel
theorem dX11_tried_51 : decode cX11_tried 51 = .ok (.invokestatic 332, 3) := by decide +kernel
theorem dX11_tried_54 : decode cX11_tried 54 = .ok (.aload_n 0, 1) := by decide +kernel
theorem dX11_tried_55 : decode cX11_tried 55 = .ok (.iload_n 1, 1) := by decide +kernel
theorem dX11_tried_56 : decode cX11_tried 56 = .ok (.invokevirtual 329, 3) := by decide +kernel
theorem dX11_tried_59 : decode cX11_tried 59 = .ok (.iload_n 2, 1) := by decide +kernel
theorem dX11_tried_60 : decode cX11_tried 60 = .ok (.tableswitch 65 0 3 #[32, 40, 48, 57], 32) := by decide +kernel
theorem dX11_tried_92 : decode cX11_tried 92 = .ok (.aload_n 0, 1) := by decide +kernel
theorem dX11_tried_93 : decode cX11_tried 93 = .ok (.getfield 305, 3) := by decide +kernel
theorem dX11_tried_96 : decode cX11_tried 96 = .ok (.istore_n 3, 1) := by decide +kernel
theorem dX11_tried_97 : decode cX11_tried 97 = .ok (.goto 60, 3) := by decide +kernel
theorem dX11_tried_100 : decode cX11_tried 100 = .ok (.aload_n 0, 1) := by decide +kernel
theorem dX11_tried_101 : decode cX11_tried 101 = .ok (.getfield 311, 3) := by decide +kernel
theorem dX11_tried_104 : decode cX11_tried 104 = .ok (.istore_n 3, 1) := by decide +kernel
theorem dX11_tried_105 : decode cX11_tried 105 = .ok (.goto 52, 3) := by decide +kernel
theorem dX11_tried_108 : decode cX11_tried 108 = .ok (.aload_n 0, 1) := by decide +kernel
theorem dX11_tried_109 : decode cX11_tried 109 = .ok (.iconst (-1), 1) := by decide +kernel
theorem dX11_tried_110 : decode cX11_tried 110 = .ok (.invokevirtual 286, 3) := by decide +kernel
theorem dX11_tried_113 : decode cX11_tried 113 = .ok (.istore_n 3, 1) := by decide +kernel
theorem dX11_tried_114 : decode cX11_tried 114 = .ok (.goto 43, 3) := by decide +kernel
theorem dX11_tried_117 : decode cX11_tried 117 = .ok (.aload_n 0, 1) := by decide +kernel
theorem dX11_tried_118 : decode cX11_tried 118 = .ok (.invokevirtual 336, 3) := by decide +kernel
theorem dX11_tried_121 : decode cX11_tried 121 = .ok (.istore_n 3, 1) := by decide +kernel
theorem dX11_tried_122 : decode cX11_tried 122 = .ok (.goto 35, 3) := by decide +kernel
theorem dX11_tried_125 : decode cX11_tried 125 = .ok (.iload_n 2, 1) := by decide +kernel
theorem dX11_tried_126 : decode cX11_tried 126 = .ok (.bipush 30, 2) := by decide +kernel
theorem dX11_tried_128 : decode cX11_tried 128 = .ok (.if_icmp .ge 14, 3) := by decide +kernel
theorem dX11_tried_131 : decode cX11_tried 131 = .ok (.aload_n 0, 1) := by decide +kernel
theorem dX11_tried_132 : decode cX11_tried 132 = .ok (.iload_n 2, 1) := by decide +kernel
theorem dX11_tried_133 : decode cX11_tried 133 = .ok (.bipush 10, 2) := by decide +kernel
theorem dX11_tried_135 : decode cX11_tried 135 = .ok (.isub, 1) := by decide +kernel
theorem dX11_tried_136 : decode cX11_tried 136 = .ok (.invokevirtual 140, 3) := by decide +kernel
theorem dX11_tried_139 : decode cX11_tried 139 = .ok (.goto 17, 3) := by decide +kernel
theorem dX11_tried_142 : decode cX11_tried 142 = .ok (.aload_n 0, 1) := by decide +kernel
theorem dX11_tried_143 : decode cX11_tried 143 = .ok (.getfield 7, 3) := by decide +kernel
theorem dX11_tried_146 : decode cX11_tried 146 = .ok (.iconst 0, 1) := by decide +kernel
theorem dX11_tried_147 : decode cX11_tried 147 = .ok (.iload_n 2, 1) := by decide +kernel
theorem dX11_tried_148 : decode cX11_tried 148 = .ok (.iadd, 1) := by decide +kernel
theorem dX11_tried_149 : decode cX11_tried 149 = .ok (.bipush 30, 2) := by decide +kernel
theorem dX11_tried_151 : decode cX11_tried 151 = .ok (.isub, 1) := by decide +kernel
theorem dX11_tried_152 : decode cX11_tried 152 = .ok (.iaload, 1) := by decide +kernel
theorem dX11_tried_153 : decode cX11_tried 153 = .ok (.invokestatic 339, 3) := by decide +kernel
theorem dX11_tried_156 : decode cX11_tried 156 = .ok (.istore_n 3, 1) := by decide +kernel
theorem dX11_tried_157 : decode cX11_tried 157 = .ok (.aload_n 0, 1) := by decide +kernel
theorem dX11_tried_158 : decode cX11_tried 158 = .ok (.getfield 13, 3) := by decide +kernel
theorem dX11_tried_161 : decode cX11_tried 161 = .ok (.aload_n 0, 1) := by decide +kernel
theorem dX11_tried_162 : decode cX11_tried 162 = .ok (.getfield 7, 3) := by decide +kernel
theorem dX11_tried_165 : decode cX11_tried 165 = .ok (.invokestatic 332, 3) := by decide +kernel
theorem dX11_tried_168 : decode cX11_tried 168 = .ok (.iload_n 3, 1) := by decide +kernel
theorem dX11_tried_169 : decode cX11_tried 169 = .ok (.ireturn, 1) := by decide +kernel
theorem dX11_drawerIs_0 : decode cX11_drawerIs 0 = .ok (.aload_n 0, 1) := by decide +kernel
theorem dX11_drawerIs_1 : decode cX11_drawerIs 1 = .ok (.iload_n 1, 1) := by decide +kernel
theorem dX11_drawerIs_2 : decode cX11_drawerIs 2 = .ok (.invokevirtual 152, 3) := by decide +kernel
theorem dX11_drawerIs_5 : decode cX11_drawerIs 5 = .ok (.ifCond .ne 5, 3) := by decide +kernel
theorem dX11_drawerIs_8 : decode cX11_drawerIs 8 = .ok (.iconst (-1), 1) := by decide +kernel
theorem dX11_drawerIs_9 : decode cX11_drawerIs 9 = .ok (.ireturn, 1) := by decide +kernel
theorem dX11_drawerIs_10 : decode cX11_drawerIs 10 = .ok (.iload_n 2, 1) := by decide +kernel
theorem dX11_drawerIs_11 : decode cX11_drawerIs 11 = .ok (.tableswitch 44 0 2 #[25, 32, 38], 25) := by decide +kernel
theorem dX11_drawerIs_36 : decode cX11_drawerIs 36 = .ok (.aload_n 0, 1) := by decide +kernel
theorem dX11_drawerIs_37 : decode cX11_drawerIs 37 = .ok (.getfield 19, 3) := by decide +kernel
theorem dX11_drawerIs_40 : decode cX11_drawerIs 40 = .ok (.iload_n 1, 1) := by decide +kernel
theorem dX11_drawerIs_41 : decode cX11_drawerIs 41 = .ok (.iaload, 1) := by decide +kernel
theorem dX11_drawerIs_42 : decode cX11_drawerIs 42 = .ok (.ireturn, 1) := by decide +kernel
theorem dX11_drawerIs_43 : decode cX11_drawerIs 43 = .ok (.aload_n 0, 1) := by decide +kernel
theorem dX11_drawerIs_44 : decode cX11_drawerIs 44 = .ok (.iload_n 1, 1) := by decide +kernel
theorem dX11_drawerIs_45 : decode cX11_drawerIs 45 = .ok (.invokevirtual 140, 3) := by decide +kernel
theorem dX11_drawerIs_48 : decode cX11_drawerIs 48 = .ok (.ireturn, 1) := by decide +kernel
theorem dX11_drawerIs_49 : decode cX11_drawerIs 49 = .ok (.aload_n 0, 1) := by decide +kernel
theorem dX11_drawerIs_50 : decode cX11_drawerIs 50 = .ok (.iload_n 1, 1) := by decide +kernel
theorem dX11_drawerIs_51 : decode cX11_drawerIs 51 = .ok (.invokevirtual 286, 3) := by decide +kernel
theorem dX11_drawerIs_54 : decode cX11_drawerIs 54 = .ok (.ireturn, 1) := by decide +kernel
theorem dX11_drawerIs_55 : decode cX11_drawerIs 55 = .ok (.iconst (-1), 1) := by decide +kernel
theorem dX11_drawerIs_56 : decode cX11_drawerIs 56 = .ok (.ireturn, 1) := by decide +kernel
theorem dX11_paperIs_0 : decode cX11_paperIs 0 = .ok (.aload_n 0, 1) := by decide +kernel
theorem dX11_paperIs_1 : decode cX11_paperIs 1 = .ok (.iload_n 1, 1) := by decide +kernel
theorem dX11_paperIs_2 : decode cX11_paperIs 2 = .ok (.invokevirtual 144, 3) := by decide +kernel
theorem dX11_paperIs_5 : decode cX11_paperIs 5 = .ok (.ifCond .ne 5, 3) := by decide +kernel
theorem dX11_paperIs_8 : decode cX11_paperIs 8 = .ok (.iconst (-1), 1) := by decide +kernel
theorem dX11_paperIs_9 : decode cX11_paperIs 9 = .ok (.ireturn, 1) := by decide +kernel
theorem dX11_paperIs_10 : decode cX11_paperIs 10 = .ok (.iload_n 2, 1) := by decide +kernel
theorem dX11_paperIs_11 : decode cX11_paperIs 11 = .ok (.tableswitch 79 0 4 #[33, 40, 47, 59, 69], 33) := by decide +kernel
theorem dX11_paperIs_44 : decode cX11_paperIs 44 = .ok (.aload_n 0, 1) := by decide +kernel
theorem dX11_paperIs_45 : decode cX11_paperIs 45 = .ok (.getfield 22, 3) := by decide +kernel
theorem dX11_paperIs_48 : decode cX11_paperIs 48 = .ok (.iload_n 1, 1) := by decide +kernel
theorem dX11_paperIs_49 : decode cX11_paperIs 49 = .ok (.iaload, 1) := by decide +kernel
theorem dX11_paperIs_50 : decode cX11_paperIs 50 = .ok (.ireturn, 1) := by decide +kernel
theorem dX11_paperIs_51 : decode cX11_paperIs 51 = .ok (.aload_n 0, 1) := by decide +kernel
theorem dX11_paperIs_52 : decode cX11_paperIs 52 = .ok (.getfield 25, 3) := by decide +kernel
theorem dX11_paperIs_55 : decode cX11_paperIs 55 = .ok (.iload_n 1, 1) := by decide +kernel
theorem dX11_paperIs_56 : decode cX11_paperIs 56 = .ok (.iaload, 1) := by decide +kernel
theorem dX11_paperIs_57 : decode cX11_paperIs 57 = .ok (.ireturn, 1) := by decide +kernel
theorem dX11_paperIs_58 : decode cX11_paperIs 58 = .ok (.aload_n 0, 1) := by decide +kernel
theorem dX11_paperIs_59 : decode cX11_paperIs 59 = .ok (.getfield 7, 3) := by decide +kernel
theorem dX11_paperIs_62 : decode cX11_paperIs 62 = .ok (.iconst 0, 1) := by decide +kernel
theorem dX11_paperIs_63 : decode cX11_paperIs 63 = .ok (.iload_n 1, 1) := by decide +kernel
theorem dX11_paperIs_64 : decode cX11_paperIs 64 = .ok (.iadd, 1) := by decide +kernel
theorem dX11_paperIs_65 : decode cX11_paperIs 65 = .ok (.iaload, 1) := by decide +kernel
theorem dX11_paperIs_66 : decode cX11_paperIs 66 = .ok (.invokestatic 339, 3) := by decide +kernel
theorem dX11_paperIs_69 : decode cX11_paperIs 69 = .ok (.ireturn, 1) := by decide +kernel
theorem dX11_paperIs_70 : decode cX11_paperIs 70 = .ok (.aload_n 0, 1) := by decide +kernel
theorem dX11_paperIs_71 : decode cX11_paperIs 71 = .ok (.getfield 7, 3) := by decide +kernel
theorem dX11_paperIs_74 : decode cX11_paperIs 74 = .ok (.bipush 24, 2) := by decide +kernel
theorem dX11_paperIs_76 : decode cX11_paperIs 76 = .ok (.iload_n 1, 1) := by decide +kernel
theorem dX11_paperIs_77 : decode cX11_paperIs 77 = .ok (.iadd, 1) := by decide +kernel
theorem dX11_paperIs_78 : decode cX11_paperIs 78 = .ok (.iaload, 1) := by decide +kernel
theorem dX11_paperIs_79 : decode cX11_paperIs 79 = .ok (.ireturn, 1) := by decide +kernel
theorem dX11_paperIs_80 : decode cX11_paperIs 80 = .ok (.aload_n 0, 1) := by decide +kernel
theorem dX11_paperIs_81 : decode cX11_paperIs 81 = .ok (.getfield 7, 3) := by decide +kernel
theorem dX11_paperIs_84 : decode cX11_paperIs 84 = .ok (.bipush 48, 2) := by decide +kernel
theorem dX11_paperIs_86 : decode cX11_paperIs 86 = .ok (.iload_n 1, 1) := by decide +kernel
theorem dX11_paperIs_87 : decode cX11_paperIs 87 = .ok (.iadd, 1) := by decide +kernel
theorem dX11_paperIs_88 : decode cX11_paperIs 88 = .ok (.iaload, 1) := by decide +kernel
theorem dX11_paperIs_89 : decode cX11_paperIs 89 = .ok (.ireturn, 1) := by decide +kernel
theorem dX11_paperIs_90 : decode cX11_paperIs 90 = .ok (.iconst (-1), 1) := by decide +kernel
theorem dX11_paperIs_91 : decode cX11_paperIs 91 = .ok (.ireturn, 1) := by decide +kernel
theorem dX11_shut_0 : decode cX11_shut 0 = .ok (.iload_n 1, 1) := by decide +kernel
theorem dX11_shut_1 : decode cX11_shut 1 = .ok (.iconst 1, 1) := by decide +kernel
theorem dX11_shut_2 : decode cX11_shut 2 = .ok (.bipush 100, 2) := by decide +kernel
theorem dX11_shut_4 : decode cX11_shut 4 = .ok (.invokestatic 125, 3) := by decide +kernel
theorem dX11_shut_7 : decode cX11_shut 7 = .ok (.ifCond .ne 5, 3) := by decide +kernel
theorem dX11_shut_10 : decode cX11_shut 10 = .ok (.iconst (-1), 1) := by decide +kernel
theorem dX11_shut_11 : decode cX11_shut 11 = .ok (.ireturn, 1) := by decide +kernel
theorem dX11_shut_12 : decode cX11_shut 12 = .ok (.aload_n 0, 1) := by decide +kernel
theorem dX11_shut_13 : decode cX11_shut 13 = .ok (.getfield 7, 3) := by decide +kernel
theorem dX11_shut_16 : decode cX11_shut 16 = .ok (.aload_n 0, 1) := by decide +kernel
theorem dX11_shut_17 : decode cX11_shut 17 = .ok (.getfield 13, 3) := by decide +kernel
theorem dX11_shut_20 : decode cX11_shut 20 = .ok (.invokestatic 332, 3) := by decide +kernel
theorem dX11_shut_23 : decode cX11_shut 23 = .ok (.iconst 0, 1) := by decide +kernel
theorem dX11_shut_24 : decode cX11_shut 24 = .ok (.istore_n 2, 1) := by decide +kernel
theorem dX11_shut_25 : decode cX11_shut 25 = .ok (.aload_n 0, 1) := by decide +kernel
theorem dX11_shut_26 : decode cX11_shut 26 = .ok (.iconst (-1), 1) := by decide +kernel
theorem dX11_shut_27 : decode cX11_shut 27 = .ok (.invokevirtual 286, 3) := by decide +kernel
theorem dX11_shut_30 : decode cX11_shut 30 = .ok (.ifCond .eq 32, 3) := by decide +kernel
theorem dX11_shut_33 : decode cX11_shut 33 = .ok (.iload_n 2, 1) := by decide +kernel
theorem dX11_shut_34 : decode cX11_shut 34 = .ok (.iload_n 1, 1) := by decide +kernel
theorem dX11_shut_35 : decode cX11_shut 35 = .ok (.if_icmp .ge 27, 3) := by decide +kernel
theorem dX11_shut_38 : decode cX11_shut 38 = .ok (.aload_n 0, 1) := by decide +kernel
theorem dX11_shut_39 : decode cX11_shut 39 = .ok (.getfield 7, 3) := by decide +kernel
theorem dX11_shut_42 : decode cX11_shut 42 = .ok (.bipush 72, 2) := by decide +kernel
theorem dX11_shut_44 : decode cX11_shut 44 = .ok (.iaload, 1) := by decide +kernel
theorem dX11_shut_45 : decode cX11_shut 45 = .ok (.sipush 9999, 3) := by decide +kernel
theorem dX11_shut_48 : decode cX11_shut 48 = .ok (.if_icmp .ge 14, 3) := by decide +kernel
theorem dX11_shut_51 : decode cX11_shut 51 = .ok (.aload_n 0, 1) := by decide +kernel
theorem dX11_shut_52 : decode cX11_shut 52 = .ok (.invokevirtual 326, 3) := by decide +kernel
theorem dX11_shut_55 : decode cX11_shut 55 = .ok (.iload_n 2, 1) := by decide +kernel
theorem dX11_shut_56 : decode cX11_shut 56 = .ok (.iconst 1, 1) := by decide +kernel
theorem dX11_shut_57 : decode cX11_shut 57 = .ok (.iadd, 1) := by decide +kernel
theorem dX11_shut_58 : decode cX11_shut 58 = .ok (.istore_n 2, 1) := by decide +kernel
theorem dX11_shut_59 : decode cX11_shut 59 = .ok (.goto (-34), 3) := by decide +kernel
theorem dX11_shut_62 : decode cX11_shut 62 = .ok (.aload_n 0, 1) := by decide +kernel
theorem dX11_shut_63 : decode cX11_shut 63 = .ok (.iconst (-1), 1) := by decide +kernel
theorem dX11_shut_64 : decode cX11_shut 64 = .ok (.invokevirtual 286, 3) := by decide +kernel
theorem dX11_shut_67 : decode cX11_shut 67 = .ok (.ifCond .ne 7, 3) := by decide +kernel
theorem dX11_shut_70 : decode cX11_shut 70 = .ok (.iconst 1, 1) := by decide +kernel
theorem dX11_shut_71 : decode cX11_shut 71 = .ok (.goto 4, 3) := by decide +kernel
theorem dX11_shut_74 : decode cX11_shut 74 = .ok (.iconst 0, 1) := by decide +kernel
theorem dX11_shut_75 : decode cX11_shut 75 = .ok (.istore_n 3, 1) := by decide +kernel
theorem dX11_shut_76 : decode cX11_shut 76 = .ok (.aload_n 0, 1) := by decide +kernel
theorem dX11_shut_77 : decode cX11_shut 77 = .ok (.getfield 13, 3) := by decide +kernel
theorem dX11_shut_80 : decode cX11_shut 80 = .ok (.aload_n 0, 1) := by decide +kernel
theorem dX11_shut_81 : decode cX11_shut 81 = .ok (.getfield 7, 3) := by decide +kernel
theorem dX11_shut_84 : decode cX11_shut 84 = .ok (.invokestatic 332, 3) := by decide +kernel
theorem dX11_shut_87 : decode cX11_shut 87 = .ok (.iload_n 3, 1) := by decide +kernel
theorem dX11_shut_88 : decode cX11_shut 88 = .ok (.ifCond .eq 7, 3) := by decide +kernel
theorem dX11_shut_91 : decode cX11_shut 91 = .ok (.iload_n 2, 1) := by decide +kernel
theorem dX11_shut_92 : decode cX11_shut 92 = .ok (.goto 5, 3) := by decide +kernel
