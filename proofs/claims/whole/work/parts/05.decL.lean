/-! decode rows -/
theorem dL_law_0 : decode code 0 = .ok (.new 7, 3) := by decide +kernel
theorem dL_law_3 : decode code 3 = .ok (.dup, 1) := by decide +kernel
theorem dL_law_4 : decode code 4 = .ok (.invokespecial 9, 3) := by decide +kernel
theorem dL_law_7 : decode code 7 = .ok (.astore_n 1, 1) := by decide +kernel
theorem dL_law_8 : decode code 8 = .ok (.new 10, 3) := by decide +kernel
theorem dL_law_11 : decode code 11 = .ok (.dup, 1) := by decide +kernel
theorem dL_law_12 : decode code 12 = .ok (.invokespecial 12, 3) := by decide +kernel
theorem dL_law_15 : decode code 15 = .ok (.astore_n 2, 1) := by decide +kernel
theorem dL_law_16 : decode code 16 = .ok (.iconst 0, 1) := by decide +kernel
theorem dL_law_17 : decode code 17 = .ok (.istore_n 3, 1) := by decide +kernel
theorem dL_law_18 : decode code 18 = .ok (.iload_n 3, 1) := by decide +kernel
theorem dL_law_19 : decode code 19 = .ok (.aload_n 0, 1) := by decide +kernel
theorem dL_law_20 : decode code 20 = .ok (.arraylength, 1) := by decide +kernel
theorem dL_law_21 : decode code 21 = .ok (.iconst 4, 1) := by decide +kernel
theorem dL_law_22 : decode code 22 = .ok (.isub, 1) := by decide +kernel
theorem dL_law_23 : decode code 23 = .ok (.if_icmp .gt 286, 3) := by decide +kernel
theorem dL_law_26 : decode code 26 = .ok (.aload_n 0, 1) := by decide +kernel
theorem dL_law_27 : decode code 27 = .ok (.iload_n 3, 1) := by decide +kernel
theorem dL_law_28 : decode code 28 = .ok (.iaload, 1) := by decide +kernel
theorem dL_law_29 : decode code 29 = .ok (.bipush 7, 2) := by decide +kernel
theorem dL_law_31 : decode code 31 = .ok (.iand, 1) := by decide +kernel
theorem dL_law_32 : decode code 32 = .ok (.tableswitch 271 0 7 #[48, 111, 144, 157, 168, 181, 204, 237], 48) := by decide +kernel
theorem dL_law_80 : decode code 80 = .ok (.aload_n 1, 1) := by decide +kernel
theorem dL_law_81 : decode code 81 = .ok (.aload_n 0, 1) := by decide +kernel
theorem dL_law_82 : decode code 82 = .ok (.iload_n 3, 1) := by decide +kernel
theorem dL_law_83 : decode code 83 = .ok (.iconst 1, 1) := by decide +kernel
theorem dL_law_84 : decode code 84 = .ok (.iadd, 1) := by decide +kernel
theorem dL_law_85 : decode code 85 = .ok (.iaload, 1) := by decide +kernel
theorem dL_law_86 : decode code 86 = .ok (.i2l, 1) := by decide +kernel
theorem dL_law_87 : decode code 87 = .ok (.bipush 32, 2) := by decide +kernel
theorem dL_law_89 : decode code 89 = .ok (.lshl, 1) := by decide +kernel
theorem dL_law_90 : decode code 90 = .ok (.aload_n 0, 1) := by decide +kernel
theorem dL_law_91 : decode code 91 = .ok (.iload_n 3, 1) := by decide +kernel
theorem dL_law_92 : decode code 92 = .ok (.iconst 2, 1) := by decide +kernel
theorem dL_law_93 : decode code 93 = .ok (.iadd, 1) := by decide +kernel
theorem dL_law_94 : decode code 94 = .ok (.iaload, 1) := by decide +kernel
theorem dL_law_95 : decode code 95 = .ok (.i2l, 1) := by decide +kernel
theorem dL_law_96 : decode code 96 = .ok (.ldc2_w 13, 3) := by decide +kernel
theorem dL_law_99 : decode code 99 = .ok (.land, 1) := by decide +kernel
theorem dL_law_100 : decode code 100 = .ok (.lor, 1) := by decide +kernel
theorem dL_law_101 : decode code 101 = .ok (.aload_n 0, 1) := by decide +kernel
theorem dL_law_102 : decode code 102 = .ok (.iload_n 3, 1) := by decide +kernel
theorem dL_law_103 : decode code 103 = .ok (.iconst 3, 1) := by decide +kernel
theorem dL_law_104 : decode code 104 = .ok (.iadd, 1) := by decide +kernel
theorem dL_law_105 : decode code 105 = .ok (.iaload, 1) := by decide +kernel
theorem dL_law_106 : decode code 106 = .ok (.invokevirtual 15, 3) := by decide +kernel
theorem dL_law_109 : decode code 109 = .ok (.aload_n 2, 1) := by decide +kernel
theorem dL_law_110 : decode code 110 = .ok (.aload_n 0, 1) := by decide +kernel
theorem dL_law_111 : decode code 111 = .ok (.iload_n 3, 1) := by decide +kernel
theorem dL_law_112 : decode code 112 = .ok (.iconst 1, 1) := by decide +kernel
theorem dL_law_113 : decode code 113 = .ok (.iadd, 1) := by decide +kernel
theorem dL_law_114 : decode code 114 = .ok (.iaload, 1) := by decide +kernel
theorem dL_law_115 : decode code 115 = .ok (.i2l, 1) := by decide +kernel
theorem dL_law_116 : decode code 116 = .ok (.bipush 32, 2) := by decide +kernel
theorem dL_law_118 : decode code 118 = .ok (.lshl, 1) := by decide +kernel
theorem dL_law_119 : decode code 119 = .ok (.aload_n 0, 1) := by decide +kernel
theorem dL_law_120 : decode code 120 = .ok (.iload_n 3, 1) := by decide +kernel
theorem dL_law_121 : decode code 121 = .ok (.iconst 2, 1) := by decide +kernel
theorem dL_law_122 : decode code 122 = .ok (.iadd, 1) := by decide +kernel
theorem dL_law_123 : decode code 123 = .ok (.iaload, 1) := by decide +kernel
theorem dL_law_124 : decode code 124 = .ok (.i2l, 1) := by decide +kernel
theorem dL_law_125 : decode code 125 = .ok (.ldc2_w 13, 3) := by decide +kernel
theorem dL_law_128 : decode code 128 = .ok (.land, 1) := by decide +kernel
theorem dL_law_129 : decode code 129 = .ok (.lor, 1) := by decide +kernel
theorem dL_law_130 : decode code 130 = .ok (.aload_n 0, 1) := by decide +kernel
theorem dL_law_131 : decode code 131 = .ok (.iload_n 3, 1) := by decide +kernel
theorem dL_law_132 : decode code 132 = .ok (.iconst 3, 1) := by decide +kernel
theorem dL_law_133 : decode code 133 = .ok (.iadd, 1) := by decide +kernel
theorem dL_law_134 : decode code 134 = .ok (.iaload, 1) := by decide +kernel
theorem dL_law_135 : decode code 135 = .ok (.invokevirtual 19, 3) := by decide +kernel
theorem dL_law_138 : decode code 138 = .ok (.if_icmp .eq 165, 3) := by decide +kernel
theorem dL_law_141 : decode code 141 = .ok (.iconst 0, 1) := by decide +kernel
theorem dL_law_142 : decode code 142 = .ok (.ireturn, 1) := by decide +kernel
theorem dL_law_143 : decode code 143 = .ok (.aload_n 1, 1) := by decide +kernel
theorem dL_law_144 : decode code 144 = .ok (.aload_n 0, 1) := by decide +kernel
theorem dL_law_145 : decode code 145 = .ok (.iload_n 3, 1) := by decide +kernel
theorem dL_law_146 : decode code 146 = .ok (.iconst 1, 1) := by decide +kernel
theorem dL_law_147 : decode code 147 = .ok (.iadd, 1) := by decide +kernel
theorem dL_law_148 : decode code 148 = .ok (.iaload, 1) := by decide +kernel
theorem dL_law_149 : decode code 149 = .ok (.aload_n 0, 1) := by decide +kernel
theorem dL_law_150 : decode code 150 = .ok (.iload_n 3, 1) := by decide +kernel
theorem dL_law_151 : decode code 151 = .ok (.iconst 2, 1) := by decide +kernel
theorem dL_law_152 : decode code 152 = .ok (.iadd, 1) := by decide +kernel
theorem dL_law_153 : decode code 153 = .ok (.iaload, 1) := by decide +kernel
theorem dL_law_154 : decode code 154 = .ok (.invokevirtual 20, 3) := by decide +kernel
theorem dL_law_157 : decode code 157 = .ok (.aload_n 2, 1) := by decide +kernel
theorem dL_law_158 : decode code 158 = .ok (.aload_n 0, 1) := by decide +kernel
theorem dL_law_159 : decode code 159 = .ok (.iload_n 3, 1) := by decide +kernel
theorem dL_law_160 : decode code 160 = .ok (.iconst 1, 1) := by decide +kernel
theorem dL_law_161 : decode code 161 = .ok (.iadd, 1) := by decide +kernel
theorem dL_law_162 : decode code 162 = .ok (.iaload, 1) := by decide +kernel
theorem dL_law_163 : decode code 163 = .ok (.aload_n 0, 1) := by decide +kernel
theorem dL_law_164 : decode code 164 = .ok (.iload_n 3, 1) := by decide +kernel
theorem dL_law_165 : decode code 165 = .ok (.iconst 2, 1) := by decide +kernel
theorem dL_law_166 : decode code 166 = .ok (.iadd, 1) := by decide +kernel
theorem dL_law_167 : decode code 167 = .ok (.iaload, 1) := by decide +kernel
theorem dL_law_168 : decode code 168 = .ok (.invokevirtual 24, 3) := by decide +kernel
theorem dL_law_171 : decode code 171 = .ok (.if_icmp .eq 132, 3) := by decide +kernel
theorem dL_law_174 : decode code 174 = .ok (.iconst 0, 1) := by decide +kernel
theorem dL_law_175 : decode code 175 = .ok (.ireturn, 1) := by decide +kernel
theorem dL_law_176 : decode code 176 = .ok (.aload_n 1, 1) := by decide +kernel
theorem dL_law_177 : decode code 177 = .ok (.invokevirtual 25, 3) := by decide +kernel
theorem dL_law_180 : decode code 180 = .ok (.aload_n 2, 1) := by decide +kernel
theorem dL_law_181 : decode code 181 = .ok (.invokevirtual 29, 3) := by decide +kernel
theorem dL_law_184 : decode code 184 = .ok (.if_icmp .eq 119, 3) := by decide +kernel
theorem dL_law_187 : decode code 187 = .ok (.iconst 0, 1) := by decide +kernel
theorem dL_law_188 : decode code 188 = .ok (.ireturn, 1) := by decide +kernel
theorem dL_law_189 : decode code 189 = .ok (.aload_n 1, 1) := by decide +kernel
theorem dL_law_190 : decode code 190 = .ok (.invokevirtual 30, 3) := by decide +kernel
theorem dL_law_193 : decode code 193 = .ok (.aload_n 2, 1) := by decide +kernel
theorem dL_law_194 : decode code 194 = .ok (.invokevirtual 33, 3) := by decide +kernel
theorem dL_law_197 : decode code 197 = .ok (.goto 106, 3) := by decide +kernel
theorem dL_law_200 : decode code 200 = .ok (.aload_n 1, 1) := by decide +kernel
theorem dL_law_201 : decode code 201 = .ok (.invokevirtual 34, 3) := by decide +kernel
theorem dL_law_204 : decode code 204 = .ok (.aload_n 2, 1) := by decide +kernel
theorem dL_law_205 : decode code 205 = .ok (.invokevirtual 37, 3) := by decide +kernel
theorem dL_law_208 : decode code 208 = .ok (.if_icmp .eq 95, 3) := by decide +kernel
theorem dL_law_211 : decode code 211 = .ok (.iconst 0, 1) := by decide +kernel
theorem dL_law_212 : decode code 212 = .ok (.ireturn, 1) := by decide +kernel
theorem dL_law_213 : decode code 213 = .ok (.aload_n 1, 1) := by decide +kernel
theorem dL_law_214 : decode code 214 = .ok (.aload_n 0, 1) := by decide +kernel
theorem dL_law_215 : decode code 215 = .ok (.iload_n 3, 1) := by decide +kernel
theorem dL_law_216 : decode code 216 = .ok (.iconst 1, 1) := by decide +kernel
theorem dL_law_217 : decode code 217 = .ok (.iadd, 1) := by decide +kernel
theorem dL_law_218 : decode code 218 = .ok (.iaload, 1) := by decide +kernel
theorem dL_law_219 : decode code 219 = .ok (.invokevirtual 38, 3) := by decide +kernel
theorem dL_law_222 : decode code 222 = .ok (.aload_n 2, 1) := by decide +kernel
theorem dL_law_223 : decode code 223 = .ok (.aload_n 0, 1) := by decide +kernel
theorem dL_law_224 : decode code 224 = .ok (.iload_n 3, 1) := by decide +kernel
theorem dL_law_225 : decode code 225 = .ok (.iconst 1, 1) := by decide +kernel
theorem dL_law_226 : decode code 226 = .ok (.iadd, 1) := by decide +kernel
theorem dL_law_227 : decode code 227 = .ok (.iaload, 1) := by decide +kernel
theorem dL_law_228 : decode code 228 = .ok (.invokevirtual 42, 3) := by decide +kernel
theorem dL_law_231 : decode code 231 = .ok (.if_icmp .eq 72, 3) := by decide +kernel
theorem dL_law_234 : decode code 234 = .ok (.iconst 0, 1) := by decide +kernel
theorem dL_law_235 : decode code 235 = .ok (.ireturn, 1) := by decide +kernel
theorem dL_law_236 : decode code 236 = .ok (.aload_n 1, 1) := by decide +kernel
theorem dL_law_237 : decode code 237 = .ok (.aload_n 0, 1) := by decide +kernel
theorem dL_law_238 : decode code 238 = .ok (.iload_n 3, 1) := by decide +kernel
theorem dL_law_239 : decode code 239 = .ok (.iconst 1, 1) := by decide +kernel
theorem dL_law_240 : decode code 240 = .ok (.iadd, 1) := by decide +kernel
theorem dL_law_241 : decode code 241 = .ok (.iaload, 1) := by decide +kernel
theorem dL_law_242 : decode code 242 = .ok (.aload_n 0, 1) := by decide +kernel
theorem dL_law_243 : decode code 243 = .ok (.iload_n 3, 1) := by decide +kernel
theorem dL_law_244 : decode code 244 = .ok (.iconst 2, 1) := by decide +kernel
theorem dL_law_245 : decode code 245 = .ok (.iadd, 1) := by decide +kernel
theorem dL_law_246 : decode code 246 = .ok (.iaload, 1) := by decide +kernel
theorem dL_law_247 : decode code 247 = .ok (.invokevirtual 43, 3) := by decide +kernel
theorem dL_law_250 : decode code 250 = .ok (.aload_n 2, 1) := by decide +kernel
theorem dL_law_251 : decode code 251 = .ok (.aload_n 0, 1) := by decide +kernel
theorem dL_law_252 : decode code 252 = .ok (.iload_n 3, 1) := by decide +kernel
theorem dL_law_253 : decode code 253 = .ok (.iconst 1, 1) := by decide +kernel
theorem dL_law_254 : decode code 254 = .ok (.iadd, 1) := by decide +kernel
theorem dL_law_255 : decode code 255 = .ok (.iaload, 1) := by decide +kernel
theorem dL_law_256 : decode code 256 = .ok (.aload_n 0, 1) := by decide +kernel
theorem dL_law_257 : decode code 257 = .ok (.iload_n 3, 1) := by decide +kernel
theorem dL_law_258 : decode code 258 = .ok (.iconst 2, 1) := by decide +kernel
theorem dL_law_259 : decode code 259 = .ok (.iadd, 1) := by decide +kernel
theorem dL_law_260 : decode code 260 = .ok (.iaload, 1) := by decide +kernel
theorem dL_law_261 : decode code 261 = .ok (.invokevirtual 46, 3) := by decide +kernel
theorem dL_law_264 : decode code 264 = .ok (.if_icmp .eq 39, 3) := by decide +kernel
theorem dL_law_267 : decode code 267 = .ok (.iconst 0, 1) := by decide +kernel
theorem dL_law_268 : decode code 268 = .ok (.ireturn, 1) := by decide +kernel
theorem dL_law_269 : decode code 269 = .ok (.aload_n 1, 1) := by decide +kernel
theorem dL_law_270 : decode code 270 = .ok (.aload_n 0, 1) := by decide +kernel
theorem dL_law_271 : decode code 271 = .ok (.iload_n 3, 1) := by decide +kernel
theorem dL_law_272 : decode code 272 = .ok (.iconst 1, 1) := by decide +kernel
theorem dL_law_273 : decode code 273 = .ok (.iadd, 1) := by decide +kernel
theorem dL_law_274 : decode code 274 = .ok (.iaload, 1) := by decide +kernel
theorem dL_law_275 : decode code 275 = .ok (.aload_n 0, 1) := by decide +kernel
theorem dL_law_276 : decode code 276 = .ok (.iload_n 3, 1) := by decide +kernel
theorem dL_law_277 : decode code 277 = .ok (.iconst 2, 1) := by decide +kernel
theorem dL_law_278 : decode code 278 = .ok (.iadd, 1) := by decide +kernel
theorem dL_law_279 : decode code 279 = .ok (.iaload, 1) := by decide +kernel
theorem dL_law_280 : decode code 280 = .ok (.invokevirtual 47, 3) := by decide +kernel
theorem dL_law_283 : decode code 283 = .ok (.aload_n 2, 1) := by decide +kernel
theorem dL_law_284 : decode code 284 = .ok (.aload_n 0, 1) := by decide +kernel
theorem dL_law_285 : decode code 285 = .ok (.iload_n 3, 1) := by decide +kernel
theorem dL_law_286 : decode code 286 = .ok (.iconst 1, 1) := by decide +kernel
theorem dL_law_287 : decode code 287 = .ok (.iadd, 1) := by decide +kernel
theorem dL_law_288 : decode code 288 = .ok (.iaload, 1) := by decide +kernel
theorem dL_law_289 : decode code 289 = .ok (.aload_n 0, 1) := by decide +kernel
theorem dL_law_290 : decode code 290 = .ok (.iload_n 3, 1) := by decide +kernel
theorem dL_law_291 : decode code 291 = .ok (.iconst 2, 1) := by decide +kernel
theorem dL_law_292 : decode code 292 = .ok (.iadd, 1) := by decide +kernel
theorem dL_law_293 : decode code 293 = .ok (.iaload, 1) := by decide +kernel
theorem dL_law_294 : decode code 294 = .ok (.invokevirtual 51, 3) := by decide +kernel
theorem dL_law_297 : decode code 297 = .ok (.lcmp, 1) := by decide +kernel
theorem dL_law_298 : decode code 298 = .ok (.ifCond .eq 5, 3) := by decide +kernel
theorem dL_law_301 : decode code 301 = .ok (.iconst 0, 1) := by decide +kernel
theorem dL_law_302 : decode code 302 = .ok (.ireturn, 1) := by decide +kernel
theorem dL_law_303 : decode code 303 = .ok (.iinc 3 4, 3) := by decide +kernel
theorem dL_law_306 : decode code 306 = .ok (.goto (-288), 3) := by decide +kernel
theorem dL_law_309 : decode code 309 = .ok (.iconst 1, 1) := by decide +kernel
theorem dL_law_310 : decode code 310 = .ok (.ireturn, 1) := by decide +kernel
theorem dJ0_length_0 : decode cJ0_length 0 = .ok (.aload_n 0, 1) := by decide +kernel
theorem dJ0_length_1 : decode cJ0_length 1 = .ok (.getfield 9, 3) := by decide +kernel
theorem dJ0_length_4 : decode cJ0_length 4 = .ok (.arraylength, 1) := by decide +kernel
theorem dJ0_length_5 : decode cJ0_length 5 = .ok (.aload_n 0, 1) := by decide +kernel
theorem dJ0_length_6 : decode cJ0_length 6 = .ok (.invokevirtual 335, 3) := by decide +kernel
theorem dJ0_length_9 : decode cJ0_length 9 = .ok (.ishr, 1) := by decide +kernel
theorem dJ0_length_10 : decode cJ0_length 10 = .ok (.ireturn, 1) := by decide +kernel
theorem dJ0_charAt_0 : decode cJ0_charAt 0 = .ok (.aload_n 0, 1) := by decide +kernel
theorem dJ0_charAt_1 : decode cJ0_charAt 1 = .ok (.invokevirtual 492, 3) := by decide +kernel
theorem dJ0_charAt_4 : decode cJ0_charAt 4 = .ok (.ifCond .eq 12, 3) := by decide +kernel
theorem dJ0_charAt_7 : decode cJ0_charAt 7 = .ok (.aload_n 0, 1) := by decide +kernel
theorem dJ0_charAt_8 : decode cJ0_charAt 8 = .ok (.getfield 9, 3) := by decide +kernel
theorem dJ0_charAt_11 : decode cJ0_charAt 11 = .ok (.iload_n 1, 1) := by decide +kernel
theorem dJ0_charAt_12 : decode cJ0_charAt 12 = .ok (.invokestatic 495, 3) := by decide +kernel
theorem dJ0_charAt_15 : decode cJ0_charAt 15 = .ok (.ireturn, 1) := by decide +kernel
theorem dJ0_charAt_16 : decode cJ0_charAt 16 = .ok (.aload_n 0, 1) := by decide +kernel
theorem dJ0_charAt_17 : decode cJ0_charAt 17 = .ok (.getfield 9, 3) := by decide +kernel
theorem dJ0_charAt_20 : decode cJ0_charAt 20 = .ok (.iload_n 1, 1) := by decide +kernel
theorem dJ0_charAt_21 : decode cJ0_charAt 21 = .ok (.invokestatic 498, 3) := by decide +kernel
theorem dJ0_charAt_24 : decode cJ0_charAt 24 = .ok (.ireturn, 1) := by decide +kernel
theorem dJ0_coder_0 : decode cJ0_coder 0 = .ok (.getstatic 38, 3) := by decide +kernel
theorem dJ0_coder_3 : decode cJ0_coder 3 = .ok (.ifCond .eq 10, 3) := by decide +kernel
theorem dJ0_coder_6 : decode cJ0_coder 6 = .ok (.aload_n 0, 1) := by decide +kernel
theorem dJ0_coder_7 : decode cJ0_coder 7 = .ok (.getfield 15, 3) := by decide +kernel
theorem dJ0_coder_10 : decode cJ0_coder 10 = .ok (.goto 4, 3) := by decide +kernel
theorem dJ0_coder_13 : decode cJ0_coder 13 = .ok (.iconst 1, 1) := by decide +kernel
theorem dJ0_coder_14 : decode cJ0_coder 14 = .ok (.ireturn, 1) := by decide +kernel
theorem dJ0_isLatin1_0 : decode cJ0_isLatin1 0 = .ok (.getstatic 38, 3) := by decide +kernel
theorem dJ0_isLatin1_3 : decode cJ0_isLatin1 3 = .ok (.ifCond .eq 14, 3) := by decide +kernel
theorem dJ0_isLatin1_6 : decode cJ0_isLatin1 6 = .ok (.aload_n 0, 1) := by decide +kernel
theorem dJ0_isLatin1_7 : decode cJ0_isLatin1 7 = .ok (.getfield 15, 3) := by decide +kernel
theorem dJ0_isLatin1_10 : decode cJ0_isLatin1 10 = .ok (.ifCond .ne 7, 3) := by decide +kernel
theorem dJ0_isLatin1_13 : decode cJ0_isLatin1 13 = .ok (.iconst 1, 1) := by decide +kernel
theorem dJ0_isLatin1_14 : decode cJ0_isLatin1 14 = .ok (.goto 4, 3) := by decide +kernel
theorem dJ0_isLatin1_17 : decode cJ0_isLatin1 17 = .ok (.iconst 0, 1) := by decide +kernel
theorem dJ0_isLatin1_18 : decode cJ0_isLatin1 18 = .ok (.ireturn, 1) := by decide +kernel
theorem dJ0_checkIndex_0 : decode cJ0_checkIndex 0 = .ok (.iload_n 0, 1) := by decide +kernel
theorem dJ0_checkIndex_1 : decode cJ0_checkIndex 1 = .ok (.iload_n 1, 1) := by decide +kernel
theorem dJ0_checkIndex_2 : decode cJ0_checkIndex 2 = .ok (.getstatic 1053, 3) := by decide +kernel
theorem dJ0_checkIndex_5 : decode cJ0_checkIndex 5 = .ok (.invokestatic 1059, 3) := by decide +kernel
theorem dJ0_checkIndex_8 : decode cJ0_checkIndex 8 = .ok (.pop, 1) := by decide +kernel
theorem dJ0_checkIndex_9 : decode cJ0_checkIndex 9 = .ok (.return_, 1) := by decide +kernel
theorem dJ1_charAt_0 : decode cJ1_charAt 0 = .ok (.iload_n 1, 1) := by decide +kernel
theorem dJ1_charAt_1 : decode cJ1_charAt 1 = .ok (.aload_n 0, 1) := by decide +kernel
theorem dJ1_charAt_2 : decode cJ1_charAt 2 = .ok (.arraylength, 1) := by decide +kernel
theorem dJ1_charAt_3 : decode cJ1_charAt 3 = .ok (.invokestatic 9, 3) := by decide +kernel
theorem dJ1_charAt_6 : decode cJ1_charAt 6 = .ok (.aload_n 0, 1) := by decide +kernel
theorem dJ1_charAt_7 : decode cJ1_charAt 7 = .ok (.iload_n 1, 1) := by decide +kernel
theorem dJ1_charAt_8 : decode cJ1_charAt 8 = .ok (.baload, 1) := by decide +kernel
theorem dJ1_charAt_9 : decode cJ1_charAt 9 = .ok (.sipush 255, 3) := by decide +kernel
theorem dJ1_charAt_12 : decode cJ1_charAt 12 = .ok (.iand, 1) := by decide +kernel
theorem dJ1_charAt_13 : decode cJ1_charAt 13 = .ok (.i2c, 1) := by decide +kernel
theorem dJ1_charAt_14 : decode cJ1_charAt 14 = .ok (.ireturn, 1) := by decide +kernel
theorem dJ2_getChar_0 : decode cJ2_getChar 0 = .ok (.getstatic 44, 3) := by decide +kernel
theorem dJ2_getChar_3 : decode cJ2_getChar 3 = .ok (.ifCond .ne 25, 3) := by decide +kernel
theorem dJ2_getChar_6 : decode cJ2_getChar 6 = .ok (.iload_n 1, 1) := by decide +kernel
theorem dJ2_getChar_7 : decode cJ2_getChar 7 = .ok (.ifCond .lt 11, 3) := by decide +kernel
theorem dJ2_getChar_10 : decode cJ2_getChar 10 = .ok (.iload_n 1, 1) := by decide +kernel
theorem dJ2_getChar_11 : decode cJ2_getChar 11 = .ok (.aload_n 0, 1) := by decide +kernel
theorem dJ2_getChar_12 : decode cJ2_getChar 12 = .ok (.invokestatic 48, 3) := by decide +kernel
theorem dJ2_getChar_15 : decode cJ2_getChar 15 = .ok (.if_icmp .lt 13, 3) := by decide +kernel
theorem dJ2_getChar_18 : decode cJ2_getChar 18 = .ok (.new 52, 3) := by decide +kernel
theorem dJ2_getChar_21 : decode cJ2_getChar 21 = .ok (.dup, 1) := by decide +kernel
theorem dJ2_getChar_22 : decode cJ2_getChar 22 = .ok (.ldc 54, 2) := by decide +kernel
theorem dJ2_getChar_24 : decode cJ2_getChar 24 = .ok (.invokespecial 56, 3) := by decide +kernel
theorem dJ2_getChar_27 : decode cJ2_getChar 27 = .ok (.athrow, 1) := by decide +kernel
theorem dJ2_getChar_28 : decode cJ2_getChar 28 = .ok (.iload_n 1, 1) := by decide +kernel
theorem dJ2_getChar_29 : decode cJ2_getChar 29 = .ok (.iconst 1, 1) := by decide +kernel
theorem dJ2_getChar_30 : decode cJ2_getChar 30 = .ok (.ishl, 1) := by decide +kernel
theorem dJ2_getChar_31 : decode cJ2_getChar 31 = .ok (.istore_n 1, 1) := by decide +kernel
theorem dJ2_getChar_32 : decode cJ2_getChar 32 = .ok (.aload_n 0, 1) := by decide +kernel
theorem dJ2_getChar_33 : decode cJ2_getChar 33 = .ok (.iload_n 1, 1) := by decide +kernel
theorem dJ2_getChar_34 : decode cJ2_getChar 34 = .ok (.iinc 1 1, 3) := by decide +kernel
theorem dJ2_getChar_37 : decode cJ2_getChar 37 = .ok (.baload, 1) := by decide +kernel
theorem dJ2_getChar_38 : decode cJ2_getChar 38 = .ok (.sipush 255, 3) := by decide +kernel
theorem dJ2_getChar_41 : decode cJ2_getChar 41 = .ok (.iand, 1) := by decide +kernel
theorem dJ2_getChar_42 : decode cJ2_getChar 42 = .ok (.getstatic 59, 3) := by decide +kernel
theorem dJ2_getChar_45 : decode cJ2_getChar 45 = .ok (.ishl, 1) := by decide +kernel
theorem dJ2_getChar_46 : decode cJ2_getChar 46 = .ok (.aload_n 0, 1) := by decide +kernel
theorem dJ2_getChar_47 : decode cJ2_getChar 47 = .ok (.iload_n 1, 1) := by decide +kernel
theorem dJ2_getChar_48 : decode cJ2_getChar 48 = .ok (.baload, 1) := by decide +kernel
theorem dJ2_getChar_49 : decode cJ2_getChar 49 = .ok (.sipush 255, 3) := by decide +kernel
theorem dJ2_getChar_52 : decode cJ2_getChar 52 = .ok (.iand, 1) := by decide +kernel
theorem dJ2_getChar_53 : decode cJ2_getChar 53 = .ok (.getstatic 63, 3) := by decide +kernel
theorem dJ2_getChar_56 : decode cJ2_getChar 56 = .ok (.ishl, 1) := by decide +kernel
theorem dJ2_getChar_57 : decode cJ2_getChar 57 = .ok (.ior, 1) := by decide +kernel
theorem dJ2_getChar_58 : decode cJ2_getChar 58 = .ok (.i2c, 1) := by decide +kernel
theorem dJ2_getChar_59 : decode cJ2_getChar 59 = .ok (.ireturn, 1) := by decide +kernel
theorem dJ2_length_0 : decode cJ2_length 0 = .ok (.aload_n 0, 1) := by decide +kernel
theorem dJ2_length_1 : decode cJ2_length 1 = .ok (.arraylength, 1) := by decide +kernel
theorem dJ2_length_2 : decode cJ2_length 2 = .ok (.iconst 1, 1) := by decide +kernel
theorem dJ2_length_3 : decode cJ2_length 3 = .ok (.ishr, 1) := by decide +kernel
theorem dJ2_length_4 : decode cJ2_length 4 = .ok (.ireturn, 1) := by decide +kernel
theorem dJ2_charAt_0 : decode cJ2_charAt 0 = .ok (.iload_n 1, 1) := by decide +kernel
theorem dJ2_charAt_1 : decode cJ2_charAt 1 = .ok (.aload_n 0, 1) := by decide +kernel
theorem dJ2_charAt_2 : decode cJ2_charAt 2 = .ok (.invokestatic 67, 3) := by decide +kernel
theorem dJ2_charAt_5 : decode cJ2_charAt 5 = .ok (.aload_n 0, 1) := by decide +kernel
theorem dJ2_charAt_6 : decode cJ2_charAt 6 = .ok (.iload_n 1, 1) := by decide +kernel
theorem dJ2_charAt_7 : decode cJ2_charAt 7 = .ok (.invokestatic 71, 3) := by decide +kernel
theorem dJ2_charAt_10 : decode cJ2_charAt 10 = .ok (.ireturn, 1) := by decide +kernel
theorem dJ2_checkIndex_0 : decode cJ2_checkIndex 0 = .ok (.iload_n 0, 1) := by decide +kernel
theorem dJ2_checkIndex_1 : decode cJ2_checkIndex 1 = .ok (.aload_n 1, 1) := by decide +kernel
theorem dJ2_checkIndex_2 : decode cJ2_checkIndex 2 = .ok (.invokestatic 48, 3) := by decide +kernel
theorem dJ2_checkIndex_5 : decode cJ2_checkIndex 5 = .ok (.invokestatic 414, 3) := by decide +kernel
theorem dJ2_checkIndex_8 : decode cJ2_checkIndex 8 = .ok (.return_, 1) := by decide +kernel
theorem dJ3_checkIndex_0 : decode cJ3_checkIndex 0 = .ok (.iload_n 0, 1) := by decide +kernel
theorem dJ3_checkIndex_1 : decode cJ3_checkIndex 1 = .ok (.ifCond .lt 8, 3) := by decide +kernel
theorem dJ3_checkIndex_4 : decode cJ3_checkIndex 4 = .ok (.iload_n 0, 1) := by decide +kernel
theorem dJ3_checkIndex_5 : decode cJ3_checkIndex 5 = .ok (.iload_n 1, 1) := by decide +kernel
theorem dJ3_checkIndex_6 : decode cJ3_checkIndex 6 = .ok (.if_icmp .lt 10, 3) := by decide +kernel
theorem dJ3_checkIndex_9 : decode cJ3_checkIndex 9 = .ok (.aload_n 2, 1) := by decide +kernel
theorem dJ3_checkIndex_10 : decode cJ3_checkIndex 10 = .ok (.iload_n 0, 1) := by decide +kernel
theorem dJ3_checkIndex_11 : decode cJ3_checkIndex 11 = .ok (.iload_n 1, 1) := by decide +kernel
theorem dJ3_checkIndex_12 : decode cJ3_checkIndex 12 = .ok (.invokestatic 95, 3) := by decide +kernel
theorem dJ3_checkIndex_15 : decode cJ3_checkIndex 15 = .ok (.athrow, 1) := by decide +kernel
theorem dJ3_checkIndex_16 : decode cJ3_checkIndex 16 = .ok (.iload_n 0, 1) := by decide +kernel
theorem dJ3_checkIndex_17 : decode cJ3_checkIndex 17 = .ok (.ireturn, 1) := by decide +kernel
