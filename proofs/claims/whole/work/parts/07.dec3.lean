theorem dXL_cell_0 : decode cXL_cell 0 = .ok (.iload_n 1, 1) := by decide +kernel
theorem dXL_cell_1 : decode cXL_cell 1 = .ok (.aload_n 0, 1) := by decide +kernel
theorem dXL_cell_2 : decode cXL_cell 2 = .ok (.arraylength, 1) := by decide +kernel
theorem dXL_cell_3 : decode cXL_cell 3 = .ok (.if_icmp .ge 9, 3) := by decide +kernel
theorem dXL_cell_6 : decode cXL_cell 6 = .ok (.aload_n 0, 1) := by decide +kernel
theorem dXL_cell_7 : decode cXL_cell 7 = .ok (.iload_n 1, 1) := by decide +kernel
theorem dXL_cell_8 : decode cXL_cell 8 = .ok (.iaload, 1) := by decide +kernel
theorem dXL_cell_9 : decode cXL_cell 9 = .ok (.goto 4, 3) := by decide +kernel
theorem dXL_cell_12 : decode cXL_cell 12 = .ok (.iconst 0, 1) := by decide +kernel
theorem dXL_cell_13 : decode cXL_cell 13 = .ok (.ireturn, 1) := by decide +kernel
theorem dXL_law_0 : decode cXL_law 0 = .ok (.new 7, 3) := by decide +kernel
theorem dXL_law_3 : decode cXL_law 3 = .ok (.dup, 1) := by decide +kernel
theorem dXL_law_4 : decode cXL_law 4 = .ok (.aload_n 0, 1) := by decide +kernel
theorem dXL_law_5 : decode cXL_law 5 = .ok (.iconst 0, 1) := by decide +kernel
theorem dXL_law_6 : decode cXL_law 6 = .ok (.invokestatic 9, 3) := by decide +kernel
theorem dXL_law_9 : decode cXL_law 9 = .ok (.invokespecial 15, 3) := by decide +kernel
theorem dXL_law_12 : decode cXL_law 12 = .ok (.astore_n 1, 1) := by decide +kernel
theorem dXL_law_13 : decode cXL_law 13 = .ok (.new 18, 3) := by decide +kernel
theorem dXL_law_16 : decode cXL_law 16 = .ok (.dup, 1) := by decide +kernel
theorem dXL_law_17 : decode cXL_law 17 = .ok (.aload_n 0, 1) := by decide +kernel
theorem dXL_law_18 : decode cXL_law 18 = .ok (.iconst 0, 1) := by decide +kernel
theorem dXL_law_19 : decode cXL_law 19 = .ok (.invokestatic 9, 3) := by decide +kernel
theorem dXL_law_22 : decode cXL_law 22 = .ok (.invokespecial 20, 3) := by decide +kernel
theorem dXL_law_25 : decode cXL_law 25 = .ok (.astore_n 2, 1) := by decide +kernel
theorem dXL_law_26 : decode cXL_law 26 = .ok (.iconst 1, 1) := by decide +kernel
theorem dXL_law_27 : decode cXL_law 27 = .ok (.istore_n 3, 1) := by decide +kernel
theorem dXL_law_28 : decode cXL_law 28 = .ok (.iload_n 3, 1) := by decide +kernel
theorem dXL_law_29 : decode cXL_law 29 = .ok (.aload_n 0, 1) := by decide +kernel
theorem dXL_law_30 : decode cXL_law 30 = .ok (.arraylength, 1) := by decide +kernel
theorem dXL_law_31 : decode cXL_law 31 = .ok (.iconst 3, 1) := by decide +kernel
theorem dXL_law_32 : decode cXL_law 32 = .ok (.isub, 1) := by decide +kernel
theorem dXL_law_33 : decode cXL_law 33 = .ok (.if_icmp .gt 362, 3) := by decide +kernel
theorem dXL_law_36 : decode cXL_law 36 = .ok (.aload_n 0, 1) := by decide +kernel
theorem dXL_law_37 : decode cXL_law 37 = .ok (.iload_n 3, 1) := by decide +kernel
theorem dXL_law_38 : decode cXL_law 38 = .ok (.iaload, 1) := by decide +kernel
theorem dXL_law_39 : decode cXL_law 39 = .ok (.bipush 15, 2) := by decide +kernel
theorem dXL_law_41 : decode cXL_law 41 = .ok (.iand, 1) := by decide +kernel
theorem dXL_law_42 : decode cXL_law 42 = .ok (.tableswitch 347 0 10 #[58, 107, 140, 163, 176, 199, 222, 235, 268, 291, 324], 58) := by decide +kernel
theorem dXL_law_100 : decode cXL_law 100 = .ok (.aload_n 1, 1) := by decide +kernel
theorem dXL_law_101 : decode cXL_law 101 = .ok (.aload_n 0, 1) := by decide +kernel
theorem dXL_law_102 : decode cXL_law 102 = .ok (.iload_n 3, 1) := by decide +kernel
theorem dXL_law_103 : decode cXL_law 103 = .ok (.iconst 1, 1) := by decide +kernel
theorem dXL_law_104 : decode cXL_law 104 = .ok (.iadd, 1) := by decide +kernel
theorem dXL_law_105 : decode cXL_law 105 = .ok (.iaload, 1) := by decide +kernel
theorem dXL_law_106 : decode cXL_law 106 = .ok (.aload_n 0, 1) := by decide +kernel
theorem dXL_law_107 : decode cXL_law 107 = .ok (.iload_n 3, 1) := by decide +kernel
theorem dXL_law_108 : decode cXL_law 108 = .ok (.iconst 2, 1) := by decide +kernel
theorem dXL_law_109 : decode cXL_law 109 = .ok (.iadd, 1) := by decide +kernel
theorem dXL_law_110 : decode cXL_law 110 = .ok (.iaload, 1) := by decide +kernel
theorem dXL_law_111 : decode cXL_law 111 = .ok (.ifCond .eq 7, 3) := by decide +kernel
theorem dXL_law_114 : decode cXL_law 114 = .ok (.iconst 1, 1) := by decide +kernel
theorem dXL_law_115 : decode cXL_law 115 = .ok (.goto 4, 3) := by decide +kernel
theorem dXL_law_118 : decode cXL_law 118 = .ok (.iconst 0, 1) := by decide +kernel
theorem dXL_law_119 : decode cXL_law 119 = .ok (.invokevirtual 21, 3) := by decide +kernel
theorem dXL_law_122 : decode cXL_law 122 = .ok (.aload_n 2, 1) := by decide +kernel
theorem dXL_law_123 : decode cXL_law 123 = .ok (.aload_n 0, 1) := by decide +kernel
theorem dXL_law_124 : decode cXL_law 124 = .ok (.iload_n 3, 1) := by decide +kernel
theorem dXL_law_125 : decode cXL_law 125 = .ok (.iconst 1, 1) := by decide +kernel
theorem dXL_law_126 : decode cXL_law 126 = .ok (.iadd, 1) := by decide +kernel
theorem dXL_law_127 : decode cXL_law 127 = .ok (.iaload, 1) := by decide +kernel
theorem dXL_law_128 : decode cXL_law 128 = .ok (.aload_n 0, 1) := by decide +kernel
theorem dXL_law_129 : decode cXL_law 129 = .ok (.iload_n 3, 1) := by decide +kernel
theorem dXL_law_130 : decode cXL_law 130 = .ok (.iconst 2, 1) := by decide +kernel
theorem dXL_law_131 : decode cXL_law 131 = .ok (.iadd, 1) := by decide +kernel
theorem dXL_law_132 : decode cXL_law 132 = .ok (.iaload, 1) := by decide +kernel
theorem dXL_law_133 : decode cXL_law 133 = .ok (.ifCond .eq 7, 3) := by decide +kernel
theorem dXL_law_136 : decode cXL_law 136 = .ok (.iconst 1, 1) := by decide +kernel
theorem dXL_law_137 : decode cXL_law 137 = .ok (.goto 4, 3) := by decide +kernel
theorem dXL_law_140 : decode cXL_law 140 = .ok (.iconst 0, 1) := by decide +kernel
theorem dXL_law_141 : decode cXL_law 141 = .ok (.invokevirtual 25, 3) := by decide +kernel
theorem dXL_law_144 : decode cXL_law 144 = .ok (.if_icmp .eq 245, 3) := by decide +kernel
theorem dXL_law_147 : decode cXL_law 147 = .ok (.iconst 0, 1) := by decide +kernel
theorem dXL_law_148 : decode cXL_law 148 = .ok (.ireturn, 1) := by decide +kernel
theorem dXL_law_149 : decode cXL_law 149 = .ok (.aload_n 1, 1) := by decide +kernel
theorem dXL_law_150 : decode cXL_law 150 = .ok (.aload_n 0, 1) := by decide +kernel
theorem dXL_law_151 : decode cXL_law 151 = .ok (.iload_n 3, 1) := by decide +kernel
theorem dXL_law_152 : decode cXL_law 152 = .ok (.iconst 1, 1) := by decide +kernel
theorem dXL_law_153 : decode cXL_law 153 = .ok (.iadd, 1) := by decide +kernel
theorem dXL_law_154 : decode cXL_law 154 = .ok (.iaload, 1) := by decide +kernel
theorem dXL_law_155 : decode cXL_law 155 = .ok (.aload_n 0, 1) := by decide +kernel
theorem dXL_law_156 : decode cXL_law 156 = .ok (.iload_n 3, 1) := by decide +kernel
theorem dXL_law_157 : decode cXL_law 157 = .ok (.iconst 2, 1) := by decide +kernel
theorem dXL_law_158 : decode cXL_law 158 = .ok (.iadd, 1) := by decide +kernel
theorem dXL_law_159 : decode cXL_law 159 = .ok (.iaload, 1) := by decide +kernel
theorem dXL_law_160 : decode cXL_law 160 = .ok (.invokevirtual 26, 3) := by decide +kernel
theorem dXL_law_163 : decode cXL_law 163 = .ok (.aload_n 2, 1) := by decide +kernel
theorem dXL_law_164 : decode cXL_law 164 = .ok (.aload_n 0, 1) := by decide +kernel
theorem dXL_law_165 : decode cXL_law 165 = .ok (.iload_n 3, 1) := by decide +kernel
theorem dXL_law_166 : decode cXL_law 166 = .ok (.iconst 1, 1) := by decide +kernel
theorem dXL_law_167 : decode cXL_law 167 = .ok (.iadd, 1) := by decide +kernel
theorem dXL_law_168 : decode cXL_law 168 = .ok (.iaload, 1) := by decide +kernel
theorem dXL_law_169 : decode cXL_law 169 = .ok (.aload_n 0, 1) := by decide +kernel
theorem dXL_law_170 : decode cXL_law 170 = .ok (.iload_n 3, 1) := by decide +kernel
theorem dXL_law_171 : decode cXL_law 171 = .ok (.iconst 2, 1) := by decide +kernel
theorem dXL_law_172 : decode cXL_law 172 = .ok (.iadd, 1) := by decide +kernel
theorem dXL_law_173 : decode cXL_law 173 = .ok (.iaload, 1) := by decide +kernel
theorem dXL_law_174 : decode cXL_law 174 = .ok (.invokevirtual 30, 3) := by decide +kernel
theorem dXL_law_177 : decode cXL_law 177 = .ok (.if_icmp .eq 212, 3) := by decide +kernel
theorem dXL_law_180 : decode cXL_law 180 = .ok (.iconst 0, 1) := by decide +kernel
theorem dXL_law_181 : decode cXL_law 181 = .ok (.ireturn, 1) := by decide +kernel
theorem dXL_law_182 : decode cXL_law 182 = .ok (.aload_n 1, 1) := by decide +kernel
theorem dXL_law_183 : decode cXL_law 183 = .ok (.aload_n 0, 1) := by decide +kernel
theorem dXL_law_184 : decode cXL_law 184 = .ok (.iload_n 3, 1) := by decide +kernel
theorem dXL_law_185 : decode cXL_law 185 = .ok (.iconst 1, 1) := by decide +kernel
theorem dXL_law_186 : decode cXL_law 186 = .ok (.iadd, 1) := by decide +kernel
theorem dXL_law_187 : decode cXL_law 187 = .ok (.iaload, 1) := by decide +kernel
theorem dXL_law_188 : decode cXL_law 188 = .ok (.invokevirtual 31, 3) := by decide +kernel
theorem dXL_law_191 : decode cXL_law 191 = .ok (.aload_n 2, 1) := by decide +kernel
theorem dXL_law_192 : decode cXL_law 192 = .ok (.aload_n 0, 1) := by decide +kernel
theorem dXL_law_193 : decode cXL_law 193 = .ok (.iload_n 3, 1) := by decide +kernel
theorem dXL_law_194 : decode cXL_law 194 = .ok (.iconst 1, 1) := by decide +kernel
theorem dXL_law_195 : decode cXL_law 195 = .ok (.iadd, 1) := by decide +kernel
theorem dXL_law_196 : decode cXL_law 196 = .ok (.iaload, 1) := by decide +kernel
theorem dXL_law_197 : decode cXL_law 197 = .ok (.invokevirtual 35, 3) := by decide +kernel
theorem dXL_law_200 : decode cXL_law 200 = .ok (.if_icmp .eq 189, 3) := by decide +kernel
theorem dXL_law_203 : decode cXL_law 203 = .ok (.iconst 0, 1) := by decide +kernel
theorem dXL_law_204 : decode cXL_law 204 = .ok (.ireturn, 1) := by decide +kernel
theorem dXL_law_205 : decode cXL_law 205 = .ok (.aload_n 1, 1) := by decide +kernel
theorem dXL_law_206 : decode cXL_law 206 = .ok (.invokevirtual 36, 3) := by decide +kernel
theorem dXL_law_209 : decode cXL_law 209 = .ok (.aload_n 2, 1) := by decide +kernel
theorem dXL_law_210 : decode cXL_law 210 = .ok (.invokevirtual 40, 3) := by decide +kernel
theorem dXL_law_213 : decode cXL_law 213 = .ok (.if_icmp .eq 176, 3) := by decide +kernel
theorem dXL_law_216 : decode cXL_law 216 = .ok (.iconst 0, 1) := by decide +kernel
theorem dXL_law_217 : decode cXL_law 217 = .ok (.ireturn, 1) := by decide +kernel
theorem dXL_law_218 : decode cXL_law 218 = .ok (.aload_n 1, 1) := by decide +kernel
theorem dXL_law_219 : decode cXL_law 219 = .ok (.aload_n 0, 1) := by decide +kernel
theorem dXL_law_220 : decode cXL_law 220 = .ok (.iload_n 3, 1) := by decide +kernel
theorem dXL_law_221 : decode cXL_law 221 = .ok (.iconst 1, 1) := by decide +kernel
theorem dXL_law_222 : decode cXL_law 222 = .ok (.iadd, 1) := by decide +kernel
theorem dXL_law_223 : decode cXL_law 223 = .ok (.iaload, 1) := by decide +kernel
theorem dXL_law_224 : decode cXL_law 224 = .ok (.invokevirtual 41, 3) := by decide +kernel
theorem dXL_law_227 : decode cXL_law 227 = .ok (.aload_n 2, 1) := by decide +kernel
theorem dXL_law_228 : decode cXL_law 228 = .ok (.aload_n 0, 1) := by decide +kernel
theorem dXL_law_229 : decode cXL_law 229 = .ok (.iload_n 3, 1) := by decide +kernel
theorem dXL_law_230 : decode cXL_law 230 = .ok (.iconst 1, 1) := by decide +kernel
theorem dXL_law_231 : decode cXL_law 231 = .ok (.iadd, 1) := by decide +kernel
theorem dXL_law_232 : decode cXL_law 232 = .ok (.iaload, 1) := by decide +kernel
theorem dXL_law_233 : decode cXL_law 233 = .ok (.invokevirtual 44, 3) := by decide +kernel
theorem dXL_law_236 : decode cXL_law 236 = .ok (.if_icmp .eq 153, 3) := by decide +kernel
theorem dXL_law_239 : decode cXL_law 239 = .ok (.iconst 0, 1) := by decide +kernel
theorem dXL_law_240 : decode cXL_law 240 = .ok (.ireturn, 1) := by decide +kernel
theorem dXL_law_241 : decode cXL_law 241 = .ok (.aload_n 1, 1) := by decide +kernel
theorem dXL_law_242 : decode cXL_law 242 = .ok (.aload_n 0, 1) := by decide +kernel
theorem dXL_law_243 : decode cXL_law 243 = .ok (.iload_n 3, 1) := by decide +kernel
theorem dXL_law_244 : decode cXL_law 244 = .ok (.iconst 1, 1) := by decide +kernel
theorem dXL_law_245 : decode cXL_law 245 = .ok (.iadd, 1) := by decide +kernel
theorem dXL_law_246 : decode cXL_law 246 = .ok (.iaload, 1) := by decide +kernel
theorem dXL_law_247 : decode cXL_law 247 = .ok (.invokevirtual 45, 3) := by decide +kernel
theorem dXL_law_250 : decode cXL_law 250 = .ok (.aload_n 2, 1) := by decide +kernel
theorem dXL_law_251 : decode cXL_law 251 = .ok (.aload_n 0, 1) := by decide +kernel
theorem dXL_law_252 : decode cXL_law 252 = .ok (.iload_n 3, 1) := by decide +kernel
theorem dXL_law_253 : decode cXL_law 253 = .ok (.iconst 1, 1) := by decide +kernel
theorem dXL_law_254 : decode cXL_law 254 = .ok (.iadd, 1) := by decide +kernel
theorem dXL_law_255 : decode cXL_law 255 = .ok (.iaload, 1) := by decide +kernel
theorem dXL_law_256 : decode cXL_law 256 = .ok (.invokevirtual 48, 3) := by decide +kernel
theorem dXL_law_259 : decode cXL_law 259 = .ok (.if_icmp .eq 130, 3) := by decide +kernel
theorem dXL_law_262 : decode cXL_law 262 = .ok (.iconst 0, 1) := by decide +kernel
theorem dXL_law_263 : decode cXL_law 263 = .ok (.ireturn, 1) := by decide +kernel
theorem dXL_law_264 : decode cXL_law 264 = .ok (.aload_n 1, 1) := by decide +kernel
theorem dXL_law_265 : decode cXL_law 265 = .ok (.invokevirtual 49, 3) := by decide +kernel
theorem dXL_law_268 : decode cXL_law 268 = .ok (.aload_n 2, 1) := by decide +kernel
theorem dXL_law_269 : decode cXL_law 269 = .ok (.invokevirtual 52, 3) := by decide +kernel
theorem dXL_law_272 : decode cXL_law 272 = .ok (.if_icmp .eq 117, 3) := by decide +kernel
theorem dXL_law_275 : decode cXL_law 275 = .ok (.iconst 0, 1) := by decide +kernel
theorem dXL_law_276 : decode cXL_law 276 = .ok (.ireturn, 1) := by decide +kernel
theorem dXL_law_277 : decode cXL_law 277 = .ok (.aload_n 1, 1) := by decide +kernel
theorem dXL_law_278 : decode cXL_law 278 = .ok (.aload_n 0, 1) := by decide +kernel
theorem dXL_law_279 : decode cXL_law 279 = .ok (.iload_n 3, 1) := by decide +kernel
theorem dXL_law_280 : decode cXL_law 280 = .ok (.iconst 1, 1) := by decide +kernel
theorem dXL_law_281 : decode cXL_law 281 = .ok (.iadd, 1) := by decide +kernel
theorem dXL_law_282 : decode cXL_law 282 = .ok (.iaload, 1) := by decide +kernel
theorem dXL_law_283 : decode cXL_law 283 = .ok (.aload_n 0, 1) := by decide +kernel
theorem dXL_law_284 : decode cXL_law 284 = .ok (.iload_n 3, 1) := by decide +kernel
theorem dXL_law_285 : decode cXL_law 285 = .ok (.iconst 2, 1) := by decide +kernel
theorem dXL_law_286 : decode cXL_law 286 = .ok (.iadd, 1) := by decide +kernel
theorem dXL_law_287 : decode cXL_law 287 = .ok (.iaload, 1) := by decide +kernel
theorem dXL_law_288 : decode cXL_law 288 = .ok (.invokevirtual 53, 3) := by decide +kernel
theorem dXL_law_291 : decode cXL_law 291 = .ok (.aload_n 2, 1) := by decide +kernel
theorem dXL_law_292 : decode cXL_law 292 = .ok (.aload_n 0, 1) := by decide +kernel
theorem dXL_law_293 : decode cXL_law 293 = .ok (.iload_n 3, 1) := by decide +kernel
theorem dXL_law_294 : decode cXL_law 294 = .ok (.iconst 1, 1) := by decide +kernel
theorem dXL_law_295 : decode cXL_law 295 = .ok (.iadd, 1) := by decide +kernel
theorem dXL_law_296 : decode cXL_law 296 = .ok (.iaload, 1) := by decide +kernel
theorem dXL_law_297 : decode cXL_law 297 = .ok (.aload_n 0, 1) := by decide +kernel
theorem dXL_law_298 : decode cXL_law 298 = .ok (.iload_n 3, 1) := by decide +kernel
theorem dXL_law_299 : decode cXL_law 299 = .ok (.iconst 2, 1) := by decide +kernel
theorem dXL_law_300 : decode cXL_law 300 = .ok (.iadd, 1) := by decide +kernel
theorem dXL_law_301 : decode cXL_law 301 = .ok (.iaload, 1) := by decide +kernel
theorem dXL_law_302 : decode cXL_law 302 = .ok (.invokevirtual 56, 3) := by decide +kernel
theorem dXL_law_305 : decode cXL_law 305 = .ok (.if_icmp .eq 84, 3) := by decide +kernel
theorem dXL_law_308 : decode cXL_law 308 = .ok (.iconst 0, 1) := by decide +kernel
theorem dXL_law_309 : decode cXL_law 309 = .ok (.ireturn, 1) := by decide +kernel
theorem dXL_law_310 : decode cXL_law 310 = .ok (.aload_n 1, 1) := by decide +kernel
theorem dXL_law_311 : decode cXL_law 311 = .ok (.aload_n 0, 1) := by decide +kernel
theorem dXL_law_312 : decode cXL_law 312 = .ok (.iload_n 3, 1) := by decide +kernel
theorem dXL_law_313 : decode cXL_law 313 = .ok (.iconst 1, 1) := by decide +kernel
theorem dXL_law_314 : decode cXL_law 314 = .ok (.iadd, 1) := by decide +kernel
theorem dXL_law_315 : decode cXL_law 315 = .ok (.iaload, 1) := by decide +kernel
theorem dXL_law_316 : decode cXL_law 316 = .ok (.invokevirtual 57, 3) := by decide +kernel
theorem dXL_law_319 : decode cXL_law 319 = .ok (.aload_n 2, 1) := by decide +kernel
theorem dXL_law_320 : decode cXL_law 320 = .ok (.aload_n 0, 1) := by decide +kernel
theorem dXL_law_321 : decode cXL_law 321 = .ok (.iload_n 3, 1) := by decide +kernel
theorem dXL_law_322 : decode cXL_law 322 = .ok (.iconst 1, 1) := by decide +kernel
theorem dXL_law_323 : decode cXL_law 323 = .ok (.iadd, 1) := by decide +kernel
theorem dXL_law_324 : decode cXL_law 324 = .ok (.iaload, 1) := by decide +kernel
theorem dXL_law_325 : decode cXL_law 325 = .ok (.invokevirtual 60, 3) := by decide +kernel
theorem dXL_law_328 : decode cXL_law 328 = .ok (.if_icmp .eq 61, 3) := by decide +kernel
theorem dXL_law_331 : decode cXL_law 331 = .ok (.iconst 0, 1) := by decide +kernel
theorem dXL_law_332 : decode cXL_law 332 = .ok (.ireturn, 1) := by decide +kernel
theorem dXL_law_333 : decode cXL_law 333 = .ok (.aload_n 1, 1) := by decide +kernel
theorem dXL_law_334 : decode cXL_law 334 = .ok (.aload_n 0, 1) := by decide +kernel
theorem dXL_law_335 : decode cXL_law 335 = .ok (.iload_n 3, 1) := by decide +kernel
theorem dXL_law_336 : decode cXL_law 336 = .ok (.iconst 1, 1) := by decide +kernel
theorem dXL_law_337 : decode cXL_law 337 = .ok (.iadd, 1) := by decide +kernel
theorem dXL_law_338 : decode cXL_law 338 = .ok (.iaload, 1) := by decide +kernel
theorem dXL_law_339 : decode cXL_law 339 = .ok (.aload_n 0, 1) := by decide +kernel
theorem dXL_law_340 : decode cXL_law 340 = .ok (.iload_n 3, 1) := by decide +kernel
theorem dXL_law_341 : decode cXL_law 341 = .ok (.iconst 2, 1) := by decide +kernel
theorem dXL_law_342 : decode cXL_law 342 = .ok (.iadd, 1) := by decide +kernel
theorem dXL_law_343 : decode cXL_law 343 = .ok (.iaload, 1) := by decide +kernel
theorem dXL_law_344 : decode cXL_law 344 = .ok (.invokevirtual 61, 3) := by decide +kernel
theorem dXL_law_347 : decode cXL_law 347 = .ok (.aload_n 2, 1) := by decide +kernel
theorem dXL_law_348 : decode cXL_law 348 = .ok (.aload_n 0, 1) := by decide +kernel
theorem dXL_law_349 : decode cXL_law 349 = .ok (.iload_n 3, 1) := by decide +kernel
theorem dXL_law_350 : decode cXL_law 350 = .ok (.iconst 1, 1) := by decide +kernel
theorem dXL_law_351 : decode cXL_law 351 = .ok (.iadd, 1) := by decide +kernel
theorem dXL_law_352 : decode cXL_law 352 = .ok (.iaload, 1) := by decide +kernel
theorem dXL_law_353 : decode cXL_law 353 = .ok (.aload_n 0, 1) := by decide +kernel
theorem dXL_law_354 : decode cXL_law 354 = .ok (.iload_n 3, 1) := by decide +kernel
theorem dXL_law_355 : decode cXL_law 355 = .ok (.iconst 2, 1) := by decide +kernel
theorem dXL_law_356 : decode cXL_law 356 = .ok (.iadd, 1) := by decide +kernel
theorem dXL_law_357 : decode cXL_law 357 = .ok (.iaload, 1) := by decide +kernel
theorem dXL_law_358 : decode cXL_law 358 = .ok (.invokevirtual 64, 3) := by decide +kernel
theorem dXL_law_361 : decode cXL_law 361 = .ok (.if_icmp .eq 28, 3) := by decide +kernel
theorem dXL_law_364 : decode cXL_law 364 = .ok (.iconst 0, 1) := by decide +kernel
theorem dXL_law_365 : decode cXL_law 365 = .ok (.ireturn, 1) := by decide +kernel
theorem dXL_law_366 : decode cXL_law 366 = .ok (.aload_n 1, 1) := by decide +kernel
theorem dXL_law_367 : decode cXL_law 367 = .ok (.aload_n 0, 1) := by decide +kernel
theorem dXL_law_368 : decode cXL_law 368 = .ok (.iload_n 3, 1) := by decide +kernel
theorem dXL_law_369 : decode cXL_law 369 = .ok (.iconst 1, 1) := by decide +kernel
theorem dXL_law_370 : decode cXL_law 370 = .ok (.iadd, 1) := by decide +kernel
theorem dXL_law_371 : decode cXL_law 371 = .ok (.iaload, 1) := by decide +kernel
theorem dXL_law_372 : decode cXL_law 372 = .ok (.invokevirtual 65, 3) := by decide +kernel
theorem dXL_law_375 : decode cXL_law 375 = .ok (.aload_n 2, 1) := by decide +kernel
theorem dXL_law_376 : decode cXL_law 376 = .ok (.aload_n 0, 1) := by decide +kernel
theorem dXL_law_377 : decode cXL_law 377 = .ok (.iload_n 3, 1) := by decide +kernel
theorem dXL_law_378 : decode cXL_law 378 = .ok (.iconst 1, 1) := by decide +kernel
theorem dXL_law_379 : decode cXL_law 379 = .ok (.iadd, 1) := by decide +kernel
theorem dXL_law_380 : decode cXL_law 380 = .ok (.iaload, 1) := by decide +kernel
theorem dXL_law_381 : decode cXL_law 381 = .ok (.invokevirtual 68, 3) := by decide +kernel
theorem dXL_law_384 : decode cXL_law 384 = .ok (.if_icmp .eq 5, 3) := by decide +kernel
theorem dXL_law_387 : decode cXL_law 387 = .ok (.iconst 0, 1) := by decide +kernel
theorem dXL_law_388 : decode cXL_law 388 = .ok (.ireturn, 1) := by decide +kernel
theorem dXL_law_389 : decode cXL_law 389 = .ok (.iinc 3 3, 3) := by decide +kernel
theorem dXL_law_392 : decode cXL_law 392 = .ok (.goto (-364), 3) := by decide +kernel
theorem dXL_law_395 : decode cXL_law 395 = .ok (.iconst 1, 1) := by decide +kernel
theorem dXL_law_396 : decode cXL_law 396 = .ok (.ireturn, 1) := by decide +kernel
