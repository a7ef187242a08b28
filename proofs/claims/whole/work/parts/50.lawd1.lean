/-! The law's instructions. -/
theorem dX5_law_0 : decode code 0 = .ok (.new 8, 3) := by decide +kernel
theorem dX5_law_3 : decode code 3 = .ok (.dup, 1) := by decide +kernel
theorem dX5_law_4 : decode code 4 = .ok (.invokespecial 42, 3) := by decide +kernel
theorem dX5_law_7 : decode code 7 = .ok (.astore_n 1, 1) := by decide +kernel
theorem dX5_law_8 : decode code 8 = .ok (.new 43, 3) := by decide +kernel
theorem dX5_law_11 : decode code 11 = .ok (.dup, 1) := by decide +kernel
theorem dX5_law_12 : decode code 12 = .ok (.invokespecial 45, 3) := by decide +kernel
theorem dX5_law_15 : decode code 15 = .ok (.astore_n 2, 1) := by decide +kernel
theorem dX5_law_16 : decode code 16 = .ok (.iconst 1, 1) := by decide +kernel
theorem dX5_law_17 : decode code 17 = .ok (.newarray .long, 2) := by decide +kernel
theorem dX5_law_19 : decode code 19 = .ok (.astore_n 3, 1) := by decide +kernel
theorem dX5_law_20 : decode code 20 = .ok (.iconst 0, 1) := by decide +kernel
theorem dX5_law_21 : decode code 21 = .ok (.istore 4, 2) := by decide +kernel
theorem dX5_law_23 : decode code 23 = .ok (.iload 4, 2) := by decide +kernel
theorem dX5_law_25 : decode code 25 = .ok (.aload_n 0, 1) := by decide +kernel
theorem dX5_law_26 : decode code 26 = .ok (.arraylength, 1) := by decide +kernel
theorem dX5_law_27 : decode code 27 = .ok (.bipush 6, 2) := by decide +kernel
theorem dX5_law_29 : decode code 29 = .ok (.isub, 1) := by decide +kernel
theorem dX5_law_30 : decode code 30 = .ok (.if_icmp .gt 971, 3) := by decide +kernel
theorem dX5_law_33 : decode code 33 = .ok (.aload_n 0, 1) := by decide +kernel
theorem dX5_law_34 : decode code 34 = .ok (.iload 4, 2) := by decide +kernel
theorem dX5_law_36 : decode code 36 = .ok (.iaload, 1) := by decide +kernel
theorem dX5_law_37 : decode code 37 = .ok (.bipush 31, 2) := by decide +kernel
theorem dX5_law_39 : decode code 39 = .ok (.iand, 1) := by decide +kernel
theorem dX5_law_40 : decode code 40 = .ok (.tableswitch 955 0 16 #[84, 128, 232, 316, 384, 433, 477, 514, 551, 595, 632, 707, 744, 793, 818, 893, 930], 84) := by decide +kernel
theorem dX5_law_124 : decode code 124 = .ok (.aload_n 1, 1) := by decide +kernel
theorem dX5_law_125 : decode code 125 = .ok (.aload_n 3, 1) := by decide +kernel
theorem dX5_law_126 : decode code 126 = .ok (.invokestatic 46, 3) := by decide +kernel
theorem dX5_law_129 : decode code 129 = .ok (.istore 5, 2) := by decide +kernel
theorem dX5_law_131 : decode code 131 = .ok (.aload_n 2, 1) := by decide +kernel
theorem dX5_law_132 : decode code 132 = .ok (.invokevirtual 51, 3) := by decide +kernel
theorem dX5_law_135 : decode code 135 = .ok (.istore 6, 2) := by decide +kernel
theorem dX5_law_137 : decode code 137 = .ok (.aload_n 2, 1) := by decide +kernel
theorem dX5_law_138 : decode code 138 = .ok (.invokevirtual 52, 3) := by decide +kernel
theorem dX5_law_141 : decode code 141 = .ok (.iload 5, 2) := by decide +kernel
theorem dX5_law_143 : decode code 143 = .ok (.if_icmp .eq 5, 3) := by decide +kernel
theorem dX5_law_146 : decode code 146 = .ok (.iconst 0, 1) := by decide +kernel
theorem dX5_law_147 : decode code 147 = .ok (.ireturn, 1) := by decide +kernel
theorem dX5_law_148 : decode code 148 = .ok (.iload 5, 2) := by decide +kernel
theorem dX5_law_150 : decode code 150 = .ok (.ifCond .ne 15, 3) := by decide +kernel
theorem dX5_law_153 : decode code 153 = .ok (.aload_n 3, 1) := by decide +kernel
theorem dX5_law_154 : decode code 154 = .ok (.iconst 0, 1) := by decide +kernel
theorem dX5_law_155 : decode code 155 = .ok (.laload, 1) := by decide +kernel
theorem dX5_law_156 : decode code 156 = .ok (.iload 6, 2) := by decide +kernel
theorem dX5_law_158 : decode code 158 = .ok (.i2l, 1) := by decide +kernel
theorem dX5_law_159 : decode code 159 = .ok (.lcmp, 1) := by decide +kernel
theorem dX5_law_160 : decode code 160 = .ok (.ifCond .eq 5, 3) := by decide +kernel
theorem dX5_law_163 : decode code 163 = .ok (.iconst 0, 1) := by decide +kernel
theorem dX5_law_164 : decode code 164 = .ok (.ireturn, 1) := by decide +kernel
theorem dX5_law_165 : decode code 165 = .ok (.goto 830, 3) := by decide +kernel
theorem dX5_law_168 : decode code 168 = .ok (.aload_n 1, 1) := by decide +kernel
theorem dX5_law_169 : decode code 169 = .ok (.aload_n 0, 1) := by decide +kernel
theorem dX5_law_170 : decode code 170 = .ok (.iload 4, 2) := by decide +kernel
theorem dX5_law_172 : decode code 172 = .ok (.iconst 1, 1) := by decide +kernel
theorem dX5_law_173 : decode code 173 = .ok (.iadd, 1) := by decide +kernel
theorem dX5_law_174 : decode code 174 = .ok (.iaload, 1) := by decide +kernel
theorem dX5_law_175 : decode code 175 = .ok (.aload_n 0, 1) := by decide +kernel
theorem dX5_law_176 : decode code 176 = .ok (.iload 4, 2) := by decide +kernel
theorem dX5_law_178 : decode code 178 = .ok (.iconst 2, 1) := by decide +kernel
theorem dX5_law_179 : decode code 179 = .ok (.iadd, 1) := by decide +kernel
theorem dX5_law_180 : decode code 180 = .ok (.iaload, 1) := by decide +kernel
theorem dX5_law_181 : decode code 181 = .ok (.aload_n 0, 1) := by decide +kernel
theorem dX5_law_182 : decode code 182 = .ok (.iload 4, 2) := by decide +kernel
theorem dX5_law_184 : decode code 184 = .ok (.iconst 3, 1) := by decide +kernel
theorem dX5_law_185 : decode code 185 = .ok (.iadd, 1) := by decide +kernel
theorem dX5_law_186 : decode code 186 = .ok (.iaload, 1) := by decide +kernel
theorem dX5_law_187 : decode code 187 = .ok (.aload_n 0, 1) := by decide +kernel
theorem dX5_law_188 : decode code 188 = .ok (.iload 4, 2) := by decide +kernel
theorem dX5_law_190 : decode code 190 = .ok (.iconst 4, 1) := by decide +kernel
theorem dX5_law_191 : decode code 191 = .ok (.iadd, 1) := by decide +kernel
theorem dX5_law_192 : decode code 192 = .ok (.iaload, 1) := by decide +kernel
theorem dX5_law_193 : decode code 193 = .ok (.aload_n 0, 1) := by decide +kernel
theorem dX5_law_194 : decode code 194 = .ok (.iload 4, 2) := by decide +kernel
theorem dX5_law_196 : decode code 196 = .ok (.iconst 5, 1) := by decide +kernel
theorem dX5_law_197 : decode code 197 = .ok (.iadd, 1) := by decide +kernel
theorem dX5_law_198 : decode code 198 = .ok (.iaload, 1) := by decide +kernel
theorem dX5_law_199 : decode code 199 = .ok (.aload_n 3, 1) := by decide +kernel
theorem dX5_law_200 : decode code 200 = .ok (.invokestatic 55, 3) := by decide +kernel
theorem dX5_law_203 : decode code 203 = .ok (.istore 5, 2) := by decide +kernel
theorem dX5_law_205 : decode code 205 = .ok (.aload_n 2, 1) := by decide +kernel
theorem dX5_law_206 : decode code 206 = .ok (.aload_n 0, 1) := by decide +kernel
theorem dX5_law_207 : decode code 207 = .ok (.iload 4, 2) := by decide +kernel
theorem dX5_law_209 : decode code 209 = .ok (.iconst 1, 1) := by decide +kernel
theorem dX5_law_210 : decode code 210 = .ok (.iadd, 1) := by decide +kernel
theorem dX5_law_211 : decode code 211 = .ok (.iaload, 1) := by decide +kernel
theorem dX5_law_212 : decode code 212 = .ok (.aload_n 0, 1) := by decide +kernel
theorem dX5_law_213 : decode code 213 = .ok (.iload 4, 2) := by decide +kernel
theorem dX5_law_215 : decode code 215 = .ok (.iconst 2, 1) := by decide +kernel
theorem dX5_law_216 : decode code 216 = .ok (.iadd, 1) := by decide +kernel
theorem dX5_law_217 : decode code 217 = .ok (.iaload, 1) := by decide +kernel
theorem dX5_law_218 : decode code 218 = .ok (.aload_n 0, 1) := by decide +kernel
theorem dX5_law_219 : decode code 219 = .ok (.iload 4, 2) := by decide +kernel
theorem dX5_law_221 : decode code 221 = .ok (.iconst 3, 1) := by decide +kernel
theorem dX5_law_222 : decode code 222 = .ok (.iadd, 1) := by decide +kernel
theorem dX5_law_223 : decode code 223 = .ok (.iaload, 1) := by decide +kernel
theorem dX5_law_224 : decode code 224 = .ok (.aload_n 0, 1) := by decide +kernel
theorem dX5_law_225 : decode code 225 = .ok (.iload 4, 2) := by decide +kernel
theorem dX5_law_227 : decode code 227 = .ok (.iconst 4, 1) := by decide +kernel
theorem dX5_law_228 : decode code 228 = .ok (.iadd, 1) := by decide +kernel
theorem dX5_law_229 : decode code 229 = .ok (.iaload, 1) := by decide +kernel
theorem dX5_law_230 : decode code 230 = .ok (.aload_n 0, 1) := by decide +kernel
theorem dX5_law_231 : decode code 231 = .ok (.iload 4, 2) := by decide +kernel
theorem dX5_law_233 : decode code 233 = .ok (.iconst 5, 1) := by decide +kernel
theorem dX5_law_234 : decode code 234 = .ok (.iadd, 1) := by decide +kernel
theorem dX5_law_235 : decode code 235 = .ok (.iaload, 1) := by decide +kernel
theorem dX5_law_236 : decode code 236 = .ok (.invokevirtual 58, 3) := by decide +kernel
theorem dX5_law_239 : decode code 239 = .ok (.istore 6, 2) := by decide +kernel
theorem dX5_law_241 : decode code 241 = .ok (.aload_n 2, 1) := by decide +kernel
theorem dX5_law_242 : decode code 242 = .ok (.invokevirtual 52, 3) := by decide +kernel
theorem dX5_law_245 : decode code 245 = .ok (.iload 5, 2) := by decide +kernel
theorem dX5_law_247 : decode code 247 = .ok (.if_icmp .eq 5, 3) := by decide +kernel
theorem dX5_law_250 : decode code 250 = .ok (.iconst 0, 1) := by decide +kernel
theorem dX5_law_251 : decode code 251 = .ok (.ireturn, 1) := by decide +kernel
theorem dX5_law_252 : decode code 252 = .ok (.iload 5, 2) := by decide +kernel
theorem dX5_law_254 : decode code 254 = .ok (.ifCond .ne 15, 3) := by decide +kernel
theorem dX5_law_257 : decode code 257 = .ok (.aload_n 3, 1) := by decide +kernel
theorem dX5_law_258 : decode code 258 = .ok (.iconst 0, 1) := by decide +kernel
theorem dX5_law_259 : decode code 259 = .ok (.laload, 1) := by decide +kernel
theorem dX5_law_260 : decode code 260 = .ok (.iload 6, 2) := by decide +kernel
theorem dX5_law_262 : decode code 262 = .ok (.i2l, 1) := by decide +kernel
theorem dX5_law_263 : decode code 263 = .ok (.lcmp, 1) := by decide +kernel
theorem dX5_law_264 : decode code 264 = .ok (.ifCond .eq 5, 3) := by decide +kernel
theorem dX5_law_267 : decode code 267 = .ok (.iconst 0, 1) := by decide +kernel
theorem dX5_law_268 : decode code 268 = .ok (.ireturn, 1) := by decide +kernel
theorem dX5_law_269 : decode code 269 = .ok (.goto 726, 3) := by decide +kernel
theorem dX5_law_272 : decode code 272 = .ok (.aload_n 1, 1) := by decide +kernel
theorem dX5_law_273 : decode code 273 = .ok (.aload_n 0, 1) := by decide +kernel
theorem dX5_law_274 : decode code 274 = .ok (.iload 4, 2) := by decide +kernel
theorem dX5_law_276 : decode code 276 = .ok (.iconst 1, 1) := by decide +kernel
theorem dX5_law_277 : decode code 277 = .ok (.iadd, 1) := by decide +kernel
theorem dX5_law_278 : decode code 278 = .ok (.iaload, 1) := by decide +kernel
theorem dX5_law_279 : decode code 279 = .ok (.aload_n 0, 1) := by decide +kernel
theorem dX5_law_280 : decode code 280 = .ok (.iload 4, 2) := by decide +kernel
theorem dX5_law_282 : decode code 282 = .ok (.iconst 2, 1) := by decide +kernel
theorem dX5_law_283 : decode code 283 = .ok (.iadd, 1) := by decide +kernel
theorem dX5_law_284 : decode code 284 = .ok (.iaload, 1) := by decide +kernel
theorem dX5_law_285 : decode code 285 = .ok (.ifCond .eq 7, 3) := by decide +kernel
theorem dX5_law_288 : decode code 288 = .ok (.iconst 1, 1) := by decide +kernel
theorem dX5_law_289 : decode code 289 = .ok (.goto 4, 3) := by decide +kernel
theorem dX5_law_292 : decode code 292 = .ok (.iconst 0, 1) := by decide +kernel
theorem dX5_law_293 : decode code 293 = .ok (.aload_n 3, 1) := by decide +kernel
theorem dX5_law_294 : decode code 294 = .ok (.invokestatic 59, 3) := by decide +kernel
theorem dX5_law_297 : decode code 297 = .ok (.istore 5, 2) := by decide +kernel
theorem dX5_law_299 : decode code 299 = .ok (.aload_n 2, 1) := by decide +kernel
theorem dX5_law_300 : decode code 300 = .ok (.aload_n 0, 1) := by decide +kernel
theorem dX5_law_301 : decode code 301 = .ok (.iload 4, 2) := by decide +kernel
theorem dX5_law_303 : decode code 303 = .ok (.iconst 1, 1) := by decide +kernel
theorem dX5_law_304 : decode code 304 = .ok (.iadd, 1) := by decide +kernel
theorem dX5_law_305 : decode code 305 = .ok (.iaload, 1) := by decide +kernel
theorem dX5_law_306 : decode code 306 = .ok (.aload_n 0, 1) := by decide +kernel
theorem dX5_law_307 : decode code 307 = .ok (.iload 4, 2) := by decide +kernel
theorem dX5_law_309 : decode code 309 = .ok (.iconst 2, 1) := by decide +kernel
theorem dX5_law_310 : decode code 310 = .ok (.iadd, 1) := by decide +kernel
theorem dX5_law_311 : decode code 311 = .ok (.iaload, 1) := by decide +kernel
theorem dX5_law_312 : decode code 312 = .ok (.ifCond .eq 7, 3) := by decide +kernel
theorem dX5_law_315 : decode code 315 = .ok (.iconst 1, 1) := by decide +kernel
theorem dX5_law_316 : decode code 316 = .ok (.goto 4, 3) := by decide +kernel
theorem dX5_law_319 : decode code 319 = .ok (.iconst 0, 1) := by decide +kernel
theorem dX5_law_320 : decode code 320 = .ok (.invokevirtual 62, 3) := by decide +kernel
theorem dX5_law_323 : decode code 323 = .ok (.istore 6, 2) := by decide +kernel
theorem dX5_law_325 : decode code 325 = .ok (.aload_n 2, 1) := by decide +kernel
theorem dX5_law_326 : decode code 326 = .ok (.invokevirtual 52, 3) := by decide +kernel
theorem dX5_law_329 : decode code 329 = .ok (.iload 5, 2) := by decide +kernel
theorem dX5_law_331 : decode code 331 = .ok (.if_icmp .eq 5, 3) := by decide +kernel
theorem dX5_law_334 : decode code 334 = .ok (.iconst 0, 1) := by decide +kernel
theorem dX5_law_335 : decode code 335 = .ok (.ireturn, 1) := by decide +kernel
theorem dX5_law_336 : decode code 336 = .ok (.iload 5, 2) := by decide +kernel
theorem dX5_law_338 : decode code 338 = .ok (.ifCond .ne 15, 3) := by decide +kernel
theorem dX5_law_341 : decode code 341 = .ok (.aload_n 3, 1) := by decide +kernel
theorem dX5_law_342 : decode code 342 = .ok (.iconst 0, 1) := by decide +kernel
