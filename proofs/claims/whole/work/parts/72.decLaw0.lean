theorem d_Lw_law_0 : decode code 0 = .ok (.new 8, 3) := by decide +kernel
theorem d_Lw_law_3 : decode code 3 = .ok (.dup, 1) := by decide +kernel
theorem d_Lw_law_4 : decode code 4 = .ok (.invokespecial 86, 3) := by decide +kernel
theorem d_Lw_law_7 : decode code 7 = .ok (.astore_n 1, 1) := by decide +kernel
theorem d_Lw_law_8 : decode code 8 = .ok (.new 87, 3) := by decide +kernel
theorem d_Lw_law_11 : decode code 11 = .ok (.dup, 1) := by decide +kernel
theorem d_Lw_law_12 : decode code 12 = .ok (.invokespecial 89, 3) := by decide +kernel
theorem d_Lw_law_15 : decode code 15 = .ok (.astore_n 2, 1) := by decide +kernel
theorem d_Lw_law_16 : decode code 16 = .ok (.iconst 1, 1) := by decide +kernel
theorem d_Lw_law_17 : decode code 17 = .ok (.newarray .long, 2) := by decide +kernel
theorem d_Lw_law_19 : decode code 19 = .ok (.astore_n 3, 1) := by decide +kernel
theorem d_Lw_law_20 : decode code 20 = .ok (.iconst 0, 1) := by decide +kernel
theorem d_Lw_law_21 : decode code 21 = .ok (.istore 4, 2) := by decide +kernel
theorem d_Lw_law_23 : decode code 23 = .ok (.iload 4, 2) := by decide +kernel
theorem d_Lw_law_25 : decode code 25 = .ok (.aload_n 0, 1) := by decide +kernel
theorem d_Lw_law_26 : decode code 26 = .ok (.arraylength, 1) := by decide +kernel
theorem d_Lw_law_27 : decode code 27 = .ok (.iconst 4, 1) := by decide +kernel
theorem d_Lw_law_28 : decode code 28 = .ok (.isub, 1) := by decide +kernel
theorem d_Lw_law_29 : decode code 29 = .ok (.if_icmp .gt 1510, 3) := by decide +kernel
theorem d_Lw_law_32 : decode code 32 = .ok (.aload_n 0, 1) := by decide +kernel
theorem d_Lw_law_33 : decode code 33 = .ok (.iload 4, 2) := by decide +kernel
theorem d_Lw_law_35 : decode code 35 = .ok (.iaload, 1) := by decide +kernel
theorem d_Lw_law_36 : decode code 36 = .ok (.bipush 31, 2) := by decide +kernel
theorem d_Lw_law_38 : decode code 38 = .ok (.iand, 1) := by decide +kernel
theorem d_Lw_law_39 : decode code 39 = .ok (.tableswitch 1494 0 22 #[105, 185, 281, 361, 397, 453, 509, 593, 661, 709, 765, 801, 838, 906, 931, 998, 1054, 1150, 1205, 1261, 1357, 1425, 1481], 105) := by decide +kernel
theorem d_Lw_law_144 : decode code 144 = .ok (.aload_n 1, 1) := by decide +kernel
theorem d_Lw_law_145 : decode code 145 = .ok (.aload_n 0, 1) := by decide +kernel
theorem d_Lw_law_146 : decode code 146 = .ok (.iload 4, 2) := by decide +kernel
theorem d_Lw_law_148 : decode code 148 = .ok (.iconst 1, 1) := by decide +kernel
theorem d_Lw_law_149 : decode code 149 = .ok (.iadd, 1) := by decide +kernel
theorem d_Lw_law_150 : decode code 150 = .ok (.iaload, 1) := by decide +kernel
theorem d_Lw_law_151 : decode code 151 = .ok (.aload_n 0, 1) := by decide +kernel
theorem d_Lw_law_152 : decode code 152 = .ok (.iload 4, 2) := by decide +kernel
theorem d_Lw_law_154 : decode code 154 = .ok (.iconst 2, 1) := by decide +kernel
theorem d_Lw_law_155 : decode code 155 = .ok (.iadd, 1) := by decide +kernel
theorem d_Lw_law_156 : decode code 156 = .ok (.iaload, 1) := by decide +kernel
theorem d_Lw_law_157 : decode code 157 = .ok (.aload_n 0, 1) := by decide +kernel
theorem d_Lw_law_158 : decode code 158 = .ok (.iload 4, 2) := by decide +kernel
theorem d_Lw_law_160 : decode code 160 = .ok (.iconst 3, 1) := by decide +kernel
theorem d_Lw_law_161 : decode code 161 = .ok (.iadd, 1) := by decide +kernel
theorem d_Lw_law_162 : decode code 162 = .ok (.iaload, 1) := by decide +kernel
theorem d_Lw_law_163 : decode code 163 = .ok (.aload_n 3, 1) := by decide +kernel
theorem d_Lw_law_164 : decode code 164 = .ok (.invokestatic 90, 3) := by decide +kernel
theorem d_Lw_law_167 : decode code 167 = .ok (.istore 5, 2) := by decide +kernel
theorem d_Lw_law_169 : decode code 169 = .ok (.aload_n 2, 1) := by decide +kernel
theorem d_Lw_law_170 : decode code 170 = .ok (.aload_n 0, 1) := by decide +kernel
theorem d_Lw_law_171 : decode code 171 = .ok (.iload 4, 2) := by decide +kernel
theorem d_Lw_law_173 : decode code 173 = .ok (.iconst 1, 1) := by decide +kernel
theorem d_Lw_law_174 : decode code 174 = .ok (.iadd, 1) := by decide +kernel
theorem d_Lw_law_175 : decode code 175 = .ok (.iaload, 1) := by decide +kernel
theorem d_Lw_law_176 : decode code 176 = .ok (.aload_n 0, 1) := by decide +kernel
theorem d_Lw_law_177 : decode code 177 = .ok (.iload 4, 2) := by decide +kernel
theorem d_Lw_law_179 : decode code 179 = .ok (.iconst 2, 1) := by decide +kernel
theorem d_Lw_law_180 : decode code 180 = .ok (.iadd, 1) := by decide +kernel
theorem d_Lw_law_181 : decode code 181 = .ok (.iaload, 1) := by decide +kernel
theorem d_Lw_law_182 : decode code 182 = .ok (.aload_n 0, 1) := by decide +kernel
theorem d_Lw_law_183 : decode code 183 = .ok (.iload 4, 2) := by decide +kernel
theorem d_Lw_law_185 : decode code 185 = .ok (.iconst 3, 1) := by decide +kernel
theorem d_Lw_law_186 : decode code 186 = .ok (.iadd, 1) := by decide +kernel
theorem d_Lw_law_187 : decode code 187 = .ok (.iaload, 1) := by decide +kernel
theorem d_Lw_law_188 : decode code 188 = .ok (.invokevirtual 95, 3) := by decide +kernel
theorem d_Lw_law_191 : decode code 191 = .ok (.istore 6, 2) := by decide +kernel
theorem d_Lw_law_193 : decode code 193 = .ok (.aload_n 2, 1) := by decide +kernel
theorem d_Lw_law_194 : decode code 194 = .ok (.invokevirtual 96, 3) := by decide +kernel
theorem d_Lw_law_197 : decode code 197 = .ok (.iload 5, 2) := by decide +kernel
theorem d_Lw_law_199 : decode code 199 = .ok (.if_icmp .eq 5, 3) := by decide +kernel
theorem d_Lw_law_202 : decode code 202 = .ok (.iconst 0, 1) := by decide +kernel
theorem d_Lw_law_203 : decode code 203 = .ok (.ireturn, 1) := by decide +kernel
theorem d_Lw_law_204 : decode code 204 = .ok (.iload 5, 2) := by decide +kernel
theorem d_Lw_law_206 : decode code 206 = .ok (.ifCond .ne 15, 3) := by decide +kernel
theorem d_Lw_law_209 : decode code 209 = .ok (.aload_n 3, 1) := by decide +kernel
theorem d_Lw_law_210 : decode code 210 = .ok (.iconst 0, 1) := by decide +kernel
theorem d_Lw_law_211 : decode code 211 = .ok (.laload, 1) := by decide +kernel
theorem d_Lw_law_212 : decode code 212 = .ok (.iload 6, 2) := by decide +kernel
theorem d_Lw_law_214 : decode code 214 = .ok (.i2l, 1) := by decide +kernel
theorem d_Lw_law_215 : decode code 215 = .ok (.lcmp, 1) := by decide +kernel
theorem d_Lw_law_216 : decode code 216 = .ok (.ifCond .eq 5, 3) := by decide +kernel
theorem d_Lw_law_219 : decode code 219 = .ok (.iconst 0, 1) := by decide +kernel
theorem d_Lw_law_220 : decode code 220 = .ok (.ireturn, 1) := by decide +kernel
theorem d_Lw_law_221 : decode code 221 = .ok (.goto 1312, 3) := by decide +kernel
theorem d_Lw_law_224 : decode code 224 = .ok (.aload_n 1, 1) := by decide +kernel
theorem d_Lw_law_225 : decode code 225 = .ok (.aload_n 0, 1) := by decide +kernel
theorem d_Lw_law_226 : decode code 226 = .ok (.iload 4, 2) := by decide +kernel
theorem d_Lw_law_228 : decode code 228 = .ok (.iconst 1, 1) := by decide +kernel
theorem d_Lw_law_229 : decode code 229 = .ok (.iadd, 1) := by decide +kernel
theorem d_Lw_law_230 : decode code 230 = .ok (.iaload, 1) := by decide +kernel
theorem d_Lw_law_231 : decode code 231 = .ok (.aload_n 0, 1) := by decide +kernel
theorem d_Lw_law_232 : decode code 232 = .ok (.iload 4, 2) := by decide +kernel
theorem d_Lw_law_234 : decode code 234 = .ok (.iconst 2, 1) := by decide +kernel
theorem d_Lw_law_235 : decode code 235 = .ok (.iadd, 1) := by decide +kernel
theorem d_Lw_law_236 : decode code 236 = .ok (.iaload, 1) := by decide +kernel
theorem d_Lw_law_237 : decode code 237 = .ok (.aload_n 0, 1) := by decide +kernel
theorem d_Lw_law_238 : decode code 238 = .ok (.iload 4, 2) := by decide +kernel
theorem d_Lw_law_240 : decode code 240 = .ok (.iconst 3, 1) := by decide +kernel
theorem d_Lw_law_241 : decode code 241 = .ok (.iadd, 1) := by decide +kernel
theorem d_Lw_law_242 : decode code 242 = .ok (.iaload, 1) := by decide +kernel
theorem d_Lw_law_243 : decode code 243 = .ok (.ifCond .eq 7, 3) := by decide +kernel
theorem d_Lw_law_246 : decode code 246 = .ok (.iconst 1, 1) := by decide +kernel
theorem d_Lw_law_247 : decode code 247 = .ok (.goto 4, 3) := by decide +kernel
theorem d_Lw_law_250 : decode code 250 = .ok (.iconst 0, 1) := by decide +kernel
theorem d_Lw_law_251 : decode code 251 = .ok (.aload_n 3, 1) := by decide +kernel
theorem d_Lw_law_252 : decode code 252 = .ok (.invokestatic 100, 3) := by decide +kernel
theorem d_Lw_law_255 : decode code 255 = .ok (.istore 5, 2) := by decide +kernel
theorem d_Lw_law_257 : decode code 257 = .ok (.aload_n 2, 1) := by decide +kernel
theorem d_Lw_law_258 : decode code 258 = .ok (.aload_n 0, 1) := by decide +kernel
theorem d_Lw_law_259 : decode code 259 = .ok (.iload 4, 2) := by decide +kernel
theorem d_Lw_law_261 : decode code 261 = .ok (.iconst 1, 1) := by decide +kernel
theorem d_Lw_law_262 : decode code 262 = .ok (.iadd, 1) := by decide +kernel
theorem d_Lw_law_263 : decode code 263 = .ok (.iaload, 1) := by decide +kernel
theorem d_Lw_law_264 : decode code 264 = .ok (.aload_n 0, 1) := by decide +kernel
theorem d_Lw_law_265 : decode code 265 = .ok (.iload 4, 2) := by decide +kernel
theorem d_Lw_law_267 : decode code 267 = .ok (.iconst 2, 1) := by decide +kernel
theorem d_Lw_law_268 : decode code 268 = .ok (.iadd, 1) := by decide +kernel
theorem d_Lw_law_269 : decode code 269 = .ok (.iaload, 1) := by decide +kernel
theorem d_Lw_law_270 : decode code 270 = .ok (.aload_n 0, 1) := by decide +kernel
theorem d_Lw_law_271 : decode code 271 = .ok (.iload 4, 2) := by decide +kernel
theorem d_Lw_law_273 : decode code 273 = .ok (.iconst 3, 1) := by decide +kernel
theorem d_Lw_law_274 : decode code 274 = .ok (.iadd, 1) := by decide +kernel
theorem d_Lw_law_275 : decode code 275 = .ok (.iaload, 1) := by decide +kernel
theorem d_Lw_law_276 : decode code 276 = .ok (.ifCond .eq 7, 3) := by decide +kernel
theorem d_Lw_law_279 : decode code 279 = .ok (.iconst 1, 1) := by decide +kernel
theorem d_Lw_law_280 : decode code 280 = .ok (.goto 4, 3) := by decide +kernel
theorem d_Lw_law_283 : decode code 283 = .ok (.iconst 0, 1) := by decide +kernel
theorem d_Lw_law_284 : decode code 284 = .ok (.invokevirtual 103, 3) := by decide +kernel
theorem d_Lw_law_287 : decode code 287 = .ok (.istore 6, 2) := by decide +kernel
theorem d_Lw_law_289 : decode code 289 = .ok (.aload_n 2, 1) := by decide +kernel
theorem d_Lw_law_290 : decode code 290 = .ok (.invokevirtual 96, 3) := by decide +kernel
theorem d_Lw_law_293 : decode code 293 = .ok (.iload 5, 2) := by decide +kernel
theorem d_Lw_law_295 : decode code 295 = .ok (.if_icmp .eq 5, 3) := by decide +kernel
theorem d_Lw_law_298 : decode code 298 = .ok (.iconst 0, 1) := by decide +kernel
theorem d_Lw_law_299 : decode code 299 = .ok (.ireturn, 1) := by decide +kernel
theorem d_Lw_law_300 : decode code 300 = .ok (.iload 5, 2) := by decide +kernel
theorem d_Lw_law_302 : decode code 302 = .ok (.ifCond .ne 15, 3) := by decide +kernel
theorem d_Lw_law_305 : decode code 305 = .ok (.aload_n 3, 1) := by decide +kernel
theorem d_Lw_law_306 : decode code 306 = .ok (.iconst 0, 1) := by decide +kernel
theorem d_Lw_law_307 : decode code 307 = .ok (.laload, 1) := by decide +kernel
theorem d_Lw_law_308 : decode code 308 = .ok (.iload 6, 2) := by decide +kernel
theorem d_Lw_law_310 : decode code 310 = .ok (.i2l, 1) := by decide +kernel
theorem d_Lw_law_311 : decode code 311 = .ok (.lcmp, 1) := by decide +kernel
theorem d_Lw_law_312 : decode code 312 = .ok (.ifCond .eq 5, 3) := by decide +kernel
theorem d_Lw_law_315 : decode code 315 = .ok (.iconst 0, 1) := by decide +kernel
theorem d_Lw_law_316 : decode code 316 = .ok (.ireturn, 1) := by decide +kernel
theorem d_Lw_law_317 : decode code 317 = .ok (.goto 1216, 3) := by decide +kernel
theorem d_Lw_law_320 : decode code 320 = .ok (.aload_n 1, 1) := by decide +kernel
theorem d_Lw_law_321 : decode code 321 = .ok (.aload_n 0, 1) := by decide +kernel
theorem d_Lw_law_322 : decode code 322 = .ok (.iload 4, 2) := by decide +kernel
theorem d_Lw_law_324 : decode code 324 = .ok (.iconst 1, 1) := by decide +kernel
theorem d_Lw_law_325 : decode code 325 = .ok (.iadd, 1) := by decide +kernel
theorem d_Lw_law_326 : decode code 326 = .ok (.iaload, 1) := by decide +kernel
theorem d_Lw_law_327 : decode code 327 = .ok (.aload_n 0, 1) := by decide +kernel
