theorem qd_L_law_0 : decode qc_L_law 0 = .ok (.new 7, 3) := by decide +kernel
theorem qd_L_law_3 : decode qc_L_law 3 = .ok (.dup, 1) := by decide +kernel
theorem qd_L_law_4 : decode qc_L_law 4 = .ok (.invokespecial 9, 3) := by decide +kernel
theorem qd_L_law_7 : decode qc_L_law 7 = .ok (.astore_n 1, 1) := by decide +kernel
theorem qd_L_law_8 : decode qc_L_law 8 = .ok (.new 10, 3) := by decide +kernel
theorem qd_L_law_11 : decode qc_L_law 11 = .ok (.dup, 1) := by decide +kernel
theorem qd_L_law_12 : decode qc_L_law 12 = .ok (.invokespecial 12, 3) := by decide +kernel
theorem qd_L_law_15 : decode qc_L_law 15 = .ok (.astore_n 2, 1) := by decide +kernel
theorem qd_L_law_16 : decode qc_L_law 16 = .ok (.iconst 0, 1) := by decide +kernel
theorem qd_L_law_17 : decode qc_L_law 17 = .ok (.istore_n 3, 1) := by decide +kernel
theorem qd_L_law_18 : decode qc_L_law 18 = .ok (.iload_n 3, 1) := by decide +kernel
theorem qd_L_law_19 : decode qc_L_law 19 = .ok (.aload_n 0, 1) := by decide +kernel
theorem qd_L_law_20 : decode qc_L_law 20 = .ok (.arraylength, 1) := by decide +kernel
theorem qd_L_law_21 : decode qc_L_law 21 = .ok (.iconst 4, 1) := by decide +kernel
theorem qd_L_law_22 : decode qc_L_law 22 = .ok (.isub, 1) := by decide +kernel
theorem qd_L_law_23 : decode qc_L_law 23 = .ok (.if_icmp .gt 470, 3) := by decide +kernel
theorem qd_L_law_26 : decode qc_L_law 26 = .ok (.aload_n 0, 1) := by decide +kernel
theorem qd_L_law_27 : decode qc_L_law 27 = .ok (.iload_n 3, 1) := by decide +kernel
theorem qd_L_law_28 : decode qc_L_law 28 = .ok (.iaload, 1) := by decide +kernel
theorem qd_L_law_29 : decode qc_L_law 29 = .ok (.bipush 15, 2) := by decide +kernel
theorem qd_L_law_31 : decode qc_L_law 31 = .ok (.iand, 1) := by decide +kernel
theorem qd_L_law_32 : decode qc_L_law 32 = .ok (.tableswitch 455 0 12 #[68, 101, 112, 145, 168, 191, 214, 247, 290, 323, 356, 399, 432], 68) := by decide +kernel
theorem qd_L_law_100 : decode qc_L_law 100 = .ok (.aload_n 1, 1) := by decide +kernel
theorem qd_L_law_101 : decode qc_L_law 101 = .ok (.aload_n 0, 1) := by decide +kernel
theorem qd_L_law_102 : decode qc_L_law 102 = .ok (.iload_n 3, 1) := by decide +kernel
theorem qd_L_law_103 : decode qc_L_law 103 = .ok (.iconst 1, 1) := by decide +kernel
theorem qd_L_law_104 : decode qc_L_law 104 = .ok (.iadd, 1) := by decide +kernel
theorem qd_L_law_105 : decode qc_L_law 105 = .ok (.iaload, 1) := by decide +kernel
theorem qd_L_law_106 : decode qc_L_law 106 = .ok (.aload_n 0, 1) := by decide +kernel
theorem qd_L_law_107 : decode qc_L_law 107 = .ok (.iload_n 3, 1) := by decide +kernel
theorem qd_L_law_108 : decode qc_L_law 108 = .ok (.iconst 2, 1) := by decide +kernel
theorem qd_L_law_109 : decode qc_L_law 109 = .ok (.iadd, 1) := by decide +kernel
theorem qd_L_law_110 : decode qc_L_law 110 = .ok (.iaload, 1) := by decide +kernel
theorem qd_L_law_111 : decode qc_L_law 111 = .ok (.invokevirtual 13, 3) := by decide +kernel
theorem qd_L_law_114 : decode qc_L_law 114 = .ok (.aload_n 2, 1) := by decide +kernel
theorem qd_L_law_115 : decode qc_L_law 115 = .ok (.aload_n 0, 1) := by decide +kernel
theorem qd_L_law_116 : decode qc_L_law 116 = .ok (.iload_n 3, 1) := by decide +kernel
theorem qd_L_law_117 : decode qc_L_law 117 = .ok (.iconst 1, 1) := by decide +kernel
theorem qd_L_law_118 : decode qc_L_law 118 = .ok (.iadd, 1) := by decide +kernel
theorem qd_L_law_119 : decode qc_L_law 119 = .ok (.iaload, 1) := by decide +kernel
theorem qd_L_law_120 : decode qc_L_law 120 = .ok (.aload_n 0, 1) := by decide +kernel
theorem qd_L_law_121 : decode qc_L_law 121 = .ok (.iload_n 3, 1) := by decide +kernel
theorem qd_L_law_122 : decode qc_L_law 122 = .ok (.iconst 2, 1) := by decide +kernel
theorem qd_L_law_123 : decode qc_L_law 123 = .ok (.iadd, 1) := by decide +kernel
theorem qd_L_law_124 : decode qc_L_law 124 = .ok (.iaload, 1) := by decide +kernel
theorem qd_L_law_125 : decode qc_L_law 125 = .ok (.invokevirtual 17, 3) := by decide +kernel
theorem qd_L_law_128 : decode qc_L_law 128 = .ok (.if_icmp .eq 359, 3) := by decide +kernel
theorem qd_L_law_131 : decode qc_L_law 131 = .ok (.iconst 0, 1) := by decide +kernel
theorem qd_L_law_132 : decode qc_L_law 132 = .ok (.ireturn, 1) := by decide +kernel
theorem qd_L_law_133 : decode qc_L_law 133 = .ok (.aload_n 1, 1) := by decide +kernel
theorem qd_L_law_134 : decode qc_L_law 134 = .ok (.invokevirtual 18, 3) := by decide +kernel
theorem qd_L_law_137 : decode qc_L_law 137 = .ok (.aload_n 2, 1) := by decide +kernel
theorem qd_L_law_138 : decode qc_L_law 138 = .ok (.invokevirtual 21, 3) := by decide +kernel
theorem qd_L_law_141 : decode qc_L_law 141 = .ok (.goto 346, 3) := by decide +kernel
theorem qd_L_law_144 : decode qc_L_law 144 = .ok (.aload_n 1, 1) := by decide +kernel
theorem qd_L_law_145 : decode qc_L_law 145 = .ok (.aload_n 0, 1) := by decide +kernel
theorem qd_L_law_146 : decode qc_L_law 146 = .ok (.iload_n 3, 1) := by decide +kernel
theorem qd_L_law_147 : decode qc_L_law 147 = .ok (.iconst 1, 1) := by decide +kernel
theorem qd_L_law_148 : decode qc_L_law 148 = .ok (.iadd, 1) := by decide +kernel
theorem qd_L_law_149 : decode qc_L_law 149 = .ok (.iaload, 1) := by decide +kernel
theorem qd_L_law_150 : decode qc_L_law 150 = .ok (.aload_n 0, 1) := by decide +kernel
theorem qd_L_law_151 : decode qc_L_law 151 = .ok (.iload_n 3, 1) := by decide +kernel
theorem qd_L_law_152 : decode qc_L_law 152 = .ok (.iconst 2, 1) := by decide +kernel
theorem qd_L_law_153 : decode qc_L_law 153 = .ok (.iadd, 1) := by decide +kernel
theorem qd_L_law_154 : decode qc_L_law 154 = .ok (.iaload, 1) := by decide +kernel
theorem qd_L_law_155 : decode qc_L_law 155 = .ok (.invokevirtual 22, 3) := by decide +kernel
theorem qd_L_law_158 : decode qc_L_law 158 = .ok (.aload_n 2, 1) := by decide +kernel
theorem qd_L_law_159 : decode qc_L_law 159 = .ok (.aload_n 0, 1) := by decide +kernel
theorem qd_L_law_160 : decode qc_L_law 160 = .ok (.iload_n 3, 1) := by decide +kernel
theorem qd_L_law_161 : decode qc_L_law 161 = .ok (.iconst 1, 1) := by decide +kernel
theorem qd_L_law_162 : decode qc_L_law 162 = .ok (.iadd, 1) := by decide +kernel
theorem qd_L_law_163 : decode qc_L_law 163 = .ok (.iaload, 1) := by decide +kernel
theorem qd_L_law_164 : decode qc_L_law 164 = .ok (.aload_n 0, 1) := by decide +kernel
theorem qd_L_law_165 : decode qc_L_law 165 = .ok (.iload_n 3, 1) := by decide +kernel
theorem qd_L_law_166 : decode qc_L_law 166 = .ok (.iconst 2, 1) := by decide +kernel
theorem qd_L_law_167 : decode qc_L_law 167 = .ok (.iadd, 1) := by decide +kernel
theorem qd_L_law_168 : decode qc_L_law 168 = .ok (.iaload, 1) := by decide +kernel
theorem qd_L_law_169 : decode qc_L_law 169 = .ok (.invokevirtual 26, 3) := by decide +kernel
theorem qd_L_law_172 : decode qc_L_law 172 = .ok (.if_icmp .eq 315, 3) := by decide +kernel
theorem qd_L_law_175 : decode qc_L_law 175 = .ok (.iconst 0, 1) := by decide +kernel
theorem qd_L_law_176 : decode qc_L_law 176 = .ok (.ireturn, 1) := by decide +kernel
theorem qd_L_law_177 : decode qc_L_law 177 = .ok (.aload_n 1, 1) := by decide +kernel
theorem qd_L_law_178 : decode qc_L_law 178 = .ok (.aload_n 0, 1) := by decide +kernel
theorem qd_L_law_179 : decode qc_L_law 179 = .ok (.iload_n 3, 1) := by decide +kernel
theorem qd_L_law_180 : decode qc_L_law 180 = .ok (.iconst 1, 1) := by decide +kernel
theorem qd_L_law_181 : decode qc_L_law 181 = .ok (.iadd, 1) := by decide +kernel
theorem qd_L_law_182 : decode qc_L_law 182 = .ok (.iaload, 1) := by decide +kernel
theorem qd_L_law_183 : decode qc_L_law 183 = .ok (.invokevirtual 27, 3) := by decide +kernel
theorem qd_L_law_186 : decode qc_L_law 186 = .ok (.aload_n 2, 1) := by decide +kernel
theorem qd_L_law_187 : decode qc_L_law 187 = .ok (.aload_n 0, 1) := by decide +kernel
theorem qd_L_law_188 : decode qc_L_law 188 = .ok (.iload_n 3, 1) := by decide +kernel
theorem qd_L_law_189 : decode qc_L_law 189 = .ok (.iconst 1, 1) := by decide +kernel
theorem qd_L_law_190 : decode qc_L_law 190 = .ok (.iadd, 1) := by decide +kernel
theorem qd_L_law_191 : decode qc_L_law 191 = .ok (.iaload, 1) := by decide +kernel
theorem qd_L_law_192 : decode qc_L_law 192 = .ok (.invokevirtual 31, 3) := by decide +kernel
theorem qd_L_law_195 : decode qc_L_law 195 = .ok (.if_icmp .eq 292, 3) := by decide +kernel
theorem qd_L_law_198 : decode qc_L_law 198 = .ok (.iconst 0, 1) := by decide +kernel
theorem qd_L_law_199 : decode qc_L_law 199 = .ok (.ireturn, 1) := by decide +kernel
theorem qd_L_law_200 : decode qc_L_law 200 = .ok (.aload_n 1, 1) := by decide +kernel
theorem qd_L_law_201 : decode qc_L_law 201 = .ok (.aload_n 0, 1) := by decide +kernel
theorem qd_L_law_202 : decode qc_L_law 202 = .ok (.iload_n 3, 1) := by decide +kernel
theorem qd_L_law_203 : decode qc_L_law 203 = .ok (.iconst 1, 1) := by decide +kernel
theorem qd_L_law_204 : decode qc_L_law 204 = .ok (.iadd, 1) := by decide +kernel
theorem qd_L_law_205 : decode qc_L_law 205 = .ok (.iaload, 1) := by decide +kernel
theorem qd_L_law_206 : decode qc_L_law 206 = .ok (.invokevirtual 32, 3) := by decide +kernel
theorem qd_L_law_209 : decode qc_L_law 209 = .ok (.aload_n 2, 1) := by decide +kernel
theorem qd_L_law_210 : decode qc_L_law 210 = .ok (.aload_n 0, 1) := by decide +kernel
theorem qd_L_law_211 : decode qc_L_law 211 = .ok (.iload_n 3, 1) := by decide +kernel
theorem qd_L_law_212 : decode qc_L_law 212 = .ok (.iconst 1, 1) := by decide +kernel
theorem qd_L_law_213 : decode qc_L_law 213 = .ok (.iadd, 1) := by decide +kernel
theorem qd_L_law_214 : decode qc_L_law 214 = .ok (.iaload, 1) := by decide +kernel
theorem qd_L_law_215 : decode qc_L_law 215 = .ok (.invokevirtual 35, 3) := by decide +kernel
theorem qd_L_law_218 : decode qc_L_law 218 = .ok (.if_icmp .eq 269, 3) := by decide +kernel
theorem qd_L_law_221 : decode qc_L_law 221 = .ok (.iconst 0, 1) := by decide +kernel
theorem qd_L_law_222 : decode qc_L_law 222 = .ok (.ireturn, 1) := by decide +kernel
theorem qd_L_law_223 : decode qc_L_law 223 = .ok (.aload_n 1, 1) := by decide +kernel
theorem qd_L_law_224 : decode qc_L_law 224 = .ok (.aload_n 0, 1) := by decide +kernel
theorem qd_L_law_225 : decode qc_L_law 225 = .ok (.iload_n 3, 1) := by decide +kernel
theorem qd_L_law_226 : decode qc_L_law 226 = .ok (.iconst 1, 1) := by decide +kernel
theorem qd_L_law_227 : decode qc_L_law 227 = .ok (.iadd, 1) := by decide +kernel
theorem qd_L_law_228 : decode qc_L_law 228 = .ok (.iaload, 1) := by decide +kernel
theorem qd_L_law_229 : decode qc_L_law 229 = .ok (.invokevirtual 36, 3) := by decide +kernel
theorem qd_L_law_232 : decode qc_L_law 232 = .ok (.aload_n 2, 1) := by decide +kernel
theorem qd_L_law_233 : decode qc_L_law 233 = .ok (.aload_n 0, 1) := by decide +kernel
theorem qd_L_law_234 : decode qc_L_law 234 = .ok (.iload_n 3, 1) := by decide +kernel
theorem qd_L_law_235 : decode qc_L_law 235 = .ok (.iconst 1, 1) := by decide +kernel
theorem qd_L_law_236 : decode qc_L_law 236 = .ok (.iadd, 1) := by decide +kernel
theorem qd_L_law_237 : decode qc_L_law 237 = .ok (.iaload, 1) := by decide +kernel
theorem qd_L_law_238 : decode qc_L_law 238 = .ok (.invokevirtual 39, 3) := by decide +kernel
theorem qd_L_law_241 : decode qc_L_law 241 = .ok (.if_icmp .eq 246, 3) := by decide +kernel
theorem qd_L_law_244 : decode qc_L_law 244 = .ok (.iconst 0, 1) := by decide +kernel
theorem qd_L_law_245 : decode qc_L_law 245 = .ok (.ireturn, 1) := by decide +kernel
theorem qd_L_law_246 : decode qc_L_law 246 = .ok (.aload_n 1, 1) := by decide +kernel
theorem qd_L_law_247 : decode qc_L_law 247 = .ok (.aload_n 0, 1) := by decide +kernel
theorem qd_L_law_248 : decode qc_L_law 248 = .ok (.iload_n 3, 1) := by decide +kernel
theorem qd_L_law_249 : decode qc_L_law 249 = .ok (.iconst 1, 1) := by decide +kernel
theorem qd_L_law_250 : decode qc_L_law 250 = .ok (.iadd, 1) := by decide +kernel
theorem qd_L_law_251 : decode qc_L_law 251 = .ok (.iaload, 1) := by decide +kernel
theorem qd_L_law_252 : decode qc_L_law 252 = .ok (.aload_n 0, 1) := by decide +kernel
theorem qd_L_law_253 : decode qc_L_law 253 = .ok (.iload_n 3, 1) := by decide +kernel
theorem qd_L_law_254 : decode qc_L_law 254 = .ok (.iconst 2, 1) := by decide +kernel
theorem qd_L_law_255 : decode qc_L_law 255 = .ok (.iadd, 1) := by decide +kernel
theorem qd_L_law_256 : decode qc_L_law 256 = .ok (.iaload, 1) := by decide +kernel
theorem qd_L_law_257 : decode qc_L_law 257 = .ok (.invokevirtual 40, 3) := by decide +kernel
theorem qd_L_law_260 : decode qc_L_law 260 = .ok (.aload_n 2, 1) := by decide +kernel
theorem qd_L_law_261 : decode qc_L_law 261 = .ok (.aload_n 0, 1) := by decide +kernel
theorem qd_L_law_262 : decode qc_L_law 262 = .ok (.iload_n 3, 1) := by decide +kernel
theorem qd_L_law_263 : decode qc_L_law 263 = .ok (.iconst 1, 1) := by decide +kernel
theorem qd_L_law_264 : decode qc_L_law 264 = .ok (.iadd, 1) := by decide +kernel
theorem qd_L_law_265 : decode qc_L_law 265 = .ok (.iaload, 1) := by decide +kernel
theorem qd_L_law_266 : decode qc_L_law 266 = .ok (.aload_n 0, 1) := by decide +kernel
theorem qd_L_law_267 : decode qc_L_law 267 = .ok (.iload_n 3, 1) := by decide +kernel
theorem qd_L_law_268 : decode qc_L_law 268 = .ok (.iconst 2, 1) := by decide +kernel
theorem qd_L_law_269 : decode qc_L_law 269 = .ok (.iadd, 1) := by decide +kernel
theorem qd_L_law_270 : decode qc_L_law 270 = .ok (.iaload, 1) := by decide +kernel
theorem qd_L_law_271 : decode qc_L_law 271 = .ok (.invokevirtual 43, 3) := by decide +kernel
theorem qd_L_law_274 : decode qc_L_law 274 = .ok (.if_icmp .eq 213, 3) := by decide +kernel
theorem qd_L_law_277 : decode qc_L_law 277 = .ok (.iconst 0, 1) := by decide +kernel
theorem qd_L_law_278 : decode qc_L_law 278 = .ok (.ireturn, 1) := by decide +kernel
theorem qd_L_law_279 : decode qc_L_law 279 = .ok (.aload_n 1, 1) := by decide +kernel
theorem qd_L_law_280 : decode qc_L_law 280 = .ok (.aload_n 0, 1) := by decide +kernel
theorem qd_L_law_281 : decode qc_L_law 281 = .ok (.iload_n 3, 1) := by decide +kernel
theorem qd_L_law_282 : decode qc_L_law 282 = .ok (.iconst 1, 1) := by decide +kernel
theorem qd_L_law_283 : decode qc_L_law 283 = .ok (.iadd, 1) := by decide +kernel
theorem qd_L_law_284 : decode qc_L_law 284 = .ok (.iaload, 1) := by decide +kernel
theorem qd_L_law_285 : decode qc_L_law 285 = .ok (.aload_n 0, 1) := by decide +kernel
theorem qd_L_law_286 : decode qc_L_law 286 = .ok (.iload_n 3, 1) := by decide +kernel
theorem qd_L_law_287 : decode qc_L_law 287 = .ok (.iconst 2, 1) := by decide +kernel
theorem qd_L_law_288 : decode qc_L_law 288 = .ok (.iadd, 1) := by decide +kernel
theorem qd_L_law_289 : decode qc_L_law 289 = .ok (.iaload, 1) := by decide +kernel
theorem qd_L_law_290 : decode qc_L_law 290 = .ok (.aload_n 0, 1) := by decide +kernel
theorem qd_L_law_291 : decode qc_L_law 291 = .ok (.iload_n 3, 1) := by decide +kernel
theorem qd_L_law_292 : decode qc_L_law 292 = .ok (.iconst 3, 1) := by decide +kernel
theorem qd_L_law_293 : decode qc_L_law 293 = .ok (.iadd, 1) := by decide +kernel
theorem qd_L_law_294 : decode qc_L_law 294 = .ok (.iaload, 1) := by decide +kernel
theorem qd_L_law_295 : decode qc_L_law 295 = .ok (.invokevirtual 44, 3) := by decide +kernel
theorem qd_L_law_298 : decode qc_L_law 298 = .ok (.aload_n 2, 1) := by decide +kernel
theorem qd_L_law_299 : decode qc_L_law 299 = .ok (.aload_n 0, 1) := by decide +kernel
theorem qd_L_law_300 : decode qc_L_law 300 = .ok (.iload_n 3, 1) := by decide +kernel
theorem qd_L_law_301 : decode qc_L_law 301 = .ok (.iconst 1, 1) := by decide +kernel
theorem qd_L_law_302 : decode qc_L_law 302 = .ok (.iadd, 1) := by decide +kernel
theorem qd_L_law_303 : decode qc_L_law 303 = .ok (.iaload, 1) := by decide +kernel
theorem qd_L_law_304 : decode qc_L_law 304 = .ok (.aload_n 0, 1) := by decide +kernel
theorem qd_L_law_305 : decode qc_L_law 305 = .ok (.iload_n 3, 1) := by decide +kernel
theorem qd_L_law_306 : decode qc_L_law 306 = .ok (.iconst 2, 1) := by decide +kernel
theorem qd_L_law_307 : decode qc_L_law 307 = .ok (.iadd, 1) := by decide +kernel
theorem qd_L_law_308 : decode qc_L_law 308 = .ok (.iaload, 1) := by decide +kernel
theorem qd_L_law_309 : decode qc_L_law 309 = .ok (.aload_n 0, 1) := by decide +kernel
theorem qd_L_law_310 : decode qc_L_law 310 = .ok (.iload_n 3, 1) := by decide +kernel
theorem qd_L_law_311 : decode qc_L_law 311 = .ok (.iconst 3, 1) := by decide +kernel
theorem qd_L_law_312 : decode qc_L_law 312 = .ok (.iadd, 1) := by decide +kernel
theorem qd_L_law_313 : decode qc_L_law 313 = .ok (.iaload, 1) := by decide +kernel
theorem qd_L_law_314 : decode qc_L_law 314 = .ok (.invokevirtual 48, 3) := by decide +kernel
theorem qd_L_law_317 : decode qc_L_law 317 = .ok (.if_icmp .eq 170, 3) := by decide +kernel
theorem qd_L_law_320 : decode qc_L_law 320 = .ok (.iconst 0, 1) := by decide +kernel
theorem qd_L_law_321 : decode qc_L_law 321 = .ok (.ireturn, 1) := by decide +kernel
theorem qd_L_law_322 : decode qc_L_law 322 = .ok (.aload_n 1, 1) := by decide +kernel
theorem qd_L_law_323 : decode qc_L_law 323 = .ok (.aload_n 0, 1) := by decide +kernel
theorem qd_L_law_324 : decode qc_L_law 324 = .ok (.iload_n 3, 1) := by decide +kernel
theorem qd_L_law_325 : decode qc_L_law 325 = .ok (.iconst 1, 1) := by decide +kernel
theorem qd_L_law_326 : decode qc_L_law 326 = .ok (.iadd, 1) := by decide +kernel
theorem qd_L_law_327 : decode qc_L_law 327 = .ok (.iaload, 1) := by decide +kernel
theorem qd_L_law_328 : decode qc_L_law 328 = .ok (.aload_n 0, 1) := by decide +kernel
theorem qd_L_law_329 : decode qc_L_law 329 = .ok (.iload_n 3, 1) := by decide +kernel
theorem qd_L_law_330 : decode qc_L_law 330 = .ok (.iconst 2, 1) := by decide +kernel
theorem qd_L_law_331 : decode qc_L_law 331 = .ok (.iadd, 1) := by decide +kernel
theorem qd_L_law_332 : decode qc_L_law 332 = .ok (.iaload, 1) := by decide +kernel
theorem qd_L_law_333 : decode qc_L_law 333 = .ok (.invokevirtual 49, 3) := by decide +kernel
theorem qd_L_law_336 : decode qc_L_law 336 = .ok (.aload_n 2, 1) := by decide +kernel
theorem qd_L_law_337 : decode qc_L_law 337 = .ok (.aload_n 0, 1) := by decide +kernel
theorem qd_L_law_338 : decode qc_L_law 338 = .ok (.iload_n 3, 1) := by decide +kernel
theorem qd_L_law_339 : decode qc_L_law 339 = .ok (.iconst 1, 1) := by decide +kernel
theorem qd_L_law_340 : decode qc_L_law 340 = .ok (.iadd, 1) := by decide +kernel
theorem qd_L_law_341 : decode qc_L_law 341 = .ok (.iaload, 1) := by decide +kernel
theorem qd_L_law_342 : decode qc_L_law 342 = .ok (.aload_n 0, 1) := by decide +kernel
theorem qd_L_law_343 : decode qc_L_law 343 = .ok (.iload_n 3, 1) := by decide +kernel
theorem qd_L_law_344 : decode qc_L_law 344 = .ok (.iconst 2, 1) := by decide +kernel
theorem qd_L_law_345 : decode qc_L_law 345 = .ok (.iadd, 1) := by decide +kernel
theorem qd_L_law_346 : decode qc_L_law 346 = .ok (.iaload, 1) := by decide +kernel
theorem qd_L_law_347 : decode qc_L_law 347 = .ok (.invokevirtual 52, 3) := by decide +kernel
theorem qd_L_law_350 : decode qc_L_law 350 = .ok (.if_icmp .eq 137, 3) := by decide +kernel
theorem qd_L_law_353 : decode qc_L_law 353 = .ok (.iconst 0, 1) := by decide +kernel
theorem qd_L_law_354 : decode qc_L_law 354 = .ok (.ireturn, 1) := by decide +kernel
theorem qd_L_law_355 : decode qc_L_law 355 = .ok (.aload_n 1, 1) := by decide +kernel
theorem qd_L_law_356 : decode qc_L_law 356 = .ok (.aload_n 0, 1) := by decide +kernel
theorem qd_L_law_357 : decode qc_L_law 357 = .ok (.iload_n 3, 1) := by decide +kernel
theorem qd_L_law_358 : decode qc_L_law 358 = .ok (.iconst 1, 1) := by decide +kernel
theorem qd_L_law_359 : decode qc_L_law 359 = .ok (.iadd, 1) := by decide +kernel
theorem qd_L_law_360 : decode qc_L_law 360 = .ok (.iaload, 1) := by decide +kernel
theorem qd_L_law_361 : decode qc_L_law 361 = .ok (.aload_n 0, 1) := by decide +kernel
theorem qd_L_law_362 : decode qc_L_law 362 = .ok (.iload_n 3, 1) := by decide +kernel
theorem qd_L_law_363 : decode qc_L_law 363 = .ok (.iconst 2, 1) := by decide +kernel
theorem qd_L_law_364 : decode qc_L_law 364 = .ok (.iadd, 1) := by decide +kernel
theorem qd_L_law_365 : decode qc_L_law 365 = .ok (.iaload, 1) := by decide +kernel
theorem qd_L_law_366 : decode qc_L_law 366 = .ok (.invokevirtual 53, 3) := by decide +kernel
theorem qd_L_law_369 : decode qc_L_law 369 = .ok (.aload_n 2, 1) := by decide +kernel
theorem qd_L_law_370 : decode qc_L_law 370 = .ok (.aload_n 0, 1) := by decide +kernel
theorem qd_L_law_371 : decode qc_L_law 371 = .ok (.iload_n 3, 1) := by decide +kernel
theorem qd_L_law_372 : decode qc_L_law 372 = .ok (.iconst 1, 1) := by decide +kernel
theorem qd_L_law_373 : decode qc_L_law 373 = .ok (.iadd, 1) := by decide +kernel
theorem qd_L_law_374 : decode qc_L_law 374 = .ok (.iaload, 1) := by decide +kernel
theorem qd_L_law_375 : decode qc_L_law 375 = .ok (.aload_n 0, 1) := by decide +kernel
theorem qd_L_law_376 : decode qc_L_law 376 = .ok (.iload_n 3, 1) := by decide +kernel
theorem qd_L_law_377 : decode qc_L_law 377 = .ok (.iconst 2, 1) := by decide +kernel
theorem qd_L_law_378 : decode qc_L_law 378 = .ok (.iadd, 1) := by decide +kernel
theorem qd_L_law_379 : decode qc_L_law 379 = .ok (.iaload, 1) := by decide +kernel
theorem qd_L_law_380 : decode qc_L_law 380 = .ok (.invokevirtual 56, 3) := by decide +kernel
theorem qd_L_law_383 : decode qc_L_law 383 = .ok (.if_icmp .eq 104, 3) := by decide +kernel
theorem qd_L_law_386 : decode qc_L_law 386 = .ok (.iconst 0, 1) := by decide +kernel
theorem qd_L_law_387 : decode qc_L_law 387 = .ok (.ireturn, 1) := by decide +kernel
theorem qd_L_law_388 : decode qc_L_law 388 = .ok (.aload_n 1, 1) := by decide +kernel
theorem qd_L_law_389 : decode qc_L_law 389 = .ok (.aload_n 0, 1) := by decide +kernel
theorem qd_L_law_390 : decode qc_L_law 390 = .ok (.iload_n 3, 1) := by decide +kernel
theorem qd_L_law_391 : decode qc_L_law 391 = .ok (.iconst 1, 1) := by decide +kernel
theorem qd_L_law_392 : decode qc_L_law 392 = .ok (.iadd, 1) := by decide +kernel
theorem qd_L_law_393 : decode qc_L_law 393 = .ok (.iaload, 1) := by decide +kernel
theorem qd_L_law_394 : decode qc_L_law 394 = .ok (.aload_n 0, 1) := by decide +kernel
theorem qd_L_law_395 : decode qc_L_law 395 = .ok (.iload_n 3, 1) := by decide +kernel
theorem qd_L_law_396 : decode qc_L_law 396 = .ok (.iconst 2, 1) := by decide +kernel
theorem qd_L_law_397 : decode qc_L_law 397 = .ok (.iadd, 1) := by decide +kernel
theorem qd_L_law_398 : decode qc_L_law 398 = .ok (.iaload, 1) := by decide +kernel
theorem qd_L_law_399 : decode qc_L_law 399 = .ok (.aload_n 0, 1) := by decide +kernel
theorem qd_L_law_400 : decode qc_L_law 400 = .ok (.iload_n 3, 1) := by decide +kernel
theorem qd_L_law_401 : decode qc_L_law 401 = .ok (.iconst 3, 1) := by decide +kernel
theorem qd_L_law_402 : decode qc_L_law 402 = .ok (.iadd, 1) := by decide +kernel
theorem qd_L_law_403 : decode qc_L_law 403 = .ok (.iaload, 1) := by decide +kernel
theorem qd_L_law_404 : decode qc_L_law 404 = .ok (.invokevirtual 57, 3) := by decide +kernel
theorem qd_L_law_407 : decode qc_L_law 407 = .ok (.aload_n 2, 1) := by decide +kernel
theorem qd_L_law_408 : decode qc_L_law 408 = .ok (.aload_n 0, 1) := by decide +kernel
theorem qd_L_law_409 : decode qc_L_law 409 = .ok (.iload_n 3, 1) := by decide +kernel
theorem qd_L_law_410 : decode qc_L_law 410 = .ok (.iconst 1, 1) := by decide +kernel
theorem qd_L_law_411 : decode qc_L_law 411 = .ok (.iadd, 1) := by decide +kernel
theorem qd_L_law_412 : decode qc_L_law 412 = .ok (.iaload, 1) := by decide +kernel
theorem qd_L_law_413 : decode qc_L_law 413 = .ok (.aload_n 0, 1) := by decide +kernel
theorem qd_L_law_414 : decode qc_L_law 414 = .ok (.iload_n 3, 1) := by decide +kernel
theorem qd_L_law_415 : decode qc_L_law 415 = .ok (.iconst 2, 1) := by decide +kernel
theorem qd_L_law_416 : decode qc_L_law 416 = .ok (.iadd, 1) := by decide +kernel
theorem qd_L_law_417 : decode qc_L_law 417 = .ok (.iaload, 1) := by decide +kernel
theorem qd_L_law_418 : decode qc_L_law 418 = .ok (.aload_n 0, 1) := by decide +kernel
theorem qd_L_law_419 : decode qc_L_law 419 = .ok (.iload_n 3, 1) := by decide +kernel
theorem qd_L_law_420 : decode qc_L_law 420 = .ok (.iconst 3, 1) := by decide +kernel
theorem qd_L_law_421 : decode qc_L_law 421 = .ok (.iadd, 1) := by decide +kernel
theorem qd_L_law_422 : decode qc_L_law 422 = .ok (.iaload, 1) := by decide +kernel
theorem qd_L_law_423 : decode qc_L_law 423 = .ok (.invokevirtual 60, 3) := by decide +kernel
theorem qd_L_law_426 : decode qc_L_law 426 = .ok (.if_icmp .eq 61, 3) := by decide +kernel
theorem qd_L_law_429 : decode qc_L_law 429 = .ok (.iconst 0, 1) := by decide +kernel
theorem qd_L_law_430 : decode qc_L_law 430 = .ok (.ireturn, 1) := by decide +kernel
theorem qd_L_law_431 : decode qc_L_law 431 = .ok (.aload_n 1, 1) := by decide +kernel
theorem qd_L_law_432 : decode qc_L_law 432 = .ok (.aload_n 0, 1) := by decide +kernel
theorem qd_L_law_433 : decode qc_L_law 433 = .ok (.iload_n 3, 1) := by decide +kernel
theorem qd_L_law_434 : decode qc_L_law 434 = .ok (.iconst 1, 1) := by decide +kernel
theorem qd_L_law_435 : decode qc_L_law 435 = .ok (.iadd, 1) := by decide +kernel
theorem qd_L_law_436 : decode qc_L_law 436 = .ok (.iaload, 1) := by decide +kernel
theorem qd_L_law_437 : decode qc_L_law 437 = .ok (.aload_n 0, 1) := by decide +kernel
theorem qd_L_law_438 : decode qc_L_law 438 = .ok (.iload_n 3, 1) := by decide +kernel
theorem qd_L_law_439 : decode qc_L_law 439 = .ok (.iconst 2, 1) := by decide +kernel
theorem qd_L_law_440 : decode qc_L_law 440 = .ok (.iadd, 1) := by decide +kernel
theorem qd_L_law_441 : decode qc_L_law 441 = .ok (.iaload, 1) := by decide +kernel
theorem qd_L_law_442 : decode qc_L_law 442 = .ok (.invokevirtual 61, 3) := by decide +kernel
theorem qd_L_law_445 : decode qc_L_law 445 = .ok (.aload_n 2, 1) := by decide +kernel
theorem qd_L_law_446 : decode qc_L_law 446 = .ok (.aload_n 0, 1) := by decide +kernel
theorem qd_L_law_447 : decode qc_L_law 447 = .ok (.iload_n 3, 1) := by decide +kernel
theorem qd_L_law_448 : decode qc_L_law 448 = .ok (.iconst 1, 1) := by decide +kernel
theorem qd_L_law_449 : decode qc_L_law 449 = .ok (.iadd, 1) := by decide +kernel
theorem qd_L_law_450 : decode qc_L_law 450 = .ok (.iaload, 1) := by decide +kernel
theorem qd_L_law_451 : decode qc_L_law 451 = .ok (.aload_n 0, 1) := by decide +kernel
theorem qd_L_law_452 : decode qc_L_law 452 = .ok (.iload_n 3, 1) := by decide +kernel
theorem qd_L_law_453 : decode qc_L_law 453 = .ok (.iconst 2, 1) := by decide +kernel
theorem qd_L_law_454 : decode qc_L_law 454 = .ok (.iadd, 1) := by decide +kernel
theorem qd_L_law_455 : decode qc_L_law 455 = .ok (.iaload, 1) := by decide +kernel
theorem qd_L_law_456 : decode qc_L_law 456 = .ok (.invokevirtual 64, 3) := by decide +kernel
theorem qd_L_law_459 : decode qc_L_law 459 = .ok (.if_icmp .eq 28, 3) := by decide +kernel
theorem qd_L_law_462 : decode qc_L_law 462 = .ok (.iconst 0, 1) := by decide +kernel
theorem qd_L_law_463 : decode qc_L_law 463 = .ok (.ireturn, 1) := by decide +kernel
theorem qd_L_law_464 : decode qc_L_law 464 = .ok (.aload_n 1, 1) := by decide +kernel
theorem qd_L_law_465 : decode qc_L_law 465 = .ok (.aload_n 0, 1) := by decide +kernel
theorem qd_L_law_466 : decode qc_L_law 466 = .ok (.iload_n 3, 1) := by decide +kernel
theorem qd_L_law_467 : decode qc_L_law 467 = .ok (.iconst 1, 1) := by decide +kernel
theorem qd_L_law_468 : decode qc_L_law 468 = .ok (.iadd, 1) := by decide +kernel
theorem qd_L_law_469 : decode qc_L_law 469 = .ok (.iaload, 1) := by decide +kernel
theorem qd_L_law_470 : decode qc_L_law 470 = .ok (.invokevirtual 65, 3) := by decide +kernel
theorem qd_L_law_473 : decode qc_L_law 473 = .ok (.aload_n 2, 1) := by decide +kernel
theorem qd_L_law_474 : decode qc_L_law 474 = .ok (.aload_n 0, 1) := by decide +kernel
theorem qd_L_law_475 : decode qc_L_law 475 = .ok (.iload_n 3, 1) := by decide +kernel
theorem qd_L_law_476 : decode qc_L_law 476 = .ok (.iconst 1, 1) := by decide +kernel
theorem qd_L_law_477 : decode qc_L_law 477 = .ok (.iadd, 1) := by decide +kernel
theorem qd_L_law_478 : decode qc_L_law 478 = .ok (.iaload, 1) := by decide +kernel
theorem qd_L_law_479 : decode qc_L_law 479 = .ok (.invokevirtual 68, 3) := by decide +kernel
theorem qd_L_law_482 : decode qc_L_law 482 = .ok (.if_icmp .eq 5, 3) := by decide +kernel
theorem qd_L_law_485 : decode qc_L_law 485 = .ok (.iconst 0, 1) := by decide +kernel
theorem qd_L_law_486 : decode qc_L_law 486 = .ok (.ireturn, 1) := by decide +kernel
theorem qd_L_law_487 : decode qc_L_law 487 = .ok (.iinc 3 4, 3) := by decide +kernel
theorem qd_L_law_490 : decode qc_L_law 490 = .ok (.goto (-472), 3) := by decide +kernel
theorem qd_L_law_493 : decode qc_L_law 493 = .ok (.iconst 1, 1) := by decide +kernel
theorem qd_L_law_494 : decode qc_L_law 494 = .ok (.ireturn, 1) := by decide +kernel
