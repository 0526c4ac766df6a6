theorem d_L_cell_0 : decode method_2_code 0 = .ok (.iload_n 1, 1) := by decide +kernel
theorem d_L_cell_1 : decode method_2_code 1 = .ok (.aload_n 0, 1) := by decide +kernel
theorem d_L_cell_2 : decode method_2_code 2 = .ok (.arraylength, 1) := by decide +kernel
theorem d_L_cell_3 : decode method_2_code 3 = .ok (.if_icmp .ge 9, 3) := by decide +kernel
theorem d_L_cell_6 : decode method_2_code 6 = .ok (.aload_n 0, 1) := by decide +kernel
theorem d_L_cell_7 : decode method_2_code 7 = .ok (.iload_n 1, 1) := by decide +kernel
theorem d_L_cell_8 : decode method_2_code 8 = .ok (.iaload, 1) := by decide +kernel
theorem d_L_cell_9 : decode method_2_code 9 = .ok (.goto 4, 3) := by decide +kernel
theorem d_L_cell_12 : decode method_2_code 12 = .ok (.iconst 0, 1) := by decide +kernel
theorem d_L_cell_13 : decode method_2_code 13 = .ok (.ireturn, 1) := by decide +kernel
theorem d_L_law_0 : decode code 0 = .ok (.new 7, 3) := by decide +kernel
theorem d_L_law_3 : decode code 3 = .ok (.dup, 1) := by decide +kernel
theorem d_L_law_4 : decode code 4 = .ok (.aload_n 0, 1) := by decide +kernel
theorem d_L_law_5 : decode code 5 = .ok (.iconst 0, 1) := by decide +kernel
theorem d_L_law_6 : decode code 6 = .ok (.invokestatic 9, 3) := by decide +kernel
theorem d_L_law_9 : decode code 9 = .ok (.invokespecial 15, 3) := by decide +kernel
theorem d_L_law_12 : decode code 12 = .ok (.astore_n 1, 1) := by decide +kernel
theorem d_L_law_13 : decode code 13 = .ok (.new 18, 3) := by decide +kernel
theorem d_L_law_16 : decode code 16 = .ok (.dup, 1) := by decide +kernel
theorem d_L_law_17 : decode code 17 = .ok (.aload_n 0, 1) := by decide +kernel
theorem d_L_law_18 : decode code 18 = .ok (.iconst 0, 1) := by decide +kernel
theorem d_L_law_19 : decode code 19 = .ok (.invokestatic 9, 3) := by decide +kernel
theorem d_L_law_22 : decode code 22 = .ok (.invokespecial 20, 3) := by decide +kernel
theorem d_L_law_25 : decode code 25 = .ok (.astore_n 2, 1) := by decide +kernel
theorem d_L_law_26 : decode code 26 = .ok (.iconst 1, 1) := by decide +kernel
theorem d_L_law_27 : decode code 27 = .ok (.istore_n 3, 1) := by decide +kernel
theorem d_L_law_28 : decode code 28 = .ok (.iload_n 3, 1) := by decide +kernel
theorem d_L_law_29 : decode code 29 = .ok (.aload_n 0, 1) := by decide +kernel
theorem d_L_law_30 : decode code 30 = .ok (.arraylength, 1) := by decide +kernel
theorem d_L_law_31 : decode code 31 = .ok (.bipush 6, 2) := by decide +kernel
theorem d_L_law_33 : decode code 33 = .ok (.isub, 1) := by decide +kernel
theorem d_L_law_34 : decode code 34 = .ok (.if_icmp .gt 496, 3) := by decide +kernel
theorem d_L_law_37 : decode code 37 = .ok (.aload_n 0, 1) := by decide +kernel
theorem d_L_law_38 : decode code 38 = .ok (.iload_n 3, 1) := by decide +kernel
theorem d_L_law_39 : decode code 39 = .ok (.iaload, 1) := by decide +kernel
theorem d_L_law_40 : decode code 40 = .ok (.bipush 15, 2) := by decide +kernel
theorem d_L_law_42 : decode code 42 = .ok (.iand, 1) := by decide +kernel
theorem d_L_law_43 : decode code 43 = .ok (.tableswitch 481 0 12 #[65, 108, 141, 184, 217, 240, 319, 342, 365, 388, 412, 445, 458], 65) := by decide +kernel
theorem d_L_law_108 : decode code 108 = .ok (.aload_n 1, 1) := by decide +kernel
theorem d_L_law_109 : decode code 109 = .ok (.aload_n 0, 1) := by decide +kernel
theorem d_L_law_110 : decode code 110 = .ok (.iload_n 3, 1) := by decide +kernel
theorem d_L_law_111 : decode code 111 = .ok (.iconst 1, 1) := by decide +kernel
theorem d_L_law_112 : decode code 112 = .ok (.iadd, 1) := by decide +kernel
theorem d_L_law_113 : decode code 113 = .ok (.iaload, 1) := by decide +kernel
theorem d_L_law_114 : decode code 114 = .ok (.aload_n 0, 1) := by decide +kernel
theorem d_L_law_115 : decode code 115 = .ok (.iload_n 3, 1) := by decide +kernel
theorem d_L_law_116 : decode code 116 = .ok (.iconst 2, 1) := by decide +kernel
theorem d_L_law_117 : decode code 117 = .ok (.iadd, 1) := by decide +kernel
theorem d_L_law_118 : decode code 118 = .ok (.iaload, 1) := by decide +kernel
theorem d_L_law_119 : decode code 119 = .ok (.aload_n 0, 1) := by decide +kernel
theorem d_L_law_120 : decode code 120 = .ok (.iload_n 3, 1) := by decide +kernel
theorem d_L_law_121 : decode code 121 = .ok (.iconst 3, 1) := by decide +kernel
theorem d_L_law_122 : decode code 122 = .ok (.iadd, 1) := by decide +kernel
theorem d_L_law_123 : decode code 123 = .ok (.iaload, 1) := by decide +kernel
theorem d_L_law_124 : decode code 124 = .ok (.invokevirtual 21, 3) := by decide +kernel
theorem d_L_law_127 : decode code 127 = .ok (.aload_n 2, 1) := by decide +kernel
theorem d_L_law_128 : decode code 128 = .ok (.aload_n 0, 1) := by decide +kernel
theorem d_L_law_129 : decode code 129 = .ok (.iload_n 3, 1) := by decide +kernel
theorem d_L_law_130 : decode code 130 = .ok (.iconst 1, 1) := by decide +kernel
theorem d_L_law_131 : decode code 131 = .ok (.iadd, 1) := by decide +kernel
theorem d_L_law_132 : decode code 132 = .ok (.iaload, 1) := by decide +kernel
theorem d_L_law_133 : decode code 133 = .ok (.aload_n 0, 1) := by decide +kernel
theorem d_L_law_134 : decode code 134 = .ok (.iload_n 3, 1) := by decide +kernel
theorem d_L_law_135 : decode code 135 = .ok (.iconst 2, 1) := by decide +kernel
theorem d_L_law_136 : decode code 136 = .ok (.iadd, 1) := by decide +kernel
theorem d_L_law_137 : decode code 137 = .ok (.iaload, 1) := by decide +kernel
theorem d_L_law_138 : decode code 138 = .ok (.aload_n 0, 1) := by decide +kernel
theorem d_L_law_139 : decode code 139 = .ok (.iload_n 3, 1) := by decide +kernel
theorem d_L_law_140 : decode code 140 = .ok (.iconst 3, 1) := by decide +kernel
theorem d_L_law_141 : decode code 141 = .ok (.iadd, 1) := by decide +kernel
theorem d_L_law_142 : decode code 142 = .ok (.iaload, 1) := by decide +kernel
theorem d_L_law_143 : decode code 143 = .ok (.invokevirtual 25, 3) := by decide +kernel
theorem d_L_law_146 : decode code 146 = .ok (.if_icmp .eq 378, 3) := by decide +kernel
theorem d_L_law_149 : decode code 149 = .ok (.iconst 0, 1) := by decide +kernel
theorem d_L_law_150 : decode code 150 = .ok (.ireturn, 1) := by decide +kernel
theorem d_L_law_151 : decode code 151 = .ok (.aload_n 1, 1) := by decide +kernel
theorem d_L_law_152 : decode code 152 = .ok (.aload_n 0, 1) := by decide +kernel
theorem d_L_law_153 : decode code 153 = .ok (.iload_n 3, 1) := by decide +kernel
theorem d_L_law_154 : decode code 154 = .ok (.iconst 1, 1) := by decide +kernel
theorem d_L_law_155 : decode code 155 = .ok (.iadd, 1) := by decide +kernel
theorem d_L_law_156 : decode code 156 = .ok (.iaload, 1) := by decide +kernel
theorem d_L_law_157 : decode code 157 = .ok (.aload_n 0, 1) := by decide +kernel
theorem d_L_law_158 : decode code 158 = .ok (.iload_n 3, 1) := by decide +kernel
theorem d_L_law_159 : decode code 159 = .ok (.iconst 2, 1) := by decide +kernel
theorem d_L_law_160 : decode code 160 = .ok (.iadd, 1) := by decide +kernel
theorem d_L_law_161 : decode code 161 = .ok (.iaload, 1) := by decide +kernel
theorem d_L_law_162 : decode code 162 = .ok (.invokevirtual 26, 3) := by decide +kernel
theorem d_L_law_165 : decode code 165 = .ok (.aload_n 2, 1) := by decide +kernel
theorem d_L_law_166 : decode code 166 = .ok (.aload_n 0, 1) := by decide +kernel
theorem d_L_law_167 : decode code 167 = .ok (.iload_n 3, 1) := by decide +kernel
theorem d_L_law_168 : decode code 168 = .ok (.iconst 1, 1) := by decide +kernel
theorem d_L_law_169 : decode code 169 = .ok (.iadd, 1) := by decide +kernel
theorem d_L_law_170 : decode code 170 = .ok (.iaload, 1) := by decide +kernel
theorem d_L_law_171 : decode code 171 = .ok (.aload_n 0, 1) := by decide +kernel
theorem d_L_law_172 : decode code 172 = .ok (.iload_n 3, 1) := by decide +kernel
theorem d_L_law_173 : decode code 173 = .ok (.iconst 2, 1) := by decide +kernel
theorem d_L_law_174 : decode code 174 = .ok (.iadd, 1) := by decide +kernel
theorem d_L_law_175 : decode code 175 = .ok (.iaload, 1) := by decide +kernel
theorem d_L_law_176 : decode code 176 = .ok (.invokevirtual 30, 3) := by decide +kernel
theorem d_L_law_179 : decode code 179 = .ok (.if_icmp .eq 345, 3) := by decide +kernel
theorem d_L_law_182 : decode code 182 = .ok (.iconst 0, 1) := by decide +kernel
theorem d_L_law_183 : decode code 183 = .ok (.ireturn, 1) := by decide +kernel
theorem d_L_law_184 : decode code 184 = .ok (.aload_n 1, 1) := by decide +kernel
theorem d_L_law_185 : decode code 185 = .ok (.aload_n 0, 1) := by decide +kernel
theorem d_L_law_186 : decode code 186 = .ok (.iload_n 3, 1) := by decide +kernel
theorem d_L_law_187 : decode code 187 = .ok (.iconst 1, 1) := by decide +kernel
theorem d_L_law_188 : decode code 188 = .ok (.iadd, 1) := by decide +kernel
theorem d_L_law_189 : decode code 189 = .ok (.iaload, 1) := by decide +kernel
theorem d_L_law_190 : decode code 190 = .ok (.aload_n 0, 1) := by decide +kernel
theorem d_L_law_191 : decode code 191 = .ok (.iload_n 3, 1) := by decide +kernel
theorem d_L_law_192 : decode code 192 = .ok (.iconst 2, 1) := by decide +kernel
theorem d_L_law_193 : decode code 193 = .ok (.iadd, 1) := by decide +kernel
theorem d_L_law_194 : decode code 194 = .ok (.iaload, 1) := by decide +kernel
theorem d_L_law_195 : decode code 195 = .ok (.aload_n 0, 1) := by decide +kernel
theorem d_L_law_196 : decode code 196 = .ok (.iload_n 3, 1) := by decide +kernel
theorem d_L_law_197 : decode code 197 = .ok (.iconst 3, 1) := by decide +kernel
theorem d_L_law_198 : decode code 198 = .ok (.iadd, 1) := by decide +kernel
theorem d_L_law_199 : decode code 199 = .ok (.iaload, 1) := by decide +kernel
theorem d_L_law_200 : decode code 200 = .ok (.invokevirtual 31, 3) := by decide +kernel
theorem d_L_law_203 : decode code 203 = .ok (.aload_n 2, 1) := by decide +kernel
theorem d_L_law_204 : decode code 204 = .ok (.aload_n 0, 1) := by decide +kernel
theorem d_L_law_205 : decode code 205 = .ok (.iload_n 3, 1) := by decide +kernel
theorem d_L_law_206 : decode code 206 = .ok (.iconst 1, 1) := by decide +kernel
theorem d_L_law_207 : decode code 207 = .ok (.iadd, 1) := by decide +kernel
theorem d_L_law_208 : decode code 208 = .ok (.iaload, 1) := by decide +kernel
theorem d_L_law_209 : decode code 209 = .ok (.aload_n 0, 1) := by decide +kernel
theorem d_L_law_210 : decode code 210 = .ok (.iload_n 3, 1) := by decide +kernel
theorem d_L_law_211 : decode code 211 = .ok (.iconst 2, 1) := by decide +kernel
theorem d_L_law_212 : decode code 212 = .ok (.iadd, 1) := by decide +kernel
theorem d_L_law_213 : decode code 213 = .ok (.iaload, 1) := by decide +kernel
theorem d_L_law_214 : decode code 214 = .ok (.aload_n 0, 1) := by decide +kernel
theorem d_L_law_215 : decode code 215 = .ok (.iload_n 3, 1) := by decide +kernel
theorem d_L_law_216 : decode code 216 = .ok (.iconst 3, 1) := by decide +kernel
theorem d_L_law_217 : decode code 217 = .ok (.iadd, 1) := by decide +kernel
theorem d_L_law_218 : decode code 218 = .ok (.iaload, 1) := by decide +kernel
theorem d_L_law_219 : decode code 219 = .ok (.invokevirtual 34, 3) := by decide +kernel
theorem d_L_law_222 : decode code 222 = .ok (.if_icmp .eq 302, 3) := by decide +kernel
theorem d_L_law_225 : decode code 225 = .ok (.iconst 0, 1) := by decide +kernel
theorem d_L_law_226 : decode code 226 = .ok (.ireturn, 1) := by decide +kernel
theorem d_L_law_227 : decode code 227 = .ok (.aload_n 1, 1) := by decide +kernel
theorem d_L_law_228 : decode code 228 = .ok (.aload_n 0, 1) := by decide +kernel
theorem d_L_law_229 : decode code 229 = .ok (.iload_n 3, 1) := by decide +kernel
theorem d_L_law_230 : decode code 230 = .ok (.iconst 1, 1) := by decide +kernel
theorem d_L_law_231 : decode code 231 = .ok (.iadd, 1) := by decide +kernel
theorem d_L_law_232 : decode code 232 = .ok (.iaload, 1) := by decide +kernel
theorem d_L_law_233 : decode code 233 = .ok (.aload_n 0, 1) := by decide +kernel
theorem d_L_law_234 : decode code 234 = .ok (.iload_n 3, 1) := by decide +kernel
theorem d_L_law_235 : decode code 235 = .ok (.iconst 2, 1) := by decide +kernel
theorem d_L_law_236 : decode code 236 = .ok (.iadd, 1) := by decide +kernel
theorem d_L_law_237 : decode code 237 = .ok (.iaload, 1) := by decide +kernel
theorem d_L_law_238 : decode code 238 = .ok (.invokevirtual 35, 3) := by decide +kernel
theorem d_L_law_241 : decode code 241 = .ok (.aload_n 2, 1) := by decide +kernel
theorem d_L_law_242 : decode code 242 = .ok (.aload_n 0, 1) := by decide +kernel
theorem d_L_law_243 : decode code 243 = .ok (.iload_n 3, 1) := by decide +kernel
theorem d_L_law_244 : decode code 244 = .ok (.iconst 1, 1) := by decide +kernel
theorem d_L_law_245 : decode code 245 = .ok (.iadd, 1) := by decide +kernel
theorem d_L_law_246 : decode code 246 = .ok (.iaload, 1) := by decide +kernel
theorem d_L_law_247 : decode code 247 = .ok (.aload_n 0, 1) := by decide +kernel
theorem d_L_law_248 : decode code 248 = .ok (.iload_n 3, 1) := by decide +kernel
theorem d_L_law_249 : decode code 249 = .ok (.iconst 2, 1) := by decide +kernel
theorem d_L_law_250 : decode code 250 = .ok (.iadd, 1) := by decide +kernel
theorem d_L_law_251 : decode code 251 = .ok (.iaload, 1) := by decide +kernel
theorem d_L_law_252 : decode code 252 = .ok (.invokevirtual 38, 3) := by decide +kernel
theorem d_L_law_255 : decode code 255 = .ok (.if_icmp .eq 269, 3) := by decide +kernel
theorem d_L_law_258 : decode code 258 = .ok (.iconst 0, 1) := by decide +kernel
theorem d_L_law_259 : decode code 259 = .ok (.ireturn, 1) := by decide +kernel
theorem d_L_law_260 : decode code 260 = .ok (.aload_n 1, 1) := by decide +kernel
theorem d_L_law_261 : decode code 261 = .ok (.aload_n 0, 1) := by decide +kernel
theorem d_L_law_262 : decode code 262 = .ok (.iload_n 3, 1) := by decide +kernel
theorem d_L_law_263 : decode code 263 = .ok (.iconst 1, 1) := by decide +kernel
theorem d_L_law_264 : decode code 264 = .ok (.iadd, 1) := by decide +kernel
theorem d_L_law_265 : decode code 265 = .ok (.iaload, 1) := by decide +kernel
theorem d_L_law_266 : decode code 266 = .ok (.invokevirtual 39, 3) := by decide +kernel
theorem d_L_law_269 : decode code 269 = .ok (.aload_n 2, 1) := by decide +kernel
theorem d_L_law_270 : decode code 270 = .ok (.aload_n 0, 1) := by decide +kernel
theorem d_L_law_271 : decode code 271 = .ok (.iload_n 3, 1) := by decide +kernel
theorem d_L_law_272 : decode code 272 = .ok (.iconst 1, 1) := by decide +kernel
theorem d_L_law_273 : decode code 273 = .ok (.iadd, 1) := by decide +kernel
theorem d_L_law_274 : decode code 274 = .ok (.iaload, 1) := by decide +kernel
theorem d_L_law_275 : decode code 275 = .ok (.invokevirtual 43, 3) := by decide +kernel
theorem d_L_law_278 : decode code 278 = .ok (.if_icmp .eq 246, 3) := by decide +kernel
theorem d_L_law_281 : decode code 281 = .ok (.iconst 0, 1) := by decide +kernel
theorem d_L_law_282 : decode code 282 = .ok (.ireturn, 1) := by decide +kernel
theorem d_L_law_283 : decode code 283 = .ok (.aload_n 1, 1) := by decide +kernel
theorem d_L_law_284 : decode code 284 = .ok (.aload_n 0, 1) := by decide +kernel
theorem d_L_law_285 : decode code 285 = .ok (.iload_n 3, 1) := by decide +kernel
theorem d_L_law_286 : decode code 286 = .ok (.iconst 1, 1) := by decide +kernel
theorem d_L_law_287 : decode code 287 = .ok (.iadd, 1) := by decide +kernel
theorem d_L_law_288 : decode code 288 = .ok (.iaload, 1) := by decide +kernel
theorem d_L_law_289 : decode code 289 = .ok (.aload_n 0, 1) := by decide +kernel
theorem d_L_law_290 : decode code 290 = .ok (.iload_n 3, 1) := by decide +kernel
theorem d_L_law_291 : decode code 291 = .ok (.iconst 2, 1) := by decide +kernel
theorem d_L_law_292 : decode code 292 = .ok (.iadd, 1) := by decide +kernel
theorem d_L_law_293 : decode code 293 = .ok (.iaload, 1) := by decide +kernel
theorem d_L_law_294 : decode code 294 = .ok (.aload_n 0, 1) := by decide +kernel
theorem d_L_law_295 : decode code 295 = .ok (.iload_n 3, 1) := by decide +kernel
theorem d_L_law_296 : decode code 296 = .ok (.iconst 3, 1) := by decide +kernel
theorem d_L_law_297 : decode code 297 = .ok (.iadd, 1) := by decide +kernel
theorem d_L_law_298 : decode code 298 = .ok (.iaload, 1) := by decide +kernel
theorem d_L_law_299 : decode code 299 = .ok (.aload_n 0, 1) := by decide +kernel
theorem d_L_law_300 : decode code 300 = .ok (.iload_n 3, 1) := by decide +kernel
theorem d_L_law_301 : decode code 301 = .ok (.iconst 4, 1) := by decide +kernel
theorem d_L_law_302 : decode code 302 = .ok (.iadd, 1) := by decide +kernel
theorem d_L_law_303 : decode code 303 = .ok (.iaload, 1) := by decide +kernel
theorem d_L_law_304 : decode code 304 = .ok (.ifCond .eq 7, 3) := by decide +kernel
theorem d_L_law_307 : decode code 307 = .ok (.iconst 1, 1) := by decide +kernel
theorem d_L_law_308 : decode code 308 = .ok (.goto 4, 3) := by decide +kernel
theorem d_L_law_311 : decode code 311 = .ok (.iconst 0, 1) := by decide +kernel
theorem d_L_law_312 : decode code 312 = .ok (.aload_n 0, 1) := by decide +kernel
theorem d_L_law_313 : decode code 313 = .ok (.iload_n 3, 1) := by decide +kernel
theorem d_L_law_314 : decode code 314 = .ok (.iconst 5, 1) := by decide +kernel
theorem d_L_law_315 : decode code 315 = .ok (.iadd, 1) := by decide +kernel
theorem d_L_law_316 : decode code 316 = .ok (.iaload, 1) := by decide +kernel
theorem d_L_law_317 : decode code 317 = .ok (.invokevirtual 44, 3) := by decide +kernel
theorem d_L_law_320 : decode code 320 = .ok (.aload_n 2, 1) := by decide +kernel
theorem d_L_law_321 : decode code 321 = .ok (.aload_n 0, 1) := by decide +kernel
theorem d_L_law_322 : decode code 322 = .ok (.iload_n 3, 1) := by decide +kernel
theorem d_L_law_323 : decode code 323 = .ok (.iconst 1, 1) := by decide +kernel
theorem d_L_law_324 : decode code 324 = .ok (.iadd, 1) := by decide +kernel
theorem d_L_law_325 : decode code 325 = .ok (.iaload, 1) := by decide +kernel
theorem d_L_law_326 : decode code 326 = .ok (.aload_n 0, 1) := by decide +kernel
theorem d_L_law_327 : decode code 327 = .ok (.iload_n 3, 1) := by decide +kernel
theorem d_L_law_328 : decode code 328 = .ok (.iconst 2, 1) := by decide +kernel
theorem d_L_law_329 : decode code 329 = .ok (.iadd, 1) := by decide +kernel
theorem d_L_law_330 : decode code 330 = .ok (.iaload, 1) := by decide +kernel
theorem d_L_law_331 : decode code 331 = .ok (.aload_n 0, 1) := by decide +kernel
theorem d_L_law_332 : decode code 332 = .ok (.iload_n 3, 1) := by decide +kernel
theorem d_L_law_333 : decode code 333 = .ok (.iconst 3, 1) := by decide +kernel
theorem d_L_law_334 : decode code 334 = .ok (.iadd, 1) := by decide +kernel
theorem d_L_law_335 : decode code 335 = .ok (.iaload, 1) := by decide +kernel
theorem d_L_law_336 : decode code 336 = .ok (.aload_n 0, 1) := by decide +kernel
theorem d_L_law_337 : decode code 337 = .ok (.iload_n 3, 1) := by decide +kernel
theorem d_L_law_338 : decode code 338 = .ok (.iconst 4, 1) := by decide +kernel
theorem d_L_law_339 : decode code 339 = .ok (.iadd, 1) := by decide +kernel
theorem d_L_law_340 : decode code 340 = .ok (.iaload, 1) := by decide +kernel
theorem d_L_law_341 : decode code 341 = .ok (.ifCond .eq 7, 3) := by decide +kernel
theorem d_L_law_344 : decode code 344 = .ok (.iconst 1, 1) := by decide +kernel
theorem d_L_law_345 : decode code 345 = .ok (.goto 4, 3) := by decide +kernel
theorem d_L_law_348 : decode code 348 = .ok (.iconst 0, 1) := by decide +kernel
theorem d_L_law_349 : decode code 349 = .ok (.aload_n 0, 1) := by decide +kernel
theorem d_L_law_350 : decode code 350 = .ok (.iload_n 3, 1) := by decide +kernel
theorem d_L_law_351 : decode code 351 = .ok (.iconst 5, 1) := by decide +kernel
theorem d_L_law_352 : decode code 352 = .ok (.iadd, 1) := by decide +kernel
theorem d_L_law_353 : decode code 353 = .ok (.iaload, 1) := by decide +kernel
theorem d_L_law_354 : decode code 354 = .ok (.invokevirtual 48, 3) := by decide +kernel
theorem d_L_law_357 : decode code 357 = .ok (.if_icmp .eq 167, 3) := by decide +kernel
theorem d_L_law_360 : decode code 360 = .ok (.iconst 0, 1) := by decide +kernel
theorem d_L_law_361 : decode code 361 = .ok (.ireturn, 1) := by decide +kernel
theorem d_L_law_362 : decode code 362 = .ok (.aload_n 1, 1) := by decide +kernel
theorem d_L_law_363 : decode code 363 = .ok (.aload_n 0, 1) := by decide +kernel
theorem d_L_law_364 : decode code 364 = .ok (.iload_n 3, 1) := by decide +kernel
theorem d_L_law_365 : decode code 365 = .ok (.iconst 1, 1) := by decide +kernel
theorem d_L_law_366 : decode code 366 = .ok (.iadd, 1) := by decide +kernel
theorem d_L_law_367 : decode code 367 = .ok (.iaload, 1) := by decide +kernel
theorem d_L_law_368 : decode code 368 = .ok (.invokevirtual 49, 3) := by decide +kernel
theorem d_L_law_371 : decode code 371 = .ok (.aload_n 2, 1) := by decide +kernel
theorem d_L_law_372 : decode code 372 = .ok (.aload_n 0, 1) := by decide +kernel
theorem d_L_law_373 : decode code 373 = .ok (.iload_n 3, 1) := by decide +kernel
theorem d_L_law_374 : decode code 374 = .ok (.iconst 1, 1) := by decide +kernel
theorem d_L_law_375 : decode code 375 = .ok (.iadd, 1) := by decide +kernel
theorem d_L_law_376 : decode code 376 = .ok (.iaload, 1) := by decide +kernel
theorem d_L_law_377 : decode code 377 = .ok (.invokevirtual 52, 3) := by decide +kernel
theorem d_L_law_380 : decode code 380 = .ok (.if_icmp .eq 144, 3) := by decide +kernel
theorem d_L_law_383 : decode code 383 = .ok (.iconst 0, 1) := by decide +kernel
theorem d_L_law_384 : decode code 384 = .ok (.ireturn, 1) := by decide +kernel
theorem d_L_law_385 : decode code 385 = .ok (.aload_n 1, 1) := by decide +kernel
theorem d_L_law_386 : decode code 386 = .ok (.aload_n 0, 1) := by decide +kernel
theorem d_L_law_387 : decode code 387 = .ok (.iload_n 3, 1) := by decide +kernel
theorem d_L_law_388 : decode code 388 = .ok (.iconst 1, 1) := by decide +kernel
theorem d_L_law_389 : decode code 389 = .ok (.iadd, 1) := by decide +kernel
theorem d_L_law_390 : decode code 390 = .ok (.iaload, 1) := by decide +kernel
theorem d_L_law_391 : decode code 391 = .ok (.invokevirtual 53, 3) := by decide +kernel
theorem d_L_law_394 : decode code 394 = .ok (.aload_n 2, 1) := by decide +kernel
theorem d_L_law_395 : decode code 395 = .ok (.aload_n 0, 1) := by decide +kernel
theorem d_L_law_396 : decode code 396 = .ok (.iload_n 3, 1) := by decide +kernel
theorem d_L_law_397 : decode code 397 = .ok (.iconst 1, 1) := by decide +kernel
theorem d_L_law_398 : decode code 398 = .ok (.iadd, 1) := by decide +kernel
theorem d_L_law_399 : decode code 399 = .ok (.iaload, 1) := by decide +kernel
theorem d_L_law_400 : decode code 400 = .ok (.invokevirtual 56, 3) := by decide +kernel
theorem d_L_law_403 : decode code 403 = .ok (.if_icmp .eq 121, 3) := by decide +kernel
theorem d_L_law_406 : decode code 406 = .ok (.iconst 0, 1) := by decide +kernel
theorem d_L_law_407 : decode code 407 = .ok (.ireturn, 1) := by decide +kernel
theorem d_L_law_408 : decode code 408 = .ok (.aload_n 1, 1) := by decide +kernel
theorem d_L_law_409 : decode code 409 = .ok (.aload_n 0, 1) := by decide +kernel
theorem d_L_law_410 : decode code 410 = .ok (.iload_n 3, 1) := by decide +kernel
theorem d_L_law_411 : decode code 411 = .ok (.iconst 1, 1) := by decide +kernel
theorem d_L_law_412 : decode code 412 = .ok (.iadd, 1) := by decide +kernel
theorem d_L_law_413 : decode code 413 = .ok (.iaload, 1) := by decide +kernel
theorem d_L_law_414 : decode code 414 = .ok (.invokevirtual 57, 3) := by decide +kernel
theorem d_L_law_417 : decode code 417 = .ok (.aload_n 2, 1) := by decide +kernel
theorem d_L_law_418 : decode code 418 = .ok (.aload_n 0, 1) := by decide +kernel
theorem d_L_law_419 : decode code 419 = .ok (.iload_n 3, 1) := by decide +kernel
theorem d_L_law_420 : decode code 420 = .ok (.iconst 1, 1) := by decide +kernel
theorem d_L_law_421 : decode code 421 = .ok (.iadd, 1) := by decide +kernel
theorem d_L_law_422 : decode code 422 = .ok (.iaload, 1) := by decide +kernel
theorem d_L_law_423 : decode code 423 = .ok (.invokevirtual 60, 3) := by decide +kernel
theorem d_L_law_426 : decode code 426 = .ok (.if_icmp .eq 98, 3) := by decide +kernel
theorem d_L_law_429 : decode code 429 = .ok (.iconst 0, 1) := by decide +kernel
theorem d_L_law_430 : decode code 430 = .ok (.ireturn, 1) := by decide +kernel
theorem d_L_law_431 : decode code 431 = .ok (.aload_n 1, 1) := by decide +kernel
theorem d_L_law_432 : decode code 432 = .ok (.aload_n 0, 1) := by decide +kernel
theorem d_L_law_433 : decode code 433 = .ok (.iload_n 3, 1) := by decide +kernel
theorem d_L_law_434 : decode code 434 = .ok (.iconst 1, 1) := by decide +kernel
theorem d_L_law_435 : decode code 435 = .ok (.iadd, 1) := by decide +kernel
theorem d_L_law_436 : decode code 436 = .ok (.iaload, 1) := by decide +kernel
theorem d_L_law_437 : decode code 437 = .ok (.invokevirtual 61, 3) := by decide +kernel
theorem d_L_law_440 : decode code 440 = .ok (.aload_n 2, 1) := by decide +kernel
theorem d_L_law_441 : decode code 441 = .ok (.aload_n 0, 1) := by decide +kernel
theorem d_L_law_442 : decode code 442 = .ok (.iload_n 3, 1) := by decide +kernel
theorem d_L_law_443 : decode code 443 = .ok (.iconst 1, 1) := by decide +kernel
theorem d_L_law_444 : decode code 444 = .ok (.iadd, 1) := by decide +kernel
theorem d_L_law_445 : decode code 445 = .ok (.iaload, 1) := by decide +kernel
theorem d_L_law_446 : decode code 446 = .ok (.invokevirtual 65, 3) := by decide +kernel
theorem d_L_law_449 : decode code 449 = .ok (.lcmp, 1) := by decide +kernel
theorem d_L_law_450 : decode code 450 = .ok (.ifCond .eq 74, 3) := by decide +kernel
theorem d_L_law_453 : decode code 453 = .ok (.iconst 0, 1) := by decide +kernel
theorem d_L_law_454 : decode code 454 = .ok (.ireturn, 1) := by decide +kernel
theorem d_L_law_455 : decode code 455 = .ok (.aload_n 1, 1) := by decide +kernel
theorem d_L_law_456 : decode code 456 = .ok (.aload_n 0, 1) := by decide +kernel
theorem d_L_law_457 : decode code 457 = .ok (.iload_n 3, 1) := by decide +kernel
theorem d_L_law_458 : decode code 458 = .ok (.iconst 1, 1) := by decide +kernel
theorem d_L_law_459 : decode code 459 = .ok (.iadd, 1) := by decide +kernel
theorem d_L_law_460 : decode code 460 = .ok (.iaload, 1) := by decide +kernel
theorem d_L_law_461 : decode code 461 = .ok (.aload_n 0, 1) := by decide +kernel
theorem d_L_law_462 : decode code 462 = .ok (.iload_n 3, 1) := by decide +kernel
theorem d_L_law_463 : decode code 463 = .ok (.iconst 2, 1) := by decide +kernel
theorem d_L_law_464 : decode code 464 = .ok (.iadd, 1) := by decide +kernel
theorem d_L_law_465 : decode code 465 = .ok (.iaload, 1) := by decide +kernel
theorem d_L_law_466 : decode code 466 = .ok (.invokevirtual 66, 3) := by decide +kernel
theorem d_L_law_469 : decode code 469 = .ok (.aload_n 2, 1) := by decide +kernel
theorem d_L_law_470 : decode code 470 = .ok (.aload_n 0, 1) := by decide +kernel
theorem d_L_law_471 : decode code 471 = .ok (.iload_n 3, 1) := by decide +kernel
theorem d_L_law_472 : decode code 472 = .ok (.iconst 1, 1) := by decide +kernel
theorem d_L_law_473 : decode code 473 = .ok (.iadd, 1) := by decide +kernel
theorem d_L_law_474 : decode code 474 = .ok (.iaload, 1) := by decide +kernel
theorem d_L_law_475 : decode code 475 = .ok (.aload_n 0, 1) := by decide +kernel
theorem d_L_law_476 : decode code 476 = .ok (.iload_n 3, 1) := by decide +kernel
theorem d_L_law_477 : decode code 477 = .ok (.iconst 2, 1) := by decide +kernel
theorem d_L_law_478 : decode code 478 = .ok (.iadd, 1) := by decide +kernel
theorem d_L_law_479 : decode code 479 = .ok (.iaload, 1) := by decide +kernel
theorem d_L_law_480 : decode code 480 = .ok (.invokevirtual 69, 3) := by decide +kernel
theorem d_L_law_483 : decode code 483 = .ok (.if_icmp .eq 41, 3) := by decide +kernel
theorem d_L_law_486 : decode code 486 = .ok (.iconst 0, 1) := by decide +kernel
theorem d_L_law_487 : decode code 487 = .ok (.ireturn, 1) := by decide +kernel
theorem d_L_law_488 : decode code 488 = .ok (.aload_n 1, 1) := by decide +kernel
theorem d_L_law_489 : decode code 489 = .ok (.invokevirtual 70, 3) := by decide +kernel
theorem d_L_law_492 : decode code 492 = .ok (.aload_n 2, 1) := by decide +kernel
theorem d_L_law_493 : decode code 493 = .ok (.invokevirtual 74, 3) := by decide +kernel
theorem d_L_law_496 : decode code 496 = .ok (.if_icmp .eq 28, 3) := by decide +kernel
theorem d_L_law_499 : decode code 499 = .ok (.iconst 0, 1) := by decide +kernel
theorem d_L_law_500 : decode code 500 = .ok (.ireturn, 1) := by decide +kernel
theorem d_L_law_501 : decode code 501 = .ok (.aload_n 1, 1) := by decide +kernel
theorem d_L_law_502 : decode code 502 = .ok (.aload_n 0, 1) := by decide +kernel
theorem d_L_law_503 : decode code 503 = .ok (.iload_n 3, 1) := by decide +kernel
theorem d_L_law_504 : decode code 504 = .ok (.iconst 1, 1) := by decide +kernel
theorem d_L_law_505 : decode code 505 = .ok (.iadd, 1) := by decide +kernel
theorem d_L_law_506 : decode code 506 = .ok (.iaload, 1) := by decide +kernel
theorem d_L_law_507 : decode code 507 = .ok (.invokevirtual 75, 3) := by decide +kernel
theorem d_L_law_510 : decode code 510 = .ok (.aload_n 2, 1) := by decide +kernel
theorem d_L_law_511 : decode code 511 = .ok (.aload_n 0, 1) := by decide +kernel
theorem d_L_law_512 : decode code 512 = .ok (.iload_n 3, 1) := by decide +kernel
theorem d_L_law_513 : decode code 513 = .ok (.iconst 1, 1) := by decide +kernel
theorem d_L_law_514 : decode code 514 = .ok (.iadd, 1) := by decide +kernel
theorem d_L_law_515 : decode code 515 = .ok (.iaload, 1) := by decide +kernel
theorem d_L_law_516 : decode code 516 = .ok (.invokevirtual 78, 3) := by decide +kernel
theorem d_L_law_519 : decode code 519 = .ok (.if_icmp .eq 5, 3) := by decide +kernel
theorem d_L_law_522 : decode code 522 = .ok (.iconst 0, 1) := by decide +kernel
theorem d_L_law_523 : decode code 523 = .ok (.ireturn, 1) := by decide +kernel
theorem d_L_law_524 : decode code 524 = .ok (.iinc 3 6, 3) := by decide +kernel
theorem d_L_law_527 : decode code 527 = .ok (.goto (-499), 3) := by decide +kernel
theorem d_L_law_530 : decode code 530 = .ok (.iconst 1, 1) := by decide +kernel
theorem d_L_law_531 : decode code 531 = .ok (.ireturn, 1) := by decide +kernel
