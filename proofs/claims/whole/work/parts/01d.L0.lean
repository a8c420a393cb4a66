theorem d_L_law_0 : decode b_L_law 0 = .ok (.new 7, 3) := by decide +kernel
theorem d_L_law_3 : decode b_L_law 3 = .ok (.dup, 1) := by decide +kernel
theorem d_L_law_4 : decode b_L_law 4 = .ok (.invokespecial 9, 3) := by decide +kernel
theorem d_L_law_7 : decode b_L_law 7 = .ok (.astore_n 1, 1) := by decide +kernel
theorem d_L_law_8 : decode b_L_law 8 = .ok (.new 10, 3) := by decide +kernel
theorem d_L_law_11 : decode b_L_law 11 = .ok (.dup, 1) := by decide +kernel
theorem d_L_law_12 : decode b_L_law 12 = .ok (.invokespecial 12, 3) := by decide +kernel
theorem d_L_law_15 : decode b_L_law 15 = .ok (.astore_n 2, 1) := by decide +kernel
theorem d_L_law_16 : decode b_L_law 16 = .ok (.iconst 0, 1) := by decide +kernel
theorem d_L_law_17 : decode b_L_law 17 = .ok (.istore_n 3, 1) := by decide +kernel
theorem d_L_law_18 : decode b_L_law 18 = .ok (.iload_n 3, 1) := by decide +kernel
theorem d_L_law_19 : decode b_L_law 19 = .ok (.aload_n 0, 1) := by decide +kernel
theorem d_L_law_20 : decode b_L_law 20 = .ok (.arraylength, 1) := by decide +kernel
theorem d_L_law_21 : decode b_L_law 21 = .ok (.bipush 6, 2) := by decide +kernel
theorem d_L_law_23 : decode b_L_law 23 = .ok (.isub, 1) := by decide +kernel
theorem d_L_law_24 : decode b_L_law 24 = .ok (.if_icmp .gt 497, 3) := by decide +kernel
theorem d_L_law_27 : decode b_L_law 27 = .ok (.aload_n 0, 1) := by decide +kernel
theorem d_L_law_28 : decode b_L_law 28 = .ok (.iload_n 3, 1) := by decide +kernel
theorem d_L_law_29 : decode b_L_law 29 = .ok (.iaload, 1) := by decide +kernel
theorem d_L_law_30 : decode b_L_law 30 = .ok (.bipush 15, 2) := by decide +kernel
theorem d_L_law_32 : decode b_L_law 32 = .ok (.iand, 1) := by decide +kernel
theorem d_L_law_33 : decode b_L_law 33 = .ok (.tableswitch 482 0 10 #[59, 92, 115, 148, 161, 204, 247, 260, 323, 376, 429], 59) := by decide +kernel
theorem d_L_law_92 : decode b_L_law 92 = .ok (.aload_n 1, 1) := by decide +kernel
theorem d_L_law_93 : decode b_L_law 93 = .ok (.aload_n 0, 1) := by decide +kernel
theorem d_L_law_94 : decode b_L_law 94 = .ok (.iload_n 3, 1) := by decide +kernel
theorem d_L_law_95 : decode b_L_law 95 = .ok (.iconst 1, 1) := by decide +kernel
theorem d_L_law_96 : decode b_L_law 96 = .ok (.iadd, 1) := by decide +kernel
theorem d_L_law_97 : decode b_L_law 97 = .ok (.iaload, 1) := by decide +kernel
theorem d_L_law_98 : decode b_L_law 98 = .ok (.aload_n 0, 1) := by decide +kernel
theorem d_L_law_99 : decode b_L_law 99 = .ok (.iload_n 3, 1) := by decide +kernel
theorem d_L_law_100 : decode b_L_law 100 = .ok (.iconst 2, 1) := by decide +kernel
theorem d_L_law_101 : decode b_L_law 101 = .ok (.iadd, 1) := by decide +kernel
theorem d_L_law_102 : decode b_L_law 102 = .ok (.iaload, 1) := by decide +kernel
theorem d_L_law_103 : decode b_L_law 103 = .ok (.invokevirtual 13, 3) := by decide +kernel
theorem d_L_law_106 : decode b_L_law 106 = .ok (.aload_n 2, 1) := by decide +kernel
theorem d_L_law_107 : decode b_L_law 107 = .ok (.aload_n 0, 1) := by decide +kernel
theorem d_L_law_108 : decode b_L_law 108 = .ok (.iload_n 3, 1) := by decide +kernel
theorem d_L_law_109 : decode b_L_law 109 = .ok (.iconst 1, 1) := by decide +kernel
theorem d_L_law_110 : decode b_L_law 110 = .ok (.iadd, 1) := by decide +kernel
theorem d_L_law_111 : decode b_L_law 111 = .ok (.iaload, 1) := by decide +kernel
theorem d_L_law_112 : decode b_L_law 112 = .ok (.aload_n 0, 1) := by decide +kernel
theorem d_L_law_113 : decode b_L_law 113 = .ok (.iload_n 3, 1) := by decide +kernel
theorem d_L_law_114 : decode b_L_law 114 = .ok (.iconst 2, 1) := by decide +kernel
theorem d_L_law_115 : decode b_L_law 115 = .ok (.iadd, 1) := by decide +kernel
theorem d_L_law_116 : decode b_L_law 116 = .ok (.iaload, 1) := by decide +kernel
theorem d_L_law_117 : decode b_L_law 117 = .ok (.invokevirtual 17, 3) := by decide +kernel
theorem d_L_law_120 : decode b_L_law 120 = .ok (.if_icmp .eq 395, 3) := by decide +kernel
theorem d_L_law_123 : decode b_L_law 123 = .ok (.iconst 0, 1) := by decide +kernel
theorem d_L_law_124 : decode b_L_law 124 = .ok (.ireturn, 1) := by decide +kernel
theorem d_L_law_125 : decode b_L_law 125 = .ok (.aload_n 1, 1) := by decide +kernel
theorem d_L_law_126 : decode b_L_law 126 = .ok (.aload_n 0, 1) := by decide +kernel
theorem d_L_law_127 : decode b_L_law 127 = .ok (.iload_n 3, 1) := by decide +kernel
theorem d_L_law_128 : decode b_L_law 128 = .ok (.iconst 1, 1) := by decide +kernel
theorem d_L_law_129 : decode b_L_law 129 = .ok (.iadd, 1) := by decide +kernel
theorem d_L_law_130 : decode b_L_law 130 = .ok (.iaload, 1) := by decide +kernel
theorem d_L_law_131 : decode b_L_law 131 = .ok (.invokevirtual 18, 3) := by decide +kernel
theorem d_L_law_134 : decode b_L_law 134 = .ok (.aload_n 2, 1) := by decide +kernel
theorem d_L_law_135 : decode b_L_law 135 = .ok (.aload_n 0, 1) := by decide +kernel
theorem d_L_law_136 : decode b_L_law 136 = .ok (.iload_n 3, 1) := by decide +kernel
theorem d_L_law_137 : decode b_L_law 137 = .ok (.iconst 1, 1) := by decide +kernel
theorem d_L_law_138 : decode b_L_law 138 = .ok (.iadd, 1) := by decide +kernel
theorem d_L_law_139 : decode b_L_law 139 = .ok (.iaload, 1) := by decide +kernel
theorem d_L_law_140 : decode b_L_law 140 = .ok (.invokevirtual 22, 3) := by decide +kernel
theorem d_L_law_143 : decode b_L_law 143 = .ok (.if_icmp .eq 372, 3) := by decide +kernel
theorem d_L_law_146 : decode b_L_law 146 = .ok (.iconst 0, 1) := by decide +kernel
theorem d_L_law_147 : decode b_L_law 147 = .ok (.ireturn, 1) := by decide +kernel
theorem d_L_law_148 : decode b_L_law 148 = .ok (.aload_n 1, 1) := by decide +kernel
theorem d_L_law_149 : decode b_L_law 149 = .ok (.aload_n 0, 1) := by decide +kernel
theorem d_L_law_150 : decode b_L_law 150 = .ok (.iload_n 3, 1) := by decide +kernel
theorem d_L_law_151 : decode b_L_law 151 = .ok (.iconst 1, 1) := by decide +kernel
theorem d_L_law_152 : decode b_L_law 152 = .ok (.iadd, 1) := by decide +kernel
theorem d_L_law_153 : decode b_L_law 153 = .ok (.iaload, 1) := by decide +kernel
theorem d_L_law_154 : decode b_L_law 154 = .ok (.aload_n 0, 1) := by decide +kernel
theorem d_L_law_155 : decode b_L_law 155 = .ok (.iload_n 3, 1) := by decide +kernel
theorem d_L_law_156 : decode b_L_law 156 = .ok (.iconst 2, 1) := by decide +kernel
theorem d_L_law_157 : decode b_L_law 157 = .ok (.iadd, 1) := by decide +kernel
theorem d_L_law_158 : decode b_L_law 158 = .ok (.iaload, 1) := by decide +kernel
theorem d_L_law_159 : decode b_L_law 159 = .ok (.invokevirtual 23, 3) := by decide +kernel
theorem d_L_law_162 : decode b_L_law 162 = .ok (.aload_n 2, 1) := by decide +kernel
theorem d_L_law_163 : decode b_L_law 163 = .ok (.aload_n 0, 1) := by decide +kernel
theorem d_L_law_164 : decode b_L_law 164 = .ok (.iload_n 3, 1) := by decide +kernel
theorem d_L_law_165 : decode b_L_law 165 = .ok (.iconst 1, 1) := by decide +kernel
theorem d_L_law_166 : decode b_L_law 166 = .ok (.iadd, 1) := by decide +kernel
theorem d_L_law_167 : decode b_L_law 167 = .ok (.iaload, 1) := by decide +kernel
theorem d_L_law_168 : decode b_L_law 168 = .ok (.aload_n 0, 1) := by decide +kernel
theorem d_L_law_169 : decode b_L_law 169 = .ok (.iload_n 3, 1) := by decide +kernel
theorem d_L_law_170 : decode b_L_law 170 = .ok (.iconst 2, 1) := by decide +kernel
theorem d_L_law_171 : decode b_L_law 171 = .ok (.iadd, 1) := by decide +kernel
theorem d_L_law_172 : decode b_L_law 172 = .ok (.iaload, 1) := by decide +kernel
theorem d_L_law_173 : decode b_L_law 173 = .ok (.invokevirtual 27, 3) := by decide +kernel
theorem d_L_law_176 : decode b_L_law 176 = .ok (.if_icmp .eq 339, 3) := by decide +kernel
theorem d_L_law_179 : decode b_L_law 179 = .ok (.iconst 0, 1) := by decide +kernel
theorem d_L_law_180 : decode b_L_law 180 = .ok (.ireturn, 1) := by decide +kernel
theorem d_L_law_181 : decode b_L_law 181 = .ok (.aload_n 1, 1) := by decide +kernel
theorem d_L_law_182 : decode b_L_law 182 = .ok (.invokevirtual 28, 3) := by decide +kernel
theorem d_L_law_185 : decode b_L_law 185 = .ok (.aload_n 2, 1) := by decide +kernel
theorem d_L_law_186 : decode b_L_law 186 = .ok (.invokevirtual 32, 3) := by decide +kernel
theorem d_L_law_189 : decode b_L_law 189 = .ok (.if_icmp .eq 326, 3) := by decide +kernel
theorem d_L_law_192 : decode b_L_law 192 = .ok (.iconst 0, 1) := by decide +kernel
theorem d_L_law_193 : decode b_L_law 193 = .ok (.ireturn, 1) := by decide +kernel
theorem d_L_law_194 : decode b_L_law 194 = .ok (.aload_n 1, 1) := by decide +kernel
theorem d_L_law_195 : decode b_L_law 195 = .ok (.aload_n 0, 1) := by decide +kernel
theorem d_L_law_196 : decode b_L_law 196 = .ok (.iload_n 3, 1) := by decide +kernel
theorem d_L_law_197 : decode b_L_law 197 = .ok (.iconst 1, 1) := by decide +kernel
theorem d_L_law_198 : decode b_L_law 198 = .ok (.iadd, 1) := by decide +kernel
theorem d_L_law_199 : decode b_L_law 199 = .ok (.iaload, 1) := by decide +kernel
theorem d_L_law_200 : decode b_L_law 200 = .ok (.aload_n 0, 1) := by decide +kernel
theorem d_L_law_201 : decode b_L_law 201 = .ok (.iload_n 3, 1) := by decide +kernel
theorem d_L_law_202 : decode b_L_law 202 = .ok (.iconst 2, 1) := by decide +kernel
theorem d_L_law_203 : decode b_L_law 203 = .ok (.iadd, 1) := by decide +kernel
theorem d_L_law_204 : decode b_L_law 204 = .ok (.iaload, 1) := by decide +kernel
theorem d_L_law_205 : decode b_L_law 205 = .ok (.aload_n 0, 1) := by decide +kernel
theorem d_L_law_206 : decode b_L_law 206 = .ok (.iload_n 3, 1) := by decide +kernel
theorem d_L_law_207 : decode b_L_law 207 = .ok (.iconst 3, 1) := by decide +kernel
theorem d_L_law_208 : decode b_L_law 208 = .ok (.iadd, 1) := by decide +kernel
theorem d_L_law_209 : decode b_L_law 209 = .ok (.iaload, 1) := by decide +kernel
theorem d_L_law_210 : decode b_L_law 210 = .ok (.invokevirtual 33, 3) := by decide +kernel
theorem d_L_law_213 : decode b_L_law 213 = .ok (.aload_n 2, 1) := by decide +kernel
theorem d_L_law_214 : decode b_L_law 214 = .ok (.aload_n 0, 1) := by decide +kernel
theorem d_L_law_215 : decode b_L_law 215 = .ok (.iload_n 3, 1) := by decide +kernel
theorem d_L_law_216 : decode b_L_law 216 = .ok (.iconst 1, 1) := by decide +kernel
theorem d_L_law_217 : decode b_L_law 217 = .ok (.iadd, 1) := by decide +kernel
theorem d_L_law_218 : decode b_L_law 218 = .ok (.iaload, 1) := by decide +kernel
theorem d_L_law_219 : decode b_L_law 219 = .ok (.aload_n 0, 1) := by decide +kernel
theorem d_L_law_220 : decode b_L_law 220 = .ok (.iload_n 3, 1) := by decide +kernel
theorem d_L_law_221 : decode b_L_law 221 = .ok (.iconst 2, 1) := by decide +kernel
theorem d_L_law_222 : decode b_L_law 222 = .ok (.iadd, 1) := by decide +kernel
theorem d_L_law_223 : decode b_L_law 223 = .ok (.iaload, 1) := by decide +kernel
theorem d_L_law_224 : decode b_L_law 224 = .ok (.aload_n 0, 1) := by decide +kernel
theorem d_L_law_225 : decode b_L_law 225 = .ok (.iload_n 3, 1) := by decide +kernel
theorem d_L_law_226 : decode b_L_law 226 = .ok (.iconst 3, 1) := by decide +kernel
theorem d_L_law_227 : decode b_L_law 227 = .ok (.iadd, 1) := by decide +kernel
theorem d_L_law_228 : decode b_L_law 228 = .ok (.iaload, 1) := by decide +kernel
theorem d_L_law_229 : decode b_L_law 229 = .ok (.invokevirtual 37, 3) := by decide +kernel
theorem d_L_law_232 : decode b_L_law 232 = .ok (.if_icmp .eq 283, 3) := by decide +kernel
theorem d_L_law_235 : decode b_L_law 235 = .ok (.iconst 0, 1) := by decide +kernel
theorem d_L_law_236 : decode b_L_law 236 = .ok (.ireturn, 1) := by decide +kernel
theorem d_L_law_237 : decode b_L_law 237 = .ok (.aload_n 1, 1) := by decide +kernel
theorem d_L_law_238 : decode b_L_law 238 = .ok (.aload_n 0, 1) := by decide +kernel
theorem d_L_law_239 : decode b_L_law 239 = .ok (.iload_n 3, 1) := by decide +kernel
theorem d_L_law_240 : decode b_L_law 240 = .ok (.iconst 1, 1) := by decide +kernel
theorem d_L_law_241 : decode b_L_law 241 = .ok (.iadd, 1) := by decide +kernel
theorem d_L_law_242 : decode b_L_law 242 = .ok (.iaload, 1) := by decide +kernel
theorem d_L_law_243 : decode b_L_law 243 = .ok (.aload_n 0, 1) := by decide +kernel
theorem d_L_law_244 : decode b_L_law 244 = .ok (.iload_n 3, 1) := by decide +kernel
theorem d_L_law_245 : decode b_L_law 245 = .ok (.iconst 2, 1) := by decide +kernel
theorem d_L_law_246 : decode b_L_law 246 = .ok (.iadd, 1) := by decide +kernel
theorem d_L_law_247 : decode b_L_law 247 = .ok (.iaload, 1) := by decide +kernel
theorem d_L_law_248 : decode b_L_law 248 = .ok (.aload_n 0, 1) := by decide +kernel
theorem d_L_law_249 : decode b_L_law 249 = .ok (.iload_n 3, 1) := by decide +kernel
theorem d_L_law_250 : decode b_L_law 250 = .ok (.iconst 3, 1) := by decide +kernel
theorem d_L_law_251 : decode b_L_law 251 = .ok (.iadd, 1) := by decide +kernel
theorem d_L_law_252 : decode b_L_law 252 = .ok (.iaload, 1) := by decide +kernel
theorem d_L_law_253 : decode b_L_law 253 = .ok (.invokevirtual 38, 3) := by decide +kernel
theorem d_L_law_256 : decode b_L_law 256 = .ok (.aload_n 2, 1) := by decide +kernel
theorem d_L_law_257 : decode b_L_law 257 = .ok (.aload_n 0, 1) := by decide +kernel
theorem d_L_law_258 : decode b_L_law 258 = .ok (.iload_n 3, 1) := by decide +kernel
theorem d_L_law_259 : decode b_L_law 259 = .ok (.iconst 1, 1) := by decide +kernel
theorem d_L_law_260 : decode b_L_law 260 = .ok (.iadd, 1) := by decide +kernel
theorem d_L_law_261 : decode b_L_law 261 = .ok (.iaload, 1) := by decide +kernel
theorem d_L_law_262 : decode b_L_law 262 = .ok (.aload_n 0, 1) := by decide +kernel
theorem d_L_law_263 : decode b_L_law 263 = .ok (.iload_n 3, 1) := by decide +kernel
theorem d_L_law_264 : decode b_L_law 264 = .ok (.iconst 2, 1) := by decide +kernel
theorem d_L_law_265 : decode b_L_law 265 = .ok (.iadd, 1) := by decide +kernel
theorem d_L_law_266 : decode b_L_law 266 = .ok (.iaload, 1) := by decide +kernel
theorem d_L_law_267 : decode b_L_law 267 = .ok (.aload_n 0, 1) := by decide +kernel
theorem d_L_law_268 : decode b_L_law 268 = .ok (.iload_n 3, 1) := by decide +kernel
theorem d_L_law_269 : decode b_L_law 269 = .ok (.iconst 3, 1) := by decide +kernel
theorem d_L_law_270 : decode b_L_law 270 = .ok (.iadd, 1) := by decide +kernel
theorem d_L_law_271 : decode b_L_law 271 = .ok (.iaload, 1) := by decide +kernel
theorem d_L_law_272 : decode b_L_law 272 = .ok (.invokevirtual 42, 3) := by decide +kernel
theorem d_L_law_275 : decode b_L_law 275 = .ok (.if_icmp .eq 240, 3) := by decide +kernel
theorem d_L_law_278 : decode b_L_law 278 = .ok (.iconst 0, 1) := by decide +kernel
theorem d_L_law_279 : decode b_L_law 279 = .ok (.ireturn, 1) := by decide +kernel
theorem d_L_law_280 : decode b_L_law 280 = .ok (.aload_n 1, 1) := by decide +kernel
theorem d_L_law_281 : decode b_L_law 281 = .ok (.invokevirtual 43, 3) := by decide +kernel
theorem d_L_law_284 : decode b_L_law 284 = .ok (.aload_n 2, 1) := by decide +kernel
theorem d_L_law_285 : decode b_L_law 285 = .ok (.invokevirtual 46, 3) := by decide +kernel
theorem d_L_law_288 : decode b_L_law 288 = .ok (.if_icmp .eq 227, 3) := by decide +kernel
theorem d_L_law_291 : decode b_L_law 291 = .ok (.iconst 0, 1) := by decide +kernel
theorem d_L_law_292 : decode b_L_law 292 = .ok (.ireturn, 1) := by decide +kernel
theorem d_L_law_293 : decode b_L_law 293 = .ok (.aload_n 1, 1) := by decide +kernel
theorem d_L_law_294 : decode b_L_law 294 = .ok (.aload_n 0, 1) := by decide +kernel
theorem d_L_law_295 : decode b_L_law 295 = .ok (.iload_n 3, 1) := by decide +kernel
theorem d_L_law_296 : decode b_L_law 296 = .ok (.iconst 1, 1) := by decide +kernel
theorem d_L_law_297 : decode b_L_law 297 = .ok (.iadd, 1) := by decide +kernel
theorem d_L_law_298 : decode b_L_law 298 = .ok (.iaload, 1) := by decide +kernel
theorem d_L_law_299 : decode b_L_law 299 = .ok (.aload_n 0, 1) := by decide +kernel
theorem d_L_law_300 : decode b_L_law 300 = .ok (.iload_n 3, 1) := by decide +kernel
theorem d_L_law_301 : decode b_L_law 301 = .ok (.iconst 2, 1) := by decide +kernel
theorem d_L_law_302 : decode b_L_law 302 = .ok (.iadd, 1) := by decide +kernel
theorem d_L_law_303 : decode b_L_law 303 = .ok (.iaload, 1) := by decide +kernel
theorem d_L_law_304 : decode b_L_law 304 = .ok (.aload_n 0, 1) := by decide +kernel
theorem d_L_law_305 : decode b_L_law 305 = .ok (.iload_n 3, 1) := by decide +kernel
theorem d_L_law_306 : decode b_L_law 306 = .ok (.iconst 3, 1) := by decide +kernel
theorem d_L_law_307 : decode b_L_law 307 = .ok (.iadd, 1) := by decide +kernel
theorem d_L_law_308 : decode b_L_law 308 = .ok (.iaload, 1) := by decide +kernel
theorem d_L_law_309 : decode b_L_law 309 = .ok (.aload_n 0, 1) := by decide +kernel
theorem d_L_law_310 : decode b_L_law 310 = .ok (.iload_n 3, 1) := by decide +kernel
theorem d_L_law_311 : decode b_L_law 311 = .ok (.iconst 4, 1) := by decide +kernel
theorem d_L_law_312 : decode b_L_law 312 = .ok (.iadd, 1) := by decide +kernel
theorem d_L_law_313 : decode b_L_law 313 = .ok (.iaload, 1) := by decide +kernel
theorem d_L_law_314 : decode b_L_law 314 = .ok (.aload_n 0, 1) := by decide +kernel
theorem d_L_law_315 : decode b_L_law 315 = .ok (.iload_n 3, 1) := by decide +kernel
theorem d_L_law_316 : decode b_L_law 316 = .ok (.iconst 5, 1) := by decide +kernel
theorem d_L_law_317 : decode b_L_law 317 = .ok (.iadd, 1) := by decide +kernel
theorem d_L_law_318 : decode b_L_law 318 = .ok (.iaload, 1) := by decide +kernel
theorem d_L_law_319 : decode b_L_law 319 = .ok (.invokevirtual 47, 3) := by decide +kernel
theorem d_L_law_322 : decode b_L_law 322 = .ok (.aload_n 2, 1) := by decide +kernel
theorem d_L_law_323 : decode b_L_law 323 = .ok (.aload_n 0, 1) := by decide +kernel
theorem d_L_law_324 : decode b_L_law 324 = .ok (.iload_n 3, 1) := by decide +kernel
theorem d_L_law_325 : decode b_L_law 325 = .ok (.iconst 1, 1) := by decide +kernel
theorem d_L_law_326 : decode b_L_law 326 = .ok (.iadd, 1) := by decide +kernel
theorem d_L_law_327 : decode b_L_law 327 = .ok (.iaload, 1) := by decide +kernel
theorem d_L_law_328 : decode b_L_law 328 = .ok (.aload_n 0, 1) := by decide +kernel
theorem d_L_law_329 : decode b_L_law 329 = .ok (.iload_n 3, 1) := by decide +kernel
theorem d_L_law_330 : decode b_L_law 330 = .ok (.iconst 2, 1) := by decide +kernel
theorem d_L_law_331 : decode b_L_law 331 = .ok (.iadd, 1) := by decide +kernel
theorem d_L_law_332 : decode b_L_law 332 = .ok (.iaload, 1) := by decide +kernel
theorem d_L_law_333 : decode b_L_law 333 = .ok (.aload_n 0, 1) := by decide +kernel
theorem d_L_law_334 : decode b_L_law 334 = .ok (.iload_n 3, 1) := by decide +kernel
theorem d_L_law_335 : decode b_L_law 335 = .ok (.iconst 3, 1) := by decide +kernel
theorem d_L_law_336 : decode b_L_law 336 = .ok (.iadd, 1) := by decide +kernel
theorem d_L_law_337 : decode b_L_law 337 = .ok (.iaload, 1) := by decide +kernel
theorem d_L_law_338 : decode b_L_law 338 = .ok (.aload_n 0, 1) := by decide +kernel
theorem d_L_law_339 : decode b_L_law 339 = .ok (.iload_n 3, 1) := by decide +kernel
theorem d_L_law_340 : decode b_L_law 340 = .ok (.iconst 4, 1) := by decide +kernel
theorem d_L_law_341 : decode b_L_law 341 = .ok (.iadd, 1) := by decide +kernel
theorem d_L_law_342 : decode b_L_law 342 = .ok (.iaload, 1) := by decide +kernel
theorem d_L_law_343 : decode b_L_law 343 = .ok (.aload_n 0, 1) := by decide +kernel
theorem d_L_law_344 : decode b_L_law 344 = .ok (.iload_n 3, 1) := by decide +kernel
theorem d_L_law_345 : decode b_L_law 345 = .ok (.iconst 5, 1) := by decide +kernel
theorem d_L_law_346 : decode b_L_law 346 = .ok (.iadd, 1) := by decide +kernel
theorem d_L_law_347 : decode b_L_law 347 = .ok (.iaload, 1) := by decide +kernel
theorem d_L_law_348 : decode b_L_law 348 = .ok (.invokevirtual 51, 3) := by decide +kernel
theorem d_L_law_351 : decode b_L_law 351 = .ok (.if_icmp .eq 164, 3) := by decide +kernel
theorem d_L_law_354 : decode b_L_law 354 = .ok (.iconst 0, 1) := by decide +kernel
theorem d_L_law_355 : decode b_L_law 355 = .ok (.ireturn, 1) := by decide +kernel
theorem d_L_law_356 : decode b_L_law 356 = .ok (.aload_n 1, 1) := by decide +kernel
theorem d_L_law_357 : decode b_L_law 357 = .ok (.aload_n 0, 1) := by decide +kernel
theorem d_L_law_358 : decode b_L_law 358 = .ok (.iload_n 3, 1) := by decide +kernel
theorem d_L_law_359 : decode b_L_law 359 = .ok (.iconst 1, 1) := by decide +kernel
theorem d_L_law_360 : decode b_L_law 360 = .ok (.iadd, 1) := by decide +kernel
theorem d_L_law_361 : decode b_L_law 361 = .ok (.iaload, 1) := by decide +kernel
theorem d_L_law_362 : decode b_L_law 362 = .ok (.aload_n 0, 1) := by decide +kernel
theorem d_L_law_363 : decode b_L_law 363 = .ok (.iload_n 3, 1) := by decide +kernel
theorem d_L_law_364 : decode b_L_law 364 = .ok (.iconst 2, 1) := by decide +kernel
theorem d_L_law_365 : decode b_L_law 365 = .ok (.iadd, 1) := by decide +kernel
theorem d_L_law_366 : decode b_L_law 366 = .ok (.iaload, 1) := by decide +kernel
theorem d_L_law_367 : decode b_L_law 367 = .ok (.aload_n 0, 1) := by decide +kernel
theorem d_L_law_368 : decode b_L_law 368 = .ok (.iload_n 3, 1) := by decide +kernel
theorem d_L_law_369 : decode b_L_law 369 = .ok (.iconst 3, 1) := by decide +kernel
theorem d_L_law_370 : decode b_L_law 370 = .ok (.iadd, 1) := by decide +kernel
theorem d_L_law_371 : decode b_L_law 371 = .ok (.iaload, 1) := by decide +kernel
theorem d_L_law_372 : decode b_L_law 372 = .ok (.aload_n 0, 1) := by decide +kernel
theorem d_L_law_373 : decode b_L_law 373 = .ok (.iload_n 3, 1) := by decide +kernel
theorem d_L_law_374 : decode b_L_law 374 = .ok (.iconst 4, 1) := by decide +kernel
theorem d_L_law_375 : decode b_L_law 375 = .ok (.iadd, 1) := by decide +kernel
theorem d_L_law_376 : decode b_L_law 376 = .ok (.iaload, 1) := by decide +kernel
theorem d_L_law_377 : decode b_L_law 377 = .ok (.invokevirtual 52, 3) := by decide +kernel
theorem d_L_law_380 : decode b_L_law 380 = .ok (.aload_n 2, 1) := by decide +kernel
theorem d_L_law_381 : decode b_L_law 381 = .ok (.aload_n 0, 1) := by decide +kernel
theorem d_L_law_382 : decode b_L_law 382 = .ok (.iload_n 3, 1) := by decide +kernel
theorem d_L_law_383 : decode b_L_law 383 = .ok (.iconst 1, 1) := by decide +kernel
theorem d_L_law_384 : decode b_L_law 384 = .ok (.iadd, 1) := by decide +kernel
theorem d_L_law_385 : decode b_L_law 385 = .ok (.iaload, 1) := by decide +kernel
theorem d_L_law_386 : decode b_L_law 386 = .ok (.aload_n 0, 1) := by decide +kernel
theorem d_L_law_387 : decode b_L_law 387 = .ok (.iload_n 3, 1) := by decide +kernel
theorem d_L_law_388 : decode b_L_law 388 = .ok (.iconst 2, 1) := by decide +kernel
theorem d_L_law_389 : decode b_L_law 389 = .ok (.iadd, 1) := by decide +kernel
theorem d_L_law_390 : decode b_L_law 390 = .ok (.iaload, 1) := by decide +kernel
theorem d_L_law_391 : decode b_L_law 391 = .ok (.aload_n 0, 1) := by decide +kernel
theorem d_L_law_392 : decode b_L_law 392 = .ok (.iload_n 3, 1) := by decide +kernel
theorem d_L_law_393 : decode b_L_law 393 = .ok (.iconst 3, 1) := by decide +kernel
theorem d_L_law_394 : decode b_L_law 394 = .ok (.iadd, 1) := by decide +kernel
theorem d_L_law_395 : decode b_L_law 395 = .ok (.iaload, 1) := by decide +kernel
theorem d_L_law_396 : decode b_L_law 396 = .ok (.aload_n 0, 1) := by decide +kernel
theorem d_L_law_397 : decode b_L_law 397 = .ok (.iload_n 3, 1) := by decide +kernel
theorem d_L_law_398 : decode b_L_law 398 = .ok (.iconst 4, 1) := by decide +kernel
theorem d_L_law_399 : decode b_L_law 399 = .ok (.iadd, 1) := by decide +kernel
theorem d_L_law_400 : decode b_L_law 400 = .ok (.iaload, 1) := by decide +kernel
theorem d_L_law_401 : decode b_L_law 401 = .ok (.invokevirtual 56, 3) := by decide +kernel
theorem d_L_law_404 : decode b_L_law 404 = .ok (.if_icmp .eq 111, 3) := by decide +kernel
theorem d_L_law_407 : decode b_L_law 407 = .ok (.iconst 0, 1) := by decide +kernel
theorem d_L_law_408 : decode b_L_law 408 = .ok (.ireturn, 1) := by decide +kernel
theorem d_L_law_409 : decode b_L_law 409 = .ok (.aload_n 1, 1) := by decide +kernel
theorem d_L_law_410 : decode b_L_law 410 = .ok (.aload_n 0, 1) := by decide +kernel
theorem d_L_law_411 : decode b_L_law 411 = .ok (.iload_n 3, 1) := by decide +kernel
theorem d_L_law_412 : decode b_L_law 412 = .ok (.iconst 1, 1) := by decide +kernel
theorem d_L_law_413 : decode b_L_law 413 = .ok (.iadd, 1) := by decide +kernel
theorem d_L_law_414 : decode b_L_law 414 = .ok (.iaload, 1) := by decide +kernel
theorem d_L_law_415 : decode b_L_law 415 = .ok (.aload_n 0, 1) := by decide +kernel
theorem d_L_law_416 : decode b_L_law 416 = .ok (.iload_n 3, 1) := by decide +kernel
theorem d_L_law_417 : decode b_L_law 417 = .ok (.iconst 2, 1) := by decide +kernel
theorem d_L_law_418 : decode b_L_law 418 = .ok (.iadd, 1) := by decide +kernel
theorem d_L_law_419 : decode b_L_law 419 = .ok (.iaload, 1) := by decide +kernel
theorem d_L_law_420 : decode b_L_law 420 = .ok (.aload_n 0, 1) := by decide +kernel
theorem d_L_law_421 : decode b_L_law 421 = .ok (.iload_n 3, 1) := by decide +kernel
theorem d_L_law_422 : decode b_L_law 422 = .ok (.iconst 3, 1) := by decide +kernel
theorem d_L_law_423 : decode b_L_law 423 = .ok (.iadd, 1) := by decide +kernel
theorem d_L_law_424 : decode b_L_law 424 = .ok (.iaload, 1) := by decide +kernel
theorem d_L_law_425 : decode b_L_law 425 = .ok (.aload_n 0, 1) := by decide +kernel
theorem d_L_law_426 : decode b_L_law 426 = .ok (.iload_n 3, 1) := by decide +kernel
theorem d_L_law_427 : decode b_L_law 427 = .ok (.iconst 4, 1) := by decide +kernel
theorem d_L_law_428 : decode b_L_law 428 = .ok (.iadd, 1) := by decide +kernel
theorem d_L_law_429 : decode b_L_law 429 = .ok (.iaload, 1) := by decide +kernel
theorem d_L_law_430 : decode b_L_law 430 = .ok (.invokevirtual 57, 3) := by decide +kernel
theorem d_L_law_433 : decode b_L_law 433 = .ok (.aload_n 2, 1) := by decide +kernel
theorem d_L_law_434 : decode b_L_law 434 = .ok (.aload_n 0, 1) := by decide +kernel
theorem d_L_law_435 : decode b_L_law 435 = .ok (.iload_n 3, 1) := by decide +kernel
theorem d_L_law_436 : decode b_L_law 436 = .ok (.iconst 1, 1) := by decide +kernel
theorem d_L_law_437 : decode b_L_law 437 = .ok (.iadd, 1) := by decide +kernel
theorem d_L_law_438 : decode b_L_law 438 = .ok (.iaload, 1) := by decide +kernel
theorem d_L_law_439 : decode b_L_law 439 = .ok (.aload_n 0, 1) := by decide +kernel
theorem d_L_law_440 : decode b_L_law 440 = .ok (.iload_n 3, 1) := by decide +kernel
theorem d_L_law_441 : decode b_L_law 441 = .ok (.iconst 2, 1) := by decide +kernel
theorem d_L_law_442 : decode b_L_law 442 = .ok (.iadd, 1) := by decide +kernel
theorem d_L_law_443 : decode b_L_law 443 = .ok (.iaload, 1) := by decide +kernel
theorem d_L_law_444 : decode b_L_law 444 = .ok (.aload_n 0, 1) := by decide +kernel
theorem d_L_law_445 : decode b_L_law 445 = .ok (.iload_n 3, 1) := by decide +kernel
theorem d_L_law_446 : decode b_L_law 446 = .ok (.iconst 3, 1) := by decide +kernel
theorem d_L_law_447 : decode b_L_law 447 = .ok (.iadd, 1) := by decide +kernel
theorem d_L_law_448 : decode b_L_law 448 = .ok (.iaload, 1) := by decide +kernel
theorem d_L_law_449 : decode b_L_law 449 = .ok (.aload_n 0, 1) := by decide +kernel
theorem d_L_law_450 : decode b_L_law 450 = .ok (.iload_n 3, 1) := by decide +kernel
theorem d_L_law_451 : decode b_L_law 451 = .ok (.iconst 4, 1) := by decide +kernel
theorem d_L_law_452 : decode b_L_law 452 = .ok (.iadd, 1) := by decide +kernel
theorem d_L_law_453 : decode b_L_law 453 = .ok (.iaload, 1) := by decide +kernel
theorem d_L_law_454 : decode b_L_law 454 = .ok (.invokevirtual 60, 3) := by decide +kernel
theorem d_L_law_457 : decode b_L_law 457 = .ok (.if_icmp .eq 58, 3) := by decide +kernel
theorem d_L_law_460 : decode b_L_law 460 = .ok (.iconst 0, 1) := by decide +kernel
theorem d_L_law_461 : decode b_L_law 461 = .ok (.ireturn, 1) := by decide +kernel
theorem d_L_law_462 : decode b_L_law 462 = .ok (.aload_n 1, 1) := by decide +kernel
theorem d_L_law_463 : decode b_L_law 463 = .ok (.aload_n 0, 1) := by decide +kernel
theorem d_L_law_464 : decode b_L_law 464 = .ok (.iload_n 3, 1) := by decide +kernel
theorem d_L_law_465 : decode b_L_law 465 = .ok (.iconst 1, 1) := by decide +kernel
theorem d_L_law_466 : decode b_L_law 466 = .ok (.iadd, 1) := by decide +kernel
theorem d_L_law_467 : decode b_L_law 467 = .ok (.iaload, 1) := by decide +kernel
theorem d_L_law_468 : decode b_L_law 468 = .ok (.aload_n 0, 1) := by decide +kernel
theorem d_L_law_469 : decode b_L_law 469 = .ok (.iload_n 3, 1) := by decide +kernel
theorem d_L_law_470 : decode b_L_law 470 = .ok (.iconst 2, 1) := by decide +kernel
theorem d_L_law_471 : decode b_L_law 471 = .ok (.iadd, 1) := by decide +kernel
theorem d_L_law_472 : decode b_L_law 472 = .ok (.iaload, 1) := by decide +kernel
theorem d_L_law_473 : decode b_L_law 473 = .ok (.aload_n 0, 1) := by decide +kernel
theorem d_L_law_474 : decode b_L_law 474 = .ok (.iload_n 3, 1) := by decide +kernel
theorem d_L_law_475 : decode b_L_law 475 = .ok (.iconst 3, 1) := by decide +kernel
theorem d_L_law_476 : decode b_L_law 476 = .ok (.iadd, 1) := by decide +kernel
theorem d_L_law_477 : decode b_L_law 477 = .ok (.iaload, 1) := by decide +kernel
theorem d_L_law_478 : decode b_L_law 478 = .ok (.aload_n 0, 1) := by decide +kernel
theorem d_L_law_479 : decode b_L_law 479 = .ok (.iload_n 3, 1) := by decide +kernel
theorem d_L_law_480 : decode b_L_law 480 = .ok (.iconst 4, 1) := by decide +kernel
theorem d_L_law_481 : decode b_L_law 481 = .ok (.iadd, 1) := by decide +kernel
theorem d_L_law_482 : decode b_L_law 482 = .ok (.iaload, 1) := by decide +kernel
theorem d_L_law_483 : decode b_L_law 483 = .ok (.invokevirtual 61, 3) := by decide +kernel
theorem d_L_law_486 : decode b_L_law 486 = .ok (.aload_n 2, 1) := by decide +kernel
theorem d_L_law_487 : decode b_L_law 487 = .ok (.aload_n 0, 1) := by decide +kernel
theorem d_L_law_488 : decode b_L_law 488 = .ok (.iload_n 3, 1) := by decide +kernel
theorem d_L_law_489 : decode b_L_law 489 = .ok (.iconst 1, 1) := by decide +kernel
theorem d_L_law_490 : decode b_L_law 490 = .ok (.iadd, 1) := by decide +kernel
theorem d_L_law_491 : decode b_L_law 491 = .ok (.iaload, 1) := by decide +kernel
theorem d_L_law_492 : decode b_L_law 492 = .ok (.aload_n 0, 1) := by decide +kernel
theorem d_L_law_493 : decode b_L_law 493 = .ok (.iload_n 3, 1) := by decide +kernel
theorem d_L_law_494 : decode b_L_law 494 = .ok (.iconst 2, 1) := by decide +kernel
theorem d_L_law_495 : decode b_L_law 495 = .ok (.iadd, 1) := by decide +kernel
theorem d_L_law_496 : decode b_L_law 496 = .ok (.iaload, 1) := by decide +kernel
theorem d_L_law_497 : decode b_L_law 497 = .ok (.aload_n 0, 1) := by decide +kernel
theorem d_L_law_498 : decode b_L_law 498 = .ok (.iload_n 3, 1) := by decide +kernel
theorem d_L_law_499 : decode b_L_law 499 = .ok (.iconst 3, 1) := by decide +kernel
theorem d_L_law_500 : decode b_L_law 500 = .ok (.iadd, 1) := by decide +kernel
theorem d_L_law_501 : decode b_L_law 501 = .ok (.iaload, 1) := by decide +kernel
theorem d_L_law_502 : decode b_L_law 502 = .ok (.aload_n 0, 1) := by decide +kernel
theorem d_L_law_503 : decode b_L_law 503 = .ok (.iload_n 3, 1) := by decide +kernel
theorem d_L_law_504 : decode b_L_law 504 = .ok (.iconst 4, 1) := by decide +kernel
theorem d_L_law_505 : decode b_L_law 505 = .ok (.iadd, 1) := by decide +kernel
theorem d_L_law_506 : decode b_L_law 506 = .ok (.iaload, 1) := by decide +kernel
theorem d_L_law_507 : decode b_L_law 507 = .ok (.invokevirtual 64, 3) := by decide +kernel
theorem d_L_law_510 : decode b_L_law 510 = .ok (.if_icmp .eq 5, 3) := by decide +kernel
theorem d_L_law_513 : decode b_L_law 513 = .ok (.iconst 0, 1) := by decide +kernel
theorem d_L_law_514 : decode b_L_law 514 = .ok (.ireturn, 1) := by decide +kernel
theorem d_L_law_515 : decode b_L_law 515 = .ok (.iinc 3 6, 3) := by decide +kernel
theorem d_L_law_518 : decode b_L_law 518 = .ok (.goto (-500), 3) := by decide +kernel
theorem d_L_law_521 : decode b_L_law 521 = .ok (.iconst 1, 1) := by decide +kernel
theorem d_L_law_522 : decode b_L_law 522 = .ok (.ireturn, 1) := by decide +kernel
