theorem dX9_init_0 : decode cX9_init 0 = .ok (.aload_n 0, 1) := by decide +kernel
theorem dX9_init_1 : decode cX9_init 1 = .ok (.invokespecial 1, 3) := by decide +kernel
theorem dX9_init_4 : decode cX9_init 4 = .ok (.aload_n 0, 1) := by decide +kernel
theorem dX9_init_5 : decode cX9_init 5 = .ok (.bipush 103, 2) := by decide +kernel
theorem dX9_init_7 : decode cX9_init 7 = .ok (.newarray .int, 2) := by decide +kernel
theorem dX9_init_9 : decode cX9_init 9 = .ok (.putfield 7, 3) := by decide +kernel
theorem dX9_init_12 : decode cX9_init 12 = .ok (.aload_n 0, 1) := by decide +kernel
theorem dX9_init_13 : decode cX9_init 13 = .ok (.bipush 103, 2) := by decide +kernel
theorem dX9_init_15 : decode cX9_init 15 = .ok (.newarray .int, 2) := by decide +kernel
theorem dX9_init_17 : decode cX9_init 17 = .ok (.putfield 13, 3) := by decide +kernel
theorem dX9_init_20 : decode cX9_init 20 = .ok (.aload_n 0, 1) := by decide +kernel
theorem dX9_init_21 : decode cX9_init 21 = .ok (.bipush 21, 2) := by decide +kernel
theorem dX9_init_23 : decode cX9_init 23 = .ok (.newarray .int, 2) := by decide +kernel
theorem dX9_init_25 : decode cX9_init 25 = .ok (.putfield 16, 3) := by decide +kernel
theorem dX9_init_28 : decode cX9_init 28 = .ok (.aload_n 0, 1) := by decide +kernel
theorem dX9_init_29 : decode cX9_init 29 = .ok (.bipush 21, 2) := by decide +kernel
theorem dX9_init_31 : decode cX9_init 31 = .ok (.newarray .int, 2) := by decide +kernel
theorem dX9_init_33 : decode cX9_init 33 = .ok (.putfield 19, 3) := by decide +kernel
theorem dX9_init_36 : decode cX9_init 36 = .ok (.aload_n 0, 1) := by decide +kernel
theorem dX9_init_37 : decode cX9_init 37 = .ok (.sipush 420, 3) := by decide +kernel
theorem dX9_init_40 : decode cX9_init 40 = .ok (.newarray .int, 2) := by decide +kernel
theorem dX9_init_42 : decode cX9_init 42 = .ok (.putfield 22, 3) := by decide +kernel
theorem dX9_init_45 : decode cX9_init 45 = .ok (.aload_n 0, 1) := by decide +kernel
theorem dX9_init_46 : decode cX9_init 46 = .ok (.iconst 0, 1) := by decide +kernel
theorem dX9_init_47 : decode cX9_init 47 = .ok (.putfield 25, 3) := by decide +kernel
theorem dX9_init_50 : decode cX9_init 50 = .ok (.aload_n 0, 1) := by decide +kernel
theorem dX9_init_51 : decode cX9_init 51 = .ok (.iconst 1, 1) := by decide +kernel
theorem dX9_init_52 : decode cX9_init 52 = .ok (.putfield 29, 3) := by decide +kernel
theorem dX9_init_55 : decode cX9_init 55 = .ok (.aload_n 0, 1) := by decide +kernel
theorem dX9_init_56 : decode cX9_init 56 = .ok (.iconst 0, 1) := by decide +kernel
theorem dX9_init_57 : decode cX9_init 57 = .ok (.putfield 32, 3) := by decide +kernel
theorem dX9_init_60 : decode cX9_init 60 = .ok (.aload_n 0, 1) := by decide +kernel
theorem dX9_init_61 : decode cX9_init 61 = .ok (.sipush 1200, 3) := by decide +kernel
theorem dX9_init_64 : decode cX9_init 64 = .ok (.newarray .int, 2) := by decide +kernel
theorem dX9_init_66 : decode cX9_init 66 = .ok (.putfield 36, 3) := by decide +kernel
theorem dX9_init_69 : decode cX9_init 69 = .ok (.aload_n 0, 1) := by decide +kernel
theorem dX9_init_70 : decode cX9_init 70 = .ok (.iconst 0, 1) := by decide +kernel
theorem dX9_init_71 : decode cX9_init 71 = .ok (.putfield 39, 3) := by decide +kernel
theorem dX9_init_74 : decode cX9_init 74 = .ok (.aload_n 0, 1) := by decide +kernel
theorem dX9_init_75 : decode cX9_init 75 = .ok (.bipush 6, 2) := by decide +kernel
theorem dX9_init_77 : decode cX9_init 77 = .ok (.newarray .int, 2) := by decide +kernel
theorem dX9_init_79 : decode cX9_init 79 = .ok (.putfield 42, 3) := by decide +kernel
theorem dX9_init_82 : decode cX9_init 82 = .ok (.aload_n 0, 1) := by decide +kernel
theorem dX9_init_83 : decode cX9_init 83 = .ok (.iconst 0, 1) := by decide +kernel
theorem dX9_init_84 : decode cX9_init 84 = .ok (.putfield 45, 3) := by decide +kernel
theorem dX9_init_87 : decode cX9_init 87 = .ok (.aload_n 0, 1) := by decide +kernel
theorem dX9_init_88 : decode cX9_init 88 = .ok (.iconst (-1), 1) := by decide +kernel
theorem dX9_init_89 : decode cX9_init 89 = .ok (.putfield 48, 3) := by decide +kernel
theorem dX9_init_92 : decode cX9_init 92 = .ok (.aload_n 0, 1) := by decide +kernel
theorem dX9_init_93 : decode cX9_init 93 = .ok (.iconst 0, 1) := by decide +kernel
theorem dX9_init_94 : decode cX9_init 94 = .ok (.putfield 51, 3) := by decide +kernel
theorem dX9_init_97 : decode cX9_init 97 = .ok (.aload_n 0, 1) := by decide +kernel
theorem dX9_init_98 : decode cX9_init 98 = .ok (.iconst 0, 1) := by decide +kernel
theorem dX9_init_99 : decode cX9_init 99 = .ok (.putfield 54, 3) := by decide +kernel
theorem dX9_init_102 : decode cX9_init 102 = .ok (.aload_n 0, 1) := by decide +kernel
theorem dX9_init_103 : decode cX9_init 103 = .ok (.iconst 0, 1) := by decide +kernel
theorem dX9_init_104 : decode cX9_init 104 = .ok (.putfield 57, 3) := by decide +kernel
theorem dX9_init_107 : decode cX9_init 107 = .ok (.aload_n 0, 1) := by decide +kernel
theorem dX9_init_108 : decode cX9_init 108 = .ok (.iconst 0, 1) := by decide +kernel
theorem dX9_init_109 : decode cX9_init 109 = .ok (.putfield 60, 3) := by decide +kernel
theorem dX9_init_112 : decode cX9_init 112 = .ok (.aload_n 0, 1) := by decide +kernel
theorem dX9_init_113 : decode cX9_init 113 = .ok (.iconst (-1), 1) := by decide +kernel
theorem dX9_init_114 : decode cX9_init 114 = .ok (.putfield 63, 3) := by decide +kernel
theorem dX9_init_117 : decode cX9_init 117 = .ok (.aload_n 0, 1) := by decide +kernel
theorem dX9_init_118 : decode cX9_init 118 = .ok (.bipush 95, 2) := by decide +kernel
theorem dX9_init_120 : decode cX9_init 120 = .ok (.newarray .int, 2) := by decide +kernel
theorem dX9_init_122 : decode cX9_init 122 = .ok (.dup, 1) := by decide +kernel
theorem dX9_init_123 : decode cX9_init 123 = .ok (.iconst 0, 1) := by decide +kernel
theorem dX9_init_124 : decode cX9_init 124 = .ok (.bipush 19, 2) := by decide +kernel
theorem dX9_init_126 : decode cX9_init 126 = .ok (.iastore, 1) := by decide +kernel
theorem dX9_init_127 : decode cX9_init 127 = .ok (.dup, 1) := by decide +kernel
theorem dX9_init_128 : decode cX9_init 128 = .ok (.iconst 1, 1) := by decide +kernel
theorem dX9_init_129 : decode cX9_init 129 = .ok (.bipush 8, 2) := by decide +kernel
theorem dX9_init_131 : decode cX9_init 131 = .ok (.iastore, 1) := by decide +kernel
theorem dX9_init_132 : decode cX9_init 132 = .ok (.dup, 1) := by decide +kernel
theorem dX9_init_133 : decode cX9_init 133 = .ok (.iconst 2, 1) := by decide +kernel
theorem dX9_init_134 : decode cX9_init 134 = .ok (.iconst 5, 1) := by decide +kernel
theorem dX9_init_135 : decode cX9_init 135 = .ok (.iastore, 1) := by decide +kernel
theorem dX9_init_136 : decode cX9_init 136 = .ok (.dup, 1) := by decide +kernel
theorem dX9_init_137 : decode cX9_init 137 = .ok (.iconst 3, 1) := by decide +kernel
theorem dX9_init_138 : decode cX9_init 138 = .ok (.iconst 5, 1) := by decide +kernel
theorem dX9_init_139 : decode cX9_init 139 = .ok (.iastore, 1) := by decide +kernel
theorem dX9_init_140 : decode cX9_init 140 = .ok (.dup, 1) := by decide +kernel
theorem dX9_init_141 : decode cX9_init 141 = .ok (.iconst 4, 1) := by decide +kernel
theorem dX9_init_142 : decode cX9_init 142 = .ok (.bipush 20, 2) := by decide +kernel
theorem dX9_init_144 : decode cX9_init 144 = .ok (.iastore, 1) := by decide +kernel
theorem dX9_init_145 : decode cX9_init 145 = .ok (.dup, 1) := by decide +kernel
theorem dX9_init_146 : decode cX9_init 146 = .ok (.iconst 5, 1) := by decide +kernel
theorem dX9_init_147 : decode cX9_init 147 = .ok (.iconst 0, 1) := by decide +kernel
theorem dX9_init_148 : decode cX9_init 148 = .ok (.iastore, 1) := by decide +kernel
theorem dX9_init_149 : decode cX9_init 149 = .ok (.dup, 1) := by decide +kernel
theorem dX9_init_150 : decode cX9_init 150 = .ok (.bipush 6, 2) := by decide +kernel
theorem dX9_init_152 : decode cX9_init 152 = .ok (.bipush 20, 2) := by decide +kernel
theorem dX9_init_154 : decode cX9_init 154 = .ok (.iastore, 1) := by decide +kernel
theorem dX9_init_155 : decode cX9_init 155 = .ok (.dup, 1) := by decide +kernel
theorem dX9_init_156 : decode cX9_init 156 = .ok (.bipush 7, 2) := by decide +kernel
theorem dX9_init_158 : decode cX9_init 158 = .ok (.bipush 8, 2) := by decide +kernel
theorem dX9_init_160 : decode cX9_init 160 = .ok (.iastore, 1) := by decide +kernel
theorem dX9_init_161 : decode cX9_init 161 = .ok (.dup, 1) := by decide +kernel
theorem dX9_init_162 : decode cX9_init 162 = .ok (.bipush 8, 2) := by decide +kernel
theorem dX9_init_164 : decode cX9_init 164 = .ok (.bipush 9, 2) := by decide +kernel
theorem dX9_init_166 : decode cX9_init 166 = .ok (.iastore, 1) := by decide +kernel
theorem dX9_init_167 : decode cX9_init 167 = .ok (.dup, 1) := by decide +kernel
theorem dX9_init_168 : decode cX9_init 168 = .ok (.bipush 9, 2) := by decide +kernel
theorem dX9_init_170 : decode cX9_init 170 = .ok (.iconst 3, 1) := by decide +kernel
theorem dX9_init_171 : decode cX9_init 171 = .ok (.iastore, 1) := by decide +kernel
theorem dX9_init_172 : decode cX9_init 172 = .ok (.dup, 1) := by decide +kernel
theorem dX9_init_173 : decode cX9_init 173 = .ok (.bipush 10, 2) := by decide +kernel
theorem dX9_init_175 : decode cX9_init 175 = .ok (.bipush 11, 2) := by decide +kernel
theorem dX9_init_177 : decode cX9_init 177 = .ok (.iastore, 1) := by decide +kernel
theorem dX9_init_178 : decode cX9_init 178 = .ok (.dup, 1) := by decide +kernel
theorem dX9_init_179 : decode cX9_init 179 = .ok (.bipush 11, 2) := by decide +kernel
theorem dX9_init_181 : decode cX9_init 181 = .ok (.iconst 0, 1) := by decide +kernel
theorem dX9_init_182 : decode cX9_init 182 = .ok (.iastore, 1) := by decide +kernel
theorem dX9_init_183 : decode cX9_init 183 = .ok (.dup, 1) := by decide +kernel
theorem dX9_init_184 : decode cX9_init 184 = .ok (.bipush 12, 2) := by decide +kernel
theorem dX9_init_186 : decode cX9_init 186 = .ok (.iconst 2, 1) := by decide +kernel
theorem dX9_init_187 : decode cX9_init 187 = .ok (.iastore, 1) := by decide +kernel
theorem dX9_init_188 : decode cX9_init 188 = .ok (.dup, 1) := by decide +kernel
theorem dX9_init_189 : decode cX9_init 189 = .ok (.bipush 13, 2) := by decide +kernel
theorem dX9_init_191 : decode cX9_init 191 = .ok (.iconst 1, 1) := by decide +kernel
theorem dX9_init_192 : decode cX9_init 192 = .ok (.iastore, 1) := by decide +kernel
theorem dX9_init_193 : decode cX9_init 193 = .ok (.dup, 1) := by decide +kernel
theorem dX9_init_194 : decode cX9_init 194 = .ok (.bipush 14, 2) := by decide +kernel
theorem dX9_init_196 : decode cX9_init 196 = .ok (.bipush 19, 2) := by decide +kernel
theorem dX9_init_198 : decode cX9_init 198 = .ok (.iastore, 1) := by decide +kernel
theorem dX9_init_199 : decode cX9_init 199 = .ok (.dup, 1) := by decide +kernel
theorem dX9_init_200 : decode cX9_init 200 = .ok (.bipush 15, 2) := by decide +kernel
theorem dX9_init_202 : decode cX9_init 202 = .ok (.iconst 5, 1) := by decide +kernel
theorem dX9_init_203 : decode cX9_init 203 = .ok (.iastore, 1) := by decide +kernel
theorem dX9_init_204 : decode cX9_init 204 = .ok (.dup, 1) := by decide +kernel
theorem dX9_init_205 : decode cX9_init 205 = .ok (.bipush 16, 2) := by decide +kernel
theorem dX9_init_207 : decode cX9_init 207 = .ok (.iconst 0, 1) := by decide +kernel
theorem dX9_init_208 : decode cX9_init 208 = .ok (.iastore, 1) := by decide +kernel
theorem dX9_init_209 : decode cX9_init 209 = .ok (.dup, 1) := by decide +kernel
theorem dX9_init_210 : decode cX9_init 210 = .ok (.bipush 17, 2) := by decide +kernel
theorem dX9_init_212 : decode cX9_init 212 = .ok (.bipush 16, 2) := by decide +kernel
theorem dX9_init_214 : decode cX9_init 214 = .ok (.iastore, 1) := by decide +kernel
theorem dX9_init_215 : decode cX9_init 215 = .ok (.dup, 1) := by decide +kernel
theorem dX9_init_216 : decode cX9_init 216 = .ok (.bipush 18, 2) := by decide +kernel
theorem dX9_init_218 : decode cX9_init 218 = .ok (.bipush 18, 2) := by decide +kernel
theorem dX9_init_220 : decode cX9_init 220 = .ok (.iastore, 1) := by decide +kernel
theorem dX9_init_221 : decode cX9_init 221 = .ok (.dup, 1) := by decide +kernel
theorem dX9_init_222 : decode cX9_init 222 = .ok (.bipush 19, 2) := by decide +kernel
theorem dX9_init_224 : decode cX9_init 224 = .ok (.iconst 5, 1) := by decide +kernel
theorem dX9_init_225 : decode cX9_init 225 = .ok (.iastore, 1) := by decide +kernel
theorem dX9_init_226 : decode cX9_init 226 = .ok (.dup, 1) := by decide +kernel
theorem dX9_init_227 : decode cX9_init 227 = .ok (.bipush 20, 2) := by decide +kernel
theorem dX9_init_229 : decode cX9_init 229 = .ok (.bipush 19, 2) := by decide +kernel
theorem dX9_init_231 : decode cX9_init 231 = .ok (.iastore, 1) := by decide +kernel
theorem dX9_init_232 : decode cX9_init 232 = .ok (.dup, 1) := by decide +kernel
theorem dX9_init_233 : decode cX9_init 233 = .ok (.bipush 21, 2) := by decide +kernel
theorem dX9_init_235 : decode cX9_init 235 = .ok (.bipush 19, 2) := by decide +kernel
theorem dX9_init_237 : decode cX9_init 237 = .ok (.iastore, 1) := by decide +kernel
theorem dX9_init_238 : decode cX9_init 238 = .ok (.dup, 1) := by decide +kernel
theorem dX9_init_239 : decode cX9_init 239 = .ok (.bipush 22, 2) := by decide +kernel
theorem dX9_init_241 : decode cX9_init 241 = .ok (.iconst 0, 1) := by decide +kernel
theorem dX9_init_242 : decode cX9_init 242 = .ok (.iastore, 1) := by decide +kernel
theorem dX9_init_243 : decode cX9_init 243 = .ok (.dup, 1) := by decide +kernel
theorem dX9_init_244 : decode cX9_init 244 = .ok (.bipush 23, 2) := by decide +kernel
theorem dX9_init_246 : decode cX9_init 246 = .ok (.bipush 20, 2) := by decide +kernel
theorem dX9_init_248 : decode cX9_init 248 = .ok (.iastore, 1) := by decide +kernel
theorem dX9_init_249 : decode cX9_init 249 = .ok (.dup, 1) := by decide +kernel
theorem dX9_init_250 : decode cX9_init 250 = .ok (.bipush 24, 2) := by decide +kernel
theorem dX9_init_252 : decode cX9_init 252 = .ok (.bipush 15, 2) := by decide +kernel
theorem dX9_init_254 : decode cX9_init 254 = .ok (.iastore, 1) := by decide +kernel
theorem dX9_init_255 : decode cX9_init 255 = .ok (.dup, 1) := by decide +kernel
theorem dX9_init_256 : decode cX9_init 256 = .ok (.bipush 25, 2) := by decide +kernel
theorem dX9_init_258 : decode cX9_init 258 = .ok (.bipush 15, 2) := by decide +kernel
theorem dX9_init_260 : decode cX9_init 260 = .ok (.iastore, 1) := by decide +kernel
theorem dX9_init_261 : decode cX9_init 261 = .ok (.dup, 1) := by decide +kernel
theorem dX9_init_262 : decode cX9_init 262 = .ok (.bipush 26, 2) := by decide +kernel
theorem dX9_init_264 : decode cX9_init 264 = .ok (.bipush 12, 2) := by decide +kernel
theorem dX9_init_266 : decode cX9_init 266 = .ok (.iastore, 1) := by decide +kernel
theorem dX9_init_267 : decode cX9_init 267 = .ok (.dup, 1) := by decide +kernel
theorem dX9_init_268 : decode cX9_init 268 = .ok (.bipush 27, 2) := by decide +kernel
theorem dX9_init_270 : decode cX9_init 270 = .ok (.iconst 0, 1) := by decide +kernel
theorem dX9_init_271 : decode cX9_init 271 = .ok (.iastore, 1) := by decide +kernel
theorem dX9_init_272 : decode cX9_init 272 = .ok (.dup, 1) := by decide +kernel
theorem dX9_init_273 : decode cX9_init 273 = .ok (.bipush 28, 2) := by decide +kernel
theorem dX9_init_275 : decode cX9_init 275 = .ok (.iconst 1, 1) := by decide +kernel
theorem dX9_init_276 : decode cX9_init 276 = .ok (.iastore, 1) := by decide +kernel
theorem dX9_init_277 : decode cX9_init 277 = .ok (.dup, 1) := by decide +kernel
theorem dX9_init_278 : decode cX9_init 278 = .ok (.bipush 29, 2) := by decide +kernel
theorem dX9_init_280 : decode cX9_init 280 = .ok (.bipush 12, 2) := by decide +kernel
theorem dX9_init_282 : decode cX9_init 282 = .ok (.iastore, 1) := by decide +kernel
theorem dX9_init_283 : decode cX9_init 283 = .ok (.dup, 1) := by decide +kernel
theorem dX9_init_284 : decode cX9_init 284 = .ok (.bipush 30, 2) := by decide +kernel
theorem dX9_init_286 : decode cX9_init 286 = .ok (.bipush 12, 2) := by decide +kernel
theorem dX9_init_288 : decode cX9_init 288 = .ok (.iastore, 1) := by decide +kernel
theorem dX9_init_289 : decode cX9_init 289 = .ok (.dup, 1) := by decide +kernel
theorem dX9_init_290 : decode cX9_init 290 = .ok (.bipush 31, 2) := by decide +kernel
theorem dX9_init_292 : decode cX9_init 292 = .ok (.bipush 15, 2) := by decide +kernel
theorem dX9_init_294 : decode cX9_init 294 = .ok (.iastore, 1) := by decide +kernel
theorem dX9_init_295 : decode cX9_init 295 = .ok (.dup, 1) := by decide +kernel
theorem dX9_init_296 : decode cX9_init 296 = .ok (.bipush 32, 2) := by decide +kernel
theorem dX9_init_298 : decode cX9_init 298 = .ok (.bipush 23, 2) := by decide +kernel
theorem dX9_init_300 : decode cX9_init 300 = .ok (.iastore, 1) := by decide +kernel
theorem dX9_init_301 : decode cX9_init 301 = .ok (.dup, 1) := by decide +kernel
theorem dX9_init_302 : decode cX9_init 302 = .ok (.bipush 33, 2) := by decide +kernel
theorem dX9_init_304 : decode cX9_init 304 = .ok (.iconst 0, 1) := by decide +kernel
theorem dX9_init_305 : decode cX9_init 305 = .ok (.iastore, 1) := by decide +kernel
theorem dX9_init_306 : decode cX9_init 306 = .ok (.dup, 1) := by decide +kernel
theorem dX9_init_307 : decode cX9_init 307 = .ok (.bipush 34, 2) := by decide +kernel
theorem dX9_init_309 : decode cX9_init 309 = .ok (.bipush 6, 2) := by decide +kernel
theorem dX9_init_311 : decode cX9_init 311 = .ok (.iastore, 1) := by decide +kernel
theorem dX9_init_312 : decode cX9_init 312 = .ok (.dup, 1) := by decide +kernel
theorem dX9_init_313 : decode cX9_init 313 = .ok (.bipush 35, 2) := by decide +kernel
theorem dX9_init_315 : decode cX9_init 315 = .ok (.bipush 12, 2) := by decide +kernel
theorem dX9_init_317 : decode cX9_init 317 = .ok (.iastore, 1) := by decide +kernel
theorem dX9_init_318 : decode cX9_init 318 = .ok (.dup, 1) := by decide +kernel
theorem dX9_init_319 : decode cX9_init 319 = .ok (.bipush 36, 2) := by decide +kernel
theorem dX9_init_321 : decode cX9_init 321 = .ok (.iconst 1, 1) := by decide +kernel
theorem dX9_init_322 : decode cX9_init 322 = .ok (.iastore, 1) := by decide +kernel
theorem dX9_init_323 : decode cX9_init 323 = .ok (.dup, 1) := by decide +kernel
theorem dX9_init_324 : decode cX9_init 324 = .ok (.bipush 37, 2) := by decide +kernel
theorem dX9_init_326 : decode cX9_init 326 = .ok (.bipush 14, 2) := by decide +kernel
theorem dX9_init_328 : decode cX9_init 328 = .ok (.iastore, 1) := by decide +kernel
theorem dX9_init_329 : decode cX9_init 329 = .ok (.dup, 1) := by decide +kernel
theorem dX9_init_330 : decode cX9_init 330 = .ok (.bipush 38, 2) := by decide +kernel
theorem dX9_init_332 : decode cX9_init 332 = .ok (.bipush 7, 2) := by decide +kernel
theorem dX9_init_334 : decode cX9_init 334 = .ok (.iastore, 1) := by decide +kernel
theorem dX9_init_335 : decode cX9_init 335 = .ok (.dup, 1) := by decide +kernel
theorem dX9_init_336 : decode cX9_init 336 = .ok (.bipush 39, 2) := by decide +kernel
theorem dX9_init_338 : decode cX9_init 338 = .ok (.iconst 5, 1) := by decide +kernel
theorem dX9_init_339 : decode cX9_init 339 = .ok (.iastore, 1) := by decide +kernel
theorem dX9_init_340 : decode cX9_init 340 = .ok (.dup, 1) := by decide +kernel
theorem dX9_init_341 : decode cX9_init 341 = .ok (.bipush 40, 2) := by decide +kernel
theorem dX9_init_343 : decode cX9_init 343 = .ok (.iconst 0, 1) := by decide +kernel
theorem dX9_init_344 : decode cX9_init 344 = .ok (.iastore, 1) := by decide +kernel
theorem dX9_init_345 : decode cX9_init 345 = .ok (.dup, 1) := by decide +kernel
theorem dX9_init_346 : decode cX9_init 346 = .ok (.bipush 41, 2) := by decide +kernel
theorem dX9_init_348 : decode cX9_init 348 = .ok (.bipush 15, 2) := by decide +kernel
theorem dX9_init_350 : decode cX9_init 350 = .ok (.iastore, 1) := by decide +kernel
theorem dX9_init_351 : decode cX9_init 351 = .ok (.dup, 1) := by decide +kernel
theorem dX9_init_352 : decode cX9_init 352 = .ok (.bipush 42, 2) := by decide +kernel
theorem dX9_init_354 : decode cX9_init 354 = .ok (.bipush 14, 2) := by decide +kernel
theorem dX9_init_356 : decode cX9_init 356 = .ok (.iastore, 1) := by decide +kernel
theorem dX9_init_357 : decode cX9_init 357 = .ok (.dup, 1) := by decide +kernel
theorem dX9_init_358 : decode cX9_init 358 = .ok (.bipush 43, 2) := by decide +kernel
theorem dX9_init_360 : decode cX9_init 360 = .ok (.iconst 0, 1) := by decide +kernel
theorem dX9_init_361 : decode cX9_init 361 = .ok (.iastore, 1) := by decide +kernel
theorem dX9_init_362 : decode cX9_init 362 = .ok (.dup, 1) := by decide +kernel
theorem dX9_init_363 : decode cX9_init 363 = .ok (.bipush 44, 2) := by decide +kernel
theorem dX9_init_365 : decode cX9_init 365 = .ok (.bipush 14, 2) := by decide +kernel
theorem dX9_init_367 : decode cX9_init 367 = .ok (.iastore, 1) := by decide +kernel
theorem dX9_init_368 : decode cX9_init 368 = .ok (.dup, 1) := by decide +kernel
theorem dX9_init_369 : decode cX9_init 369 = .ok (.bipush 45, 2) := by decide +kernel
theorem dX9_init_371 : decode cX9_init 371 = .ok (.bipush 15, 2) := by decide +kernel
theorem dX9_init_373 : decode cX9_init 373 = .ok (.iastore, 1) := by decide +kernel
theorem dX9_init_374 : decode cX9_init 374 = .ok (.dup, 1) := by decide +kernel
theorem dX9_init_375 : decode cX9_init 375 = .ok (.bipush 46, 2) := by decide +kernel
theorem dX9_init_377 : decode cX9_init 377 = .ok (.bipush 18, 2) := by decide +kernel
theorem dX9_init_379 : decode cX9_init 379 = .ok (.iastore, 1) := by decide +kernel
theorem dX9_init_380 : decode cX9_init 380 = .ok (.dup, 1) := by decide +kernel
theorem dX9_init_381 : decode cX9_init 381 = .ok (.bipush 47, 2) := by decide +kernel
theorem dX9_init_383 : decode cX9_init 383 = .ok (.bipush 20, 2) := by decide +kernel
theorem dX9_init_385 : decode cX9_init 385 = .ok (.iastore, 1) := by decide +kernel
theorem dX9_init_386 : decode cX9_init 386 = .ok (.dup, 1) := by decide +kernel
theorem dX9_init_387 : decode cX9_init 387 = .ok (.bipush 48, 2) := by decide +kernel
theorem dX9_init_389 : decode cX9_init 389 = .ok (.bipush 8, 2) := by decide +kernel
theorem dX9_init_391 : decode cX9_init 391 = .ok (.iastore, 1) := by decide +kernel
theorem dX9_init_392 : decode cX9_init 392 = .ok (.dup, 1) := by decide +kernel
theorem dX9_init_393 : decode cX9_init 393 = .ok (.bipush 49, 2) := by decide +kernel
theorem dX9_init_395 : decode cX9_init 395 = .ok (.iconst 0, 1) := by decide +kernel
theorem dX9_init_396 : decode cX9_init 396 = .ok (.iastore, 1) := by decide +kernel
theorem dX9_init_397 : decode cX9_init 397 = .ok (.dup, 1) := by decide +kernel
theorem dX9_init_398 : decode cX9_init 398 = .ok (.bipush 50, 2) := by decide +kernel
theorem dX9_init_400 : decode cX9_init 400 = .ok (.iconst 5, 1) := by decide +kernel
theorem dX9_init_401 : decode cX9_init 401 = .ok (.iastore, 1) := by decide +kernel
theorem dX9_init_402 : decode cX9_init 402 = .ok (.dup, 1) := by decide +kernel
theorem dX9_init_403 : decode cX9_init 403 = .ok (.bipush 51, 2) := by decide +kernel
theorem dX9_init_405 : decode cX9_init 405 = .ok (.iconst 1, 1) := by decide +kernel
theorem dX9_init_406 : decode cX9_init 406 = .ok (.iastore, 1) := by decide +kernel
theorem dX9_init_407 : decode cX9_init 407 = .ok (.dup, 1) := by decide +kernel
theorem dX9_init_408 : decode cX9_init 408 = .ok (.bipush 52, 2) := by decide +kernel
theorem dX9_init_410 : decode cX9_init 410 = .ok (.bipush 19, 2) := by decide +kernel
theorem dX9_init_412 : decode cX9_init 412 = .ok (.iastore, 1) := by decide +kernel
theorem dX9_init_413 : decode cX9_init 413 = .ok (.dup, 1) := by decide +kernel
theorem dX9_init_414 : decode cX9_init 414 = .ok (.bipush 53, 2) := by decide +kernel
theorem dX9_init_416 : decode cX9_init 416 = .ok (.bipush 20, 2) := by decide +kernel
theorem dX9_init_418 : decode cX9_init 418 = .ok (.iastore, 1) := by decide +kernel
theorem dX9_init_419 : decode cX9_init 419 = .ok (.dup, 1) := by decide +kernel
theorem dX9_init_420 : decode cX9_init 420 = .ok (.bipush 54, 2) := by decide +kernel
theorem dX9_init_422 : decode cX9_init 422 = .ok (.iconst 0, 1) := by decide +kernel
theorem dX9_init_423 : decode cX9_init 423 = .ok (.iastore, 1) := by decide +kernel
theorem dX9_init_424 : decode cX9_init 424 = .ok (.dup, 1) := by decide +kernel
theorem dX9_init_425 : decode cX9_init 425 = .ok (.bipush 55, 2) := by decide +kernel
theorem dX9_init_427 : decode cX9_init 427 = .ok (.bipush 19, 2) := by decide +kernel
theorem dX9_init_429 : decode cX9_init 429 = .ok (.iastore, 1) := by decide +kernel
theorem dX9_init_430 : decode cX9_init 430 = .ok (.dup, 1) := by decide +kernel
theorem dX9_init_431 : decode cX9_init 431 = .ok (.bipush 56, 2) := by decide +kernel
theorem dX9_init_433 : decode cX9_init 433 = .ok (.bipush 15, 2) := by decide +kernel
theorem dX9_init_435 : decode cX9_init 435 = .ok (.iastore, 1) := by decide +kernel
theorem dX9_init_436 : decode cX9_init 436 = .ok (.dup, 1) := by decide +kernel
theorem dX9_init_437 : decode cX9_init 437 = .ok (.bipush 57, 2) := by decide +kernel
theorem dX9_init_439 : decode cX9_init 439 = .ok (.bipush 21, 2) := by decide +kernel
theorem dX9_init_441 : decode cX9_init 441 = .ok (.iastore, 1) := by decide +kernel
theorem dX9_init_442 : decode cX9_init 442 = .ok (.dup, 1) := by decide +kernel
theorem dX9_init_443 : decode cX9_init 443 = .ok (.bipush 58, 2) := by decide +kernel
theorem dX9_init_445 : decode cX9_init 445 = .ok (.bipush 20, 2) := by decide +kernel
theorem dX9_init_447 : decode cX9_init 447 = .ok (.iastore, 1) := by decide +kernel
theorem dX9_init_448 : decode cX9_init 448 = .ok (.dup, 1) := by decide +kernel
theorem dX9_init_449 : decode cX9_init 449 = .ok (.bipush 59, 2) := by decide +kernel
theorem dX9_init_451 : decode cX9_init 451 = .ok (.bipush 8, 2) := by decide +kernel
theorem dX9_init_453 : decode cX9_init 453 = .ok (.iastore, 1) := by decide +kernel
theorem dX9_init_454 : decode cX9_init 454 = .ok (.dup, 1) := by decide +kernel
theorem dX9_init_455 : decode cX9_init 455 = .ok (.bipush 60, 2) := by decide +kernel
theorem dX9_init_457 : decode cX9_init 457 = .ok (.iconst 0, 1) := by decide +kernel
theorem dX9_init_458 : decode cX9_init 458 = .ok (.iastore, 1) := by decide +kernel
theorem dX9_init_459 : decode cX9_init 459 = .ok (.dup, 1) := by decide +kernel
theorem dX9_init_460 : decode cX9_init 460 = .ok (.bipush 61, 2) := by decide +kernel
theorem dX9_init_462 : decode cX9_init 462 = .ok (.bipush 23, 2) := by decide +kernel
theorem dX9_init_464 : decode cX9_init 464 = .ok (.iastore, 1) := by decide +kernel
theorem dX9_init_465 : decode cX9_init 465 = .ok (.dup, 1) := by decide +kernel
theorem dX9_init_466 : decode cX9_init 466 = .ok (.bipush 62, 2) := by decide +kernel
theorem dX9_init_468 : decode cX9_init 468 = .ok (.iconst 5, 1) := by decide +kernel
theorem dX9_init_469 : decode cX9_init 469 = .ok (.iastore, 1) := by decide +kernel
theorem dX9_init_470 : decode cX9_init 470 = .ok (.dup, 1) := by decide +kernel
theorem dX9_init_471 : decode cX9_init 471 = .ok (.bipush 63, 2) := by decide +kernel
theorem dX9_init_473 : decode cX9_init 473 = .ok (.bipush 19, 2) := by decide +kernel
theorem dX9_init_475 : decode cX9_init 475 = .ok (.iastore, 1) := by decide +kernel
theorem dX9_init_476 : decode cX9_init 476 = .ok (.dup, 1) := by decide +kernel
theorem dX9_init_477 : decode cX9_init 477 = .ok (.bipush 64, 2) := by decide +kernel
theorem dX9_init_479 : decode cX9_init 479 = .ok (.bipush 20, 2) := by decide +kernel
theorem dX9_init_481 : decode cX9_init 481 = .ok (.iastore, 1) := by decide +kernel
theorem dX9_init_482 : decode cX9_init 482 = .ok (.dup, 1) := by decide +kernel
theorem dX9_init_483 : decode cX9_init 483 = .ok (.bipush 65, 2) := by decide +kernel
theorem dX9_init_485 : decode cX9_init 485 = .ok (.iconst 0, 1) := by decide +kernel
theorem dX9_init_486 : decode cX9_init 486 = .ok (.iastore, 1) := by decide +kernel
theorem dX9_init_487 : decode cX9_init 487 = .ok (.dup, 1) := by decide +kernel
theorem dX9_init_488 : decode cX9_init 488 = .ok (.bipush 66, 2) := by decide +kernel
theorem dX9_init_490 : decode cX9_init 490 = .ok (.bipush 6, 2) := by decide +kernel
theorem dX9_init_492 : decode cX9_init 492 = .ok (.iastore, 1) := by decide +kernel
theorem dX9_init_493 : decode cX9_init 493 = .ok (.dup, 1) := by decide +kernel
theorem dX9_init_494 : decode cX9_init 494 = .ok (.bipush 67, 2) := by decide +kernel
theorem dX9_init_496 : decode cX9_init 496 = .ok (.bipush 18, 2) := by decide +kernel
theorem dX9_init_498 : decode cX9_init 498 = .ok (.iastore, 1) := by decide +kernel
theorem dX9_init_499 : decode cX9_init 499 = .ok (.dup, 1) := by decide +kernel
theorem dX9_init_500 : decode cX9_init 500 = .ok (.bipush 68, 2) := by decide +kernel
theorem dX9_init_502 : decode cX9_init 502 = .ok (.bipush 15, 2) := by decide +kernel
theorem dX9_init_504 : decode cX9_init 504 = .ok (.iastore, 1) := by decide +kernel
theorem dX9_init_505 : decode cX9_init 505 = .ok (.dup, 1) := by decide +kernel
theorem dX9_init_506 : decode cX9_init 506 = .ok (.bipush 69, 2) := by decide +kernel
theorem dX9_init_508 : decode cX9_init 508 = .ok (.bipush 13, 2) := by decide +kernel
theorem dX9_init_510 : decode cX9_init 510 = .ok (.iastore, 1) := by decide +kernel
theorem dX9_init_511 : decode cX9_init 511 = .ok (.dup, 1) := by decide +kernel
theorem dX9_init_512 : decode cX9_init 512 = .ok (.bipush 70, 2) := by decide +kernel
theorem dX9_init_514 : decode cX9_init 514 = .ok (.iconst 0, 1) := by decide +kernel
theorem dX9_init_515 : decode cX9_init 515 = .ok (.iastore, 1) := by decide +kernel
theorem dX9_init_516 : decode cX9_init 516 = .ok (.dup, 1) := by decide +kernel
theorem dX9_init_517 : decode cX9_init 517 = .ok (.bipush 71, 2) := by decide +kernel
theorem dX9_init_519 : decode cX9_init 519 = .ok (.bipush 23, 2) := by decide +kernel
theorem dX9_init_521 : decode cX9_init 521 = .ok (.iastore, 1) := by decide +kernel
theorem dX9_init_522 : decode cX9_init 522 = .ok (.dup, 1) := by decide +kernel
theorem dX9_init_523 : decode cX9_init 523 = .ok (.bipush 72, 2) := by decide +kernel
theorem dX9_init_525 : decode cX9_init 525 = .ok (.bipush 9, 2) := by decide +kernel
theorem dX9_init_527 : decode cX9_init 527 = .ok (.iastore, 1) := by decide +kernel
theorem dX9_init_528 : decode cX9_init 528 = .ok (.dup, 1) := by decide +kernel
theorem dX9_init_529 : decode cX9_init 529 = .ok (.bipush 73, 2) := by decide +kernel
theorem dX9_init_531 : decode cX9_init 531 = .ok (.iconst 4, 1) := by decide +kernel
theorem dX9_init_532 : decode cX9_init 532 = .ok (.iastore, 1) := by decide +kernel
theorem dX9_init_533 : decode cX9_init 533 = .ok (.dup, 1) := by decide +kernel
theorem dX9_init_534 : decode cX9_init 534 = .ok (.bipush 74, 2) := by decide +kernel
theorem dX9_init_536 : decode cX9_init 536 = .ok (.iconst 5, 1) := by decide +kernel
theorem dX9_init_537 : decode cX9_init 537 = .ok (.iastore, 1) := by decide +kernel
theorem dX9_init_538 : decode cX9_init 538 = .ok (.dup, 1) := by decide +kernel
theorem dX9_init_539 : decode cX9_init 539 = .ok (.bipush 75, 2) := by decide +kernel
theorem dX9_init_541 : decode cX9_init 541 = .ok (.iconst 0, 1) := by decide +kernel
theorem dX9_init_542 : decode cX9_init 542 = .ok (.iastore, 1) := by decide +kernel
theorem dX9_init_543 : decode cX9_init 543 = .ok (.dup, 1) := by decide +kernel
theorem dX9_init_544 : decode cX9_init 544 = .ok (.bipush 76, 2) := by decide +kernel
theorem dX9_init_546 : decode cX9_init 546 = .ok (.bipush 8, 2) := by decide +kernel
theorem dX9_init_548 : decode cX9_init 548 = .ok (.iastore, 1) := by decide +kernel
theorem dX9_init_549 : decode cX9_init 549 = .ok (.dup, 1) := by decide +kernel
theorem dX9_init_550 : decode cX9_init 550 = .ok (.bipush 77, 2) := by decide +kernel
theorem dX9_init_552 : decode cX9_init 552 = .ok (.bipush 9, 2) := by decide +kernel
theorem dX9_init_554 : decode cX9_init 554 = .ok (.iastore, 1) := by decide +kernel
theorem dX9_init_555 : decode cX9_init 555 = .ok (.dup, 1) := by decide +kernel
theorem dX9_init_556 : decode cX9_init 556 = .ok (.bipush 78, 2) := by decide +kernel
theorem dX9_init_558 : decode cX9_init 558 = .ok (.bipush 7, 2) := by decide +kernel
theorem dX9_init_560 : decode cX9_init 560 = .ok (.iastore, 1) := by decide +kernel
theorem dX9_init_561 : decode cX9_init 561 = .ok (.dup, 1) := by decide +kernel
theorem dX9_init_562 : decode cX9_init 562 = .ok (.bipush 79, 2) := by decide +kernel
theorem dX9_init_564 : decode cX9_init 564 = .ok (.bipush 8, 2) := by decide +kernel
theorem dX9_init_566 : decode cX9_init 566 = .ok (.iastore, 1) := by decide +kernel
theorem dX9_init_567 : decode cX9_init 567 = .ok (.dup, 1) := by decide +kernel
theorem dX9_init_568 : decode cX9_init 568 = .ok (.bipush 80, 2) := by decide +kernel
theorem dX9_init_570 : decode cX9_init 570 = .ok (.iconst 0, 1) := by decide +kernel
theorem dX9_init_571 : decode cX9_init 571 = .ok (.iastore, 1) := by decide +kernel
theorem dX9_init_572 : decode cX9_init 572 = .ok (.dup, 1) := by decide +kernel
theorem dX9_init_573 : decode cX9_init 573 = .ok (.bipush 81, 2) := by decide +kernel
theorem dX9_init_575 : decode cX9_init 575 = .ok (.bipush 21, 2) := by decide +kernel
theorem dX9_init_577 : decode cX9_init 577 = .ok (.iastore, 1) := by decide +kernel
theorem dX9_init_578 : decode cX9_init 578 = .ok (.dup, 1) := by decide +kernel
theorem dX9_init_579 : decode cX9_init 579 = .ok (.bipush 82, 2) := by decide +kernel
theorem dX9_init_581 : decode cX9_init 581 = .ok (.bipush 16, 2) := by decide +kernel
theorem dX9_init_583 : decode cX9_init 583 = .ok (.iastore, 1) := by decide +kernel
theorem dX9_init_584 : decode cX9_init 584 = .ok (.dup, 1) := by decide +kernel
theorem dX9_init_585 : decode cX9_init 585 = .ok (.bipush 83, 2) := by decide +kernel
theorem dX9_init_587 : decode cX9_init 587 = .ok (.iconst 0, 1) := by decide +kernel
theorem dX9_init_588 : decode cX9_init 588 = .ok (.iastore, 1) := by decide +kernel
theorem dX9_init_589 : decode cX9_init 589 = .ok (.dup, 1) := by decide +kernel
theorem dX9_init_590 : decode cX9_init 590 = .ok (.bipush 84, 2) := by decide +kernel
theorem dX9_init_592 : decode cX9_init 592 = .ok (.iconst 4, 1) := by decide +kernel
theorem dX9_init_593 : decode cX9_init 593 = .ok (.iastore, 1) := by decide +kernel
theorem dX9_init_594 : decode cX9_init 594 = .ok (.dup, 1) := by decide +kernel
theorem dX9_init_595 : decode cX9_init 595 = .ok (.bipush 85, 2) := by decide +kernel
theorem dX9_init_597 : decode cX9_init 597 = .ok (.bipush 15, 2) := by decide +kernel
theorem dX9_init_599 : decode cX9_init 599 = .ok (.iastore, 1) := by decide +kernel
theorem dX9_init_600 : decode cX9_init 600 = .ok (.dup, 1) := by decide +kernel
theorem dX9_init_601 : decode cX9_init 601 = .ok (.bipush 86, 2) := by decide +kernel
theorem dX9_init_603 : decode cX9_init 603 = .ok (.bipush 23, 2) := by decide +kernel
theorem dX9_init_605 : decode cX9_init 605 = .ok (.iastore, 1) := by decide +kernel
theorem dX9_init_606 : decode cX9_init 606 = .ok (.dup, 1) := by decide +kernel
theorem dX9_init_607 : decode cX9_init 607 = .ok (.bipush 87, 2) := by decide +kernel
theorem dX9_init_609 : decode cX9_init 609 = .ok (.bipush 14, 2) := by decide +kernel
theorem dX9_init_611 : decode cX9_init 611 = .ok (.iastore, 1) := by decide +kernel
theorem dX9_init_612 : decode cX9_init 612 = .ok (.dup, 1) := by decide +kernel
theorem dX9_init_613 : decode cX9_init 613 = .ok (.bipush 88, 2) := by decide +kernel
theorem dX9_init_615 : decode cX9_init 615 = .ok (.iconst 0, 1) := by decide +kernel
theorem dX9_init_616 : decode cX9_init 616 = .ok (.iastore, 1) := by decide +kernel
theorem dX9_init_617 : decode cX9_init 617 = .ok (.dup, 1) := by decide +kernel
theorem dX9_init_618 : decode cX9_init 618 = .ok (.bipush 89, 2) := by decide +kernel
theorem dX9_init_620 : decode cX9_init 620 = .ok (.bipush 18, 2) := by decide +kernel
theorem dX9_init_622 : decode cX9_init 622 = .ok (.iastore, 1) := by decide +kernel
theorem dX9_init_623 : decode cX9_init 623 = .ok (.dup, 1) := by decide +kernel
theorem dX9_init_624 : decode cX9_init 624 = .ok (.bipush 90, 2) := by decide +kernel
theorem dX9_init_626 : decode cX9_init 626 = .ok (.bipush 15, 2) := by decide +kernel
theorem dX9_init_628 : decode cX9_init 628 = .ok (.iastore, 1) := by decide +kernel
theorem dX9_init_629 : decode cX9_init 629 = .ok (.dup, 1) := by decide +kernel
theorem dX9_init_630 : decode cX9_init 630 = .ok (.bipush 91, 2) := by decide +kernel
theorem dX9_init_632 : decode cX9_init 632 = .ok (.bipush 21, 2) := by decide +kernel
theorem dX9_init_634 : decode cX9_init 634 = .ok (.iastore, 1) := by decide +kernel
theorem dX9_init_635 : decode cX9_init 635 = .ok (.dup, 1) := by decide +kernel
theorem dX9_init_636 : decode cX9_init 636 = .ok (.bipush 92, 2) := by decide +kernel
theorem dX9_init_638 : decode cX9_init 638 = .ok (.bipush 14, 2) := by decide +kernel
theorem dX9_init_640 : decode cX9_init 640 = .ok (.iastore, 1) := by decide +kernel
theorem dX9_init_641 : decode cX9_init 641 = .ok (.dup, 1) := by decide +kernel
theorem dX9_init_642 : decode cX9_init 642 = .ok (.bipush 93, 2) := by decide +kernel
theorem dX9_init_644 : decode cX9_init 644 = .ok (.iconst 4, 1) := by decide +kernel
theorem dX9_init_645 : decode cX9_init 645 = .ok (.iastore, 1) := by decide +kernel
theorem dX9_init_646 : decode cX9_init 646 = .ok (.dup, 1) := by decide +kernel
theorem dX9_init_647 : decode cX9_init 647 = .ok (.bipush 94, 2) := by decide +kernel
theorem dX9_init_649 : decode cX9_init 649 = .ok (.iconst 0, 1) := by decide +kernel
theorem dX9_init_650 : decode cX9_init 650 = .ok (.iastore, 1) := by decide +kernel
theorem dX9_init_651 : decode cX9_init 651 = .ok (.putfield 66, 3) := by decide +kernel
theorem dX9_init_654 : decode cX9_init 654 = .ok (.aload_n 0, 1) := by decide +kernel
theorem dX9_init_655 : decode cX9_init 655 = .ok (.bipush 72, 2) := by decide +kernel
theorem dX9_init_657 : decode cX9_init 657 = .ok (.newarray .int, 2) := by decide +kernel
theorem dX9_init_659 : decode cX9_init 659 = .ok (.putfield 69, 3) := by decide +kernel
theorem dX9_init_662 : decode cX9_init 662 = .ok (.aload_n 0, 1) := by decide +kernel
theorem dX9_init_663 : decode cX9_init 663 = .ok (.iconst 0, 1) := by decide +kernel
theorem dX9_init_664 : decode cX9_init 664 = .ok (.putfield 72, 3) := by decide +kernel
theorem dX9_init_667 : decode cX9_init 667 = .ok (.aload_n 0, 1) := by decide +kernel
theorem dX9_init_668 : decode cX9_init 668 = .ok (.bipush 30, 2) := by decide +kernel
theorem dX9_init_670 : decode cX9_init 670 = .ok (.newarray .int, 2) := by decide +kernel
theorem dX9_init_672 : decode cX9_init 672 = .ok (.putfield 75, 3) := by decide +kernel
theorem dX9_init_675 : decode cX9_init 675 = .ok (.aload_n 0, 1) := by decide +kernel
theorem dX9_init_676 : decode cX9_init 676 = .ok (.bipush 10, 2) := by decide +kernel
theorem dX9_init_678 : decode cX9_init 678 = .ok (.newarray .int, 2) := by decide +kernel
theorem dX9_init_680 : decode cX9_init 680 = .ok (.putfield 78, 3) := by decide +kernel
theorem dX9_init_683 : decode cX9_init 683 = .ok (.aload_n 0, 1) := by decide +kernel
theorem dX9_init_684 : decode cX9_init 684 = .ok (.bipush 10, 2) := by decide +kernel
theorem dX9_init_686 : decode cX9_init 686 = .ok (.newarray .int, 2) := by decide +kernel
theorem dX9_init_688 : decode cX9_init 688 = .ok (.putfield 81, 3) := by decide +kernel
theorem dX9_init_691 : decode cX9_init 691 = .ok (.aload_n 0, 1) := by decide +kernel
theorem dX9_init_692 : decode cX9_init 692 = .ok (.bipush 10, 2) := by decide +kernel
theorem dX9_init_694 : decode cX9_init 694 = .ok (.newarray .int, 2) := by decide +kernel
theorem dX9_init_696 : decode cX9_init 696 = .ok (.putfield 84, 3) := by decide +kernel
theorem dX9_init_699 : decode cX9_init 699 = .ok (.aload_n 0, 1) := by decide +kernel
theorem dX9_init_700 : decode cX9_init 700 = .ok (.bipush 30, 2) := by decide +kernel
theorem dX9_init_702 : decode cX9_init 702 = .ok (.newarray .int, 2) := by decide +kernel
theorem dX9_init_704 : decode cX9_init 704 = .ok (.putfield 87, 3) := by decide +kernel
theorem dX9_init_707 : decode cX9_init 707 = .ok (.aload_n 0, 1) := by decide +kernel
theorem dX9_init_708 : decode cX9_init 708 = .ok (.bipush 30, 2) := by decide +kernel
theorem dX9_init_710 : decode cX9_init 710 = .ok (.newarray .int, 2) := by decide +kernel
theorem dX9_init_712 : decode cX9_init 712 = .ok (.putfield 90, 3) := by decide +kernel
theorem dX9_init_715 : decode cX9_init 715 = .ok (.aload_n 0, 1) := by decide +kernel
theorem dX9_init_716 : decode cX9_init 716 = .ok (.sipush 256, 3) := by decide +kernel
theorem dX9_init_719 : decode cX9_init 719 = .ok (.newarray .int, 2) := by decide +kernel
theorem dX9_init_721 : decode cX9_init 721 = .ok (.putfield 93, 3) := by decide +kernel
theorem dX9_init_724 : decode cX9_init 724 = .ok (.aload_n 0, 1) := by decide +kernel
theorem dX9_init_725 : decode cX9_init 725 = .ok (.sipush 256, 3) := by decide +kernel
theorem dX9_init_728 : decode cX9_init 728 = .ok (.newarray .int, 2) := by decide +kernel
theorem dX9_init_730 : decode cX9_init 730 = .ok (.putfield 96, 3) := by decide +kernel
theorem dX9_init_733 : decode cX9_init 733 = .ok (.aload_n 0, 1) := by decide +kernel
theorem dX9_init_734 : decode cX9_init 734 = .ok (.sipush 256, 3) := by decide +kernel
theorem dX9_init_737 : decode cX9_init 737 = .ok (.newarray .boolean, 2) := by decide +kernel
theorem dX9_init_739 : decode cX9_init 739 = .ok (.putfield 99, 3) := by decide +kernel
theorem dX9_init_742 : decode cX9_init 742 = .ok (.aload_n 0, 1) := by decide +kernel
theorem dX9_init_743 : decode cX9_init 743 = .ok (.sipush 6561, 3) := by decide +kernel
theorem dX9_init_746 : decode cX9_init 746 = .ok (.newarray .int, 2) := by decide +kernel
theorem dX9_init_748 : decode cX9_init 748 = .ok (.putfield 103, 3) := by decide +kernel
theorem dX9_init_751 : decode cX9_init 751 = .ok (.aload_n 0, 1) := by decide +kernel
theorem dX9_init_752 : decode cX9_init 752 = .ok (.iconst 0, 1) := by decide +kernel
theorem dX9_init_753 : decode cX9_init 753 = .ok (.putfield 106, 3) := by decide +kernel
theorem dX9_init_756 : decode cX9_init 756 = .ok (.aload_n 0, 1) := by decide +kernel
theorem dX9_init_757 : decode cX9_init 757 = .ok (.sipush 2304, 3) := by decide +kernel
theorem dX9_init_760 : decode cX9_init 760 = .ok (.newarray .int, 2) := by decide +kernel
theorem dX9_init_762 : decode cX9_init 762 = .ok (.putfield 109, 3) := by decide +kernel
theorem dX9_init_765 : decode cX9_init 765 = .ok (.aload_n 0, 1) := by decide +kernel
theorem dX9_init_766 : decode cX9_init 766 = .ok (.bipush 9, 2) := by decide +kernel
theorem dX9_init_768 : decode cX9_init 768 = .ok (.newarray .int, 2) := by decide +kernel
theorem dX9_init_770 : decode cX9_init 770 = .ok (.putfield 112, 3) := by decide +kernel
theorem dX9_init_773 : decode cX9_init 773 = .ok (.aload_n 0, 1) := by decide +kernel
theorem dX9_init_774 : decode cX9_init 774 = .ok (.iconst 0, 1) := by decide +kernel
theorem dX9_init_775 : decode cX9_init 775 = .ok (.putfield 115, 3) := by decide +kernel
theorem dX9_init_778 : decode cX9_init 778 = .ok (.aload_n 0, 1) := by decide +kernel
theorem dX9_init_779 : decode cX9_init 779 = .ok (.bipush 8, 2) := by decide +kernel
theorem dX9_init_781 : decode cX9_init 781 = .ok (.newarray .int, 2) := by decide +kernel
theorem dX9_init_783 : decode cX9_init 783 = .ok (.putfield 118, 3) := by decide +kernel
theorem dX9_init_786 : decode cX9_init 786 = .ok (.aload_n 0, 1) := by decide +kernel
theorem dX9_init_787 : decode cX9_init 787 = .ok (.bipush 8, 2) := by decide +kernel
theorem dX9_init_789 : decode cX9_init 789 = .ok (.newarray .int, 2) := by decide +kernel
theorem dX9_init_791 : decode cX9_init 791 = .ok (.putfield 121, 3) := by decide +kernel
theorem dX9_init_794 : decode cX9_init 794 = .ok (.return_, 1) := by decide +kernel
set_option maxHeartbeats 4000000 in
set_option maxRecDepth 100000 in
theorem kX9_init (l : Launch) (g : zL) (h0 : Nat) : zCv l g yX9_init cX9_init 1 none { frames := 1, cells := 23, slots := 11819, locals := 12 } [.ref h0] [(h0, .inr (9, [.null, .null, .null, .null, .null, .int 0, .int 0, .int 0, .null, .int 0, .null, .int 0, .int 0, .int 0, .int 0, .int 0, .int 0, .int 0, .null, .null, .int 0, .null, .null, .null, .null, .null, .null, .null, .null, .null, .null, .int 0, .null, .null, .int 0, .null, .null]))] (fun (u : Nat → Nat) => True) (fun (u : Nat → Nat) => [(h0, .inr (9, [.ref (u 0), .ref (u 1), .ref (u 2), .ref (u 3), .ref (u 4), .int 0, .int 1, .int 0, .ref (u 5), .int 0, .ref (u 6), .int 0, .int (-1), .int 0, .int 0, .int 0, .int 0, .int (-1), .ref (u 7), .ref (u 8), .int 0, .ref (u 9), .ref (u 10), .ref (u 11), .ref (u 12), .ref (u 13), .ref (u 14), .ref (u 15), .ref (u 16), .ref (u 17), .ref (u 18), .int 0, .ref (u 19), .ref (u 20), .int 0, .ref (u 21), .ref (u 22)])), ((u 1), .inl (g.2.1.1, 103, .inl (fun _ => 0))), ((u 3), .inl (g.2.1.1, 21, .inl (fun _ => 0))), ((u 5), .inl (g.2.1.1, 1200, .inl (fun _ => 0))), ((u 6), .inl (g.2.1.1, 6, .inl (fun _ => 0)))]) := by
  refine zCv.mk (by decide) (Nat.le_of_ble_eq_true rfl) ?_
  intro p e s m below meth c A hE hP hD hS ls hl
  obtain ⟨hx, hb, hr, hml, hown, hG, hlocks, hnm, hX, hA⟩ := hE
  have hown : s.vm.findClass RX9 = some m.cls := hown
  have hnm : meth.name = "<init>" := hnm
  have hl : lv_has ls 1 [(0, .ref h0)] := hl
  refine lv_aload_n hx hb dX9_init_0 rfl (lv_at hl 0 rfl) ?_
  refine W.objInit hx hb hown (hG _ g1416) (hG _ g226) (hG _ g227) rfl (by rw [hml]; exact hl.1) rfl dX9_init_1 (Nat.le_of_ble_eq_true rfl) (Nat.le_of_ble_eq_true rfl) ?_
  refine W.eq (g2 := F0 m 4 ls []) rfl ?_
  refine lv_aload_n hx hb dX9_init_4 rfl (lv_at hl 0 rfl) ?_
  refine lv_bipush (v := 103) hx hb dX9_init_5 (by decide) ?_
  refine zna (atype := .int) (N' := 103) (a0 := (103, .inl (fun _ => 0))) hx hb (hG _ g306) (ty := .int) rfl 0 rfl (fun _ h9 => va_nm_int h9) hX hP hD hS hA (fun _ => rfl) (by decide) (by decide) (Nat.le_of_ble_eq_true rfl) (Nat.le_of_ble_eq_true rfl) (Nat.le_of_ble_eq_true rfl) dX9_init_7 (fun q1 H hP hD hS => ?_)
  refine W.cs (cells' := 1) (slots' := 103) rfl rfl ?_
  have hP : va_P g.1 vwCl [(h0, .inr (9, [.null, .null, .null, .null, .null, .int 0, .int 0, .int 0, .null, .int 0, .null, .int 0, .int 0, .int 0, .int 0, .int 0, .int 0, .int 0, .null, .null, .int 0, .null, .null, .null, .null, .null, .null, .null, .null, .null, .null, .int 0, .null, .null, .int 0, .null, .null])), (q1, .inl (g.2.1.1, 103, .inl (fun _ => 0)))] H := hP
  have hD : va_D A [(h0, .inr (9, [.null, .null, .null, .null, .null, .int 0, .int 0, .int 0, .null, .int 0, .null, .int 0, .int 0, .int 0, .int 0, .int 0, .int 0, .int 0, .null, .null, .int 0, .null, .null, .null, .null, .null, .null, .null, .null, .null, .null, .int 0, .null, .null, .int 0, .null, .null])), (q1, .inl (g.2.1.1, 103, .inl (fun _ => 0)))] := hD
  refine va_putF (D := g.1) (ci := 9) (v := .ref q1) (ty := (.array .int)) (C := RX9) (T := TX9) (N := 37) hx hb hG iX9 tyX9 tyX9_ok nmX9 hown hX.1 hP hD hS 0 rfl rfl 0 (by decide) (hG _ g1417) (fun _ h9 => h9) rfl hnm rfl (by decide +kernel) rfl rfl (Nat.le_of_ble_eq_true rfl) dX9_init_9 (fun H locs hP hD hS => ?_)
  have hP : va_P g.1 vwCl [(h0, .inr (9, [.ref q1, .null, .null, .null, .null, .int 0, .int 0, .int 0, .null, .int 0, .null, .int 0, .int 0, .int 0, .int 0, .int 0, .int 0, .int 0, .null, .null, .int 0, .null, .null, .null, .null, .null, .null, .null, .null, .null, .null, .int 0, .null, .null, .int 0, .null, .null])), (q1, .inl (g.2.1.1, 103, .inl (fun _ => 0)))] H := hP
  have hD : va_D A [(h0, .inr (9, [.ref q1, .null, .null, .null, .null, .int 0, .int 0, .int 0, .null, .int 0, .null, .int 0, .int 0, .int 0, .int 0, .int 0, .int 0, .int 0, .null, .null, .int 0, .null, .null, .null, .null, .null, .null, .null, .null, .null, .null, .int 0, .null, .null, .int 0, .null, .null])), (q1, .inl (g.2.1.1, 103, .inl (fun _ => 0)))] := hD
  have hP := hP.sub (ws' := [(h0, .inr (9, [.ref q1, .null, .null, .null, .null, .int 0, .int 0, .int 0, .null, .int 0, .null, .int 0, .int 0, .int 0, .int 0, .int 0, .int 0, .int 0, .null, .null, .int 0, .null, .null, .null, .null, .null, .null, .null, .null, .null, .null, .int 0, .null, .null, .int 0, .null, .null]))]) [0] rfl
  have hD := hD.sub (ws' := [(h0, .inr (9, [.ref q1, .null, .null, .null, .null, .int 0, .int 0, .int 0, .null, .int 0, .null, .int 0, .int 0, .int 0, .int 0, .int 0, .int 0, .int 0, .null, .null, .int 0, .null, .null, .null, .null, .null, .null, .null, .null, .null, .null, .int 0, .null, .null, .int 0, .null, .null]))]) [0] (by decide) rfl
  refine lv_aload_n hx hb dX9_init_12 rfl (lv_at hl 0 rfl) ?_
  refine lv_bipush (v := 103) hx hb dX9_init_13 (by decide) ?_
  refine zna (atype := .int) (N' := 103) (a0 := (103, .inl (fun _ => 0))) hx hb (hG _ g306) (ty := .int) rfl 0 rfl (fun _ h9 => va_nm_int h9) hX hP hD hS hA (fun _ => rfl) (by decide) (by decide) (Nat.le_of_ble_eq_true rfl) (Nat.le_of_ble_eq_true rfl) (Nat.le_of_ble_eq_true rfl) dX9_init_15 (fun q2 H hP hD hS => ?_)
  refine W.cs (cells' := 2) (slots' := 206) rfl rfl ?_
  have hP : va_P g.1 vwCl [(h0, .inr (9, [.ref q1, .null, .null, .null, .null, .int 0, .int 0, .int 0, .null, .int 0, .null, .int 0, .int 0, .int 0, .int 0, .int 0, .int 0, .int 0, .null, .null, .int 0, .null, .null, .null, .null, .null, .null, .null, .null, .null, .null, .int 0, .null, .null, .int 0, .null, .null])), (q2, .inl (g.2.1.1, 103, .inl (fun _ => 0)))] H := hP
  have hD : va_D A [(h0, .inr (9, [.ref q1, .null, .null, .null, .null, .int 0, .int 0, .int 0, .null, .int 0, .null, .int 0, .int 0, .int 0, .int 0, .int 0, .int 0, .int 0, .null, .null, .int 0, .null, .null, .null, .null, .null, .null, .null, .null, .null, .null, .int 0, .null, .null, .int 0, .null, .null])), (q2, .inl (g.2.1.1, 103, .inl (fun _ => 0)))] := hD
  refine va_putF (D := g.1) (ci := 9) (v := .ref q2) (ty := (.array .int)) (C := RX9) (T := TX9) (N := 37) hx hb hG iX9 tyX9 tyX9_ok nmX9 hown hX.1 hP hD hS 0 rfl rfl 1 (by decide) (hG _ g1418) (fun _ h9 => h9) rfl hnm rfl (by decide +kernel) rfl rfl (Nat.le_of_ble_eq_true rfl) dX9_init_17 (fun H locs hP hD hS => ?_)
  have hP : va_P g.1 vwCl [(h0, .inr (9, [.ref q1, .ref q2, .null, .null, .null, .int 0, .int 0, .int 0, .null, .int 0, .null, .int 0, .int 0, .int 0, .int 0, .int 0, .int 0, .int 0, .null, .null, .int 0, .null, .null, .null, .null, .null, .null, .null, .null, .null, .null, .int 0, .null, .null, .int 0, .null, .null])), (q2, .inl (g.2.1.1, 103, .inl (fun _ => 0)))] H := hP
  have hD : va_D A [(h0, .inr (9, [.ref q1, .ref q2, .null, .null, .null, .int 0, .int 0, .int 0, .null, .int 0, .null, .int 0, .int 0, .int 0, .int 0, .int 0, .int 0, .int 0, .null, .null, .int 0, .null, .null, .null, .null, .null, .null, .null, .null, .null, .null, .int 0, .null, .null, .int 0, .null, .null])), (q2, .inl (g.2.1.1, 103, .inl (fun _ => 0)))] := hD
  refine lv_aload_n hx hb dX9_init_20 rfl (lv_at hl 0 rfl) ?_
  refine lv_bipush (v := 21) hx hb dX9_init_21 (by decide) ?_
  refine zna (atype := .int) (N' := 21) (a0 := (21, .inl (fun _ => 0))) hx hb (hG _ g306) (ty := .int) rfl 0 rfl (fun _ h9 => va_nm_int h9) hX hP hD hS hA (fun _ => rfl) (by decide) (by decide) (Nat.le_of_ble_eq_true rfl) (Nat.le_of_ble_eq_true rfl) (Nat.le_of_ble_eq_true rfl) dX9_init_23 (fun q3 H hP hD hS => ?_)
  refine W.cs (cells' := 3) (slots' := 227) rfl rfl ?_
  have hP : va_P g.1 vwCl [(h0, .inr (9, [.ref q1, .ref q2, .null, .null, .null, .int 0, .int 0, .int 0, .null, .int 0, .null, .int 0, .int 0, .int 0, .int 0, .int 0, .int 0, .int 0, .null, .null, .int 0, .null, .null, .null, .null, .null, .null, .null, .null, .null, .null, .int 0, .null, .null, .int 0, .null, .null])), (q2, .inl (g.2.1.1, 103, .inl (fun _ => 0))), (q3, .inl (g.2.1.1, 21, .inl (fun _ => 0)))] H := hP
  have hD : va_D A [(h0, .inr (9, [.ref q1, .ref q2, .null, .null, .null, .int 0, .int 0, .int 0, .null, .int 0, .null, .int 0, .int 0, .int 0, .int 0, .int 0, .int 0, .int 0, .null, .null, .int 0, .null, .null, .null, .null, .null, .null, .null, .null, .null, .null, .int 0, .null, .null, .int 0, .null, .null])), (q2, .inl (g.2.1.1, 103, .inl (fun _ => 0))), (q3, .inl (g.2.1.1, 21, .inl (fun _ => 0)))] := hD
  refine va_putF (D := g.1) (ci := 9) (v := .ref q3) (ty := (.array .int)) (C := RX9) (T := TX9) (N := 37) hx hb hG iX9 tyX9 tyX9_ok nmX9 hown hX.1 hP hD hS 0 rfl rfl 2 (by decide) (hG _ g1419) (fun _ h9 => h9) rfl hnm rfl (by decide +kernel) rfl rfl (Nat.le_of_ble_eq_true rfl) dX9_init_25 (fun H locs hP hD hS => ?_)
  have hP : va_P g.1 vwCl [(h0, .inr (9, [.ref q1, .ref q2, .ref q3, .null, .null, .int 0, .int 0, .int 0, .null, .int 0, .null, .int 0, .int 0, .int 0, .int 0, .int 0, .int 0, .int 0, .null, .null, .int 0, .null, .null, .null, .null, .null, .null, .null, .null, .null, .null, .int 0, .null, .null, .int 0, .null, .null])), (q2, .inl (g.2.1.1, 103, .inl (fun _ => 0))), (q3, .inl (g.2.1.1, 21, .inl (fun _ => 0)))] H := hP
  have hD : va_D A [(h0, .inr (9, [.ref q1, .ref q2, .ref q3, .null, .null, .int 0, .int 0, .int 0, .null, .int 0, .null, .int 0, .int 0, .int 0, .int 0, .int 0, .int 0, .int 0, .null, .null, .int 0, .null, .null, .null, .null, .null, .null, .null, .null, .null, .null, .int 0, .null, .null, .int 0, .null, .null])), (q2, .inl (g.2.1.1, 103, .inl (fun _ => 0))), (q3, .inl (g.2.1.1, 21, .inl (fun _ => 0)))] := hD
  have hP := hP.sub (ws' := [(h0, .inr (9, [.ref q1, .ref q2, .ref q3, .null, .null, .int 0, .int 0, .int 0, .null, .int 0, .null, .int 0, .int 0, .int 0, .int 0, .int 0, .int 0, .int 0, .null, .null, .int 0, .null, .null, .null, .null, .null, .null, .null, .null, .null, .null, .int 0, .null, .null, .int 0, .null, .null])), (q2, .inl (g.2.1.1, 103, .inl (fun _ => 0)))]) [0, 1] rfl
  have hD := hD.sub (ws' := [(h0, .inr (9, [.ref q1, .ref q2, .ref q3, .null, .null, .int 0, .int 0, .int 0, .null, .int 0, .null, .int 0, .int 0, .int 0, .int 0, .int 0, .int 0, .int 0, .null, .null, .int 0, .null, .null, .null, .null, .null, .null, .null, .null, .null, .null, .int 0, .null, .null, .int 0, .null, .null])), (q2, .inl (g.2.1.1, 103, .inl (fun _ => 0)))]) [0, 1] (by decide) rfl
  refine lv_aload_n hx hb dX9_init_28 rfl (lv_at hl 0 rfl) ?_
  refine lv_bipush (v := 21) hx hb dX9_init_29 (by decide) ?_
  refine zna (atype := .int) (N' := 21) (a0 := (21, .inl (fun _ => 0))) hx hb (hG _ g306) (ty := .int) rfl 0 rfl (fun _ h9 => va_nm_int h9) hX hP hD hS hA (fun _ => rfl) (by decide) (by decide) (Nat.le_of_ble_eq_true rfl) (Nat.le_of_ble_eq_true rfl) (Nat.le_of_ble_eq_true rfl) dX9_init_31 (fun q4 H hP hD hS => ?_)
  refine W.cs (cells' := 4) (slots' := 248) rfl rfl ?_
  have hP : va_P g.1 vwCl [(h0, .inr (9, [.ref q1, .ref q2, .ref q3, .null, .null, .int 0, .int 0, .int 0, .null, .int 0, .null, .int 0, .int 0, .int 0, .int 0, .int 0, .int 0, .int 0, .null, .null, .int 0, .null, .null, .null, .null, .null, .null, .null, .null, .null, .null, .int 0, .null, .null, .int 0, .null, .null])), (q2, .inl (g.2.1.1, 103, .inl (fun _ => 0))), (q4, .inl (g.2.1.1, 21, .inl (fun _ => 0)))] H := hP
  have hD : va_D A [(h0, .inr (9, [.ref q1, .ref q2, .ref q3, .null, .null, .int 0, .int 0, .int 0, .null, .int 0, .null, .int 0, .int 0, .int 0, .int 0, .int 0, .int 0, .int 0, .null, .null, .int 0, .null, .null, .null, .null, .null, .null, .null, .null, .null, .null, .int 0, .null, .null, .int 0, .null, .null])), (q2, .inl (g.2.1.1, 103, .inl (fun _ => 0))), (q4, .inl (g.2.1.1, 21, .inl (fun _ => 0)))] := hD
  refine va_putF (D := g.1) (ci := 9) (v := .ref q4) (ty := (.array .int)) (C := RX9) (T := TX9) (N := 37) hx hb hG iX9 tyX9 tyX9_ok nmX9 hown hX.1 hP hD hS 0 rfl rfl 3 (by decide) (hG _ g1420) (fun _ h9 => h9) rfl hnm rfl (by decide +kernel) rfl rfl (Nat.le_of_ble_eq_true rfl) dX9_init_33 (fun H locs hP hD hS => ?_)
  have hP : va_P g.1 vwCl [(h0, .inr (9, [.ref q1, .ref q2, .ref q3, .ref q4, .null, .int 0, .int 0, .int 0, .null, .int 0, .null, .int 0, .int 0, .int 0, .int 0, .int 0, .int 0, .int 0, .null, .null, .int 0, .null, .null, .null, .null, .null, .null, .null, .null, .null, .null, .int 0, .null, .null, .int 0, .null, .null])), (q2, .inl (g.2.1.1, 103, .inl (fun _ => 0))), (q4, .inl (g.2.1.1, 21, .inl (fun _ => 0)))] H := hP
  have hD : va_D A [(h0, .inr (9, [.ref q1, .ref q2, .ref q3, .ref q4, .null, .int 0, .int 0, .int 0, .null, .int 0, .null, .int 0, .int 0, .int 0, .int 0, .int 0, .int 0, .int 0, .null, .null, .int 0, .null, .null, .null, .null, .null, .null, .null, .null, .null, .null, .int 0, .null, .null, .int 0, .null, .null])), (q2, .inl (g.2.1.1, 103, .inl (fun _ => 0))), (q4, .inl (g.2.1.1, 21, .inl (fun _ => 0)))] := hD
  refine lv_aload_n hx hb dX9_init_36 rfl (lv_at hl 0 rfl) ?_
  refine lv_sipush (v := 420) hx hb dX9_init_37 (by decide) ?_
  refine zna (atype := .int) (N' := 420) (a0 := (420, .inl (fun _ => 0))) hx hb (hG _ g306) (ty := .int) rfl 0 rfl (fun _ h9 => va_nm_int h9) hX hP hD hS hA (fun _ => rfl) (by decide) (by decide) (Nat.le_of_ble_eq_true rfl) (Nat.le_of_ble_eq_true rfl) (Nat.le_of_ble_eq_true rfl) dX9_init_40 (fun q5 H hP hD hS => ?_)
  refine W.cs (cells' := 5) (slots' := 668) rfl rfl ?_
  have hP : va_P g.1 vwCl [(h0, .inr (9, [.ref q1, .ref q2, .ref q3, .ref q4, .null, .int 0, .int 0, .int 0, .null, .int 0, .null, .int 0, .int 0, .int 0, .int 0, .int 0, .int 0, .int 0, .null, .null, .int 0, .null, .null, .null, .null, .null, .null, .null, .null, .null, .null, .int 0, .null, .null, .int 0, .null, .null])), (q2, .inl (g.2.1.1, 103, .inl (fun _ => 0))), (q4, .inl (g.2.1.1, 21, .inl (fun _ => 0))), (q5, .inl (g.2.1.1, 420, .inl (fun _ => 0)))] H := hP
  have hD : va_D A [(h0, .inr (9, [.ref q1, .ref q2, .ref q3, .ref q4, .null, .int 0, .int 0, .int 0, .null, .int 0, .null, .int 0, .int 0, .int 0, .int 0, .int 0, .int 0, .int 0, .null, .null, .int 0, .null, .null, .null, .null, .null, .null, .null, .null, .null, .null, .int 0, .null, .null, .int 0, .null, .null])), (q2, .inl (g.2.1.1, 103, .inl (fun _ => 0))), (q4, .inl (g.2.1.1, 21, .inl (fun _ => 0))), (q5, .inl (g.2.1.1, 420, .inl (fun _ => 0)))] := hD
  refine va_putF (D := g.1) (ci := 9) (v := .ref q5) (ty := (.array .int)) (C := RX9) (T := TX9) (N := 37) hx hb hG iX9 tyX9 tyX9_ok nmX9 hown hX.1 hP hD hS 0 rfl rfl 4 (by decide) (hG _ g1421) (fun _ h9 => h9) rfl hnm rfl (by decide +kernel) rfl rfl (Nat.le_of_ble_eq_true rfl) dX9_init_42 (fun H locs hP hD hS => ?_)
  have hP : va_P g.1 vwCl [(h0, .inr (9, [.ref q1, .ref q2, .ref q3, .ref q4, .ref q5, .int 0, .int 0, .int 0, .null, .int 0, .null, .int 0, .int 0, .int 0, .int 0, .int 0, .int 0, .int 0, .null, .null, .int 0, .null, .null, .null, .null, .null, .null, .null, .null, .null, .null, .int 0, .null, .null, .int 0, .null, .null])), (q2, .inl (g.2.1.1, 103, .inl (fun _ => 0))), (q4, .inl (g.2.1.1, 21, .inl (fun _ => 0))), (q5, .inl (g.2.1.1, 420, .inl (fun _ => 0)))] H := hP
  have hD : va_D A [(h0, .inr (9, [.ref q1, .ref q2, .ref q3, .ref q4, .ref q5, .int 0, .int 0, .int 0, .null, .int 0, .null, .int 0, .int 0, .int 0, .int 0, .int 0, .int 0, .int 0, .null, .null, .int 0, .null, .null, .null, .null, .null, .null, .null, .null, .null, .null, .int 0, .null, .null, .int 0, .null, .null])), (q2, .inl (g.2.1.1, 103, .inl (fun _ => 0))), (q4, .inl (g.2.1.1, 21, .inl (fun _ => 0))), (q5, .inl (g.2.1.1, 420, .inl (fun _ => 0)))] := hD
  have hP := hP.sub (ws' := [(h0, .inr (9, [.ref q1, .ref q2, .ref q3, .ref q4, .ref q5, .int 0, .int 0, .int 0, .null, .int 0, .null, .int 0, .int 0, .int 0, .int 0, .int 0, .int 0, .int 0, .null, .null, .int 0, .null, .null, .null, .null, .null, .null, .null, .null, .null, .null, .int 0, .null, .null, .int 0, .null, .null])), (q2, .inl (g.2.1.1, 103, .inl (fun _ => 0))), (q4, .inl (g.2.1.1, 21, .inl (fun _ => 0)))]) [0, 1, 2] rfl
  have hD := hD.sub (ws' := [(h0, .inr (9, [.ref q1, .ref q2, .ref q3, .ref q4, .ref q5, .int 0, .int 0, .int 0, .null, .int 0, .null, .int 0, .int 0, .int 0, .int 0, .int 0, .int 0, .int 0, .null, .null, .int 0, .null, .null, .null, .null, .null, .null, .null, .null, .null, .null, .int 0, .null, .null, .int 0, .null, .null])), (q2, .inl (g.2.1.1, 103, .inl (fun _ => 0))), (q4, .inl (g.2.1.1, 21, .inl (fun _ => 0)))]) [0, 1, 2] (by decide) rfl
  refine lv_aload_n hx hb dX9_init_45 rfl (lv_at hl 0 rfl) ?_
  refine lv_iconst (v := 0) hx hb dX9_init_46 (by decide) ?_
  refine va_put (D := g.1) (ci := 9) (v := .int 0) (ty := .int) (C := RX9) (T := TX9) (N := 37) hx hb hG iX9 tyX9 tyX9_ok nmX9 hown hX.1 hP hD hS 0 rfl rfl 5 (by decide) (hG _ g1422) (fun _ h9 => h9) rfl (by decide +kernel) rfl rfl (Nat.le_of_ble_eq_true rfl) dX9_init_47 (fun H locs hP hD hS => ?_)
  have hP : va_P g.1 vwCl [(h0, .inr (9, [.ref q1, .ref q2, .ref q3, .ref q4, .ref q5, .int 0, .int 0, .int 0, .null, .int 0, .null, .int 0, .int 0, .int 0, .int 0, .int 0, .int 0, .int 0, .null, .null, .int 0, .null, .null, .null, .null, .null, .null, .null, .null, .null, .null, .int 0, .null, .null, .int 0, .null, .null])), (q2, .inl (g.2.1.1, 103, .inl (fun _ => 0))), (q4, .inl (g.2.1.1, 21, .inl (fun _ => 0)))] H := hP
  have hD : va_D A [(h0, .inr (9, [.ref q1, .ref q2, .ref q3, .ref q4, .ref q5, .int 0, .int 0, .int 0, .null, .int 0, .null, .int 0, .int 0, .int 0, .int 0, .int 0, .int 0, .int 0, .null, .null, .int 0, .null, .null, .null, .null, .null, .null, .null, .null, .null, .null, .int 0, .null, .null, .int 0, .null, .null])), (q2, .inl (g.2.1.1, 103, .inl (fun _ => 0))), (q4, .inl (g.2.1.1, 21, .inl (fun _ => 0)))] := hD
  refine lv_aload_n hx hb dX9_init_50 rfl (lv_at hl 0 rfl) ?_
  refine lv_iconst (v := 1) hx hb dX9_init_51 (by decide) ?_
  refine va_put (D := g.1) (ci := 9) (v := .int 1) (ty := .int) (C := RX9) (T := TX9) (N := 37) hx hb hG iX9 tyX9 tyX9_ok nmX9 hown hX.1 hP hD hS 0 rfl rfl 6 (by decide) (hG _ g1423) (fun _ h9 => h9) rfl (by decide +kernel) rfl rfl (Nat.le_of_ble_eq_true rfl) dX9_init_52 (fun H locs hP hD hS => ?_)
  have hP : va_P g.1 vwCl [(h0, .inr (9, [.ref q1, .ref q2, .ref q3, .ref q4, .ref q5, .int 0, .int 1, .int 0, .null, .int 0, .null, .int 0, .int 0, .int 0, .int 0, .int 0, .int 0, .int 0, .null, .null, .int 0, .null, .null, .null, .null, .null, .null, .null, .null, .null, .null, .int 0, .null, .null, .int 0, .null, .null])), (q2, .inl (g.2.1.1, 103, .inl (fun _ => 0))), (q4, .inl (g.2.1.1, 21, .inl (fun _ => 0)))] H := hP
  have hD : va_D A [(h0, .inr (9, [.ref q1, .ref q2, .ref q3, .ref q4, .ref q5, .int 0, .int 1, .int 0, .null, .int 0, .null, .int 0, .int 0, .int 0, .int 0, .int 0, .int 0, .int 0, .null, .null, .int 0, .null, .null, .null, .null, .null, .null, .null, .null, .null, .null, .int 0, .null, .null, .int 0, .null, .null])), (q2, .inl (g.2.1.1, 103, .inl (fun _ => 0))), (q4, .inl (g.2.1.1, 21, .inl (fun _ => 0)))] := hD
  refine lv_aload_n hx hb dX9_init_55 rfl (lv_at hl 0 rfl) ?_
  refine lv_iconst (v := 0) hx hb dX9_init_56 (by decide) ?_
  refine va_put (D := g.1) (ci := 9) (v := .int 0) (ty := .boolean) (C := RX9) (T := TX9) (N := 37) hx hb hG iX9 tyX9 tyX9_ok nmX9 hown hX.1 hP hD hS 0 rfl rfl 7 (by decide) (hG _ g1424) (fun _ h9 => h9) rfl (by decide +kernel) rfl rfl (Nat.le_of_ble_eq_true rfl) dX9_init_57 (fun H locs hP hD hS => ?_)
  have hP : va_P g.1 vwCl [(h0, .inr (9, [.ref q1, .ref q2, .ref q3, .ref q4, .ref q5, .int 0, .int 1, .int 0, .null, .int 0, .null, .int 0, .int 0, .int 0, .int 0, .int 0, .int 0, .int 0, .null, .null, .int 0, .null, .null, .null, .null, .null, .null, .null, .null, .null, .null, .int 0, .null, .null, .int 0, .null, .null])), (q2, .inl (g.2.1.1, 103, .inl (fun _ => 0))), (q4, .inl (g.2.1.1, 21, .inl (fun _ => 0)))] H := hP
  have hD : va_D A [(h0, .inr (9, [.ref q1, .ref q2, .ref q3, .ref q4, .ref q5, .int 0, .int 1, .int 0, .null, .int 0, .null, .int 0, .int 0, .int 0, .int 0, .int 0, .int 0, .int 0, .null, .null, .int 0, .null, .null, .null, .null, .null, .null, .null, .null, .null, .null, .int 0, .null, .null, .int 0, .null, .null])), (q2, .inl (g.2.1.1, 103, .inl (fun _ => 0))), (q4, .inl (g.2.1.1, 21, .inl (fun _ => 0)))] := hD
  refine lv_aload_n hx hb dX9_init_60 rfl (lv_at hl 0 rfl) ?_
  refine lv_sipush (v := 1200) hx hb dX9_init_61 (by decide) ?_
  refine zna (atype := .int) (N' := 1200) (a0 := (1200, .inl (fun _ => 0))) hx hb (hG _ g306) (ty := .int) rfl 0 rfl (fun _ h9 => va_nm_int h9) hX hP hD hS hA (fun _ => rfl) (by decide) (by decide) (Nat.le_of_ble_eq_true rfl) (Nat.le_of_ble_eq_true rfl) (Nat.le_of_ble_eq_true rfl) dX9_init_64 (fun q6 H hP hD hS => ?_)
  refine W.cs (cells' := 6) (slots' := 1868) rfl rfl ?_
  have hP : va_P g.1 vwCl [(h0, .inr (9, [.ref q1, .ref q2, .ref q3, .ref q4, .ref q5, .int 0, .int 1, .int 0, .null, .int 0, .null, .int 0, .int 0, .int 0, .int 0, .int 0, .int 0, .int 0, .null, .null, .int 0, .null, .null, .null, .null, .null, .null, .null, .null, .null, .null, .int 0, .null, .null, .int 0, .null, .null])), (q2, .inl (g.2.1.1, 103, .inl (fun _ => 0))), (q4, .inl (g.2.1.1, 21, .inl (fun _ => 0))), (q6, .inl (g.2.1.1, 1200, .inl (fun _ => 0)))] H := hP
  have hD : va_D A [(h0, .inr (9, [.ref q1, .ref q2, .ref q3, .ref q4, .ref q5, .int 0, .int 1, .int 0, .null, .int 0, .null, .int 0, .int 0, .int 0, .int 0, .int 0, .int 0, .int 0, .null, .null, .int 0, .null, .null, .null, .null, .null, .null, .null, .null, .null, .null, .int 0, .null, .null, .int 0, .null, .null])), (q2, .inl (g.2.1.1, 103, .inl (fun _ => 0))), (q4, .inl (g.2.1.1, 21, .inl (fun _ => 0))), (q6, .inl (g.2.1.1, 1200, .inl (fun _ => 0)))] := hD
  refine va_putF (D := g.1) (ci := 9) (v := .ref q6) (ty := (.array .int)) (C := RX9) (T := TX9) (N := 37) hx hb hG iX9 tyX9 tyX9_ok nmX9 hown hX.1 hP hD hS 0 rfl rfl 8 (by decide) (hG _ g1425) (fun _ h9 => h9) rfl hnm rfl (by decide +kernel) rfl rfl (Nat.le_of_ble_eq_true rfl) dX9_init_66 (fun H locs hP hD hS => ?_)
  have hP : va_P g.1 vwCl [(h0, .inr (9, [.ref q1, .ref q2, .ref q3, .ref q4, .ref q5, .int 0, .int 1, .int 0, .ref q6, .int 0, .null, .int 0, .int 0, .int 0, .int 0, .int 0, .int 0, .int 0, .null, .null, .int 0, .null, .null, .null, .null, .null, .null, .null, .null, .null, .null, .int 0, .null, .null, .int 0, .null, .null])), (q2, .inl (g.2.1.1, 103, .inl (fun _ => 0))), (q4, .inl (g.2.1.1, 21, .inl (fun _ => 0))), (q6, .inl (g.2.1.1, 1200, .inl (fun _ => 0)))] H := hP
  have hD : va_D A [(h0, .inr (9, [.ref q1, .ref q2, .ref q3, .ref q4, .ref q5, .int 0, .int 1, .int 0, .ref q6, .int 0, .null, .int 0, .int 0, .int 0, .int 0, .int 0, .int 0, .int 0, .null, .null, .int 0, .null, .null, .null, .null, .null, .null, .null, .null, .null, .null, .int 0, .null, .null, .int 0, .null, .null])), (q2, .inl (g.2.1.1, 103, .inl (fun _ => 0))), (q4, .inl (g.2.1.1, 21, .inl (fun _ => 0))), (q6, .inl (g.2.1.1, 1200, .inl (fun _ => 0)))] := hD
  refine lv_aload_n hx hb dX9_init_69 rfl (lv_at hl 0 rfl) ?_
  refine lv_iconst (v := 0) hx hb dX9_init_70 (by decide) ?_
  refine va_put (D := g.1) (ci := 9) (v := .int 0) (ty := .int) (C := RX9) (T := TX9) (N := 37) hx hb hG iX9 tyX9 tyX9_ok nmX9 hown hX.1 hP hD hS 0 rfl rfl 9 (by decide) (hG _ g1426) (fun _ h9 => h9) rfl (by decide +kernel) rfl rfl (Nat.le_of_ble_eq_true rfl) dX9_init_71 (fun H locs hP hD hS => ?_)
  have hP : va_P g.1 vwCl [(h0, .inr (9, [.ref q1, .ref q2, .ref q3, .ref q4, .ref q5, .int 0, .int 1, .int 0, .ref q6, .int 0, .null, .int 0, .int 0, .int 0, .int 0, .int 0, .int 0, .int 0, .null, .null, .int 0, .null, .null, .null, .null, .null, .null, .null, .null, .null, .null, .int 0, .null, .null, .int 0, .null, .null])), (q2, .inl (g.2.1.1, 103, .inl (fun _ => 0))), (q4, .inl (g.2.1.1, 21, .inl (fun _ => 0))), (q6, .inl (g.2.1.1, 1200, .inl (fun _ => 0)))] H := hP
  have hD : va_D A [(h0, .inr (9, [.ref q1, .ref q2, .ref q3, .ref q4, .ref q5, .int 0, .int 1, .int 0, .ref q6, .int 0, .null, .int 0, .int 0, .int 0, .int 0, .int 0, .int 0, .int 0, .null, .null, .int 0, .null, .null, .null, .null, .null, .null, .null, .null, .null, .null, .int 0, .null, .null, .int 0, .null, .null])), (q2, .inl (g.2.1.1, 103, .inl (fun _ => 0))), (q4, .inl (g.2.1.1, 21, .inl (fun _ => 0))), (q6, .inl (g.2.1.1, 1200, .inl (fun _ => 0)))] := hD
  refine lv_aload_n hx hb dX9_init_74 rfl (lv_at hl 0 rfl) ?_
  refine lv_bipush (v := 6) hx hb dX9_init_75 (by decide) ?_
  refine zna (atype := .int) (N' := 6) (a0 := (6, .inl (fun _ => 0))) hx hb (hG _ g306) (ty := .int) rfl 0 rfl (fun _ h9 => va_nm_int h9) hX hP hD hS hA (fun _ => rfl) (by decide) (by decide) (Nat.le_of_ble_eq_true rfl) (Nat.le_of_ble_eq_true rfl) (Nat.le_of_ble_eq_true rfl) dX9_init_77 (fun q7 H hP hD hS => ?_)
  refine W.cs (cells' := 7) (slots' := 1874) rfl rfl ?_
  have hP : va_P g.1 vwCl [(h0, .inr (9, [.ref q1, .ref q2, .ref q3, .ref q4, .ref q5, .int 0, .int 1, .int 0, .ref q6, .int 0, .null, .int 0, .int 0, .int 0, .int 0, .int 0, .int 0, .int 0, .null, .null, .int 0, .null, .null, .null, .null, .null, .null, .null, .null, .null, .null, .int 0, .null, .null, .int 0, .null, .null])), (q2, .inl (g.2.1.1, 103, .inl (fun _ => 0))), (q4, .inl (g.2.1.1, 21, .inl (fun _ => 0))), (q6, .inl (g.2.1.1, 1200, .inl (fun _ => 0))), (q7, .inl (g.2.1.1, 6, .inl (fun _ => 0)))] H := hP
  have hD : va_D A [(h0, .inr (9, [.ref q1, .ref q2, .ref q3, .ref q4, .ref q5, .int 0, .int 1, .int 0, .ref q6, .int 0, .null, .int 0, .int 0, .int 0, .int 0, .int 0, .int 0, .int 0, .null, .null, .int 0, .null, .null, .null, .null, .null, .null, .null, .null, .null, .null, .int 0, .null, .null, .int 0, .null, .null])), (q2, .inl (g.2.1.1, 103, .inl (fun _ => 0))), (q4, .inl (g.2.1.1, 21, .inl (fun _ => 0))), (q6, .inl (g.2.1.1, 1200, .inl (fun _ => 0))), (q7, .inl (g.2.1.1, 6, .inl (fun _ => 0)))] := hD
  refine va_putF (D := g.1) (ci := 9) (v := .ref q7) (ty := (.array .int)) (C := RX9) (T := TX9) (N := 37) hx hb hG iX9 tyX9 tyX9_ok nmX9 hown hX.1 hP hD hS 0 rfl rfl 10 (by decide) (hG _ g1427) (fun _ h9 => h9) rfl hnm rfl (by decide +kernel) rfl rfl (Nat.le_of_ble_eq_true rfl) dX9_init_79 (fun H locs hP hD hS => ?_)
  have hP : va_P g.1 vwCl [(h0, .inr (9, [.ref q1, .ref q2, .ref q3, .ref q4, .ref q5, .int 0, .int 1, .int 0, .ref q6, .int 0, .ref q7, .int 0, .int 0, .int 0, .int 0, .int 0, .int 0, .int 0, .null, .null, .int 0, .null, .null, .null, .null, .null, .null, .null, .null, .null, .null, .int 0, .null, .null, .int 0, .null, .null])), (q2, .inl (g.2.1.1, 103, .inl (fun _ => 0))), (q4, .inl (g.2.1.1, 21, .inl (fun _ => 0))), (q6, .inl (g.2.1.1, 1200, .inl (fun _ => 0))), (q7, .inl (g.2.1.1, 6, .inl (fun _ => 0)))] H := hP
  have hD : va_D A [(h0, .inr (9, [.ref q1, .ref q2, .ref q3, .ref q4, .ref q5, .int 0, .int 1, .int 0, .ref q6, .int 0, .ref q7, .int 0, .int 0, .int 0, .int 0, .int 0, .int 0, .int 0, .null, .null, .int 0, .null, .null, .null, .null, .null, .null, .null, .null, .null, .null, .int 0, .null, .null, .int 0, .null, .null])), (q2, .inl (g.2.1.1, 103, .inl (fun _ => 0))), (q4, .inl (g.2.1.1, 21, .inl (fun _ => 0))), (q6, .inl (g.2.1.1, 1200, .inl (fun _ => 0))), (q7, .inl (g.2.1.1, 6, .inl (fun _ => 0)))] := hD
  refine lv_aload_n hx hb dX9_init_82 rfl (lv_at hl 0 rfl) ?_
  refine lv_iconst (v := 0) hx hb dX9_init_83 (by decide) ?_
  refine va_put (D := g.1) (ci := 9) (v := .int 0) (ty := .int) (C := RX9) (T := TX9) (N := 37) hx hb hG iX9 tyX9 tyX9_ok nmX9 hown hX.1 hP hD hS 0 rfl rfl 11 (by decide) (hG _ g1428) (fun _ h9 => h9) rfl (by decide +kernel) rfl rfl (Nat.le_of_ble_eq_true rfl) dX9_init_84 (fun H locs hP hD hS => ?_)
  have hP : va_P g.1 vwCl [(h0, .inr (9, [.ref q1, .ref q2, .ref q3, .ref q4, .ref q5, .int 0, .int 1, .int 0, .ref q6, .int 0, .ref q7, .int 0, .int 0, .int 0, .int 0, .int 0, .int 0, .int 0, .null, .null, .int 0, .null, .null, .null, .null, .null, .null, .null, .null, .null, .null, .int 0, .null, .null, .int 0, .null, .null])), (q2, .inl (g.2.1.1, 103, .inl (fun _ => 0))), (q4, .inl (g.2.1.1, 21, .inl (fun _ => 0))), (q6, .inl (g.2.1.1, 1200, .inl (fun _ => 0))), (q7, .inl (g.2.1.1, 6, .inl (fun _ => 0)))] H := hP
  have hD : va_D A [(h0, .inr (9, [.ref q1, .ref q2, .ref q3, .ref q4, .ref q5, .int 0, .int 1, .int 0, .ref q6, .int 0, .ref q7, .int 0, .int 0, .int 0, .int 0, .int 0, .int 0, .int 0, .null, .null, .int 0, .null, .null, .null, .null, .null, .null, .null, .null, .null, .null, .int 0, .null, .null, .int 0, .null, .null])), (q2, .inl (g.2.1.1, 103, .inl (fun _ => 0))), (q4, .inl (g.2.1.1, 21, .inl (fun _ => 0))), (q6, .inl (g.2.1.1, 1200, .inl (fun _ => 0))), (q7, .inl (g.2.1.1, 6, .inl (fun _ => 0)))] := hD
  refine lv_aload_n hx hb dX9_init_87 rfl (lv_at hl 0 rfl) ?_
  refine lv_iconst (v := (-1)) hx hb dX9_init_88 (by decide) ?_
  refine va_put (D := g.1) (ci := 9) (v := .int (-1)) (ty := .int) (C := RX9) (T := TX9) (N := 37) hx hb hG iX9 tyX9 tyX9_ok nmX9 hown hX.1 hP hD hS 0 rfl rfl 12 (by decide) (hG _ g1429) (fun _ h9 => h9) rfl (by decide +kernel) rfl rfl (Nat.le_of_ble_eq_true rfl) dX9_init_89 (fun H locs hP hD hS => ?_)
  have hP : va_P g.1 vwCl [(h0, .inr (9, [.ref q1, .ref q2, .ref q3, .ref q4, .ref q5, .int 0, .int 1, .int 0, .ref q6, .int 0, .ref q7, .int 0, .int (-1), .int 0, .int 0, .int 0, .int 0, .int 0, .null, .null, .int 0, .null, .null, .null, .null, .null, .null, .null, .null, .null, .null, .int 0, .null, .null, .int 0, .null, .null])), (q2, .inl (g.2.1.1, 103, .inl (fun _ => 0))), (q4, .inl (g.2.1.1, 21, .inl (fun _ => 0))), (q6, .inl (g.2.1.1, 1200, .inl (fun _ => 0))), (q7, .inl (g.2.1.1, 6, .inl (fun _ => 0)))] H := hP
  have hD : va_D A [(h0, .inr (9, [.ref q1, .ref q2, .ref q3, .ref q4, .ref q5, .int 0, .int 1, .int 0, .ref q6, .int 0, .ref q7, .int 0, .int (-1), .int 0, .int 0, .int 0, .int 0, .int 0, .null, .null, .int 0, .null, .null, .null, .null, .null, .null, .null, .null, .null, .null, .int 0, .null, .null, .int 0, .null, .null])), (q2, .inl (g.2.1.1, 103, .inl (fun _ => 0))), (q4, .inl (g.2.1.1, 21, .inl (fun _ => 0))), (q6, .inl (g.2.1.1, 1200, .inl (fun _ => 0))), (q7, .inl (g.2.1.1, 6, .inl (fun _ => 0)))] := hD
  refine lv_aload_n hx hb dX9_init_92 rfl (lv_at hl 0 rfl) ?_
  refine lv_iconst (v := 0) hx hb dX9_init_93 (by decide) ?_
  refine va_put (D := g.1) (ci := 9) (v := .int 0) (ty := .int) (C := RX9) (T := TX9) (N := 37) hx hb hG iX9 tyX9 tyX9_ok nmX9 hown hX.1 hP hD hS 0 rfl rfl 13 (by decide) (hG _ g1430) (fun _ h9 => h9) rfl (by decide +kernel) rfl rfl (Nat.le_of_ble_eq_true rfl) dX9_init_94 (fun H locs hP hD hS => ?_)
  have hP : va_P g.1 vwCl [(h0, .inr (9, [.ref q1, .ref q2, .ref q3, .ref q4, .ref q5, .int 0, .int 1, .int 0, .ref q6, .int 0, .ref q7, .int 0, .int (-1), .int 0, .int 0, .int 0, .int 0, .int 0, .null, .null, .int 0, .null, .null, .null, .null, .null, .null, .null, .null, .null, .null, .int 0, .null, .null, .int 0, .null, .null])), (q2, .inl (g.2.1.1, 103, .inl (fun _ => 0))), (q4, .inl (g.2.1.1, 21, .inl (fun _ => 0))), (q6, .inl (g.2.1.1, 1200, .inl (fun _ => 0))), (q7, .inl (g.2.1.1, 6, .inl (fun _ => 0)))] H := hP
  have hD : va_D A [(h0, .inr (9, [.ref q1, .ref q2, .ref q3, .ref q4, .ref q5, .int 0, .int 1, .int 0, .ref q6, .int 0, .ref q7, .int 0, .int (-1), .int 0, .int 0, .int 0, .int 0, .int 0, .null, .null, .int 0, .null, .null, .null, .null, .null, .null, .null, .null, .null, .null, .int 0, .null, .null, .int 0, .null, .null])), (q2, .inl (g.2.1.1, 103, .inl (fun _ => 0))), (q4, .inl (g.2.1.1, 21, .inl (fun _ => 0))), (q6, .inl (g.2.1.1, 1200, .inl (fun _ => 0))), (q7, .inl (g.2.1.1, 6, .inl (fun _ => 0)))] := hD
  refine lv_aload_n hx hb dX9_init_97 rfl (lv_at hl 0 rfl) ?_
  refine lv_iconst (v := 0) hx hb dX9_init_98 (by decide) ?_
  refine va_put (D := g.1) (ci := 9) (v := .int 0) (ty := .int) (C := RX9) (T := TX9) (N := 37) hx hb hG iX9 tyX9 tyX9_ok nmX9 hown hX.1 hP hD hS 0 rfl rfl 14 (by decide) (hG _ g1431) (fun _ h9 => h9) rfl (by decide +kernel) rfl rfl (Nat.le_of_ble_eq_true rfl) dX9_init_99 (fun H locs hP hD hS => ?_)
  have hP : va_P g.1 vwCl [(h0, .inr (9, [.ref q1, .ref q2, .ref q3, .ref q4, .ref q5, .int 0, .int 1, .int 0, .ref q6, .int 0, .ref q7, .int 0, .int (-1), .int 0, .int 0, .int 0, .int 0, .int 0, .null, .null, .int 0, .null, .null, .null, .null, .null, .null, .null, .null, .null, .null, .int 0, .null, .null, .int 0, .null, .null])), (q2, .inl (g.2.1.1, 103, .inl (fun _ => 0))), (q4, .inl (g.2.1.1, 21, .inl (fun _ => 0))), (q6, .inl (g.2.1.1, 1200, .inl (fun _ => 0))), (q7, .inl (g.2.1.1, 6, .inl (fun _ => 0)))] H := hP
  have hD : va_D A [(h0, .inr (9, [.ref q1, .ref q2, .ref q3, .ref q4, .ref q5, .int 0, .int 1, .int 0, .ref q6, .int 0, .ref q7, .int 0, .int (-1), .int 0, .int 0, .int 0, .int 0, .int 0, .null, .null, .int 0, .null, .null, .null, .null, .null, .null, .null, .null, .null, .null, .int 0, .null, .null, .int 0, .null, .null])), (q2, .inl (g.2.1.1, 103, .inl (fun _ => 0))), (q4, .inl (g.2.1.1, 21, .inl (fun _ => 0))), (q6, .inl (g.2.1.1, 1200, .inl (fun _ => 0))), (q7, .inl (g.2.1.1, 6, .inl (fun _ => 0)))] := hD
  refine lv_aload_n hx hb dX9_init_102 rfl (lv_at hl 0 rfl) ?_
  refine lv_iconst (v := 0) hx hb dX9_init_103 (by decide) ?_
  refine va_put (D := g.1) (ci := 9) (v := .int 0) (ty := .int) (C := RX9) (T := TX9) (N := 37) hx hb hG iX9 tyX9 tyX9_ok nmX9 hown hX.1 hP hD hS 0 rfl rfl 15 (by decide) (hG _ g1432) (fun _ h9 => h9) rfl (by decide +kernel) rfl rfl (Nat.le_of_ble_eq_true rfl) dX9_init_104 (fun H locs hP hD hS => ?_)
  have hP : va_P g.1 vwCl [(h0, .inr (9, [.ref q1, .ref q2, .ref q3, .ref q4, .ref q5, .int 0, .int 1, .int 0, .ref q6, .int 0, .ref q7, .int 0, .int (-1), .int 0, .int 0, .int 0, .int 0, .int 0, .null, .null, .int 0, .null, .null, .null, .null, .null, .null, .null, .null, .null, .null, .int 0, .null, .null, .int 0, .null, .null])), (q2, .inl (g.2.1.1, 103, .inl (fun _ => 0))), (q4, .inl (g.2.1.1, 21, .inl (fun _ => 0))), (q6, .inl (g.2.1.1, 1200, .inl (fun _ => 0))), (q7, .inl (g.2.1.1, 6, .inl (fun _ => 0)))] H := hP
  have hD : va_D A [(h0, .inr (9, [.ref q1, .ref q2, .ref q3, .ref q4, .ref q5, .int 0, .int 1, .int 0, .ref q6, .int 0, .ref q7, .int 0, .int (-1), .int 0, .int 0, .int 0, .int 0, .int 0, .null, .null, .int 0, .null, .null, .null, .null, .null, .null, .null, .null, .null, .null, .int 0, .null, .null, .int 0, .null, .null])), (q2, .inl (g.2.1.1, 103, .inl (fun _ => 0))), (q4, .inl (g.2.1.1, 21, .inl (fun _ => 0))), (q6, .inl (g.2.1.1, 1200, .inl (fun _ => 0))), (q7, .inl (g.2.1.1, 6, .inl (fun _ => 0)))] := hD
  refine lv_aload_n hx hb dX9_init_107 rfl (lv_at hl 0 rfl) ?_
  refine lv_iconst (v := 0) hx hb dX9_init_108 (by decide) ?_
  refine va_put (D := g.1) (ci := 9) (v := .int 0) (ty := .int) (C := RX9) (T := TX9) (N := 37) hx hb hG iX9 tyX9 tyX9_ok nmX9 hown hX.1 hP hD hS 0 rfl rfl 16 (by decide) (hG _ g1433) (fun _ h9 => h9) rfl (by decide +kernel) rfl rfl (Nat.le_of_ble_eq_true rfl) dX9_init_109 (fun H locs hP hD hS => ?_)
  have hP : va_P g.1 vwCl [(h0, .inr (9, [.ref q1, .ref q2, .ref q3, .ref q4, .ref q5, .int 0, .int 1, .int 0, .ref q6, .int 0, .ref q7, .int 0, .int (-1), .int 0, .int 0, .int 0, .int 0, .int 0, .null, .null, .int 0, .null, .null, .null, .null, .null, .null, .null, .null, .null, .null, .int 0, .null, .null, .int 0, .null, .null])), (q2, .inl (g.2.1.1, 103, .inl (fun _ => 0))), (q4, .inl (g.2.1.1, 21, .inl (fun _ => 0))), (q6, .inl (g.2.1.1, 1200, .inl (fun _ => 0))), (q7, .inl (g.2.1.1, 6, .inl (fun _ => 0)))] H := hP
  have hD : va_D A [(h0, .inr (9, [.ref q1, .ref q2, .ref q3, .ref q4, .ref q5, .int 0, .int 1, .int 0, .ref q6, .int 0, .ref q7, .int 0, .int (-1), .int 0, .int 0, .int 0, .int 0, .int 0, .null, .null, .int 0, .null, .null, .null, .null, .null, .null, .null, .null, .null, .null, .int 0, .null, .null, .int 0, .null, .null])), (q2, .inl (g.2.1.1, 103, .inl (fun _ => 0))), (q4, .inl (g.2.1.1, 21, .inl (fun _ => 0))), (q6, .inl (g.2.1.1, 1200, .inl (fun _ => 0))), (q7, .inl (g.2.1.1, 6, .inl (fun _ => 0)))] := hD
  refine lv_aload_n hx hb dX9_init_112 rfl (lv_at hl 0 rfl) ?_
  refine lv_iconst (v := (-1)) hx hb dX9_init_113 (by decide) ?_
  refine va_put (D := g.1) (ci := 9) (v := .int (-1)) (ty := .int) (C := RX9) (T := TX9) (N := 37) hx hb hG iX9 tyX9 tyX9_ok nmX9 hown hX.1 hP hD hS 0 rfl rfl 17 (by decide) (hG _ g1434) (fun _ h9 => h9) rfl (by decide +kernel) rfl rfl (Nat.le_of_ble_eq_true rfl) dX9_init_114 (fun H locs hP hD hS => ?_)
  have hP : va_P g.1 vwCl [(h0, .inr (9, [.ref q1, .ref q2, .ref q3, .ref q4, .ref q5, .int 0, .int 1, .int 0, .ref q6, .int 0, .ref q7, .int 0, .int (-1), .int 0, .int 0, .int 0, .int 0, .int (-1), .null, .null, .int 0, .null, .null, .null, .null, .null, .null, .null, .null, .null, .null, .int 0, .null, .null, .int 0, .null, .null])), (q2, .inl (g.2.1.1, 103, .inl (fun _ => 0))), (q4, .inl (g.2.1.1, 21, .inl (fun _ => 0))), (q6, .inl (g.2.1.1, 1200, .inl (fun _ => 0))), (q7, .inl (g.2.1.1, 6, .inl (fun _ => 0)))] H := hP
  have hD : va_D A [(h0, .inr (9, [.ref q1, .ref q2, .ref q3, .ref q4, .ref q5, .int 0, .int 1, .int 0, .ref q6, .int 0, .ref q7, .int 0, .int (-1), .int 0, .int 0, .int 0, .int 0, .int (-1), .null, .null, .int 0, .null, .null, .null, .null, .null, .null, .null, .null, .null, .null, .int 0, .null, .null, .int 0, .null, .null])), (q2, .inl (g.2.1.1, 103, .inl (fun _ => 0))), (q4, .inl (g.2.1.1, 21, .inl (fun _ => 0))), (q6, .inl (g.2.1.1, 1200, .inl (fun _ => 0))), (q7, .inl (g.2.1.1, 6, .inl (fun _ => 0)))] := hD
  refine lv_aload_n hx hb dX9_init_117 rfl (lv_at hl 0 rfl) ?_
  refine lv_bipush (v := 95) hx hb dX9_init_118 (by decide) ?_
  refine zna (atype := .int) (N' := 95) (a0 := (95, .inl (fun _ => 0))) hx hb (hG _ g306) (ty := .int) rfl 0 rfl (fun _ h9 => va_nm_int h9) hX hP hD hS hA (fun _ => rfl) (by decide) (by decide) (Nat.le_of_ble_eq_true rfl) (Nat.le_of_ble_eq_true rfl) (Nat.le_of_ble_eq_true rfl) dX9_init_120 (fun q8 H hP hD hS => ?_)
  refine W.cs (cells' := 8) (slots' := 1969) rfl rfl ?_
  have hP : va_P g.1 vwCl [(h0, .inr (9, [.ref q1, .ref q2, .ref q3, .ref q4, .ref q5, .int 0, .int 1, .int 0, .ref q6, .int 0, .ref q7, .int 0, .int (-1), .int 0, .int 0, .int 0, .int 0, .int (-1), .null, .null, .int 0, .null, .null, .null, .null, .null, .null, .null, .null, .null, .null, .int 0, .null, .null, .int 0, .null, .null])), (q2, .inl (g.2.1.1, 103, .inl (fun _ => 0))), (q4, .inl (g.2.1.1, 21, .inl (fun _ => 0))), (q6, .inl (g.2.1.1, 1200, .inl (fun _ => 0))), (q7, .inl (g.2.1.1, 6, .inl (fun _ => 0))), (q8, .inl (g.2.1.1, 95, .inl (fun _ => 0)))] H := hP
  have hD : va_D A [(h0, .inr (9, [.ref q1, .ref q2, .ref q3, .ref q4, .ref q5, .int 0, .int 1, .int 0, .ref q6, .int 0, .ref q7, .int 0, .int (-1), .int 0, .int 0, .int 0, .int 0, .int (-1), .null, .null, .int 0, .null, .null, .null, .null, .null, .null, .null, .null, .null, .null, .int 0, .null, .null, .int 0, .null, .null])), (q2, .inl (g.2.1.1, 103, .inl (fun _ => 0))), (q4, .inl (g.2.1.1, 21, .inl (fun _ => 0))), (q6, .inl (g.2.1.1, 1200, .inl (fun _ => 0))), (q7, .inl (g.2.1.1, 6, .inl (fun _ => 0))), (q8, .inl (g.2.1.1, 95, .inl (fun _ => 0)))] := hD
  refine lv_dup hx hb dX9_init_122 rfl ?_
  refine lv_iconst (v := 0) hx hb dX9_init_123 (by decide) ?_
  refine lv_bipush (v := 19) hx hb dX9_init_124 (by decide) ?_
  refine va_iast hx hb hX.1 hP hD hS 5 0 rfl rfl (vp_in_iff.mpr (by decide)) dX9_init_126 (fun H locs hP hD hS => ?_)
  obtain ⟨f9, ef9⟩ : ∃ z : Nat → Int32, z = upd (fun _ => 0) (0 : Int32).toNatClampNeg 19 := ⟨_, rfl⟩
  rw [← ef9] at hP hD
  have hP : va_P g.1 vwCl [(h0, .inr (9, [.ref q1, .ref q2, .ref q3, .ref q4, .ref q5, .int 0, .int 1, .int 0, .ref q6, .int 0, .ref q7, .int 0, .int (-1), .int 0, .int 0, .int 0, .int 0, .int (-1), .null, .null, .int 0, .null, .null, .null, .null, .null, .null, .null, .null, .null, .null, .int 0, .null, .null, .int 0, .null, .null])), (q2, .inl (g.2.1.1, 103, .inl (fun _ => 0))), (q4, .inl (g.2.1.1, 21, .inl (fun _ => 0))), (q6, .inl (g.2.1.1, 1200, .inl (fun _ => 0))), (q7, .inl (g.2.1.1, 6, .inl (fun _ => 0))), (q8, .inl (g.2.1.1, 95, .inl f9))] H := hP
  have hD : va_D A [(h0, .inr (9, [.ref q1, .ref q2, .ref q3, .ref q4, .ref q5, .int 0, .int 1, .int 0, .ref q6, .int 0, .ref q7, .int 0, .int (-1), .int 0, .int 0, .int 0, .int 0, .int (-1), .null, .null, .int 0, .null, .null, .null, .null, .null, .null, .null, .null, .null, .null, .int 0, .null, .null, .int 0, .null, .null])), (q2, .inl (g.2.1.1, 103, .inl (fun _ => 0))), (q4, .inl (g.2.1.1, 21, .inl (fun _ => 0))), (q6, .inl (g.2.1.1, 1200, .inl (fun _ => 0))), (q7, .inl (g.2.1.1, 6, .inl (fun _ => 0))), (q8, .inl (g.2.1.1, 95, .inl f9))] := hD
  refine lv_dup hx hb dX9_init_127 rfl ?_
  refine lv_iconst (v := 1) hx hb dX9_init_128 (by decide) ?_
  refine lv_bipush (v := 8) hx hb dX9_init_129 (by decide) ?_
  refine va_iast hx hb hX.1 hP hD hS 5 0 rfl rfl (vp_in_iff.mpr (by decide)) dX9_init_131 (fun H locs hP hD hS => ?_)
  obtain ⟨f10, ef10⟩ : ∃ z : Nat → Int32, z = upd f9 (1 : Int32).toNatClampNeg 8 := ⟨_, rfl⟩
  rw [← ef10] at hP hD
  have hP : va_P g.1 vwCl [(h0, .inr (9, [.ref q1, .ref q2, .ref q3, .ref q4, .ref q5, .int 0, .int 1, .int 0, .ref q6, .int 0, .ref q7, .int 0, .int (-1), .int 0, .int 0, .int 0, .int 0, .int (-1), .null, .null, .int 0, .null, .null, .null, .null, .null, .null, .null, .null, .null, .null, .int 0, .null, .null, .int 0, .null, .null])), (q2, .inl (g.2.1.1, 103, .inl (fun _ => 0))), (q4, .inl (g.2.1.1, 21, .inl (fun _ => 0))), (q6, .inl (g.2.1.1, 1200, .inl (fun _ => 0))), (q7, .inl (g.2.1.1, 6, .inl (fun _ => 0))), (q8, .inl (g.2.1.1, 95, .inl f10))] H := hP
  have hD : va_D A [(h0, .inr (9, [.ref q1, .ref q2, .ref q3, .ref q4, .ref q5, .int 0, .int 1, .int 0, .ref q6, .int 0, .ref q7, .int 0, .int (-1), .int 0, .int 0, .int 0, .int 0, .int (-1), .null, .null, .int 0, .null, .null, .null, .null, .null, .null, .null, .null, .null, .null, .int 0, .null, .null, .int 0, .null, .null])), (q2, .inl (g.2.1.1, 103, .inl (fun _ => 0))), (q4, .inl (g.2.1.1, 21, .inl (fun _ => 0))), (q6, .inl (g.2.1.1, 1200, .inl (fun _ => 0))), (q7, .inl (g.2.1.1, 6, .inl (fun _ => 0))), (q8, .inl (g.2.1.1, 95, .inl f10))] := hD
  refine lv_dup hx hb dX9_init_132 rfl ?_
  refine lv_iconst (v := 2) hx hb dX9_init_133 (by decide) ?_
  refine lv_iconst (v := 5) hx hb dX9_init_134 (by decide) ?_
  refine va_iast hx hb hX.1 hP hD hS 5 0 rfl rfl (vp_in_iff.mpr (by decide)) dX9_init_135 (fun H locs hP hD hS => ?_)
  obtain ⟨f11, ef11⟩ : ∃ z : Nat → Int32, z = upd f10 (2 : Int32).toNatClampNeg 5 := ⟨_, rfl⟩
  rw [← ef11] at hP hD
  have hP : va_P g.1 vwCl [(h0, .inr (9, [.ref q1, .ref q2, .ref q3, .ref q4, .ref q5, .int 0, .int 1, .int 0, .ref q6, .int 0, .ref q7, .int 0, .int (-1), .int 0, .int 0, .int 0, .int 0, .int (-1), .null, .null, .int 0, .null, .null, .null, .null, .null, .null, .null, .null, .null, .null, .int 0, .null, .null, .int 0, .null, .null])), (q2, .inl (g.2.1.1, 103, .inl (fun _ => 0))), (q4, .inl (g.2.1.1, 21, .inl (fun _ => 0))), (q6, .inl (g.2.1.1, 1200, .inl (fun _ => 0))), (q7, .inl (g.2.1.1, 6, .inl (fun _ => 0))), (q8, .inl (g.2.1.1, 95, .inl f11))] H := hP
  have hD : va_D A [(h0, .inr (9, [.ref q1, .ref q2, .ref q3, .ref q4, .ref q5, .int 0, .int 1, .int 0, .ref q6, .int 0, .ref q7, .int 0, .int (-1), .int 0, .int 0, .int 0, .int 0, .int (-1), .null, .null, .int 0, .null, .null, .null, .null, .null, .null, .null, .null, .null, .null, .int 0, .null, .null, .int 0, .null, .null])), (q2, .inl (g.2.1.1, 103, .inl (fun _ => 0))), (q4, .inl (g.2.1.1, 21, .inl (fun _ => 0))), (q6, .inl (g.2.1.1, 1200, .inl (fun _ => 0))), (q7, .inl (g.2.1.1, 6, .inl (fun _ => 0))), (q8, .inl (g.2.1.1, 95, .inl f11))] := hD
  refine lv_dup hx hb dX9_init_136 rfl ?_
  refine lv_iconst (v := 3) hx hb dX9_init_137 (by decide) ?_
  refine lv_iconst (v := 5) hx hb dX9_init_138 (by decide) ?_
  refine va_iast hx hb hX.1 hP hD hS 5 0 rfl rfl (vp_in_iff.mpr (by decide)) dX9_init_139 (fun H locs hP hD hS => ?_)
  obtain ⟨f12, ef12⟩ : ∃ z : Nat → Int32, z = upd f11 (3 : Int32).toNatClampNeg 5 := ⟨_, rfl⟩
  rw [← ef12] at hP hD
  have hP : va_P g.1 vwCl [(h0, .inr (9, [.ref q1, .ref q2, .ref q3, .ref q4, .ref q5, .int 0, .int 1, .int 0, .ref q6, .int 0, .ref q7, .int 0, .int (-1), .int 0, .int 0, .int 0, .int 0, .int (-1), .null, .null, .int 0, .null, .null, .null, .null, .null, .null, .null, .null, .null, .null, .int 0, .null, .null, .int 0, .null, .null])), (q2, .inl (g.2.1.1, 103, .inl (fun _ => 0))), (q4, .inl (g.2.1.1, 21, .inl (fun _ => 0))), (q6, .inl (g.2.1.1, 1200, .inl (fun _ => 0))), (q7, .inl (g.2.1.1, 6, .inl (fun _ => 0))), (q8, .inl (g.2.1.1, 95, .inl f12))] H := hP
  have hD : va_D A [(h0, .inr (9, [.ref q1, .ref q2, .ref q3, .ref q4, .ref q5, .int 0, .int 1, .int 0, .ref q6, .int 0, .ref q7, .int 0, .int (-1), .int 0, .int 0, .int 0, .int 0, .int (-1), .null, .null, .int 0, .null, .null, .null, .null, .null, .null, .null, .null, .null, .null, .int 0, .null, .null, .int 0, .null, .null])), (q2, .inl (g.2.1.1, 103, .inl (fun _ => 0))), (q4, .inl (g.2.1.1, 21, .inl (fun _ => 0))), (q6, .inl (g.2.1.1, 1200, .inl (fun _ => 0))), (q7, .inl (g.2.1.1, 6, .inl (fun _ => 0))), (q8, .inl (g.2.1.1, 95, .inl f12))] := hD
  refine lv_dup hx hb dX9_init_140 rfl ?_
  refine lv_iconst (v := 4) hx hb dX9_init_141 (by decide) ?_
  refine lv_bipush (v := 20) hx hb dX9_init_142 (by decide) ?_
  refine va_iast hx hb hX.1 hP hD hS 5 0 rfl rfl (vp_in_iff.mpr (by decide)) dX9_init_144 (fun H locs hP hD hS => ?_)
  obtain ⟨f13, ef13⟩ : ∃ z : Nat → Int32, z = upd f12 (4 : Int32).toNatClampNeg 20 := ⟨_, rfl⟩
  rw [← ef13] at hP hD
  have hP : va_P g.1 vwCl [(h0, .inr (9, [.ref q1, .ref q2, .ref q3, .ref q4, .ref q5, .int 0, .int 1, .int 0, .ref q6, .int 0, .ref q7, .int 0, .int (-1), .int 0, .int 0, .int 0, .int 0, .int (-1), .null, .null, .int 0, .null, .null, .null, .null, .null, .null, .null, .null, .null, .null, .int 0, .null, .null, .int 0, .null, .null])), (q2, .inl (g.2.1.1, 103, .inl (fun _ => 0))), (q4, .inl (g.2.1.1, 21, .inl (fun _ => 0))), (q6, .inl (g.2.1.1, 1200, .inl (fun _ => 0))), (q7, .inl (g.2.1.1, 6, .inl (fun _ => 0))), (q8, .inl (g.2.1.1, 95, .inl f13))] H := hP
  have hD : va_D A [(h0, .inr (9, [.ref q1, .ref q2, .ref q3, .ref q4, .ref q5, .int 0, .int 1, .int 0, .ref q6, .int 0, .ref q7, .int 0, .int (-1), .int 0, .int 0, .int 0, .int 0, .int (-1), .null, .null, .int 0, .null, .null, .null, .null, .null, .null, .null, .null, .null, .null, .int 0, .null, .null, .int 0, .null, .null])), (q2, .inl (g.2.1.1, 103, .inl (fun _ => 0))), (q4, .inl (g.2.1.1, 21, .inl (fun _ => 0))), (q6, .inl (g.2.1.1, 1200, .inl (fun _ => 0))), (q7, .inl (g.2.1.1, 6, .inl (fun _ => 0))), (q8, .inl (g.2.1.1, 95, .inl f13))] := hD
  refine lv_dup hx hb dX9_init_145 rfl ?_
  refine lv_iconst (v := 5) hx hb dX9_init_146 (by decide) ?_
  refine lv_iconst (v := 0) hx hb dX9_init_147 (by decide) ?_
  refine va_iast hx hb hX.1 hP hD hS 5 0 rfl rfl (vp_in_iff.mpr (by decide)) dX9_init_148 (fun H locs hP hD hS => ?_)
  obtain ⟨f14, ef14⟩ : ∃ z : Nat → Int32, z = upd f13 (5 : Int32).toNatClampNeg 0 := ⟨_, rfl⟩
  rw [← ef14] at hP hD
  have hP : va_P g.1 vwCl [(h0, .inr (9, [.ref q1, .ref q2, .ref q3, .ref q4, .ref q5, .int 0, .int 1, .int 0, .ref q6, .int 0, .ref q7, .int 0, .int (-1), .int 0, .int 0, .int 0, .int 0, .int (-1), .null, .null, .int 0, .null, .null, .null, .null, .null, .null, .null, .null, .null, .null, .int 0, .null, .null, .int 0, .null, .null])), (q2, .inl (g.2.1.1, 103, .inl (fun _ => 0))), (q4, .inl (g.2.1.1, 21, .inl (fun _ => 0))), (q6, .inl (g.2.1.1, 1200, .inl (fun _ => 0))), (q7, .inl (g.2.1.1, 6, .inl (fun _ => 0))), (q8, .inl (g.2.1.1, 95, .inl f14))] H := hP
  have hD : va_D A [(h0, .inr (9, [.ref q1, .ref q2, .ref q3, .ref q4, .ref q5, .int 0, .int 1, .int 0, .ref q6, .int 0, .ref q7, .int 0, .int (-1), .int 0, .int 0, .int 0, .int 0, .int (-1), .null, .null, .int 0, .null, .null, .null, .null, .null, .null, .null, .null, .null, .null, .int 0, .null, .null, .int 0, .null, .null])), (q2, .inl (g.2.1.1, 103, .inl (fun _ => 0))), (q4, .inl (g.2.1.1, 21, .inl (fun _ => 0))), (q6, .inl (g.2.1.1, 1200, .inl (fun _ => 0))), (q7, .inl (g.2.1.1, 6, .inl (fun _ => 0))), (q8, .inl (g.2.1.1, 95, .inl f14))] := hD
  refine lv_dup hx hb dX9_init_149 rfl ?_
  refine lv_bipush (v := 6) hx hb dX9_init_150 (by decide) ?_
  refine lv_bipush (v := 20) hx hb dX9_init_152 (by decide) ?_
  refine va_iast hx hb hX.1 hP hD hS 5 0 rfl rfl (vp_in_iff.mpr (by decide)) dX9_init_154 (fun H locs hP hD hS => ?_)
  obtain ⟨f15, ef15⟩ : ∃ z : Nat → Int32, z = upd f14 (6 : Int32).toNatClampNeg 20 := ⟨_, rfl⟩
  rw [← ef15] at hP hD
  have hP : va_P g.1 vwCl [(h0, .inr (9, [.ref q1, .ref q2, .ref q3, .ref q4, .ref q5, .int 0, .int 1, .int 0, .ref q6, .int 0, .ref q7, .int 0, .int (-1), .int 0, .int 0, .int 0, .int 0, .int (-1), .null, .null, .int 0, .null, .null, .null, .null, .null, .null, .null, .null, .null, .null, .int 0, .null, .null, .int 0, .null, .null])), (q2, .inl (g.2.1.1, 103, .inl (fun _ => 0))), (q4, .inl (g.2.1.1, 21, .inl (fun _ => 0))), (q6, .inl (g.2.1.1, 1200, .inl (fun _ => 0))), (q7, .inl (g.2.1.1, 6, .inl (fun _ => 0))), (q8, .inl (g.2.1.1, 95, .inl f15))] H := hP
  have hD : va_D A [(h0, .inr (9, [.ref q1, .ref q2, .ref q3, .ref q4, .ref q5, .int 0, .int 1, .int 0, .ref q6, .int 0, .ref q7, .int 0, .int (-1), .int 0, .int 0, .int 0, .int 0, .int (-1), .null, .null, .int 0, .null, .null, .null, .null, .null, .null, .null, .null, .null, .null, .int 0, .null, .null, .int 0, .null, .null])), (q2, .inl (g.2.1.1, 103, .inl (fun _ => 0))), (q4, .inl (g.2.1.1, 21, .inl (fun _ => 0))), (q6, .inl (g.2.1.1, 1200, .inl (fun _ => 0))), (q7, .inl (g.2.1.1, 6, .inl (fun _ => 0))), (q8, .inl (g.2.1.1, 95, .inl f15))] := hD
  refine lv_dup hx hb dX9_init_155 rfl ?_
  refine lv_bipush (v := 7) hx hb dX9_init_156 (by decide) ?_
  refine lv_bipush (v := 8) hx hb dX9_init_158 (by decide) ?_
  refine va_iast hx hb hX.1 hP hD hS 5 0 rfl rfl (vp_in_iff.mpr (by decide)) dX9_init_160 (fun H locs hP hD hS => ?_)
  obtain ⟨f16, ef16⟩ : ∃ z : Nat → Int32, z = upd f15 (7 : Int32).toNatClampNeg 8 := ⟨_, rfl⟩
  rw [← ef16] at hP hD
  have hP : va_P g.1 vwCl [(h0, .inr (9, [.ref q1, .ref q2, .ref q3, .ref q4, .ref q5, .int 0, .int 1, .int 0, .ref q6, .int 0, .ref q7, .int 0, .int (-1), .int 0, .int 0, .int 0, .int 0, .int (-1), .null, .null, .int 0, .null, .null, .null, .null, .null, .null, .null, .null, .null, .null, .int 0, .null, .null, .int 0, .null, .null])), (q2, .inl (g.2.1.1, 103, .inl (fun _ => 0))), (q4, .inl (g.2.1.1, 21, .inl (fun _ => 0))), (q6, .inl (g.2.1.1, 1200, .inl (fun _ => 0))), (q7, .inl (g.2.1.1, 6, .inl (fun _ => 0))), (q8, .inl (g.2.1.1, 95, .inl f16))] H := hP
  have hD : va_D A [(h0, .inr (9, [.ref q1, .ref q2, .ref q3, .ref q4, .ref q5, .int 0, .int 1, .int 0, .ref q6, .int 0, .ref q7, .int 0, .int (-1), .int 0, .int 0, .int 0, .int 0, .int (-1), .null, .null, .int 0, .null, .null, .null, .null, .null, .null, .null, .null, .null, .null, .int 0, .null, .null, .int 0, .null, .null])), (q2, .inl (g.2.1.1, 103, .inl (fun _ => 0))), (q4, .inl (g.2.1.1, 21, .inl (fun _ => 0))), (q6, .inl (g.2.1.1, 1200, .inl (fun _ => 0))), (q7, .inl (g.2.1.1, 6, .inl (fun _ => 0))), (q8, .inl (g.2.1.1, 95, .inl f16))] := hD
  refine lv_dup hx hb dX9_init_161 rfl ?_
  refine lv_bipush (v := 8) hx hb dX9_init_162 (by decide) ?_
  refine lv_bipush (v := 9) hx hb dX9_init_164 (by decide) ?_
  refine va_iast hx hb hX.1 hP hD hS 5 0 rfl rfl (vp_in_iff.mpr (by decide)) dX9_init_166 (fun H locs hP hD hS => ?_)
  obtain ⟨f17, ef17⟩ : ∃ z : Nat → Int32, z = upd f16 (8 : Int32).toNatClampNeg 9 := ⟨_, rfl⟩
  rw [← ef17] at hP hD
  have hP : va_P g.1 vwCl [(h0, .inr (9, [.ref q1, .ref q2, .ref q3, .ref q4, .ref q5, .int 0, .int 1, .int 0, .ref q6, .int 0, .ref q7, .int 0, .int (-1), .int 0, .int 0, .int 0, .int 0, .int (-1), .null, .null, .int 0, .null, .null, .null, .null, .null, .null, .null, .null, .null, .null, .int 0, .null, .null, .int 0, .null, .null])), (q2, .inl (g.2.1.1, 103, .inl (fun _ => 0))), (q4, .inl (g.2.1.1, 21, .inl (fun _ => 0))), (q6, .inl (g.2.1.1, 1200, .inl (fun _ => 0))), (q7, .inl (g.2.1.1, 6, .inl (fun _ => 0))), (q8, .inl (g.2.1.1, 95, .inl f17))] H := hP
  have hD : va_D A [(h0, .inr (9, [.ref q1, .ref q2, .ref q3, .ref q4, .ref q5, .int 0, .int 1, .int 0, .ref q6, .int 0, .ref q7, .int 0, .int (-1), .int 0, .int 0, .int 0, .int 0, .int (-1), .null, .null, .int 0, .null, .null, .null, .null, .null, .null, .null, .null, .null, .null, .int 0, .null, .null, .int 0, .null, .null])), (q2, .inl (g.2.1.1, 103, .inl (fun _ => 0))), (q4, .inl (g.2.1.1, 21, .inl (fun _ => 0))), (q6, .inl (g.2.1.1, 1200, .inl (fun _ => 0))), (q7, .inl (g.2.1.1, 6, .inl (fun _ => 0))), (q8, .inl (g.2.1.1, 95, .inl f17))] := hD
  refine lv_dup hx hb dX9_init_167 rfl ?_
  refine lv_bipush (v := 9) hx hb dX9_init_168 (by decide) ?_
  refine lv_iconst (v := 3) hx hb dX9_init_170 (by decide) ?_
  refine va_iast hx hb hX.1 hP hD hS 5 0 rfl rfl (vp_in_iff.mpr (by decide)) dX9_init_171 (fun H locs hP hD hS => ?_)
  obtain ⟨f18, ef18⟩ : ∃ z : Nat → Int32, z = upd f17 (9 : Int32).toNatClampNeg 3 := ⟨_, rfl⟩
  rw [← ef18] at hP hD
  have hP : va_P g.1 vwCl [(h0, .inr (9, [.ref q1, .ref q2, .ref q3, .ref q4, .ref q5, .int 0, .int 1, .int 0, .ref q6, .int 0, .ref q7, .int 0, .int (-1), .int 0, .int 0, .int 0, .int 0, .int (-1), .null, .null, .int 0, .null, .null, .null, .null, .null, .null, .null, .null, .null, .null, .int 0, .null, .null, .int 0, .null, .null])), (q2, .inl (g.2.1.1, 103, .inl (fun _ => 0))), (q4, .inl (g.2.1.1, 21, .inl (fun _ => 0))), (q6, .inl (g.2.1.1, 1200, .inl (fun _ => 0))), (q7, .inl (g.2.1.1, 6, .inl (fun _ => 0))), (q8, .inl (g.2.1.1, 95, .inl f18))] H := hP
  have hD : va_D A [(h0, .inr (9, [.ref q1, .ref q2, .ref q3, .ref q4, .ref q5, .int 0, .int 1, .int 0, .ref q6, .int 0, .ref q7, .int 0, .int (-1), .int 0, .int 0, .int 0, .int 0, .int (-1), .null, .null, .int 0, .null, .null, .null, .null, .null, .null, .null, .null, .null, .null, .int 0, .null, .null, .int 0, .null, .null])), (q2, .inl (g.2.1.1, 103, .inl (fun _ => 0))), (q4, .inl (g.2.1.1, 21, .inl (fun _ => 0))), (q6, .inl (g.2.1.1, 1200, .inl (fun _ => 0))), (q7, .inl (g.2.1.1, 6, .inl (fun _ => 0))), (q8, .inl (g.2.1.1, 95, .inl f18))] := hD
  refine lv_dup hx hb dX9_init_172 rfl ?_
  refine lv_bipush (v := 10) hx hb dX9_init_173 (by decide) ?_
  refine lv_bipush (v := 11) hx hb dX9_init_175 (by decide) ?_
  refine va_iast hx hb hX.1 hP hD hS 5 0 rfl rfl (vp_in_iff.mpr (by decide)) dX9_init_177 (fun H locs hP hD hS => ?_)
  obtain ⟨f19, ef19⟩ : ∃ z : Nat → Int32, z = upd f18 (10 : Int32).toNatClampNeg 11 := ⟨_, rfl⟩
  rw [← ef19] at hP hD
  have hP : va_P g.1 vwCl [(h0, .inr (9, [.ref q1, .ref q2, .ref q3, .ref q4, .ref q5, .int 0, .int 1, .int 0, .ref q6, .int 0, .ref q7, .int 0, .int (-1), .int 0, .int 0, .int 0, .int 0, .int (-1), .null, .null, .int 0, .null, .null, .null, .null, .null, .null, .null, .null, .null, .null, .int 0, .null, .null, .int 0, .null, .null])), (q2, .inl (g.2.1.1, 103, .inl (fun _ => 0))), (q4, .inl (g.2.1.1, 21, .inl (fun _ => 0))), (q6, .inl (g.2.1.1, 1200, .inl (fun _ => 0))), (q7, .inl (g.2.1.1, 6, .inl (fun _ => 0))), (q8, .inl (g.2.1.1, 95, .inl f19))] H := hP
  have hD : va_D A [(h0, .inr (9, [.ref q1, .ref q2, .ref q3, .ref q4, .ref q5, .int 0, .int 1, .int 0, .ref q6, .int 0, .ref q7, .int 0, .int (-1), .int 0, .int 0, .int 0, .int 0, .int (-1), .null, .null, .int 0, .null, .null, .null, .null, .null, .null, .null, .null, .null, .null, .int 0, .null, .null, .int 0, .null, .null])), (q2, .inl (g.2.1.1, 103, .inl (fun _ => 0))), (q4, .inl (g.2.1.1, 21, .inl (fun _ => 0))), (q6, .inl (g.2.1.1, 1200, .inl (fun _ => 0))), (q7, .inl (g.2.1.1, 6, .inl (fun _ => 0))), (q8, .inl (g.2.1.1, 95, .inl f19))] := hD
  refine lv_dup hx hb dX9_init_178 rfl ?_
  refine lv_bipush (v := 11) hx hb dX9_init_179 (by decide) ?_
  refine lv_iconst (v := 0) hx hb dX9_init_181 (by decide) ?_
  refine va_iast hx hb hX.1 hP hD hS 5 0 rfl rfl (vp_in_iff.mpr (by decide)) dX9_init_182 (fun H locs hP hD hS => ?_)
  obtain ⟨f20, ef20⟩ : ∃ z : Nat → Int32, z = upd f19 (11 : Int32).toNatClampNeg 0 := ⟨_, rfl⟩
  rw [← ef20] at hP hD
  have hP : va_P g.1 vwCl [(h0, .inr (9, [.ref q1, .ref q2, .ref q3, .ref q4, .ref q5, .int 0, .int 1, .int 0, .ref q6, .int 0, .ref q7, .int 0, .int (-1), .int 0, .int 0, .int 0, .int 0, .int (-1), .null, .null, .int 0, .null, .null, .null, .null, .null, .null, .null, .null, .null, .null, .int 0, .null, .null, .int 0, .null, .null])), (q2, .inl (g.2.1.1, 103, .inl (fun _ => 0))), (q4, .inl (g.2.1.1, 21, .inl (fun _ => 0))), (q6, .inl (g.2.1.1, 1200, .inl (fun _ => 0))), (q7, .inl (g.2.1.1, 6, .inl (fun _ => 0))), (q8, .inl (g.2.1.1, 95, .inl f20))] H := hP
  have hD : va_D A [(h0, .inr (9, [.ref q1, .ref q2, .ref q3, .ref q4, .ref q5, .int 0, .int 1, .int 0, .ref q6, .int 0, .ref q7, .int 0, .int (-1), .int 0, .int 0, .int 0, .int 0, .int (-1), .null, .null, .int 0, .null, .null, .null, .null, .null, .null, .null, .null, .null, .null, .int 0, .null, .null, .int 0, .null, .null])), (q2, .inl (g.2.1.1, 103, .inl (fun _ => 0))), (q4, .inl (g.2.1.1, 21, .inl (fun _ => 0))), (q6, .inl (g.2.1.1, 1200, .inl (fun _ => 0))), (q7, .inl (g.2.1.1, 6, .inl (fun _ => 0))), (q8, .inl (g.2.1.1, 95, .inl f20))] := hD
  refine lv_dup hx hb dX9_init_183 rfl ?_
  refine lv_bipush (v := 12) hx hb dX9_init_184 (by decide) ?_
  refine lv_iconst (v := 2) hx hb dX9_init_186 (by decide) ?_
  refine va_iast hx hb hX.1 hP hD hS 5 0 rfl rfl (vp_in_iff.mpr (by decide)) dX9_init_187 (fun H locs hP hD hS => ?_)
  obtain ⟨f21, ef21⟩ : ∃ z : Nat → Int32, z = upd f20 (12 : Int32).toNatClampNeg 2 := ⟨_, rfl⟩
  rw [← ef21] at hP hD
  have hP : va_P g.1 vwCl [(h0, .inr (9, [.ref q1, .ref q2, .ref q3, .ref q4, .ref q5, .int 0, .int 1, .int 0, .ref q6, .int 0, .ref q7, .int 0, .int (-1), .int 0, .int 0, .int 0, .int 0, .int (-1), .null, .null, .int 0, .null, .null, .null, .null, .null, .null, .null, .null, .null, .null, .int 0, .null, .null, .int 0, .null, .null])), (q2, .inl (g.2.1.1, 103, .inl (fun _ => 0))), (q4, .inl (g.2.1.1, 21, .inl (fun _ => 0))), (q6, .inl (g.2.1.1, 1200, .inl (fun _ => 0))), (q7, .inl (g.2.1.1, 6, .inl (fun _ => 0))), (q8, .inl (g.2.1.1, 95, .inl f21))] H := hP
  have hD : va_D A [(h0, .inr (9, [.ref q1, .ref q2, .ref q3, .ref q4, .ref q5, .int 0, .int 1, .int 0, .ref q6, .int 0, .ref q7, .int 0, .int (-1), .int 0, .int 0, .int 0, .int 0, .int (-1), .null, .null, .int 0, .null, .null, .null, .null, .null, .null, .null, .null, .null, .null, .int 0, .null, .null, .int 0, .null, .null])), (q2, .inl (g.2.1.1, 103, .inl (fun _ => 0))), (q4, .inl (g.2.1.1, 21, .inl (fun _ => 0))), (q6, .inl (g.2.1.1, 1200, .inl (fun _ => 0))), (q7, .inl (g.2.1.1, 6, .inl (fun _ => 0))), (q8, .inl (g.2.1.1, 95, .inl f21))] := hD
  refine lv_dup hx hb dX9_init_188 rfl ?_
  refine lv_bipush (v := 13) hx hb dX9_init_189 (by decide) ?_
  refine lv_iconst (v := 1) hx hb dX9_init_191 (by decide) ?_
  refine va_iast hx hb hX.1 hP hD hS 5 0 rfl rfl (vp_in_iff.mpr (by decide)) dX9_init_192 (fun H locs hP hD hS => ?_)
  obtain ⟨f22, ef22⟩ : ∃ z : Nat → Int32, z = upd f21 (13 : Int32).toNatClampNeg 1 := ⟨_, rfl⟩
  rw [← ef22] at hP hD
  have hP : va_P g.1 vwCl [(h0, .inr (9, [.ref q1, .ref q2, .ref q3, .ref q4, .ref q5, .int 0, .int 1, .int 0, .ref q6, .int 0, .ref q7, .int 0, .int (-1), .int 0, .int 0, .int 0, .int 0, .int (-1), .null, .null, .int 0, .null, .null, .null, .null, .null, .null, .null, .null, .null, .null, .int 0, .null, .null, .int 0, .null, .null])), (q2, .inl (g.2.1.1, 103, .inl (fun _ => 0))), (q4, .inl (g.2.1.1, 21, .inl (fun _ => 0))), (q6, .inl (g.2.1.1, 1200, .inl (fun _ => 0))), (q7, .inl (g.2.1.1, 6, .inl (fun _ => 0))), (q8, .inl (g.2.1.1, 95, .inl f22))] H := hP
  have hD : va_D A [(h0, .inr (9, [.ref q1, .ref q2, .ref q3, .ref q4, .ref q5, .int 0, .int 1, .int 0, .ref q6, .int 0, .ref q7, .int 0, .int (-1), .int 0, .int 0, .int 0, .int 0, .int (-1), .null, .null, .int 0, .null, .null, .null, .null, .null, .null, .null, .null, .null, .null, .int 0, .null, .null, .int 0, .null, .null])), (q2, .inl (g.2.1.1, 103, .inl (fun _ => 0))), (q4, .inl (g.2.1.1, 21, .inl (fun _ => 0))), (q6, .inl (g.2.1.1, 1200, .inl (fun _ => 0))), (q7, .inl (g.2.1.1, 6, .inl (fun _ => 0))), (q8, .inl (g.2.1.1, 95, .inl f22))] := hD
  refine lv_dup hx hb dX9_init_193 rfl ?_
  refine lv_bipush (v := 14) hx hb dX9_init_194 (by decide) ?_
  refine lv_bipush (v := 19) hx hb dX9_init_196 (by decide) ?_
  refine va_iast hx hb hX.1 hP hD hS 5 0 rfl rfl (vp_in_iff.mpr (by decide)) dX9_init_198 (fun H locs hP hD hS => ?_)
  obtain ⟨f23, ef23⟩ : ∃ z : Nat → Int32, z = upd f22 (14 : Int32).toNatClampNeg 19 := ⟨_, rfl⟩
  rw [← ef23] at hP hD
  have hP : va_P g.1 vwCl [(h0, .inr (9, [.ref q1, .ref q2, .ref q3, .ref q4, .ref q5, .int 0, .int 1, .int 0, .ref q6, .int 0, .ref q7, .int 0, .int (-1), .int 0, .int 0, .int 0, .int 0, .int (-1), .null, .null, .int 0, .null, .null, .null, .null, .null, .null, .null, .null, .null, .null, .int 0, .null, .null, .int 0, .null, .null])), (q2, .inl (g.2.1.1, 103, .inl (fun _ => 0))), (q4, .inl (g.2.1.1, 21, .inl (fun _ => 0))), (q6, .inl (g.2.1.1, 1200, .inl (fun _ => 0))), (q7, .inl (g.2.1.1, 6, .inl (fun _ => 0))), (q8, .inl (g.2.1.1, 95, .inl f23))] H := hP
  have hD : va_D A [(h0, .inr (9, [.ref q1, .ref q2, .ref q3, .ref q4, .ref q5, .int 0, .int 1, .int 0, .ref q6, .int 0, .ref q7, .int 0, .int (-1), .int 0, .int 0, .int 0, .int 0, .int (-1), .null, .null, .int 0, .null, .null, .null, .null, .null, .null, .null, .null, .null, .null, .int 0, .null, .null, .int 0, .null, .null])), (q2, .inl (g.2.1.1, 103, .inl (fun _ => 0))), (q4, .inl (g.2.1.1, 21, .inl (fun _ => 0))), (q6, .inl (g.2.1.1, 1200, .inl (fun _ => 0))), (q7, .inl (g.2.1.1, 6, .inl (fun _ => 0))), (q8, .inl (g.2.1.1, 95, .inl f23))] := hD
  refine lv_dup hx hb dX9_init_199 rfl ?_
  refine lv_bipush (v := 15) hx hb dX9_init_200 (by decide) ?_
  refine lv_iconst (v := 5) hx hb dX9_init_202 (by decide) ?_
  refine va_iast hx hb hX.1 hP hD hS 5 0 rfl rfl (vp_in_iff.mpr (by decide)) dX9_init_203 (fun H locs hP hD hS => ?_)
  obtain ⟨f24, ef24⟩ : ∃ z : Nat → Int32, z = upd f23 (15 : Int32).toNatClampNeg 5 := ⟨_, rfl⟩
  rw [← ef24] at hP hD
  have hP : va_P g.1 vwCl [(h0, .inr (9, [.ref q1, .ref q2, .ref q3, .ref q4, .ref q5, .int 0, .int 1, .int 0, .ref q6, .int 0, .ref q7, .int 0, .int (-1), .int 0, .int 0, .int 0, .int 0, .int (-1), .null, .null, .int 0, .null, .null, .null, .null, .null, .null, .null, .null, .null, .null, .int 0, .null, .null, .int 0, .null, .null])), (q2, .inl (g.2.1.1, 103, .inl (fun _ => 0))), (q4, .inl (g.2.1.1, 21, .inl (fun _ => 0))), (q6, .inl (g.2.1.1, 1200, .inl (fun _ => 0))), (q7, .inl (g.2.1.1, 6, .inl (fun _ => 0))), (q8, .inl (g.2.1.1, 95, .inl f24))] H := hP
  have hD : va_D A [(h0, .inr (9, [.ref q1, .ref q2, .ref q3, .ref q4, .ref q5, .int 0, .int 1, .int 0, .ref q6, .int 0, .ref q7, .int 0, .int (-1), .int 0, .int 0, .int 0, .int 0, .int (-1), .null, .null, .int 0, .null, .null, .null, .null, .null, .null, .null, .null, .null, .null, .int 0, .null, .null, .int 0, .null, .null])), (q2, .inl (g.2.1.1, 103, .inl (fun _ => 0))), (q4, .inl (g.2.1.1, 21, .inl (fun _ => 0))), (q6, .inl (g.2.1.1, 1200, .inl (fun _ => 0))), (q7, .inl (g.2.1.1, 6, .inl (fun _ => 0))), (q8, .inl (g.2.1.1, 95, .inl f24))] := hD
  refine lv_dup hx hb dX9_init_204 rfl ?_
  refine lv_bipush (v := 16) hx hb dX9_init_205 (by decide) ?_
  refine lv_iconst (v := 0) hx hb dX9_init_207 (by decide) ?_
  refine va_iast hx hb hX.1 hP hD hS 5 0 rfl rfl (vp_in_iff.mpr (by decide)) dX9_init_208 (fun H locs hP hD hS => ?_)
  obtain ⟨f25, ef25⟩ : ∃ z : Nat → Int32, z = upd f24 (16 : Int32).toNatClampNeg 0 := ⟨_, rfl⟩
  rw [← ef25] at hP hD
  have hP : va_P g.1 vwCl [(h0, .inr (9, [.ref q1, .ref q2, .ref q3, .ref q4, .ref q5, .int 0, .int 1, .int 0, .ref q6, .int 0, .ref q7, .int 0, .int (-1), .int 0, .int 0, .int 0, .int 0, .int (-1), .null, .null, .int 0, .null, .null, .null, .null, .null, .null, .null, .null, .null, .null, .int 0, .null, .null, .int 0, .null, .null])), (q2, .inl (g.2.1.1, 103, .inl (fun _ => 0))), (q4, .inl (g.2.1.1, 21, .inl (fun _ => 0))), (q6, .inl (g.2.1.1, 1200, .inl (fun _ => 0))), (q7, .inl (g.2.1.1, 6, .inl (fun _ => 0))), (q8, .inl (g.2.1.1, 95, .inl f25))] H := hP
  have hD : va_D A [(h0, .inr (9, [.ref q1, .ref q2, .ref q3, .ref q4, .ref q5, .int 0, .int 1, .int 0, .ref q6, .int 0, .ref q7, .int 0, .int (-1), .int 0, .int 0, .int 0, .int 0, .int (-1), .null, .null, .int 0, .null, .null, .null, .null, .null, .null, .null, .null, .null, .null, .int 0, .null, .null, .int 0, .null, .null])), (q2, .inl (g.2.1.1, 103, .inl (fun _ => 0))), (q4, .inl (g.2.1.1, 21, .inl (fun _ => 0))), (q6, .inl (g.2.1.1, 1200, .inl (fun _ => 0))), (q7, .inl (g.2.1.1, 6, .inl (fun _ => 0))), (q8, .inl (g.2.1.1, 95, .inl f25))] := hD
  refine lv_dup hx hb dX9_init_209 rfl ?_
  refine lv_bipush (v := 17) hx hb dX9_init_210 (by decide) ?_
  refine lv_bipush (v := 16) hx hb dX9_init_212 (by decide) ?_
  refine va_iast hx hb hX.1 hP hD hS 5 0 rfl rfl (vp_in_iff.mpr (by decide)) dX9_init_214 (fun H locs hP hD hS => ?_)
  obtain ⟨f26, ef26⟩ : ∃ z : Nat → Int32, z = upd f25 (17 : Int32).toNatClampNeg 16 := ⟨_, rfl⟩
  rw [← ef26] at hP hD
  have hP : va_P g.1 vwCl [(h0, .inr (9, [.ref q1, .ref q2, .ref q3, .ref q4, .ref q5, .int 0, .int 1, .int 0, .ref q6, .int 0, .ref q7, .int 0, .int (-1), .int 0, .int 0, .int 0, .int 0, .int (-1), .null, .null, .int 0, .null, .null, .null, .null, .null, .null, .null, .null, .null, .null, .int 0, .null, .null, .int 0, .null, .null])), (q2, .inl (g.2.1.1, 103, .inl (fun _ => 0))), (q4, .inl (g.2.1.1, 21, .inl (fun _ => 0))), (q6, .inl (g.2.1.1, 1200, .inl (fun _ => 0))), (q7, .inl (g.2.1.1, 6, .inl (fun _ => 0))), (q8, .inl (g.2.1.1, 95, .inl f26))] H := hP
  have hD : va_D A [(h0, .inr (9, [.ref q1, .ref q2, .ref q3, .ref q4, .ref q5, .int 0, .int 1, .int 0, .ref q6, .int 0, .ref q7, .int 0, .int (-1), .int 0, .int 0, .int 0, .int 0, .int (-1), .null, .null, .int 0, .null, .null, .null, .null, .null, .null, .null, .null, .null, .null, .int 0, .null, .null, .int 0, .null, .null])), (q2, .inl (g.2.1.1, 103, .inl (fun _ => 0))), (q4, .inl (g.2.1.1, 21, .inl (fun _ => 0))), (q6, .inl (g.2.1.1, 1200, .inl (fun _ => 0))), (q7, .inl (g.2.1.1, 6, .inl (fun _ => 0))), (q8, .inl (g.2.1.1, 95, .inl f26))] := hD
  refine lv_dup hx hb dX9_init_215 rfl ?_
  refine lv_bipush (v := 18) hx hb dX9_init_216 (by decide) ?_
  refine lv_bipush (v := 18) hx hb dX9_init_218 (by decide) ?_
  refine va_iast hx hb hX.1 hP hD hS 5 0 rfl rfl (vp_in_iff.mpr (by decide)) dX9_init_220 (fun H locs hP hD hS => ?_)
  obtain ⟨f27, ef27⟩ : ∃ z : Nat → Int32, z = upd f26 (18 : Int32).toNatClampNeg 18 := ⟨_, rfl⟩
  rw [← ef27] at hP hD
  have hP : va_P g.1 vwCl [(h0, .inr (9, [.ref q1, .ref q2, .ref q3, .ref q4, .ref q5, .int 0, .int 1, .int 0, .ref q6, .int 0, .ref q7, .int 0, .int (-1), .int 0, .int 0, .int 0, .int 0, .int (-1), .null, .null, .int 0, .null, .null, .null, .null, .null, .null, .null, .null, .null, .null, .int 0, .null, .null, .int 0, .null, .null])), (q2, .inl (g.2.1.1, 103, .inl (fun _ => 0))), (q4, .inl (g.2.1.1, 21, .inl (fun _ => 0))), (q6, .inl (g.2.1.1, 1200, .inl (fun _ => 0))), (q7, .inl (g.2.1.1, 6, .inl (fun _ => 0))), (q8, .inl (g.2.1.1, 95, .inl f27))] H := hP
  have hD : va_D A [(h0, .inr (9, [.ref q1, .ref q2, .ref q3, .ref q4, .ref q5, .int 0, .int 1, .int 0, .ref q6, .int 0, .ref q7, .int 0, .int (-1), .int 0, .int 0, .int 0, .int 0, .int (-1), .null, .null, .int 0, .null, .null, .null, .null, .null, .null, .null, .null, .null, .null, .int 0, .null, .null, .int 0, .null, .null])), (q2, .inl (g.2.1.1, 103, .inl (fun _ => 0))), (q4, .inl (g.2.1.1, 21, .inl (fun _ => 0))), (q6, .inl (g.2.1.1, 1200, .inl (fun _ => 0))), (q7, .inl (g.2.1.1, 6, .inl (fun _ => 0))), (q8, .inl (g.2.1.1, 95, .inl f27))] := hD
  refine lv_dup hx hb dX9_init_221 rfl ?_
  refine lv_bipush (v := 19) hx hb dX9_init_222 (by decide) ?_
  refine lv_iconst (v := 5) hx hb dX9_init_224 (by decide) ?_
  refine va_iast hx hb hX.1 hP hD hS 5 0 rfl rfl (vp_in_iff.mpr (by decide)) dX9_init_225 (fun H locs hP hD hS => ?_)
  obtain ⟨f28, ef28⟩ : ∃ z : Nat → Int32, z = upd f27 (19 : Int32).toNatClampNeg 5 := ⟨_, rfl⟩
  rw [← ef28] at hP hD
  have hP : va_P g.1 vwCl [(h0, .inr (9, [.ref q1, .ref q2, .ref q3, .ref q4, .ref q5, .int 0, .int 1, .int 0, .ref q6, .int 0, .ref q7, .int 0, .int (-1), .int 0, .int 0, .int 0, .int 0, .int (-1), .null, .null, .int 0, .null, .null, .null, .null, .null, .null, .null, .null, .null, .null, .int 0, .null, .null, .int 0, .null, .null])), (q2, .inl (g.2.1.1, 103, .inl (fun _ => 0))), (q4, .inl (g.2.1.1, 21, .inl (fun _ => 0))), (q6, .inl (g.2.1.1, 1200, .inl (fun _ => 0))), (q7, .inl (g.2.1.1, 6, .inl (fun _ => 0))), (q8, .inl (g.2.1.1, 95, .inl f28))] H := hP
  have hD : va_D A [(h0, .inr (9, [.ref q1, .ref q2, .ref q3, .ref q4, .ref q5, .int 0, .int 1, .int 0, .ref q6, .int 0, .ref q7, .int 0, .int (-1), .int 0, .int 0, .int 0, .int 0, .int (-1), .null, .null, .int 0, .null, .null, .null, .null, .null, .null, .null, .null, .null, .null, .int 0, .null, .null, .int 0, .null, .null])), (q2, .inl (g.2.1.1, 103, .inl (fun _ => 0))), (q4, .inl (g.2.1.1, 21, .inl (fun _ => 0))), (q6, .inl (g.2.1.1, 1200, .inl (fun _ => 0))), (q7, .inl (g.2.1.1, 6, .inl (fun _ => 0))), (q8, .inl (g.2.1.1, 95, .inl f28))] := hD
  refine lv_dup hx hb dX9_init_226 rfl ?_
  refine lv_bipush (v := 20) hx hb dX9_init_227 (by decide) ?_
  refine lv_bipush (v := 19) hx hb dX9_init_229 (by decide) ?_
  refine va_iast hx hb hX.1 hP hD hS 5 0 rfl rfl (vp_in_iff.mpr (by decide)) dX9_init_231 (fun H locs hP hD hS => ?_)
  obtain ⟨f29, ef29⟩ : ∃ z : Nat → Int32, z = upd f28 (20 : Int32).toNatClampNeg 19 := ⟨_, rfl⟩
  rw [← ef29] at hP hD
  have hP : va_P g.1 vwCl [(h0, .inr (9, [.ref q1, .ref q2, .ref q3, .ref q4, .ref q5, .int 0, .int 1, .int 0, .ref q6, .int 0, .ref q7, .int 0, .int (-1), .int 0, .int 0, .int 0, .int 0, .int (-1), .null, .null, .int 0, .null, .null, .null, .null, .null, .null, .null, .null, .null, .null, .int 0, .null, .null, .int 0, .null, .null])), (q2, .inl (g.2.1.1, 103, .inl (fun _ => 0))), (q4, .inl (g.2.1.1, 21, .inl (fun _ => 0))), (q6, .inl (g.2.1.1, 1200, .inl (fun _ => 0))), (q7, .inl (g.2.1.1, 6, .inl (fun _ => 0))), (q8, .inl (g.2.1.1, 95, .inl f29))] H := hP
  have hD : va_D A [(h0, .inr (9, [.ref q1, .ref q2, .ref q3, .ref q4, .ref q5, .int 0, .int 1, .int 0, .ref q6, .int 0, .ref q7, .int 0, .int (-1), .int 0, .int 0, .int 0, .int 0, .int (-1), .null, .null, .int 0, .null, .null, .null, .null, .null, .null, .null, .null, .null, .null, .int 0, .null, .null, .int 0, .null, .null])), (q2, .inl (g.2.1.1, 103, .inl (fun _ => 0))), (q4, .inl (g.2.1.1, 21, .inl (fun _ => 0))), (q6, .inl (g.2.1.1, 1200, .inl (fun _ => 0))), (q7, .inl (g.2.1.1, 6, .inl (fun _ => 0))), (q8, .inl (g.2.1.1, 95, .inl f29))] := hD
  refine lv_dup hx hb dX9_init_232 rfl ?_
  refine lv_bipush (v := 21) hx hb dX9_init_233 (by decide) ?_
  refine lv_bipush (v := 19) hx hb dX9_init_235 (by decide) ?_
  refine va_iast hx hb hX.1 hP hD hS 5 0 rfl rfl (vp_in_iff.mpr (by decide)) dX9_init_237 (fun H locs hP hD hS => ?_)
  obtain ⟨f30, ef30⟩ : ∃ z : Nat → Int32, z = upd f29 (21 : Int32).toNatClampNeg 19 := ⟨_, rfl⟩
  rw [← ef30] at hP hD
  have hP : va_P g.1 vwCl [(h0, .inr (9, [.ref q1, .ref q2, .ref q3, .ref q4, .ref q5, .int 0, .int 1, .int 0, .ref q6, .int 0, .ref q7, .int 0, .int (-1), .int 0, .int 0, .int 0, .int 0, .int (-1), .null, .null, .int 0, .null, .null, .null, .null, .null, .null, .null, .null, .null, .null, .int 0, .null, .null, .int 0, .null, .null])), (q2, .inl (g.2.1.1, 103, .inl (fun _ => 0))), (q4, .inl (g.2.1.1, 21, .inl (fun _ => 0))), (q6, .inl (g.2.1.1, 1200, .inl (fun _ => 0))), (q7, .inl (g.2.1.1, 6, .inl (fun _ => 0))), (q8, .inl (g.2.1.1, 95, .inl f30))] H := hP
  have hD : va_D A [(h0, .inr (9, [.ref q1, .ref q2, .ref q3, .ref q4, .ref q5, .int 0, .int 1, .int 0, .ref q6, .int 0, .ref q7, .int 0, .int (-1), .int 0, .int 0, .int 0, .int 0, .int (-1), .null, .null, .int 0, .null, .null, .null, .null, .null, .null, .null, .null, .null, .null, .int 0, .null, .null, .int 0, .null, .null])), (q2, .inl (g.2.1.1, 103, .inl (fun _ => 0))), (q4, .inl (g.2.1.1, 21, .inl (fun _ => 0))), (q6, .inl (g.2.1.1, 1200, .inl (fun _ => 0))), (q7, .inl (g.2.1.1, 6, .inl (fun _ => 0))), (q8, .inl (g.2.1.1, 95, .inl f30))] := hD
  refine lv_dup hx hb dX9_init_238 rfl ?_
  refine lv_bipush (v := 22) hx hb dX9_init_239 (by decide) ?_
  refine lv_iconst (v := 0) hx hb dX9_init_241 (by decide) ?_
  refine va_iast hx hb hX.1 hP hD hS 5 0 rfl rfl (vp_in_iff.mpr (by decide)) dX9_init_242 (fun H locs hP hD hS => ?_)
  obtain ⟨f31, ef31⟩ : ∃ z : Nat → Int32, z = upd f30 (22 : Int32).toNatClampNeg 0 := ⟨_, rfl⟩
  rw [← ef31] at hP hD
  have hP : va_P g.1 vwCl [(h0, .inr (9, [.ref q1, .ref q2, .ref q3, .ref q4, .ref q5, .int 0, .int 1, .int 0, .ref q6, .int 0, .ref q7, .int 0, .int (-1), .int 0, .int 0, .int 0, .int 0, .int (-1), .null, .null, .int 0, .null, .null, .null, .null, .null, .null, .null, .null, .null, .null, .int 0, .null, .null, .int 0, .null, .null])), (q2, .inl (g.2.1.1, 103, .inl (fun _ => 0))), (q4, .inl (g.2.1.1, 21, .inl (fun _ => 0))), (q6, .inl (g.2.1.1, 1200, .inl (fun _ => 0))), (q7, .inl (g.2.1.1, 6, .inl (fun _ => 0))), (q8, .inl (g.2.1.1, 95, .inl f31))] H := hP
  have hD : va_D A [(h0, .inr (9, [.ref q1, .ref q2, .ref q3, .ref q4, .ref q5, .int 0, .int 1, .int 0, .ref q6, .int 0, .ref q7, .int 0, .int (-1), .int 0, .int 0, .int 0, .int 0, .int (-1), .null, .null, .int 0, .null, .null, .null, .null, .null, .null, .null, .null, .null, .null, .int 0, .null, .null, .int 0, .null, .null])), (q2, .inl (g.2.1.1, 103, .inl (fun _ => 0))), (q4, .inl (g.2.1.1, 21, .inl (fun _ => 0))), (q6, .inl (g.2.1.1, 1200, .inl (fun _ => 0))), (q7, .inl (g.2.1.1, 6, .inl (fun _ => 0))), (q8, .inl (g.2.1.1, 95, .inl f31))] := hD
  refine lv_dup hx hb dX9_init_243 rfl ?_
  refine lv_bipush (v := 23) hx hb dX9_init_244 (by decide) ?_
  refine lv_bipush (v := 20) hx hb dX9_init_246 (by decide) ?_
  refine va_iast hx hb hX.1 hP hD hS 5 0 rfl rfl (vp_in_iff.mpr (by decide)) dX9_init_248 (fun H locs hP hD hS => ?_)
  obtain ⟨f32, ef32⟩ : ∃ z : Nat → Int32, z = upd f31 (23 : Int32).toNatClampNeg 20 := ⟨_, rfl⟩
  rw [← ef32] at hP hD
  have hP : va_P g.1 vwCl [(h0, .inr (9, [.ref q1, .ref q2, .ref q3, .ref q4, .ref q5, .int 0, .int 1, .int 0, .ref q6, .int 0, .ref q7, .int 0, .int (-1), .int 0, .int 0, .int 0, .int 0, .int (-1), .null, .null, .int 0, .null, .null, .null, .null, .null, .null, .null, .null, .null, .null, .int 0, .null, .null, .int 0, .null, .null])), (q2, .inl (g.2.1.1, 103, .inl (fun _ => 0))), (q4, .inl (g.2.1.1, 21, .inl (fun _ => 0))), (q6, .inl (g.2.1.1, 1200, .inl (fun _ => 0))), (q7, .inl (g.2.1.1, 6, .inl (fun _ => 0))), (q8, .inl (g.2.1.1, 95, .inl f32))] H := hP
  have hD : va_D A [(h0, .inr (9, [.ref q1, .ref q2, .ref q3, .ref q4, .ref q5, .int 0, .int 1, .int 0, .ref q6, .int 0, .ref q7, .int 0, .int (-1), .int 0, .int 0, .int 0, .int 0, .int (-1), .null, .null, .int 0, .null, .null, .null, .null, .null, .null, .null, .null, .null, .null, .int 0, .null, .null, .int 0, .null, .null])), (q2, .inl (g.2.1.1, 103, .inl (fun _ => 0))), (q4, .inl (g.2.1.1, 21, .inl (fun _ => 0))), (q6, .inl (g.2.1.1, 1200, .inl (fun _ => 0))), (q7, .inl (g.2.1.1, 6, .inl (fun _ => 0))), (q8, .inl (g.2.1.1, 95, .inl f32))] := hD
  refine lv_dup hx hb dX9_init_249 rfl ?_
  refine lv_bipush (v := 24) hx hb dX9_init_250 (by decide) ?_
  refine lv_bipush (v := 15) hx hb dX9_init_252 (by decide) ?_
  refine va_iast hx hb hX.1 hP hD hS 5 0 rfl rfl (vp_in_iff.mpr (by decide)) dX9_init_254 (fun H locs hP hD hS => ?_)
  obtain ⟨f33, ef33⟩ : ∃ z : Nat → Int32, z = upd f32 (24 : Int32).toNatClampNeg 15 := ⟨_, rfl⟩
  rw [← ef33] at hP hD
  have hP : va_P g.1 vwCl [(h0, .inr (9, [.ref q1, .ref q2, .ref q3, .ref q4, .ref q5, .int 0, .int 1, .int 0, .ref q6, .int 0, .ref q7, .int 0, .int (-1), .int 0, .int 0, .int 0, .int 0, .int (-1), .null, .null, .int 0, .null, .null, .null, .null, .null, .null, .null, .null, .null, .null, .int 0, .null, .null, .int 0, .null, .null])), (q2, .inl (g.2.1.1, 103, .inl (fun _ => 0))), (q4, .inl (g.2.1.1, 21, .inl (fun _ => 0))), (q6, .inl (g.2.1.1, 1200, .inl (fun _ => 0))), (q7, .inl (g.2.1.1, 6, .inl (fun _ => 0))), (q8, .inl (g.2.1.1, 95, .inl f33))] H := hP
  have hD : va_D A [(h0, .inr (9, [.ref q1, .ref q2, .ref q3, .ref q4, .ref q5, .int 0, .int 1, .int 0, .ref q6, .int 0, .ref q7, .int 0, .int (-1), .int 0, .int 0, .int 0, .int 0, .int (-1), .null, .null, .int 0, .null, .null, .null, .null, .null, .null, .null, .null, .null, .null, .int 0, .null, .null, .int 0, .null, .null])), (q2, .inl (g.2.1.1, 103, .inl (fun _ => 0))), (q4, .inl (g.2.1.1, 21, .inl (fun _ => 0))), (q6, .inl (g.2.1.1, 1200, .inl (fun _ => 0))), (q7, .inl (g.2.1.1, 6, .inl (fun _ => 0))), (q8, .inl (g.2.1.1, 95, .inl f33))] := hD
  refine lv_dup hx hb dX9_init_255 rfl ?_
  refine lv_bipush (v := 25) hx hb dX9_init_256 (by decide) ?_
  refine lv_bipush (v := 15) hx hb dX9_init_258 (by decide) ?_
  refine va_iast hx hb hX.1 hP hD hS 5 0 rfl rfl (vp_in_iff.mpr (by decide)) dX9_init_260 (fun H locs hP hD hS => ?_)
  obtain ⟨f34, ef34⟩ : ∃ z : Nat → Int32, z = upd f33 (25 : Int32).toNatClampNeg 15 := ⟨_, rfl⟩
  rw [← ef34] at hP hD
  have hP : va_P g.1 vwCl [(h0, .inr (9, [.ref q1, .ref q2, .ref q3, .ref q4, .ref q5, .int 0, .int 1, .int 0, .ref q6, .int 0, .ref q7, .int 0, .int (-1), .int 0, .int 0, .int 0, .int 0, .int (-1), .null, .null, .int 0, .null, .null, .null, .null, .null, .null, .null, .null, .null, .null, .int 0, .null, .null, .int 0, .null, .null])), (q2, .inl (g.2.1.1, 103, .inl (fun _ => 0))), (q4, .inl (g.2.1.1, 21, .inl (fun _ => 0))), (q6, .inl (g.2.1.1, 1200, .inl (fun _ => 0))), (q7, .inl (g.2.1.1, 6, .inl (fun _ => 0))), (q8, .inl (g.2.1.1, 95, .inl f34))] H := hP
  have hD : va_D A [(h0, .inr (9, [.ref q1, .ref q2, .ref q3, .ref q4, .ref q5, .int 0, .int 1, .int 0, .ref q6, .int 0, .ref q7, .int 0, .int (-1), .int 0, .int 0, .int 0, .int 0, .int (-1), .null, .null, .int 0, .null, .null, .null, .null, .null, .null, .null, .null, .null, .null, .int 0, .null, .null, .int 0, .null, .null])), (q2, .inl (g.2.1.1, 103, .inl (fun _ => 0))), (q4, .inl (g.2.1.1, 21, .inl (fun _ => 0))), (q6, .inl (g.2.1.1, 1200, .inl (fun _ => 0))), (q7, .inl (g.2.1.1, 6, .inl (fun _ => 0))), (q8, .inl (g.2.1.1, 95, .inl f34))] := hD
  refine lv_dup hx hb dX9_init_261 rfl ?_
  refine lv_bipush (v := 26) hx hb dX9_init_262 (by decide) ?_
  refine lv_bipush (v := 12) hx hb dX9_init_264 (by decide) ?_
  refine va_iast hx hb hX.1 hP hD hS 5 0 rfl rfl (vp_in_iff.mpr (by decide)) dX9_init_266 (fun H locs hP hD hS => ?_)
  obtain ⟨f35, ef35⟩ : ∃ z : Nat → Int32, z = upd f34 (26 : Int32).toNatClampNeg 12 := ⟨_, rfl⟩
  rw [← ef35] at hP hD
  have hP : va_P g.1 vwCl [(h0, .inr (9, [.ref q1, .ref q2, .ref q3, .ref q4, .ref q5, .int 0, .int 1, .int 0, .ref q6, .int 0, .ref q7, .int 0, .int (-1), .int 0, .int 0, .int 0, .int 0, .int (-1), .null, .null, .int 0, .null, .null, .null, .null, .null, .null, .null, .null, .null, .null, .int 0, .null, .null, .int 0, .null, .null])), (q2, .inl (g.2.1.1, 103, .inl (fun _ => 0))), (q4, .inl (g.2.1.1, 21, .inl (fun _ => 0))), (q6, .inl (g.2.1.1, 1200, .inl (fun _ => 0))), (q7, .inl (g.2.1.1, 6, .inl (fun _ => 0))), (q8, .inl (g.2.1.1, 95, .inl f35))] H := hP
  have hD : va_D A [(h0, .inr (9, [.ref q1, .ref q2, .ref q3, .ref q4, .ref q5, .int 0, .int 1, .int 0, .ref q6, .int 0, .ref q7, .int 0, .int (-1), .int 0, .int 0, .int 0, .int 0, .int (-1), .null, .null, .int 0, .null, .null, .null, .null, .null, .null, .null, .null, .null, .null, .int 0, .null, .null, .int 0, .null, .null])), (q2, .inl (g.2.1.1, 103, .inl (fun _ => 0))), (q4, .inl (g.2.1.1, 21, .inl (fun _ => 0))), (q6, .inl (g.2.1.1, 1200, .inl (fun _ => 0))), (q7, .inl (g.2.1.1, 6, .inl (fun _ => 0))), (q8, .inl (g.2.1.1, 95, .inl f35))] := hD
  refine lv_dup hx hb dX9_init_267 rfl ?_
  refine lv_bipush (v := 27) hx hb dX9_init_268 (by decide) ?_
  refine lv_iconst (v := 0) hx hb dX9_init_270 (by decide) ?_
  refine va_iast hx hb hX.1 hP hD hS 5 0 rfl rfl (vp_in_iff.mpr (by decide)) dX9_init_271 (fun H locs hP hD hS => ?_)
  obtain ⟨f36, ef36⟩ : ∃ z : Nat → Int32, z = upd f35 (27 : Int32).toNatClampNeg 0 := ⟨_, rfl⟩
  rw [← ef36] at hP hD
  have hP : va_P g.1 vwCl [(h0, .inr (9, [.ref q1, .ref q2, .ref q3, .ref q4, .ref q5, .int 0, .int 1, .int 0, .ref q6, .int 0, .ref q7, .int 0, .int (-1), .int 0, .int 0, .int 0, .int 0, .int (-1), .null, .null, .int 0, .null, .null, .null, .null, .null, .null, .null, .null, .null, .null, .int 0, .null, .null, .int 0, .null, .null])), (q2, .inl (g.2.1.1, 103, .inl (fun _ => 0))), (q4, .inl (g.2.1.1, 21, .inl (fun _ => 0))), (q6, .inl (g.2.1.1, 1200, .inl (fun _ => 0))), (q7, .inl (g.2.1.1, 6, .inl (fun _ => 0))), (q8, .inl (g.2.1.1, 95, .inl f36))] H := hP
  have hD : va_D A [(h0, .inr (9, [.ref q1, .ref q2, .ref q3, .ref q4, .ref q5, .int 0, .int 1, .int 0, .ref q6, .int 0, .ref q7, .int 0, .int (-1), .int 0, .int 0, .int 0, .int 0, .int (-1), .null, .null, .int 0, .null, .null, .null, .null, .null, .null, .null, .null, .null, .null, .int 0, .null, .null, .int 0, .null, .null])), (q2, .inl (g.2.1.1, 103, .inl (fun _ => 0))), (q4, .inl (g.2.1.1, 21, .inl (fun _ => 0))), (q6, .inl (g.2.1.1, 1200, .inl (fun _ => 0))), (q7, .inl (g.2.1.1, 6, .inl (fun _ => 0))), (q8, .inl (g.2.1.1, 95, .inl f36))] := hD
  refine lv_dup hx hb dX9_init_272 rfl ?_
  refine lv_bipush (v := 28) hx hb dX9_init_273 (by decide) ?_
  refine lv_iconst (v := 1) hx hb dX9_init_275 (by decide) ?_
  refine va_iast hx hb hX.1 hP hD hS 5 0 rfl rfl (vp_in_iff.mpr (by decide)) dX9_init_276 (fun H locs hP hD hS => ?_)
  obtain ⟨f37, ef37⟩ : ∃ z : Nat → Int32, z = upd f36 (28 : Int32).toNatClampNeg 1 := ⟨_, rfl⟩
  rw [← ef37] at hP hD
  have hP : va_P g.1 vwCl [(h0, .inr (9, [.ref q1, .ref q2, .ref q3, .ref q4, .ref q5, .int 0, .int 1, .int 0, .ref q6, .int 0, .ref q7, .int 0, .int (-1), .int 0, .int 0, .int 0, .int 0, .int (-1), .null, .null, .int 0, .null, .null, .null, .null, .null, .null, .null, .null, .null, .null, .int 0, .null, .null, .int 0, .null, .null])), (q2, .inl (g.2.1.1, 103, .inl (fun _ => 0))), (q4, .inl (g.2.1.1, 21, .inl (fun _ => 0))), (q6, .inl (g.2.1.1, 1200, .inl (fun _ => 0))), (q7, .inl (g.2.1.1, 6, .inl (fun _ => 0))), (q8, .inl (g.2.1.1, 95, .inl f37))] H := hP
  have hD : va_D A [(h0, .inr (9, [.ref q1, .ref q2, .ref q3, .ref q4, .ref q5, .int 0, .int 1, .int 0, .ref q6, .int 0, .ref q7, .int 0, .int (-1), .int 0, .int 0, .int 0, .int 0, .int (-1), .null, .null, .int 0, .null, .null, .null, .null, .null, .null, .null, .null, .null, .null, .int 0, .null, .null, .int 0, .null, .null])), (q2, .inl (g.2.1.1, 103, .inl (fun _ => 0))), (q4, .inl (g.2.1.1, 21, .inl (fun _ => 0))), (q6, .inl (g.2.1.1, 1200, .inl (fun _ => 0))), (q7, .inl (g.2.1.1, 6, .inl (fun _ => 0))), (q8, .inl (g.2.1.1, 95, .inl f37))] := hD
  refine lv_dup hx hb dX9_init_277 rfl ?_
  refine lv_bipush (v := 29) hx hb dX9_init_278 (by decide) ?_
  refine lv_bipush (v := 12) hx hb dX9_init_280 (by decide) ?_
  refine va_iast hx hb hX.1 hP hD hS 5 0 rfl rfl (vp_in_iff.mpr (by decide)) dX9_init_282 (fun H locs hP hD hS => ?_)
  obtain ⟨f38, ef38⟩ : ∃ z : Nat → Int32, z = upd f37 (29 : Int32).toNatClampNeg 12 := ⟨_, rfl⟩
  rw [← ef38] at hP hD
  have hP : va_P g.1 vwCl [(h0, .inr (9, [.ref q1, .ref q2, .ref q3, .ref q4, .ref q5, .int 0, .int 1, .int 0, .ref q6, .int 0, .ref q7, .int 0, .int (-1), .int 0, .int 0, .int 0, .int 0, .int (-1), .null, .null, .int 0, .null, .null, .null, .null, .null, .null, .null, .null, .null, .null, .int 0, .null, .null, .int 0, .null, .null])), (q2, .inl (g.2.1.1, 103, .inl (fun _ => 0))), (q4, .inl (g.2.1.1, 21, .inl (fun _ => 0))), (q6, .inl (g.2.1.1, 1200, .inl (fun _ => 0))), (q7, .inl (g.2.1.1, 6, .inl (fun _ => 0))), (q8, .inl (g.2.1.1, 95, .inl f38))] H := hP
  have hD : va_D A [(h0, .inr (9, [.ref q1, .ref q2, .ref q3, .ref q4, .ref q5, .int 0, .int 1, .int 0, .ref q6, .int 0, .ref q7, .int 0, .int (-1), .int 0, .int 0, .int 0, .int 0, .int (-1), .null, .null, .int 0, .null, .null, .null, .null, .null, .null, .null, .null, .null, .null, .int 0, .null, .null, .int 0, .null, .null])), (q2, .inl (g.2.1.1, 103, .inl (fun _ => 0))), (q4, .inl (g.2.1.1, 21, .inl (fun _ => 0))), (q6, .inl (g.2.1.1, 1200, .inl (fun _ => 0))), (q7, .inl (g.2.1.1, 6, .inl (fun _ => 0))), (q8, .inl (g.2.1.1, 95, .inl f38))] := hD
  refine lv_dup hx hb dX9_init_283 rfl ?_
  refine lv_bipush (v := 30) hx hb dX9_init_284 (by decide) ?_
  refine lv_bipush (v := 12) hx hb dX9_init_286 (by decide) ?_
  refine va_iast hx hb hX.1 hP hD hS 5 0 rfl rfl (vp_in_iff.mpr (by decide)) dX9_init_288 (fun H locs hP hD hS => ?_)
  obtain ⟨f39, ef39⟩ : ∃ z : Nat → Int32, z = upd f38 (30 : Int32).toNatClampNeg 12 := ⟨_, rfl⟩
  rw [← ef39] at hP hD
  have hP : va_P g.1 vwCl [(h0, .inr (9, [.ref q1, .ref q2, .ref q3, .ref q4, .ref q5, .int 0, .int 1, .int 0, .ref q6, .int 0, .ref q7, .int 0, .int (-1), .int 0, .int 0, .int 0, .int 0, .int (-1), .null, .null, .int 0, .null, .null, .null, .null, .null, .null, .null, .null, .null, .null, .int 0, .null, .null, .int 0, .null, .null])), (q2, .inl (g.2.1.1, 103, .inl (fun _ => 0))), (q4, .inl (g.2.1.1, 21, .inl (fun _ => 0))), (q6, .inl (g.2.1.1, 1200, .inl (fun _ => 0))), (q7, .inl (g.2.1.1, 6, .inl (fun _ => 0))), (q8, .inl (g.2.1.1, 95, .inl f39))] H := hP
  have hD : va_D A [(h0, .inr (9, [.ref q1, .ref q2, .ref q3, .ref q4, .ref q5, .int 0, .int 1, .int 0, .ref q6, .int 0, .ref q7, .int 0, .int (-1), .int 0, .int 0, .int 0, .int 0, .int (-1), .null, .null, .int 0, .null, .null, .null, .null, .null, .null, .null, .null, .null, .null, .int 0, .null, .null, .int 0, .null, .null])), (q2, .inl (g.2.1.1, 103, .inl (fun _ => 0))), (q4, .inl (g.2.1.1, 21, .inl (fun _ => 0))), (q6, .inl (g.2.1.1, 1200, .inl (fun _ => 0))), (q7, .inl (g.2.1.1, 6, .inl (fun _ => 0))), (q8, .inl (g.2.1.1, 95, .inl f39))] := hD
  refine lv_dup hx hb dX9_init_289 rfl ?_
  refine lv_bipush (v := 31) hx hb dX9_init_290 (by decide) ?_
  refine lv_bipush (v := 15) hx hb dX9_init_292 (by decide) ?_
  refine va_iast hx hb hX.1 hP hD hS 5 0 rfl rfl (vp_in_iff.mpr (by decide)) dX9_init_294 (fun H locs hP hD hS => ?_)
  obtain ⟨f40, ef40⟩ : ∃ z : Nat → Int32, z = upd f39 (31 : Int32).toNatClampNeg 15 := ⟨_, rfl⟩
  rw [← ef40] at hP hD
  have hP : va_P g.1 vwCl [(h0, .inr (9, [.ref q1, .ref q2, .ref q3, .ref q4, .ref q5, .int 0, .int 1, .int 0, .ref q6, .int 0, .ref q7, .int 0, .int (-1), .int 0, .int 0, .int 0, .int 0, .int (-1), .null, .null, .int 0, .null, .null, .null, .null, .null, .null, .null, .null, .null, .null, .int 0, .null, .null, .int 0, .null, .null])), (q2, .inl (g.2.1.1, 103, .inl (fun _ => 0))), (q4, .inl (g.2.1.1, 21, .inl (fun _ => 0))), (q6, .inl (g.2.1.1, 1200, .inl (fun _ => 0))), (q7, .inl (g.2.1.1, 6, .inl (fun _ => 0))), (q8, .inl (g.2.1.1, 95, .inl f40))] H := hP
  have hD : va_D A [(h0, .inr (9, [.ref q1, .ref q2, .ref q3, .ref q4, .ref q5, .int 0, .int 1, .int 0, .ref q6, .int 0, .ref q7, .int 0, .int (-1), .int 0, .int 0, .int 0, .int 0, .int (-1), .null, .null, .int 0, .null, .null, .null, .null, .null, .null, .null, .null, .null, .null, .int 0, .null, .null, .int 0, .null, .null])), (q2, .inl (g.2.1.1, 103, .inl (fun _ => 0))), (q4, .inl (g.2.1.1, 21, .inl (fun _ => 0))), (q6, .inl (g.2.1.1, 1200, .inl (fun _ => 0))), (q7, .inl (g.2.1.1, 6, .inl (fun _ => 0))), (q8, .inl (g.2.1.1, 95, .inl f40))] := hD
  refine lv_dup hx hb dX9_init_295 rfl ?_
  refine lv_bipush (v := 32) hx hb dX9_init_296 (by decide) ?_
  refine lv_bipush (v := 23) hx hb dX9_init_298 (by decide) ?_
  refine va_iast hx hb hX.1 hP hD hS 5 0 rfl rfl (vp_in_iff.mpr (by decide)) dX9_init_300 (fun H locs hP hD hS => ?_)
  obtain ⟨f41, ef41⟩ : ∃ z : Nat → Int32, z = upd f40 (32 : Int32).toNatClampNeg 23 := ⟨_, rfl⟩
  rw [← ef41] at hP hD
  have hP : va_P g.1 vwCl [(h0, .inr (9, [.ref q1, .ref q2, .ref q3, .ref q4, .ref q5, .int 0, .int 1, .int 0, .ref q6, .int 0, .ref q7, .int 0, .int (-1), .int 0, .int 0, .int 0, .int 0, .int (-1), .null, .null, .int 0, .null, .null, .null, .null, .null, .null, .null, .null, .null, .null, .int 0, .null, .null, .int 0, .null, .null])), (q2, .inl (g.2.1.1, 103, .inl (fun _ => 0))), (q4, .inl (g.2.1.1, 21, .inl (fun _ => 0))), (q6, .inl (g.2.1.1, 1200, .inl (fun _ => 0))), (q7, .inl (g.2.1.1, 6, .inl (fun _ => 0))), (q8, .inl (g.2.1.1, 95, .inl f41))] H := hP
  have hD : va_D A [(h0, .inr (9, [.ref q1, .ref q2, .ref q3, .ref q4, .ref q5, .int 0, .int 1, .int 0, .ref q6, .int 0, .ref q7, .int 0, .int (-1), .int 0, .int 0, .int 0, .int 0, .int (-1), .null, .null, .int 0, .null, .null, .null, .null, .null, .null, .null, .null, .null, .null, .int 0, .null, .null, .int 0, .null, .null])), (q2, .inl (g.2.1.1, 103, .inl (fun _ => 0))), (q4, .inl (g.2.1.1, 21, .inl (fun _ => 0))), (q6, .inl (g.2.1.1, 1200, .inl (fun _ => 0))), (q7, .inl (g.2.1.1, 6, .inl (fun _ => 0))), (q8, .inl (g.2.1.1, 95, .inl f41))] := hD
  refine lv_dup hx hb dX9_init_301 rfl ?_
  refine lv_bipush (v := 33) hx hb dX9_init_302 (by decide) ?_
  refine lv_iconst (v := 0) hx hb dX9_init_304 (by decide) ?_
  refine va_iast hx hb hX.1 hP hD hS 5 0 rfl rfl (vp_in_iff.mpr (by decide)) dX9_init_305 (fun H locs hP hD hS => ?_)
  obtain ⟨f42, ef42⟩ : ∃ z : Nat → Int32, z = upd f41 (33 : Int32).toNatClampNeg 0 := ⟨_, rfl⟩
  rw [← ef42] at hP hD
  have hP : va_P g.1 vwCl [(h0, .inr (9, [.ref q1, .ref q2, .ref q3, .ref q4, .ref q5, .int 0, .int 1, .int 0, .ref q6, .int 0, .ref q7, .int 0, .int (-1), .int 0, .int 0, .int 0, .int 0, .int (-1), .null, .null, .int 0, .null, .null, .null, .null, .null, .null, .null, .null, .null, .null, .int 0, .null, .null, .int 0, .null, .null])), (q2, .inl (g.2.1.1, 103, .inl (fun _ => 0))), (q4, .inl (g.2.1.1, 21, .inl (fun _ => 0))), (q6, .inl (g.2.1.1, 1200, .inl (fun _ => 0))), (q7, .inl (g.2.1.1, 6, .inl (fun _ => 0))), (q8, .inl (g.2.1.1, 95, .inl f42))] H := hP
  have hD : va_D A [(h0, .inr (9, [.ref q1, .ref q2, .ref q3, .ref q4, .ref q5, .int 0, .int 1, .int 0, .ref q6, .int 0, .ref q7, .int 0, .int (-1), .int 0, .int 0, .int 0, .int 0, .int (-1), .null, .null, .int 0, .null, .null, .null, .null, .null, .null, .null, .null, .null, .null, .int 0, .null, .null, .int 0, .null, .null])), (q2, .inl (g.2.1.1, 103, .inl (fun _ => 0))), (q4, .inl (g.2.1.1, 21, .inl (fun _ => 0))), (q6, .inl (g.2.1.1, 1200, .inl (fun _ => 0))), (q7, .inl (g.2.1.1, 6, .inl (fun _ => 0))), (q8, .inl (g.2.1.1, 95, .inl f42))] := hD
  refine lv_dup hx hb dX9_init_306 rfl ?_
  refine lv_bipush (v := 34) hx hb dX9_init_307 (by decide) ?_
  refine lv_bipush (v := 6) hx hb dX9_init_309 (by decide) ?_
  refine va_iast hx hb hX.1 hP hD hS 5 0 rfl rfl (vp_in_iff.mpr (by decide)) dX9_init_311 (fun H locs hP hD hS => ?_)
  obtain ⟨f43, ef43⟩ : ∃ z : Nat → Int32, z = upd f42 (34 : Int32).toNatClampNeg 6 := ⟨_, rfl⟩
  rw [← ef43] at hP hD
  have hP : va_P g.1 vwCl [(h0, .inr (9, [.ref q1, .ref q2, .ref q3, .ref q4, .ref q5, .int 0, .int 1, .int 0, .ref q6, .int 0, .ref q7, .int 0, .int (-1), .int 0, .int 0, .int 0, .int 0, .int (-1), .null, .null, .int 0, .null, .null, .null, .null, .null, .null, .null, .null, .null, .null, .int 0, .null, .null, .int 0, .null, .null])), (q2, .inl (g.2.1.1, 103, .inl (fun _ => 0))), (q4, .inl (g.2.1.1, 21, .inl (fun _ => 0))), (q6, .inl (g.2.1.1, 1200, .inl (fun _ => 0))), (q7, .inl (g.2.1.1, 6, .inl (fun _ => 0))), (q8, .inl (g.2.1.1, 95, .inl f43))] H := hP
  have hD : va_D A [(h0, .inr (9, [.ref q1, .ref q2, .ref q3, .ref q4, .ref q5, .int 0, .int 1, .int 0, .ref q6, .int 0, .ref q7, .int 0, .int (-1), .int 0, .int 0, .int 0, .int 0, .int (-1), .null, .null, .int 0, .null, .null, .null, .null, .null, .null, .null, .null, .null, .null, .int 0, .null, .null, .int 0, .null, .null])), (q2, .inl (g.2.1.1, 103, .inl (fun _ => 0))), (q4, .inl (g.2.1.1, 21, .inl (fun _ => 0))), (q6, .inl (g.2.1.1, 1200, .inl (fun _ => 0))), (q7, .inl (g.2.1.1, 6, .inl (fun _ => 0))), (q8, .inl (g.2.1.1, 95, .inl f43))] := hD
  refine lv_dup hx hb dX9_init_312 rfl ?_
  refine lv_bipush (v := 35) hx hb dX9_init_313 (by decide) ?_
  refine lv_bipush (v := 12) hx hb dX9_init_315 (by decide) ?_
  refine va_iast hx hb hX.1 hP hD hS 5 0 rfl rfl (vp_in_iff.mpr (by decide)) dX9_init_317 (fun H locs hP hD hS => ?_)
  obtain ⟨f44, ef44⟩ : ∃ z : Nat → Int32, z = upd f43 (35 : Int32).toNatClampNeg 12 := ⟨_, rfl⟩
  rw [← ef44] at hP hD
  have hP : va_P g.1 vwCl [(h0, .inr (9, [.ref q1, .ref q2, .ref q3, .ref q4, .ref q5, .int 0, .int 1, .int 0, .ref q6, .int 0, .ref q7, .int 0, .int (-1), .int 0, .int 0, .int 0, .int 0, .int (-1), .null, .null, .int 0, .null, .null, .null, .null, .null, .null, .null, .null, .null, .null, .int 0, .null, .null, .int 0, .null, .null])), (q2, .inl (g.2.1.1, 103, .inl (fun _ => 0))), (q4, .inl (g.2.1.1, 21, .inl (fun _ => 0))), (q6, .inl (g.2.1.1, 1200, .inl (fun _ => 0))), (q7, .inl (g.2.1.1, 6, .inl (fun _ => 0))), (q8, .inl (g.2.1.1, 95, .inl f44))] H := hP
  have hD : va_D A [(h0, .inr (9, [.ref q1, .ref q2, .ref q3, .ref q4, .ref q5, .int 0, .int 1, .int 0, .ref q6, .int 0, .ref q7, .int 0, .int (-1), .int 0, .int 0, .int 0, .int 0, .int (-1), .null, .null, .int 0, .null, .null, .null, .null, .null, .null, .null, .null, .null, .null, .int 0, .null, .null, .int 0, .null, .null])), (q2, .inl (g.2.1.1, 103, .inl (fun _ => 0))), (q4, .inl (g.2.1.1, 21, .inl (fun _ => 0))), (q6, .inl (g.2.1.1, 1200, .inl (fun _ => 0))), (q7, .inl (g.2.1.1, 6, .inl (fun _ => 0))), (q8, .inl (g.2.1.1, 95, .inl f44))] := hD
  refine lv_dup hx hb dX9_init_318 rfl ?_
  refine lv_bipush (v := 36) hx hb dX9_init_319 (by decide) ?_
  refine lv_iconst (v := 1) hx hb dX9_init_321 (by decide) ?_
  refine va_iast hx hb hX.1 hP hD hS 5 0 rfl rfl (vp_in_iff.mpr (by decide)) dX9_init_322 (fun H locs hP hD hS => ?_)
  obtain ⟨f45, ef45⟩ : ∃ z : Nat → Int32, z = upd f44 (36 : Int32).toNatClampNeg 1 := ⟨_, rfl⟩
  rw [← ef45] at hP hD
  have hP : va_P g.1 vwCl [(h0, .inr (9, [.ref q1, .ref q2, .ref q3, .ref q4, .ref q5, .int 0, .int 1, .int 0, .ref q6, .int 0, .ref q7, .int 0, .int (-1), .int 0, .int 0, .int 0, .int 0, .int (-1), .null, .null, .int 0, .null, .null, .null, .null, .null, .null, .null, .null, .null, .null, .int 0, .null, .null, .int 0, .null, .null])), (q2, .inl (g.2.1.1, 103, .inl (fun _ => 0))), (q4, .inl (g.2.1.1, 21, .inl (fun _ => 0))), (q6, .inl (g.2.1.1, 1200, .inl (fun _ => 0))), (q7, .inl (g.2.1.1, 6, .inl (fun _ => 0))), (q8, .inl (g.2.1.1, 95, .inl f45))] H := hP
  have hD : va_D A [(h0, .inr (9, [.ref q1, .ref q2, .ref q3, .ref q4, .ref q5, .int 0, .int 1, .int 0, .ref q6, .int 0, .ref q7, .int 0, .int (-1), .int 0, .int 0, .int 0, .int 0, .int (-1), .null, .null, .int 0, .null, .null, .null, .null, .null, .null, .null, .null, .null, .null, .int 0, .null, .null, .int 0, .null, .null])), (q2, .inl (g.2.1.1, 103, .inl (fun _ => 0))), (q4, .inl (g.2.1.1, 21, .inl (fun _ => 0))), (q6, .inl (g.2.1.1, 1200, .inl (fun _ => 0))), (q7, .inl (g.2.1.1, 6, .inl (fun _ => 0))), (q8, .inl (g.2.1.1, 95, .inl f45))] := hD
  refine lv_dup hx hb dX9_init_323 rfl ?_
  refine lv_bipush (v := 37) hx hb dX9_init_324 (by decide) ?_
  refine lv_bipush (v := 14) hx hb dX9_init_326 (by decide) ?_
  refine va_iast hx hb hX.1 hP hD hS 5 0 rfl rfl (vp_in_iff.mpr (by decide)) dX9_init_328 (fun H locs hP hD hS => ?_)
  obtain ⟨f46, ef46⟩ : ∃ z : Nat → Int32, z = upd f45 (37 : Int32).toNatClampNeg 14 := ⟨_, rfl⟩
  rw [← ef46] at hP hD
  have hP : va_P g.1 vwCl [(h0, .inr (9, [.ref q1, .ref q2, .ref q3, .ref q4, .ref q5, .int 0, .int 1, .int 0, .ref q6, .int 0, .ref q7, .int 0, .int (-1), .int 0, .int 0, .int 0, .int 0, .int (-1), .null, .null, .int 0, .null, .null, .null, .null, .null, .null, .null, .null, .null, .null, .int 0, .null, .null, .int 0, .null, .null])), (q2, .inl (g.2.1.1, 103, .inl (fun _ => 0))), (q4, .inl (g.2.1.1, 21, .inl (fun _ => 0))), (q6, .inl (g.2.1.1, 1200, .inl (fun _ => 0))), (q7, .inl (g.2.1.1, 6, .inl (fun _ => 0))), (q8, .inl (g.2.1.1, 95, .inl f46))] H := hP
  have hD : va_D A [(h0, .inr (9, [.ref q1, .ref q2, .ref q3, .ref q4, .ref q5, .int 0, .int 1, .int 0, .ref q6, .int 0, .ref q7, .int 0, .int (-1), .int 0, .int 0, .int 0, .int 0, .int (-1), .null, .null, .int 0, .null, .null, .null, .null, .null, .null, .null, .null, .null, .null, .int 0, .null, .null, .int 0, .null, .null])), (q2, .inl (g.2.1.1, 103, .inl (fun _ => 0))), (q4, .inl (g.2.1.1, 21, .inl (fun _ => 0))), (q6, .inl (g.2.1.1, 1200, .inl (fun _ => 0))), (q7, .inl (g.2.1.1, 6, .inl (fun _ => 0))), (q8, .inl (g.2.1.1, 95, .inl f46))] := hD
  refine lv_dup hx hb dX9_init_329 rfl ?_
  refine lv_bipush (v := 38) hx hb dX9_init_330 (by decide) ?_
  refine lv_bipush (v := 7) hx hb dX9_init_332 (by decide) ?_
  refine va_iast hx hb hX.1 hP hD hS 5 0 rfl rfl (vp_in_iff.mpr (by decide)) dX9_init_334 (fun H locs hP hD hS => ?_)
  obtain ⟨f47, ef47⟩ : ∃ z : Nat → Int32, z = upd f46 (38 : Int32).toNatClampNeg 7 := ⟨_, rfl⟩
  rw [← ef47] at hP hD
  have hP : va_P g.1 vwCl [(h0, .inr (9, [.ref q1, .ref q2, .ref q3, .ref q4, .ref q5, .int 0, .int 1, .int 0, .ref q6, .int 0, .ref q7, .int 0, .int (-1), .int 0, .int 0, .int 0, .int 0, .int (-1), .null, .null, .int 0, .null, .null, .null, .null, .null, .null, .null, .null, .null, .null, .int 0, .null, .null, .int 0, .null, .null])), (q2, .inl (g.2.1.1, 103, .inl (fun _ => 0))), (q4, .inl (g.2.1.1, 21, .inl (fun _ => 0))), (q6, .inl (g.2.1.1, 1200, .inl (fun _ => 0))), (q7, .inl (g.2.1.1, 6, .inl (fun _ => 0))), (q8, .inl (g.2.1.1, 95, .inl f47))] H := hP
  have hD : va_D A [(h0, .inr (9, [.ref q1, .ref q2, .ref q3, .ref q4, .ref q5, .int 0, .int 1, .int 0, .ref q6, .int 0, .ref q7, .int 0, .int (-1), .int 0, .int 0, .int 0, .int 0, .int (-1), .null, .null, .int 0, .null, .null, .null, .null, .null, .null, .null, .null, .null, .null, .int 0, .null, .null, .int 0, .null, .null])), (q2, .inl (g.2.1.1, 103, .inl (fun _ => 0))), (q4, .inl (g.2.1.1, 21, .inl (fun _ => 0))), (q6, .inl (g.2.1.1, 1200, .inl (fun _ => 0))), (q7, .inl (g.2.1.1, 6, .inl (fun _ => 0))), (q8, .inl (g.2.1.1, 95, .inl f47))] := hD
  refine lv_dup hx hb dX9_init_335 rfl ?_
  refine lv_bipush (v := 39) hx hb dX9_init_336 (by decide) ?_
  refine lv_iconst (v := 5) hx hb dX9_init_338 (by decide) ?_
  refine va_iast hx hb hX.1 hP hD hS 5 0 rfl rfl (vp_in_iff.mpr (by decide)) dX9_init_339 (fun H locs hP hD hS => ?_)
  obtain ⟨f48, ef48⟩ : ∃ z : Nat → Int32, z = upd f47 (39 : Int32).toNatClampNeg 5 := ⟨_, rfl⟩
  rw [← ef48] at hP hD
  have hP : va_P g.1 vwCl [(h0, .inr (9, [.ref q1, .ref q2, .ref q3, .ref q4, .ref q5, .int 0, .int 1, .int 0, .ref q6, .int 0, .ref q7, .int 0, .int (-1), .int 0, .int 0, .int 0, .int 0, .int (-1), .null, .null, .int 0, .null, .null, .null, .null, .null, .null, .null, .null, .null, .null, .int 0, .null, .null, .int 0, .null, .null])), (q2, .inl (g.2.1.1, 103, .inl (fun _ => 0))), (q4, .inl (g.2.1.1, 21, .inl (fun _ => 0))), (q6, .inl (g.2.1.1, 1200, .inl (fun _ => 0))), (q7, .inl (g.2.1.1, 6, .inl (fun _ => 0))), (q8, .inl (g.2.1.1, 95, .inl f48))] H := hP
  have hD : va_D A [(h0, .inr (9, [.ref q1, .ref q2, .ref q3, .ref q4, .ref q5, .int 0, .int 1, .int 0, .ref q6, .int 0, .ref q7, .int 0, .int (-1), .int 0, .int 0, .int 0, .int 0, .int (-1), .null, .null, .int 0, .null, .null, .null, .null, .null, .null, .null, .null, .null, .null, .int 0, .null, .null, .int 0, .null, .null])), (q2, .inl (g.2.1.1, 103, .inl (fun _ => 0))), (q4, .inl (g.2.1.1, 21, .inl (fun _ => 0))), (q6, .inl (g.2.1.1, 1200, .inl (fun _ => 0))), (q7, .inl (g.2.1.1, 6, .inl (fun _ => 0))), (q8, .inl (g.2.1.1, 95, .inl f48))] := hD
  refine lv_dup hx hb dX9_init_340 rfl ?_
  refine lv_bipush (v := 40) hx hb dX9_init_341 (by decide) ?_
  refine lv_iconst (v := 0) hx hb dX9_init_343 (by decide) ?_
  refine va_iast hx hb hX.1 hP hD hS 5 0 rfl rfl (vp_in_iff.mpr (by decide)) dX9_init_344 (fun H locs hP hD hS => ?_)
  obtain ⟨f49, ef49⟩ : ∃ z : Nat → Int32, z = upd f48 (40 : Int32).toNatClampNeg 0 := ⟨_, rfl⟩
  rw [← ef49] at hP hD
  have hP : va_P g.1 vwCl [(h0, .inr (9, [.ref q1, .ref q2, .ref q3, .ref q4, .ref q5, .int 0, .int 1, .int 0, .ref q6, .int 0, .ref q7, .int 0, .int (-1), .int 0, .int 0, .int 0, .int 0, .int (-1), .null, .null, .int 0, .null, .null, .null, .null, .null, .null, .null, .null, .null, .null, .int 0, .null, .null, .int 0, .null, .null])), (q2, .inl (g.2.1.1, 103, .inl (fun _ => 0))), (q4, .inl (g.2.1.1, 21, .inl (fun _ => 0))), (q6, .inl (g.2.1.1, 1200, .inl (fun _ => 0))), (q7, .inl (g.2.1.1, 6, .inl (fun _ => 0))), (q8, .inl (g.2.1.1, 95, .inl f49))] H := hP
  have hD : va_D A [(h0, .inr (9, [.ref q1, .ref q2, .ref q3, .ref q4, .ref q5, .int 0, .int 1, .int 0, .ref q6, .int 0, .ref q7, .int 0, .int (-1), .int 0, .int 0, .int 0, .int 0, .int (-1), .null, .null, .int 0, .null, .null, .null, .null, .null, .null, .null, .null, .null, .null, .int 0, .null, .null, .int 0, .null, .null])), (q2, .inl (g.2.1.1, 103, .inl (fun _ => 0))), (q4, .inl (g.2.1.1, 21, .inl (fun _ => 0))), (q6, .inl (g.2.1.1, 1200, .inl (fun _ => 0))), (q7, .inl (g.2.1.1, 6, .inl (fun _ => 0))), (q8, .inl (g.2.1.1, 95, .inl f49))] := hD
  refine lv_dup hx hb dX9_init_345 rfl ?_
  refine lv_bipush (v := 41) hx hb dX9_init_346 (by decide) ?_
  refine lv_bipush (v := 15) hx hb dX9_init_348 (by decide) ?_
  refine va_iast hx hb hX.1 hP hD hS 5 0 rfl rfl (vp_in_iff.mpr (by decide)) dX9_init_350 (fun H locs hP hD hS => ?_)
  obtain ⟨f50, ef50⟩ : ∃ z : Nat → Int32, z = upd f49 (41 : Int32).toNatClampNeg 15 := ⟨_, rfl⟩
  rw [← ef50] at hP hD
  have hP : va_P g.1 vwCl [(h0, .inr (9, [.ref q1, .ref q2, .ref q3, .ref q4, .ref q5, .int 0, .int 1, .int 0, .ref q6, .int 0, .ref q7, .int 0, .int (-1), .int 0, .int 0, .int 0, .int 0, .int (-1), .null, .null, .int 0, .null, .null, .null, .null, .null, .null, .null, .null, .null, .null, .int 0, .null, .null, .int 0, .null, .null])), (q2, .inl (g.2.1.1, 103, .inl (fun _ => 0))), (q4, .inl (g.2.1.1, 21, .inl (fun _ => 0))), (q6, .inl (g.2.1.1, 1200, .inl (fun _ => 0))), (q7, .inl (g.2.1.1, 6, .inl (fun _ => 0))), (q8, .inl (g.2.1.1, 95, .inl f50))] H := hP
  have hD : va_D A [(h0, .inr (9, [.ref q1, .ref q2, .ref q3, .ref q4, .ref q5, .int 0, .int 1, .int 0, .ref q6, .int 0, .ref q7, .int 0, .int (-1), .int 0, .int 0, .int 0, .int 0, .int (-1), .null, .null, .int 0, .null, .null, .null, .null, .null, .null, .null, .null, .null, .null, .int 0, .null, .null, .int 0, .null, .null])), (q2, .inl (g.2.1.1, 103, .inl (fun _ => 0))), (q4, .inl (g.2.1.1, 21, .inl (fun _ => 0))), (q6, .inl (g.2.1.1, 1200, .inl (fun _ => 0))), (q7, .inl (g.2.1.1, 6, .inl (fun _ => 0))), (q8, .inl (g.2.1.1, 95, .inl f50))] := hD
  refine lv_dup hx hb dX9_init_351 rfl ?_
  refine lv_bipush (v := 42) hx hb dX9_init_352 (by decide) ?_
  refine lv_bipush (v := 14) hx hb dX9_init_354 (by decide) ?_
  refine va_iast hx hb hX.1 hP hD hS 5 0 rfl rfl (vp_in_iff.mpr (by decide)) dX9_init_356 (fun H locs hP hD hS => ?_)
  obtain ⟨f51, ef51⟩ : ∃ z : Nat → Int32, z = upd f50 (42 : Int32).toNatClampNeg 14 := ⟨_, rfl⟩
  rw [← ef51] at hP hD
  have hP : va_P g.1 vwCl [(h0, .inr (9, [.ref q1, .ref q2, .ref q3, .ref q4, .ref q5, .int 0, .int 1, .int 0, .ref q6, .int 0, .ref q7, .int 0, .int (-1), .int 0, .int 0, .int 0, .int 0, .int (-1), .null, .null, .int 0, .null, .null, .null, .null, .null, .null, .null, .null, .null, .null, .int 0, .null, .null, .int 0, .null, .null])), (q2, .inl (g.2.1.1, 103, .inl (fun _ => 0))), (q4, .inl (g.2.1.1, 21, .inl (fun _ => 0))), (q6, .inl (g.2.1.1, 1200, .inl (fun _ => 0))), (q7, .inl (g.2.1.1, 6, .inl (fun _ => 0))), (q8, .inl (g.2.1.1, 95, .inl f51))] H := hP
  have hD : va_D A [(h0, .inr (9, [.ref q1, .ref q2, .ref q3, .ref q4, .ref q5, .int 0, .int 1, .int 0, .ref q6, .int 0, .ref q7, .int 0, .int (-1), .int 0, .int 0, .int 0, .int 0, .int (-1), .null, .null, .int 0, .null, .null, .null, .null, .null, .null, .null, .null, .null, .null, .int 0, .null, .null, .int 0, .null, .null])), (q2, .inl (g.2.1.1, 103, .inl (fun _ => 0))), (q4, .inl (g.2.1.1, 21, .inl (fun _ => 0))), (q6, .inl (g.2.1.1, 1200, .inl (fun _ => 0))), (q7, .inl (g.2.1.1, 6, .inl (fun _ => 0))), (q8, .inl (g.2.1.1, 95, .inl f51))] := hD
  refine lv_dup hx hb dX9_init_357 rfl ?_
  refine lv_bipush (v := 43) hx hb dX9_init_358 (by decide) ?_
  refine lv_iconst (v := 0) hx hb dX9_init_360 (by decide) ?_
  refine va_iast hx hb hX.1 hP hD hS 5 0 rfl rfl (vp_in_iff.mpr (by decide)) dX9_init_361 (fun H locs hP hD hS => ?_)
  obtain ⟨f52, ef52⟩ : ∃ z : Nat → Int32, z = upd f51 (43 : Int32).toNatClampNeg 0 := ⟨_, rfl⟩
  rw [← ef52] at hP hD
  have hP : va_P g.1 vwCl [(h0, .inr (9, [.ref q1, .ref q2, .ref q3, .ref q4, .ref q5, .int 0, .int 1, .int 0, .ref q6, .int 0, .ref q7, .int 0, .int (-1), .int 0, .int 0, .int 0, .int 0, .int (-1), .null, .null, .int 0, .null, .null, .null, .null, .null, .null, .null, .null, .null, .null, .int 0, .null, .null, .int 0, .null, .null])), (q2, .inl (g.2.1.1, 103, .inl (fun _ => 0))), (q4, .inl (g.2.1.1, 21, .inl (fun _ => 0))), (q6, .inl (g.2.1.1, 1200, .inl (fun _ => 0))), (q7, .inl (g.2.1.1, 6, .inl (fun _ => 0))), (q8, .inl (g.2.1.1, 95, .inl f52))] H := hP
  have hD : va_D A [(h0, .inr (9, [.ref q1, .ref q2, .ref q3, .ref q4, .ref q5, .int 0, .int 1, .int 0, .ref q6, .int 0, .ref q7, .int 0, .int (-1), .int 0, .int 0, .int 0, .int 0, .int (-1), .null, .null, .int 0, .null, .null, .null, .null, .null, .null, .null, .null, .null, .null, .int 0, .null, .null, .int 0, .null, .null])), (q2, .inl (g.2.1.1, 103, .inl (fun _ => 0))), (q4, .inl (g.2.1.1, 21, .inl (fun _ => 0))), (q6, .inl (g.2.1.1, 1200, .inl (fun _ => 0))), (q7, .inl (g.2.1.1, 6, .inl (fun _ => 0))), (q8, .inl (g.2.1.1, 95, .inl f52))] := hD
  refine lv_dup hx hb dX9_init_362 rfl ?_
  refine lv_bipush (v := 44) hx hb dX9_init_363 (by decide) ?_
  refine lv_bipush (v := 14) hx hb dX9_init_365 (by decide) ?_
  refine va_iast hx hb hX.1 hP hD hS 5 0 rfl rfl (vp_in_iff.mpr (by decide)) dX9_init_367 (fun H locs hP hD hS => ?_)
  obtain ⟨f53, ef53⟩ : ∃ z : Nat → Int32, z = upd f52 (44 : Int32).toNatClampNeg 14 := ⟨_, rfl⟩
  rw [← ef53] at hP hD
  have hP : va_P g.1 vwCl [(h0, .inr (9, [.ref q1, .ref q2, .ref q3, .ref q4, .ref q5, .int 0, .int 1, .int 0, .ref q6, .int 0, .ref q7, .int 0, .int (-1), .int 0, .int 0, .int 0, .int 0, .int (-1), .null, .null, .int 0, .null, .null, .null, .null, .null, .null, .null, .null, .null, .null, .int 0, .null, .null, .int 0, .null, .null])), (q2, .inl (g.2.1.1, 103, .inl (fun _ => 0))), (q4, .inl (g.2.1.1, 21, .inl (fun _ => 0))), (q6, .inl (g.2.1.1, 1200, .inl (fun _ => 0))), (q7, .inl (g.2.1.1, 6, .inl (fun _ => 0))), (q8, .inl (g.2.1.1, 95, .inl f53))] H := hP
  have hD : va_D A [(h0, .inr (9, [.ref q1, .ref q2, .ref q3, .ref q4, .ref q5, .int 0, .int 1, .int 0, .ref q6, .int 0, .ref q7, .int 0, .int (-1), .int 0, .int 0, .int 0, .int 0, .int (-1), .null, .null, .int 0, .null, .null, .null, .null, .null, .null, .null, .null, .null, .null, .int 0, .null, .null, .int 0, .null, .null])), (q2, .inl (g.2.1.1, 103, .inl (fun _ => 0))), (q4, .inl (g.2.1.1, 21, .inl (fun _ => 0))), (q6, .inl (g.2.1.1, 1200, .inl (fun _ => 0))), (q7, .inl (g.2.1.1, 6, .inl (fun _ => 0))), (q8, .inl (g.2.1.1, 95, .inl f53))] := hD
  refine lv_dup hx hb dX9_init_368 rfl ?_
  refine lv_bipush (v := 45) hx hb dX9_init_369 (by decide) ?_
  refine lv_bipush (v := 15) hx hb dX9_init_371 (by decide) ?_
  refine va_iast hx hb hX.1 hP hD hS 5 0 rfl rfl (vp_in_iff.mpr (by decide)) dX9_init_373 (fun H locs hP hD hS => ?_)
  obtain ⟨f54, ef54⟩ : ∃ z : Nat → Int32, z = upd f53 (45 : Int32).toNatClampNeg 15 := ⟨_, rfl⟩
  rw [← ef54] at hP hD
  have hP : va_P g.1 vwCl [(h0, .inr (9, [.ref q1, .ref q2, .ref q3, .ref q4, .ref q5, .int 0, .int 1, .int 0, .ref q6, .int 0, .ref q7, .int 0, .int (-1), .int 0, .int 0, .int 0, .int 0, .int (-1), .null, .null, .int 0, .null, .null, .null, .null, .null, .null, .null, .null, .null, .null, .int 0, .null, .null, .int 0, .null, .null])), (q2, .inl (g.2.1.1, 103, .inl (fun _ => 0))), (q4, .inl (g.2.1.1, 21, .inl (fun _ => 0))), (q6, .inl (g.2.1.1, 1200, .inl (fun _ => 0))), (q7, .inl (g.2.1.1, 6, .inl (fun _ => 0))), (q8, .inl (g.2.1.1, 95, .inl f54))] H := hP
  have hD : va_D A [(h0, .inr (9, [.ref q1, .ref q2, .ref q3, .ref q4, .ref q5, .int 0, .int 1, .int 0, .ref q6, .int 0, .ref q7, .int 0, .int (-1), .int 0, .int 0, .int 0, .int 0, .int (-1), .null, .null, .int 0, .null, .null, .null, .null, .null, .null, .null, .null, .null, .null, .int 0, .null, .null, .int 0, .null, .null])), (q2, .inl (g.2.1.1, 103, .inl (fun _ => 0))), (q4, .inl (g.2.1.1, 21, .inl (fun _ => 0))), (q6, .inl (g.2.1.1, 1200, .inl (fun _ => 0))), (q7, .inl (g.2.1.1, 6, .inl (fun _ => 0))), (q8, .inl (g.2.1.1, 95, .inl f54))] := hD
  refine lv_dup hx hb dX9_init_374 rfl ?_
  refine lv_bipush (v := 46) hx hb dX9_init_375 (by decide) ?_
  refine lv_bipush (v := 18) hx hb dX9_init_377 (by decide) ?_
  refine va_iast hx hb hX.1 hP hD hS 5 0 rfl rfl (vp_in_iff.mpr (by decide)) dX9_init_379 (fun H locs hP hD hS => ?_)
  obtain ⟨f55, ef55⟩ : ∃ z : Nat → Int32, z = upd f54 (46 : Int32).toNatClampNeg 18 := ⟨_, rfl⟩
  rw [← ef55] at hP hD
  have hP : va_P g.1 vwCl [(h0, .inr (9, [.ref q1, .ref q2, .ref q3, .ref q4, .ref q5, .int 0, .int 1, .int 0, .ref q6, .int 0, .ref q7, .int 0, .int (-1), .int 0, .int 0, .int 0, .int 0, .int (-1), .null, .null, .int 0, .null, .null, .null, .null, .null, .null, .null, .null, .null, .null, .int 0, .null, .null, .int 0, .null, .null])), (q2, .inl (g.2.1.1, 103, .inl (fun _ => 0))), (q4, .inl (g.2.1.1, 21, .inl (fun _ => 0))), (q6, .inl (g.2.1.1, 1200, .inl (fun _ => 0))), (q7, .inl (g.2.1.1, 6, .inl (fun _ => 0))), (q8, .inl (g.2.1.1, 95, .inl f55))] H := hP
  have hD : va_D A [(h0, .inr (9, [.ref q1, .ref q2, .ref q3, .ref q4, .ref q5, .int 0, .int 1, .int 0, .ref q6, .int 0, .ref q7, .int 0, .int (-1), .int 0, .int 0, .int 0, .int 0, .int (-1), .null, .null, .int 0, .null, .null, .null, .null, .null, .null, .null, .null, .null, .null, .int 0, .null, .null, .int 0, .null, .null])), (q2, .inl (g.2.1.1, 103, .inl (fun _ => 0))), (q4, .inl (g.2.1.1, 21, .inl (fun _ => 0))), (q6, .inl (g.2.1.1, 1200, .inl (fun _ => 0))), (q7, .inl (g.2.1.1, 6, .inl (fun _ => 0))), (q8, .inl (g.2.1.1, 95, .inl f55))] := hD
  refine lv_dup hx hb dX9_init_380 rfl ?_
  refine lv_bipush (v := 47) hx hb dX9_init_381 (by decide) ?_
  refine lv_bipush (v := 20) hx hb dX9_init_383 (by decide) ?_
  refine va_iast hx hb hX.1 hP hD hS 5 0 rfl rfl (vp_in_iff.mpr (by decide)) dX9_init_385 (fun H locs hP hD hS => ?_)
  obtain ⟨f56, ef56⟩ : ∃ z : Nat → Int32, z = upd f55 (47 : Int32).toNatClampNeg 20 := ⟨_, rfl⟩
  rw [← ef56] at hP hD
  have hP : va_P g.1 vwCl [(h0, .inr (9, [.ref q1, .ref q2, .ref q3, .ref q4, .ref q5, .int 0, .int 1, .int 0, .ref q6, .int 0, .ref q7, .int 0, .int (-1), .int 0, .int 0, .int 0, .int 0, .int (-1), .null, .null, .int 0, .null, .null, .null, .null, .null, .null, .null, .null, .null, .null, .int 0, .null, .null, .int 0, .null, .null])), (q2, .inl (g.2.1.1, 103, .inl (fun _ => 0))), (q4, .inl (g.2.1.1, 21, .inl (fun _ => 0))), (q6, .inl (g.2.1.1, 1200, .inl (fun _ => 0))), (q7, .inl (g.2.1.1, 6, .inl (fun _ => 0))), (q8, .inl (g.2.1.1, 95, .inl f56))] H := hP
  have hD : va_D A [(h0, .inr (9, [.ref q1, .ref q2, .ref q3, .ref q4, .ref q5, .int 0, .int 1, .int 0, .ref q6, .int 0, .ref q7, .int 0, .int (-1), .int 0, .int 0, .int 0, .int 0, .int (-1), .null, .null, .int 0, .null, .null, .null, .null, .null, .null, .null, .null, .null, .null, .int 0, .null, .null, .int 0, .null, .null])), (q2, .inl (g.2.1.1, 103, .inl (fun _ => 0))), (q4, .inl (g.2.1.1, 21, .inl (fun _ => 0))), (q6, .inl (g.2.1.1, 1200, .inl (fun _ => 0))), (q7, .inl (g.2.1.1, 6, .inl (fun _ => 0))), (q8, .inl (g.2.1.1, 95, .inl f56))] := hD
  refine lv_dup hx hb dX9_init_386 rfl ?_
  refine lv_bipush (v := 48) hx hb dX9_init_387 (by decide) ?_
  refine lv_bipush (v := 8) hx hb dX9_init_389 (by decide) ?_
  refine va_iast hx hb hX.1 hP hD hS 5 0 rfl rfl (vp_in_iff.mpr (by decide)) dX9_init_391 (fun H locs hP hD hS => ?_)
  obtain ⟨f57, ef57⟩ : ∃ z : Nat → Int32, z = upd f56 (48 : Int32).toNatClampNeg 8 := ⟨_, rfl⟩
  rw [← ef57] at hP hD
  have hP : va_P g.1 vwCl [(h0, .inr (9, [.ref q1, .ref q2, .ref q3, .ref q4, .ref q5, .int 0, .int 1, .int 0, .ref q6, .int 0, .ref q7, .int 0, .int (-1), .int 0, .int 0, .int 0, .int 0, .int (-1), .null, .null, .int 0, .null, .null, .null, .null, .null, .null, .null, .null, .null, .null, .int 0, .null, .null, .int 0, .null, .null])), (q2, .inl (g.2.1.1, 103, .inl (fun _ => 0))), (q4, .inl (g.2.1.1, 21, .inl (fun _ => 0))), (q6, .inl (g.2.1.1, 1200, .inl (fun _ => 0))), (q7, .inl (g.2.1.1, 6, .inl (fun _ => 0))), (q8, .inl (g.2.1.1, 95, .inl f57))] H := hP
  have hD : va_D A [(h0, .inr (9, [.ref q1, .ref q2, .ref q3, .ref q4, .ref q5, .int 0, .int 1, .int 0, .ref q6, .int 0, .ref q7, .int 0, .int (-1), .int 0, .int 0, .int 0, .int 0, .int (-1), .null, .null, .int 0, .null, .null, .null, .null, .null, .null, .null, .null, .null, .null, .int 0, .null, .null, .int 0, .null, .null])), (q2, .inl (g.2.1.1, 103, .inl (fun _ => 0))), (q4, .inl (g.2.1.1, 21, .inl (fun _ => 0))), (q6, .inl (g.2.1.1, 1200, .inl (fun _ => 0))), (q7, .inl (g.2.1.1, 6, .inl (fun _ => 0))), (q8, .inl (g.2.1.1, 95, .inl f57))] := hD
  refine lv_dup hx hb dX9_init_392 rfl ?_
  refine lv_bipush (v := 49) hx hb dX9_init_393 (by decide) ?_
  refine lv_iconst (v := 0) hx hb dX9_init_395 (by decide) ?_
  refine va_iast hx hb hX.1 hP hD hS 5 0 rfl rfl (vp_in_iff.mpr (by decide)) dX9_init_396 (fun H locs hP hD hS => ?_)
  obtain ⟨f58, ef58⟩ : ∃ z : Nat → Int32, z = upd f57 (49 : Int32).toNatClampNeg 0 := ⟨_, rfl⟩
  rw [← ef58] at hP hD
  have hP : va_P g.1 vwCl [(h0, .inr (9, [.ref q1, .ref q2, .ref q3, .ref q4, .ref q5, .int 0, .int 1, .int 0, .ref q6, .int 0, .ref q7, .int 0, .int (-1), .int 0, .int 0, .int 0, .int 0, .int (-1), .null, .null, .int 0, .null, .null, .null, .null, .null, .null, .null, .null, .null, .null, .int 0, .null, .null, .int 0, .null, .null])), (q2, .inl (g.2.1.1, 103, .inl (fun _ => 0))), (q4, .inl (g.2.1.1, 21, .inl (fun _ => 0))), (q6, .inl (g.2.1.1, 1200, .inl (fun _ => 0))), (q7, .inl (g.2.1.1, 6, .inl (fun _ => 0))), (q8, .inl (g.2.1.1, 95, .inl f58))] H := hP
  have hD : va_D A [(h0, .inr (9, [.ref q1, .ref q2, .ref q3, .ref q4, .ref q5, .int 0, .int 1, .int 0, .ref q6, .int 0, .ref q7, .int 0, .int (-1), .int 0, .int 0, .int 0, .int 0, .int (-1), .null, .null, .int 0, .null, .null, .null, .null, .null, .null, .null, .null, .null, .null, .int 0, .null, .null, .int 0, .null, .null])), (q2, .inl (g.2.1.1, 103, .inl (fun _ => 0))), (q4, .inl (g.2.1.1, 21, .inl (fun _ => 0))), (q6, .inl (g.2.1.1, 1200, .inl (fun _ => 0))), (q7, .inl (g.2.1.1, 6, .inl (fun _ => 0))), (q8, .inl (g.2.1.1, 95, .inl f58))] := hD
  refine lv_dup hx hb dX9_init_397 rfl ?_
  refine lv_bipush (v := 50) hx hb dX9_init_398 (by decide) ?_
  refine lv_iconst (v := 5) hx hb dX9_init_400 (by decide) ?_
  refine va_iast hx hb hX.1 hP hD hS 5 0 rfl rfl (vp_in_iff.mpr (by decide)) dX9_init_401 (fun H locs hP hD hS => ?_)
  obtain ⟨f59, ef59⟩ : ∃ z : Nat → Int32, z = upd f58 (50 : Int32).toNatClampNeg 5 := ⟨_, rfl⟩
  rw [← ef59] at hP hD
  have hP : va_P g.1 vwCl [(h0, .inr (9, [.ref q1, .ref q2, .ref q3, .ref q4, .ref q5, .int 0, .int 1, .int 0, .ref q6, .int 0, .ref q7, .int 0, .int (-1), .int 0, .int 0, .int 0, .int 0, .int (-1), .null, .null, .int 0, .null, .null, .null, .null, .null, .null, .null, .null, .null, .null, .int 0, .null, .null, .int 0, .null, .null])), (q2, .inl (g.2.1.1, 103, .inl (fun _ => 0))), (q4, .inl (g.2.1.1, 21, .inl (fun _ => 0))), (q6, .inl (g.2.1.1, 1200, .inl (fun _ => 0))), (q7, .inl (g.2.1.1, 6, .inl (fun _ => 0))), (q8, .inl (g.2.1.1, 95, .inl f59))] H := hP
  have hD : va_D A [(h0, .inr (9, [.ref q1, .ref q2, .ref q3, .ref q4, .ref q5, .int 0, .int 1, .int 0, .ref q6, .int 0, .ref q7, .int 0, .int (-1), .int 0, .int 0, .int 0, .int 0, .int (-1), .null, .null, .int 0, .null, .null, .null, .null, .null, .null, .null, .null, .null, .null, .int 0, .null, .null, .int 0, .null, .null])), (q2, .inl (g.2.1.1, 103, .inl (fun _ => 0))), (q4, .inl (g.2.1.1, 21, .inl (fun _ => 0))), (q6, .inl (g.2.1.1, 1200, .inl (fun _ => 0))), (q7, .inl (g.2.1.1, 6, .inl (fun _ => 0))), (q8, .inl (g.2.1.1, 95, .inl f59))] := hD
  refine lv_dup hx hb dX9_init_402 rfl ?_
  refine lv_bipush (v := 51) hx hb dX9_init_403 (by decide) ?_
  refine lv_iconst (v := 1) hx hb dX9_init_405 (by decide) ?_
  refine va_iast hx hb hX.1 hP hD hS 5 0 rfl rfl (vp_in_iff.mpr (by decide)) dX9_init_406 (fun H locs hP hD hS => ?_)
  obtain ⟨f60, ef60⟩ : ∃ z : Nat → Int32, z = upd f59 (51 : Int32).toNatClampNeg 1 := ⟨_, rfl⟩
  rw [← ef60] at hP hD
  have hP : va_P g.1 vwCl [(h0, .inr (9, [.ref q1, .ref q2, .ref q3, .ref q4, .ref q5, .int 0, .int 1, .int 0, .ref q6, .int 0, .ref q7, .int 0, .int (-1), .int 0, .int 0, .int 0, .int 0, .int (-1), .null, .null, .int 0, .null, .null, .null, .null, .null, .null, .null, .null, .null, .null, .int 0, .null, .null, .int 0, .null, .null])), (q2, .inl (g.2.1.1, 103, .inl (fun _ => 0))), (q4, .inl (g.2.1.1, 21, .inl (fun _ => 0))), (q6, .inl (g.2.1.1, 1200, .inl (fun _ => 0))), (q7, .inl (g.2.1.1, 6, .inl (fun _ => 0))), (q8, .inl (g.2.1.1, 95, .inl f60))] H := hP
  have hD : va_D A [(h0, .inr (9, [.ref q1, .ref q2, .ref q3, .ref q4, .ref q5, .int 0, .int 1, .int 0, .ref q6, .int 0, .ref q7, .int 0, .int (-1), .int 0, .int 0, .int 0, .int 0, .int (-1), .null, .null, .int 0, .null, .null, .null, .null, .null, .null, .null, .null, .null, .null, .int 0, .null, .null, .int 0, .null, .null])), (q2, .inl (g.2.1.1, 103, .inl (fun _ => 0))), (q4, .inl (g.2.1.1, 21, .inl (fun _ => 0))), (q6, .inl (g.2.1.1, 1200, .inl (fun _ => 0))), (q7, .inl (g.2.1.1, 6, .inl (fun _ => 0))), (q8, .inl (g.2.1.1, 95, .inl f60))] := hD
  refine lv_dup hx hb dX9_init_407 rfl ?_
  refine lv_bipush (v := 52) hx hb dX9_init_408 (by decide) ?_
  refine lv_bipush (v := 19) hx hb dX9_init_410 (by decide) ?_
  refine va_iast hx hb hX.1 hP hD hS 5 0 rfl rfl (vp_in_iff.mpr (by decide)) dX9_init_412 (fun H locs hP hD hS => ?_)
  obtain ⟨f61, ef61⟩ : ∃ z : Nat → Int32, z = upd f60 (52 : Int32).toNatClampNeg 19 := ⟨_, rfl⟩
  rw [← ef61] at hP hD
  have hP : va_P g.1 vwCl [(h0, .inr (9, [.ref q1, .ref q2, .ref q3, .ref q4, .ref q5, .int 0, .int 1, .int 0, .ref q6, .int 0, .ref q7, .int 0, .int (-1), .int 0, .int 0, .int 0, .int 0, .int (-1), .null, .null, .int 0, .null, .null, .null, .null, .null, .null, .null, .null, .null, .null, .int 0, .null, .null, .int 0, .null, .null])), (q2, .inl (g.2.1.1, 103, .inl (fun _ => 0))), (q4, .inl (g.2.1.1, 21, .inl (fun _ => 0))), (q6, .inl (g.2.1.1, 1200, .inl (fun _ => 0))), (q7, .inl (g.2.1.1, 6, .inl (fun _ => 0))), (q8, .inl (g.2.1.1, 95, .inl f61))] H := hP
  have hD : va_D A [(h0, .inr (9, [.ref q1, .ref q2, .ref q3, .ref q4, .ref q5, .int 0, .int 1, .int 0, .ref q6, .int 0, .ref q7, .int 0, .int (-1), .int 0, .int 0, .int 0, .int 0, .int (-1), .null, .null, .int 0, .null, .null, .null, .null, .null, .null, .null, .null, .null, .null, .int 0, .null, .null, .int 0, .null, .null])), (q2, .inl (g.2.1.1, 103, .inl (fun _ => 0))), (q4, .inl (g.2.1.1, 21, .inl (fun _ => 0))), (q6, .inl (g.2.1.1, 1200, .inl (fun _ => 0))), (q7, .inl (g.2.1.1, 6, .inl (fun _ => 0))), (q8, .inl (g.2.1.1, 95, .inl f61))] := hD
  refine lv_dup hx hb dX9_init_413 rfl ?_
  refine lv_bipush (v := 53) hx hb dX9_init_414 (by decide) ?_
  refine lv_bipush (v := 20) hx hb dX9_init_416 (by decide) ?_
  refine va_iast hx hb hX.1 hP hD hS 5 0 rfl rfl (vp_in_iff.mpr (by decide)) dX9_init_418 (fun H locs hP hD hS => ?_)
  obtain ⟨f62, ef62⟩ : ∃ z : Nat → Int32, z = upd f61 (53 : Int32).toNatClampNeg 20 := ⟨_, rfl⟩
  rw [← ef62] at hP hD
  have hP : va_P g.1 vwCl [(h0, .inr (9, [.ref q1, .ref q2, .ref q3, .ref q4, .ref q5, .int 0, .int 1, .int 0, .ref q6, .int 0, .ref q7, .int 0, .int (-1), .int 0, .int 0, .int 0, .int 0, .int (-1), .null, .null, .int 0, .null, .null, .null, .null, .null, .null, .null, .null, .null, .null, .int 0, .null, .null, .int 0, .null, .null])), (q2, .inl (g.2.1.1, 103, .inl (fun _ => 0))), (q4, .inl (g.2.1.1, 21, .inl (fun _ => 0))), (q6, .inl (g.2.1.1, 1200, .inl (fun _ => 0))), (q7, .inl (g.2.1.1, 6, .inl (fun _ => 0))), (q8, .inl (g.2.1.1, 95, .inl f62))] H := hP
  have hD : va_D A [(h0, .inr (9, [.ref q1, .ref q2, .ref q3, .ref q4, .ref q5, .int 0, .int 1, .int 0, .ref q6, .int 0, .ref q7, .int 0, .int (-1), .int 0, .int 0, .int 0, .int 0, .int (-1), .null, .null, .int 0, .null, .null, .null, .null, .null, .null, .null, .null, .null, .null, .int 0, .null, .null, .int 0, .null, .null])), (q2, .inl (g.2.1.1, 103, .inl (fun _ => 0))), (q4, .inl (g.2.1.1, 21, .inl (fun _ => 0))), (q6, .inl (g.2.1.1, 1200, .inl (fun _ => 0))), (q7, .inl (g.2.1.1, 6, .inl (fun _ => 0))), (q8, .inl (g.2.1.1, 95, .inl f62))] := hD
  refine lv_dup hx hb dX9_init_419 rfl ?_
  refine lv_bipush (v := 54) hx hb dX9_init_420 (by decide) ?_
  refine lv_iconst (v := 0) hx hb dX9_init_422 (by decide) ?_
  refine va_iast hx hb hX.1 hP hD hS 5 0 rfl rfl (vp_in_iff.mpr (by decide)) dX9_init_423 (fun H locs hP hD hS => ?_)
  obtain ⟨f63, ef63⟩ : ∃ z : Nat → Int32, z = upd f62 (54 : Int32).toNatClampNeg 0 := ⟨_, rfl⟩
  rw [← ef63] at hP hD
  have hP : va_P g.1 vwCl [(h0, .inr (9, [.ref q1, .ref q2, .ref q3, .ref q4, .ref q5, .int 0, .int 1, .int 0, .ref q6, .int 0, .ref q7, .int 0, .int (-1), .int 0, .int 0, .int 0, .int 0, .int (-1), .null, .null, .int 0, .null, .null, .null, .null, .null, .null, .null, .null, .null, .null, .int 0, .null, .null, .int 0, .null, .null])), (q2, .inl (g.2.1.1, 103, .inl (fun _ => 0))), (q4, .inl (g.2.1.1, 21, .inl (fun _ => 0))), (q6, .inl (g.2.1.1, 1200, .inl (fun _ => 0))), (q7, .inl (g.2.1.1, 6, .inl (fun _ => 0))), (q8, .inl (g.2.1.1, 95, .inl f63))] H := hP
  have hD : va_D A [(h0, .inr (9, [.ref q1, .ref q2, .ref q3, .ref q4, .ref q5, .int 0, .int 1, .int 0, .ref q6, .int 0, .ref q7, .int 0, .int (-1), .int 0, .int 0, .int 0, .int 0, .int (-1), .null, .null, .int 0, .null, .null, .null, .null, .null, .null, .null, .null, .null, .null, .int 0, .null, .null, .int 0, .null, .null])), (q2, .inl (g.2.1.1, 103, .inl (fun _ => 0))), (q4, .inl (g.2.1.1, 21, .inl (fun _ => 0))), (q6, .inl (g.2.1.1, 1200, .inl (fun _ => 0))), (q7, .inl (g.2.1.1, 6, .inl (fun _ => 0))), (q8, .inl (g.2.1.1, 95, .inl f63))] := hD
  refine lv_dup hx hb dX9_init_424 rfl ?_
  refine lv_bipush (v := 55) hx hb dX9_init_425 (by decide) ?_
  refine lv_bipush (v := 19) hx hb dX9_init_427 (by decide) ?_
  refine va_iast hx hb hX.1 hP hD hS 5 0 rfl rfl (vp_in_iff.mpr (by decide)) dX9_init_429 (fun H locs hP hD hS => ?_)
  obtain ⟨f64, ef64⟩ : ∃ z : Nat → Int32, z = upd f63 (55 : Int32).toNatClampNeg 19 := ⟨_, rfl⟩
  rw [← ef64] at hP hD
  have hP : va_P g.1 vwCl [(h0, .inr (9, [.ref q1, .ref q2, .ref q3, .ref q4, .ref q5, .int 0, .int 1, .int 0, .ref q6, .int 0, .ref q7, .int 0, .int (-1), .int 0, .int 0, .int 0, .int 0, .int (-1), .null, .null, .int 0, .null, .null, .null, .null, .null, .null, .null, .null, .null, .null, .int 0, .null, .null, .int 0, .null, .null])), (q2, .inl (g.2.1.1, 103, .inl (fun _ => 0))), (q4, .inl (g.2.1.1, 21, .inl (fun _ => 0))), (q6, .inl (g.2.1.1, 1200, .inl (fun _ => 0))), (q7, .inl (g.2.1.1, 6, .inl (fun _ => 0))), (q8, .inl (g.2.1.1, 95, .inl f64))] H := hP
  have hD : va_D A [(h0, .inr (9, [.ref q1, .ref q2, .ref q3, .ref q4, .ref q5, .int 0, .int 1, .int 0, .ref q6, .int 0, .ref q7, .int 0, .int (-1), .int 0, .int 0, .int 0, .int 0, .int (-1), .null, .null, .int 0, .null, .null, .null, .null, .null, .null, .null, .null, .null, .null, .int 0, .null, .null, .int 0, .null, .null])), (q2, .inl (g.2.1.1, 103, .inl (fun _ => 0))), (q4, .inl (g.2.1.1, 21, .inl (fun _ => 0))), (q6, .inl (g.2.1.1, 1200, .inl (fun _ => 0))), (q7, .inl (g.2.1.1, 6, .inl (fun _ => 0))), (q8, .inl (g.2.1.1, 95, .inl f64))] := hD
  refine lv_dup hx hb dX9_init_430 rfl ?_
  refine lv_bipush (v := 56) hx hb dX9_init_431 (by decide) ?_
  refine lv_bipush (v := 15) hx hb dX9_init_433 (by decide) ?_
  refine va_iast hx hb hX.1 hP hD hS 5 0 rfl rfl (vp_in_iff.mpr (by decide)) dX9_init_435 (fun H locs hP hD hS => ?_)
  obtain ⟨f65, ef65⟩ : ∃ z : Nat → Int32, z = upd f64 (56 : Int32).toNatClampNeg 15 := ⟨_, rfl⟩
  rw [← ef65] at hP hD
  have hP : va_P g.1 vwCl [(h0, .inr (9, [.ref q1, .ref q2, .ref q3, .ref q4, .ref q5, .int 0, .int 1, .int 0, .ref q6, .int 0, .ref q7, .int 0, .int (-1), .int 0, .int 0, .int 0, .int 0, .int (-1), .null, .null, .int 0, .null, .null, .null, .null, .null, .null, .null, .null, .null, .null, .int 0, .null, .null, .int 0, .null, .null])), (q2, .inl (g.2.1.1, 103, .inl (fun _ => 0))), (q4, .inl (g.2.1.1, 21, .inl (fun _ => 0))), (q6, .inl (g.2.1.1, 1200, .inl (fun _ => 0))), (q7, .inl (g.2.1.1, 6, .inl (fun _ => 0))), (q8, .inl (g.2.1.1, 95, .inl f65))] H := hP
  have hD : va_D A [(h0, .inr (9, [.ref q1, .ref q2, .ref q3, .ref q4, .ref q5, .int 0, .int 1, .int 0, .ref q6, .int 0, .ref q7, .int 0, .int (-1), .int 0, .int 0, .int 0, .int 0, .int (-1), .null, .null, .int 0, .null, .null, .null, .null, .null, .null, .null, .null, .null, .null, .int 0, .null, .null, .int 0, .null, .null])), (q2, .inl (g.2.1.1, 103, .inl (fun _ => 0))), (q4, .inl (g.2.1.1, 21, .inl (fun _ => 0))), (q6, .inl (g.2.1.1, 1200, .inl (fun _ => 0))), (q7, .inl (g.2.1.1, 6, .inl (fun _ => 0))), (q8, .inl (g.2.1.1, 95, .inl f65))] := hD
  refine lv_dup hx hb dX9_init_436 rfl ?_
  refine lv_bipush (v := 57) hx hb dX9_init_437 (by decide) ?_
  refine lv_bipush (v := 21) hx hb dX9_init_439 (by decide) ?_
  refine va_iast hx hb hX.1 hP hD hS 5 0 rfl rfl (vp_in_iff.mpr (by decide)) dX9_init_441 (fun H locs hP hD hS => ?_)
  obtain ⟨f66, ef66⟩ : ∃ z : Nat → Int32, z = upd f65 (57 : Int32).toNatClampNeg 21 := ⟨_, rfl⟩
  rw [← ef66] at hP hD
  have hP : va_P g.1 vwCl [(h0, .inr (9, [.ref q1, .ref q2, .ref q3, .ref q4, .ref q5, .int 0, .int 1, .int 0, .ref q6, .int 0, .ref q7, .int 0, .int (-1), .int 0, .int 0, .int 0, .int 0, .int (-1), .null, .null, .int 0, .null, .null, .null, .null, .null, .null, .null, .null, .null, .null, .int 0, .null, .null, .int 0, .null, .null])), (q2, .inl (g.2.1.1, 103, .inl (fun _ => 0))), (q4, .inl (g.2.1.1, 21, .inl (fun _ => 0))), (q6, .inl (g.2.1.1, 1200, .inl (fun _ => 0))), (q7, .inl (g.2.1.1, 6, .inl (fun _ => 0))), (q8, .inl (g.2.1.1, 95, .inl f66))] H := hP
  have hD : va_D A [(h0, .inr (9, [.ref q1, .ref q2, .ref q3, .ref q4, .ref q5, .int 0, .int 1, .int 0, .ref q6, .int 0, .ref q7, .int 0, .int (-1), .int 0, .int 0, .int 0, .int 0, .int (-1), .null, .null, .int 0, .null, .null, .null, .null, .null, .null, .null, .null, .null, .null, .int 0, .null, .null, .int 0, .null, .null])), (q2, .inl (g.2.1.1, 103, .inl (fun _ => 0))), (q4, .inl (g.2.1.1, 21, .inl (fun _ => 0))), (q6, .inl (g.2.1.1, 1200, .inl (fun _ => 0))), (q7, .inl (g.2.1.1, 6, .inl (fun _ => 0))), (q8, .inl (g.2.1.1, 95, .inl f66))] := hD
  refine lv_dup hx hb dX9_init_442 rfl ?_
  refine lv_bipush (v := 58) hx hb dX9_init_443 (by decide) ?_
  refine lv_bipush (v := 20) hx hb dX9_init_445 (by decide) ?_
  refine va_iast hx hb hX.1 hP hD hS 5 0 rfl rfl (vp_in_iff.mpr (by decide)) dX9_init_447 (fun H locs hP hD hS => ?_)
  obtain ⟨f67, ef67⟩ : ∃ z : Nat → Int32, z = upd f66 (58 : Int32).toNatClampNeg 20 := ⟨_, rfl⟩
  rw [← ef67] at hP hD
  have hP : va_P g.1 vwCl [(h0, .inr (9, [.ref q1, .ref q2, .ref q3, .ref q4, .ref q5, .int 0, .int 1, .int 0, .ref q6, .int 0, .ref q7, .int 0, .int (-1), .int 0, .int 0, .int 0, .int 0, .int (-1), .null, .null, .int 0, .null, .null, .null, .null, .null, .null, .null, .null, .null, .null, .int 0, .null, .null, .int 0, .null, .null])), (q2, .inl (g.2.1.1, 103, .inl (fun _ => 0))), (q4, .inl (g.2.1.1, 21, .inl (fun _ => 0))), (q6, .inl (g.2.1.1, 1200, .inl (fun _ => 0))), (q7, .inl (g.2.1.1, 6, .inl (fun _ => 0))), (q8, .inl (g.2.1.1, 95, .inl f67))] H := hP
  have hD : va_D A [(h0, .inr (9, [.ref q1, .ref q2, .ref q3, .ref q4, .ref q5, .int 0, .int 1, .int 0, .ref q6, .int 0, .ref q7, .int 0, .int (-1), .int 0, .int 0, .int 0, .int 0, .int (-1), .null, .null, .int 0, .null, .null, .null, .null, .null, .null, .null, .null, .null, .null, .int 0, .null, .null, .int 0, .null, .null])), (q2, .inl (g.2.1.1, 103, .inl (fun _ => 0))), (q4, .inl (g.2.1.1, 21, .inl (fun _ => 0))), (q6, .inl (g.2.1.1, 1200, .inl (fun _ => 0))), (q7, .inl (g.2.1.1, 6, .inl (fun _ => 0))), (q8, .inl (g.2.1.1, 95, .inl f67))] := hD
  refine lv_dup hx hb dX9_init_448 rfl ?_
  refine lv_bipush (v := 59) hx hb dX9_init_449 (by decide) ?_
  refine lv_bipush (v := 8) hx hb dX9_init_451 (by decide) ?_
  refine va_iast hx hb hX.1 hP hD hS 5 0 rfl rfl (vp_in_iff.mpr (by decide)) dX9_init_453 (fun H locs hP hD hS => ?_)
  obtain ⟨f68, ef68⟩ : ∃ z : Nat → Int32, z = upd f67 (59 : Int32).toNatClampNeg 8 := ⟨_, rfl⟩
  rw [← ef68] at hP hD
  have hP : va_P g.1 vwCl [(h0, .inr (9, [.ref q1, .ref q2, .ref q3, .ref q4, .ref q5, .int 0, .int 1, .int 0, .ref q6, .int 0, .ref q7, .int 0, .int (-1), .int 0, .int 0, .int 0, .int 0, .int (-1), .null, .null, .int 0, .null, .null, .null, .null, .null, .null, .null, .null, .null, .null, .int 0, .null, .null, .int 0, .null, .null])), (q2, .inl (g.2.1.1, 103, .inl (fun _ => 0))), (q4, .inl (g.2.1.1, 21, .inl (fun _ => 0))), (q6, .inl (g.2.1.1, 1200, .inl (fun _ => 0))), (q7, .inl (g.2.1.1, 6, .inl (fun _ => 0))), (q8, .inl (g.2.1.1, 95, .inl f68))] H := hP
  have hD : va_D A [(h0, .inr (9, [.ref q1, .ref q2, .ref q3, .ref q4, .ref q5, .int 0, .int 1, .int 0, .ref q6, .int 0, .ref q7, .int 0, .int (-1), .int 0, .int 0, .int 0, .int 0, .int (-1), .null, .null, .int 0, .null, .null, .null, .null, .null, .null, .null, .null, .null, .null, .int 0, .null, .null, .int 0, .null, .null])), (q2, .inl (g.2.1.1, 103, .inl (fun _ => 0))), (q4, .inl (g.2.1.1, 21, .inl (fun _ => 0))), (q6, .inl (g.2.1.1, 1200, .inl (fun _ => 0))), (q7, .inl (g.2.1.1, 6, .inl (fun _ => 0))), (q8, .inl (g.2.1.1, 95, .inl f68))] := hD
  refine lv_dup hx hb dX9_init_454 rfl ?_
  refine lv_bipush (v := 60) hx hb dX9_init_455 (by decide) ?_
  refine lv_iconst (v := 0) hx hb dX9_init_457 (by decide) ?_
  refine va_iast hx hb hX.1 hP hD hS 5 0 rfl rfl (vp_in_iff.mpr (by decide)) dX9_init_458 (fun H locs hP hD hS => ?_)
  obtain ⟨f69, ef69⟩ : ∃ z : Nat → Int32, z = upd f68 (60 : Int32).toNatClampNeg 0 := ⟨_, rfl⟩
  rw [← ef69] at hP hD
  have hP : va_P g.1 vwCl [(h0, .inr (9, [.ref q1, .ref q2, .ref q3, .ref q4, .ref q5, .int 0, .int 1, .int 0, .ref q6, .int 0, .ref q7, .int 0, .int (-1), .int 0, .int 0, .int 0, .int 0, .int (-1), .null, .null, .int 0, .null, .null, .null, .null, .null, .null, .null, .null, .null, .null, .int 0, .null, .null, .int 0, .null, .null])), (q2, .inl (g.2.1.1, 103, .inl (fun _ => 0))), (q4, .inl (g.2.1.1, 21, .inl (fun _ => 0))), (q6, .inl (g.2.1.1, 1200, .inl (fun _ => 0))), (q7, .inl (g.2.1.1, 6, .inl (fun _ => 0))), (q8, .inl (g.2.1.1, 95, .inl f69))] H := hP
  have hD : va_D A [(h0, .inr (9, [.ref q1, .ref q2, .ref q3, .ref q4, .ref q5, .int 0, .int 1, .int 0, .ref q6, .int 0, .ref q7, .int 0, .int (-1), .int 0, .int 0, .int 0, .int 0, .int (-1), .null, .null, .int 0, .null, .null, .null, .null, .null, .null, .null, .null, .null, .null, .int 0, .null, .null, .int 0, .null, .null])), (q2, .inl (g.2.1.1, 103, .inl (fun _ => 0))), (q4, .inl (g.2.1.1, 21, .inl (fun _ => 0))), (q6, .inl (g.2.1.1, 1200, .inl (fun _ => 0))), (q7, .inl (g.2.1.1, 6, .inl (fun _ => 0))), (q8, .inl (g.2.1.1, 95, .inl f69))] := hD
  refine lv_dup hx hb dX9_init_459 rfl ?_
  refine lv_bipush (v := 61) hx hb dX9_init_460 (by decide) ?_
  refine lv_bipush (v := 23) hx hb dX9_init_462 (by decide) ?_
  refine va_iast hx hb hX.1 hP hD hS 5 0 rfl rfl (vp_in_iff.mpr (by decide)) dX9_init_464 (fun H locs hP hD hS => ?_)
  obtain ⟨f70, ef70⟩ : ∃ z : Nat → Int32, z = upd f69 (61 : Int32).toNatClampNeg 23 := ⟨_, rfl⟩
  rw [← ef70] at hP hD
  have hP : va_P g.1 vwCl [(h0, .inr (9, [.ref q1, .ref q2, .ref q3, .ref q4, .ref q5, .int 0, .int 1, .int 0, .ref q6, .int 0, .ref q7, .int 0, .int (-1), .int 0, .int 0, .int 0, .int 0, .int (-1), .null, .null, .int 0, .null, .null, .null, .null, .null, .null, .null, .null, .null, .null, .int 0, .null, .null, .int 0, .null, .null])), (q2, .inl (g.2.1.1, 103, .inl (fun _ => 0))), (q4, .inl (g.2.1.1, 21, .inl (fun _ => 0))), (q6, .inl (g.2.1.1, 1200, .inl (fun _ => 0))), (q7, .inl (g.2.1.1, 6, .inl (fun _ => 0))), (q8, .inl (g.2.1.1, 95, .inl f70))] H := hP
  have hD : va_D A [(h0, .inr (9, [.ref q1, .ref q2, .ref q3, .ref q4, .ref q5, .int 0, .int 1, .int 0, .ref q6, .int 0, .ref q7, .int 0, .int (-1), .int 0, .int 0, .int 0, .int 0, .int (-1), .null, .null, .int 0, .null, .null, .null, .null, .null, .null, .null, .null, .null, .null, .int 0, .null, .null, .int 0, .null, .null])), (q2, .inl (g.2.1.1, 103, .inl (fun _ => 0))), (q4, .inl (g.2.1.1, 21, .inl (fun _ => 0))), (q6, .inl (g.2.1.1, 1200, .inl (fun _ => 0))), (q7, .inl (g.2.1.1, 6, .inl (fun _ => 0))), (q8, .inl (g.2.1.1, 95, .inl f70))] := hD
  refine lv_dup hx hb dX9_init_465 rfl ?_
  refine lv_bipush (v := 62) hx hb dX9_init_466 (by decide) ?_
  refine lv_iconst (v := 5) hx hb dX9_init_468 (by decide) ?_
  refine va_iast hx hb hX.1 hP hD hS 5 0 rfl rfl (vp_in_iff.mpr (by decide)) dX9_init_469 (fun H locs hP hD hS => ?_)
  obtain ⟨f71, ef71⟩ : ∃ z : Nat → Int32, z = upd f70 (62 : Int32).toNatClampNeg 5 := ⟨_, rfl⟩
  rw [← ef71] at hP hD
  have hP : va_P g.1 vwCl [(h0, .inr (9, [.ref q1, .ref q2, .ref q3, .ref q4, .ref q5, .int 0, .int 1, .int 0, .ref q6, .int 0, .ref q7, .int 0, .int (-1), .int 0, .int 0, .int 0, .int 0, .int (-1), .null, .null, .int 0, .null, .null, .null, .null, .null, .null, .null, .null, .null, .null, .int 0, .null, .null, .int 0, .null, .null])), (q2, .inl (g.2.1.1, 103, .inl (fun _ => 0))), (q4, .inl (g.2.1.1, 21, .inl (fun _ => 0))), (q6, .inl (g.2.1.1, 1200, .inl (fun _ => 0))), (q7, .inl (g.2.1.1, 6, .inl (fun _ => 0))), (q8, .inl (g.2.1.1, 95, .inl f71))] H := hP
  have hD : va_D A [(h0, .inr (9, [.ref q1, .ref q2, .ref q3, .ref q4, .ref q5, .int 0, .int 1, .int 0, .ref q6, .int 0, .ref q7, .int 0, .int (-1), .int 0, .int 0, .int 0, .int 0, .int (-1), .null, .null, .int 0, .null, .null, .null, .null, .null, .null, .null, .null, .null, .null, .int 0, .null, .null, .int 0, .null, .null])), (q2, .inl (g.2.1.1, 103, .inl (fun _ => 0))), (q4, .inl (g.2.1.1, 21, .inl (fun _ => 0))), (q6, .inl (g.2.1.1, 1200, .inl (fun _ => 0))), (q7, .inl (g.2.1.1, 6, .inl (fun _ => 0))), (q8, .inl (g.2.1.1, 95, .inl f71))] := hD
  refine lv_dup hx hb dX9_init_470 rfl ?_
  refine lv_bipush (v := 63) hx hb dX9_init_471 (by decide) ?_
  refine lv_bipush (v := 19) hx hb dX9_init_473 (by decide) ?_
  refine va_iast hx hb hX.1 hP hD hS 5 0 rfl rfl (vp_in_iff.mpr (by decide)) dX9_init_475 (fun H locs hP hD hS => ?_)
  obtain ⟨f72, ef72⟩ : ∃ z : Nat → Int32, z = upd f71 (63 : Int32).toNatClampNeg 19 := ⟨_, rfl⟩
  rw [← ef72] at hP hD
  have hP : va_P g.1 vwCl [(h0, .inr (9, [.ref q1, .ref q2, .ref q3, .ref q4, .ref q5, .int 0, .int 1, .int 0, .ref q6, .int 0, .ref q7, .int 0, .int (-1), .int 0, .int 0, .int 0, .int 0, .int (-1), .null, .null, .int 0, .null, .null, .null, .null, .null, .null, .null, .null, .null, .null, .int 0, .null, .null, .int 0, .null, .null])), (q2, .inl (g.2.1.1, 103, .inl (fun _ => 0))), (q4, .inl (g.2.1.1, 21, .inl (fun _ => 0))), (q6, .inl (g.2.1.1, 1200, .inl (fun _ => 0))), (q7, .inl (g.2.1.1, 6, .inl (fun _ => 0))), (q8, .inl (g.2.1.1, 95, .inl f72))] H := hP
  have hD : va_D A [(h0, .inr (9, [.ref q1, .ref q2, .ref q3, .ref q4, .ref q5, .int 0, .int 1, .int 0, .ref q6, .int 0, .ref q7, .int 0, .int (-1), .int 0, .int 0, .int 0, .int 0, .int (-1), .null, .null, .int 0, .null, .null, .null, .null, .null, .null, .null, .null, .null, .null, .int 0, .null, .null, .int 0, .null, .null])), (q2, .inl (g.2.1.1, 103, .inl (fun _ => 0))), (q4, .inl (g.2.1.1, 21, .inl (fun _ => 0))), (q6, .inl (g.2.1.1, 1200, .inl (fun _ => 0))), (q7, .inl (g.2.1.1, 6, .inl (fun _ => 0))), (q8, .inl (g.2.1.1, 95, .inl f72))] := hD
  refine lv_dup hx hb dX9_init_476 rfl ?_
  refine lv_bipush (v := 64) hx hb dX9_init_477 (by decide) ?_
  refine lv_bipush (v := 20) hx hb dX9_init_479 (by decide) ?_
  refine va_iast hx hb hX.1 hP hD hS 5 0 rfl rfl (vp_in_iff.mpr (by decide)) dX9_init_481 (fun H locs hP hD hS => ?_)
  obtain ⟨f73, ef73⟩ : ∃ z : Nat → Int32, z = upd f72 (64 : Int32).toNatClampNeg 20 := ⟨_, rfl⟩
  rw [← ef73] at hP hD
  have hP : va_P g.1 vwCl [(h0, .inr (9, [.ref q1, .ref q2, .ref q3, .ref q4, .ref q5, .int 0, .int 1, .int 0, .ref q6, .int 0, .ref q7, .int 0, .int (-1), .int 0, .int 0, .int 0, .int 0, .int (-1), .null, .null, .int 0, .null, .null, .null, .null, .null, .null, .null, .null, .null, .null, .int 0, .null, .null, .int 0, .null, .null])), (q2, .inl (g.2.1.1, 103, .inl (fun _ => 0))), (q4, .inl (g.2.1.1, 21, .inl (fun _ => 0))), (q6, .inl (g.2.1.1, 1200, .inl (fun _ => 0))), (q7, .inl (g.2.1.1, 6, .inl (fun _ => 0))), (q8, .inl (g.2.1.1, 95, .inl f73))] H := hP
  have hD : va_D A [(h0, .inr (9, [.ref q1, .ref q2, .ref q3, .ref q4, .ref q5, .int 0, .int 1, .int 0, .ref q6, .int 0, .ref q7, .int 0, .int (-1), .int 0, .int 0, .int 0, .int 0, .int (-1), .null, .null, .int 0, .null, .null, .null, .null, .null, .null, .null, .null, .null, .null, .int 0, .null, .null, .int 0, .null, .null])), (q2, .inl (g.2.1.1, 103, .inl (fun _ => 0))), (q4, .inl (g.2.1.1, 21, .inl (fun _ => 0))), (q6, .inl (g.2.1.1, 1200, .inl (fun _ => 0))), (q7, .inl (g.2.1.1, 6, .inl (fun _ => 0))), (q8, .inl (g.2.1.1, 95, .inl f73))] := hD
  refine lv_dup hx hb dX9_init_482 rfl ?_
  refine lv_bipush (v := 65) hx hb dX9_init_483 (by decide) ?_
  refine lv_iconst (v := 0) hx hb dX9_init_485 (by decide) ?_
  refine va_iast hx hb hX.1 hP hD hS 5 0 rfl rfl (vp_in_iff.mpr (by decide)) dX9_init_486 (fun H locs hP hD hS => ?_)
  obtain ⟨f74, ef74⟩ : ∃ z : Nat → Int32, z = upd f73 (65 : Int32).toNatClampNeg 0 := ⟨_, rfl⟩
  rw [← ef74] at hP hD
  have hP : va_P g.1 vwCl [(h0, .inr (9, [.ref q1, .ref q2, .ref q3, .ref q4, .ref q5, .int 0, .int 1, .int 0, .ref q6, .int 0, .ref q7, .int 0, .int (-1), .int 0, .int 0, .int 0, .int 0, .int (-1), .null, .null, .int 0, .null, .null, .null, .null, .null, .null, .null, .null, .null, .null, .int 0, .null, .null, .int 0, .null, .null])), (q2, .inl (g.2.1.1, 103, .inl (fun _ => 0))), (q4, .inl (g.2.1.1, 21, .inl (fun _ => 0))), (q6, .inl (g.2.1.1, 1200, .inl (fun _ => 0))), (q7, .inl (g.2.1.1, 6, .inl (fun _ => 0))), (q8, .inl (g.2.1.1, 95, .inl f74))] H := hP
  have hD : va_D A [(h0, .inr (9, [.ref q1, .ref q2, .ref q3, .ref q4, .ref q5, .int 0, .int 1, .int 0, .ref q6, .int 0, .ref q7, .int 0, .int (-1), .int 0, .int 0, .int 0, .int 0, .int (-1), .null, .null, .int 0, .null, .null, .null, .null, .null, .null, .null, .null, .null, .null, .int 0, .null, .null, .int 0, .null, .null])), (q2, .inl (g.2.1.1, 103, .inl (fun _ => 0))), (q4, .inl (g.2.1.1, 21, .inl (fun _ => 0))), (q6, .inl (g.2.1.1, 1200, .inl (fun _ => 0))), (q7, .inl (g.2.1.1, 6, .inl (fun _ => 0))), (q8, .inl (g.2.1.1, 95, .inl f74))] := hD
  refine lv_dup hx hb dX9_init_487 rfl ?_
  refine lv_bipush (v := 66) hx hb dX9_init_488 (by decide) ?_
  refine lv_bipush (v := 6) hx hb dX9_init_490 (by decide) ?_
  refine va_iast hx hb hX.1 hP hD hS 5 0 rfl rfl (vp_in_iff.mpr (by decide)) dX9_init_492 (fun H locs hP hD hS => ?_)
  obtain ⟨f75, ef75⟩ : ∃ z : Nat → Int32, z = upd f74 (66 : Int32).toNatClampNeg 6 := ⟨_, rfl⟩
  rw [← ef75] at hP hD
  have hP : va_P g.1 vwCl [(h0, .inr (9, [.ref q1, .ref q2, .ref q3, .ref q4, .ref q5, .int 0, .int 1, .int 0, .ref q6, .int 0, .ref q7, .int 0, .int (-1), .int 0, .int 0, .int 0, .int 0, .int (-1), .null, .null, .int 0, .null, .null, .null, .null, .null, .null, .null, .null, .null, .null, .int 0, .null, .null, .int 0, .null, .null])), (q2, .inl (g.2.1.1, 103, .inl (fun _ => 0))), (q4, .inl (g.2.1.1, 21, .inl (fun _ => 0))), (q6, .inl (g.2.1.1, 1200, .inl (fun _ => 0))), (q7, .inl (g.2.1.1, 6, .inl (fun _ => 0))), (q8, .inl (g.2.1.1, 95, .inl f75))] H := hP
  have hD : va_D A [(h0, .inr (9, [.ref q1, .ref q2, .ref q3, .ref q4, .ref q5, .int 0, .int 1, .int 0, .ref q6, .int 0, .ref q7, .int 0, .int (-1), .int 0, .int 0, .int 0, .int 0, .int (-1), .null, .null, .int 0, .null, .null, .null, .null, .null, .null, .null, .null, .null, .null, .int 0, .null, .null, .int 0, .null, .null])), (q2, .inl (g.2.1.1, 103, .inl (fun _ => 0))), (q4, .inl (g.2.1.1, 21, .inl (fun _ => 0))), (q6, .inl (g.2.1.1, 1200, .inl (fun _ => 0))), (q7, .inl (g.2.1.1, 6, .inl (fun _ => 0))), (q8, .inl (g.2.1.1, 95, .inl f75))] := hD
  refine lv_dup hx hb dX9_init_493 rfl ?_
  refine lv_bipush (v := 67) hx hb dX9_init_494 (by decide) ?_
  refine lv_bipush (v := 18) hx hb dX9_init_496 (by decide) ?_
  refine va_iast hx hb hX.1 hP hD hS 5 0 rfl rfl (vp_in_iff.mpr (by decide)) dX9_init_498 (fun H locs hP hD hS => ?_)
  obtain ⟨f76, ef76⟩ : ∃ z : Nat → Int32, z = upd f75 (67 : Int32).toNatClampNeg 18 := ⟨_, rfl⟩
  rw [← ef76] at hP hD
  have hP : va_P g.1 vwCl [(h0, .inr (9, [.ref q1, .ref q2, .ref q3, .ref q4, .ref q5, .int 0, .int 1, .int 0, .ref q6, .int 0, .ref q7, .int 0, .int (-1), .int 0, .int 0, .int 0, .int 0, .int (-1), .null, .null, .int 0, .null, .null, .null, .null, .null, .null, .null, .null, .null, .null, .int 0, .null, .null, .int 0, .null, .null])), (q2, .inl (g.2.1.1, 103, .inl (fun _ => 0))), (q4, .inl (g.2.1.1, 21, .inl (fun _ => 0))), (q6, .inl (g.2.1.1, 1200, .inl (fun _ => 0))), (q7, .inl (g.2.1.1, 6, .inl (fun _ => 0))), (q8, .inl (g.2.1.1, 95, .inl f76))] H := hP
  have hD : va_D A [(h0, .inr (9, [.ref q1, .ref q2, .ref q3, .ref q4, .ref q5, .int 0, .int 1, .int 0, .ref q6, .int 0, .ref q7, .int 0, .int (-1), .int 0, .int 0, .int 0, .int 0, .int (-1), .null, .null, .int 0, .null, .null, .null, .null, .null, .null, .null, .null, .null, .null, .int 0, .null, .null, .int 0, .null, .null])), (q2, .inl (g.2.1.1, 103, .inl (fun _ => 0))), (q4, .inl (g.2.1.1, 21, .inl (fun _ => 0))), (q6, .inl (g.2.1.1, 1200, .inl (fun _ => 0))), (q7, .inl (g.2.1.1, 6, .inl (fun _ => 0))), (q8, .inl (g.2.1.1, 95, .inl f76))] := hD
  refine lv_dup hx hb dX9_init_499 rfl ?_
  refine lv_bipush (v := 68) hx hb dX9_init_500 (by decide) ?_
  refine lv_bipush (v := 15) hx hb dX9_init_502 (by decide) ?_
  refine va_iast hx hb hX.1 hP hD hS 5 0 rfl rfl (vp_in_iff.mpr (by decide)) dX9_init_504 (fun H locs hP hD hS => ?_)
  obtain ⟨f77, ef77⟩ : ∃ z : Nat → Int32, z = upd f76 (68 : Int32).toNatClampNeg 15 := ⟨_, rfl⟩
  rw [← ef77] at hP hD
  have hP : va_P g.1 vwCl [(h0, .inr (9, [.ref q1, .ref q2, .ref q3, .ref q4, .ref q5, .int 0, .int 1, .int 0, .ref q6, .int 0, .ref q7, .int 0, .int (-1), .int 0, .int 0, .int 0, .int 0, .int (-1), .null, .null, .int 0, .null, .null, .null, .null, .null, .null, .null, .null, .null, .null, .int 0, .null, .null, .int 0, .null, .null])), (q2, .inl (g.2.1.1, 103, .inl (fun _ => 0))), (q4, .inl (g.2.1.1, 21, .inl (fun _ => 0))), (q6, .inl (g.2.1.1, 1200, .inl (fun _ => 0))), (q7, .inl (g.2.1.1, 6, .inl (fun _ => 0))), (q8, .inl (g.2.1.1, 95, .inl f77))] H := hP
  have hD : va_D A [(h0, .inr (9, [.ref q1, .ref q2, .ref q3, .ref q4, .ref q5, .int 0, .int 1, .int 0, .ref q6, .int 0, .ref q7, .int 0, .int (-1), .int 0, .int 0, .int 0, .int 0, .int (-1), .null, .null, .int 0, .null, .null, .null, .null, .null, .null, .null, .null, .null, .null, .int 0, .null, .null, .int 0, .null, .null])), (q2, .inl (g.2.1.1, 103, .inl (fun _ => 0))), (q4, .inl (g.2.1.1, 21, .inl (fun _ => 0))), (q6, .inl (g.2.1.1, 1200, .inl (fun _ => 0))), (q7, .inl (g.2.1.1, 6, .inl (fun _ => 0))), (q8, .inl (g.2.1.1, 95, .inl f77))] := hD
  refine lv_dup hx hb dX9_init_505 rfl ?_
  refine lv_bipush (v := 69) hx hb dX9_init_506 (by decide) ?_
  refine lv_bipush (v := 13) hx hb dX9_init_508 (by decide) ?_
  refine va_iast hx hb hX.1 hP hD hS 5 0 rfl rfl (vp_in_iff.mpr (by decide)) dX9_init_510 (fun H locs hP hD hS => ?_)
  obtain ⟨f78, ef78⟩ : ∃ z : Nat → Int32, z = upd f77 (69 : Int32).toNatClampNeg 13 := ⟨_, rfl⟩
  rw [← ef78] at hP hD
  have hP : va_P g.1 vwCl [(h0, .inr (9, [.ref q1, .ref q2, .ref q3, .ref q4, .ref q5, .int 0, .int 1, .int 0, .ref q6, .int 0, .ref q7, .int 0, .int (-1), .int 0, .int 0, .int 0, .int 0, .int (-1), .null, .null, .int 0, .null, .null, .null, .null, .null, .null, .null, .null, .null, .null, .int 0, .null, .null, .int 0, .null, .null])), (q2, .inl (g.2.1.1, 103, .inl (fun _ => 0))), (q4, .inl (g.2.1.1, 21, .inl (fun _ => 0))), (q6, .inl (g.2.1.1, 1200, .inl (fun _ => 0))), (q7, .inl (g.2.1.1, 6, .inl (fun _ => 0))), (q8, .inl (g.2.1.1, 95, .inl f78))] H := hP
  have hD : va_D A [(h0, .inr (9, [.ref q1, .ref q2, .ref q3, .ref q4, .ref q5, .int 0, .int 1, .int 0, .ref q6, .int 0, .ref q7, .int 0, .int (-1), .int 0, .int 0, .int 0, .int 0, .int (-1), .null, .null, .int 0, .null, .null, .null, .null, .null, .null, .null, .null, .null, .null, .int 0, .null, .null, .int 0, .null, .null])), (q2, .inl (g.2.1.1, 103, .inl (fun _ => 0))), (q4, .inl (g.2.1.1, 21, .inl (fun _ => 0))), (q6, .inl (g.2.1.1, 1200, .inl (fun _ => 0))), (q7, .inl (g.2.1.1, 6, .inl (fun _ => 0))), (q8, .inl (g.2.1.1, 95, .inl f78))] := hD
  refine lv_dup hx hb dX9_init_511 rfl ?_
  refine lv_bipush (v := 70) hx hb dX9_init_512 (by decide) ?_
  refine lv_iconst (v := 0) hx hb dX9_init_514 (by decide) ?_
  refine va_iast hx hb hX.1 hP hD hS 5 0 rfl rfl (vp_in_iff.mpr (by decide)) dX9_init_515 (fun H locs hP hD hS => ?_)
  obtain ⟨f79, ef79⟩ : ∃ z : Nat → Int32, z = upd f78 (70 : Int32).toNatClampNeg 0 := ⟨_, rfl⟩
  rw [← ef79] at hP hD
  have hP : va_P g.1 vwCl [(h0, .inr (9, [.ref q1, .ref q2, .ref q3, .ref q4, .ref q5, .int 0, .int 1, .int 0, .ref q6, .int 0, .ref q7, .int 0, .int (-1), .int 0, .int 0, .int 0, .int 0, .int (-1), .null, .null, .int 0, .null, .null, .null, .null, .null, .null, .null, .null, .null, .null, .int 0, .null, .null, .int 0, .null, .null])), (q2, .inl (g.2.1.1, 103, .inl (fun _ => 0))), (q4, .inl (g.2.1.1, 21, .inl (fun _ => 0))), (q6, .inl (g.2.1.1, 1200, .inl (fun _ => 0))), (q7, .inl (g.2.1.1, 6, .inl (fun _ => 0))), (q8, .inl (g.2.1.1, 95, .inl f79))] H := hP
  have hD : va_D A [(h0, .inr (9, [.ref q1, .ref q2, .ref q3, .ref q4, .ref q5, .int 0, .int 1, .int 0, .ref q6, .int 0, .ref q7, .int 0, .int (-1), .int 0, .int 0, .int 0, .int 0, .int (-1), .null, .null, .int 0, .null, .null, .null, .null, .null, .null, .null, .null, .null, .null, .int 0, .null, .null, .int 0, .null, .null])), (q2, .inl (g.2.1.1, 103, .inl (fun _ => 0))), (q4, .inl (g.2.1.1, 21, .inl (fun _ => 0))), (q6, .inl (g.2.1.1, 1200, .inl (fun _ => 0))), (q7, .inl (g.2.1.1, 6, .inl (fun _ => 0))), (q8, .inl (g.2.1.1, 95, .inl f79))] := hD
  refine lv_dup hx hb dX9_init_516 rfl ?_
  refine lv_bipush (v := 71) hx hb dX9_init_517 (by decide) ?_
  refine lv_bipush (v := 23) hx hb dX9_init_519 (by decide) ?_
  refine va_iast hx hb hX.1 hP hD hS 5 0 rfl rfl (vp_in_iff.mpr (by decide)) dX9_init_521 (fun H locs hP hD hS => ?_)
  obtain ⟨f80, ef80⟩ : ∃ z : Nat → Int32, z = upd f79 (71 : Int32).toNatClampNeg 23 := ⟨_, rfl⟩
  rw [← ef80] at hP hD
  have hP : va_P g.1 vwCl [(h0, .inr (9, [.ref q1, .ref q2, .ref q3, .ref q4, .ref q5, .int 0, .int 1, .int 0, .ref q6, .int 0, .ref q7, .int 0, .int (-1), .int 0, .int 0, .int 0, .int 0, .int (-1), .null, .null, .int 0, .null, .null, .null, .null, .null, .null, .null, .null, .null, .null, .int 0, .null, .null, .int 0, .null, .null])), (q2, .inl (g.2.1.1, 103, .inl (fun _ => 0))), (q4, .inl (g.2.1.1, 21, .inl (fun _ => 0))), (q6, .inl (g.2.1.1, 1200, .inl (fun _ => 0))), (q7, .inl (g.2.1.1, 6, .inl (fun _ => 0))), (q8, .inl (g.2.1.1, 95, .inl f80))] H := hP
  have hD : va_D A [(h0, .inr (9, [.ref q1, .ref q2, .ref q3, .ref q4, .ref q5, .int 0, .int 1, .int 0, .ref q6, .int 0, .ref q7, .int 0, .int (-1), .int 0, .int 0, .int 0, .int 0, .int (-1), .null, .null, .int 0, .null, .null, .null, .null, .null, .null, .null, .null, .null, .null, .int 0, .null, .null, .int 0, .null, .null])), (q2, .inl (g.2.1.1, 103, .inl (fun _ => 0))), (q4, .inl (g.2.1.1, 21, .inl (fun _ => 0))), (q6, .inl (g.2.1.1, 1200, .inl (fun _ => 0))), (q7, .inl (g.2.1.1, 6, .inl (fun _ => 0))), (q8, .inl (g.2.1.1, 95, .inl f80))] := hD
  refine lv_dup hx hb dX9_init_522 rfl ?_
  refine lv_bipush (v := 72) hx hb dX9_init_523 (by decide) ?_
  refine lv_bipush (v := 9) hx hb dX9_init_525 (by decide) ?_
  refine va_iast hx hb hX.1 hP hD hS 5 0 rfl rfl (vp_in_iff.mpr (by decide)) dX9_init_527 (fun H locs hP hD hS => ?_)
  obtain ⟨f81, ef81⟩ : ∃ z : Nat → Int32, z = upd f80 (72 : Int32).toNatClampNeg 9 := ⟨_, rfl⟩
  rw [← ef81] at hP hD
  have hP : va_P g.1 vwCl [(h0, .inr (9, [.ref q1, .ref q2, .ref q3, .ref q4, .ref q5, .int 0, .int 1, .int 0, .ref q6, .int 0, .ref q7, .int 0, .int (-1), .int 0, .int 0, .int 0, .int 0, .int (-1), .null, .null, .int 0, .null, .null, .null, .null, .null, .null, .null, .null, .null, .null, .int 0, .null, .null, .int 0, .null, .null])), (q2, .inl (g.2.1.1, 103, .inl (fun _ => 0))), (q4, .inl (g.2.1.1, 21, .inl (fun _ => 0))), (q6, .inl (g.2.1.1, 1200, .inl (fun _ => 0))), (q7, .inl (g.2.1.1, 6, .inl (fun _ => 0))), (q8, .inl (g.2.1.1, 95, .inl f81))] H := hP
  have hD : va_D A [(h0, .inr (9, [.ref q1, .ref q2, .ref q3, .ref q4, .ref q5, .int 0, .int 1, .int 0, .ref q6, .int 0, .ref q7, .int 0, .int (-1), .int 0, .int 0, .int 0, .int 0, .int (-1), .null, .null, .int 0, .null, .null, .null, .null, .null, .null, .null, .null, .null, .null, .int 0, .null, .null, .int 0, .null, .null])), (q2, .inl (g.2.1.1, 103, .inl (fun _ => 0))), (q4, .inl (g.2.1.1, 21, .inl (fun _ => 0))), (q6, .inl (g.2.1.1, 1200, .inl (fun _ => 0))), (q7, .inl (g.2.1.1, 6, .inl (fun _ => 0))), (q8, .inl (g.2.1.1, 95, .inl f81))] := hD
  refine lv_dup hx hb dX9_init_528 rfl ?_
  refine lv_bipush (v := 73) hx hb dX9_init_529 (by decide) ?_
  refine lv_iconst (v := 4) hx hb dX9_init_531 (by decide) ?_
  refine va_iast hx hb hX.1 hP hD hS 5 0 rfl rfl (vp_in_iff.mpr (by decide)) dX9_init_532 (fun H locs hP hD hS => ?_)
  obtain ⟨f82, ef82⟩ : ∃ z : Nat → Int32, z = upd f81 (73 : Int32).toNatClampNeg 4 := ⟨_, rfl⟩
  rw [← ef82] at hP hD
  have hP : va_P g.1 vwCl [(h0, .inr (9, [.ref q1, .ref q2, .ref q3, .ref q4, .ref q5, .int 0, .int 1, .int 0, .ref q6, .int 0, .ref q7, .int 0, .int (-1), .int 0, .int 0, .int 0, .int 0, .int (-1), .null, .null, .int 0, .null, .null, .null, .null, .null, .null, .null, .null, .null, .null, .int 0, .null, .null, .int 0, .null, .null])), (q2, .inl (g.2.1.1, 103, .inl (fun _ => 0))), (q4, .inl (g.2.1.1, 21, .inl (fun _ => 0))), (q6, .inl (g.2.1.1, 1200, .inl (fun _ => 0))), (q7, .inl (g.2.1.1, 6, .inl (fun _ => 0))), (q8, .inl (g.2.1.1, 95, .inl f82))] H := hP
  have hD : va_D A [(h0, .inr (9, [.ref q1, .ref q2, .ref q3, .ref q4, .ref q5, .int 0, .int 1, .int 0, .ref q6, .int 0, .ref q7, .int 0, .int (-1), .int 0, .int 0, .int 0, .int 0, .int (-1), .null, .null, .int 0, .null, .null, .null, .null, .null, .null, .null, .null, .null, .null, .int 0, .null, .null, .int 0, .null, .null])), (q2, .inl (g.2.1.1, 103, .inl (fun _ => 0))), (q4, .inl (g.2.1.1, 21, .inl (fun _ => 0))), (q6, .inl (g.2.1.1, 1200, .inl (fun _ => 0))), (q7, .inl (g.2.1.1, 6, .inl (fun _ => 0))), (q8, .inl (g.2.1.1, 95, .inl f82))] := hD
  refine lv_dup hx hb dX9_init_533 rfl ?_
  refine lv_bipush (v := 74) hx hb dX9_init_534 (by decide) ?_
  refine lv_iconst (v := 5) hx hb dX9_init_536 (by decide) ?_
  refine va_iast hx hb hX.1 hP hD hS 5 0 rfl rfl (vp_in_iff.mpr (by decide)) dX9_init_537 (fun H locs hP hD hS => ?_)
  obtain ⟨f83, ef83⟩ : ∃ z : Nat → Int32, z = upd f82 (74 : Int32).toNatClampNeg 5 := ⟨_, rfl⟩
  rw [← ef83] at hP hD
  have hP : va_P g.1 vwCl [(h0, .inr (9, [.ref q1, .ref q2, .ref q3, .ref q4, .ref q5, .int 0, .int 1, .int 0, .ref q6, .int 0, .ref q7, .int 0, .int (-1), .int 0, .int 0, .int 0, .int 0, .int (-1), .null, .null, .int 0, .null, .null, .null, .null, .null, .null, .null, .null, .null, .null, .int 0, .null, .null, .int 0, .null, .null])), (q2, .inl (g.2.1.1, 103, .inl (fun _ => 0))), (q4, .inl (g.2.1.1, 21, .inl (fun _ => 0))), (q6, .inl (g.2.1.1, 1200, .inl (fun _ => 0))), (q7, .inl (g.2.1.1, 6, .inl (fun _ => 0))), (q8, .inl (g.2.1.1, 95, .inl f83))] H := hP
  have hD : va_D A [(h0, .inr (9, [.ref q1, .ref q2, .ref q3, .ref q4, .ref q5, .int 0, .int 1, .int 0, .ref q6, .int 0, .ref q7, .int 0, .int (-1), .int 0, .int 0, .int 0, .int 0, .int (-1), .null, .null, .int 0, .null, .null, .null, .null, .null, .null, .null, .null, .null, .null, .int 0, .null, .null, .int 0, .null, .null])), (q2, .inl (g.2.1.1, 103, .inl (fun _ => 0))), (q4, .inl (g.2.1.1, 21, .inl (fun _ => 0))), (q6, .inl (g.2.1.1, 1200, .inl (fun _ => 0))), (q7, .inl (g.2.1.1, 6, .inl (fun _ => 0))), (q8, .inl (g.2.1.1, 95, .inl f83))] := hD
  refine lv_dup hx hb dX9_init_538 rfl ?_
  refine lv_bipush (v := 75) hx hb dX9_init_539 (by decide) ?_
  refine lv_iconst (v := 0) hx hb dX9_init_541 (by decide) ?_
  refine va_iast hx hb hX.1 hP hD hS 5 0 rfl rfl (vp_in_iff.mpr (by decide)) dX9_init_542 (fun H locs hP hD hS => ?_)
  obtain ⟨f84, ef84⟩ : ∃ z : Nat → Int32, z = upd f83 (75 : Int32).toNatClampNeg 0 := ⟨_, rfl⟩
  rw [← ef84] at hP hD
  have hP : va_P g.1 vwCl [(h0, .inr (9, [.ref q1, .ref q2, .ref q3, .ref q4, .ref q5, .int 0, .int 1, .int 0, .ref q6, .int 0, .ref q7, .int 0, .int (-1), .int 0, .int 0, .int 0, .int 0, .int (-1), .null, .null, .int 0, .null, .null, .null, .null, .null, .null, .null, .null, .null, .null, .int 0, .null, .null, .int 0, .null, .null])), (q2, .inl (g.2.1.1, 103, .inl (fun _ => 0))), (q4, .inl (g.2.1.1, 21, .inl (fun _ => 0))), (q6, .inl (g.2.1.1, 1200, .inl (fun _ => 0))), (q7, .inl (g.2.1.1, 6, .inl (fun _ => 0))), (q8, .inl (g.2.1.1, 95, .inl f84))] H := hP
  have hD : va_D A [(h0, .inr (9, [.ref q1, .ref q2, .ref q3, .ref q4, .ref q5, .int 0, .int 1, .int 0, .ref q6, .int 0, .ref q7, .int 0, .int (-1), .int 0, .int 0, .int 0, .int 0, .int (-1), .null, .null, .int 0, .null, .null, .null, .null, .null, .null, .null, .null, .null, .null, .int 0, .null, .null, .int 0, .null, .null])), (q2, .inl (g.2.1.1, 103, .inl (fun _ => 0))), (q4, .inl (g.2.1.1, 21, .inl (fun _ => 0))), (q6, .inl (g.2.1.1, 1200, .inl (fun _ => 0))), (q7, .inl (g.2.1.1, 6, .inl (fun _ => 0))), (q8, .inl (g.2.1.1, 95, .inl f84))] := hD
  refine lv_dup hx hb dX9_init_543 rfl ?_
  refine lv_bipush (v := 76) hx hb dX9_init_544 (by decide) ?_
  refine lv_bipush (v := 8) hx hb dX9_init_546 (by decide) ?_
  refine va_iast hx hb hX.1 hP hD hS 5 0 rfl rfl (vp_in_iff.mpr (by decide)) dX9_init_548 (fun H locs hP hD hS => ?_)
  obtain ⟨f85, ef85⟩ : ∃ z : Nat → Int32, z = upd f84 (76 : Int32).toNatClampNeg 8 := ⟨_, rfl⟩
  rw [← ef85] at hP hD
  have hP : va_P g.1 vwCl [(h0, .inr (9, [.ref q1, .ref q2, .ref q3, .ref q4, .ref q5, .int 0, .int 1, .int 0, .ref q6, .int 0, .ref q7, .int 0, .int (-1), .int 0, .int 0, .int 0, .int 0, .int (-1), .null, .null, .int 0, .null, .null, .null, .null, .null, .null, .null, .null, .null, .null, .int 0, .null, .null, .int 0, .null, .null])), (q2, .inl (g.2.1.1, 103, .inl (fun _ => 0))), (q4, .inl (g.2.1.1, 21, .inl (fun _ => 0))), (q6, .inl (g.2.1.1, 1200, .inl (fun _ => 0))), (q7, .inl (g.2.1.1, 6, .inl (fun _ => 0))), (q8, .inl (g.2.1.1, 95, .inl f85))] H := hP
  have hD : va_D A [(h0, .inr (9, [.ref q1, .ref q2, .ref q3, .ref q4, .ref q5, .int 0, .int 1, .int 0, .ref q6, .int 0, .ref q7, .int 0, .int (-1), .int 0, .int 0, .int 0, .int 0, .int (-1), .null, .null, .int 0, .null, .null, .null, .null, .null, .null, .null, .null, .null, .null, .int 0, .null, .null, .int 0, .null, .null])), (q2, .inl (g.2.1.1, 103, .inl (fun _ => 0))), (q4, .inl (g.2.1.1, 21, .inl (fun _ => 0))), (q6, .inl (g.2.1.1, 1200, .inl (fun _ => 0))), (q7, .inl (g.2.1.1, 6, .inl (fun _ => 0))), (q8, .inl (g.2.1.1, 95, .inl f85))] := hD
  refine lv_dup hx hb dX9_init_549 rfl ?_
  refine lv_bipush (v := 77) hx hb dX9_init_550 (by decide) ?_
  refine lv_bipush (v := 9) hx hb dX9_init_552 (by decide) ?_
  refine va_iast hx hb hX.1 hP hD hS 5 0 rfl rfl (vp_in_iff.mpr (by decide)) dX9_init_554 (fun H locs hP hD hS => ?_)
  obtain ⟨f86, ef86⟩ : ∃ z : Nat → Int32, z = upd f85 (77 : Int32).toNatClampNeg 9 := ⟨_, rfl⟩
  rw [← ef86] at hP hD
  have hP : va_P g.1 vwCl [(h0, .inr (9, [.ref q1, .ref q2, .ref q3, .ref q4, .ref q5, .int 0, .int 1, .int 0, .ref q6, .int 0, .ref q7, .int 0, .int (-1), .int 0, .int 0, .int 0, .int 0, .int (-1), .null, .null, .int 0, .null, .null, .null, .null, .null, .null, .null, .null, .null, .null, .int 0, .null, .null, .int 0, .null, .null])), (q2, .inl (g.2.1.1, 103, .inl (fun _ => 0))), (q4, .inl (g.2.1.1, 21, .inl (fun _ => 0))), (q6, .inl (g.2.1.1, 1200, .inl (fun _ => 0))), (q7, .inl (g.2.1.1, 6, .inl (fun _ => 0))), (q8, .inl (g.2.1.1, 95, .inl f86))] H := hP
  have hD : va_D A [(h0, .inr (9, [.ref q1, .ref q2, .ref q3, .ref q4, .ref q5, .int 0, .int 1, .int 0, .ref q6, .int 0, .ref q7, .int 0, .int (-1), .int 0, .int 0, .int 0, .int 0, .int (-1), .null, .null, .int 0, .null, .null, .null, .null, .null, .null, .null, .null, .null, .null, .int 0, .null, .null, .int 0, .null, .null])), (q2, .inl (g.2.1.1, 103, .inl (fun _ => 0))), (q4, .inl (g.2.1.1, 21, .inl (fun _ => 0))), (q6, .inl (g.2.1.1, 1200, .inl (fun _ => 0))), (q7, .inl (g.2.1.1, 6, .inl (fun _ => 0))), (q8, .inl (g.2.1.1, 95, .inl f86))] := hD
  refine lv_dup hx hb dX9_init_555 rfl ?_
  refine lv_bipush (v := 78) hx hb dX9_init_556 (by decide) ?_
  refine lv_bipush (v := 7) hx hb dX9_init_558 (by decide) ?_
  refine va_iast hx hb hX.1 hP hD hS 5 0 rfl rfl (vp_in_iff.mpr (by decide)) dX9_init_560 (fun H locs hP hD hS => ?_)
  obtain ⟨f87, ef87⟩ : ∃ z : Nat → Int32, z = upd f86 (78 : Int32).toNatClampNeg 7 := ⟨_, rfl⟩
  rw [← ef87] at hP hD
  have hP : va_P g.1 vwCl [(h0, .inr (9, [.ref q1, .ref q2, .ref q3, .ref q4, .ref q5, .int 0, .int 1, .int 0, .ref q6, .int 0, .ref q7, .int 0, .int (-1), .int 0, .int 0, .int 0, .int 0, .int (-1), .null, .null, .int 0, .null, .null, .null, .null, .null, .null, .null, .null, .null, .null, .int 0, .null, .null, .int 0, .null, .null])), (q2, .inl (g.2.1.1, 103, .inl (fun _ => 0))), (q4, .inl (g.2.1.1, 21, .inl (fun _ => 0))), (q6, .inl (g.2.1.1, 1200, .inl (fun _ => 0))), (q7, .inl (g.2.1.1, 6, .inl (fun _ => 0))), (q8, .inl (g.2.1.1, 95, .inl f87))] H := hP
  have hD : va_D A [(h0, .inr (9, [.ref q1, .ref q2, .ref q3, .ref q4, .ref q5, .int 0, .int 1, .int 0, .ref q6, .int 0, .ref q7, .int 0, .int (-1), .int 0, .int 0, .int 0, .int 0, .int (-1), .null, .null, .int 0, .null, .null, .null, .null, .null, .null, .null, .null, .null, .null, .int 0, .null, .null, .int 0, .null, .null])), (q2, .inl (g.2.1.1, 103, .inl (fun _ => 0))), (q4, .inl (g.2.1.1, 21, .inl (fun _ => 0))), (q6, .inl (g.2.1.1, 1200, .inl (fun _ => 0))), (q7, .inl (g.2.1.1, 6, .inl (fun _ => 0))), (q8, .inl (g.2.1.1, 95, .inl f87))] := hD
  refine lv_dup hx hb dX9_init_561 rfl ?_
  refine lv_bipush (v := 79) hx hb dX9_init_562 (by decide) ?_
  refine lv_bipush (v := 8) hx hb dX9_init_564 (by decide) ?_
  refine va_iast hx hb hX.1 hP hD hS 5 0 rfl rfl (vp_in_iff.mpr (by decide)) dX9_init_566 (fun H locs hP hD hS => ?_)
  obtain ⟨f88, ef88⟩ : ∃ z : Nat → Int32, z = upd f87 (79 : Int32).toNatClampNeg 8 := ⟨_, rfl⟩
  rw [← ef88] at hP hD
  have hP : va_P g.1 vwCl [(h0, .inr (9, [.ref q1, .ref q2, .ref q3, .ref q4, .ref q5, .int 0, .int 1, .int 0, .ref q6, .int 0, .ref q7, .int 0, .int (-1), .int 0, .int 0, .int 0, .int 0, .int (-1), .null, .null, .int 0, .null, .null, .null, .null, .null, .null, .null, .null, .null, .null, .int 0, .null, .null, .int 0, .null, .null])), (q2, .inl (g.2.1.1, 103, .inl (fun _ => 0))), (q4, .inl (g.2.1.1, 21, .inl (fun _ => 0))), (q6, .inl (g.2.1.1, 1200, .inl (fun _ => 0))), (q7, .inl (g.2.1.1, 6, .inl (fun _ => 0))), (q8, .inl (g.2.1.1, 95, .inl f88))] H := hP
  have hD : va_D A [(h0, .inr (9, [.ref q1, .ref q2, .ref q3, .ref q4, .ref q5, .int 0, .int 1, .int 0, .ref q6, .int 0, .ref q7, .int 0, .int (-1), .int 0, .int 0, .int 0, .int 0, .int (-1), .null, .null, .int 0, .null, .null, .null, .null, .null, .null, .null, .null, .null, .null, .int 0, .null, .null, .int 0, .null, .null])), (q2, .inl (g.2.1.1, 103, .inl (fun _ => 0))), (q4, .inl (g.2.1.1, 21, .inl (fun _ => 0))), (q6, .inl (g.2.1.1, 1200, .inl (fun _ => 0))), (q7, .inl (g.2.1.1, 6, .inl (fun _ => 0))), (q8, .inl (g.2.1.1, 95, .inl f88))] := hD
  refine lv_dup hx hb dX9_init_567 rfl ?_
  refine lv_bipush (v := 80) hx hb dX9_init_568 (by decide) ?_
  refine lv_iconst (v := 0) hx hb dX9_init_570 (by decide) ?_
  refine va_iast hx hb hX.1 hP hD hS 5 0 rfl rfl (vp_in_iff.mpr (by decide)) dX9_init_571 (fun H locs hP hD hS => ?_)
  obtain ⟨f89, ef89⟩ : ∃ z : Nat → Int32, z = upd f88 (80 : Int32).toNatClampNeg 0 := ⟨_, rfl⟩
  rw [← ef89] at hP hD
  have hP : va_P g.1 vwCl [(h0, .inr (9, [.ref q1, .ref q2, .ref q3, .ref q4, .ref q5, .int 0, .int 1, .int 0, .ref q6, .int 0, .ref q7, .int 0, .int (-1), .int 0, .int 0, .int 0, .int 0, .int (-1), .null, .null, .int 0, .null, .null, .null, .null, .null, .null, .null, .null, .null, .null, .int 0, .null, .null, .int 0, .null, .null])), (q2, .inl (g.2.1.1, 103, .inl (fun _ => 0))), (q4, .inl (g.2.1.1, 21, .inl (fun _ => 0))), (q6, .inl (g.2.1.1, 1200, .inl (fun _ => 0))), (q7, .inl (g.2.1.1, 6, .inl (fun _ => 0))), (q8, .inl (g.2.1.1, 95, .inl f89))] H := hP
  have hD : va_D A [(h0, .inr (9, [.ref q1, .ref q2, .ref q3, .ref q4, .ref q5, .int 0, .int 1, .int 0, .ref q6, .int 0, .ref q7, .int 0, .int (-1), .int 0, .int 0, .int 0, .int 0, .int (-1), .null, .null, .int 0, .null, .null, .null, .null, .null, .null, .null, .null, .null, .null, .int 0, .null, .null, .int 0, .null, .null])), (q2, .inl (g.2.1.1, 103, .inl (fun _ => 0))), (q4, .inl (g.2.1.1, 21, .inl (fun _ => 0))), (q6, .inl (g.2.1.1, 1200, .inl (fun _ => 0))), (q7, .inl (g.2.1.1, 6, .inl (fun _ => 0))), (q8, .inl (g.2.1.1, 95, .inl f89))] := hD
  refine lv_dup hx hb dX9_init_572 rfl ?_
  refine lv_bipush (v := 81) hx hb dX9_init_573 (by decide) ?_
  refine lv_bipush (v := 21) hx hb dX9_init_575 (by decide) ?_
  refine va_iast hx hb hX.1 hP hD hS 5 0 rfl rfl (vp_in_iff.mpr (by decide)) dX9_init_577 (fun H locs hP hD hS => ?_)
  obtain ⟨f90, ef90⟩ : ∃ z : Nat → Int32, z = upd f89 (81 : Int32).toNatClampNeg 21 := ⟨_, rfl⟩
  rw [← ef90] at hP hD
  have hP : va_P g.1 vwCl [(h0, .inr (9, [.ref q1, .ref q2, .ref q3, .ref q4, .ref q5, .int 0, .int 1, .int 0, .ref q6, .int 0, .ref q7, .int 0, .int (-1), .int 0, .int 0, .int 0, .int 0, .int (-1), .null, .null, .int 0, .null, .null, .null, .null, .null, .null, .null, .null, .null, .null, .int 0, .null, .null, .int 0, .null, .null])), (q2, .inl (g.2.1.1, 103, .inl (fun _ => 0))), (q4, .inl (g.2.1.1, 21, .inl (fun _ => 0))), (q6, .inl (g.2.1.1, 1200, .inl (fun _ => 0))), (q7, .inl (g.2.1.1, 6, .inl (fun _ => 0))), (q8, .inl (g.2.1.1, 95, .inl f90))] H := hP
  have hD : va_D A [(h0, .inr (9, [.ref q1, .ref q2, .ref q3, .ref q4, .ref q5, .int 0, .int 1, .int 0, .ref q6, .int 0, .ref q7, .int 0, .int (-1), .int 0, .int 0, .int 0, .int 0, .int (-1), .null, .null, .int 0, .null, .null, .null, .null, .null, .null, .null, .null, .null, .null, .int 0, .null, .null, .int 0, .null, .null])), (q2, .inl (g.2.1.1, 103, .inl (fun _ => 0))), (q4, .inl (g.2.1.1, 21, .inl (fun _ => 0))), (q6, .inl (g.2.1.1, 1200, .inl (fun _ => 0))), (q7, .inl (g.2.1.1, 6, .inl (fun _ => 0))), (q8, .inl (g.2.1.1, 95, .inl f90))] := hD
  refine lv_dup hx hb dX9_init_578 rfl ?_
  refine lv_bipush (v := 82) hx hb dX9_init_579 (by decide) ?_
  refine lv_bipush (v := 16) hx hb dX9_init_581 (by decide) ?_
  refine va_iast hx hb hX.1 hP hD hS 5 0 rfl rfl (vp_in_iff.mpr (by decide)) dX9_init_583 (fun H locs hP hD hS => ?_)
  obtain ⟨f91, ef91⟩ : ∃ z : Nat → Int32, z = upd f90 (82 : Int32).toNatClampNeg 16 := ⟨_, rfl⟩
  rw [← ef91] at hP hD
  have hP : va_P g.1 vwCl [(h0, .inr (9, [.ref q1, .ref q2, .ref q3, .ref q4, .ref q5, .int 0, .int 1, .int 0, .ref q6, .int 0, .ref q7, .int 0, .int (-1), .int 0, .int 0, .int 0, .int 0, .int (-1), .null, .null, .int 0, .null, .null, .null, .null, .null, .null, .null, .null, .null, .null, .int 0, .null, .null, .int 0, .null, .null])), (q2, .inl (g.2.1.1, 103, .inl (fun _ => 0))), (q4, .inl (g.2.1.1, 21, .inl (fun _ => 0))), (q6, .inl (g.2.1.1, 1200, .inl (fun _ => 0))), (q7, .inl (g.2.1.1, 6, .inl (fun _ => 0))), (q8, .inl (g.2.1.1, 95, .inl f91))] H := hP
  have hD : va_D A [(h0, .inr (9, [.ref q1, .ref q2, .ref q3, .ref q4, .ref q5, .int 0, .int 1, .int 0, .ref q6, .int 0, .ref q7, .int 0, .int (-1), .int 0, .int 0, .int 0, .int 0, .int (-1), .null, .null, .int 0, .null, .null, .null, .null, .null, .null, .null, .null, .null, .null, .int 0, .null, .null, .int 0, .null, .null])), (q2, .inl (g.2.1.1, 103, .inl (fun _ => 0))), (q4, .inl (g.2.1.1, 21, .inl (fun _ => 0))), (q6, .inl (g.2.1.1, 1200, .inl (fun _ => 0))), (q7, .inl (g.2.1.1, 6, .inl (fun _ => 0))), (q8, .inl (g.2.1.1, 95, .inl f91))] := hD
  refine lv_dup hx hb dX9_init_584 rfl ?_
  refine lv_bipush (v := 83) hx hb dX9_init_585 (by decide) ?_
  refine lv_iconst (v := 0) hx hb dX9_init_587 (by decide) ?_
  refine va_iast hx hb hX.1 hP hD hS 5 0 rfl rfl (vp_in_iff.mpr (by decide)) dX9_init_588 (fun H locs hP hD hS => ?_)
  obtain ⟨f92, ef92⟩ : ∃ z : Nat → Int32, z = upd f91 (83 : Int32).toNatClampNeg 0 := ⟨_, rfl⟩
  rw [← ef92] at hP hD
  have hP : va_P g.1 vwCl [(h0, .inr (9, [.ref q1, .ref q2, .ref q3, .ref q4, .ref q5, .int 0, .int 1, .int 0, .ref q6, .int 0, .ref q7, .int 0, .int (-1), .int 0, .int 0, .int 0, .int 0, .int (-1), .null, .null, .int 0, .null, .null, .null, .null, .null, .null, .null, .null, .null, .null, .int 0, .null, .null, .int 0, .null, .null])), (q2, .inl (g.2.1.1, 103, .inl (fun _ => 0))), (q4, .inl (g.2.1.1, 21, .inl (fun _ => 0))), (q6, .inl (g.2.1.1, 1200, .inl (fun _ => 0))), (q7, .inl (g.2.1.1, 6, .inl (fun _ => 0))), (q8, .inl (g.2.1.1, 95, .inl f92))] H := hP
  have hD : va_D A [(h0, .inr (9, [.ref q1, .ref q2, .ref q3, .ref q4, .ref q5, .int 0, .int 1, .int 0, .ref q6, .int 0, .ref q7, .int 0, .int (-1), .int 0, .int 0, .int 0, .int 0, .int (-1), .null, .null, .int 0, .null, .null, .null, .null, .null, .null, .null, .null, .null, .null, .int 0, .null, .null, .int 0, .null, .null])), (q2, .inl (g.2.1.1, 103, .inl (fun _ => 0))), (q4, .inl (g.2.1.1, 21, .inl (fun _ => 0))), (q6, .inl (g.2.1.1, 1200, .inl (fun _ => 0))), (q7, .inl (g.2.1.1, 6, .inl (fun _ => 0))), (q8, .inl (g.2.1.1, 95, .inl f92))] := hD
  refine lv_dup hx hb dX9_init_589 rfl ?_
  refine lv_bipush (v := 84) hx hb dX9_init_590 (by decide) ?_
  refine lv_iconst (v := 4) hx hb dX9_init_592 (by decide) ?_
  refine va_iast hx hb hX.1 hP hD hS 5 0 rfl rfl (vp_in_iff.mpr (by decide)) dX9_init_593 (fun H locs hP hD hS => ?_)
  obtain ⟨f93, ef93⟩ : ∃ z : Nat → Int32, z = upd f92 (84 : Int32).toNatClampNeg 4 := ⟨_, rfl⟩
  rw [← ef93] at hP hD
  have hP : va_P g.1 vwCl [(h0, .inr (9, [.ref q1, .ref q2, .ref q3, .ref q4, .ref q5, .int 0, .int 1, .int 0, .ref q6, .int 0, .ref q7, .int 0, .int (-1), .int 0, .int 0, .int 0, .int 0, .int (-1), .null, .null, .int 0, .null, .null, .null, .null, .null, .null, .null, .null, .null, .null, .int 0, .null, .null, .int 0, .null, .null])), (q2, .inl (g.2.1.1, 103, .inl (fun _ => 0))), (q4, .inl (g.2.1.1, 21, .inl (fun _ => 0))), (q6, .inl (g.2.1.1, 1200, .inl (fun _ => 0))), (q7, .inl (g.2.1.1, 6, .inl (fun _ => 0))), (q8, .inl (g.2.1.1, 95, .inl f93))] H := hP
  have hD : va_D A [(h0, .inr (9, [.ref q1, .ref q2, .ref q3, .ref q4, .ref q5, .int 0, .int 1, .int 0, .ref q6, .int 0, .ref q7, .int 0, .int (-1), .int 0, .int 0, .int 0, .int 0, .int (-1), .null, .null, .int 0, .null, .null, .null, .null, .null, .null, .null, .null, .null, .null, .int 0, .null, .null, .int 0, .null, .null])), (q2, .inl (g.2.1.1, 103, .inl (fun _ => 0))), (q4, .inl (g.2.1.1, 21, .inl (fun _ => 0))), (q6, .inl (g.2.1.1, 1200, .inl (fun _ => 0))), (q7, .inl (g.2.1.1, 6, .inl (fun _ => 0))), (q8, .inl (g.2.1.1, 95, .inl f93))] := hD
  refine lv_dup hx hb dX9_init_594 rfl ?_
  refine lv_bipush (v := 85) hx hb dX9_init_595 (by decide) ?_
  refine lv_bipush (v := 15) hx hb dX9_init_597 (by decide) ?_
  refine va_iast hx hb hX.1 hP hD hS 5 0 rfl rfl (vp_in_iff.mpr (by decide)) dX9_init_599 (fun H locs hP hD hS => ?_)
  obtain ⟨f94, ef94⟩ : ∃ z : Nat → Int32, z = upd f93 (85 : Int32).toNatClampNeg 15 := ⟨_, rfl⟩
  rw [← ef94] at hP hD
  have hP : va_P g.1 vwCl [(h0, .inr (9, [.ref q1, .ref q2, .ref q3, .ref q4, .ref q5, .int 0, .int 1, .int 0, .ref q6, .int 0, .ref q7, .int 0, .int (-1), .int 0, .int 0, .int 0, .int 0, .int (-1), .null, .null, .int 0, .null, .null, .null, .null, .null, .null, .null, .null, .null, .null, .int 0, .null, .null, .int 0, .null, .null])), (q2, .inl (g.2.1.1, 103, .inl (fun _ => 0))), (q4, .inl (g.2.1.1, 21, .inl (fun _ => 0))), (q6, .inl (g.2.1.1, 1200, .inl (fun _ => 0))), (q7, .inl (g.2.1.1, 6, .inl (fun _ => 0))), (q8, .inl (g.2.1.1, 95, .inl f94))] H := hP
  have hD : va_D A [(h0, .inr (9, [.ref q1, .ref q2, .ref q3, .ref q4, .ref q5, .int 0, .int 1, .int 0, .ref q6, .int 0, .ref q7, .int 0, .int (-1), .int 0, .int 0, .int 0, .int 0, .int (-1), .null, .null, .int 0, .null, .null, .null, .null, .null, .null, .null, .null, .null, .null, .int 0, .null, .null, .int 0, .null, .null])), (q2, .inl (g.2.1.1, 103, .inl (fun _ => 0))), (q4, .inl (g.2.1.1, 21, .inl (fun _ => 0))), (q6, .inl (g.2.1.1, 1200, .inl (fun _ => 0))), (q7, .inl (g.2.1.1, 6, .inl (fun _ => 0))), (q8, .inl (g.2.1.1, 95, .inl f94))] := hD
  refine lv_dup hx hb dX9_init_600 rfl ?_
  refine lv_bipush (v := 86) hx hb dX9_init_601 (by decide) ?_
  refine lv_bipush (v := 23) hx hb dX9_init_603 (by decide) ?_
  refine va_iast hx hb hX.1 hP hD hS 5 0 rfl rfl (vp_in_iff.mpr (by decide)) dX9_init_605 (fun H locs hP hD hS => ?_)
  obtain ⟨f95, ef95⟩ : ∃ z : Nat → Int32, z = upd f94 (86 : Int32).toNatClampNeg 23 := ⟨_, rfl⟩
  rw [← ef95] at hP hD
  have hP : va_P g.1 vwCl [(h0, .inr (9, [.ref q1, .ref q2, .ref q3, .ref q4, .ref q5, .int 0, .int 1, .int 0, .ref q6, .int 0, .ref q7, .int 0, .int (-1), .int 0, .int 0, .int 0, .int 0, .int (-1), .null, .null, .int 0, .null, .null, .null, .null, .null, .null, .null, .null, .null, .null, .int 0, .null, .null, .int 0, .null, .null])), (q2, .inl (g.2.1.1, 103, .inl (fun _ => 0))), (q4, .inl (g.2.1.1, 21, .inl (fun _ => 0))), (q6, .inl (g.2.1.1, 1200, .inl (fun _ => 0))), (q7, .inl (g.2.1.1, 6, .inl (fun _ => 0))), (q8, .inl (g.2.1.1, 95, .inl f95))] H := hP
  have hD : va_D A [(h0, .inr (9, [.ref q1, .ref q2, .ref q3, .ref q4, .ref q5, .int 0, .int 1, .int 0, .ref q6, .int 0, .ref q7, .int 0, .int (-1), .int 0, .int 0, .int 0, .int 0, .int (-1), .null, .null, .int 0, .null, .null, .null, .null, .null, .null, .null, .null, .null, .null, .int 0, .null, .null, .int 0, .null, .null])), (q2, .inl (g.2.1.1, 103, .inl (fun _ => 0))), (q4, .inl (g.2.1.1, 21, .inl (fun _ => 0))), (q6, .inl (g.2.1.1, 1200, .inl (fun _ => 0))), (q7, .inl (g.2.1.1, 6, .inl (fun _ => 0))), (q8, .inl (g.2.1.1, 95, .inl f95))] := hD
  refine lv_dup hx hb dX9_init_606 rfl ?_
  refine lv_bipush (v := 87) hx hb dX9_init_607 (by decide) ?_
  refine lv_bipush (v := 14) hx hb dX9_init_609 (by decide) ?_
  refine va_iast hx hb hX.1 hP hD hS 5 0 rfl rfl (vp_in_iff.mpr (by decide)) dX9_init_611 (fun H locs hP hD hS => ?_)
  obtain ⟨f96, ef96⟩ : ∃ z : Nat → Int32, z = upd f95 (87 : Int32).toNatClampNeg 14 := ⟨_, rfl⟩
  rw [← ef96] at hP hD
  have hP : va_P g.1 vwCl [(h0, .inr (9, [.ref q1, .ref q2, .ref q3, .ref q4, .ref q5, .int 0, .int 1, .int 0, .ref q6, .int 0, .ref q7, .int 0, .int (-1), .int 0, .int 0, .int 0, .int 0, .int (-1), .null, .null, .int 0, .null, .null, .null, .null, .null, .null, .null, .null, .null, .null, .int 0, .null, .null, .int 0, .null, .null])), (q2, .inl (g.2.1.1, 103, .inl (fun _ => 0))), (q4, .inl (g.2.1.1, 21, .inl (fun _ => 0))), (q6, .inl (g.2.1.1, 1200, .inl (fun _ => 0))), (q7, .inl (g.2.1.1, 6, .inl (fun _ => 0))), (q8, .inl (g.2.1.1, 95, .inl f96))] H := hP
  have hD : va_D A [(h0, .inr (9, [.ref q1, .ref q2, .ref q3, .ref q4, .ref q5, .int 0, .int 1, .int 0, .ref q6, .int 0, .ref q7, .int 0, .int (-1), .int 0, .int 0, .int 0, .int 0, .int (-1), .null, .null, .int 0, .null, .null, .null, .null, .null, .null, .null, .null, .null, .null, .int 0, .null, .null, .int 0, .null, .null])), (q2, .inl (g.2.1.1, 103, .inl (fun _ => 0))), (q4, .inl (g.2.1.1, 21, .inl (fun _ => 0))), (q6, .inl (g.2.1.1, 1200, .inl (fun _ => 0))), (q7, .inl (g.2.1.1, 6, .inl (fun _ => 0))), (q8, .inl (g.2.1.1, 95, .inl f96))] := hD
  refine lv_dup hx hb dX9_init_612 rfl ?_
  refine lv_bipush (v := 88) hx hb dX9_init_613 (by decide) ?_
  refine lv_iconst (v := 0) hx hb dX9_init_615 (by decide) ?_
  refine va_iast hx hb hX.1 hP hD hS 5 0 rfl rfl (vp_in_iff.mpr (by decide)) dX9_init_616 (fun H locs hP hD hS => ?_)
  obtain ⟨f97, ef97⟩ : ∃ z : Nat → Int32, z = upd f96 (88 : Int32).toNatClampNeg 0 := ⟨_, rfl⟩
  rw [← ef97] at hP hD
  have hP : va_P g.1 vwCl [(h0, .inr (9, [.ref q1, .ref q2, .ref q3, .ref q4, .ref q5, .int 0, .int 1, .int 0, .ref q6, .int 0, .ref q7, .int 0, .int (-1), .int 0, .int 0, .int 0, .int 0, .int (-1), .null, .null, .int 0, .null, .null, .null, .null, .null, .null, .null, .null, .null, .null, .int 0, .null, .null, .int 0, .null, .null])), (q2, .inl (g.2.1.1, 103, .inl (fun _ => 0))), (q4, .inl (g.2.1.1, 21, .inl (fun _ => 0))), (q6, .inl (g.2.1.1, 1200, .inl (fun _ => 0))), (q7, .inl (g.2.1.1, 6, .inl (fun _ => 0))), (q8, .inl (g.2.1.1, 95, .inl f97))] H := hP
  have hD : va_D A [(h0, .inr (9, [.ref q1, .ref q2, .ref q3, .ref q4, .ref q5, .int 0, .int 1, .int 0, .ref q6, .int 0, .ref q7, .int 0, .int (-1), .int 0, .int 0, .int 0, .int 0, .int (-1), .null, .null, .int 0, .null, .null, .null, .null, .null, .null, .null, .null, .null, .null, .int 0, .null, .null, .int 0, .null, .null])), (q2, .inl (g.2.1.1, 103, .inl (fun _ => 0))), (q4, .inl (g.2.1.1, 21, .inl (fun _ => 0))), (q6, .inl (g.2.1.1, 1200, .inl (fun _ => 0))), (q7, .inl (g.2.1.1, 6, .inl (fun _ => 0))), (q8, .inl (g.2.1.1, 95, .inl f97))] := hD
  refine lv_dup hx hb dX9_init_617 rfl ?_
  refine lv_bipush (v := 89) hx hb dX9_init_618 (by decide) ?_
  refine lv_bipush (v := 18) hx hb dX9_init_620 (by decide) ?_
  refine va_iast hx hb hX.1 hP hD hS 5 0 rfl rfl (vp_in_iff.mpr (by decide)) dX9_init_622 (fun H locs hP hD hS => ?_)
  obtain ⟨f98, ef98⟩ : ∃ z : Nat → Int32, z = upd f97 (89 : Int32).toNatClampNeg 18 := ⟨_, rfl⟩
  rw [← ef98] at hP hD
  have hP : va_P g.1 vwCl [(h0, .inr (9, [.ref q1, .ref q2, .ref q3, .ref q4, .ref q5, .int 0, .int 1, .int 0, .ref q6, .int 0, .ref q7, .int 0, .int (-1), .int 0, .int 0, .int 0, .int 0, .int (-1), .null, .null, .int 0, .null, .null, .null, .null, .null, .null, .null, .null, .null, .null, .int 0, .null, .null, .int 0, .null, .null])), (q2, .inl (g.2.1.1, 103, .inl (fun _ => 0))), (q4, .inl (g.2.1.1, 21, .inl (fun _ => 0))), (q6, .inl (g.2.1.1, 1200, .inl (fun _ => 0))), (q7, .inl (g.2.1.1, 6, .inl (fun _ => 0))), (q8, .inl (g.2.1.1, 95, .inl f98))] H := hP
  have hD : va_D A [(h0, .inr (9, [.ref q1, .ref q2, .ref q3, .ref q4, .ref q5, .int 0, .int 1, .int 0, .ref q6, .int 0, .ref q7, .int 0, .int (-1), .int 0, .int 0, .int 0, .int 0, .int (-1), .null, .null, .int 0, .null, .null, .null, .null, .null, .null, .null, .null, .null, .null, .int 0, .null, .null, .int 0, .null, .null])), (q2, .inl (g.2.1.1, 103, .inl (fun _ => 0))), (q4, .inl (g.2.1.1, 21, .inl (fun _ => 0))), (q6, .inl (g.2.1.1, 1200, .inl (fun _ => 0))), (q7, .inl (g.2.1.1, 6, .inl (fun _ => 0))), (q8, .inl (g.2.1.1, 95, .inl f98))] := hD
  refine lv_dup hx hb dX9_init_623 rfl ?_
  refine lv_bipush (v := 90) hx hb dX9_init_624 (by decide) ?_
  refine lv_bipush (v := 15) hx hb dX9_init_626 (by decide) ?_
  refine va_iast hx hb hX.1 hP hD hS 5 0 rfl rfl (vp_in_iff.mpr (by decide)) dX9_init_628 (fun H locs hP hD hS => ?_)
  obtain ⟨f99, ef99⟩ : ∃ z : Nat → Int32, z = upd f98 (90 : Int32).toNatClampNeg 15 := ⟨_, rfl⟩
  rw [← ef99] at hP hD
  have hP : va_P g.1 vwCl [(h0, .inr (9, [.ref q1, .ref q2, .ref q3, .ref q4, .ref q5, .int 0, .int 1, .int 0, .ref q6, .int 0, .ref q7, .int 0, .int (-1), .int 0, .int 0, .int 0, .int 0, .int (-1), .null, .null, .int 0, .null, .null, .null, .null, .null, .null, .null, .null, .null, .null, .int 0, .null, .null, .int 0, .null, .null])), (q2, .inl (g.2.1.1, 103, .inl (fun _ => 0))), (q4, .inl (g.2.1.1, 21, .inl (fun _ => 0))), (q6, .inl (g.2.1.1, 1200, .inl (fun _ => 0))), (q7, .inl (g.2.1.1, 6, .inl (fun _ => 0))), (q8, .inl (g.2.1.1, 95, .inl f99))] H := hP
  have hD : va_D A [(h0, .inr (9, [.ref q1, .ref q2, .ref q3, .ref q4, .ref q5, .int 0, .int 1, .int 0, .ref q6, .int 0, .ref q7, .int 0, .int (-1), .int 0, .int 0, .int 0, .int 0, .int (-1), .null, .null, .int 0, .null, .null, .null, .null, .null, .null, .null, .null, .null, .null, .int 0, .null, .null, .int 0, .null, .null])), (q2, .inl (g.2.1.1, 103, .inl (fun _ => 0))), (q4, .inl (g.2.1.1, 21, .inl (fun _ => 0))), (q6, .inl (g.2.1.1, 1200, .inl (fun _ => 0))), (q7, .inl (g.2.1.1, 6, .inl (fun _ => 0))), (q8, .inl (g.2.1.1, 95, .inl f99))] := hD
  refine lv_dup hx hb dX9_init_629 rfl ?_
  refine lv_bipush (v := 91) hx hb dX9_init_630 (by decide) ?_
  refine lv_bipush (v := 21) hx hb dX9_init_632 (by decide) ?_
  refine va_iast hx hb hX.1 hP hD hS 5 0 rfl rfl (vp_in_iff.mpr (by decide)) dX9_init_634 (fun H locs hP hD hS => ?_)
  obtain ⟨f100, ef100⟩ : ∃ z : Nat → Int32, z = upd f99 (91 : Int32).toNatClampNeg 21 := ⟨_, rfl⟩
  rw [← ef100] at hP hD
  have hP : va_P g.1 vwCl [(h0, .inr (9, [.ref q1, .ref q2, .ref q3, .ref q4, .ref q5, .int 0, .int 1, .int 0, .ref q6, .int 0, .ref q7, .int 0, .int (-1), .int 0, .int 0, .int 0, .int 0, .int (-1), .null, .null, .int 0, .null, .null, .null, .null, .null, .null, .null, .null, .null, .null, .int 0, .null, .null, .int 0, .null, .null])), (q2, .inl (g.2.1.1, 103, .inl (fun _ => 0))), (q4, .inl (g.2.1.1, 21, .inl (fun _ => 0))), (q6, .inl (g.2.1.1, 1200, .inl (fun _ => 0))), (q7, .inl (g.2.1.1, 6, .inl (fun _ => 0))), (q8, .inl (g.2.1.1, 95, .inl f100))] H := hP
  have hD : va_D A [(h0, .inr (9, [.ref q1, .ref q2, .ref q3, .ref q4, .ref q5, .int 0, .int 1, .int 0, .ref q6, .int 0, .ref q7, .int 0, .int (-1), .int 0, .int 0, .int 0, .int 0, .int (-1), .null, .null, .int 0, .null, .null, .null, .null, .null, .null, .null, .null, .null, .null, .int 0, .null, .null, .int 0, .null, .null])), (q2, .inl (g.2.1.1, 103, .inl (fun _ => 0))), (q4, .inl (g.2.1.1, 21, .inl (fun _ => 0))), (q6, .inl (g.2.1.1, 1200, .inl (fun _ => 0))), (q7, .inl (g.2.1.1, 6, .inl (fun _ => 0))), (q8, .inl (g.2.1.1, 95, .inl f100))] := hD
  refine lv_dup hx hb dX9_init_635 rfl ?_
  refine lv_bipush (v := 92) hx hb dX9_init_636 (by decide) ?_
  refine lv_bipush (v := 14) hx hb dX9_init_638 (by decide) ?_
  refine va_iast hx hb hX.1 hP hD hS 5 0 rfl rfl (vp_in_iff.mpr (by decide)) dX9_init_640 (fun H locs hP hD hS => ?_)
  obtain ⟨f101, ef101⟩ : ∃ z : Nat → Int32, z = upd f100 (92 : Int32).toNatClampNeg 14 := ⟨_, rfl⟩
  rw [← ef101] at hP hD
  have hP : va_P g.1 vwCl [(h0, .inr (9, [.ref q1, .ref q2, .ref q3, .ref q4, .ref q5, .int 0, .int 1, .int 0, .ref q6, .int 0, .ref q7, .int 0, .int (-1), .int 0, .int 0, .int 0, .int 0, .int (-1), .null, .null, .int 0, .null, .null, .null, .null, .null, .null, .null, .null, .null, .null, .int 0, .null, .null, .int 0, .null, .null])), (q2, .inl (g.2.1.1, 103, .inl (fun _ => 0))), (q4, .inl (g.2.1.1, 21, .inl (fun _ => 0))), (q6, .inl (g.2.1.1, 1200, .inl (fun _ => 0))), (q7, .inl (g.2.1.1, 6, .inl (fun _ => 0))), (q8, .inl (g.2.1.1, 95, .inl f101))] H := hP
  have hD : va_D A [(h0, .inr (9, [.ref q1, .ref q2, .ref q3, .ref q4, .ref q5, .int 0, .int 1, .int 0, .ref q6, .int 0, .ref q7, .int 0, .int (-1), .int 0, .int 0, .int 0, .int 0, .int (-1), .null, .null, .int 0, .null, .null, .null, .null, .null, .null, .null, .null, .null, .null, .int 0, .null, .null, .int 0, .null, .null])), (q2, .inl (g.2.1.1, 103, .inl (fun _ => 0))), (q4, .inl (g.2.1.1, 21, .inl (fun _ => 0))), (q6, .inl (g.2.1.1, 1200, .inl (fun _ => 0))), (q7, .inl (g.2.1.1, 6, .inl (fun _ => 0))), (q8, .inl (g.2.1.1, 95, .inl f101))] := hD
  refine lv_dup hx hb dX9_init_641 rfl ?_
  refine lv_bipush (v := 93) hx hb dX9_init_642 (by decide) ?_
  refine lv_iconst (v := 4) hx hb dX9_init_644 (by decide) ?_
  refine va_iast hx hb hX.1 hP hD hS 5 0 rfl rfl (vp_in_iff.mpr (by decide)) dX9_init_645 (fun H locs hP hD hS => ?_)
  obtain ⟨f102, ef102⟩ : ∃ z : Nat → Int32, z = upd f101 (93 : Int32).toNatClampNeg 4 := ⟨_, rfl⟩
  rw [← ef102] at hP hD
  have hP : va_P g.1 vwCl [(h0, .inr (9, [.ref q1, .ref q2, .ref q3, .ref q4, .ref q5, .int 0, .int 1, .int 0, .ref q6, .int 0, .ref q7, .int 0, .int (-1), .int 0, .int 0, .int 0, .int 0, .int (-1), .null, .null, .int 0, .null, .null, .null, .null, .null, .null, .null, .null, .null, .null, .int 0, .null, .null, .int 0, .null, .null])), (q2, .inl (g.2.1.1, 103, .inl (fun _ => 0))), (q4, .inl (g.2.1.1, 21, .inl (fun _ => 0))), (q6, .inl (g.2.1.1, 1200, .inl (fun _ => 0))), (q7, .inl (g.2.1.1, 6, .inl (fun _ => 0))), (q8, .inl (g.2.1.1, 95, .inl f102))] H := hP
  have hD : va_D A [(h0, .inr (9, [.ref q1, .ref q2, .ref q3, .ref q4, .ref q5, .int 0, .int 1, .int 0, .ref q6, .int 0, .ref q7, .int 0, .int (-1), .int 0, .int 0, .int 0, .int 0, .int (-1), .null, .null, .int 0, .null, .null, .null, .null, .null, .null, .null, .null, .null, .null, .int 0, .null, .null, .int 0, .null, .null])), (q2, .inl (g.2.1.1, 103, .inl (fun _ => 0))), (q4, .inl (g.2.1.1, 21, .inl (fun _ => 0))), (q6, .inl (g.2.1.1, 1200, .inl (fun _ => 0))), (q7, .inl (g.2.1.1, 6, .inl (fun _ => 0))), (q8, .inl (g.2.1.1, 95, .inl f102))] := hD
  refine lv_dup hx hb dX9_init_646 rfl ?_
  refine lv_bipush (v := 94) hx hb dX9_init_647 (by decide) ?_
  refine lv_iconst (v := 0) hx hb dX9_init_649 (by decide) ?_
  refine va_iast hx hb hX.1 hP hD hS 5 0 rfl rfl (vp_in_iff.mpr (by decide)) dX9_init_650 (fun H locs hP hD hS => ?_)
  obtain ⟨f103, ef103⟩ : ∃ z : Nat → Int32, z = upd f102 (94 : Int32).toNatClampNeg 0 := ⟨_, rfl⟩
  rw [← ef103] at hP hD
  have hP : va_P g.1 vwCl [(h0, .inr (9, [.ref q1, .ref q2, .ref q3, .ref q4, .ref q5, .int 0, .int 1, .int 0, .ref q6, .int 0, .ref q7, .int 0, .int (-1), .int 0, .int 0, .int 0, .int 0, .int (-1), .null, .null, .int 0, .null, .null, .null, .null, .null, .null, .null, .null, .null, .null, .int 0, .null, .null, .int 0, .null, .null])), (q2, .inl (g.2.1.1, 103, .inl (fun _ => 0))), (q4, .inl (g.2.1.1, 21, .inl (fun _ => 0))), (q6, .inl (g.2.1.1, 1200, .inl (fun _ => 0))), (q7, .inl (g.2.1.1, 6, .inl (fun _ => 0))), (q8, .inl (g.2.1.1, 95, .inl f103))] H := hP
  have hD : va_D A [(h0, .inr (9, [.ref q1, .ref q2, .ref q3, .ref q4, .ref q5, .int 0, .int 1, .int 0, .ref q6, .int 0, .ref q7, .int 0, .int (-1), .int 0, .int 0, .int 0, .int 0, .int (-1), .null, .null, .int 0, .null, .null, .null, .null, .null, .null, .null, .null, .null, .null, .int 0, .null, .null, .int 0, .null, .null])), (q2, .inl (g.2.1.1, 103, .inl (fun _ => 0))), (q4, .inl (g.2.1.1, 21, .inl (fun _ => 0))), (q6, .inl (g.2.1.1, 1200, .inl (fun _ => 0))), (q7, .inl (g.2.1.1, 6, .inl (fun _ => 0))), (q8, .inl (g.2.1.1, 95, .inl f103))] := hD
  refine va_putF (D := g.1) (ci := 9) (v := .ref q8) (ty := (.array .int)) (C := RX9) (T := TX9) (N := 37) hx hb hG iX9 tyX9 tyX9_ok nmX9 hown hX.1 hP hD hS 0 rfl rfl 18 (by decide) (hG _ g1435) (fun _ h9 => h9) rfl hnm rfl (by decide +kernel) rfl rfl (Nat.le_of_ble_eq_true rfl) dX9_init_651 (fun H locs hP hD hS => ?_)
  have hP : va_P g.1 vwCl [(h0, .inr (9, [.ref q1, .ref q2, .ref q3, .ref q4, .ref q5, .int 0, .int 1, .int 0, .ref q6, .int 0, .ref q7, .int 0, .int (-1), .int 0, .int 0, .int 0, .int 0, .int (-1), .ref q8, .null, .int 0, .null, .null, .null, .null, .null, .null, .null, .null, .null, .null, .int 0, .null, .null, .int 0, .null, .null])), (q2, .inl (g.2.1.1, 103, .inl (fun _ => 0))), (q4, .inl (g.2.1.1, 21, .inl (fun _ => 0))), (q6, .inl (g.2.1.1, 1200, .inl (fun _ => 0))), (q7, .inl (g.2.1.1, 6, .inl (fun _ => 0))), (q8, .inl (g.2.1.1, 95, .inl f103))] H := hP
  have hD : va_D A [(h0, .inr (9, [.ref q1, .ref q2, .ref q3, .ref q4, .ref q5, .int 0, .int 1, .int 0, .ref q6, .int 0, .ref q7, .int 0, .int (-1), .int 0, .int 0, .int 0, .int 0, .int (-1), .ref q8, .null, .int 0, .null, .null, .null, .null, .null, .null, .null, .null, .null, .null, .int 0, .null, .null, .int 0, .null, .null])), (q2, .inl (g.2.1.1, 103, .inl (fun _ => 0))), (q4, .inl (g.2.1.1, 21, .inl (fun _ => 0))), (q6, .inl (g.2.1.1, 1200, .inl (fun _ => 0))), (q7, .inl (g.2.1.1, 6, .inl (fun _ => 0))), (q8, .inl (g.2.1.1, 95, .inl f103))] := hD
  have hP := hP.sub (ws' := [(h0, .inr (9, [.ref q1, .ref q2, .ref q3, .ref q4, .ref q5, .int 0, .int 1, .int 0, .ref q6, .int 0, .ref q7, .int 0, .int (-1), .int 0, .int 0, .int 0, .int 0, .int (-1), .ref q8, .null, .int 0, .null, .null, .null, .null, .null, .null, .null, .null, .null, .null, .int 0, .null, .null, .int 0, .null, .null])), (q2, .inl (g.2.1.1, 103, .inl (fun _ => 0))), (q4, .inl (g.2.1.1, 21, .inl (fun _ => 0))), (q6, .inl (g.2.1.1, 1200, .inl (fun _ => 0))), (q7, .inl (g.2.1.1, 6, .inl (fun _ => 0)))]) [0, 1, 2, 3, 4] rfl
  have hD := hD.sub (ws' := [(h0, .inr (9, [.ref q1, .ref q2, .ref q3, .ref q4, .ref q5, .int 0, .int 1, .int 0, .ref q6, .int 0, .ref q7, .int 0, .int (-1), .int 0, .int 0, .int 0, .int 0, .int (-1), .ref q8, .null, .int 0, .null, .null, .null, .null, .null, .null, .null, .null, .null, .null, .int 0, .null, .null, .int 0, .null, .null])), (q2, .inl (g.2.1.1, 103, .inl (fun _ => 0))), (q4, .inl (g.2.1.1, 21, .inl (fun _ => 0))), (q6, .inl (g.2.1.1, 1200, .inl (fun _ => 0))), (q7, .inl (g.2.1.1, 6, .inl (fun _ => 0)))]) [0, 1, 2, 3, 4] (by decide) rfl
  refine lv_aload_n hx hb dX9_init_654 rfl (lv_at hl 0 rfl) ?_
  refine lv_bipush (v := 72) hx hb dX9_init_655 (by decide) ?_
  refine zna (atype := .int) (N' := 72) (a0 := (72, .inl (fun _ => 0))) hx hb (hG _ g306) (ty := .int) rfl 0 rfl (fun _ h9 => va_nm_int h9) hX hP hD hS hA (fun _ => rfl) (by decide) (by decide) (Nat.le_of_ble_eq_true rfl) (Nat.le_of_ble_eq_true rfl) (Nat.le_of_ble_eq_true rfl) dX9_init_657 (fun q104 H hP hD hS => ?_)
  refine W.cs (cells' := 9) (slots' := 2041) rfl rfl ?_
  have hP : va_P g.1 vwCl [(h0, .inr (9, [.ref q1, .ref q2, .ref q3, .ref q4, .ref q5, .int 0, .int 1, .int 0, .ref q6, .int 0, .ref q7, .int 0, .int (-1), .int 0, .int 0, .int 0, .int 0, .int (-1), .ref q8, .null, .int 0, .null, .null, .null, .null, .null, .null, .null, .null, .null, .null, .int 0, .null, .null, .int 0, .null, .null])), (q2, .inl (g.2.1.1, 103, .inl (fun _ => 0))), (q4, .inl (g.2.1.1, 21, .inl (fun _ => 0))), (q6, .inl (g.2.1.1, 1200, .inl (fun _ => 0))), (q7, .inl (g.2.1.1, 6, .inl (fun _ => 0))), (q104, .inl (g.2.1.1, 72, .inl (fun _ => 0)))] H := hP
  have hD : va_D A [(h0, .inr (9, [.ref q1, .ref q2, .ref q3, .ref q4, .ref q5, .int 0, .int 1, .int 0, .ref q6, .int 0, .ref q7, .int 0, .int (-1), .int 0, .int 0, .int 0, .int 0, .int (-1), .ref q8, .null, .int 0, .null, .null, .null, .null, .null, .null, .null, .null, .null, .null, .int 0, .null, .null, .int 0, .null, .null])), (q2, .inl (g.2.1.1, 103, .inl (fun _ => 0))), (q4, .inl (g.2.1.1, 21, .inl (fun _ => 0))), (q6, .inl (g.2.1.1, 1200, .inl (fun _ => 0))), (q7, .inl (g.2.1.1, 6, .inl (fun _ => 0))), (q104, .inl (g.2.1.1, 72, .inl (fun _ => 0)))] := hD
  refine va_putF (D := g.1) (ci := 9) (v := .ref q104) (ty := (.array .int)) (C := RX9) (T := TX9) (N := 37) hx hb hG iX9 tyX9 tyX9_ok nmX9 hown hX.1 hP hD hS 0 rfl rfl 19 (by decide) (hG _ g1436) (fun _ h9 => h9) rfl hnm rfl (by decide +kernel) rfl rfl (Nat.le_of_ble_eq_true rfl) dX9_init_659 (fun H locs hP hD hS => ?_)
  have hP : va_P g.1 vwCl [(h0, .inr (9, [.ref q1, .ref q2, .ref q3, .ref q4, .ref q5, .int 0, .int 1, .int 0, .ref q6, .int 0, .ref q7, .int 0, .int (-1), .int 0, .int 0, .int 0, .int 0, .int (-1), .ref q8, .ref q104, .int 0, .null, .null, .null, .null, .null, .null, .null, .null, .null, .null, .int 0, .null, .null, .int 0, .null, .null])), (q2, .inl (g.2.1.1, 103, .inl (fun _ => 0))), (q4, .inl (g.2.1.1, 21, .inl (fun _ => 0))), (q6, .inl (g.2.1.1, 1200, .inl (fun _ => 0))), (q7, .inl (g.2.1.1, 6, .inl (fun _ => 0))), (q104, .inl (g.2.1.1, 72, .inl (fun _ => 0)))] H := hP
  have hD : va_D A [(h0, .inr (9, [.ref q1, .ref q2, .ref q3, .ref q4, .ref q5, .int 0, .int 1, .int 0, .ref q6, .int 0, .ref q7, .int 0, .int (-1), .int 0, .int 0, .int 0, .int 0, .int (-1), .ref q8, .ref q104, .int 0, .null, .null, .null, .null, .null, .null, .null, .null, .null, .null, .int 0, .null, .null, .int 0, .null, .null])), (q2, .inl (g.2.1.1, 103, .inl (fun _ => 0))), (q4, .inl (g.2.1.1, 21, .inl (fun _ => 0))), (q6, .inl (g.2.1.1, 1200, .inl (fun _ => 0))), (q7, .inl (g.2.1.1, 6, .inl (fun _ => 0))), (q104, .inl (g.2.1.1, 72, .inl (fun _ => 0)))] := hD
  have hP := hP.sub (ws' := [(h0, .inr (9, [.ref q1, .ref q2, .ref q3, .ref q4, .ref q5, .int 0, .int 1, .int 0, .ref q6, .int 0, .ref q7, .int 0, .int (-1), .int 0, .int 0, .int 0, .int 0, .int (-1), .ref q8, .ref q104, .int 0, .null, .null, .null, .null, .null, .null, .null, .null, .null, .null, .int 0, .null, .null, .int 0, .null, .null])), (q2, .inl (g.2.1.1, 103, .inl (fun _ => 0))), (q4, .inl (g.2.1.1, 21, .inl (fun _ => 0))), (q6, .inl (g.2.1.1, 1200, .inl (fun _ => 0))), (q7, .inl (g.2.1.1, 6, .inl (fun _ => 0)))]) [0, 1, 2, 3, 4] rfl
  have hD := hD.sub (ws' := [(h0, .inr (9, [.ref q1, .ref q2, .ref q3, .ref q4, .ref q5, .int 0, .int 1, .int 0, .ref q6, .int 0, .ref q7, .int 0, .int (-1), .int 0, .int 0, .int 0, .int 0, .int (-1), .ref q8, .ref q104, .int 0, .null, .null, .null, .null, .null, .null, .null, .null, .null, .null, .int 0, .null, .null, .int 0, .null, .null])), (q2, .inl (g.2.1.1, 103, .inl (fun _ => 0))), (q4, .inl (g.2.1.1, 21, .inl (fun _ => 0))), (q6, .inl (g.2.1.1, 1200, .inl (fun _ => 0))), (q7, .inl (g.2.1.1, 6, .inl (fun _ => 0)))]) [0, 1, 2, 3, 4] (by decide) rfl
  refine lv_aload_n hx hb dX9_init_662 rfl (lv_at hl 0 rfl) ?_
  refine lv_iconst (v := 0) hx hb dX9_init_663 (by decide) ?_
  refine va_put (D := g.1) (ci := 9) (v := .int 0) (ty := .boolean) (C := RX9) (T := TX9) (N := 37) hx hb hG iX9 tyX9 tyX9_ok nmX9 hown hX.1 hP hD hS 0 rfl rfl 20 (by decide) (hG _ g1437) (fun _ h9 => h9) rfl (by decide +kernel) rfl rfl (Nat.le_of_ble_eq_true rfl) dX9_init_664 (fun H locs hP hD hS => ?_)
  have hP : va_P g.1 vwCl [(h0, .inr (9, [.ref q1, .ref q2, .ref q3, .ref q4, .ref q5, .int 0, .int 1, .int 0, .ref q6, .int 0, .ref q7, .int 0, .int (-1), .int 0, .int 0, .int 0, .int 0, .int (-1), .ref q8, .ref q104, .int 0, .null, .null, .null, .null, .null, .null, .null, .null, .null, .null, .int 0, .null, .null, .int 0, .null, .null])), (q2, .inl (g.2.1.1, 103, .inl (fun _ => 0))), (q4, .inl (g.2.1.1, 21, .inl (fun _ => 0))), (q6, .inl (g.2.1.1, 1200, .inl (fun _ => 0))), (q7, .inl (g.2.1.1, 6, .inl (fun _ => 0)))] H := hP
  have hD : va_D A [(h0, .inr (9, [.ref q1, .ref q2, .ref q3, .ref q4, .ref q5, .int 0, .int 1, .int 0, .ref q6, .int 0, .ref q7, .int 0, .int (-1), .int 0, .int 0, .int 0, .int 0, .int (-1), .ref q8, .ref q104, .int 0, .null, .null, .null, .null, .null, .null, .null, .null, .null, .null, .int 0, .null, .null, .int 0, .null, .null])), (q2, .inl (g.2.1.1, 103, .inl (fun _ => 0))), (q4, .inl (g.2.1.1, 21, .inl (fun _ => 0))), (q6, .inl (g.2.1.1, 1200, .inl (fun _ => 0))), (q7, .inl (g.2.1.1, 6, .inl (fun _ => 0)))] := hD
  refine lv_aload_n hx hb dX9_init_667 rfl (lv_at hl 0 rfl) ?_
  refine lv_bipush (v := 30) hx hb dX9_init_668 (by decide) ?_
  refine zna (atype := .int) (N' := 30) (a0 := (30, .inl (fun _ => 0))) hx hb (hG _ g306) (ty := .int) rfl 0 rfl (fun _ h9 => va_nm_int h9) hX hP hD hS hA (fun _ => rfl) (by decide) (by decide) (Nat.le_of_ble_eq_true rfl) (Nat.le_of_ble_eq_true rfl) (Nat.le_of_ble_eq_true rfl) dX9_init_670 (fun q105 H hP hD hS => ?_)
  refine W.cs (cells' := 10) (slots' := 2071) rfl rfl ?_
  have hP : va_P g.1 vwCl [(h0, .inr (9, [.ref q1, .ref q2, .ref q3, .ref q4, .ref q5, .int 0, .int 1, .int 0, .ref q6, .int 0, .ref q7, .int 0, .int (-1), .int 0, .int 0, .int 0, .int 0, .int (-1), .ref q8, .ref q104, .int 0, .null, .null, .null, .null, .null, .null, .null, .null, .null, .null, .int 0, .null, .null, .int 0, .null, .null])), (q2, .inl (g.2.1.1, 103, .inl (fun _ => 0))), (q4, .inl (g.2.1.1, 21, .inl (fun _ => 0))), (q6, .inl (g.2.1.1, 1200, .inl (fun _ => 0))), (q7, .inl (g.2.1.1, 6, .inl (fun _ => 0))), (q105, .inl (g.2.1.1, 30, .inl (fun _ => 0)))] H := hP
  have hD : va_D A [(h0, .inr (9, [.ref q1, .ref q2, .ref q3, .ref q4, .ref q5, .int 0, .int 1, .int 0, .ref q6, .int 0, .ref q7, .int 0, .int (-1), .int 0, .int 0, .int 0, .int 0, .int (-1), .ref q8, .ref q104, .int 0, .null, .null, .null, .null, .null, .null, .null, .null, .null, .null, .int 0, .null, .null, .int 0, .null, .null])), (q2, .inl (g.2.1.1, 103, .inl (fun _ => 0))), (q4, .inl (g.2.1.1, 21, .inl (fun _ => 0))), (q6, .inl (g.2.1.1, 1200, .inl (fun _ => 0))), (q7, .inl (g.2.1.1, 6, .inl (fun _ => 0))), (q105, .inl (g.2.1.1, 30, .inl (fun _ => 0)))] := hD
  refine va_putF (D := g.1) (ci := 9) (v := .ref q105) (ty := (.array .int)) (C := RX9) (T := TX9) (N := 37) hx hb hG iX9 tyX9 tyX9_ok nmX9 hown hX.1 hP hD hS 0 rfl rfl 21 (by decide) (hG _ g1438) (fun _ h9 => h9) rfl hnm rfl (by decide +kernel) rfl rfl (Nat.le_of_ble_eq_true rfl) dX9_init_672 (fun H locs hP hD hS => ?_)
  have hP : va_P g.1 vwCl [(h0, .inr (9, [.ref q1, .ref q2, .ref q3, .ref q4, .ref q5, .int 0, .int 1, .int 0, .ref q6, .int 0, .ref q7, .int 0, .int (-1), .int 0, .int 0, .int 0, .int 0, .int (-1), .ref q8, .ref q104, .int 0, .ref q105, .null, .null, .null, .null, .null, .null, .null, .null, .null, .int 0, .null, .null, .int 0, .null, .null])), (q2, .inl (g.2.1.1, 103, .inl (fun _ => 0))), (q4, .inl (g.2.1.1, 21, .inl (fun _ => 0))), (q6, .inl (g.2.1.1, 1200, .inl (fun _ => 0))), (q7, .inl (g.2.1.1, 6, .inl (fun _ => 0))), (q105, .inl (g.2.1.1, 30, .inl (fun _ => 0)))] H := hP
  have hD : va_D A [(h0, .inr (9, [.ref q1, .ref q2, .ref q3, .ref q4, .ref q5, .int 0, .int 1, .int 0, .ref q6, .int 0, .ref q7, .int 0, .int (-1), .int 0, .int 0, .int 0, .int 0, .int (-1), .ref q8, .ref q104, .int 0, .ref q105, .null, .null, .null, .null, .null, .null, .null, .null, .null, .int 0, .null, .null, .int 0, .null, .null])), (q2, .inl (g.2.1.1, 103, .inl (fun _ => 0))), (q4, .inl (g.2.1.1, 21, .inl (fun _ => 0))), (q6, .inl (g.2.1.1, 1200, .inl (fun _ => 0))), (q7, .inl (g.2.1.1, 6, .inl (fun _ => 0))), (q105, .inl (g.2.1.1, 30, .inl (fun _ => 0)))] := hD
  have hP := hP.sub (ws' := [(h0, .inr (9, [.ref q1, .ref q2, .ref q3, .ref q4, .ref q5, .int 0, .int 1, .int 0, .ref q6, .int 0, .ref q7, .int 0, .int (-1), .int 0, .int 0, .int 0, .int 0, .int (-1), .ref q8, .ref q104, .int 0, .ref q105, .null, .null, .null, .null, .null, .null, .null, .null, .null, .int 0, .null, .null, .int 0, .null, .null])), (q2, .inl (g.2.1.1, 103, .inl (fun _ => 0))), (q4, .inl (g.2.1.1, 21, .inl (fun _ => 0))), (q6, .inl (g.2.1.1, 1200, .inl (fun _ => 0))), (q7, .inl (g.2.1.1, 6, .inl (fun _ => 0)))]) [0, 1, 2, 3, 4] rfl
  have hD := hD.sub (ws' := [(h0, .inr (9, [.ref q1, .ref q2, .ref q3, .ref q4, .ref q5, .int 0, .int 1, .int 0, .ref q6, .int 0, .ref q7, .int 0, .int (-1), .int 0, .int 0, .int 0, .int 0, .int (-1), .ref q8, .ref q104, .int 0, .ref q105, .null, .null, .null, .null, .null, .null, .null, .null, .null, .int 0, .null, .null, .int 0, .null, .null])), (q2, .inl (g.2.1.1, 103, .inl (fun _ => 0))), (q4, .inl (g.2.1.1, 21, .inl (fun _ => 0))), (q6, .inl (g.2.1.1, 1200, .inl (fun _ => 0))), (q7, .inl (g.2.1.1, 6, .inl (fun _ => 0)))]) [0, 1, 2, 3, 4] (by decide) rfl
  refine lv_aload_n hx hb dX9_init_675 rfl (lv_at hl 0 rfl) ?_
  refine lv_bipush (v := 10) hx hb dX9_init_676 (by decide) ?_
  refine zna (atype := .int) (N' := 10) (a0 := (10, .inl (fun _ => 0))) hx hb (hG _ g306) (ty := .int) rfl 0 rfl (fun _ h9 => va_nm_int h9) hX hP hD hS hA (fun _ => rfl) (by decide) (by decide) (Nat.le_of_ble_eq_true rfl) (Nat.le_of_ble_eq_true rfl) (Nat.le_of_ble_eq_true rfl) dX9_init_678 (fun q106 H hP hD hS => ?_)
  refine W.cs (cells' := 11) (slots' := 2081) rfl rfl ?_
  have hP : va_P g.1 vwCl [(h0, .inr (9, [.ref q1, .ref q2, .ref q3, .ref q4, .ref q5, .int 0, .int 1, .int 0, .ref q6, .int 0, .ref q7, .int 0, .int (-1), .int 0, .int 0, .int 0, .int 0, .int (-1), .ref q8, .ref q104, .int 0, .ref q105, .null, .null, .null, .null, .null, .null, .null, .null, .null, .int 0, .null, .null, .int 0, .null, .null])), (q2, .inl (g.2.1.1, 103, .inl (fun _ => 0))), (q4, .inl (g.2.1.1, 21, .inl (fun _ => 0))), (q6, .inl (g.2.1.1, 1200, .inl (fun _ => 0))), (q7, .inl (g.2.1.1, 6, .inl (fun _ => 0))), (q106, .inl (g.2.1.1, 10, .inl (fun _ => 0)))] H := hP
  have hD : va_D A [(h0, .inr (9, [.ref q1, .ref q2, .ref q3, .ref q4, .ref q5, .int 0, .int 1, .int 0, .ref q6, .int 0, .ref q7, .int 0, .int (-1), .int 0, .int 0, .int 0, .int 0, .int (-1), .ref q8, .ref q104, .int 0, .ref q105, .null, .null, .null, .null, .null, .null, .null, .null, .null, .int 0, .null, .null, .int 0, .null, .null])), (q2, .inl (g.2.1.1, 103, .inl (fun _ => 0))), (q4, .inl (g.2.1.1, 21, .inl (fun _ => 0))), (q6, .inl (g.2.1.1, 1200, .inl (fun _ => 0))), (q7, .inl (g.2.1.1, 6, .inl (fun _ => 0))), (q106, .inl (g.2.1.1, 10, .inl (fun _ => 0)))] := hD
  refine va_putF (D := g.1) (ci := 9) (v := .ref q106) (ty := (.array .int)) (C := RX9) (T := TX9) (N := 37) hx hb hG iX9 tyX9 tyX9_ok nmX9 hown hX.1 hP hD hS 0 rfl rfl 22 (by decide) (hG _ g1439) (fun _ h9 => h9) rfl hnm rfl (by decide +kernel) rfl rfl (Nat.le_of_ble_eq_true rfl) dX9_init_680 (fun H locs hP hD hS => ?_)
  have hP : va_P g.1 vwCl [(h0, .inr (9, [.ref q1, .ref q2, .ref q3, .ref q4, .ref q5, .int 0, .int 1, .int 0, .ref q6, .int 0, .ref q7, .int 0, .int (-1), .int 0, .int 0, .int 0, .int 0, .int (-1), .ref q8, .ref q104, .int 0, .ref q105, .ref q106, .null, .null, .null, .null, .null, .null, .null, .null, .int 0, .null, .null, .int 0, .null, .null])), (q2, .inl (g.2.1.1, 103, .inl (fun _ => 0))), (q4, .inl (g.2.1.1, 21, .inl (fun _ => 0))), (q6, .inl (g.2.1.1, 1200, .inl (fun _ => 0))), (q7, .inl (g.2.1.1, 6, .inl (fun _ => 0))), (q106, .inl (g.2.1.1, 10, .inl (fun _ => 0)))] H := hP
  have hD : va_D A [(h0, .inr (9, [.ref q1, .ref q2, .ref q3, .ref q4, .ref q5, .int 0, .int 1, .int 0, .ref q6, .int 0, .ref q7, .int 0, .int (-1), .int 0, .int 0, .int 0, .int 0, .int (-1), .ref q8, .ref q104, .int 0, .ref q105, .ref q106, .null, .null, .null, .null, .null, .null, .null, .null, .int 0, .null, .null, .int 0, .null, .null])), (q2, .inl (g.2.1.1, 103, .inl (fun _ => 0))), (q4, .inl (g.2.1.1, 21, .inl (fun _ => 0))), (q6, .inl (g.2.1.1, 1200, .inl (fun _ => 0))), (q7, .inl (g.2.1.1, 6, .inl (fun _ => 0))), (q106, .inl (g.2.1.1, 10, .inl (fun _ => 0)))] := hD
  have hP := hP.sub (ws' := [(h0, .inr (9, [.ref q1, .ref q2, .ref q3, .ref q4, .ref q5, .int 0, .int 1, .int 0, .ref q6, .int 0, .ref q7, .int 0, .int (-1), .int 0, .int 0, .int 0, .int 0, .int (-1), .ref q8, .ref q104, .int 0, .ref q105, .ref q106, .null, .null, .null, .null, .null, .null, .null, .null, .int 0, .null, .null, .int 0, .null, .null])), (q2, .inl (g.2.1.1, 103, .inl (fun _ => 0))), (q4, .inl (g.2.1.1, 21, .inl (fun _ => 0))), (q6, .inl (g.2.1.1, 1200, .inl (fun _ => 0))), (q7, .inl (g.2.1.1, 6, .inl (fun _ => 0)))]) [0, 1, 2, 3, 4] rfl
  have hD := hD.sub (ws' := [(h0, .inr (9, [.ref q1, .ref q2, .ref q3, .ref q4, .ref q5, .int 0, .int 1, .int 0, .ref q6, .int 0, .ref q7, .int 0, .int (-1), .int 0, .int 0, .int 0, .int 0, .int (-1), .ref q8, .ref q104, .int 0, .ref q105, .ref q106, .null, .null, .null, .null, .null, .null, .null, .null, .int 0, .null, .null, .int 0, .null, .null])), (q2, .inl (g.2.1.1, 103, .inl (fun _ => 0))), (q4, .inl (g.2.1.1, 21, .inl (fun _ => 0))), (q6, .inl (g.2.1.1, 1200, .inl (fun _ => 0))), (q7, .inl (g.2.1.1, 6, .inl (fun _ => 0)))]) [0, 1, 2, 3, 4] (by decide) rfl
  refine lv_aload_n hx hb dX9_init_683 rfl (lv_at hl 0 rfl) ?_
  refine lv_bipush (v := 10) hx hb dX9_init_684 (by decide) ?_
  refine zna (atype := .int) (N' := 10) (a0 := (10, .inl (fun _ => 0))) hx hb (hG _ g306) (ty := .int) rfl 0 rfl (fun _ h9 => va_nm_int h9) hX hP hD hS hA (fun _ => rfl) (by decide) (by decide) (Nat.le_of_ble_eq_true rfl) (Nat.le_of_ble_eq_true rfl) (Nat.le_of_ble_eq_true rfl) dX9_init_686 (fun q107 H hP hD hS => ?_)
  refine W.cs (cells' := 12) (slots' := 2091) rfl rfl ?_
  have hP : va_P g.1 vwCl [(h0, .inr (9, [.ref q1, .ref q2, .ref q3, .ref q4, .ref q5, .int 0, .int 1, .int 0, .ref q6, .int 0, .ref q7, .int 0, .int (-1), .int 0, .int 0, .int 0, .int 0, .int (-1), .ref q8, .ref q104, .int 0, .ref q105, .ref q106, .null, .null, .null, .null, .null, .null, .null, .null, .int 0, .null, .null, .int 0, .null, .null])), (q2, .inl (g.2.1.1, 103, .inl (fun _ => 0))), (q4, .inl (g.2.1.1, 21, .inl (fun _ => 0))), (q6, .inl (g.2.1.1, 1200, .inl (fun _ => 0))), (q7, .inl (g.2.1.1, 6, .inl (fun _ => 0))), (q107, .inl (g.2.1.1, 10, .inl (fun _ => 0)))] H := hP
  have hD : va_D A [(h0, .inr (9, [.ref q1, .ref q2, .ref q3, .ref q4, .ref q5, .int 0, .int 1, .int 0, .ref q6, .int 0, .ref q7, .int 0, .int (-1), .int 0, .int 0, .int 0, .int 0, .int (-1), .ref q8, .ref q104, .int 0, .ref q105, .ref q106, .null, .null, .null, .null, .null, .null, .null, .null, .int 0, .null, .null, .int 0, .null, .null])), (q2, .inl (g.2.1.1, 103, .inl (fun _ => 0))), (q4, .inl (g.2.1.1, 21, .inl (fun _ => 0))), (q6, .inl (g.2.1.1, 1200, .inl (fun _ => 0))), (q7, .inl (g.2.1.1, 6, .inl (fun _ => 0))), (q107, .inl (g.2.1.1, 10, .inl (fun _ => 0)))] := hD
  refine va_putF (D := g.1) (ci := 9) (v := .ref q107) (ty := (.array .int)) (C := RX9) (T := TX9) (N := 37) hx hb hG iX9 tyX9 tyX9_ok nmX9 hown hX.1 hP hD hS 0 rfl rfl 23 (by decide) (hG _ g1440) (fun _ h9 => h9) rfl hnm rfl (by decide +kernel) rfl rfl (Nat.le_of_ble_eq_true rfl) dX9_init_688 (fun H locs hP hD hS => ?_)
  have hP : va_P g.1 vwCl [(h0, .inr (9, [.ref q1, .ref q2, .ref q3, .ref q4, .ref q5, .int 0, .int 1, .int 0, .ref q6, .int 0, .ref q7, .int 0, .int (-1), .int 0, .int 0, .int 0, .int 0, .int (-1), .ref q8, .ref q104, .int 0, .ref q105, .ref q106, .ref q107, .null, .null, .null, .null, .null, .null, .null, .int 0, .null, .null, .int 0, .null, .null])), (q2, .inl (g.2.1.1, 103, .inl (fun _ => 0))), (q4, .inl (g.2.1.1, 21, .inl (fun _ => 0))), (q6, .inl (g.2.1.1, 1200, .inl (fun _ => 0))), (q7, .inl (g.2.1.1, 6, .inl (fun _ => 0))), (q107, .inl (g.2.1.1, 10, .inl (fun _ => 0)))] H := hP
  have hD : va_D A [(h0, .inr (9, [.ref q1, .ref q2, .ref q3, .ref q4, .ref q5, .int 0, .int 1, .int 0, .ref q6, .int 0, .ref q7, .int 0, .int (-1), .int 0, .int 0, .int 0, .int 0, .int (-1), .ref q8, .ref q104, .int 0, .ref q105, .ref q106, .ref q107, .null, .null, .null, .null, .null, .null, .null, .int 0, .null, .null, .int 0, .null, .null])), (q2, .inl (g.2.1.1, 103, .inl (fun _ => 0))), (q4, .inl (g.2.1.1, 21, .inl (fun _ => 0))), (q6, .inl (g.2.1.1, 1200, .inl (fun _ => 0))), (q7, .inl (g.2.1.1, 6, .inl (fun _ => 0))), (q107, .inl (g.2.1.1, 10, .inl (fun _ => 0)))] := hD
  have hP := hP.sub (ws' := [(h0, .inr (9, [.ref q1, .ref q2, .ref q3, .ref q4, .ref q5, .int 0, .int 1, .int 0, .ref q6, .int 0, .ref q7, .int 0, .int (-1), .int 0, .int 0, .int 0, .int 0, .int (-1), .ref q8, .ref q104, .int 0, .ref q105, .ref q106, .ref q107, .null, .null, .null, .null, .null, .null, .null, .int 0, .null, .null, .int 0, .null, .null])), (q2, .inl (g.2.1.1, 103, .inl (fun _ => 0))), (q4, .inl (g.2.1.1, 21, .inl (fun _ => 0))), (q6, .inl (g.2.1.1, 1200, .inl (fun _ => 0))), (q7, .inl (g.2.1.1, 6, .inl (fun _ => 0)))]) [0, 1, 2, 3, 4] rfl
  have hD := hD.sub (ws' := [(h0, .inr (9, [.ref q1, .ref q2, .ref q3, .ref q4, .ref q5, .int 0, .int 1, .int 0, .ref q6, .int 0, .ref q7, .int 0, .int (-1), .int 0, .int 0, .int 0, .int 0, .int (-1), .ref q8, .ref q104, .int 0, .ref q105, .ref q106, .ref q107, .null, .null, .null, .null, .null, .null, .null, .int 0, .null, .null, .int 0, .null, .null])), (q2, .inl (g.2.1.1, 103, .inl (fun _ => 0))), (q4, .inl (g.2.1.1, 21, .inl (fun _ => 0))), (q6, .inl (g.2.1.1, 1200, .inl (fun _ => 0))), (q7, .inl (g.2.1.1, 6, .inl (fun _ => 0)))]) [0, 1, 2, 3, 4] (by decide) rfl
  refine lv_aload_n hx hb dX9_init_691 rfl (lv_at hl 0 rfl) ?_
  refine lv_bipush (v := 10) hx hb dX9_init_692 (by decide) ?_
  refine zna (atype := .int) (N' := 10) (a0 := (10, .inl (fun _ => 0))) hx hb (hG _ g306) (ty := .int) rfl 0 rfl (fun _ h9 => va_nm_int h9) hX hP hD hS hA (fun _ => rfl) (by decide) (by decide) (Nat.le_of_ble_eq_true rfl) (Nat.le_of_ble_eq_true rfl) (Nat.le_of_ble_eq_true rfl) dX9_init_694 (fun q108 H hP hD hS => ?_)
  refine W.cs (cells' := 13) (slots' := 2101) rfl rfl ?_
  have hP : va_P g.1 vwCl [(h0, .inr (9, [.ref q1, .ref q2, .ref q3, .ref q4, .ref q5, .int 0, .int 1, .int 0, .ref q6, .int 0, .ref q7, .int 0, .int (-1), .int 0, .int 0, .int 0, .int 0, .int (-1), .ref q8, .ref q104, .int 0, .ref q105, .ref q106, .ref q107, .null, .null, .null, .null, .null, .null, .null, .int 0, .null, .null, .int 0, .null, .null])), (q2, .inl (g.2.1.1, 103, .inl (fun _ => 0))), (q4, .inl (g.2.1.1, 21, .inl (fun _ => 0))), (q6, .inl (g.2.1.1, 1200, .inl (fun _ => 0))), (q7, .inl (g.2.1.1, 6, .inl (fun _ => 0))), (q108, .inl (g.2.1.1, 10, .inl (fun _ => 0)))] H := hP
  have hD : va_D A [(h0, .inr (9, [.ref q1, .ref q2, .ref q3, .ref q4, .ref q5, .int 0, .int 1, .int 0, .ref q6, .int 0, .ref q7, .int 0, .int (-1), .int 0, .int 0, .int 0, .int 0, .int (-1), .ref q8, .ref q104, .int 0, .ref q105, .ref q106, .ref q107, .null, .null, .null, .null, .null, .null, .null, .int 0, .null, .null, .int 0, .null, .null])), (q2, .inl (g.2.1.1, 103, .inl (fun _ => 0))), (q4, .inl (g.2.1.1, 21, .inl (fun _ => 0))), (q6, .inl (g.2.1.1, 1200, .inl (fun _ => 0))), (q7, .inl (g.2.1.1, 6, .inl (fun _ => 0))), (q108, .inl (g.2.1.1, 10, .inl (fun _ => 0)))] := hD
  refine va_putF (D := g.1) (ci := 9) (v := .ref q108) (ty := (.array .int)) (C := RX9) (T := TX9) (N := 37) hx hb hG iX9 tyX9 tyX9_ok nmX9 hown hX.1 hP hD hS 0 rfl rfl 24 (by decide) (hG _ g1441) (fun _ h9 => h9) rfl hnm rfl (by decide +kernel) rfl rfl (Nat.le_of_ble_eq_true rfl) dX9_init_696 (fun H locs hP hD hS => ?_)
  have hP : va_P g.1 vwCl [(h0, .inr (9, [.ref q1, .ref q2, .ref q3, .ref q4, .ref q5, .int 0, .int 1, .int 0, .ref q6, .int 0, .ref q7, .int 0, .int (-1), .int 0, .int 0, .int 0, .int 0, .int (-1), .ref q8, .ref q104, .int 0, .ref q105, .ref q106, .ref q107, .ref q108, .null, .null, .null, .null, .null, .null, .int 0, .null, .null, .int 0, .null, .null])), (q2, .inl (g.2.1.1, 103, .inl (fun _ => 0))), (q4, .inl (g.2.1.1, 21, .inl (fun _ => 0))), (q6, .inl (g.2.1.1, 1200, .inl (fun _ => 0))), (q7, .inl (g.2.1.1, 6, .inl (fun _ => 0))), (q108, .inl (g.2.1.1, 10, .inl (fun _ => 0)))] H := hP
  have hD : va_D A [(h0, .inr (9, [.ref q1, .ref q2, .ref q3, .ref q4, .ref q5, .int 0, .int 1, .int 0, .ref q6, .int 0, .ref q7, .int 0, .int (-1), .int 0, .int 0, .int 0, .int 0, .int (-1), .ref q8, .ref q104, .int 0, .ref q105, .ref q106, .ref q107, .ref q108, .null, .null, .null, .null, .null, .null, .int 0, .null, .null, .int 0, .null, .null])), (q2, .inl (g.2.1.1, 103, .inl (fun _ => 0))), (q4, .inl (g.2.1.1, 21, .inl (fun _ => 0))), (q6, .inl (g.2.1.1, 1200, .inl (fun _ => 0))), (q7, .inl (g.2.1.1, 6, .inl (fun _ => 0))), (q108, .inl (g.2.1.1, 10, .inl (fun _ => 0)))] := hD
  have hP := hP.sub (ws' := [(h0, .inr (9, [.ref q1, .ref q2, .ref q3, .ref q4, .ref q5, .int 0, .int 1, .int 0, .ref q6, .int 0, .ref q7, .int 0, .int (-1), .int 0, .int 0, .int 0, .int 0, .int (-1), .ref q8, .ref q104, .int 0, .ref q105, .ref q106, .ref q107, .ref q108, .null, .null, .null, .null, .null, .null, .int 0, .null, .null, .int 0, .null, .null])), (q2, .inl (g.2.1.1, 103, .inl (fun _ => 0))), (q4, .inl (g.2.1.1, 21, .inl (fun _ => 0))), (q6, .inl (g.2.1.1, 1200, .inl (fun _ => 0))), (q7, .inl (g.2.1.1, 6, .inl (fun _ => 0)))]) [0, 1, 2, 3, 4] rfl
  have hD := hD.sub (ws' := [(h0, .inr (9, [.ref q1, .ref q2, .ref q3, .ref q4, .ref q5, .int 0, .int 1, .int 0, .ref q6, .int 0, .ref q7, .int 0, .int (-1), .int 0, .int 0, .int 0, .int 0, .int (-1), .ref q8, .ref q104, .int 0, .ref q105, .ref q106, .ref q107, .ref q108, .null, .null, .null, .null, .null, .null, .int 0, .null, .null, .int 0, .null, .null])), (q2, .inl (g.2.1.1, 103, .inl (fun _ => 0))), (q4, .inl (g.2.1.1, 21, .inl (fun _ => 0))), (q6, .inl (g.2.1.1, 1200, .inl (fun _ => 0))), (q7, .inl (g.2.1.1, 6, .inl (fun _ => 0)))]) [0, 1, 2, 3, 4] (by decide) rfl
  refine lv_aload_n hx hb dX9_init_699 rfl (lv_at hl 0 rfl) ?_
  refine lv_bipush (v := 30) hx hb dX9_init_700 (by decide) ?_
  refine zna (atype := .int) (N' := 30) (a0 := (30, .inl (fun _ => 0))) hx hb (hG _ g306) (ty := .int) rfl 0 rfl (fun _ h9 => va_nm_int h9) hX hP hD hS hA (fun _ => rfl) (by decide) (by decide) (Nat.le_of_ble_eq_true rfl) (Nat.le_of_ble_eq_true rfl) (Nat.le_of_ble_eq_true rfl) dX9_init_702 (fun q109 H hP hD hS => ?_)
  refine W.cs (cells' := 14) (slots' := 2131) rfl rfl ?_
  have hP : va_P g.1 vwCl [(h0, .inr (9, [.ref q1, .ref q2, .ref q3, .ref q4, .ref q5, .int 0, .int 1, .int 0, .ref q6, .int 0, .ref q7, .int 0, .int (-1), .int 0, .int 0, .int 0, .int 0, .int (-1), .ref q8, .ref q104, .int 0, .ref q105, .ref q106, .ref q107, .ref q108, .null, .null, .null, .null, .null, .null, .int 0, .null, .null, .int 0, .null, .null])), (q2, .inl (g.2.1.1, 103, .inl (fun _ => 0))), (q4, .inl (g.2.1.1, 21, .inl (fun _ => 0))), (q6, .inl (g.2.1.1, 1200, .inl (fun _ => 0))), (q7, .inl (g.2.1.1, 6, .inl (fun _ => 0))), (q109, .inl (g.2.1.1, 30, .inl (fun _ => 0)))] H := hP
  have hD : va_D A [(h0, .inr (9, [.ref q1, .ref q2, .ref q3, .ref q4, .ref q5, .int 0, .int 1, .int 0, .ref q6, .int 0, .ref q7, .int 0, .int (-1), .int 0, .int 0, .int 0, .int 0, .int (-1), .ref q8, .ref q104, .int 0, .ref q105, .ref q106, .ref q107, .ref q108, .null, .null, .null, .null, .null, .null, .int 0, .null, .null, .int 0, .null, .null])), (q2, .inl (g.2.1.1, 103, .inl (fun _ => 0))), (q4, .inl (g.2.1.1, 21, .inl (fun _ => 0))), (q6, .inl (g.2.1.1, 1200, .inl (fun _ => 0))), (q7, .inl (g.2.1.1, 6, .inl (fun _ => 0))), (q109, .inl (g.2.1.1, 30, .inl (fun _ => 0)))] := hD
  refine va_putF (D := g.1) (ci := 9) (v := .ref q109) (ty := (.array .int)) (C := RX9) (T := TX9) (N := 37) hx hb hG iX9 tyX9 tyX9_ok nmX9 hown hX.1 hP hD hS 0 rfl rfl 25 (by decide) (hG _ g1442) (fun _ h9 => h9) rfl hnm rfl (by decide +kernel) rfl rfl (Nat.le_of_ble_eq_true rfl) dX9_init_704 (fun H locs hP hD hS => ?_)
  have hP : va_P g.1 vwCl [(h0, .inr (9, [.ref q1, .ref q2, .ref q3, .ref q4, .ref q5, .int 0, .int 1, .int 0, .ref q6, .int 0, .ref q7, .int 0, .int (-1), .int 0, .int 0, .int 0, .int 0, .int (-1), .ref q8, .ref q104, .int 0, .ref q105, .ref q106, .ref q107, .ref q108, .ref q109, .null, .null, .null, .null, .null, .int 0, .null, .null, .int 0, .null, .null])), (q2, .inl (g.2.1.1, 103, .inl (fun _ => 0))), (q4, .inl (g.2.1.1, 21, .inl (fun _ => 0))), (q6, .inl (g.2.1.1, 1200, .inl (fun _ => 0))), (q7, .inl (g.2.1.1, 6, .inl (fun _ => 0))), (q109, .inl (g.2.1.1, 30, .inl (fun _ => 0)))] H := hP
  have hD : va_D A [(h0, .inr (9, [.ref q1, .ref q2, .ref q3, .ref q4, .ref q5, .int 0, .int 1, .int 0, .ref q6, .int 0, .ref q7, .int 0, .int (-1), .int 0, .int 0, .int 0, .int 0, .int (-1), .ref q8, .ref q104, .int 0, .ref q105, .ref q106, .ref q107, .ref q108, .ref q109, .null, .null, .null, .null, .null, .int 0, .null, .null, .int 0, .null, .null])), (q2, .inl (g.2.1.1, 103, .inl (fun _ => 0))), (q4, .inl (g.2.1.1, 21, .inl (fun _ => 0))), (q6, .inl (g.2.1.1, 1200, .inl (fun _ => 0))), (q7, .inl (g.2.1.1, 6, .inl (fun _ => 0))), (q109, .inl (g.2.1.1, 30, .inl (fun _ => 0)))] := hD
  have hP := hP.sub (ws' := [(h0, .inr (9, [.ref q1, .ref q2, .ref q3, .ref q4, .ref q5, .int 0, .int 1, .int 0, .ref q6, .int 0, .ref q7, .int 0, .int (-1), .int 0, .int 0, .int 0, .int 0, .int (-1), .ref q8, .ref q104, .int 0, .ref q105, .ref q106, .ref q107, .ref q108, .ref q109, .null, .null, .null, .null, .null, .int 0, .null, .null, .int 0, .null, .null])), (q2, .inl (g.2.1.1, 103, .inl (fun _ => 0))), (q4, .inl (g.2.1.1, 21, .inl (fun _ => 0))), (q6, .inl (g.2.1.1, 1200, .inl (fun _ => 0))), (q7, .inl (g.2.1.1, 6, .inl (fun _ => 0)))]) [0, 1, 2, 3, 4] rfl
  have hD := hD.sub (ws' := [(h0, .inr (9, [.ref q1, .ref q2, .ref q3, .ref q4, .ref q5, .int 0, .int 1, .int 0, .ref q6, .int 0, .ref q7, .int 0, .int (-1), .int 0, .int 0, .int 0, .int 0, .int (-1), .ref q8, .ref q104, .int 0, .ref q105, .ref q106, .ref q107, .ref q108, .ref q109, .null, .null, .null, .null, .null, .int 0, .null, .null, .int 0, .null, .null])), (q2, .inl (g.2.1.1, 103, .inl (fun _ => 0))), (q4, .inl (g.2.1.1, 21, .inl (fun _ => 0))), (q6, .inl (g.2.1.1, 1200, .inl (fun _ => 0))), (q7, .inl (g.2.1.1, 6, .inl (fun _ => 0)))]) [0, 1, 2, 3, 4] (by decide) rfl
  refine lv_aload_n hx hb dX9_init_707 rfl (lv_at hl 0 rfl) ?_
  refine lv_bipush (v := 30) hx hb dX9_init_708 (by decide) ?_
  refine zna (atype := .int) (N' := 30) (a0 := (30, .inl (fun _ => 0))) hx hb (hG _ g306) (ty := .int) rfl 0 rfl (fun _ h9 => va_nm_int h9) hX hP hD hS hA (fun _ => rfl) (by decide) (by decide) (Nat.le_of_ble_eq_true rfl) (Nat.le_of_ble_eq_true rfl) (Nat.le_of_ble_eq_true rfl) dX9_init_710 (fun q110 H hP hD hS => ?_)
  refine W.cs (cells' := 15) (slots' := 2161) rfl rfl ?_
  have hP : va_P g.1 vwCl [(h0, .inr (9, [.ref q1, .ref q2, .ref q3, .ref q4, .ref q5, .int 0, .int 1, .int 0, .ref q6, .int 0, .ref q7, .int 0, .int (-1), .int 0, .int 0, .int 0, .int 0, .int (-1), .ref q8, .ref q104, .int 0, .ref q105, .ref q106, .ref q107, .ref q108, .ref q109, .null, .null, .null, .null, .null, .int 0, .null, .null, .int 0, .null, .null])), (q2, .inl (g.2.1.1, 103, .inl (fun _ => 0))), (q4, .inl (g.2.1.1, 21, .inl (fun _ => 0))), (q6, .inl (g.2.1.1, 1200, .inl (fun _ => 0))), (q7, .inl (g.2.1.1, 6, .inl (fun _ => 0))), (q110, .inl (g.2.1.1, 30, .inl (fun _ => 0)))] H := hP
  have hD : va_D A [(h0, .inr (9, [.ref q1, .ref q2, .ref q3, .ref q4, .ref q5, .int 0, .int 1, .int 0, .ref q6, .int 0, .ref q7, .int 0, .int (-1), .int 0, .int 0, .int 0, .int 0, .int (-1), .ref q8, .ref q104, .int 0, .ref q105, .ref q106, .ref q107, .ref q108, .ref q109, .null, .null, .null, .null, .null, .int 0, .null, .null, .int 0, .null, .null])), (q2, .inl (g.2.1.1, 103, .inl (fun _ => 0))), (q4, .inl (g.2.1.1, 21, .inl (fun _ => 0))), (q6, .inl (g.2.1.1, 1200, .inl (fun _ => 0))), (q7, .inl (g.2.1.1, 6, .inl (fun _ => 0))), (q110, .inl (g.2.1.1, 30, .inl (fun _ => 0)))] := hD
  refine va_putF (D := g.1) (ci := 9) (v := .ref q110) (ty := (.array .int)) (C := RX9) (T := TX9) (N := 37) hx hb hG iX9 tyX9 tyX9_ok nmX9 hown hX.1 hP hD hS 0 rfl rfl 26 (by decide) (hG _ g1443) (fun _ h9 => h9) rfl hnm rfl (by decide +kernel) rfl rfl (Nat.le_of_ble_eq_true rfl) dX9_init_712 (fun H locs hP hD hS => ?_)
  have hP : va_P g.1 vwCl [(h0, .inr (9, [.ref q1, .ref q2, .ref q3, .ref q4, .ref q5, .int 0, .int 1, .int 0, .ref q6, .int 0, .ref q7, .int 0, .int (-1), .int 0, .int 0, .int 0, .int 0, .int (-1), .ref q8, .ref q104, .int 0, .ref q105, .ref q106, .ref q107, .ref q108, .ref q109, .ref q110, .null, .null, .null, .null, .int 0, .null, .null, .int 0, .null, .null])), (q2, .inl (g.2.1.1, 103, .inl (fun _ => 0))), (q4, .inl (g.2.1.1, 21, .inl (fun _ => 0))), (q6, .inl (g.2.1.1, 1200, .inl (fun _ => 0))), (q7, .inl (g.2.1.1, 6, .inl (fun _ => 0))), (q110, .inl (g.2.1.1, 30, .inl (fun _ => 0)))] H := hP
  have hD : va_D A [(h0, .inr (9, [.ref q1, .ref q2, .ref q3, .ref q4, .ref q5, .int 0, .int 1, .int 0, .ref q6, .int 0, .ref q7, .int 0, .int (-1), .int 0, .int 0, .int 0, .int 0, .int (-1), .ref q8, .ref q104, .int 0, .ref q105, .ref q106, .ref q107, .ref q108, .ref q109, .ref q110, .null, .null, .null, .null, .int 0, .null, .null, .int 0, .null, .null])), (q2, .inl (g.2.1.1, 103, .inl (fun _ => 0))), (q4, .inl (g.2.1.1, 21, .inl (fun _ => 0))), (q6, .inl (g.2.1.1, 1200, .inl (fun _ => 0))), (q7, .inl (g.2.1.1, 6, .inl (fun _ => 0))), (q110, .inl (g.2.1.1, 30, .inl (fun _ => 0)))] := hD
  have hP := hP.sub (ws' := [(h0, .inr (9, [.ref q1, .ref q2, .ref q3, .ref q4, .ref q5, .int 0, .int 1, .int 0, .ref q6, .int 0, .ref q7, .int 0, .int (-1), .int 0, .int 0, .int 0, .int 0, .int (-1), .ref q8, .ref q104, .int 0, .ref q105, .ref q106, .ref q107, .ref q108, .ref q109, .ref q110, .null, .null, .null, .null, .int 0, .null, .null, .int 0, .null, .null])), (q2, .inl (g.2.1.1, 103, .inl (fun _ => 0))), (q4, .inl (g.2.1.1, 21, .inl (fun _ => 0))), (q6, .inl (g.2.1.1, 1200, .inl (fun _ => 0))), (q7, .inl (g.2.1.1, 6, .inl (fun _ => 0)))]) [0, 1, 2, 3, 4] rfl
  have hD := hD.sub (ws' := [(h0, .inr (9, [.ref q1, .ref q2, .ref q3, .ref q4, .ref q5, .int 0, .int 1, .int 0, .ref q6, .int 0, .ref q7, .int 0, .int (-1), .int 0, .int 0, .int 0, .int 0, .int (-1), .ref q8, .ref q104, .int 0, .ref q105, .ref q106, .ref q107, .ref q108, .ref q109, .ref q110, .null, .null, .null, .null, .int 0, .null, .null, .int 0, .null, .null])), (q2, .inl (g.2.1.1, 103, .inl (fun _ => 0))), (q4, .inl (g.2.1.1, 21, .inl (fun _ => 0))), (q6, .inl (g.2.1.1, 1200, .inl (fun _ => 0))), (q7, .inl (g.2.1.1, 6, .inl (fun _ => 0)))]) [0, 1, 2, 3, 4] (by decide) rfl
  refine lv_aload_n hx hb dX9_init_715 rfl (lv_at hl 0 rfl) ?_
  refine lv_sipush (v := 256) hx hb dX9_init_716 (by decide) ?_
  refine zna (atype := .int) (N' := 256) (a0 := (256, .inl (fun _ => 0))) hx hb (hG _ g306) (ty := .int) rfl 0 rfl (fun _ h9 => va_nm_int h9) hX hP hD hS hA (fun _ => rfl) (by decide) (by decide) (Nat.le_of_ble_eq_true rfl) (Nat.le_of_ble_eq_true rfl) (Nat.le_of_ble_eq_true rfl) dX9_init_719 (fun q111 H hP hD hS => ?_)
  refine W.cs (cells' := 16) (slots' := 2417) rfl rfl ?_
  have hP : va_P g.1 vwCl [(h0, .inr (9, [.ref q1, .ref q2, .ref q3, .ref q4, .ref q5, .int 0, .int 1, .int 0, .ref q6, .int 0, .ref q7, .int 0, .int (-1), .int 0, .int 0, .int 0, .int 0, .int (-1), .ref q8, .ref q104, .int 0, .ref q105, .ref q106, .ref q107, .ref q108, .ref q109, .ref q110, .null, .null, .null, .null, .int 0, .null, .null, .int 0, .null, .null])), (q2, .inl (g.2.1.1, 103, .inl (fun _ => 0))), (q4, .inl (g.2.1.1, 21, .inl (fun _ => 0))), (q6, .inl (g.2.1.1, 1200, .inl (fun _ => 0))), (q7, .inl (g.2.1.1, 6, .inl (fun _ => 0))), (q111, .inl (g.2.1.1, 256, .inl (fun _ => 0)))] H := hP
  have hD : va_D A [(h0, .inr (9, [.ref q1, .ref q2, .ref q3, .ref q4, .ref q5, .int 0, .int 1, .int 0, .ref q6, .int 0, .ref q7, .int 0, .int (-1), .int 0, .int 0, .int 0, .int 0, .int (-1), .ref q8, .ref q104, .int 0, .ref q105, .ref q106, .ref q107, .ref q108, .ref q109, .ref q110, .null, .null, .null, .null, .int 0, .null, .null, .int 0, .null, .null])), (q2, .inl (g.2.1.1, 103, .inl (fun _ => 0))), (q4, .inl (g.2.1.1, 21, .inl (fun _ => 0))), (q6, .inl (g.2.1.1, 1200, .inl (fun _ => 0))), (q7, .inl (g.2.1.1, 6, .inl (fun _ => 0))), (q111, .inl (g.2.1.1, 256, .inl (fun _ => 0)))] := hD
  refine va_putF (D := g.1) (ci := 9) (v := .ref q111) (ty := (.array .int)) (C := RX9) (T := TX9) (N := 37) hx hb hG iX9 tyX9 tyX9_ok nmX9 hown hX.1 hP hD hS 0 rfl rfl 27 (by decide) (hG _ g1444) (fun _ h9 => h9) rfl hnm rfl (by decide +kernel) rfl rfl (Nat.le_of_ble_eq_true rfl) dX9_init_721 (fun H locs hP hD hS => ?_)
  have hP : va_P g.1 vwCl [(h0, .inr (9, [.ref q1, .ref q2, .ref q3, .ref q4, .ref q5, .int 0, .int 1, .int 0, .ref q6, .int 0, .ref q7, .int 0, .int (-1), .int 0, .int 0, .int 0, .int 0, .int (-1), .ref q8, .ref q104, .int 0, .ref q105, .ref q106, .ref q107, .ref q108, .ref q109, .ref q110, .ref q111, .null, .null, .null, .int 0, .null, .null, .int 0, .null, .null])), (q2, .inl (g.2.1.1, 103, .inl (fun _ => 0))), (q4, .inl (g.2.1.1, 21, .inl (fun _ => 0))), (q6, .inl (g.2.1.1, 1200, .inl (fun _ => 0))), (q7, .inl (g.2.1.1, 6, .inl (fun _ => 0))), (q111, .inl (g.2.1.1, 256, .inl (fun _ => 0)))] H := hP
  have hD : va_D A [(h0, .inr (9, [.ref q1, .ref q2, .ref q3, .ref q4, .ref q5, .int 0, .int 1, .int 0, .ref q6, .int 0, .ref q7, .int 0, .int (-1), .int 0, .int 0, .int 0, .int 0, .int (-1), .ref q8, .ref q104, .int 0, .ref q105, .ref q106, .ref q107, .ref q108, .ref q109, .ref q110, .ref q111, .null, .null, .null, .int 0, .null, .null, .int 0, .null, .null])), (q2, .inl (g.2.1.1, 103, .inl (fun _ => 0))), (q4, .inl (g.2.1.1, 21, .inl (fun _ => 0))), (q6, .inl (g.2.1.1, 1200, .inl (fun _ => 0))), (q7, .inl (g.2.1.1, 6, .inl (fun _ => 0))), (q111, .inl (g.2.1.1, 256, .inl (fun _ => 0)))] := hD
  have hP := hP.sub (ws' := [(h0, .inr (9, [.ref q1, .ref q2, .ref q3, .ref q4, .ref q5, .int 0, .int 1, .int 0, .ref q6, .int 0, .ref q7, .int 0, .int (-1), .int 0, .int 0, .int 0, .int 0, .int (-1), .ref q8, .ref q104, .int 0, .ref q105, .ref q106, .ref q107, .ref q108, .ref q109, .ref q110, .ref q111, .null, .null, .null, .int 0, .null, .null, .int 0, .null, .null])), (q2, .inl (g.2.1.1, 103, .inl (fun _ => 0))), (q4, .inl (g.2.1.1, 21, .inl (fun _ => 0))), (q6, .inl (g.2.1.1, 1200, .inl (fun _ => 0))), (q7, .inl (g.2.1.1, 6, .inl (fun _ => 0)))]) [0, 1, 2, 3, 4] rfl
  have hD := hD.sub (ws' := [(h0, .inr (9, [.ref q1, .ref q2, .ref q3, .ref q4, .ref q5, .int 0, .int 1, .int 0, .ref q6, .int 0, .ref q7, .int 0, .int (-1), .int 0, .int 0, .int 0, .int 0, .int (-1), .ref q8, .ref q104, .int 0, .ref q105, .ref q106, .ref q107, .ref q108, .ref q109, .ref q110, .ref q111, .null, .null, .null, .int 0, .null, .null, .int 0, .null, .null])), (q2, .inl (g.2.1.1, 103, .inl (fun _ => 0))), (q4, .inl (g.2.1.1, 21, .inl (fun _ => 0))), (q6, .inl (g.2.1.1, 1200, .inl (fun _ => 0))), (q7, .inl (g.2.1.1, 6, .inl (fun _ => 0)))]) [0, 1, 2, 3, 4] (by decide) rfl
  refine lv_aload_n hx hb dX9_init_724 rfl (lv_at hl 0 rfl) ?_
  refine lv_sipush (v := 256) hx hb dX9_init_725 (by decide) ?_
  refine zna (atype := .int) (N' := 256) (a0 := (256, .inl (fun _ => 0))) hx hb (hG _ g306) (ty := .int) rfl 0 rfl (fun _ h9 => va_nm_int h9) hX hP hD hS hA (fun _ => rfl) (by decide) (by decide) (Nat.le_of_ble_eq_true rfl) (Nat.le_of_ble_eq_true rfl) (Nat.le_of_ble_eq_true rfl) dX9_init_728 (fun q112 H hP hD hS => ?_)
  refine W.cs (cells' := 17) (slots' := 2673) rfl rfl ?_
  have hP : va_P g.1 vwCl [(h0, .inr (9, [.ref q1, .ref q2, .ref q3, .ref q4, .ref q5, .int 0, .int 1, .int 0, .ref q6, .int 0, .ref q7, .int 0, .int (-1), .int 0, .int 0, .int 0, .int 0, .int (-1), .ref q8, .ref q104, .int 0, .ref q105, .ref q106, .ref q107, .ref q108, .ref q109, .ref q110, .ref q111, .null, .null, .null, .int 0, .null, .null, .int 0, .null, .null])), (q2, .inl (g.2.1.1, 103, .inl (fun _ => 0))), (q4, .inl (g.2.1.1, 21, .inl (fun _ => 0))), (q6, .inl (g.2.1.1, 1200, .inl (fun _ => 0))), (q7, .inl (g.2.1.1, 6, .inl (fun _ => 0))), (q112, .inl (g.2.1.1, 256, .inl (fun _ => 0)))] H := hP
  have hD : va_D A [(h0, .inr (9, [.ref q1, .ref q2, .ref q3, .ref q4, .ref q5, .int 0, .int 1, .int 0, .ref q6, .int 0, .ref q7, .int 0, .int (-1), .int 0, .int 0, .int 0, .int 0, .int (-1), .ref q8, .ref q104, .int 0, .ref q105, .ref q106, .ref q107, .ref q108, .ref q109, .ref q110, .ref q111, .null, .null, .null, .int 0, .null, .null, .int 0, .null, .null])), (q2, .inl (g.2.1.1, 103, .inl (fun _ => 0))), (q4, .inl (g.2.1.1, 21, .inl (fun _ => 0))), (q6, .inl (g.2.1.1, 1200, .inl (fun _ => 0))), (q7, .inl (g.2.1.1, 6, .inl (fun _ => 0))), (q112, .inl (g.2.1.1, 256, .inl (fun _ => 0)))] := hD
  refine va_putF (D := g.1) (ci := 9) (v := .ref q112) (ty := (.array .int)) (C := RX9) (T := TX9) (N := 37) hx hb hG iX9 tyX9 tyX9_ok nmX9 hown hX.1 hP hD hS 0 rfl rfl 28 (by decide) (hG _ g1445) (fun _ h9 => h9) rfl hnm rfl (by decide +kernel) rfl rfl (Nat.le_of_ble_eq_true rfl) dX9_init_730 (fun H locs hP hD hS => ?_)
  have hP : va_P g.1 vwCl [(h0, .inr (9, [.ref q1, .ref q2, .ref q3, .ref q4, .ref q5, .int 0, .int 1, .int 0, .ref q6, .int 0, .ref q7, .int 0, .int (-1), .int 0, .int 0, .int 0, .int 0, .int (-1), .ref q8, .ref q104, .int 0, .ref q105, .ref q106, .ref q107, .ref q108, .ref q109, .ref q110, .ref q111, .ref q112, .null, .null, .int 0, .null, .null, .int 0, .null, .null])), (q2, .inl (g.2.1.1, 103, .inl (fun _ => 0))), (q4, .inl (g.2.1.1, 21, .inl (fun _ => 0))), (q6, .inl (g.2.1.1, 1200, .inl (fun _ => 0))), (q7, .inl (g.2.1.1, 6, .inl (fun _ => 0))), (q112, .inl (g.2.1.1, 256, .inl (fun _ => 0)))] H := hP
  have hD : va_D A [(h0, .inr (9, [.ref q1, .ref q2, .ref q3, .ref q4, .ref q5, .int 0, .int 1, .int 0, .ref q6, .int 0, .ref q7, .int 0, .int (-1), .int 0, .int 0, .int 0, .int 0, .int (-1), .ref q8, .ref q104, .int 0, .ref q105, .ref q106, .ref q107, .ref q108, .ref q109, .ref q110, .ref q111, .ref q112, .null, .null, .int 0, .null, .null, .int 0, .null, .null])), (q2, .inl (g.2.1.1, 103, .inl (fun _ => 0))), (q4, .inl (g.2.1.1, 21, .inl (fun _ => 0))), (q6, .inl (g.2.1.1, 1200, .inl (fun _ => 0))), (q7, .inl (g.2.1.1, 6, .inl (fun _ => 0))), (q112, .inl (g.2.1.1, 256, .inl (fun _ => 0)))] := hD
  have hP := hP.sub (ws' := [(h0, .inr (9, [.ref q1, .ref q2, .ref q3, .ref q4, .ref q5, .int 0, .int 1, .int 0, .ref q6, .int 0, .ref q7, .int 0, .int (-1), .int 0, .int 0, .int 0, .int 0, .int (-1), .ref q8, .ref q104, .int 0, .ref q105, .ref q106, .ref q107, .ref q108, .ref q109, .ref q110, .ref q111, .ref q112, .null, .null, .int 0, .null, .null, .int 0, .null, .null])), (q2, .inl (g.2.1.1, 103, .inl (fun _ => 0))), (q4, .inl (g.2.1.1, 21, .inl (fun _ => 0))), (q6, .inl (g.2.1.1, 1200, .inl (fun _ => 0))), (q7, .inl (g.2.1.1, 6, .inl (fun _ => 0)))]) [0, 1, 2, 3, 4] rfl
  have hD := hD.sub (ws' := [(h0, .inr (9, [.ref q1, .ref q2, .ref q3, .ref q4, .ref q5, .int 0, .int 1, .int 0, .ref q6, .int 0, .ref q7, .int 0, .int (-1), .int 0, .int 0, .int 0, .int 0, .int (-1), .ref q8, .ref q104, .int 0, .ref q105, .ref q106, .ref q107, .ref q108, .ref q109, .ref q110, .ref q111, .ref q112, .null, .null, .int 0, .null, .null, .int 0, .null, .null])), (q2, .inl (g.2.1.1, 103, .inl (fun _ => 0))), (q4, .inl (g.2.1.1, 21, .inl (fun _ => 0))), (q6, .inl (g.2.1.1, 1200, .inl (fun _ => 0))), (q7, .inl (g.2.1.1, 6, .inl (fun _ => 0)))]) [0, 1, 2, 3, 4] (by decide) rfl
  refine lv_aload_n hx hb dX9_init_733 rfl (lv_at hl 0 rfl) ?_
  refine lv_sipush (v := 256) hx hb dX9_init_734 (by decide) ?_
  refine zna (atype := .boolean) (N' := 256) (a0 := (256, .inl (fun _ => 0))) hx hb (hG _ g1529) (ty := .boolean) rfl 2 rfl (fun _ h9 => va_nm_boolean h9) hX hP hD hS hA (fun _ => rfl) (by decide) (by decide) (Nat.le_of_ble_eq_true rfl) (Nat.le_of_ble_eq_true rfl) (Nat.le_of_ble_eq_true rfl) dX9_init_737 (fun q113 H hP hD hS => ?_)
  refine W.cs (cells' := 18) (slots' := 2929) rfl rfl ?_
  have hP : va_P g.1 vwCl [(h0, .inr (9, [.ref q1, .ref q2, .ref q3, .ref q4, .ref q5, .int 0, .int 1, .int 0, .ref q6, .int 0, .ref q7, .int 0, .int (-1), .int 0, .int 0, .int 0, .int 0, .int (-1), .ref q8, .ref q104, .int 0, .ref q105, .ref q106, .ref q107, .ref q108, .ref q109, .ref q110, .ref q111, .ref q112, .null, .null, .int 0, .null, .null, .int 0, .null, .null])), (q2, .inl (g.2.1.1, 103, .inl (fun _ => 0))), (q4, .inl (g.2.1.1, 21, .inl (fun _ => 0))), (q6, .inl (g.2.1.1, 1200, .inl (fun _ => 0))), (q7, .inl (g.2.1.1, 6, .inl (fun _ => 0))), (q113, .inl (g.2.1.2.2, 256, .inl (fun _ => 0)))] H := hP
  have hD : va_D A [(h0, .inr (9, [.ref q1, .ref q2, .ref q3, .ref q4, .ref q5, .int 0, .int 1, .int 0, .ref q6, .int 0, .ref q7, .int 0, .int (-1), .int 0, .int 0, .int 0, .int 0, .int (-1), .ref q8, .ref q104, .int 0, .ref q105, .ref q106, .ref q107, .ref q108, .ref q109, .ref q110, .ref q111, .ref q112, .null, .null, .int 0, .null, .null, .int 0, .null, .null])), (q2, .inl (g.2.1.1, 103, .inl (fun _ => 0))), (q4, .inl (g.2.1.1, 21, .inl (fun _ => 0))), (q6, .inl (g.2.1.1, 1200, .inl (fun _ => 0))), (q7, .inl (g.2.1.1, 6, .inl (fun _ => 0))), (q113, .inl (g.2.1.2.2, 256, .inl (fun _ => 0)))] := hD
  refine va_putF (D := g.1) (ci := 9) (v := .ref q113) (ty := (.array .boolean)) (C := RX9) (T := TX9) (N := 37) hx hb hG iX9 tyX9 tyX9_ok nmX9 hown hX.1 hP hD hS 0 rfl rfl 29 (by decide) (hG _ g1446) (fun _ h9 => h9) rfl hnm rfl (by decide +kernel) rfl rfl (Nat.le_of_ble_eq_true rfl) dX9_init_739 (fun H locs hP hD hS => ?_)
  have hP : va_P g.1 vwCl [(h0, .inr (9, [.ref q1, .ref q2, .ref q3, .ref q4, .ref q5, .int 0, .int 1, .int 0, .ref q6, .int 0, .ref q7, .int 0, .int (-1), .int 0, .int 0, .int 0, .int 0, .int (-1), .ref q8, .ref q104, .int 0, .ref q105, .ref q106, .ref q107, .ref q108, .ref q109, .ref q110, .ref q111, .ref q112, .ref q113, .null, .int 0, .null, .null, .int 0, .null, .null])), (q2, .inl (g.2.1.1, 103, .inl (fun _ => 0))), (q4, .inl (g.2.1.1, 21, .inl (fun _ => 0))), (q6, .inl (g.2.1.1, 1200, .inl (fun _ => 0))), (q7, .inl (g.2.1.1, 6, .inl (fun _ => 0))), (q113, .inl (g.2.1.2.2, 256, .inl (fun _ => 0)))] H := hP
  have hD : va_D A [(h0, .inr (9, [.ref q1, .ref q2, .ref q3, .ref q4, .ref q5, .int 0, .int 1, .int 0, .ref q6, .int 0, .ref q7, .int 0, .int (-1), .int 0, .int 0, .int 0, .int 0, .int (-1), .ref q8, .ref q104, .int 0, .ref q105, .ref q106, .ref q107, .ref q108, .ref q109, .ref q110, .ref q111, .ref q112, .ref q113, .null, .int 0, .null, .null, .int 0, .null, .null])), (q2, .inl (g.2.1.1, 103, .inl (fun _ => 0))), (q4, .inl (g.2.1.1, 21, .inl (fun _ => 0))), (q6, .inl (g.2.1.1, 1200, .inl (fun _ => 0))), (q7, .inl (g.2.1.1, 6, .inl (fun _ => 0))), (q113, .inl (g.2.1.2.2, 256, .inl (fun _ => 0)))] := hD
  have hP := hP.sub (ws' := [(h0, .inr (9, [.ref q1, .ref q2, .ref q3, .ref q4, .ref q5, .int 0, .int 1, .int 0, .ref q6, .int 0, .ref q7, .int 0, .int (-1), .int 0, .int 0, .int 0, .int 0, .int (-1), .ref q8, .ref q104, .int 0, .ref q105, .ref q106, .ref q107, .ref q108, .ref q109, .ref q110, .ref q111, .ref q112, .ref q113, .null, .int 0, .null, .null, .int 0, .null, .null])), (q2, .inl (g.2.1.1, 103, .inl (fun _ => 0))), (q4, .inl (g.2.1.1, 21, .inl (fun _ => 0))), (q6, .inl (g.2.1.1, 1200, .inl (fun _ => 0))), (q7, .inl (g.2.1.1, 6, .inl (fun _ => 0)))]) [0, 1, 2, 3, 4] rfl
  have hD := hD.sub (ws' := [(h0, .inr (9, [.ref q1, .ref q2, .ref q3, .ref q4, .ref q5, .int 0, .int 1, .int 0, .ref q6, .int 0, .ref q7, .int 0, .int (-1), .int 0, .int 0, .int 0, .int 0, .int (-1), .ref q8, .ref q104, .int 0, .ref q105, .ref q106, .ref q107, .ref q108, .ref q109, .ref q110, .ref q111, .ref q112, .ref q113, .null, .int 0, .null, .null, .int 0, .null, .null])), (q2, .inl (g.2.1.1, 103, .inl (fun _ => 0))), (q4, .inl (g.2.1.1, 21, .inl (fun _ => 0))), (q6, .inl (g.2.1.1, 1200, .inl (fun _ => 0))), (q7, .inl (g.2.1.1, 6, .inl (fun _ => 0)))]) [0, 1, 2, 3, 4] (by decide) rfl
  refine lv_aload_n hx hb dX9_init_742 rfl (lv_at hl 0 rfl) ?_
  refine lv_sipush (v := 6561) hx hb dX9_init_743 (by decide) ?_
  refine zna (atype := .int) (N' := 6561) (a0 := (6561, .inl (fun _ => 0))) hx hb (hG _ g306) (ty := .int) rfl 0 rfl (fun _ h9 => va_nm_int h9) hX hP hD hS hA (fun _ => rfl) (by decide) (by decide) (Nat.le_of_ble_eq_true rfl) (Nat.le_of_ble_eq_true rfl) (Nat.le_of_ble_eq_true rfl) dX9_init_746 (fun q114 H hP hD hS => ?_)
  refine W.cs (cells' := 19) (slots' := 9490) rfl rfl ?_
  have hP : va_P g.1 vwCl [(h0, .inr (9, [.ref q1, .ref q2, .ref q3, .ref q4, .ref q5, .int 0, .int 1, .int 0, .ref q6, .int 0, .ref q7, .int 0, .int (-1), .int 0, .int 0, .int 0, .int 0, .int (-1), .ref q8, .ref q104, .int 0, .ref q105, .ref q106, .ref q107, .ref q108, .ref q109, .ref q110, .ref q111, .ref q112, .ref q113, .null, .int 0, .null, .null, .int 0, .null, .null])), (q2, .inl (g.2.1.1, 103, .inl (fun _ => 0))), (q4, .inl (g.2.1.1, 21, .inl (fun _ => 0))), (q6, .inl (g.2.1.1, 1200, .inl (fun _ => 0))), (q7, .inl (g.2.1.1, 6, .inl (fun _ => 0))), (q114, .inl (g.2.1.1, 6561, .inl (fun _ => 0)))] H := hP
  have hD : va_D A [(h0, .inr (9, [.ref q1, .ref q2, .ref q3, .ref q4, .ref q5, .int 0, .int 1, .int 0, .ref q6, .int 0, .ref q7, .int 0, .int (-1), .int 0, .int 0, .int 0, .int 0, .int (-1), .ref q8, .ref q104, .int 0, .ref q105, .ref q106, .ref q107, .ref q108, .ref q109, .ref q110, .ref q111, .ref q112, .ref q113, .null, .int 0, .null, .null, .int 0, .null, .null])), (q2, .inl (g.2.1.1, 103, .inl (fun _ => 0))), (q4, .inl (g.2.1.1, 21, .inl (fun _ => 0))), (q6, .inl (g.2.1.1, 1200, .inl (fun _ => 0))), (q7, .inl (g.2.1.1, 6, .inl (fun _ => 0))), (q114, .inl (g.2.1.1, 6561, .inl (fun _ => 0)))] := hD
  refine va_putF (D := g.1) (ci := 9) (v := .ref q114) (ty := (.array .int)) (C := RX9) (T := TX9) (N := 37) hx hb hG iX9 tyX9 tyX9_ok nmX9 hown hX.1 hP hD hS 0 rfl rfl 30 (by decide) (hG _ g1447) (fun _ h9 => h9) rfl hnm rfl (by decide +kernel) rfl rfl (Nat.le_of_ble_eq_true rfl) dX9_init_748 (fun H locs hP hD hS => ?_)
  have hP : va_P g.1 vwCl [(h0, .inr (9, [.ref q1, .ref q2, .ref q3, .ref q4, .ref q5, .int 0, .int 1, .int 0, .ref q6, .int 0, .ref q7, .int 0, .int (-1), .int 0, .int 0, .int 0, .int 0, .int (-1), .ref q8, .ref q104, .int 0, .ref q105, .ref q106, .ref q107, .ref q108, .ref q109, .ref q110, .ref q111, .ref q112, .ref q113, .ref q114, .int 0, .null, .null, .int 0, .null, .null])), (q2, .inl (g.2.1.1, 103, .inl (fun _ => 0))), (q4, .inl (g.2.1.1, 21, .inl (fun _ => 0))), (q6, .inl (g.2.1.1, 1200, .inl (fun _ => 0))), (q7, .inl (g.2.1.1, 6, .inl (fun _ => 0))), (q114, .inl (g.2.1.1, 6561, .inl (fun _ => 0)))] H := hP
  have hD : va_D A [(h0, .inr (9, [.ref q1, .ref q2, .ref q3, .ref q4, .ref q5, .int 0, .int 1, .int 0, .ref q6, .int 0, .ref q7, .int 0, .int (-1), .int 0, .int 0, .int 0, .int 0, .int (-1), .ref q8, .ref q104, .int 0, .ref q105, .ref q106, .ref q107, .ref q108, .ref q109, .ref q110, .ref q111, .ref q112, .ref q113, .ref q114, .int 0, .null, .null, .int 0, .null, .null])), (q2, .inl (g.2.1.1, 103, .inl (fun _ => 0))), (q4, .inl (g.2.1.1, 21, .inl (fun _ => 0))), (q6, .inl (g.2.1.1, 1200, .inl (fun _ => 0))), (q7, .inl (g.2.1.1, 6, .inl (fun _ => 0))), (q114, .inl (g.2.1.1, 6561, .inl (fun _ => 0)))] := hD
  have hP := hP.sub (ws' := [(h0, .inr (9, [.ref q1, .ref q2, .ref q3, .ref q4, .ref q5, .int 0, .int 1, .int 0, .ref q6, .int 0, .ref q7, .int 0, .int (-1), .int 0, .int 0, .int 0, .int 0, .int (-1), .ref q8, .ref q104, .int 0, .ref q105, .ref q106, .ref q107, .ref q108, .ref q109, .ref q110, .ref q111, .ref q112, .ref q113, .ref q114, .int 0, .null, .null, .int 0, .null, .null])), (q2, .inl (g.2.1.1, 103, .inl (fun _ => 0))), (q4, .inl (g.2.1.1, 21, .inl (fun _ => 0))), (q6, .inl (g.2.1.1, 1200, .inl (fun _ => 0))), (q7, .inl (g.2.1.1, 6, .inl (fun _ => 0)))]) [0, 1, 2, 3, 4] rfl
  have hD := hD.sub (ws' := [(h0, .inr (9, [.ref q1, .ref q2, .ref q3, .ref q4, .ref q5, .int 0, .int 1, .int 0, .ref q6, .int 0, .ref q7, .int 0, .int (-1), .int 0, .int 0, .int 0, .int 0, .int (-1), .ref q8, .ref q104, .int 0, .ref q105, .ref q106, .ref q107, .ref q108, .ref q109, .ref q110, .ref q111, .ref q112, .ref q113, .ref q114, .int 0, .null, .null, .int 0, .null, .null])), (q2, .inl (g.2.1.1, 103, .inl (fun _ => 0))), (q4, .inl (g.2.1.1, 21, .inl (fun _ => 0))), (q6, .inl (g.2.1.1, 1200, .inl (fun _ => 0))), (q7, .inl (g.2.1.1, 6, .inl (fun _ => 0)))]) [0, 1, 2, 3, 4] (by decide) rfl
  refine lv_aload_n hx hb dX9_init_751 rfl (lv_at hl 0 rfl) ?_
  refine lv_iconst (v := 0) hx hb dX9_init_752 (by decide) ?_
  refine va_put (D := g.1) (ci := 9) (v := .int 0) (ty := .int) (C := RX9) (T := TX9) (N := 37) hx hb hG iX9 tyX9 tyX9_ok nmX9 hown hX.1 hP hD hS 0 rfl rfl 31 (by decide) (hG _ g1448) (fun _ h9 => h9) rfl (by decide +kernel) rfl rfl (Nat.le_of_ble_eq_true rfl) dX9_init_753 (fun H locs hP hD hS => ?_)
  have hP : va_P g.1 vwCl [(h0, .inr (9, [.ref q1, .ref q2, .ref q3, .ref q4, .ref q5, .int 0, .int 1, .int 0, .ref q6, .int 0, .ref q7, .int 0, .int (-1), .int 0, .int 0, .int 0, .int 0, .int (-1), .ref q8, .ref q104, .int 0, .ref q105, .ref q106, .ref q107, .ref q108, .ref q109, .ref q110, .ref q111, .ref q112, .ref q113, .ref q114, .int 0, .null, .null, .int 0, .null, .null])), (q2, .inl (g.2.1.1, 103, .inl (fun _ => 0))), (q4, .inl (g.2.1.1, 21, .inl (fun _ => 0))), (q6, .inl (g.2.1.1, 1200, .inl (fun _ => 0))), (q7, .inl (g.2.1.1, 6, .inl (fun _ => 0)))] H := hP
  have hD : va_D A [(h0, .inr (9, [.ref q1, .ref q2, .ref q3, .ref q4, .ref q5, .int 0, .int 1, .int 0, .ref q6, .int 0, .ref q7, .int 0, .int (-1), .int 0, .int 0, .int 0, .int 0, .int (-1), .ref q8, .ref q104, .int 0, .ref q105, .ref q106, .ref q107, .ref q108, .ref q109, .ref q110, .ref q111, .ref q112, .ref q113, .ref q114, .int 0, .null, .null, .int 0, .null, .null])), (q2, .inl (g.2.1.1, 103, .inl (fun _ => 0))), (q4, .inl (g.2.1.1, 21, .inl (fun _ => 0))), (q6, .inl (g.2.1.1, 1200, .inl (fun _ => 0))), (q7, .inl (g.2.1.1, 6, .inl (fun _ => 0)))] := hD
  refine lv_aload_n hx hb dX9_init_756 rfl (lv_at hl 0 rfl) ?_
  refine lv_sipush (v := 2304) hx hb dX9_init_757 (by decide) ?_
  refine zna (atype := .int) (N' := 2304) (a0 := (2304, .inl (fun _ => 0))) hx hb (hG _ g306) (ty := .int) rfl 0 rfl (fun _ h9 => va_nm_int h9) hX hP hD hS hA (fun _ => rfl) (by decide) (by decide) (Nat.le_of_ble_eq_true rfl) (Nat.le_of_ble_eq_true rfl) (Nat.le_of_ble_eq_true rfl) dX9_init_760 (fun q115 H hP hD hS => ?_)
  refine W.cs (cells' := 20) (slots' := 11794) rfl rfl ?_
  have hP : va_P g.1 vwCl [(h0, .inr (9, [.ref q1, .ref q2, .ref q3, .ref q4, .ref q5, .int 0, .int 1, .int 0, .ref q6, .int 0, .ref q7, .int 0, .int (-1), .int 0, .int 0, .int 0, .int 0, .int (-1), .ref q8, .ref q104, .int 0, .ref q105, .ref q106, .ref q107, .ref q108, .ref q109, .ref q110, .ref q111, .ref q112, .ref q113, .ref q114, .int 0, .null, .null, .int 0, .null, .null])), (q2, .inl (g.2.1.1, 103, .inl (fun _ => 0))), (q4, .inl (g.2.1.1, 21, .inl (fun _ => 0))), (q6, .inl (g.2.1.1, 1200, .inl (fun _ => 0))), (q7, .inl (g.2.1.1, 6, .inl (fun _ => 0))), (q115, .inl (g.2.1.1, 2304, .inl (fun _ => 0)))] H := hP
  have hD : va_D A [(h0, .inr (9, [.ref q1, .ref q2, .ref q3, .ref q4, .ref q5, .int 0, .int 1, .int 0, .ref q6, .int 0, .ref q7, .int 0, .int (-1), .int 0, .int 0, .int 0, .int 0, .int (-1), .ref q8, .ref q104, .int 0, .ref q105, .ref q106, .ref q107, .ref q108, .ref q109, .ref q110, .ref q111, .ref q112, .ref q113, .ref q114, .int 0, .null, .null, .int 0, .null, .null])), (q2, .inl (g.2.1.1, 103, .inl (fun _ => 0))), (q4, .inl (g.2.1.1, 21, .inl (fun _ => 0))), (q6, .inl (g.2.1.1, 1200, .inl (fun _ => 0))), (q7, .inl (g.2.1.1, 6, .inl (fun _ => 0))), (q115, .inl (g.2.1.1, 2304, .inl (fun _ => 0)))] := hD
  refine va_putF (D := g.1) (ci := 9) (v := .ref q115) (ty := (.array .int)) (C := RX9) (T := TX9) (N := 37) hx hb hG iX9 tyX9 tyX9_ok nmX9 hown hX.1 hP hD hS 0 rfl rfl 32 (by decide) (hG _ g1449) (fun _ h9 => h9) rfl hnm rfl (by decide +kernel) rfl rfl (Nat.le_of_ble_eq_true rfl) dX9_init_762 (fun H locs hP hD hS => ?_)
  have hP : va_P g.1 vwCl [(h0, .inr (9, [.ref q1, .ref q2, .ref q3, .ref q4, .ref q5, .int 0, .int 1, .int 0, .ref q6, .int 0, .ref q7, .int 0, .int (-1), .int 0, .int 0, .int 0, .int 0, .int (-1), .ref q8, .ref q104, .int 0, .ref q105, .ref q106, .ref q107, .ref q108, .ref q109, .ref q110, .ref q111, .ref q112, .ref q113, .ref q114, .int 0, .ref q115, .null, .int 0, .null, .null])), (q2, .inl (g.2.1.1, 103, .inl (fun _ => 0))), (q4, .inl (g.2.1.1, 21, .inl (fun _ => 0))), (q6, .inl (g.2.1.1, 1200, .inl (fun _ => 0))), (q7, .inl (g.2.1.1, 6, .inl (fun _ => 0))), (q115, .inl (g.2.1.1, 2304, .inl (fun _ => 0)))] H := hP
  have hD : va_D A [(h0, .inr (9, [.ref q1, .ref q2, .ref q3, .ref q4, .ref q5, .int 0, .int 1, .int 0, .ref q6, .int 0, .ref q7, .int 0, .int (-1), .int 0, .int 0, .int 0, .int 0, .int (-1), .ref q8, .ref q104, .int 0, .ref q105, .ref q106, .ref q107, .ref q108, .ref q109, .ref q110, .ref q111, .ref q112, .ref q113, .ref q114, .int 0, .ref q115, .null, .int 0, .null, .null])), (q2, .inl (g.2.1.1, 103, .inl (fun _ => 0))), (q4, .inl (g.2.1.1, 21, .inl (fun _ => 0))), (q6, .inl (g.2.1.1, 1200, .inl (fun _ => 0))), (q7, .inl (g.2.1.1, 6, .inl (fun _ => 0))), (q115, .inl (g.2.1.1, 2304, .inl (fun _ => 0)))] := hD
  have hP := hP.sub (ws' := [(h0, .inr (9, [.ref q1, .ref q2, .ref q3, .ref q4, .ref q5, .int 0, .int 1, .int 0, .ref q6, .int 0, .ref q7, .int 0, .int (-1), .int 0, .int 0, .int 0, .int 0, .int (-1), .ref q8, .ref q104, .int 0, .ref q105, .ref q106, .ref q107, .ref q108, .ref q109, .ref q110, .ref q111, .ref q112, .ref q113, .ref q114, .int 0, .ref q115, .null, .int 0, .null, .null])), (q2, .inl (g.2.1.1, 103, .inl (fun _ => 0))), (q4, .inl (g.2.1.1, 21, .inl (fun _ => 0))), (q6, .inl (g.2.1.1, 1200, .inl (fun _ => 0))), (q7, .inl (g.2.1.1, 6, .inl (fun _ => 0)))]) [0, 1, 2, 3, 4] rfl
  have hD := hD.sub (ws' := [(h0, .inr (9, [.ref q1, .ref q2, .ref q3, .ref q4, .ref q5, .int 0, .int 1, .int 0, .ref q6, .int 0, .ref q7, .int 0, .int (-1), .int 0, .int 0, .int 0, .int 0, .int (-1), .ref q8, .ref q104, .int 0, .ref q105, .ref q106, .ref q107, .ref q108, .ref q109, .ref q110, .ref q111, .ref q112, .ref q113, .ref q114, .int 0, .ref q115, .null, .int 0, .null, .null])), (q2, .inl (g.2.1.1, 103, .inl (fun _ => 0))), (q4, .inl (g.2.1.1, 21, .inl (fun _ => 0))), (q6, .inl (g.2.1.1, 1200, .inl (fun _ => 0))), (q7, .inl (g.2.1.1, 6, .inl (fun _ => 0)))]) [0, 1, 2, 3, 4] (by decide) rfl
  refine lv_aload_n hx hb dX9_init_765 rfl (lv_at hl 0 rfl) ?_
  refine lv_bipush (v := 9) hx hb dX9_init_766 (by decide) ?_
  refine zna (atype := .int) (N' := 9) (a0 := (9, .inl (fun _ => 0))) hx hb (hG _ g306) (ty := .int) rfl 0 rfl (fun _ h9 => va_nm_int h9) hX hP hD hS hA (fun _ => rfl) (by decide) (by decide) (Nat.le_of_ble_eq_true rfl) (Nat.le_of_ble_eq_true rfl) (Nat.le_of_ble_eq_true rfl) dX9_init_768 (fun q116 H hP hD hS => ?_)
  refine W.cs (cells' := 21) (slots' := 11803) rfl rfl ?_
  have hP : va_P g.1 vwCl [(h0, .inr (9, [.ref q1, .ref q2, .ref q3, .ref q4, .ref q5, .int 0, .int 1, .int 0, .ref q6, .int 0, .ref q7, .int 0, .int (-1), .int 0, .int 0, .int 0, .int 0, .int (-1), .ref q8, .ref q104, .int 0, .ref q105, .ref q106, .ref q107, .ref q108, .ref q109, .ref q110, .ref q111, .ref q112, .ref q113, .ref q114, .int 0, .ref q115, .null, .int 0, .null, .null])), (q2, .inl (g.2.1.1, 103, .inl (fun _ => 0))), (q4, .inl (g.2.1.1, 21, .inl (fun _ => 0))), (q6, .inl (g.2.1.1, 1200, .inl (fun _ => 0))), (q7, .inl (g.2.1.1, 6, .inl (fun _ => 0))), (q116, .inl (g.2.1.1, 9, .inl (fun _ => 0)))] H := hP
  have hD : va_D A [(h0, .inr (9, [.ref q1, .ref q2, .ref q3, .ref q4, .ref q5, .int 0, .int 1, .int 0, .ref q6, .int 0, .ref q7, .int 0, .int (-1), .int 0, .int 0, .int 0, .int 0, .int (-1), .ref q8, .ref q104, .int 0, .ref q105, .ref q106, .ref q107, .ref q108, .ref q109, .ref q110, .ref q111, .ref q112, .ref q113, .ref q114, .int 0, .ref q115, .null, .int 0, .null, .null])), (q2, .inl (g.2.1.1, 103, .inl (fun _ => 0))), (q4, .inl (g.2.1.1, 21, .inl (fun _ => 0))), (q6, .inl (g.2.1.1, 1200, .inl (fun _ => 0))), (q7, .inl (g.2.1.1, 6, .inl (fun _ => 0))), (q116, .inl (g.2.1.1, 9, .inl (fun _ => 0)))] := hD
  refine va_putF (D := g.1) (ci := 9) (v := .ref q116) (ty := (.array .int)) (C := RX9) (T := TX9) (N := 37) hx hb hG iX9 tyX9 tyX9_ok nmX9 hown hX.1 hP hD hS 0 rfl rfl 33 (by decide) (hG _ g1450) (fun _ h9 => h9) rfl hnm rfl (by decide +kernel) rfl rfl (Nat.le_of_ble_eq_true rfl) dX9_init_770 (fun H locs hP hD hS => ?_)
  have hP : va_P g.1 vwCl [(h0, .inr (9, [.ref q1, .ref q2, .ref q3, .ref q4, .ref q5, .int 0, .int 1, .int 0, .ref q6, .int 0, .ref q7, .int 0, .int (-1), .int 0, .int 0, .int 0, .int 0, .int (-1), .ref q8, .ref q104, .int 0, .ref q105, .ref q106, .ref q107, .ref q108, .ref q109, .ref q110, .ref q111, .ref q112, .ref q113, .ref q114, .int 0, .ref q115, .ref q116, .int 0, .null, .null])), (q2, .inl (g.2.1.1, 103, .inl (fun _ => 0))), (q4, .inl (g.2.1.1, 21, .inl (fun _ => 0))), (q6, .inl (g.2.1.1, 1200, .inl (fun _ => 0))), (q7, .inl (g.2.1.1, 6, .inl (fun _ => 0))), (q116, .inl (g.2.1.1, 9, .inl (fun _ => 0)))] H := hP
  have hD : va_D A [(h0, .inr (9, [.ref q1, .ref q2, .ref q3, .ref q4, .ref q5, .int 0, .int 1, .int 0, .ref q6, .int 0, .ref q7, .int 0, .int (-1), .int 0, .int 0, .int 0, .int 0, .int (-1), .ref q8, .ref q104, .int 0, .ref q105, .ref q106, .ref q107, .ref q108, .ref q109, .ref q110, .ref q111, .ref q112, .ref q113, .ref q114, .int 0, .ref q115, .ref q116, .int 0, .null, .null])), (q2, .inl (g.2.1.1, 103, .inl (fun _ => 0))), (q4, .inl (g.2.1.1, 21, .inl (fun _ => 0))), (q6, .inl (g.2.1.1, 1200, .inl (fun _ => 0))), (q7, .inl (g.2.1.1, 6, .inl (fun _ => 0))), (q116, .inl (g.2.1.1, 9, .inl (fun _ => 0)))] := hD
  have hP := hP.sub (ws' := [(h0, .inr (9, [.ref q1, .ref q2, .ref q3, .ref q4, .ref q5, .int 0, .int 1, .int 0, .ref q6, .int 0, .ref q7, .int 0, .int (-1), .int 0, .int 0, .int 0, .int 0, .int (-1), .ref q8, .ref q104, .int 0, .ref q105, .ref q106, .ref q107, .ref q108, .ref q109, .ref q110, .ref q111, .ref q112, .ref q113, .ref q114, .int 0, .ref q115, .ref q116, .int 0, .null, .null])), (q2, .inl (g.2.1.1, 103, .inl (fun _ => 0))), (q4, .inl (g.2.1.1, 21, .inl (fun _ => 0))), (q6, .inl (g.2.1.1, 1200, .inl (fun _ => 0))), (q7, .inl (g.2.1.1, 6, .inl (fun _ => 0)))]) [0, 1, 2, 3, 4] rfl
  have hD := hD.sub (ws' := [(h0, .inr (9, [.ref q1, .ref q2, .ref q3, .ref q4, .ref q5, .int 0, .int 1, .int 0, .ref q6, .int 0, .ref q7, .int 0, .int (-1), .int 0, .int 0, .int 0, .int 0, .int (-1), .ref q8, .ref q104, .int 0, .ref q105, .ref q106, .ref q107, .ref q108, .ref q109, .ref q110, .ref q111, .ref q112, .ref q113, .ref q114, .int 0, .ref q115, .ref q116, .int 0, .null, .null])), (q2, .inl (g.2.1.1, 103, .inl (fun _ => 0))), (q4, .inl (g.2.1.1, 21, .inl (fun _ => 0))), (q6, .inl (g.2.1.1, 1200, .inl (fun _ => 0))), (q7, .inl (g.2.1.1, 6, .inl (fun _ => 0)))]) [0, 1, 2, 3, 4] (by decide) rfl
  refine lv_aload_n hx hb dX9_init_773 rfl (lv_at hl 0 rfl) ?_
  refine lv_iconst (v := 0) hx hb dX9_init_774 (by decide) ?_
  refine va_put (D := g.1) (ci := 9) (v := .int 0) (ty := .int) (C := RX9) (T := TX9) (N := 37) hx hb hG iX9 tyX9 tyX9_ok nmX9 hown hX.1 hP hD hS 0 rfl rfl 34 (by decide) (hG _ g1451) (fun _ h9 => h9) rfl (by decide +kernel) rfl rfl (Nat.le_of_ble_eq_true rfl) dX9_init_775 (fun H locs hP hD hS => ?_)
  have hP : va_P g.1 vwCl [(h0, .inr (9, [.ref q1, .ref q2, .ref q3, .ref q4, .ref q5, .int 0, .int 1, .int 0, .ref q6, .int 0, .ref q7, .int 0, .int (-1), .int 0, .int 0, .int 0, .int 0, .int (-1), .ref q8, .ref q104, .int 0, .ref q105, .ref q106, .ref q107, .ref q108, .ref q109, .ref q110, .ref q111, .ref q112, .ref q113, .ref q114, .int 0, .ref q115, .ref q116, .int 0, .null, .null])), (q2, .inl (g.2.1.1, 103, .inl (fun _ => 0))), (q4, .inl (g.2.1.1, 21, .inl (fun _ => 0))), (q6, .inl (g.2.1.1, 1200, .inl (fun _ => 0))), (q7, .inl (g.2.1.1, 6, .inl (fun _ => 0)))] H := hP
  have hD : va_D A [(h0, .inr (9, [.ref q1, .ref q2, .ref q3, .ref q4, .ref q5, .int 0, .int 1, .int 0, .ref q6, .int 0, .ref q7, .int 0, .int (-1), .int 0, .int 0, .int 0, .int 0, .int (-1), .ref q8, .ref q104, .int 0, .ref q105, .ref q106, .ref q107, .ref q108, .ref q109, .ref q110, .ref q111, .ref q112, .ref q113, .ref q114, .int 0, .ref q115, .ref q116, .int 0, .null, .null])), (q2, .inl (g.2.1.1, 103, .inl (fun _ => 0))), (q4, .inl (g.2.1.1, 21, .inl (fun _ => 0))), (q6, .inl (g.2.1.1, 1200, .inl (fun _ => 0))), (q7, .inl (g.2.1.1, 6, .inl (fun _ => 0)))] := hD
  refine lv_aload_n hx hb dX9_init_778 rfl (lv_at hl 0 rfl) ?_
  refine lv_bipush (v := 8) hx hb dX9_init_779 (by decide) ?_
  refine zna (atype := .int) (N' := 8) (a0 := (8, .inl (fun _ => 0))) hx hb (hG _ g306) (ty := .int) rfl 0 rfl (fun _ h9 => va_nm_int h9) hX hP hD hS hA (fun _ => rfl) (by decide) (by decide) (Nat.le_of_ble_eq_true rfl) (Nat.le_of_ble_eq_true rfl) (Nat.le_of_ble_eq_true rfl) dX9_init_781 (fun q117 H hP hD hS => ?_)
  refine W.cs (cells' := 22) (slots' := 11811) rfl rfl ?_
  have hP : va_P g.1 vwCl [(h0, .inr (9, [.ref q1, .ref q2, .ref q3, .ref q4, .ref q5, .int 0, .int 1, .int 0, .ref q6, .int 0, .ref q7, .int 0, .int (-1), .int 0, .int 0, .int 0, .int 0, .int (-1), .ref q8, .ref q104, .int 0, .ref q105, .ref q106, .ref q107, .ref q108, .ref q109, .ref q110, .ref q111, .ref q112, .ref q113, .ref q114, .int 0, .ref q115, .ref q116, .int 0, .null, .null])), (q2, .inl (g.2.1.1, 103, .inl (fun _ => 0))), (q4, .inl (g.2.1.1, 21, .inl (fun _ => 0))), (q6, .inl (g.2.1.1, 1200, .inl (fun _ => 0))), (q7, .inl (g.2.1.1, 6, .inl (fun _ => 0))), (q117, .inl (g.2.1.1, 8, .inl (fun _ => 0)))] H := hP
  have hD : va_D A [(h0, .inr (9, [.ref q1, .ref q2, .ref q3, .ref q4, .ref q5, .int 0, .int 1, .int 0, .ref q6, .int 0, .ref q7, .int 0, .int (-1), .int 0, .int 0, .int 0, .int 0, .int (-1), .ref q8, .ref q104, .int 0, .ref q105, .ref q106, .ref q107, .ref q108, .ref q109, .ref q110, .ref q111, .ref q112, .ref q113, .ref q114, .int 0, .ref q115, .ref q116, .int 0, .null, .null])), (q2, .inl (g.2.1.1, 103, .inl (fun _ => 0))), (q4, .inl (g.2.1.1, 21, .inl (fun _ => 0))), (q6, .inl (g.2.1.1, 1200, .inl (fun _ => 0))), (q7, .inl (g.2.1.1, 6, .inl (fun _ => 0))), (q117, .inl (g.2.1.1, 8, .inl (fun _ => 0)))] := hD
  refine va_putF (D := g.1) (ci := 9) (v := .ref q117) (ty := (.array .int)) (C := RX9) (T := TX9) (N := 37) hx hb hG iX9 tyX9 tyX9_ok nmX9 hown hX.1 hP hD hS 0 rfl rfl 35 (by decide) (hG _ g1452) (fun _ h9 => h9) rfl hnm rfl (by decide +kernel) rfl rfl (Nat.le_of_ble_eq_true rfl) dX9_init_783 (fun H locs hP hD hS => ?_)
  have hP : va_P g.1 vwCl [(h0, .inr (9, [.ref q1, .ref q2, .ref q3, .ref q4, .ref q5, .int 0, .int 1, .int 0, .ref q6, .int 0, .ref q7, .int 0, .int (-1), .int 0, .int 0, .int 0, .int 0, .int (-1), .ref q8, .ref q104, .int 0, .ref q105, .ref q106, .ref q107, .ref q108, .ref q109, .ref q110, .ref q111, .ref q112, .ref q113, .ref q114, .int 0, .ref q115, .ref q116, .int 0, .ref q117, .null])), (q2, .inl (g.2.1.1, 103, .inl (fun _ => 0))), (q4, .inl (g.2.1.1, 21, .inl (fun _ => 0))), (q6, .inl (g.2.1.1, 1200, .inl (fun _ => 0))), (q7, .inl (g.2.1.1, 6, .inl (fun _ => 0))), (q117, .inl (g.2.1.1, 8, .inl (fun _ => 0)))] H := hP
  have hD : va_D A [(h0, .inr (9, [.ref q1, .ref q2, .ref q3, .ref q4, .ref q5, .int 0, .int 1, .int 0, .ref q6, .int 0, .ref q7, .int 0, .int (-1), .int 0, .int 0, .int 0, .int 0, .int (-1), .ref q8, .ref q104, .int 0, .ref q105, .ref q106, .ref q107, .ref q108, .ref q109, .ref q110, .ref q111, .ref q112, .ref q113, .ref q114, .int 0, .ref q115, .ref q116, .int 0, .ref q117, .null])), (q2, .inl (g.2.1.1, 103, .inl (fun _ => 0))), (q4, .inl (g.2.1.1, 21, .inl (fun _ => 0))), (q6, .inl (g.2.1.1, 1200, .inl (fun _ => 0))), (q7, .inl (g.2.1.1, 6, .inl (fun _ => 0))), (q117, .inl (g.2.1.1, 8, .inl (fun _ => 0)))] := hD
  have hP := hP.sub (ws' := [(h0, .inr (9, [.ref q1, .ref q2, .ref q3, .ref q4, .ref q5, .int 0, .int 1, .int 0, .ref q6, .int 0, .ref q7, .int 0, .int (-1), .int 0, .int 0, .int 0, .int 0, .int (-1), .ref q8, .ref q104, .int 0, .ref q105, .ref q106, .ref q107, .ref q108, .ref q109, .ref q110, .ref q111, .ref q112, .ref q113, .ref q114, .int 0, .ref q115, .ref q116, .int 0, .ref q117, .null])), (q2, .inl (g.2.1.1, 103, .inl (fun _ => 0))), (q4, .inl (g.2.1.1, 21, .inl (fun _ => 0))), (q6, .inl (g.2.1.1, 1200, .inl (fun _ => 0))), (q7, .inl (g.2.1.1, 6, .inl (fun _ => 0)))]) [0, 1, 2, 3, 4] rfl
  have hD := hD.sub (ws' := [(h0, .inr (9, [.ref q1, .ref q2, .ref q3, .ref q4, .ref q5, .int 0, .int 1, .int 0, .ref q6, .int 0, .ref q7, .int 0, .int (-1), .int 0, .int 0, .int 0, .int 0, .int (-1), .ref q8, .ref q104, .int 0, .ref q105, .ref q106, .ref q107, .ref q108, .ref q109, .ref q110, .ref q111, .ref q112, .ref q113, .ref q114, .int 0, .ref q115, .ref q116, .int 0, .ref q117, .null])), (q2, .inl (g.2.1.1, 103, .inl (fun _ => 0))), (q4, .inl (g.2.1.1, 21, .inl (fun _ => 0))), (q6, .inl (g.2.1.1, 1200, .inl (fun _ => 0))), (q7, .inl (g.2.1.1, 6, .inl (fun _ => 0)))]) [0, 1, 2, 3, 4] (by decide) rfl
  refine lv_aload_n hx hb dX9_init_786 rfl (lv_at hl 0 rfl) ?_
  refine lv_bipush (v := 8) hx hb dX9_init_787 (by decide) ?_
  refine zna (atype := .int) (N' := 8) (a0 := (8, .inl (fun _ => 0))) hx hb (hG _ g306) (ty := .int) rfl 0 rfl (fun _ h9 => va_nm_int h9) hX hP hD hS hA (fun _ => rfl) (by decide) (by decide) (Nat.le_of_ble_eq_true rfl) (Nat.le_of_ble_eq_true rfl) (Nat.le_of_ble_eq_true rfl) dX9_init_789 (fun q118 H hP hD hS => ?_)
  refine W.cs (cells' := 23) (slots' := 11819) rfl rfl ?_
  have hP : va_P g.1 vwCl [(h0, .inr (9, [.ref q1, .ref q2, .ref q3, .ref q4, .ref q5, .int 0, .int 1, .int 0, .ref q6, .int 0, .ref q7, .int 0, .int (-1), .int 0, .int 0, .int 0, .int 0, .int (-1), .ref q8, .ref q104, .int 0, .ref q105, .ref q106, .ref q107, .ref q108, .ref q109, .ref q110, .ref q111, .ref q112, .ref q113, .ref q114, .int 0, .ref q115, .ref q116, .int 0, .ref q117, .null])), (q2, .inl (g.2.1.1, 103, .inl (fun _ => 0))), (q4, .inl (g.2.1.1, 21, .inl (fun _ => 0))), (q6, .inl (g.2.1.1, 1200, .inl (fun _ => 0))), (q7, .inl (g.2.1.1, 6, .inl (fun _ => 0))), (q118, .inl (g.2.1.1, 8, .inl (fun _ => 0)))] H := hP
  have hD : va_D A [(h0, .inr (9, [.ref q1, .ref q2, .ref q3, .ref q4, .ref q5, .int 0, .int 1, .int 0, .ref q6, .int 0, .ref q7, .int 0, .int (-1), .int 0, .int 0, .int 0, .int 0, .int (-1), .ref q8, .ref q104, .int 0, .ref q105, .ref q106, .ref q107, .ref q108, .ref q109, .ref q110, .ref q111, .ref q112, .ref q113, .ref q114, .int 0, .ref q115, .ref q116, .int 0, .ref q117, .null])), (q2, .inl (g.2.1.1, 103, .inl (fun _ => 0))), (q4, .inl (g.2.1.1, 21, .inl (fun _ => 0))), (q6, .inl (g.2.1.1, 1200, .inl (fun _ => 0))), (q7, .inl (g.2.1.1, 6, .inl (fun _ => 0))), (q118, .inl (g.2.1.1, 8, .inl (fun _ => 0)))] := hD
  refine va_putF (D := g.1) (ci := 9) (v := .ref q118) (ty := (.array .int)) (C := RX9) (T := TX9) (N := 37) hx hb hG iX9 tyX9 tyX9_ok nmX9 hown hX.1 hP hD hS 0 rfl rfl 36 (by decide) (hG _ g1453) (fun _ h9 => h9) rfl hnm rfl (by decide +kernel) rfl rfl (Nat.le_of_ble_eq_true rfl) dX9_init_791 (fun H locs hP hD hS => ?_)
  have hP : va_P g.1 vwCl [(h0, .inr (9, [.ref q1, .ref q2, .ref q3, .ref q4, .ref q5, .int 0, .int 1, .int 0, .ref q6, .int 0, .ref q7, .int 0, .int (-1), .int 0, .int 0, .int 0, .int 0, .int (-1), .ref q8, .ref q104, .int 0, .ref q105, .ref q106, .ref q107, .ref q108, .ref q109, .ref q110, .ref q111, .ref q112, .ref q113, .ref q114, .int 0, .ref q115, .ref q116, .int 0, .ref q117, .ref q118])), (q2, .inl (g.2.1.1, 103, .inl (fun _ => 0))), (q4, .inl (g.2.1.1, 21, .inl (fun _ => 0))), (q6, .inl (g.2.1.1, 1200, .inl (fun _ => 0))), (q7, .inl (g.2.1.1, 6, .inl (fun _ => 0))), (q118, .inl (g.2.1.1, 8, .inl (fun _ => 0)))] H := hP
  have hD : va_D A [(h0, .inr (9, [.ref q1, .ref q2, .ref q3, .ref q4, .ref q5, .int 0, .int 1, .int 0, .ref q6, .int 0, .ref q7, .int 0, .int (-1), .int 0, .int 0, .int 0, .int 0, .int (-1), .ref q8, .ref q104, .int 0, .ref q105, .ref q106, .ref q107, .ref q108, .ref q109, .ref q110, .ref q111, .ref q112, .ref q113, .ref q114, .int 0, .ref q115, .ref q116, .int 0, .ref q117, .ref q118])), (q2, .inl (g.2.1.1, 103, .inl (fun _ => 0))), (q4, .inl (g.2.1.1, 21, .inl (fun _ => 0))), (q6, .inl (g.2.1.1, 1200, .inl (fun _ => 0))), (q7, .inl (g.2.1.1, 6, .inl (fun _ => 0))), (q118, .inl (g.2.1.1, 8, .inl (fun _ => 0)))] := hD
  have hP := hP.sub (ws' := [(h0, .inr (9, [.ref q1, .ref q2, .ref q3, .ref q4, .ref q5, .int 0, .int 1, .int 0, .ref q6, .int 0, .ref q7, .int 0, .int (-1), .int 0, .int 0, .int 0, .int 0, .int (-1), .ref q8, .ref q104, .int 0, .ref q105, .ref q106, .ref q107, .ref q108, .ref q109, .ref q110, .ref q111, .ref q112, .ref q113, .ref q114, .int 0, .ref q115, .ref q116, .int 0, .ref q117, .ref q118])), (q2, .inl (g.2.1.1, 103, .inl (fun _ => 0))), (q4, .inl (g.2.1.1, 21, .inl (fun _ => 0))), (q6, .inl (g.2.1.1, 1200, .inl (fun _ => 0))), (q7, .inl (g.2.1.1, 6, .inl (fun _ => 0)))]) [0, 1, 2, 3, 4] rfl
  have hD := hD.sub (ws' := [(h0, .inr (9, [.ref q1, .ref q2, .ref q3, .ref q4, .ref q5, .int 0, .int 1, .int 0, .ref q6, .int 0, .ref q7, .int 0, .int (-1), .int 0, .int 0, .int 0, .int 0, .int (-1), .ref q8, .ref q104, .int 0, .ref q105, .ref q106, .ref q107, .ref q108, .ref q109, .ref q110, .ref q111, .ref q112, .ref q113, .ref q114, .int 0, .ref q115, .ref q116, .int 0, .ref q117, .ref q118])), (q2, .inl (g.2.1.1, 103, .inl (fun _ => 0))), (q4, .inl (g.2.1.1, 21, .inl (fun _ => 0))), (q6, .inl (g.2.1.1, 1200, .inl (fun _ => 0))), (q7, .inl (g.2.1.1, 6, .inl (fun _ => 0)))]) [0, 1, 2, 3, 4] (by decide) rfl
  exact zrv (rm := { frames := 1, cells := 23, slots := 11819, locals := 12 }) (fun k9 => [q1, q2, q3, q4, q5, q6, q7, q8, q104, q105, q106, q107, q108, q109, q110, q111, q112, q113, q114, q115, q116, q117, q118].getD k9 0) hx hb hr hlocks (Nat.le_of_ble_eq_true rfl) (Nat.le_of_ble_eq_true rfl) (trivial) hP hD hS dX9_init_794
theorem dX9_byteAt_0 : decode cX9_byteAt 0 = .ok (.iload_n 1, 1) := by decide +kernel
theorem dX9_byteAt_1 : decode cX9_byteAt 1 = .ok (.ifCond .lt 20, 3) := by decide +kernel
theorem dX9_byteAt_4 : decode cX9_byteAt 4 = .ok (.iload_n 1, 1) := by decide +kernel
theorem dX9_byteAt_5 : decode cX9_byteAt 5 = .ok (.aload_n 0, 1) := by decide +kernel
theorem dX9_byteAt_6 : decode cX9_byteAt 6 = .ok (.getfield 51, 3) := by decide +kernel
theorem dX9_byteAt_9 : decode cX9_byteAt 9 = .ok (.if_icmp .ge 12, 3) := by decide +kernel
theorem dX9_byteAt_21 : decode cX9_byteAt 21 = .ok (.iconst (-1), 1) := by decide +kernel
theorem dX9_byteAt_22 : decode cX9_byteAt 22 = .ok (.ireturn, 1) := by decide +kernel
set_option maxHeartbeats 4000000 in
set_option maxRecDepth 100000 in
theorem kX9_byteAt (l : Launch) (g : zL) (h0 : Nat) (m_told : Nat) (m_read : Nat) (m_now : Nat) (m_readNow : Nat) (m_kept : Nat) (m_tape : Nat) (m_refused : Nat) (m_ownLetters : Nat) (m_flats : Nat) (m_corner : Nat) (m_wayX : Nat) (m_wayY : Nat) (m_normal : Nat) (m_low : Nat) (m_high : Nat) (m_clear : Nat) (m_ways : Nat) (m_canBe : Nat) (m_lain : Nat) (m_fewestBy : Nat) (m_sortOf : Nat) (m_seenFlange : Nat) (m_seenLength : Nat) : zCi l g yX9_byteAt cX9_byteAt 2 (some .int) { frames := 0, cells := 0, slots := 0, locals := 0 } [.ref h0, .int 0] [(h0, .inr (9, [.ref m_told, .ref m_read, .ref m_now, .ref m_readNow, .ref m_kept, .int 0, .int 1, .int 0, .ref m_tape, .int 0, .ref m_refused, .int 0, .int (-1), .int 0, .int 0, .int 0, .int 0, .int (-1), .ref m_ownLetters, .ref m_flats, .int 0, .ref m_corner, .ref m_wayX, .ref m_wayY, .ref m_normal, .ref m_low, .ref m_high, .ref m_clear, .ref m_ways, .ref m_canBe, .ref m_lain, .int 0, .ref m_fewestBy, .ref m_sortOf, .int 0, .ref m_seenFlange, .ref m_seenLength]))] (fun (r : Int32) (u : Unit) => r = (-1)) (fun (u : Unit) => [(h0, .inr (9, [.ref m_told, .ref m_read, .ref m_now, .ref m_readNow, .ref m_kept, .int 0, .int 1, .int 0, .ref m_tape, .int 0, .ref m_refused, .int 0, .int (-1), .int 0, .int 0, .int 0, .int 0, .int (-1), .ref m_ownLetters, .ref m_flats, .int 0, .ref m_corner, .ref m_wayX, .ref m_wayY, .ref m_normal, .ref m_low, .ref m_high, .ref m_clear, .ref m_ways, .ref m_canBe, .ref m_lain, .int 0, .ref m_fewestBy, .ref m_sortOf, .int 0, .ref m_seenFlange, .ref m_seenLength]))]) := by
  refine zCi.mk (by decide) (Nat.le_of_ble_eq_true rfl) ?_
  intro p e s m below meth c A hE hP hD hS ls hl
  obtain ⟨hx, hb, hr, hml, hown, hG, hlocks, hnm, hX, hA⟩ := hE
  have hown : s.vm.findClass RX9 = some m.cls := hown
  have hl : lv_has ls 2 [(0, .ref h0), (1, .int 0)] := hl
  refine lv_iload_n hx hb dX9_byteAt_0 rfl (lv_at hl 1 rfl) ?_
  refine lv_if_lt (tgt := 21) hx hb dX9_byteAt_1 (by decide) (fun c1 => absurd c1 (by decide)) (fun c1 => ?_)
  refine lv_iload_n hx hb dX9_byteAt_4 rfl (lv_at hl 1 rfl) ?_
  refine lv_aload_n hx hb dX9_byteAt_5 rfl (lv_at hl 0 rfl) ?_
  refine va_get (D := g.1) (ci := 9) (v := .int 0) (C := RX9) (T := TX9) (N := 37) hx hb hG iX9 hown hX.1 hP 0 rfl rfl 13 (by decide) (hG _ g1430) (fun _ h9 => h9) rfl dX9_byteAt_6 ?_
  refine lv_icmp_ge (tgt := 21) hx hb dX9_byteAt_9 (by decide) (fun c9 => ?_) (fun c9 => (c9 (by decide)).elim)
  refine lv_iconst (v := (-1)) hx hb dX9_byteAt_21 (by decide) ?_
  exact zri (rm := { frames := 0, cells := 0, slots := 0, locals := 0 }) (v := (-1)) () hx hb hr hlocks (Nat.le_of_ble_eq_true rfl) (Nat.le_of_ble_eq_true rfl) (rfl) hP hD hS dX9_byteAt_22
theorem dX9_isSmall_0 : decode cX9_isSmall 0 = .ok (.aload_n 0, 1) := by decide +kernel
theorem dX9_isSmall_1 : decode cX9_isSmall 1 = .ok (.iload_n 1, 1) := by decide +kernel
theorem dX9_isSmall_2 : decode cX9_isSmall 2 = .ok (.invokevirtual 136, 3) := by decide +kernel
theorem dX9_isSmall_5 : decode cX9_isSmall 5 = .ok (.bipush 97, 2) := by decide +kernel
theorem dX9_isSmall_7 : decode cX9_isSmall 7 = .ok (.if_icmp .lt 17, 3) := by decide +kernel
theorem dX9_isSmall_24 : decode cX9_isSmall 24 = .ok (.iconst 0, 1) := by decide +kernel
theorem dX9_isSmall_25 : decode cX9_isSmall 25 = .ok (.ireturn, 1) := by decide +kernel
set_option maxHeartbeats 4000000 in
set_option maxRecDepth 100000 in
theorem kX9_isSmall (l : Launch) (g : zL) (h0 : Nat) (m_told : Nat) (m_read : Nat) (m_now : Nat) (m_readNow : Nat) (m_kept : Nat) (m_tape : Nat) (m_refused : Nat) (m_ownLetters : Nat) (m_flats : Nat) (m_corner : Nat) (m_wayX : Nat) (m_wayY : Nat) (m_normal : Nat) (m_low : Nat) (m_high : Nat) (m_clear : Nat) (m_ways : Nat) (m_canBe : Nat) (m_lain : Nat) (m_fewestBy : Nat) (m_sortOf : Nat) (m_seenFlange : Nat) (m_seenLength : Nat) : zCi l g yX9_isSmall cX9_isSmall 2 (some .boolean) { frames := 1, cells := 0, slots := 0, locals := 21 } [.ref h0, .int 0] [(h0, .inr (9, [.ref m_told, .ref m_read, .ref m_now, .ref m_readNow, .ref m_kept, .int 0, .int 1, .int 0, .ref m_tape, .int 0, .ref m_refused, .int 0, .int (-1), .int 0, .int 0, .int 0, .int 0, .int (-1), .ref m_ownLetters, .ref m_flats, .int 0, .ref m_corner, .ref m_wayX, .ref m_wayY, .ref m_normal, .ref m_low, .ref m_high, .ref m_clear, .ref m_ways, .ref m_canBe, .ref m_lain, .int 0, .ref m_fewestBy, .ref m_sortOf, .int 0, .ref m_seenFlange, .ref m_seenLength]))] (fun (r : Int32) (u : Unit) => r = 0) (fun (u : Unit) => [(h0, .inr (9, [.ref m_told, .ref m_read, .ref m_now, .ref m_readNow, .ref m_kept, .int 0, .int 1, .int 0, .ref m_tape, .int 0, .ref m_refused, .int 0, .int (-1), .int 0, .int 0, .int 0, .int 0, .int (-1), .ref m_ownLetters, .ref m_flats, .int 0, .ref m_corner, .ref m_wayX, .ref m_wayY, .ref m_normal, .ref m_low, .ref m_high, .ref m_clear, .ref m_ways, .ref m_canBe, .ref m_lain, .int 0, .ref m_fewestBy, .ref m_sortOf, .int 0, .ref m_seenFlange, .ref m_seenLength]))]) := by
  refine zCi.mk (by decide) (Nat.le_of_ble_eq_true rfl) ?_
  intro p e s m below meth c A hE hP hD hS ls hl
  obtain ⟨hx, hb, hr, hml, hown, hG, hlocks, hnm, hX, hA⟩ := hE
  have hown : s.vm.findClass RX9 = some m.cls := hown
  have hl : lv_has ls 2 [(0, .ref h0), (1, .int 0)] := hl
  refine lv_aload_n hx hb dX9_isSmall_0 rfl (lv_at hl 0 rfl) ?_
  refine lv_iload_n hx hb dX9_isSmall_1 rfl (lv_at hl 1 rfl) ?_
  refine zfi (wr := []) (va_runV (As := [.int 0]) (rest := []) ⟨hx, hb, hml, hown, hG⟩ (kX9_byteAt l g h0 m_told m_read m_now m_readNow m_kept m_tape m_refused m_ownLetters m_flats m_corner m_wayX m_wayY m_normal m_low m_high m_clear m_ways m_canBe m_lain m_fewestBy m_sortOf m_seenFlange m_seenLength _) ⟨callB_of 1 hG (zGood g1581) rfl rfl rfl (hG _ g211) (hG _ g1578) hX9_byteAt ⟨Nat.le_of_ble_eq_true rfl, Nat.le_of_ble_eq_true rfl⟩, hG _ g1580, hG _ g133⟩ (zpreV (va_recv hX.1 hP (ci := 9) (q0 := 0) rfl rfl) hX hP hD hS hA [0] rfl (by decide)) rfl rfl hl.1 rfl (lv_room (Nat.le_of_ble_eq_true rfl)) dX9_isSmall_2 ⟨Nat.le_of_ble_eq_true rfl, Nat.le_of_ble_eq_true rfl⟩) hP hD hS hA [0] [] rfl rfl (by decide) (by decide) (fun r1 _ H locs hp hP hD hS => ?_)
  refine W.cs (cells' := 0) (slots' := 0) rfl rfl ?_
  have hq2 : r1 = (-1) := hp
  subst hq2
  have hP : va_P g.1 vwCl [(h0, .inr (9, [.ref m_told, .ref m_read, .ref m_now, .ref m_readNow, .ref m_kept, .int 0, .int 1, .int 0, .ref m_tape, .int 0, .ref m_refused, .int 0, .int (-1), .int 0, .int 0, .int 0, .int 0, .int (-1), .ref m_ownLetters, .ref m_flats, .int 0, .ref m_corner, .ref m_wayX, .ref m_wayY, .ref m_normal, .ref m_low, .ref m_high, .ref m_clear, .ref m_ways, .ref m_canBe, .ref m_lain, .int 0, .ref m_fewestBy, .ref m_sortOf, .int 0, .ref m_seenFlange, .ref m_seenLength]))] H := hP
  have hD : va_D A [(h0, .inr (9, [.ref m_told, .ref m_read, .ref m_now, .ref m_readNow, .ref m_kept, .int 0, .int 1, .int 0, .ref m_tape, .int 0, .ref m_refused, .int 0, .int (-1), .int 0, .int 0, .int 0, .int 0, .int (-1), .ref m_ownLetters, .ref m_flats, .int 0, .ref m_corner, .ref m_wayX, .ref m_wayY, .ref m_normal, .ref m_low, .ref m_high, .ref m_clear, .ref m_ways, .ref m_canBe, .ref m_lain, .int 0, .ref m_fewestBy, .ref m_sortOf, .int 0, .ref m_seenFlange, .ref m_seenLength]))] := hD
  refine lv_bipush (v := 97) hx hb dX9_isSmall_5 (by decide) ?_
  refine lv_icmp_lt (tgt := 24) hx hb dX9_isSmall_7 (by decide) (fun c7 => ?_) (fun c7 => (c7 (by decide)).elim)
  refine lv_iconst (v := 0) hx hb dX9_isSmall_24 (by decide) ?_
  exact zrz (rm := { frames := 1, cells := 0, slots := 0, locals := 21 }) (v := 0) () hx hb hr hlocks (rfl) (Nat.le_of_ble_eq_true rfl) (Nat.le_of_ble_eq_true rfl) (rfl) hP hD hS dX9_isSmall_25
theorem dX9_here_0 : decode cX9_here 0 = .ok (.aload_n 0, 1) := by decide +kernel
theorem dX9_here_1 : decode cX9_here 1 = .ok (.aload_n 0, 1) := by decide +kernel
theorem dX9_here_2 : decode cX9_here 2 = .ok (.getfield 54, 3) := by decide +kernel
theorem dX9_here_5 : decode cX9_here 5 = .ok (.invokevirtual 136, 3) := by decide +kernel
theorem dX9_here_8 : decode cX9_here 8 = .ok (.bipush 10, 2) := by decide +kernel
theorem dX9_here_10 : decode cX9_here 10 = .ok (.if_icmp .eq 16, 3) := by decide +kernel
theorem dX9_here_13 : decode cX9_here 13 = .ok (.aload_n 0, 1) := by decide +kernel
theorem dX9_here_14 : decode cX9_here 14 = .ok (.aload_n 0, 1) := by decide +kernel
theorem dX9_here_15 : decode cX9_here 15 = .ok (.getfield 54, 3) := by decide +kernel
theorem dX9_here_18 : decode cX9_here 18 = .ok (.invokevirtual 136, 3) := by decide +kernel
theorem dX9_here_21 : decode cX9_here 21 = .ok (.bipush 32, 2) := by decide +kernel
theorem dX9_here_23 : decode cX9_here 23 = .ok (.if_icmp .ne 16, 3) := by decide +kernel
theorem dX9_here_39 : decode cX9_here 39 = .ok (.aload_n 0, 1) := by decide +kernel
theorem dX9_here_40 : decode cX9_here 40 = .ok (.aload_n 0, 1) := by decide +kernel
theorem dX9_here_41 : decode cX9_here 41 = .ok (.getfield 54, 3) := by decide +kernel
theorem dX9_here_44 : decode cX9_here 44 = .ok (.invokevirtual 136, 3) := by decide +kernel
theorem dX9_here_47 : decode cX9_here 47 = .ok (.ireturn, 1) := by decide +kernel
set_option maxHeartbeats 4000000 in
set_option maxRecDepth 100000 in
theorem kX9_here (l : Launch) (g : zL) (h0 : Nat) (m_told : Nat) (m_read : Nat) (m_now : Nat) (m_readNow : Nat) (m_kept : Nat) (m_tape : Nat) (m_refused : Nat) (m_ownLetters : Nat) (m_flats : Nat) (m_corner : Nat) (m_wayX : Nat) (m_wayY : Nat) (m_normal : Nat) (m_low : Nat) (m_high : Nat) (m_clear : Nat) (m_ways : Nat) (m_canBe : Nat) (m_lain : Nat) (m_fewestBy : Nat) (m_sortOf : Nat) (m_seenFlange : Nat) (m_seenLength : Nat) : zCi l g yX9_here cX9_here 1 (some .int) { frames := 1, cells := 0, slots := 0, locals := 21 } [.ref h0] [(h0, .inr (9, [.ref m_told, .ref m_read, .ref m_now, .ref m_readNow, .ref m_kept, .int 0, .int 1, .int 0, .ref m_tape, .int 0, .ref m_refused, .int 0, .int (-1), .int 0, .int 0, .int 0, .int 0, .int (-1), .ref m_ownLetters, .ref m_flats, .int 0, .ref m_corner, .ref m_wayX, .ref m_wayY, .ref m_normal, .ref m_low, .ref m_high, .ref m_clear, .ref m_ways, .ref m_canBe, .ref m_lain, .int 0, .ref m_fewestBy, .ref m_sortOf, .int 0, .ref m_seenFlange, .ref m_seenLength]))] (fun (r : Int32) (u : Unit) => r = (-1)) (fun (u : Unit) => [(h0, .inr (9, [.ref m_told, .ref m_read, .ref m_now, .ref m_readNow, .ref m_kept, .int 0, .int 1, .int 0, .ref m_tape, .int 0, .ref m_refused, .int 0, .int (-1), .int 0, .int 0, .int 0, .int 0, .int (-1), .ref m_ownLetters, .ref m_flats, .int 0, .ref m_corner, .ref m_wayX, .ref m_wayY, .ref m_normal, .ref m_low, .ref m_high, .ref m_clear, .ref m_ways, .ref m_canBe, .ref m_lain, .int 0, .ref m_fewestBy, .ref m_sortOf, .int 0, .ref m_seenFlange, .ref m_seenLength]))]) := by
  refine zCi.mk (by decide) (Nat.le_of_ble_eq_true rfl) ?_
  intro p e s m below meth c A hE hP hD hS ls hl
  obtain ⟨hx, hb, hr, hml, hown, hG, hlocks, hnm, hX, hA⟩ := hE
  have hown : s.vm.findClass RX9 = some m.cls := hown
  have hl : lv_has ls 1 [(0, .ref h0)] := hl
  refine lv_aload_n hx hb dX9_here_0 rfl (lv_at hl 0 rfl) ?_
  refine lv_aload_n hx hb dX9_here_1 rfl (lv_at hl 0 rfl) ?_
  refine va_get (D := g.1) (ci := 9) (v := .int 0) (C := RX9) (T := TX9) (N := 37) hx hb hG iX9 hown hX.1 hP 0 rfl rfl 14 (by decide) (hG _ g1431) (fun _ h9 => h9) rfl dX9_here_2 ?_
  refine zfi (wr := []) (va_runV (As := [.int 0]) (rest := []) ⟨hx, hb, hml, hown, hG⟩ (kX9_byteAt l g h0 m_told m_read m_now m_readNow m_kept m_tape m_refused m_ownLetters m_flats m_corner m_wayX m_wayY m_normal m_low m_high m_clear m_ways m_canBe m_lain m_fewestBy m_sortOf m_seenFlange m_seenLength _) ⟨callB_of 1 hG (zGood g1581) rfl rfl rfl (hG _ g211) (hG _ g1578) hX9_byteAt ⟨Nat.le_of_ble_eq_true rfl, Nat.le_of_ble_eq_true rfl⟩, hG _ g1580, hG _ g133⟩ (zpreV (va_recv hX.1 hP (ci := 9) (q0 := 0) rfl rfl) hX hP hD hS hA [0] rfl (by decide)) rfl rfl hl.1 rfl (lv_room (Nat.le_of_ble_eq_true rfl)) dX9_here_5 ⟨Nat.le_of_ble_eq_true rfl, Nat.le_of_ble_eq_true rfl⟩) hP hD hS hA [0] [] rfl rfl (by decide) (by decide) (fun r1 _ H locs hp hP hD hS => ?_)
  refine W.cs (cells' := 0) (slots' := 0) rfl rfl ?_
  have hq2 : r1 = (-1) := hp
  subst hq2
  have hP : va_P g.1 vwCl [(h0, .inr (9, [.ref m_told, .ref m_read, .ref m_now, .ref m_readNow, .ref m_kept, .int 0, .int 1, .int 0, .ref m_tape, .int 0, .ref m_refused, .int 0, .int (-1), .int 0, .int 0, .int 0, .int 0, .int (-1), .ref m_ownLetters, .ref m_flats, .int 0, .ref m_corner, .ref m_wayX, .ref m_wayY, .ref m_normal, .ref m_low, .ref m_high, .ref m_clear, .ref m_ways, .ref m_canBe, .ref m_lain, .int 0, .ref m_fewestBy, .ref m_sortOf, .int 0, .ref m_seenFlange, .ref m_seenLength]))] H := hP
  have hD : va_D A [(h0, .inr (9, [.ref m_told, .ref m_read, .ref m_now, .ref m_readNow, .ref m_kept, .int 0, .int 1, .int 0, .ref m_tape, .int 0, .ref m_refused, .int 0, .int (-1), .int 0, .int 0, .int 0, .int 0, .int (-1), .ref m_ownLetters, .ref m_flats, .int 0, .ref m_corner, .ref m_wayX, .ref m_wayY, .ref m_normal, .ref m_low, .ref m_high, .ref m_clear, .ref m_ways, .ref m_canBe, .ref m_lain, .int 0, .ref m_fewestBy, .ref m_sortOf, .int 0, .ref m_seenFlange, .ref m_seenLength]))] := hD
  refine lv_bipush (v := 10) hx hb dX9_here_8 (by decide) ?_
  refine lv_icmp_eq (tgt := 26) hx hb dX9_here_10 (by decide) (fun c10 => absurd c10 (by decide)) (fun c10 => ?_)
  refine lv_aload_n hx hb dX9_here_13 rfl (lv_at hl 0 rfl) ?_
  refine lv_aload_n hx hb dX9_here_14 rfl (lv_at hl 0 rfl) ?_
  refine va_get (D := g.1) (ci := 9) (v := .int 0) (C := RX9) (T := TX9) (N := 37) hx hb hG iX9 hown hX.1 hP 0 rfl rfl 14 (by decide) (hG _ g1431) (fun _ h9 => h9) rfl dX9_here_15 ?_
  refine zfi (wr := []) (va_runV (As := [.int 0]) (rest := []) ⟨hx, hb, hml, hown, hG⟩ (kX9_byteAt l g h0 m_told m_read m_now m_readNow m_kept m_tape m_refused m_ownLetters m_flats m_corner m_wayX m_wayY m_normal m_low m_high m_clear m_ways m_canBe m_lain m_fewestBy m_sortOf m_seenFlange m_seenLength _) ⟨callB_of 1 hG (zGood g1581) rfl rfl rfl (hG _ g211) (hG _ g1578) hX9_byteAt ⟨Nat.le_of_ble_eq_true rfl, Nat.le_of_ble_eq_true rfl⟩, hG _ g1580, hG _ g133⟩ (zpreV (va_recv hX.1 hP (ci := 9) (q0 := 0) rfl rfl) hX hP hD hS hA [0] rfl (by decide)) rfl rfl hl.1 rfl (lv_room (Nat.le_of_ble_eq_true rfl)) dX9_here_18 ⟨Nat.le_of_ble_eq_true rfl, Nat.le_of_ble_eq_true rfl⟩) hP hD hS hA [0] [] rfl rfl (by decide) (by decide) (fun r3 _ H locs hp hP hD hS => ?_)
  refine W.cs (cells' := 0) (slots' := 0) rfl rfl ?_
  have hq4 : r3 = (-1) := hp
  subst hq4
  have hP : va_P g.1 vwCl [(h0, .inr (9, [.ref m_told, .ref m_read, .ref m_now, .ref m_readNow, .ref m_kept, .int 0, .int 1, .int 0, .ref m_tape, .int 0, .ref m_refused, .int 0, .int (-1), .int 0, .int 0, .int 0, .int 0, .int (-1), .ref m_ownLetters, .ref m_flats, .int 0, .ref m_corner, .ref m_wayX, .ref m_wayY, .ref m_normal, .ref m_low, .ref m_high, .ref m_clear, .ref m_ways, .ref m_canBe, .ref m_lain, .int 0, .ref m_fewestBy, .ref m_sortOf, .int 0, .ref m_seenFlange, .ref m_seenLength]))] H := hP
  have hD : va_D A [(h0, .inr (9, [.ref m_told, .ref m_read, .ref m_now, .ref m_readNow, .ref m_kept, .int 0, .int 1, .int 0, .ref m_tape, .int 0, .ref m_refused, .int 0, .int (-1), .int 0, .int 0, .int 0, .int 0, .int (-1), .ref m_ownLetters, .ref m_flats, .int 0, .ref m_corner, .ref m_wayX, .ref m_wayY, .ref m_normal, .ref m_low, .ref m_high, .ref m_clear, .ref m_ways, .ref m_canBe, .ref m_lain, .int 0, .ref m_fewestBy, .ref m_sortOf, .int 0, .ref m_seenFlange, .ref m_seenLength]))] := hD
  refine lv_bipush (v := 32) hx hb dX9_here_21 (by decide) ?_
  refine lv_icmp_ne (tgt := 39) hx hb dX9_here_23 (by decide) (fun c23 => ?_) (fun c23 => absurd c23 (by decide))
  refine lv_aload_n hx hb dX9_here_39 rfl (lv_at hl 0 rfl) ?_
  refine lv_aload_n hx hb dX9_here_40 rfl (lv_at hl 0 rfl) ?_
  refine va_get (D := g.1) (ci := 9) (v := .int 0) (C := RX9) (T := TX9) (N := 37) hx hb hG iX9 hown hX.1 hP 0 rfl rfl 14 (by decide) (hG _ g1431) (fun _ h9 => h9) rfl dX9_here_41 ?_
  refine zfi (wr := []) (va_runV (As := [.int 0]) (rest := []) ⟨hx, hb, hml, hown, hG⟩ (kX9_byteAt l g h0 m_told m_read m_now m_readNow m_kept m_tape m_refused m_ownLetters m_flats m_corner m_wayX m_wayY m_normal m_low m_high m_clear m_ways m_canBe m_lain m_fewestBy m_sortOf m_seenFlange m_seenLength _) ⟨callB_of 1 hG (zGood g1581) rfl rfl rfl (hG _ g211) (hG _ g1578) hX9_byteAt ⟨Nat.le_of_ble_eq_true rfl, Nat.le_of_ble_eq_true rfl⟩, hG _ g1580, hG _ g133⟩ (zpreV (va_recv hX.1 hP (ci := 9) (q0 := 0) rfl rfl) hX hP hD hS hA [0] rfl (by decide)) rfl rfl hl.1 rfl (lv_room (Nat.le_of_ble_eq_true rfl)) dX9_here_44 ⟨Nat.le_of_ble_eq_true rfl, Nat.le_of_ble_eq_true rfl⟩) hP hD hS hA [0] [] rfl rfl (by decide) (by decide) (fun r5 _ H locs hp hP hD hS => ?_)
  refine W.cs (cells' := 0) (slots' := 0) rfl rfl ?_
  have hq6 : r5 = (-1) := hp
  subst hq6
  have hP : va_P g.1 vwCl [(h0, .inr (9, [.ref m_told, .ref m_read, .ref m_now, .ref m_readNow, .ref m_kept, .int 0, .int 1, .int 0, .ref m_tape, .int 0, .ref m_refused, .int 0, .int (-1), .int 0, .int 0, .int 0, .int 0, .int (-1), .ref m_ownLetters, .ref m_flats, .int 0, .ref m_corner, .ref m_wayX, .ref m_wayY, .ref m_normal, .ref m_low, .ref m_high, .ref m_clear, .ref m_ways, .ref m_canBe, .ref m_lain, .int 0, .ref m_fewestBy, .ref m_sortOf, .int 0, .ref m_seenFlange, .ref m_seenLength]))] H := hP
  have hD : va_D A [(h0, .inr (9, [.ref m_told, .ref m_read, .ref m_now, .ref m_readNow, .ref m_kept, .int 0, .int 1, .int 0, .ref m_tape, .int 0, .ref m_refused, .int 0, .int (-1), .int 0, .int 0, .int 0, .int 0, .int (-1), .ref m_ownLetters, .ref m_flats, .int 0, .ref m_corner, .ref m_wayX, .ref m_wayY, .ref m_normal, .ref m_low, .ref m_high, .ref m_clear, .ref m_ways, .ref m_canBe, .ref m_lain, .int 0, .ref m_fewestBy, .ref m_sortOf, .int 0, .ref m_seenFlange, .ref m_seenLength]))] := hD
  exact zri (rm := { frames := 1, cells := 0, slots := 0, locals := 21 }) (v := (-1)) () hx hb hr hlocks (Nat.le_of_ble_eq_true rfl) (Nat.le_of_ble_eq_true rfl) (rfl) hP hD hS dX9_here_47
theorem dX9_faults_0 : decode cX9_faults 0 = .ok (.aload_n 0, 1) := by decide +kernel
theorem dX9_faults_1 : decode cX9_faults 1 = .ok (.getfield 60, 3) := by decide +kernel
theorem dX9_faults_4 : decode cX9_faults 4 = .ok (.ifCond .eq 4, 3) := by decide +kernel
theorem dX9_faults_8 : decode cX9_faults 8 = .ok (.aload_n 0, 1) := by decide +kernel
theorem dX9_faults_9 : decode cX9_faults 9 = .ok (.iload_n 1, 1) := by decide +kernel
theorem dX9_faults_10 : decode cX9_faults 10 = .ok (.putfield 60, 3) := by decide +kernel
theorem dX9_faults_13 : decode cX9_faults 13 = .ok (.aload_n 0, 1) := by decide +kernel
theorem dX9_faults_14 : decode cX9_faults 14 = .ok (.iload_n 2, 1) := by decide +kernel
theorem dX9_faults_15 : decode cX9_faults 15 = .ok (.putfield 63, 3) := by decide +kernel
theorem dX9_faults_18 : decode cX9_faults 18 = .ok (.return_, 1) := by decide +kernel
set_option maxHeartbeats 4000000 in
set_option maxRecDepth 100000 in
theorem kX9_faults (l : Launch) (g : zL) (h0 : Nat) (m_told : Nat) (m_read : Nat) (m_now : Nat) (m_readNow : Nat) (m_kept : Nat) (m_tape : Nat) (m_refused : Nat) (m_ownLetters : Nat) (m_flats : Nat) (m_corner : Nat) (m_wayX : Nat) (m_wayY : Nat) (m_normal : Nat) (m_low : Nat) (m_high : Nat) (m_clear : Nat) (m_ways : Nat) (m_canBe : Nat) (m_lain : Nat) (m_fewestBy : Nat) (m_sortOf : Nat) (m_seenFlange : Nat) (m_seenLength : Nat) : zCv l g yX9_faults cX9_faults 3 none { frames := 0, cells := 0, slots := 0, locals := 0 } [.ref h0, .int 1, .int 0] [(h0, .inr (9, [.ref m_told, .ref m_read, .ref m_now, .ref m_readNow, .ref m_kept, .int 0, .int 1, .int 0, .ref m_tape, .int 0, .ref m_refused, .int 0, .int (-1), .int 0, .int 0, .int 0, .int 0, .int (-1), .ref m_ownLetters, .ref m_flats, .int 0, .ref m_corner, .ref m_wayX, .ref m_wayY, .ref m_normal, .ref m_low, .ref m_high, .ref m_clear, .ref m_ways, .ref m_canBe, .ref m_lain, .int 0, .ref m_fewestBy, .ref m_sortOf, .int 0, .ref m_seenFlange, .ref m_seenLength]))] (fun (u : Unit) => True) (fun (u : Unit) => [(h0, .inr (9, [.ref m_told, .ref m_read, .ref m_now, .ref m_readNow, .ref m_kept, .int 0, .int 1, .int 0, .ref m_tape, .int 0, .ref m_refused, .int 0, .int (-1), .int 0, .int 0, .int 0, .int 1, .int 0, .ref m_ownLetters, .ref m_flats, .int 0, .ref m_corner, .ref m_wayX, .ref m_wayY, .ref m_normal, .ref m_low, .ref m_high, .ref m_clear, .ref m_ways, .ref m_canBe, .ref m_lain, .int 0, .ref m_fewestBy, .ref m_sortOf, .int 0, .ref m_seenFlange, .ref m_seenLength]))]) := by
  refine zCv.mk (by decide) (Nat.le_of_ble_eq_true rfl) ?_
  intro p e s m below meth c A hE hP hD hS ls hl
  obtain ⟨hx, hb, hr, hml, hown, hG, hlocks, hnm, hX, hA⟩ := hE
  have hown : s.vm.findClass RX9 = some m.cls := hown
  have hl : lv_has ls 3 [(0, .ref h0), (1, .int 1), (2, .int 0)] := hl
  refine lv_aload_n hx hb dX9_faults_0 rfl (lv_at hl 0 rfl) ?_
  refine va_get (D := g.1) (ci := 9) (v := .int 0) (C := RX9) (T := TX9) (N := 37) hx hb hG iX9 hown hX.1 hP 0 rfl rfl 16 (by decide) (hG _ g1433) (fun _ h9 => h9) rfl dX9_faults_1 ?_
  refine lv_if_eq (tgt := 8) hx hb dX9_faults_4 (by decide) (fun c4 => ?_) (fun c4 => (c4 (by decide)).elim)
  refine lv_aload_n hx hb dX9_faults_8 rfl (lv_at hl 0 rfl) ?_
  refine lv_iload_n hx hb dX9_faults_9 rfl (lv_at hl 1 rfl) ?_
  refine va_put (D := g.1) (ci := 9) (v := .int 1) (ty := .int) (C := RX9) (T := TX9) (N := 37) hx hb hG iX9 tyX9 tyX9_ok nmX9 hown hX.1 hP hD hS 0 rfl rfl 16 (by decide) (hG _ g1433) (fun _ h9 => h9) rfl (by decide +kernel) rfl rfl (Nat.le_of_ble_eq_true rfl) dX9_faults_10 (fun H locs hP hD hS => ?_)
  have hP : va_P g.1 vwCl [(h0, .inr (9, [.ref m_told, .ref m_read, .ref m_now, .ref m_readNow, .ref m_kept, .int 0, .int 1, .int 0, .ref m_tape, .int 0, .ref m_refused, .int 0, .int (-1), .int 0, .int 0, .int 0, .int 1, .int (-1), .ref m_ownLetters, .ref m_flats, .int 0, .ref m_corner, .ref m_wayX, .ref m_wayY, .ref m_normal, .ref m_low, .ref m_high, .ref m_clear, .ref m_ways, .ref m_canBe, .ref m_lain, .int 0, .ref m_fewestBy, .ref m_sortOf, .int 0, .ref m_seenFlange, .ref m_seenLength]))] H := hP
  have hD : va_D A [(h0, .inr (9, [.ref m_told, .ref m_read, .ref m_now, .ref m_readNow, .ref m_kept, .int 0, .int 1, .int 0, .ref m_tape, .int 0, .ref m_refused, .int 0, .int (-1), .int 0, .int 0, .int 0, .int 1, .int (-1), .ref m_ownLetters, .ref m_flats, .int 0, .ref m_corner, .ref m_wayX, .ref m_wayY, .ref m_normal, .ref m_low, .ref m_high, .ref m_clear, .ref m_ways, .ref m_canBe, .ref m_lain, .int 0, .ref m_fewestBy, .ref m_sortOf, .int 0, .ref m_seenFlange, .ref m_seenLength]))] := hD
  refine lv_aload_n hx hb dX9_faults_13 rfl (lv_at hl 0 rfl) ?_
  refine lv_iload_n hx hb dX9_faults_14 rfl (lv_at hl 2 rfl) ?_
  refine va_put (D := g.1) (ci := 9) (v := .int 0) (ty := .int) (C := RX9) (T := TX9) (N := 37) hx hb hG iX9 tyX9 tyX9_ok nmX9 hown hX.1 hP hD hS 0 rfl rfl 17 (by decide) (hG _ g1434) (fun _ h9 => h9) rfl (by decide +kernel) rfl rfl (Nat.le_of_ble_eq_true rfl) dX9_faults_15 (fun H locs hP hD hS => ?_)
  have hP : va_P g.1 vwCl [(h0, .inr (9, [.ref m_told, .ref m_read, .ref m_now, .ref m_readNow, .ref m_kept, .int 0, .int 1, .int 0, .ref m_tape, .int 0, .ref m_refused, .int 0, .int (-1), .int 0, .int 0, .int 0, .int 1, .int 0, .ref m_ownLetters, .ref m_flats, .int 0, .ref m_corner, .ref m_wayX, .ref m_wayY, .ref m_normal, .ref m_low, .ref m_high, .ref m_clear, .ref m_ways, .ref m_canBe, .ref m_lain, .int 0, .ref m_fewestBy, .ref m_sortOf, .int 0, .ref m_seenFlange, .ref m_seenLength]))] H := hP
  have hD : va_D A [(h0, .inr (9, [.ref m_told, .ref m_read, .ref m_now, .ref m_readNow, .ref m_kept, .int 0, .int 1, .int 0, .ref m_tape, .int 0, .ref m_refused, .int 0, .int (-1), .int 0, .int 0, .int 0, .int 1, .int 0, .ref m_ownLetters, .ref m_flats, .int 0, .ref m_corner, .ref m_wayX, .ref m_wayY, .ref m_normal, .ref m_low, .ref m_high, .ref m_clear, .ref m_ways, .ref m_canBe, .ref m_lain, .int 0, .ref m_fewestBy, .ref m_sortOf, .int 0, .ref m_seenFlange, .ref m_seenLength]))] := hD
  exact zrv (rm := { frames := 0, cells := 0, slots := 0, locals := 0 }) () hx hb hr hlocks (Nat.le_of_ble_eq_true rfl) (Nat.le_of_ble_eq_true rfl) (trivial) hP hD hS dX9_faults_18
theorem dX9_goesWell_0 : decode cX9_goesWell 0 = .ok (.aload_n 0, 1) := by decide +kernel
theorem dX9_goesWell_1 : decode cX9_goesWell 1 = .ok (.getfield 60, 3) := by decide +kernel
theorem dX9_goesWell_4 : decode cX9_goesWell 4 = .ok (.ifCond .ne 7, 3) := by decide +kernel
theorem dX9_goesWell_7 : decode cX9_goesWell 7 = .ok (.iconst 1, 1) := by decide +kernel
theorem dX9_goesWell_8 : decode cX9_goesWell 8 = .ok (.goto 4, 3) := by decide +kernel
theorem dX9_goesWell_12 : decode cX9_goesWell 12 = .ok (.ireturn, 1) := by decide +kernel
set_option maxHeartbeats 4000000 in
set_option maxRecDepth 100000 in
theorem kX9_goesWella (l : Launch) (g : zL) (h0 : Nat) (m_told : Nat) (m_read : Nat) (m_now : Nat) (m_readNow : Nat) (m_kept : Nat) (m_tape : Nat) (m_refused : Nat) (m_ownLetters : Nat) (m_flats : Nat) (m_corner : Nat) (m_wayX : Nat) (m_wayY : Nat) (m_normal : Nat) (m_low : Nat) (m_high : Nat) (m_clear : Nat) (m_ways : Nat) (m_canBe : Nat) (m_lain : Nat) (m_fewestBy : Nat) (m_sortOf : Nat) (m_seenFlange : Nat) (m_seenLength : Nat) : zCi l g yX9_goesWell cX9_goesWell 1 (some .boolean) { frames := 0, cells := 0, slots := 0, locals := 0 } [.ref h0] [(h0, .inr (9, [.ref m_told, .ref m_read, .ref m_now, .ref m_readNow, .ref m_kept, .int 0, .int 1, .int 0, .ref m_tape, .int 0, .ref m_refused, .int 0, .int (-1), .int 0, .int 0, .int 0, .int 0, .int (-1), .ref m_ownLetters, .ref m_flats, .int 0, .ref m_corner, .ref m_wayX, .ref m_wayY, .ref m_normal, .ref m_low, .ref m_high, .ref m_clear, .ref m_ways, .ref m_canBe, .ref m_lain, .int 0, .ref m_fewestBy, .ref m_sortOf, .int 0, .ref m_seenFlange, .ref m_seenLength]))] (fun (r : Int32) (u : Unit) => r = 1) (fun (u : Unit) => [(h0, .inr (9, [.ref m_told, .ref m_read, .ref m_now, .ref m_readNow, .ref m_kept, .int 0, .int 1, .int 0, .ref m_tape, .int 0, .ref m_refused, .int 0, .int (-1), .int 0, .int 0, .int 0, .int 0, .int (-1), .ref m_ownLetters, .ref m_flats, .int 0, .ref m_corner, .ref m_wayX, .ref m_wayY, .ref m_normal, .ref m_low, .ref m_high, .ref m_clear, .ref m_ways, .ref m_canBe, .ref m_lain, .int 0, .ref m_fewestBy, .ref m_sortOf, .int 0, .ref m_seenFlange, .ref m_seenLength]))]) := by
  refine zCi.mk (by decide) (Nat.le_of_ble_eq_true rfl) ?_
  intro p e s m below meth c A hE hP hD hS ls hl
  obtain ⟨hx, hb, hr, hml, hown, hG, hlocks, hnm, hX, hA⟩ := hE
  have hown : s.vm.findClass RX9 = some m.cls := hown
  have hl : lv_has ls 1 [(0, .ref h0)] := hl
  refine lv_aload_n hx hb dX9_goesWell_0 rfl (lv_at hl 0 rfl) ?_
  refine va_get (D := g.1) (ci := 9) (v := .int 0) (C := RX9) (T := TX9) (N := 37) hx hb hG iX9 hown hX.1 hP 0 rfl rfl 16 (by decide) (hG _ g1433) (fun _ h9 => h9) rfl dX9_goesWell_1 ?_
  refine lv_if_ne (tgt := 11) hx hb dX9_goesWell_4 (by decide) (fun c4 => (c4 (by decide)).elim) (fun c4 => ?_)
  refine lv_iconst (v := 1) hx hb dX9_goesWell_7 (by decide) ?_
  refine lv_goto (tgt := 12) hx hb dX9_goesWell_8 (by decide) ?_
  exact zrz (rm := { frames := 0, cells := 0, slots := 0, locals := 0 }) (v := 1) () hx hb hr hlocks (rfl) (Nat.le_of_ble_eq_true rfl) (Nat.le_of_ble_eq_true rfl) (rfl) hP hD hS dX9_goesWell_12
theorem dX9_goesWell_11 : decode cX9_goesWell 11 = .ok (.iconst 0, 1) := by decide +kernel
set_option maxHeartbeats 4000000 in
set_option maxRecDepth 100000 in
theorem kX9_goesWellb (l : Launch) (g : zL) (h0 : Nat) (m_told : Nat) (m_read : Nat) (m_now : Nat) (m_readNow : Nat) (m_kept : Nat) (m_tape : Nat) (m_refused : Nat) (m_ownLetters : Nat) (m_flats : Nat) (m_corner : Nat) (m_wayX : Nat) (m_wayY : Nat) (m_normal : Nat) (m_low : Nat) (m_high : Nat) (m_clear : Nat) (m_ways : Nat) (m_canBe : Nat) (m_lain : Nat) (m_fewestBy : Nat) (m_sortOf : Nat) (m_seenFlange : Nat) (m_seenLength : Nat) : zCi l g yX9_goesWell cX9_goesWell 1 (some .boolean) { frames := 0, cells := 0, slots := 0, locals := 0 } [.ref h0] [(h0, .inr (9, [.ref m_told, .ref m_read, .ref m_now, .ref m_readNow, .ref m_kept, .int 0, .int 1, .int 0, .ref m_tape, .int 0, .ref m_refused, .int 0, .int (-1), .int 0, .int 0, .int 0, .int 1, .int 0, .ref m_ownLetters, .ref m_flats, .int 0, .ref m_corner, .ref m_wayX, .ref m_wayY, .ref m_normal, .ref m_low, .ref m_high, .ref m_clear, .ref m_ways, .ref m_canBe, .ref m_lain, .int 0, .ref m_fewestBy, .ref m_sortOf, .int 0, .ref m_seenFlange, .ref m_seenLength]))] (fun (r : Int32) (u : Unit) => r = 0) (fun (u : Unit) => [(h0, .inr (9, [.ref m_told, .ref m_read, .ref m_now, .ref m_readNow, .ref m_kept, .int 0, .int 1, .int 0, .ref m_tape, .int 0, .ref m_refused, .int 0, .int (-1), .int 0, .int 0, .int 0, .int 1, .int 0, .ref m_ownLetters, .ref m_flats, .int 0, .ref m_corner, .ref m_wayX, .ref m_wayY, .ref m_normal, .ref m_low, .ref m_high, .ref m_clear, .ref m_ways, .ref m_canBe, .ref m_lain, .int 0, .ref m_fewestBy, .ref m_sortOf, .int 0, .ref m_seenFlange, .ref m_seenLength]))]) := by
  refine zCi.mk (by decide) (Nat.le_of_ble_eq_true rfl) ?_
  intro p e s m below meth c A hE hP hD hS ls hl
  obtain ⟨hx, hb, hr, hml, hown, hG, hlocks, hnm, hX, hA⟩ := hE
  have hown : s.vm.findClass RX9 = some m.cls := hown
  have hl : lv_has ls 1 [(0, .ref h0)] := hl
  refine lv_aload_n hx hb dX9_goesWell_0 rfl (lv_at hl 0 rfl) ?_
  refine va_get (D := g.1) (ci := 9) (v := .int 1) (C := RX9) (T := TX9) (N := 37) hx hb hG iX9 hown hX.1 hP 0 rfl rfl 16 (by decide) (hG _ g1433) (fun _ h9 => h9) rfl dX9_goesWell_1 ?_
  refine lv_if_ne (tgt := 11) hx hb dX9_goesWell_4 (by decide) (fun c4 => ?_) (fun c4 => absurd c4 (by decide))
  refine lv_iconst (v := 0) hx hb dX9_goesWell_11 (by decide) ?_
  exact zrz (rm := { frames := 0, cells := 0, slots := 0, locals := 0 }) (v := 0) () hx hb hr hlocks (rfl) (Nat.le_of_ble_eq_true rfl) (Nat.le_of_ble_eq_true rfl) (rfl) hP hD hS dX9_goesWell_12
theorem dX9_word_0 : decode cX9_word 0 = .ok (.aload_n 0, 1) := by decide +kernel
theorem dX9_word_1 : decode cX9_word 1 = .ok (.invokevirtual 139, 3) := by decide +kernel
theorem dX9_word_4 : decode cX9_word 4 = .ok (.ifCond .ne 4, 3) := by decide +kernel
theorem dX9_word_8 : decode cX9_word 8 = .ok (.aload_n 0, 1) := by decide +kernel
theorem dX9_word_9 : decode cX9_word 9 = .ok (.invokevirtual 143, 3) := by decide +kernel
theorem dX9_word_12 : decode cX9_word 12 = .ok (.pop, 1) := by decide +kernel
theorem dX9_word_13 : decode cX9_word 13 = .ok (.aload_n 0, 1) := by decide +kernel
theorem dX9_word_14 : decode cX9_word 14 = .ok (.aload_n 0, 1) := by decide +kernel
theorem dX9_word_15 : decode cX9_word 15 = .ok (.getfield 54, 3) := by decide +kernel
theorem dX9_word_18 : decode cX9_word 18 = .ok (.putfield 57, 3) := by decide +kernel
theorem dX9_word_21 : decode cX9_word 21 = .ok (.aload_n 0, 1) := by decide +kernel
theorem dX9_word_22 : decode cX9_word 22 = .ok (.aload_n 0, 1) := by decide +kernel
theorem dX9_word_23 : decode cX9_word 23 = .ok (.getfield 54, 3) := by decide +kernel
theorem dX9_word_26 : decode cX9_word 26 = .ok (.invokevirtual 147, 3) := by decide +kernel
theorem dX9_word_29 : decode cX9_word 29 = .ok (.ifCond .eq 29, 3) := by decide +kernel
theorem dX9_word_58 : decode cX9_word 58 = .ok (.aload_n 0, 1) := by decide +kernel
theorem dX9_word_59 : decode cX9_word 59 = .ok (.iconst 1, 1) := by decide +kernel
theorem dX9_word_60 : decode cX9_word 60 = .ok (.aload_n 0, 1) := by decide +kernel
theorem dX9_word_61 : decode cX9_word 61 = .ok (.getfield 54, 3) := by decide +kernel
theorem dX9_word_64 : decode cX9_word 64 = .ok (.invokevirtual 153, 3) := by decide +kernel
theorem dX9_word_67 : decode cX9_word 67 = .ok (.return_, 1) := by decide +kernel
set_option maxHeartbeats 4000000 in
set_option maxRecDepth 100000 in
theorem kX9_worda (l : Launch) (g : zL) (h0 : Nat) (m_told : Nat) (m_read : Nat) (m_now : Nat) (m_readNow : Nat) (m_kept : Nat) (m_tape : Nat) (m_refused : Nat) (m_ownLetters : Nat) (m_flats : Nat) (m_corner : Nat) (m_wayX : Nat) (m_wayY : Nat) (m_normal : Nat) (m_low : Nat) (m_high : Nat) (m_clear : Nat) (m_ways : Nat) (m_canBe : Nat) (m_lain : Nat) (m_fewestBy : Nat) (m_sortOf : Nat) (m_seenFlange : Nat) (m_seenLength : Nat) : zCv l g yX9_word cX9_word 1 none { frames := 2, cells := 0, slots := 0, locals := 42 } [.ref h0] [(h0, .inr (9, [.ref m_told, .ref m_read, .ref m_now, .ref m_readNow, .ref m_kept, .int 0, .int 1, .int 0, .ref m_tape, .int 0, .ref m_refused, .int 0, .int (-1), .int 0, .int 0, .int 0, .int 0, .int (-1), .ref m_ownLetters, .ref m_flats, .int 0, .ref m_corner, .ref m_wayX, .ref m_wayY, .ref m_normal, .ref m_low, .ref m_high, .ref m_clear, .ref m_ways, .ref m_canBe, .ref m_lain, .int 0, .ref m_fewestBy, .ref m_sortOf, .int 0, .ref m_seenFlange, .ref m_seenLength]))] (fun (u : Unit) => True) (fun (u : Unit) => [(h0, .inr (9, [.ref m_told, .ref m_read, .ref m_now, .ref m_readNow, .ref m_kept, .int 0, .int 1, .int 0, .ref m_tape, .int 0, .ref m_refused, .int 0, .int (-1), .int 0, .int 0, .int 0, .int 1, .int 0, .ref m_ownLetters, .ref m_flats, .int 0, .ref m_corner, .ref m_wayX, .ref m_wayY, .ref m_normal, .ref m_low, .ref m_high, .ref m_clear, .ref m_ways, .ref m_canBe, .ref m_lain, .int 0, .ref m_fewestBy, .ref m_sortOf, .int 0, .ref m_seenFlange, .ref m_seenLength]))]) := by
  refine zCv.mk (by decide) (Nat.le_of_ble_eq_true rfl) ?_
  intro p e s m below meth c A hE hP hD hS ls hl
  obtain ⟨hx, hb, hr, hml, hown, hG, hlocks, hnm, hX, hA⟩ := hE
  have hown : s.vm.findClass RX9 = some m.cls := hown
  have hl : lv_has ls 1 [(0, .ref h0)] := hl
  refine lv_aload_n hx hb dX9_word_0 rfl (lv_at hl 0 rfl) ?_
  refine zfi (wr := []) (va_runV (As := []) (rest := []) ⟨hx, hb, hml, hown, hG⟩ (kX9_goesWella l g h0 m_told m_read m_now m_readNow m_kept m_tape m_refused m_ownLetters m_flats m_corner m_wayX m_wayY m_normal m_low m_high m_clear m_ways m_canBe m_lain m_fewestBy m_sortOf m_seenFlange m_seenLength _) ⟨callB_of 0 hG (zGood g1573) rfl rfl rfl (hG _ g211) (hG _ g1570) hX9_goesWell ⟨Nat.le_of_ble_eq_true rfl, Nat.le_of_ble_eq_true rfl⟩, hG _ g1572, hG _ g131⟩ (zpreV (va_recv hX.1 hP (ci := 9) (q0 := 0) rfl rfl) hX hP hD hS hA [0] rfl (by decide)) rfl rfl hl.1 rfl (lv_room (Nat.le_of_ble_eq_true rfl)) dX9_word_1 ⟨Nat.le_of_ble_eq_true rfl, Nat.le_of_ble_eq_true rfl⟩) hP hD hS hA [0] [] rfl rfl (by decide) (by decide) (fun r1 _ H locs hp hP hD hS => ?_)
  refine W.cs (cells' := 0) (slots' := 0) rfl rfl ?_
  have hq2 : r1 = 1 := hp
  subst hq2
  have hP : va_P g.1 vwCl [(h0, .inr (9, [.ref m_told, .ref m_read, .ref m_now, .ref m_readNow, .ref m_kept, .int 0, .int 1, .int 0, .ref m_tape, .int 0, .ref m_refused, .int 0, .int (-1), .int 0, .int 0, .int 0, .int 0, .int (-1), .ref m_ownLetters, .ref m_flats, .int 0, .ref m_corner, .ref m_wayX, .ref m_wayY, .ref m_normal, .ref m_low, .ref m_high, .ref m_clear, .ref m_ways, .ref m_canBe, .ref m_lain, .int 0, .ref m_fewestBy, .ref m_sortOf, .int 0, .ref m_seenFlange, .ref m_seenLength]))] H := hP
  have hD : va_D A [(h0, .inr (9, [.ref m_told, .ref m_read, .ref m_now, .ref m_readNow, .ref m_kept, .int 0, .int 1, .int 0, .ref m_tape, .int 0, .ref m_refused, .int 0, .int (-1), .int 0, .int 0, .int 0, .int 0, .int (-1), .ref m_ownLetters, .ref m_flats, .int 0, .ref m_corner, .ref m_wayX, .ref m_wayY, .ref m_normal, .ref m_low, .ref m_high, .ref m_clear, .ref m_ways, .ref m_canBe, .ref m_lain, .int 0, .ref m_fewestBy, .ref m_sortOf, .int 0, .ref m_seenFlange, .ref m_seenLength]))] := hD
  refine lv_if_ne (tgt := 8) hx hb dX9_word_4 (by decide) (fun c4 => ?_) (fun c4 => absurd c4 (by decide))
  refine lv_aload_n hx hb dX9_word_8 rfl (lv_at hl 0 rfl) ?_
  refine zfi (wr := []) (va_runV (As := []) (rest := []) ⟨hx, hb, hml, hown, hG⟩ (kX9_here l g h0 m_told m_read m_now m_readNow m_kept m_tape m_refused m_ownLetters m_flats m_corner m_wayX m_wayY m_normal m_low m_high m_clear m_ways m_canBe m_lain m_fewestBy m_sortOf m_seenFlange m_seenLength _) ⟨callB_of 0 hG (zGood g1577) rfl rfl rfl (hG _ g211) (hG _ g1574) hX9_here ⟨Nat.le_of_ble_eq_true rfl, Nat.le_of_ble_eq_true rfl⟩, hG _ g1576, hG _ g132⟩ (zpreV (va_recv hX.1 hP (ci := 9) (q0 := 0) rfl rfl) hX hP hD hS hA [0] rfl (by decide)) rfl rfl hl.1 rfl (lv_room (Nat.le_of_ble_eq_true rfl)) dX9_word_9 ⟨Nat.le_of_ble_eq_true rfl, Nat.le_of_ble_eq_true rfl⟩) hP hD hS hA [0] [] rfl rfl (by decide) (by decide) (fun r3 _ H locs hp hP hD hS => ?_)
  refine W.cs (cells' := 0) (slots' := 0) rfl rfl ?_
  have hq4 : r3 = (-1) := hp
  subst hq4
  have hP : va_P g.1 vwCl [(h0, .inr (9, [.ref m_told, .ref m_read, .ref m_now, .ref m_readNow, .ref m_kept, .int 0, .int 1, .int 0, .ref m_tape, .int 0, .ref m_refused, .int 0, .int (-1), .int 0, .int 0, .int 0, .int 0, .int (-1), .ref m_ownLetters, .ref m_flats, .int 0, .ref m_corner, .ref m_wayX, .ref m_wayY, .ref m_normal, .ref m_low, .ref m_high, .ref m_clear, .ref m_ways, .ref m_canBe, .ref m_lain, .int 0, .ref m_fewestBy, .ref m_sortOf, .int 0, .ref m_seenFlange, .ref m_seenLength]))] H := hP
  have hD : va_D A [(h0, .inr (9, [.ref m_told, .ref m_read, .ref m_now, .ref m_readNow, .ref m_kept, .int 0, .int 1, .int 0, .ref m_tape, .int 0, .ref m_refused, .int 0, .int (-1), .int 0, .int 0, .int 0, .int 0, .int (-1), .ref m_ownLetters, .ref m_flats, .int 0, .ref m_corner, .ref m_wayX, .ref m_wayY, .ref m_normal, .ref m_low, .ref m_high, .ref m_clear, .ref m_ways, .ref m_canBe, .ref m_lain, .int 0, .ref m_fewestBy, .ref m_sortOf, .int 0, .ref m_seenFlange, .ref m_seenLength]))] := hD
  refine lv_pop hx hb dX9_word_12 rfl ?_
  refine lv_aload_n hx hb dX9_word_13 rfl (lv_at hl 0 rfl) ?_
  refine lv_aload_n hx hb dX9_word_14 rfl (lv_at hl 0 rfl) ?_
  refine va_get (D := g.1) (ci := 9) (v := .int 0) (C := RX9) (T := TX9) (N := 37) hx hb hG iX9 hown hX.1 hP 0 rfl rfl 14 (by decide) (hG _ g1431) (fun _ h9 => h9) rfl dX9_word_15 ?_
  refine va_put (D := g.1) (ci := 9) (v := .int 0) (ty := .int) (C := RX9) (T := TX9) (N := 37) hx hb hG iX9 tyX9 tyX9_ok nmX9 hown hX.1 hP hD hS 0 rfl rfl 15 (by decide) (hG _ g1432) (fun _ h9 => h9) rfl (by decide +kernel) rfl rfl (Nat.le_of_ble_eq_true rfl) dX9_word_18 (fun H locs hP hD hS => ?_)
  have hP : va_P g.1 vwCl [(h0, .inr (9, [.ref m_told, .ref m_read, .ref m_now, .ref m_readNow, .ref m_kept, .int 0, .int 1, .int 0, .ref m_tape, .int 0, .ref m_refused, .int 0, .int (-1), .int 0, .int 0, .int 0, .int 0, .int (-1), .ref m_ownLetters, .ref m_flats, .int 0, .ref m_corner, .ref m_wayX, .ref m_wayY, .ref m_normal, .ref m_low, .ref m_high, .ref m_clear, .ref m_ways, .ref m_canBe, .ref m_lain, .int 0, .ref m_fewestBy, .ref m_sortOf, .int 0, .ref m_seenFlange, .ref m_seenLength]))] H := hP
  have hD : va_D A [(h0, .inr (9, [.ref m_told, .ref m_read, .ref m_now, .ref m_readNow, .ref m_kept, .int 0, .int 1, .int 0, .ref m_tape, .int 0, .ref m_refused, .int 0, .int (-1), .int 0, .int 0, .int 0, .int 0, .int (-1), .ref m_ownLetters, .ref m_flats, .int 0, .ref m_corner, .ref m_wayX, .ref m_wayY, .ref m_normal, .ref m_low, .ref m_high, .ref m_clear, .ref m_ways, .ref m_canBe, .ref m_lain, .int 0, .ref m_fewestBy, .ref m_sortOf, .int 0, .ref m_seenFlange, .ref m_seenLength]))] := hD
  refine lv_aload_n hx hb dX9_word_21 rfl (lv_at hl 0 rfl) ?_
  refine lv_aload_n hx hb dX9_word_22 rfl (lv_at hl 0 rfl) ?_
  refine va_get (D := g.1) (ci := 9) (v := .int 0) (C := RX9) (T := TX9) (N := 37) hx hb hG iX9 hown hX.1 hP 0 rfl rfl 14 (by decide) (hG _ g1431) (fun _ h9 => h9) rfl dX9_word_23 ?_
  refine zfi (wr := []) (va_runV (As := [.int 0]) (rest := []) ⟨hx, hb, hml, hown, hG⟩ (kX9_isSmall l g h0 m_told m_read m_now m_readNow m_kept m_tape m_refused m_ownLetters m_flats m_corner m_wayX m_wayY m_normal m_low m_high m_clear m_ways m_canBe m_lain m_fewestBy m_sortOf m_seenFlange m_seenLength _) ⟨callB_of 1 hG (zGood g1585) rfl rfl rfl (hG _ g211) (hG _ g1582) hX9_isSmall ⟨Nat.le_of_ble_eq_true rfl, Nat.le_of_ble_eq_true rfl⟩, hG _ g1584, hG _ g134⟩ (zpreV (va_recv hX.1 hP (ci := 9) (q0 := 0) rfl rfl) hX hP hD hS hA [0] rfl (by decide)) rfl rfl hl.1 rfl (lv_room (Nat.le_of_ble_eq_true rfl)) dX9_word_26 ⟨Nat.le_of_ble_eq_true rfl, Nat.le_of_ble_eq_true rfl⟩) hP hD hS hA [0] [] rfl rfl (by decide) (by decide) (fun r5 _ H locs hp hP hD hS => ?_)
  refine W.cs (cells' := 0) (slots' := 0) rfl rfl ?_
  have hq6 : r5 = 0 := hp
  subst hq6
  have hP : va_P g.1 vwCl [(h0, .inr (9, [.ref m_told, .ref m_read, .ref m_now, .ref m_readNow, .ref m_kept, .int 0, .int 1, .int 0, .ref m_tape, .int 0, .ref m_refused, .int 0, .int (-1), .int 0, .int 0, .int 0, .int 0, .int (-1), .ref m_ownLetters, .ref m_flats, .int 0, .ref m_corner, .ref m_wayX, .ref m_wayY, .ref m_normal, .ref m_low, .ref m_high, .ref m_clear, .ref m_ways, .ref m_canBe, .ref m_lain, .int 0, .ref m_fewestBy, .ref m_sortOf, .int 0, .ref m_seenFlange, .ref m_seenLength]))] H := hP
  have hD : va_D A [(h0, .inr (9, [.ref m_told, .ref m_read, .ref m_now, .ref m_readNow, .ref m_kept, .int 0, .int 1, .int 0, .ref m_tape, .int 0, .ref m_refused, .int 0, .int (-1), .int 0, .int 0, .int 0, .int 0, .int (-1), .ref m_ownLetters, .ref m_flats, .int 0, .ref m_corner, .ref m_wayX, .ref m_wayY, .ref m_normal, .ref m_low, .ref m_high, .ref m_clear, .ref m_ways, .ref m_canBe, .ref m_lain, .int 0, .ref m_fewestBy, .ref m_sortOf, .int 0, .ref m_seenFlange, .ref m_seenLength]))] := hD
  refine lv_if_eq (tgt := 58) hx hb dX9_word_29 (by decide) (fun c29 => ?_) (fun c29 => (c29 (by decide)).elim)
  refine lv_aload_n hx hb dX9_word_58 rfl (lv_at hl 0 rfl) ?_
  refine lv_iconst (v := 1) hx hb dX9_word_59 (by decide) ?_
  refine lv_aload_n hx hb dX9_word_60 rfl (lv_at hl 0 rfl) ?_
  refine va_get (D := g.1) (ci := 9) (v := .int 0) (C := RX9) (T := TX9) (N := 37) hx hb hG iX9 hown hX.1 hP 0 rfl rfl 14 (by decide) (hG _ g1431) (fun _ h9 => h9) rfl dX9_word_61 ?_
  refine zfv (wr := []) (va_runV (As := [.int 1, .int 0]) (rest := []) ⟨hx, hb, hml, hown, hG⟩ (kX9_faults l g h0 m_told m_read m_now m_readNow m_kept m_tape m_refused m_ownLetters m_flats m_corner m_wayX m_wayY m_normal m_low m_high m_clear m_ways m_canBe m_lain m_fewestBy m_sortOf m_seenFlange m_seenLength _) ⟨callB_of 2 hG (zGood g1593) rfl rfl rfl (hG _ g211) (hG _ g1590) hX9_faults ⟨Nat.le_of_ble_eq_true rfl, Nat.le_of_ble_eq_true rfl⟩, hG _ g1592, hG _ g136⟩ (zpreV (va_recv hX.1 hP (ci := 9) (q0 := 0) rfl rfl) hX hP hD hS hA [0] rfl (by decide)) rfl rfl hl.1 rfl (lv_room (Nat.le_of_ble_eq_true rfl)) dX9_word_64 ⟨Nat.le_of_ble_eq_true rfl, Nat.le_of_ble_eq_true rfl⟩) hP hD hS hA [0] [] rfl rfl (by decide) (by decide) (fun _ H locs hp hP hD hS => ?_)
  refine W.cs (cells' := 0) (slots' := 0) rfl rfl ?_
  have hP : va_P g.1 vwCl [(h0, .inr (9, [.ref m_told, .ref m_read, .ref m_now, .ref m_readNow, .ref m_kept, .int 0, .int 1, .int 0, .ref m_tape, .int 0, .ref m_refused, .int 0, .int (-1), .int 0, .int 0, .int 0, .int 1, .int 0, .ref m_ownLetters, .ref m_flats, .int 0, .ref m_corner, .ref m_wayX, .ref m_wayY, .ref m_normal, .ref m_low, .ref m_high, .ref m_clear, .ref m_ways, .ref m_canBe, .ref m_lain, .int 0, .ref m_fewestBy, .ref m_sortOf, .int 0, .ref m_seenFlange, .ref m_seenLength]))] H := hP
  have hD : va_D A [(h0, .inr (9, [.ref m_told, .ref m_read, .ref m_now, .ref m_readNow, .ref m_kept, .int 0, .int 1, .int 0, .ref m_tape, .int 0, .ref m_refused, .int 0, .int (-1), .int 0, .int 0, .int 0, .int 1, .int 0, .ref m_ownLetters, .ref m_flats, .int 0, .ref m_corner, .ref m_wayX, .ref m_wayY, .ref m_normal, .ref m_low, .ref m_high, .ref m_clear, .ref m_ways, .ref m_canBe, .ref m_lain, .int 0, .ref m_fewestBy, .ref m_sortOf, .int 0, .ref m_seenFlange, .ref m_seenLength]))] := hD
  exact zrv (rm := { frames := 2, cells := 0, slots := 0, locals := 42 }) () hx hb hr hlocks (Nat.le_of_ble_eq_true rfl) (Nat.le_of_ble_eq_true rfl) (trivial) hP hD hS dX9_word_67
theorem dX9_word_7 : decode cX9_word 7 = .ok (.return_, 1) := by decide +kernel
set_option maxHeartbeats 4000000 in
set_option maxRecDepth 100000 in
theorem kX9_wordb (l : Launch) (g : zL) (h0 : Nat) (m_told : Nat) (m_read : Nat) (m_now : Nat) (m_readNow : Nat) (m_kept : Nat) (m_tape : Nat) (m_refused : Nat) (m_ownLetters : Nat) (m_flats : Nat) (m_corner : Nat) (m_wayX : Nat) (m_wayY : Nat) (m_normal : Nat) (m_low : Nat) (m_high : Nat) (m_clear : Nat) (m_ways : Nat) (m_canBe : Nat) (m_lain : Nat) (m_fewestBy : Nat) (m_sortOf : Nat) (m_seenFlange : Nat) (m_seenLength : Nat) : zCv l g yX9_word cX9_word 1 none { frames := 1, cells := 0, slots := 0, locals := 20 } [.ref h0] [(h0, .inr (9, [.ref m_told, .ref m_read, .ref m_now, .ref m_readNow, .ref m_kept, .int 0, .int 1, .int 0, .ref m_tape, .int 0, .ref m_refused, .int 0, .int (-1), .int 0, .int 0, .int 0, .int 1, .int 0, .ref m_ownLetters, .ref m_flats, .int 0, .ref m_corner, .ref m_wayX, .ref m_wayY, .ref m_normal, .ref m_low, .ref m_high, .ref m_clear, .ref m_ways, .ref m_canBe, .ref m_lain, .int 0, .ref m_fewestBy, .ref m_sortOf, .int 0, .ref m_seenFlange, .ref m_seenLength]))] (fun (u : Unit) => True) (fun (u : Unit) => [(h0, .inr (9, [.ref m_told, .ref m_read, .ref m_now, .ref m_readNow, .ref m_kept, .int 0, .int 1, .int 0, .ref m_tape, .int 0, .ref m_refused, .int 0, .int (-1), .int 0, .int 0, .int 0, .int 1, .int 0, .ref m_ownLetters, .ref m_flats, .int 0, .ref m_corner, .ref m_wayX, .ref m_wayY, .ref m_normal, .ref m_low, .ref m_high, .ref m_clear, .ref m_ways, .ref m_canBe, .ref m_lain, .int 0, .ref m_fewestBy, .ref m_sortOf, .int 0, .ref m_seenFlange, .ref m_seenLength]))]) := by
  refine zCv.mk (by decide) (Nat.le_of_ble_eq_true rfl) ?_
  intro p e s m below meth c A hE hP hD hS ls hl
  obtain ⟨hx, hb, hr, hml, hown, hG, hlocks, hnm, hX, hA⟩ := hE
  have hown : s.vm.findClass RX9 = some m.cls := hown
  have hl : lv_has ls 1 [(0, .ref h0)] := hl
  refine lv_aload_n hx hb dX9_word_0 rfl (lv_at hl 0 rfl) ?_
  refine zfi (wr := []) (va_runV (As := []) (rest := []) ⟨hx, hb, hml, hown, hG⟩ (kX9_goesWellb l g h0 m_told m_read m_now m_readNow m_kept m_tape m_refused m_ownLetters m_flats m_corner m_wayX m_wayY m_normal m_low m_high m_clear m_ways m_canBe m_lain m_fewestBy m_sortOf m_seenFlange m_seenLength _) ⟨callB_of 0 hG (zGood g1573) rfl rfl rfl (hG _ g211) (hG _ g1570) hX9_goesWell ⟨Nat.le_of_ble_eq_true rfl, Nat.le_of_ble_eq_true rfl⟩, hG _ g1572, hG _ g131⟩ (zpreV (va_recv hX.1 hP (ci := 9) (q0 := 0) rfl rfl) hX hP hD hS hA [0] rfl (by decide)) rfl rfl hl.1 rfl (lv_room (Nat.le_of_ble_eq_true rfl)) dX9_word_1 ⟨Nat.le_of_ble_eq_true rfl, Nat.le_of_ble_eq_true rfl⟩) hP hD hS hA [0] [] rfl rfl (by decide) (by decide) (fun r1 _ H locs hp hP hD hS => ?_)
  refine W.cs (cells' := 0) (slots' := 0) rfl rfl ?_
  have hq2 : r1 = 0 := hp
  subst hq2
  have hP : va_P g.1 vwCl [(h0, .inr (9, [.ref m_told, .ref m_read, .ref m_now, .ref m_readNow, .ref m_kept, .int 0, .int 1, .int 0, .ref m_tape, .int 0, .ref m_refused, .int 0, .int (-1), .int 0, .int 0, .int 0, .int 1, .int 0, .ref m_ownLetters, .ref m_flats, .int 0, .ref m_corner, .ref m_wayX, .ref m_wayY, .ref m_normal, .ref m_low, .ref m_high, .ref m_clear, .ref m_ways, .ref m_canBe, .ref m_lain, .int 0, .ref m_fewestBy, .ref m_sortOf, .int 0, .ref m_seenFlange, .ref m_seenLength]))] H := hP
  have hD : va_D A [(h0, .inr (9, [.ref m_told, .ref m_read, .ref m_now, .ref m_readNow, .ref m_kept, .int 0, .int 1, .int 0, .ref m_tape, .int 0, .ref m_refused, .int 0, .int (-1), .int 0, .int 0, .int 0, .int 1, .int 0, .ref m_ownLetters, .ref m_flats, .int 0, .ref m_corner, .ref m_wayX, .ref m_wayY, .ref m_normal, .ref m_low, .ref m_high, .ref m_clear, .ref m_ways, .ref m_canBe, .ref m_lain, .int 0, .ref m_fewestBy, .ref m_sortOf, .int 0, .ref m_seenFlange, .ref m_seenLength]))] := hD
  refine lv_if_ne (tgt := 8) hx hb dX9_word_4 (by decide) (fun c4 => (c4 (by decide)).elim) (fun c4 => ?_)
  exact zrv (rm := { frames := 1, cells := 0, slots := 0, locals := 20 }) () hx hb hr hlocks (Nat.le_of_ble_eq_true rfl) (Nat.le_of_ble_eq_true rfl) (trivial) hP hD hS dX9_word_7
theorem dX9_must_0 : decode cX9_must 0 = .ok (.aload_n 0, 1) := by decide +kernel
theorem dX9_must_1 : decode cX9_must 1 = .ok (.invokevirtual 157, 3) := by decide +kernel
theorem dX9_must_4 : decode cX9_must 4 = .ok (.aload_n 0, 1) := by decide +kernel
theorem dX9_must_5 : decode cX9_must 5 = .ok (.invokevirtual 139, 3) := by decide +kernel
theorem dX9_must_8 : decode cX9_must 8 = .ok (.ifCond .eq 20, 3) := by decide +kernel
theorem dX9_must_28 : decode cX9_must 28 = .ok (.return_, 1) := by decide +kernel
set_option maxHeartbeats 4000000 in
set_option maxRecDepth 100000 in
theorem kX9_musta (l : Launch) (g : zL) (h0 : Nat) (m_told : Nat) (m_read : Nat) (m_now : Nat) (m_readNow : Nat) (m_kept : Nat) (m_tape : Nat) (m_refused : Nat) (m_ownLetters : Nat) (m_flats : Nat) (m_corner : Nat) (m_wayX : Nat) (m_wayY : Nat) (m_normal : Nat) (m_low : Nat) (m_high : Nat) (m_clear : Nat) (m_ways : Nat) (m_canBe : Nat) (m_lain : Nat) (m_fewestBy : Nat) (m_sortOf : Nat) (m_seenFlange : Nat) (m_seenLength : Nat) : zCv l g yX9_must cX9_must 2 none { frames := 3, cells := 0, slots := 0, locals := 62 } [.ref h0, .int 0] [(h0, .inr (9, [.ref m_told, .ref m_read, .ref m_now, .ref m_readNow, .ref m_kept, .int 0, .int 1, .int 0, .ref m_tape, .int 0, .ref m_refused, .int 0, .int (-1), .int 0, .int 0, .int 0, .int 0, .int (-1), .ref m_ownLetters, .ref m_flats, .int 0, .ref m_corner, .ref m_wayX, .ref m_wayY, .ref m_normal, .ref m_low, .ref m_high, .ref m_clear, .ref m_ways, .ref m_canBe, .ref m_lain, .int 0, .ref m_fewestBy, .ref m_sortOf, .int 0, .ref m_seenFlange, .ref m_seenLength]))] (fun (u : Unit) => True) (fun (u : Unit) => [(h0, .inr (9, [.ref m_told, .ref m_read, .ref m_now, .ref m_readNow, .ref m_kept, .int 0, .int 1, .int 0, .ref m_tape, .int 0, .ref m_refused, .int 0, .int (-1), .int 0, .int 0, .int 0, .int 1, .int 0, .ref m_ownLetters, .ref m_flats, .int 0, .ref m_corner, .ref m_wayX, .ref m_wayY, .ref m_normal, .ref m_low, .ref m_high, .ref m_clear, .ref m_ways, .ref m_canBe, .ref m_lain, .int 0, .ref m_fewestBy, .ref m_sortOf, .int 0, .ref m_seenFlange, .ref m_seenLength]))]) := by
  refine zCv.mk (by decide) (Nat.le_of_ble_eq_true rfl) ?_
  intro p e s m below meth c A hE hP hD hS ls hl
  obtain ⟨hx, hb, hr, hml, hown, hG, hlocks, hnm, hX, hA⟩ := hE
  have hown : s.vm.findClass RX9 = some m.cls := hown
  have hl : lv_has ls 2 [(0, .ref h0), (1, .int 0)] := hl
  refine lv_aload_n hx hb dX9_must_0 rfl (lv_at hl 0 rfl) ?_
  refine zfv (wr := []) (va_runV (As := []) (rest := []) ⟨hx, hb, hml, hown, hG⟩ (kX9_worda l g h0 m_told m_read m_now m_readNow m_kept m_tape m_refused m_ownLetters m_flats m_corner m_wayX m_wayY m_normal m_low m_high m_clear m_ways m_canBe m_lain m_fewestBy m_sortOf m_seenFlange m_seenLength _) ⟨callB_of 0 hG (zGood g1569) rfl rfl rfl (hG _ g211) (hG _ g1566) hX9_word ⟨Nat.le_of_ble_eq_true rfl, Nat.le_of_ble_eq_true rfl⟩, hG _ g1568, hG _ g130⟩ (zpreV (va_recv hX.1 hP (ci := 9) (q0 := 0) rfl rfl) hX hP hD hS hA [0] rfl (by decide)) rfl rfl hl.1 rfl (lv_room (Nat.le_of_ble_eq_true rfl)) dX9_must_1 ⟨Nat.le_of_ble_eq_true rfl, Nat.le_of_ble_eq_true rfl⟩) hP hD hS hA [0] [] rfl rfl (by decide) (by decide) (fun _ H locs hp hP hD hS => ?_)
  refine W.cs (cells' := 0) (slots' := 0) rfl rfl ?_
  have hP : va_P g.1 vwCl [(h0, .inr (9, [.ref m_told, .ref m_read, .ref m_now, .ref m_readNow, .ref m_kept, .int 0, .int 1, .int 0, .ref m_tape, .int 0, .ref m_refused, .int 0, .int (-1), .int 0, .int 0, .int 0, .int 1, .int 0, .ref m_ownLetters, .ref m_flats, .int 0, .ref m_corner, .ref m_wayX, .ref m_wayY, .ref m_normal, .ref m_low, .ref m_high, .ref m_clear, .ref m_ways, .ref m_canBe, .ref m_lain, .int 0, .ref m_fewestBy, .ref m_sortOf, .int 0, .ref m_seenFlange, .ref m_seenLength]))] H := hP
  have hD : va_D A [(h0, .inr (9, [.ref m_told, .ref m_read, .ref m_now, .ref m_readNow, .ref m_kept, .int 0, .int 1, .int 0, .ref m_tape, .int 0, .ref m_refused, .int 0, .int (-1), .int 0, .int 0, .int 0, .int 1, .int 0, .ref m_ownLetters, .ref m_flats, .int 0, .ref m_corner, .ref m_wayX, .ref m_wayY, .ref m_normal, .ref m_low, .ref m_high, .ref m_clear, .ref m_ways, .ref m_canBe, .ref m_lain, .int 0, .ref m_fewestBy, .ref m_sortOf, .int 0, .ref m_seenFlange, .ref m_seenLength]))] := hD
  refine lv_aload_n hx hb dX9_must_4 rfl (lv_at hl 0 rfl) ?_
  refine zfi (wr := []) (va_runV (As := []) (rest := []) ⟨hx, hb, hml, hown, hG⟩ (kX9_goesWellb l g h0 m_told m_read m_now m_readNow m_kept m_tape m_refused m_ownLetters m_flats m_corner m_wayX m_wayY m_normal m_low m_high m_clear m_ways m_canBe m_lain m_fewestBy m_sortOf m_seenFlange m_seenLength _) ⟨callB_of 0 hG (zGood g1573) rfl rfl rfl (hG _ g211) (hG _ g1570) hX9_goesWell ⟨Nat.le_of_ble_eq_true rfl, Nat.le_of_ble_eq_true rfl⟩, hG _ g1572, hG _ g131⟩ (zpreV (va_recv hX.1 hP (ci := 9) (q0 := 0) rfl rfl) hX hP hD hS hA [0] rfl (by decide)) rfl rfl hl.1 rfl (lv_room (Nat.le_of_ble_eq_true rfl)) dX9_must_5 ⟨Nat.le_of_ble_eq_true rfl, Nat.le_of_ble_eq_true rfl⟩) hP hD hS hA [0] [] rfl rfl (by decide) (by decide) (fun r2 _ H locs hp hP hD hS => ?_)
  refine W.cs (cells' := 0) (slots' := 0) rfl rfl ?_
  have hq3 : r2 = 0 := hp
  subst hq3
  have hP : va_P g.1 vwCl [(h0, .inr (9, [.ref m_told, .ref m_read, .ref m_now, .ref m_readNow, .ref m_kept, .int 0, .int 1, .int 0, .ref m_tape, .int 0, .ref m_refused, .int 0, .int (-1), .int 0, .int 0, .int 0, .int 1, .int 0, .ref m_ownLetters, .ref m_flats, .int 0, .ref m_corner, .ref m_wayX, .ref m_wayY, .ref m_normal, .ref m_low, .ref m_high, .ref m_clear, .ref m_ways, .ref m_canBe, .ref m_lain, .int 0, .ref m_fewestBy, .ref m_sortOf, .int 0, .ref m_seenFlange, .ref m_seenLength]))] H := hP
  have hD : va_D A [(h0, .inr (9, [.ref m_told, .ref m_read, .ref m_now, .ref m_readNow, .ref m_kept, .int 0, .int 1, .int 0, .ref m_tape, .int 0, .ref m_refused, .int 0, .int (-1), .int 0, .int 0, .int 0, .int 1, .int 0, .ref m_ownLetters, .ref m_flats, .int 0, .ref m_corner, .ref m_wayX, .ref m_wayY, .ref m_normal, .ref m_low, .ref m_high, .ref m_clear, .ref m_ways, .ref m_canBe, .ref m_lain, .int 0, .ref m_fewestBy, .ref m_sortOf, .int 0, .ref m_seenFlange, .ref m_seenLength]))] := hD
  refine lv_if_eq (tgt := 28) hx hb dX9_must_8 (by decide) (fun c8 => ?_) (fun c8 => (c8 (by decide)).elim)
  exact zrv (rm := { frames := 3, cells := 0, slots := 0, locals := 62 }) () hx hb hr hlocks (Nat.le_of_ble_eq_true rfl) (Nat.le_of_ble_eq_true rfl) (trivial) hP hD hS dX9_must_28
set_option maxHeartbeats 4000000 in
set_option maxRecDepth 100000 in
theorem kX9_mustb (l : Launch) (g : zL) (h0 : Nat) (x : Int32) (m_told : Nat) (m_read : Nat) (m_now : Nat) (m_readNow : Nat) (m_kept : Nat) (m_tape : Nat) (m_refused : Nat) (m_ownLetters : Nat) (m_flats : Nat) (m_corner : Nat) (m_wayX : Nat) (m_wayY : Nat) (m_normal : Nat) (m_low : Nat) (m_high : Nat) (m_clear : Nat) (m_ways : Nat) (m_canBe : Nat) (m_lain : Nat) (m_fewestBy : Nat) (m_sortOf : Nat) (m_seenFlange : Nat) (m_seenLength : Nat) : zCv l g yX9_must cX9_must 2 none { frames := 2, cells := 0, slots := 0, locals := 40 } [.ref h0, .int x] [(h0, .inr (9, [.ref m_told, .ref m_read, .ref m_now, .ref m_readNow, .ref m_kept, .int 0, .int 1, .int 0, .ref m_tape, .int 0, .ref m_refused, .int 0, .int (-1), .int 0, .int 0, .int 0, .int 1, .int 0, .ref m_ownLetters, .ref m_flats, .int 0, .ref m_corner, .ref m_wayX, .ref m_wayY, .ref m_normal, .ref m_low, .ref m_high, .ref m_clear, .ref m_ways, .ref m_canBe, .ref m_lain, .int 0, .ref m_fewestBy, .ref m_sortOf, .int 0, .ref m_seenFlange, .ref m_seenLength]))] (fun (u : Unit) => True) (fun (u : Unit) => [(h0, .inr (9, [.ref m_told, .ref m_read, .ref m_now, .ref m_readNow, .ref m_kept, .int 0, .int 1, .int 0, .ref m_tape, .int 0, .ref m_refused, .int 0, .int (-1), .int 0, .int 0, .int 0, .int 1, .int 0, .ref m_ownLetters, .ref m_flats, .int 0, .ref m_corner, .ref m_wayX, .ref m_wayY, .ref m_normal, .ref m_low, .ref m_high, .ref m_clear, .ref m_ways, .ref m_canBe, .ref m_lain, .int 0, .ref m_fewestBy, .ref m_sortOf, .int 0, .ref m_seenFlange, .ref m_seenLength]))]) := by
  refine zCv.mk (by decide) (Nat.le_of_ble_eq_true rfl) ?_
  intro p e s m below meth c A hE hP hD hS ls hl
  obtain ⟨hx, hb, hr, hml, hown, hG, hlocks, hnm, hX, hA⟩ := hE
  have hown : s.vm.findClass RX9 = some m.cls := hown
  have hl : lv_has ls 2 [(0, .ref h0), (1, .int x)] := hl
  refine lv_aload_n hx hb dX9_must_0 rfl (lv_at hl 0 rfl) ?_
  refine zfv (wr := []) (va_runV (As := []) (rest := []) ⟨hx, hb, hml, hown, hG⟩ (kX9_wordb l g h0 m_told m_read m_now m_readNow m_kept m_tape m_refused m_ownLetters m_flats m_corner m_wayX m_wayY m_normal m_low m_high m_clear m_ways m_canBe m_lain m_fewestBy m_sortOf m_seenFlange m_seenLength _) ⟨callB_of 0 hG (zGood g1569) rfl rfl rfl (hG _ g211) (hG _ g1566) hX9_word ⟨Nat.le_of_ble_eq_true rfl, Nat.le_of_ble_eq_true rfl⟩, hG _ g1568, hG _ g130⟩ (zpreV (va_recv hX.1 hP (ci := 9) (q0 := 0) rfl rfl) hX hP hD hS hA [0] rfl (by decide)) rfl rfl hl.1 rfl (lv_room (Nat.le_of_ble_eq_true rfl)) dX9_must_1 ⟨Nat.le_of_ble_eq_true rfl, Nat.le_of_ble_eq_true rfl⟩) hP hD hS hA [0] [] rfl rfl (by decide) (by decide) (fun _ H locs hp hP hD hS => ?_)
  refine W.cs (cells' := 0) (slots' := 0) rfl rfl ?_
  have hP : va_P g.1 vwCl [(h0, .inr (9, [.ref m_told, .ref m_read, .ref m_now, .ref m_readNow, .ref m_kept, .int 0, .int 1, .int 0, .ref m_tape, .int 0, .ref m_refused, .int 0, .int (-1), .int 0, .int 0, .int 0, .int 1, .int 0, .ref m_ownLetters, .ref m_flats, .int 0, .ref m_corner, .ref m_wayX, .ref m_wayY, .ref m_normal, .ref m_low, .ref m_high, .ref m_clear, .ref m_ways, .ref m_canBe, .ref m_lain, .int 0, .ref m_fewestBy, .ref m_sortOf, .int 0, .ref m_seenFlange, .ref m_seenLength]))] H := hP
  have hD : va_D A [(h0, .inr (9, [.ref m_told, .ref m_read, .ref m_now, .ref m_readNow, .ref m_kept, .int 0, .int 1, .int 0, .ref m_tape, .int 0, .ref m_refused, .int 0, .int (-1), .int 0, .int 0, .int 0, .int 1, .int 0, .ref m_ownLetters, .ref m_flats, .int 0, .ref m_corner, .ref m_wayX, .ref m_wayY, .ref m_normal, .ref m_low, .ref m_high, .ref m_clear, .ref m_ways, .ref m_canBe, .ref m_lain, .int 0, .ref m_fewestBy, .ref m_sortOf, .int 0, .ref m_seenFlange, .ref m_seenLength]))] := hD
  refine lv_aload_n hx hb dX9_must_4 rfl (lv_at hl 0 rfl) ?_
  refine zfi (wr := []) (va_runV (As := []) (rest := []) ⟨hx, hb, hml, hown, hG⟩ (kX9_goesWellb l g h0 m_told m_read m_now m_readNow m_kept m_tape m_refused m_ownLetters m_flats m_corner m_wayX m_wayY m_normal m_low m_high m_clear m_ways m_canBe m_lain m_fewestBy m_sortOf m_seenFlange m_seenLength _) ⟨callB_of 0 hG (zGood g1573) rfl rfl rfl (hG _ g211) (hG _ g1570) hX9_goesWell ⟨Nat.le_of_ble_eq_true rfl, Nat.le_of_ble_eq_true rfl⟩, hG _ g1572, hG _ g131⟩ (zpreV (va_recv hX.1 hP (ci := 9) (q0 := 0) rfl rfl) hX hP hD hS hA [0] rfl (by decide)) rfl rfl hl.1 rfl (lv_room (Nat.le_of_ble_eq_true rfl)) dX9_must_5 ⟨Nat.le_of_ble_eq_true rfl, Nat.le_of_ble_eq_true rfl⟩) hP hD hS hA [0] [] rfl rfl (by decide) (by decide) (fun r2 _ H locs hp hP hD hS => ?_)
  refine W.cs (cells' := 0) (slots' := 0) rfl rfl ?_
  have hq3 : r2 = 0 := hp
  subst hq3
  have hP : va_P g.1 vwCl [(h0, .inr (9, [.ref m_told, .ref m_read, .ref m_now, .ref m_readNow, .ref m_kept, .int 0, .int 1, .int 0, .ref m_tape, .int 0, .ref m_refused, .int 0, .int (-1), .int 0, .int 0, .int 0, .int 1, .int 0, .ref m_ownLetters, .ref m_flats, .int 0, .ref m_corner, .ref m_wayX, .ref m_wayY, .ref m_normal, .ref m_low, .ref m_high, .ref m_clear, .ref m_ways, .ref m_canBe, .ref m_lain, .int 0, .ref m_fewestBy, .ref m_sortOf, .int 0, .ref m_seenFlange, .ref m_seenLength]))] H := hP
  have hD : va_D A [(h0, .inr (9, [.ref m_told, .ref m_read, .ref m_now, .ref m_readNow, .ref m_kept, .int 0, .int 1, .int 0, .ref m_tape, .int 0, .ref m_refused, .int 0, .int (-1), .int 0, .int 0, .int 0, .int 1, .int 0, .ref m_ownLetters, .ref m_flats, .int 0, .ref m_corner, .ref m_wayX, .ref m_wayY, .ref m_normal, .ref m_low, .ref m_high, .ref m_clear, .ref m_ways, .ref m_canBe, .ref m_lain, .int 0, .ref m_fewestBy, .ref m_sortOf, .int 0, .ref m_seenFlange, .ref m_seenLength]))] := hD
  refine lv_if_eq (tgt := 28) hx hb dX9_must_8 (by decide) (fun c8 => ?_) (fun c8 => (c8 (by decide)).elim)
  exact zrv (rm := { frames := 2, cells := 0, slots := 0, locals := 40 }) () hx hb hr hlocks (Nat.le_of_ble_eq_true rfl) (Nat.le_of_ble_eq_true rfl) (trivial) hP hD hS dX9_must_28
theorem dX9_number_0 : decode cX9_number 0 = .ok (.aload_n 0, 1) := by decide +kernel
theorem dX9_number_1 : decode cX9_number 1 = .ok (.invokevirtual 139, 3) := by decide +kernel
theorem dX9_number_4 : decode cX9_number 4 = .ok (.ifCond .ne 5, 3) := by decide +kernel
theorem dX9_number_7 : decode cX9_number 7 = .ok (.iconst 0, 1) := by decide +kernel
theorem dX9_number_8 : decode cX9_number 8 = .ok (.ireturn, 1) := by decide +kernel
set_option maxHeartbeats 4000000 in
set_option maxRecDepth 100000 in
theorem kX9_number (l : Launch) (g : zL) (h0 : Nat) (x : Int32) (y : Int32) (m_told : Nat) (m_read : Nat) (m_now : Nat) (m_readNow : Nat) (m_kept : Nat) (m_tape : Nat) (m_refused : Nat) (m_ownLetters : Nat) (m_flats : Nat) (m_corner : Nat) (m_wayX : Nat) (m_wayY : Nat) (m_normal : Nat) (m_low : Nat) (m_high : Nat) (m_clear : Nat) (m_ways : Nat) (m_canBe : Nat) (m_lain : Nat) (m_fewestBy : Nat) (m_sortOf : Nat) (m_seenFlange : Nat) (m_seenLength : Nat) : zCi l g yX9_number cX9_number 4 (some .int) { frames := 1, cells := 0, slots := 0, locals := 20 } [.ref h0, .int x, .int y] [(h0, .inr (9, [.ref m_told, .ref m_read, .ref m_now, .ref m_readNow, .ref m_kept, .int 0, .int 1, .int 0, .ref m_tape, .int 0, .ref m_refused, .int 0, .int (-1), .int 0, .int 0, .int 0, .int 1, .int 0, .ref m_ownLetters, .ref m_flats, .int 0, .ref m_corner, .ref m_wayX, .ref m_wayY, .ref m_normal, .ref m_low, .ref m_high, .ref m_clear, .ref m_ways, .ref m_canBe, .ref m_lain, .int 0, .ref m_fewestBy, .ref m_sortOf, .int 0, .ref m_seenFlange, .ref m_seenLength]))] (fun (r : Int32) (u : Unit) => r = 0) (fun (u : Unit) => [(h0, .inr (9, [.ref m_told, .ref m_read, .ref m_now, .ref m_readNow, .ref m_kept, .int 0, .int 1, .int 0, .ref m_tape, .int 0, .ref m_refused, .int 0, .int (-1), .int 0, .int 0, .int 0, .int 1, .int 0, .ref m_ownLetters, .ref m_flats, .int 0, .ref m_corner, .ref m_wayX, .ref m_wayY, .ref m_normal, .ref m_low, .ref m_high, .ref m_clear, .ref m_ways, .ref m_canBe, .ref m_lain, .int 0, .ref m_fewestBy, .ref m_sortOf, .int 0, .ref m_seenFlange, .ref m_seenLength]))]) := by
  refine zCi.mk (by decide) (Nat.le_of_ble_eq_true rfl) ?_
  intro p e s m below meth c A hE hP hD hS ls hl
  obtain ⟨hx, hb, hr, hml, hown, hG, hlocks, hnm, hX, hA⟩ := hE
  have hown : s.vm.findClass RX9 = some m.cls := hown
  have hl : lv_has ls 4 [(0, .ref h0), (1, .int x), (2, .int y)] := hl
  refine lv_aload_n hx hb dX9_number_0 rfl (lv_at hl 0 rfl) ?_
  refine zfi (wr := []) (va_runV (As := []) (rest := []) ⟨hx, hb, hml, hown, hG⟩ (kX9_goesWellb l g h0 m_told m_read m_now m_readNow m_kept m_tape m_refused m_ownLetters m_flats m_corner m_wayX m_wayY m_normal m_low m_high m_clear m_ways m_canBe m_lain m_fewestBy m_sortOf m_seenFlange m_seenLength _) ⟨callB_of 0 hG (zGood g1573) rfl rfl rfl (hG _ g211) (hG _ g1570) hX9_goesWell ⟨Nat.le_of_ble_eq_true rfl, Nat.le_of_ble_eq_true rfl⟩, hG _ g1572, hG _ g131⟩ (zpreV (va_recv hX.1 hP (ci := 9) (q0 := 0) rfl rfl) hX hP hD hS hA [0] rfl (by decide)) rfl rfl hl.1 rfl (lv_room (Nat.le_of_ble_eq_true rfl)) dX9_number_1 ⟨Nat.le_of_ble_eq_true rfl, Nat.le_of_ble_eq_true rfl⟩) hP hD hS hA [0] [] rfl rfl (by decide) (by decide) (fun r1 _ H locs hp hP hD hS => ?_)
  refine W.cs (cells' := 0) (slots' := 0) rfl rfl ?_
  have hq2 : r1 = 0 := hp
  subst hq2
  have hP : va_P g.1 vwCl [(h0, .inr (9, [.ref m_told, .ref m_read, .ref m_now, .ref m_readNow, .ref m_kept, .int 0, .int 1, .int 0, .ref m_tape, .int 0, .ref m_refused, .int 0, .int (-1), .int 0, .int 0, .int 0, .int 1, .int 0, .ref m_ownLetters, .ref m_flats, .int 0, .ref m_corner, .ref m_wayX, .ref m_wayY, .ref m_normal, .ref m_low, .ref m_high, .ref m_clear, .ref m_ways, .ref m_canBe, .ref m_lain, .int 0, .ref m_fewestBy, .ref m_sortOf, .int 0, .ref m_seenFlange, .ref m_seenLength]))] H := hP
  have hD : va_D A [(h0, .inr (9, [.ref m_told, .ref m_read, .ref m_now, .ref m_readNow, .ref m_kept, .int 0, .int 1, .int 0, .ref m_tape, .int 0, .ref m_refused, .int 0, .int (-1), .int 0, .int 0, .int 0, .int 1, .int 0, .ref m_ownLetters, .ref m_flats, .int 0, .ref m_corner, .ref m_wayX, .ref m_wayY, .ref m_normal, .ref m_low, .ref m_high, .ref m_clear, .ref m_ways, .ref m_canBe, .ref m_lain, .int 0, .ref m_fewestBy, .ref m_sortOf, .int 0, .ref m_seenFlange, .ref m_seenLength]))] := hD
  refine lv_if_ne (tgt := 9) hx hb dX9_number_4 (by decide) (fun c4 => (c4 (by decide)).elim) (fun c4 => ?_)
  refine lv_iconst (v := 0) hx hb dX9_number_7 (by decide) ?_
  exact zri (rm := { frames := 1, cells := 0, slots := 0, locals := 20 }) (v := 0) () hx hb hr hlocks (Nat.le_of_ble_eq_true rfl) (Nat.le_of_ble_eq_true rfl) (rfl) hP hD hS dX9_number_8
theorem dX9_after_0 : decode cX9_after 0 = .ok (.aload_n 0, 1) := by decide +kernel
theorem dX9_after_1 : decode cX9_after 1 = .ok (.iload_n 1, 1) := by decide +kernel
theorem dX9_after_2 : decode cX9_after 2 = .ok (.invokevirtual 167, 3) := by decide +kernel
theorem dX9_after_5 : decode cX9_after 5 = .ok (.aload_n 0, 1) := by decide +kernel
theorem dX9_after_6 : decode cX9_after 6 = .ok (.iload_n 2, 1) := by decide +kernel
theorem dX9_after_7 : decode cX9_after 7 = .ok (.iload_n 3, 1) := by decide +kernel
theorem dX9_after_8 : decode cX9_after 8 = .ok (.invokevirtual 170, 3) := by decide +kernel
theorem dX9_after_11 : decode cX9_after 11 = .ok (.ireturn, 1) := by decide +kernel
set_option maxHeartbeats 4000000 in
set_option maxRecDepth 100000 in
theorem kX9_after (l : Launch) (g : zL) (h0 : Nat) (x : Int32) (y : Int32) (z : Int32) (m_told : Nat) (m_read : Nat) (m_now : Nat) (m_readNow : Nat) (m_kept : Nat) (m_tape : Nat) (m_refused : Nat) (m_ownLetters : Nat) (m_flats : Nat) (m_corner : Nat) (m_wayX : Nat) (m_wayY : Nat) (m_normal : Nat) (m_low : Nat) (m_high : Nat) (m_clear : Nat) (m_ways : Nat) (m_canBe : Nat) (m_lain : Nat) (m_fewestBy : Nat) (m_sortOf : Nat) (m_seenFlange : Nat) (m_seenLength : Nat) : zCi l g yX9_after cX9_after 4 (some .int) { frames := 3, cells := 0, slots := 0, locals := 61 } [.ref h0, .int x, .int y, .int z] [(h0, .inr (9, [.ref m_told, .ref m_read, .ref m_now, .ref m_readNow, .ref m_kept, .int 0, .int 1, .int 0, .ref m_tape, .int 0, .ref m_refused, .int 0, .int (-1), .int 0, .int 0, .int 0, .int 1, .int 0, .ref m_ownLetters, .ref m_flats, .int 0, .ref m_corner, .ref m_wayX, .ref m_wayY, .ref m_normal, .ref m_low, .ref m_high, .ref m_clear, .ref m_ways, .ref m_canBe, .ref m_lain, .int 0, .ref m_fewestBy, .ref m_sortOf, .int 0, .ref m_seenFlange, .ref m_seenLength]))] (fun (r : Int32) (u : Unit) => r = 0) (fun (u : Unit) => [(h0, .inr (9, [.ref m_told, .ref m_read, .ref m_now, .ref m_readNow, .ref m_kept, .int 0, .int 1, .int 0, .ref m_tape, .int 0, .ref m_refused, .int 0, .int (-1), .int 0, .int 0, .int 0, .int 1, .int 0, .ref m_ownLetters, .ref m_flats, .int 0, .ref m_corner, .ref m_wayX, .ref m_wayY, .ref m_normal, .ref m_low, .ref m_high, .ref m_clear, .ref m_ways, .ref m_canBe, .ref m_lain, .int 0, .ref m_fewestBy, .ref m_sortOf, .int 0, .ref m_seenFlange, .ref m_seenLength]))]) := by
  refine zCi.mk (by decide) (Nat.le_of_ble_eq_true rfl) ?_
  intro p e s m below meth c A hE hP hD hS ls hl
  obtain ⟨hx, hb, hr, hml, hown, hG, hlocks, hnm, hX, hA⟩ := hE
  have hown : s.vm.findClass RX9 = some m.cls := hown
  have hl : lv_has ls 4 [(0, .ref h0), (1, .int x), (2, .int y), (3, .int z)] := hl
  refine lv_aload_n hx hb dX9_after_0 rfl (lv_at hl 0 rfl) ?_
  refine lv_iload_n hx hb dX9_after_1 rfl (lv_at hl 1 rfl) ?_
  refine zfv (wr := []) (va_runV (As := [.int x]) (rest := []) ⟨hx, hb, hml, hown, hG⟩ (kX9_mustb l g h0 x m_told m_read m_now m_readNow m_kept m_tape m_refused m_ownLetters m_flats m_corner m_wayX m_wayY m_normal m_low m_high m_clear m_ways m_canBe m_lain m_fewestBy m_sortOf m_seenFlange m_seenLength _) ⟨callB_of 1 hG (zGood g1565) rfl rfl rfl (hG _ g211) (hG _ g1562) hX9_must ⟨Nat.le_of_ble_eq_true rfl, Nat.le_of_ble_eq_true rfl⟩, hG _ g1564, hG _ g129⟩ (zpreV (va_recv hX.1 hP (ci := 9) (q0 := 0) rfl rfl) hX hP hD hS hA [0] rfl (by decide)) rfl rfl hl.1 rfl (lv_room (Nat.le_of_ble_eq_true rfl)) dX9_after_2 ⟨Nat.le_of_ble_eq_true rfl, Nat.le_of_ble_eq_true rfl⟩) hP hD hS hA [0] [] rfl rfl (by decide) (by decide) (fun _ H locs hp hP hD hS => ?_)
  refine W.cs (cells' := 0) (slots' := 0) rfl rfl ?_
  have hP : va_P g.1 vwCl [(h0, .inr (9, [.ref m_told, .ref m_read, .ref m_now, .ref m_readNow, .ref m_kept, .int 0, .int 1, .int 0, .ref m_tape, .int 0, .ref m_refused, .int 0, .int (-1), .int 0, .int 0, .int 0, .int 1, .int 0, .ref m_ownLetters, .ref m_flats, .int 0, .ref m_corner, .ref m_wayX, .ref m_wayY, .ref m_normal, .ref m_low, .ref m_high, .ref m_clear, .ref m_ways, .ref m_canBe, .ref m_lain, .int 0, .ref m_fewestBy, .ref m_sortOf, .int 0, .ref m_seenFlange, .ref m_seenLength]))] H := hP
  have hD : va_D A [(h0, .inr (9, [.ref m_told, .ref m_read, .ref m_now, .ref m_readNow, .ref m_kept, .int 0, .int 1, .int 0, .ref m_tape, .int 0, .ref m_refused, .int 0, .int (-1), .int 0, .int 0, .int 0, .int 1, .int 0, .ref m_ownLetters, .ref m_flats, .int 0, .ref m_corner, .ref m_wayX, .ref m_wayY, .ref m_normal, .ref m_low, .ref m_high, .ref m_clear, .ref m_ways, .ref m_canBe, .ref m_lain, .int 0, .ref m_fewestBy, .ref m_sortOf, .int 0, .ref m_seenFlange, .ref m_seenLength]))] := hD
  refine lv_aload_n hx hb dX9_after_5 rfl (lv_at hl 0 rfl) ?_
  refine lv_iload_n hx hb dX9_after_6 rfl (lv_at hl 2 rfl) ?_
  refine lv_iload_n hx hb dX9_after_7 rfl (lv_at hl 3 rfl) ?_
  refine zfi (wr := []) (va_runV (As := [.int y, .int z]) (rest := []) ⟨hx, hb, hml, hown, hG⟩ (kX9_number l g h0 y z m_told m_read m_now m_readNow m_kept m_tape m_refused m_ownLetters m_flats m_corner m_wayX m_wayY m_normal m_low m_high m_clear m_ways m_canBe m_lain m_fewestBy m_sortOf m_seenFlange m_seenLength _) ⟨callB_of 2 hG (zGood g1605) rfl rfl rfl (hG _ g211) (hG _ g1602) hX9_number ⟨Nat.le_of_ble_eq_true rfl, Nat.le_of_ble_eq_true rfl⟩, hG _ g1604, hG _ g139⟩ (zpreV (va_recv hX.1 hP (ci := 9) (q0 := 0) rfl rfl) hX hP hD hS hA [0] rfl (by decide)) rfl rfl hl.1 rfl (lv_room (Nat.le_of_ble_eq_true rfl)) dX9_after_8 ⟨Nat.le_of_ble_eq_true rfl, Nat.le_of_ble_eq_true rfl⟩) hP hD hS hA [0] [] rfl rfl (by decide) (by decide) (fun r2 _ H locs hp hP hD hS => ?_)
  refine W.cs (cells' := 0) (slots' := 0) rfl rfl ?_
  have hq3 : r2 = 0 := hp
  subst hq3
  have hP : va_P g.1 vwCl [(h0, .inr (9, [.ref m_told, .ref m_read, .ref m_now, .ref m_readNow, .ref m_kept, .int 0, .int 1, .int 0, .ref m_tape, .int 0, .ref m_refused, .int 0, .int (-1), .int 0, .int 0, .int 0, .int 1, .int 0, .ref m_ownLetters, .ref m_flats, .int 0, .ref m_corner, .ref m_wayX, .ref m_wayY, .ref m_normal, .ref m_low, .ref m_high, .ref m_clear, .ref m_ways, .ref m_canBe, .ref m_lain, .int 0, .ref m_fewestBy, .ref m_sortOf, .int 0, .ref m_seenFlange, .ref m_seenLength]))] H := hP
  have hD : va_D A [(h0, .inr (9, [.ref m_told, .ref m_read, .ref m_now, .ref m_readNow, .ref m_kept, .int 0, .int 1, .int 0, .ref m_tape, .int 0, .ref m_refused, .int 0, .int (-1), .int 0, .int 0, .int 0, .int 1, .int 0, .ref m_ownLetters, .ref m_flats, .int 0, .ref m_corner, .ref m_wayX, .ref m_wayY, .ref m_normal, .ref m_low, .ref m_high, .ref m_clear, .ref m_ways, .ref m_canBe, .ref m_lain, .int 0, .ref m_fewestBy, .ref m_sortOf, .int 0, .ref m_seenFlange, .ref m_seenLength]))] := hD
  exact zri (rm := { frames := 3, cells := 0, slots := 0, locals := 61 }) (v := 0) () hx hb hr hlocks (Nat.le_of_ble_eq_true rfl) (Nat.le_of_ble_eq_true rfl) (rfl) hP hD hS dX9_after_11
theorem dX9_endsWell_0 : decode cX9_endsWell 0 = .ok (.aload_n 0, 1) := by decide +kernel
theorem dX9_endsWell_1 : decode cX9_endsWell 1 = .ok (.invokevirtual 139, 3) := by decide +kernel
theorem dX9_endsWell_4 : decode cX9_endsWell 4 = .ok (.ifCond .ne 4, 3) := by decide +kernel
theorem dX9_endsWell_7 : decode cX9_endsWell 7 = .ok (.return_, 1) := by decide +kernel
set_option maxHeartbeats 4000000 in
set_option maxRecDepth 100000 in
theorem kX9_endsWell (l : Launch) (g : zL) (h0 : Nat) (m_told : Nat) (m_read : Nat) (m_now : Nat) (m_readNow : Nat) (m_kept : Nat) (m_tape : Nat) (m_refused : Nat) (m_ownLetters : Nat) (m_flats : Nat) (m_corner : Nat) (m_wayX : Nat) (m_wayY : Nat) (m_normal : Nat) (m_low : Nat) (m_high : Nat) (m_clear : Nat) (m_ways : Nat) (m_canBe : Nat) (m_lain : Nat) (m_fewestBy : Nat) (m_sortOf : Nat) (m_seenFlange : Nat) (m_seenLength : Nat) : zCv l g yX9_endsWell cX9_endsWell 1 none { frames := 1, cells := 0, slots := 0, locals := 20 } [.ref h0] [(h0, .inr (9, [.ref m_told, .ref m_read, .ref m_now, .ref m_readNow, .ref m_kept, .int 0, .int 1, .int 0, .ref m_tape, .int 0, .ref m_refused, .int 0, .int (-1), .int 0, .int 0, .int 0, .int 1, .int 0, .ref m_ownLetters, .ref m_flats, .int 0, .ref m_corner, .ref m_wayX, .ref m_wayY, .ref m_normal, .ref m_low, .ref m_high, .ref m_clear, .ref m_ways, .ref m_canBe, .ref m_lain, .int 0, .ref m_fewestBy, .ref m_sortOf, .int 0, .ref m_seenFlange, .ref m_seenLength]))] (fun (u : Unit) => True) (fun (u : Unit) => [(h0, .inr (9, [.ref m_told, .ref m_read, .ref m_now, .ref m_readNow, .ref m_kept, .int 0, .int 1, .int 0, .ref m_tape, .int 0, .ref m_refused, .int 0, .int (-1), .int 0, .int 0, .int 0, .int 1, .int 0, .ref m_ownLetters, .ref m_flats, .int 0, .ref m_corner, .ref m_wayX, .ref m_wayY, .ref m_normal, .ref m_low, .ref m_high, .ref m_clear, .ref m_ways, .ref m_canBe, .ref m_lain, .int 0, .ref m_fewestBy, .ref m_sortOf, .int 0, .ref m_seenFlange, .ref m_seenLength]))]) := by
  refine zCv.mk (by decide) (Nat.le_of_ble_eq_true rfl) ?_
  intro p e s m below meth c A hE hP hD hS ls hl
  obtain ⟨hx, hb, hr, hml, hown, hG, hlocks, hnm, hX, hA⟩ := hE
  have hown : s.vm.findClass RX9 = some m.cls := hown
  have hl : lv_has ls 1 [(0, .ref h0)] := hl
  refine lv_aload_n hx hb dX9_endsWell_0 rfl (lv_at hl 0 rfl) ?_
  refine zfi (wr := []) (va_runV (As := []) (rest := []) ⟨hx, hb, hml, hown, hG⟩ (kX9_goesWellb l g h0 m_told m_read m_now m_readNow m_kept m_tape m_refused m_ownLetters m_flats m_corner m_wayX m_wayY m_normal m_low m_high m_clear m_ways m_canBe m_lain m_fewestBy m_sortOf m_seenFlange m_seenLength _) ⟨callB_of 0 hG (zGood g1573) rfl rfl rfl (hG _ g211) (hG _ g1570) hX9_goesWell ⟨Nat.le_of_ble_eq_true rfl, Nat.le_of_ble_eq_true rfl⟩, hG _ g1572, hG _ g131⟩ (zpreV (va_recv hX.1 hP (ci := 9) (q0 := 0) rfl rfl) hX hP hD hS hA [0] rfl (by decide)) rfl rfl hl.1 rfl (lv_room (Nat.le_of_ble_eq_true rfl)) dX9_endsWell_1 ⟨Nat.le_of_ble_eq_true rfl, Nat.le_of_ble_eq_true rfl⟩) hP hD hS hA [0] [] rfl rfl (by decide) (by decide) (fun r1 _ H locs hp hP hD hS => ?_)
  refine W.cs (cells' := 0) (slots' := 0) rfl rfl ?_
  have hq2 : r1 = 0 := hp
  subst hq2
  have hP : va_P g.1 vwCl [(h0, .inr (9, [.ref m_told, .ref m_read, .ref m_now, .ref m_readNow, .ref m_kept, .int 0, .int 1, .int 0, .ref m_tape, .int 0, .ref m_refused, .int 0, .int (-1), .int 0, .int 0, .int 0, .int 1, .int 0, .ref m_ownLetters, .ref m_flats, .int 0, .ref m_corner, .ref m_wayX, .ref m_wayY, .ref m_normal, .ref m_low, .ref m_high, .ref m_clear, .ref m_ways, .ref m_canBe, .ref m_lain, .int 0, .ref m_fewestBy, .ref m_sortOf, .int 0, .ref m_seenFlange, .ref m_seenLength]))] H := hP
  have hD : va_D A [(h0, .inr (9, [.ref m_told, .ref m_read, .ref m_now, .ref m_readNow, .ref m_kept, .int 0, .int 1, .int 0, .ref m_tape, .int 0, .ref m_refused, .int 0, .int (-1), .int 0, .int 0, .int 0, .int 1, .int 0, .ref m_ownLetters, .ref m_flats, .int 0, .ref m_corner, .ref m_wayX, .ref m_wayY, .ref m_normal, .ref m_low, .ref m_high, .ref m_clear, .ref m_ways, .ref m_canBe, .ref m_lain, .int 0, .ref m_fewestBy, .ref m_sortOf, .int 0, .ref m_seenFlange, .ref m_seenLength]))] := hD
  refine lv_if_ne (tgt := 8) hx hb dX9_endsWell_4 (by decide) (fun c4 => (c4 (by decide)).elim) (fun c4 => ?_)
  exact zrv (rm := { frames := 1, cells := 0, slots := 0, locals := 20 }) () hx hb hr hlocks (Nat.le_of_ble_eq_true rfl) (Nat.le_of_ble_eq_true rfl) (trivial) hP hD hS dX9_endsWell_7
theorem dX9_readsAll_0 : decode cX9_readsAll 0 = .ok (.iconst 0, 1) := by decide +kernel
theorem dX9_readsAll_1 : decode cX9_readsAll 1 = .ok (.istore_n 1, 1) := by decide +kernel
theorem dX9_readsAll_2 : decode cX9_readsAll 2 = .ok (.iload_n 1, 1) := by decide +kernel
theorem dX9_readsAll_3 : decode cX9_readsAll 3 = .ok (.bipush 103, 2) := by decide +kernel
theorem dX9_readsAll_5 : decode cX9_readsAll 5 = .ok (.if_icmp .ge 16, 3) := by decide +kernel
theorem dX9_readsAll_8 : decode cX9_readsAll 8 = .ok (.aload_n 0, 1) := by decide +kernel
theorem dX9_readsAll_9 : decode cX9_readsAll 9 = .ok (.getfield 13, 3) := by decide +kernel
theorem dX9_readsAll_12 : decode cX9_readsAll 12 = .ok (.iload_n 1, 1) := by decide +kernel
theorem dX9_readsAll_13 : decode cX9_readsAll 13 = .ok (.iconst 0, 1) := by decide +kernel
theorem dX9_readsAll_14 : decode cX9_readsAll 14 = .ok (.iastore, 1) := by decide +kernel
theorem dX9_readsAll_15 : decode cX9_readsAll 15 = .ok (.iinc 1 1, 3) := by decide +kernel
theorem dX9_readsAll_18 : decode cX9_readsAll 18 = .ok (.goto (-16), 3) := by decide +kernel
theorem dX9_readsAll_21 : decode cX9_readsAll 21 = .ok (.iconst 0, 1) := by decide +kernel
theorem dX9_readsAll_22 : decode cX9_readsAll 22 = .ok (.istore_n 1, 1) := by decide +kernel
theorem dX9_readsAll_23 : decode cX9_readsAll 23 = .ok (.iload_n 1, 1) := by decide +kernel
theorem dX9_readsAll_24 : decode cX9_readsAll 24 = .ok (.bipush 21, 2) := by decide +kernel
theorem dX9_readsAll_26 : decode cX9_readsAll 26 = .ok (.if_icmp .ge 26, 3) := by decide +kernel
theorem dX9_readsAll_29 : decode cX9_readsAll 29 = .ok (.aload_n 0, 1) := by decide +kernel
theorem dX9_readsAll_30 : decode cX9_readsAll 30 = .ok (.getfield 19, 3) := by decide +kernel
theorem dX9_readsAll_33 : decode cX9_readsAll 33 = .ok (.iload_n 1, 1) := by decide +kernel
theorem dX9_readsAll_34 : decode cX9_readsAll 34 = .ok (.iload_n 1, 1) := by decide +kernel
theorem dX9_readsAll_35 : decode cX9_readsAll 35 = .ok (.bipush 11, 2) := by decide +kernel
theorem dX9_readsAll_37 : decode cX9_readsAll 37 = .ok (.if_icmp .ge 7, 3) := by decide +kernel
theorem dX9_readsAll_40 : decode cX9_readsAll 40 = .ok (.iconst 0, 1) := by decide +kernel
theorem dX9_readsAll_41 : decode cX9_readsAll 41 = .ok (.goto 4, 3) := by decide +kernel
theorem dX9_readsAll_45 : decode cX9_readsAll 45 = .ok (.iastore, 1) := by decide +kernel
theorem dX9_readsAll_46 : decode cX9_readsAll 46 = .ok (.iinc 1 1, 3) := by decide +kernel
theorem dX9_readsAll_49 : decode cX9_readsAll 49 = .ok (.goto (-26), 3) := by decide +kernel
theorem dX9_readsAll_44 : decode cX9_readsAll 44 = .ok (.iconst (-1), 1) := by decide +kernel
theorem dX9_readsAll_52 : decode cX9_readsAll 52 = .ok (.aload_n 0, 1) := by decide +kernel
theorem dX9_readsAll_53 : decode cX9_readsAll 53 = .ok (.getfield 19, 3) := by decide +kernel
theorem dX9_readsAll_56 : decode cX9_readsAll 56 = .ok (.iconst 1, 1) := by decide +kernel
theorem dX9_readsAll_57 : decode cX9_readsAll 57 = .ok (.bipush 30, 2) := by decide +kernel
theorem dX9_readsAll_59 : decode cX9_readsAll 59 = .ok (.iastore, 1) := by decide +kernel
theorem dX9_readsAll_60 : decode cX9_readsAll 60 = .ok (.aload_n 0, 1) := by decide +kernel
theorem dX9_readsAll_61 : decode cX9_readsAll 61 = .ok (.getfield 13, 3) := by decide +kernel
theorem dX9_readsAll_64 : decode cX9_readsAll 64 = .ok (.iconst 3, 1) := by decide +kernel
theorem dX9_readsAll_65 : decode cX9_readsAll 65 = .ok (.iconst 1, 1) := by decide +kernel
theorem dX9_readsAll_66 : decode cX9_readsAll 66 = .ok (.iastore, 1) := by decide +kernel
theorem dX9_readsAll_67 : decode cX9_readsAll 67 = .ok (.aload_n 0, 1) := by decide +kernel
theorem dX9_readsAll_68 : decode cX9_readsAll 68 = .ok (.iconst 0, 1) := by decide +kernel
theorem dX9_readsAll_69 : decode cX9_readsAll 69 = .ok (.invokevirtual 167, 3) := by decide +kernel
theorem dX9_readsAll_72 : decode cX9_readsAll 72 = .ok (.aload_n 0, 1) := by decide +kernel
theorem dX9_readsAll_73 : decode cX9_readsAll 73 = .ok (.getfield 13, 3) := by decide +kernel
theorem dX9_readsAll_76 : decode cX9_readsAll 76 = .ok (.iconst 0, 1) := by decide +kernel
theorem dX9_readsAll_77 : decode cX9_readsAll 77 = .ok (.aload_n 0, 1) := by decide +kernel
theorem dX9_readsAll_78 : decode cX9_readsAll 78 = .ok (.iconst 1, 1) := by decide +kernel
theorem dX9_readsAll_79 : decode cX9_readsAll 79 = .ok (.iconst 1, 1) := by decide +kernel
theorem dX9_readsAll_80 : decode cX9_readsAll 80 = .ok (.bipush 9, 2) := by decide +kernel
theorem dX9_readsAll_82 : decode cX9_readsAll 82 = .ok (.invokevirtual 193, 3) := by decide +kernel
theorem dX9_readsAll_85 : decode cX9_readsAll 85 = .ok (.iastore, 1) := by decide +kernel
theorem dX9_readsAll_86 : decode cX9_readsAll 86 = .ok (.aload_n 0, 1) := by decide +kernel
theorem dX9_readsAll_87 : decode cX9_readsAll 87 = .ok (.getfield 13, 3) := by decide +kernel
theorem dX9_readsAll_90 : decode cX9_readsAll 90 = .ok (.iconst 1, 1) := by decide +kernel
theorem dX9_readsAll_91 : decode cX9_readsAll 91 = .ok (.aload_n 0, 1) := by decide +kernel
theorem dX9_readsAll_92 : decode cX9_readsAll 92 = .ok (.iconst 2, 1) := by decide +kernel
theorem dX9_readsAll_93 : decode cX9_readsAll 93 = .ok (.iconst 1, 1) := by decide +kernel
theorem dX9_readsAll_94 : decode cX9_readsAll 94 = .ok (.bipush 60, 2) := by decide +kernel
theorem dX9_readsAll_96 : decode cX9_readsAll 96 = .ok (.invokevirtual 193, 3) := by decide +kernel
theorem dX9_readsAll_99 : decode cX9_readsAll 99 = .ok (.iastore, 1) := by decide +kernel
theorem dX9_readsAll_100 : decode cX9_readsAll 100 = .ok (.aload_n 0, 1) := by decide +kernel
theorem dX9_readsAll_101 : decode cX9_readsAll 101 = .ok (.getfield 13, 3) := by decide +kernel
theorem dX9_readsAll_104 : decode cX9_readsAll 104 = .ok (.iconst 2, 1) := by decide +kernel
theorem dX9_readsAll_105 : decode cX9_readsAll 105 = .ok (.aload_n 0, 1) := by decide +kernel
theorem dX9_readsAll_106 : decode cX9_readsAll 106 = .ok (.iconst 1, 1) := by decide +kernel
theorem dX9_readsAll_107 : decode cX9_readsAll 107 = .ok (.bipush 60, 2) := by decide +kernel
theorem dX9_readsAll_109 : decode cX9_readsAll 109 = .ok (.invokevirtual 170, 3) := by decide +kernel
theorem dX9_readsAll_112 : decode cX9_readsAll 112 = .ok (.iastore, 1) := by decide +kernel
theorem dX9_readsAll_113 : decode cX9_readsAll 113 = .ok (.aload_n 0, 1) := by decide +kernel
theorem dX9_readsAll_114 : decode cX9_readsAll 114 = .ok (.invokevirtual 204, 3) := by decide +kernel
theorem dX9_readsAll_117 : decode cX9_readsAll 117 = .ok (.iconst 1, 1) := by decide +kernel
theorem dX9_readsAll_118 : decode cX9_readsAll 118 = .ok (.istore_n 1, 1) := by decide +kernel
theorem dX9_readsAll_119 : decode cX9_readsAll 119 = .ok (.aload_n 0, 1) := by decide +kernel
theorem dX9_readsAll_120 : decode cX9_readsAll 120 = .ok (.invokevirtual 139, 3) := by decide +kernel
theorem dX9_readsAll_123 : decode cX9_readsAll 123 = .ok (.ifCond .eq 55, 3) := by decide +kernel
theorem dX9_readsAll_178 : decode cX9_readsAll 178 = .ok (.iload_n 1, 1) := by decide +kernel
theorem dX9_readsAll_179 : decode cX9_readsAll 179 = .ok (.ireturn, 1) := by decide +kernel
set_option maxHeartbeats 4000000 in
set_option maxRecDepth 100000 in
theorem kX9_readsAll (l : Launch) (g : zL) (h0 : Nat) (m_told : Nat) (m_read : Nat) (m_now : Nat) (m_readNow : Nat) (m_kept : Nat) (m_tape : Nat) (m_refused : Nat) (m_ownLetters : Nat) (m_flats : Nat) (m_corner : Nat) (m_wayX : Nat) (m_wayY : Nat) (m_normal : Nat) (m_low : Nat) (m_high : Nat) (m_clear : Nat) (m_ways : Nat) (m_canBe : Nat) (m_lain : Nat) (m_fewestBy : Nat) (m_sortOf : Nat) (m_seenFlange : Nat) (m_seenLength : Nat) (fr : Nat → Int32) (fn : Nat → Int32) : zCi l g yX9_readsAll cX9_readsAll 3 (some .int) { frames := 4, cells := 0, slots := 0, locals := 84 } [.ref h0] [(h0, .inr (9, [.ref m_told, .ref m_read, .ref m_now, .ref m_readNow, .ref m_kept, .int 0, .int 1, .int 0, .ref m_tape, .int 0, .ref m_refused, .int 0, .int (-1), .int 0, .int 0, .int 0, .int 0, .int (-1), .ref m_ownLetters, .ref m_flats, .int 0, .ref m_corner, .ref m_wayX, .ref m_wayY, .ref m_normal, .ref m_low, .ref m_high, .ref m_clear, .ref m_ways, .ref m_canBe, .ref m_lain, .int 0, .ref m_fewestBy, .ref m_sortOf, .int 0, .ref m_seenFlange, .ref m_seenLength])), (m_read, .inl (g.2.1.1, 103, .inl fr)), (m_readNow, .inl (g.2.1.1, 21, .inl fn))] (fun (r : Int32) (u : (Nat → Int32) × (Nat → Int32)) => r = 1) (fun (u : (Nat → Int32) × (Nat → Int32)) => [(h0, .inr (9, [.ref m_told, .ref m_read, .ref m_now, .ref m_readNow, .ref m_kept, .int 0, .int 1, .int 0, .ref m_tape, .int 0, .ref m_refused, .int 0, .int (-1), .int 0, .int 0, .int 0, .int 1, .int 0, .ref m_ownLetters, .ref m_flats, .int 0, .ref m_corner, .ref m_wayX, .ref m_wayY, .ref m_normal, .ref m_low, .ref m_high, .ref m_clear, .ref m_ways, .ref m_canBe, .ref m_lain, .int 0, .ref m_fewestBy, .ref m_sortOf, .int 0, .ref m_seenFlange, .ref m_seenLength])), (m_read, .inl (g.2.1.1, 103, .inl u.1)), (m_readNow, .inl (g.2.1.1, 21, .inl u.2))]) := by
  refine zCi.mk (by decide) (Nat.le_of_ble_eq_true rfl) ?_
  intro p e s m below meth c A hE hP hD hS ls hl
  obtain ⟨hx, hb, hr, hml, hown, hG, hlocks, hnm, hX, hA⟩ := hE
  have hown : s.vm.findClass RX9 = some m.cls := hown
  have hl : lv_has ls 3 [(0, .ref h0)] := hl
  refine lv_iconst (v := 0) hx hb dX9_readsAll_0 (by decide) ?_
  refine lv_istore_n (lv' := [(1, .int 0), (0, .ref h0)]) hx hb dX9_readsAll_1 rfl hl (by decide) rfl (fun ls hl => ?_)
  refine lv_iload_n hx hb dX9_readsAll_2 rfl (lv_at hl 0 rfl) ?_
  refine lv_bipush (v := 103) hx hb dX9_readsAll_3 (by decide) ?_
  refine lv_icmp_ge (tgt := 21) hx hb dX9_readsAll_5 (by decide) (fun c5 => absurd c5 (by decide)) (fun c5 => ?_)
  refine lv_aload_n hx hb dX9_readsAll_8 rfl (lv_at hl 1 rfl) ?_
  refine va_get (D := g.1) (ci := 9) (v := .ref m_read) (C := RX9) (T := TX9) (N := 37) hx hb hG iX9 hown hX.1 hP 0 rfl rfl 1 (by decide) (hG _ g1418) (fun _ h9 => h9) rfl dX9_readsAll_9 ?_
  refine lv_iload_n hx hb dX9_readsAll_12 rfl (lv_at hl 0 rfl) ?_
  refine lv_iconst (v := 0) hx hb dX9_readsAll_13 (by decide) ?_
  refine va_iast hx hb hX.1 hP hD hS 1 0 rfl rfl (vp_in_iff.mpr (by decide)) dX9_readsAll_14 (fun H locs hP hD hS => ?_)
  obtain ⟨f1, ef1⟩ : ∃ z : Nat → Int32, z = upd fr (0 : Int32).toNatClampNeg 0 := ⟨_, rfl⟩
  rw [← ef1] at hP hD
  have hP : va_P g.1 vwCl [(h0, .inr (9, [.ref m_told, .ref m_read, .ref m_now, .ref m_readNow, .ref m_kept, .int 0, .int 1, .int 0, .ref m_tape, .int 0, .ref m_refused, .int 0, .int (-1), .int 0, .int 0, .int 0, .int 0, .int (-1), .ref m_ownLetters, .ref m_flats, .int 0, .ref m_corner, .ref m_wayX, .ref m_wayY, .ref m_normal, .ref m_low, .ref m_high, .ref m_clear, .ref m_ways, .ref m_canBe, .ref m_lain, .int 0, .ref m_fewestBy, .ref m_sortOf, .int 0, .ref m_seenFlange, .ref m_seenLength])), (m_read, .inl (g.2.1.1, 103, .inl f1)), (m_readNow, .inl (g.2.1.1, 21, .inl fn))] H := hP
  have hD : va_D A [(h0, .inr (9, [.ref m_told, .ref m_read, .ref m_now, .ref m_readNow, .ref m_kept, .int 0, .int 1, .int 0, .ref m_tape, .int 0, .ref m_refused, .int 0, .int (-1), .int 0, .int 0, .int 0, .int 0, .int (-1), .ref m_ownLetters, .ref m_flats, .int 0, .ref m_corner, .ref m_wayX, .ref m_wayY, .ref m_normal, .ref m_low, .ref m_high, .ref m_clear, .ref m_ways, .ref m_canBe, .ref m_lain, .int 0, .ref m_fewestBy, .ref m_sortOf, .int 0, .ref m_seenFlange, .ref m_seenLength])), (m_read, .inl (g.2.1.1, 103, .inl f1)), (m_readNow, .inl (g.2.1.1, 21, .inl fn))] := hD
  refine lv_iinc (v := 1) (lv' := [(1, .int 1), (0, .ref h0)]) hx hb dX9_readsAll_15 hl (k := 0) rfl (by decide) (by decide) rfl (fun ls hl => ?_)
  refine lv_goto (tgt := 2) hx hb dX9_readsAll_18 (by decide) ?_
  refine lv_iload_n hx hb dX9_readsAll_2 rfl (lv_at hl 0 rfl) ?_
  refine lv_bipush (v := 103) hx hb dX9_readsAll_3 (by decide) ?_
  refine lv_icmp_ge (tgt := 21) hx hb dX9_readsAll_5 (by decide) (fun c5 => absurd c5 (by decide)) (fun c5 => ?_)
  refine lv_aload_n hx hb dX9_readsAll_8 rfl (lv_at hl 1 rfl) ?_
  refine va_get (D := g.1) (ci := 9) (v := .ref m_read) (C := RX9) (T := TX9) (N := 37) hx hb hG iX9 hown hX.1 hP 0 rfl rfl 1 (by decide) (hG _ g1418) (fun _ h9 => h9) rfl dX9_readsAll_9 ?_
  refine lv_iload_n hx hb dX9_readsAll_12 rfl (lv_at hl 0 rfl) ?_
  refine lv_iconst (v := 0) hx hb dX9_readsAll_13 (by decide) ?_
  refine va_iast hx hb hX.1 hP hD hS 1 0 rfl rfl (vp_in_iff.mpr (by decide)) dX9_readsAll_14 (fun H locs hP hD hS => ?_)
  obtain ⟨f2, ef2⟩ : ∃ z : Nat → Int32, z = upd f1 (1 : Int32).toNatClampNeg 0 := ⟨_, rfl⟩
  rw [← ef2] at hP hD
  have hP : va_P g.1 vwCl [(h0, .inr (9, [.ref m_told, .ref m_read, .ref m_now, .ref m_readNow, .ref m_kept, .int 0, .int 1, .int 0, .ref m_tape, .int 0, .ref m_refused, .int 0, .int (-1), .int 0, .int 0, .int 0, .int 0, .int (-1), .ref m_ownLetters, .ref m_flats, .int 0, .ref m_corner, .ref m_wayX, .ref m_wayY, .ref m_normal, .ref m_low, .ref m_high, .ref m_clear, .ref m_ways, .ref m_canBe, .ref m_lain, .int 0, .ref m_fewestBy, .ref m_sortOf, .int 0, .ref m_seenFlange, .ref m_seenLength])), (m_read, .inl (g.2.1.1, 103, .inl f2)), (m_readNow, .inl (g.2.1.1, 21, .inl fn))] H := hP
  have hD : va_D A [(h0, .inr (9, [.ref m_told, .ref m_read, .ref m_now, .ref m_readNow, .ref m_kept, .int 0, .int 1, .int 0, .ref m_tape, .int 0, .ref m_refused, .int 0, .int (-1), .int 0, .int 0, .int 0, .int 0, .int (-1), .ref m_ownLetters, .ref m_flats, .int 0, .ref m_corner, .ref m_wayX, .ref m_wayY, .ref m_normal, .ref m_low, .ref m_high, .ref m_clear, .ref m_ways, .ref m_canBe, .ref m_lain, .int 0, .ref m_fewestBy, .ref m_sortOf, .int 0, .ref m_seenFlange, .ref m_seenLength])), (m_read, .inl (g.2.1.1, 103, .inl f2)), (m_readNow, .inl (g.2.1.1, 21, .inl fn))] := hD
  refine lv_iinc (v := 2) (lv' := [(1, .int 2), (0, .ref h0)]) hx hb dX9_readsAll_15 hl (k := 0) rfl (by decide) (by decide) rfl (fun ls hl => ?_)
  refine lv_goto (tgt := 2) hx hb dX9_readsAll_18 (by decide) ?_
  refine lv_iload_n hx hb dX9_readsAll_2 rfl (lv_at hl 0 rfl) ?_
  refine lv_bipush (v := 103) hx hb dX9_readsAll_3 (by decide) ?_
  refine lv_icmp_ge (tgt := 21) hx hb dX9_readsAll_5 (by decide) (fun c5 => absurd c5 (by decide)) (fun c5 => ?_)
  refine lv_aload_n hx hb dX9_readsAll_8 rfl (lv_at hl 1 rfl) ?_
  refine va_get (D := g.1) (ci := 9) (v := .ref m_read) (C := RX9) (T := TX9) (N := 37) hx hb hG iX9 hown hX.1 hP 0 rfl rfl 1 (by decide) (hG _ g1418) (fun _ h9 => h9) rfl dX9_readsAll_9 ?_
  refine lv_iload_n hx hb dX9_readsAll_12 rfl (lv_at hl 0 rfl) ?_
  refine lv_iconst (v := 0) hx hb dX9_readsAll_13 (by decide) ?_
  refine va_iast hx hb hX.1 hP hD hS 1 0 rfl rfl (vp_in_iff.mpr (by decide)) dX9_readsAll_14 (fun H locs hP hD hS => ?_)
  obtain ⟨f3, ef3⟩ : ∃ z : Nat → Int32, z = upd f2 (2 : Int32).toNatClampNeg 0 := ⟨_, rfl⟩
  rw [← ef3] at hP hD
  have hP : va_P g.1 vwCl [(h0, .inr (9, [.ref m_told, .ref m_read, .ref m_now, .ref m_readNow, .ref m_kept, .int 0, .int 1, .int 0, .ref m_tape, .int 0, .ref m_refused, .int 0, .int (-1), .int 0, .int 0, .int 0, .int 0, .int (-1), .ref m_ownLetters, .ref m_flats, .int 0, .ref m_corner, .ref m_wayX, .ref m_wayY, .ref m_normal, .ref m_low, .ref m_high, .ref m_clear, .ref m_ways, .ref m_canBe, .ref m_lain, .int 0, .ref m_fewestBy, .ref m_sortOf, .int 0, .ref m_seenFlange, .ref m_seenLength])), (m_read, .inl (g.2.1.1, 103, .inl f3)), (m_readNow, .inl (g.2.1.1, 21, .inl fn))] H := hP
  have hD : va_D A [(h0, .inr (9, [.ref m_told, .ref m_read, .ref m_now, .ref m_readNow, .ref m_kept, .int 0, .int 1, .int 0, .ref m_tape, .int 0, .ref m_refused, .int 0, .int (-1), .int 0, .int 0, .int 0, .int 0, .int (-1), .ref m_ownLetters, .ref m_flats, .int 0, .ref m_corner, .ref m_wayX, .ref m_wayY, .ref m_normal, .ref m_low, .ref m_high, .ref m_clear, .ref m_ways, .ref m_canBe, .ref m_lain, .int 0, .ref m_fewestBy, .ref m_sortOf, .int 0, .ref m_seenFlange, .ref m_seenLength])), (m_read, .inl (g.2.1.1, 103, .inl f3)), (m_readNow, .inl (g.2.1.1, 21, .inl fn))] := hD
  refine lv_iinc (v := 3) (lv' := [(1, .int 3), (0, .ref h0)]) hx hb dX9_readsAll_15 hl (k := 0) rfl (by decide) (by decide) rfl (fun ls hl => ?_)
  refine lv_goto (tgt := 2) hx hb dX9_readsAll_18 (by decide) ?_
  refine lv_iload_n hx hb dX9_readsAll_2 rfl (lv_at hl 0 rfl) ?_
  refine lv_bipush (v := 103) hx hb dX9_readsAll_3 (by decide) ?_
  refine lv_icmp_ge (tgt := 21) hx hb dX9_readsAll_5 (by decide) (fun c5 => absurd c5 (by decide)) (fun c5 => ?_)
  refine lv_aload_n hx hb dX9_readsAll_8 rfl (lv_at hl 1 rfl) ?_
  refine va_get (D := g.1) (ci := 9) (v := .ref m_read) (C := RX9) (T := TX9) (N := 37) hx hb hG iX9 hown hX.1 hP 0 rfl rfl 1 (by decide) (hG _ g1418) (fun _ h9 => h9) rfl dX9_readsAll_9 ?_
  refine lv_iload_n hx hb dX9_readsAll_12 rfl (lv_at hl 0 rfl) ?_
  refine lv_iconst (v := 0) hx hb dX9_readsAll_13 (by decide) ?_
  refine va_iast hx hb hX.1 hP hD hS 1 0 rfl rfl (vp_in_iff.mpr (by decide)) dX9_readsAll_14 (fun H locs hP hD hS => ?_)
  obtain ⟨f4, ef4⟩ : ∃ z : Nat → Int32, z = upd f3 (3 : Int32).toNatClampNeg 0 := ⟨_, rfl⟩
  rw [← ef4] at hP hD
  have hP : va_P g.1 vwCl [(h0, .inr (9, [.ref m_told, .ref m_read, .ref m_now, .ref m_readNow, .ref m_kept, .int 0, .int 1, .int 0, .ref m_tape, .int 0, .ref m_refused, .int 0, .int (-1), .int 0, .int 0, .int 0, .int 0, .int (-1), .ref m_ownLetters, .ref m_flats, .int 0, .ref m_corner, .ref m_wayX, .ref m_wayY, .ref m_normal, .ref m_low, .ref m_high, .ref m_clear, .ref m_ways, .ref m_canBe, .ref m_lain, .int 0, .ref m_fewestBy, .ref m_sortOf, .int 0, .ref m_seenFlange, .ref m_seenLength])), (m_read, .inl (g.2.1.1, 103, .inl f4)), (m_readNow, .inl (g.2.1.1, 21, .inl fn))] H := hP
  have hD : va_D A [(h0, .inr (9, [.ref m_told, .ref m_read, .ref m_now, .ref m_readNow, .ref m_kept, .int 0, .int 1, .int 0, .ref m_tape, .int 0, .ref m_refused, .int 0, .int (-1), .int 0, .int 0, .int 0, .int 0, .int (-1), .ref m_ownLetters, .ref m_flats, .int 0, .ref m_corner, .ref m_wayX, .ref m_wayY, .ref m_normal, .ref m_low, .ref m_high, .ref m_clear, .ref m_ways, .ref m_canBe, .ref m_lain, .int 0, .ref m_fewestBy, .ref m_sortOf, .int 0, .ref m_seenFlange, .ref m_seenLength])), (m_read, .inl (g.2.1.1, 103, .inl f4)), (m_readNow, .inl (g.2.1.1, 21, .inl fn))] := hD
  refine lv_iinc (v := 4) (lv' := [(1, .int 4), (0, .ref h0)]) hx hb dX9_readsAll_15 hl (k := 0) rfl (by decide) (by decide) rfl (fun ls hl => ?_)
  refine lv_goto (tgt := 2) hx hb dX9_readsAll_18 (by decide) ?_
  refine lv_iload_n hx hb dX9_readsAll_2 rfl (lv_at hl 0 rfl) ?_
  refine lv_bipush (v := 103) hx hb dX9_readsAll_3 (by decide) ?_
  refine lv_icmp_ge (tgt := 21) hx hb dX9_readsAll_5 (by decide) (fun c5 => absurd c5 (by decide)) (fun c5 => ?_)
  refine lv_aload_n hx hb dX9_readsAll_8 rfl (lv_at hl 1 rfl) ?_
  refine va_get (D := g.1) (ci := 9) (v := .ref m_read) (C := RX9) (T := TX9) (N := 37) hx hb hG iX9 hown hX.1 hP 0 rfl rfl 1 (by decide) (hG _ g1418) (fun _ h9 => h9) rfl dX9_readsAll_9 ?_
  refine lv_iload_n hx hb dX9_readsAll_12 rfl (lv_at hl 0 rfl) ?_
  refine lv_iconst (v := 0) hx hb dX9_readsAll_13 (by decide) ?_
  refine va_iast hx hb hX.1 hP hD hS 1 0 rfl rfl (vp_in_iff.mpr (by decide)) dX9_readsAll_14 (fun H locs hP hD hS => ?_)
  obtain ⟨f5, ef5⟩ : ∃ z : Nat → Int32, z = upd f4 (4 : Int32).toNatClampNeg 0 := ⟨_, rfl⟩
  rw [← ef5] at hP hD
  have hP : va_P g.1 vwCl [(h0, .inr (9, [.ref m_told, .ref m_read, .ref m_now, .ref m_readNow, .ref m_kept, .int 0, .int 1, .int 0, .ref m_tape, .int 0, .ref m_refused, .int 0, .int (-1), .int 0, .int 0, .int 0, .int 0, .int (-1), .ref m_ownLetters, .ref m_flats, .int 0, .ref m_corner, .ref m_wayX, .ref m_wayY, .ref m_normal, .ref m_low, .ref m_high, .ref m_clear, .ref m_ways, .ref m_canBe, .ref m_lain, .int 0, .ref m_fewestBy, .ref m_sortOf, .int 0, .ref m_seenFlange, .ref m_seenLength])), (m_read, .inl (g.2.1.1, 103, .inl f5)), (m_readNow, .inl (g.2.1.1, 21, .inl fn))] H := hP
  have hD : va_D A [(h0, .inr (9, [.ref m_told, .ref m_read, .ref m_now, .ref m_readNow, .ref m_kept, .int 0, .int 1, .int 0, .ref m_tape, .int 0, .ref m_refused, .int 0, .int (-1), .int 0, .int 0, .int 0, .int 0, .int (-1), .ref m_ownLetters, .ref m_flats, .int 0, .ref m_corner, .ref m_wayX, .ref m_wayY, .ref m_normal, .ref m_low, .ref m_high, .ref m_clear, .ref m_ways, .ref m_canBe, .ref m_lain, .int 0, .ref m_fewestBy, .ref m_sortOf, .int 0, .ref m_seenFlange, .ref m_seenLength])), (m_read, .inl (g.2.1.1, 103, .inl f5)), (m_readNow, .inl (g.2.1.1, 21, .inl fn))] := hD
  refine lv_iinc (v := 5) (lv' := [(1, .int 5), (0, .ref h0)]) hx hb dX9_readsAll_15 hl (k := 0) rfl (by decide) (by decide) rfl (fun ls hl => ?_)
  refine lv_goto (tgt := 2) hx hb dX9_readsAll_18 (by decide) ?_
  refine lv_iload_n hx hb dX9_readsAll_2 rfl (lv_at hl 0 rfl) ?_
  refine lv_bipush (v := 103) hx hb dX9_readsAll_3 (by decide) ?_
  refine lv_icmp_ge (tgt := 21) hx hb dX9_readsAll_5 (by decide) (fun c5 => absurd c5 (by decide)) (fun c5 => ?_)
  refine lv_aload_n hx hb dX9_readsAll_8 rfl (lv_at hl 1 rfl) ?_
  refine va_get (D := g.1) (ci := 9) (v := .ref m_read) (C := RX9) (T := TX9) (N := 37) hx hb hG iX9 hown hX.1 hP 0 rfl rfl 1 (by decide) (hG _ g1418) (fun _ h9 => h9) rfl dX9_readsAll_9 ?_
  refine lv_iload_n hx hb dX9_readsAll_12 rfl (lv_at hl 0 rfl) ?_
  refine lv_iconst (v := 0) hx hb dX9_readsAll_13 (by decide) ?_
  refine va_iast hx hb hX.1 hP hD hS 1 0 rfl rfl (vp_in_iff.mpr (by decide)) dX9_readsAll_14 (fun H locs hP hD hS => ?_)
  obtain ⟨f6, ef6⟩ : ∃ z : Nat → Int32, z = upd f5 (5 : Int32).toNatClampNeg 0 := ⟨_, rfl⟩
  rw [← ef6] at hP hD
  have hP : va_P g.1 vwCl [(h0, .inr (9, [.ref m_told, .ref m_read, .ref m_now, .ref m_readNow, .ref m_kept, .int 0, .int 1, .int 0, .ref m_tape, .int 0, .ref m_refused, .int 0, .int (-1), .int 0, .int 0, .int 0, .int 0, .int (-1), .ref m_ownLetters, .ref m_flats, .int 0, .ref m_corner, .ref m_wayX, .ref m_wayY, .ref m_normal, .ref m_low, .ref m_high, .ref m_clear, .ref m_ways, .ref m_canBe, .ref m_lain, .int 0, .ref m_fewestBy, .ref m_sortOf, .int 0, .ref m_seenFlange, .ref m_seenLength])), (m_read, .inl (g.2.1.1, 103, .inl f6)), (m_readNow, .inl (g.2.1.1, 21, .inl fn))] H := hP
  have hD : va_D A [(h0, .inr (9, [.ref m_told, .ref m_read, .ref m_now, .ref m_readNow, .ref m_kept, .int 0, .int 1, .int 0, .ref m_tape, .int 0, .ref m_refused, .int 0, .int (-1), .int 0, .int 0, .int 0, .int 0, .int (-1), .ref m_ownLetters, .ref m_flats, .int 0, .ref m_corner, .ref m_wayX, .ref m_wayY, .ref m_normal, .ref m_low, .ref m_high, .ref m_clear, .ref m_ways, .ref m_canBe, .ref m_lain, .int 0, .ref m_fewestBy, .ref m_sortOf, .int 0, .ref m_seenFlange, .ref m_seenLength])), (m_read, .inl (g.2.1.1, 103, .inl f6)), (m_readNow, .inl (g.2.1.1, 21, .inl fn))] := hD
  refine lv_iinc (v := 6) (lv' := [(1, .int 6), (0, .ref h0)]) hx hb dX9_readsAll_15 hl (k := 0) rfl (by decide) (by decide) rfl (fun ls hl => ?_)
  refine lv_goto (tgt := 2) hx hb dX9_readsAll_18 (by decide) ?_
  refine lv_iload_n hx hb dX9_readsAll_2 rfl (lv_at hl 0 rfl) ?_
  refine lv_bipush (v := 103) hx hb dX9_readsAll_3 (by decide) ?_
  refine lv_icmp_ge (tgt := 21) hx hb dX9_readsAll_5 (by decide) (fun c5 => absurd c5 (by decide)) (fun c5 => ?_)
  refine lv_aload_n hx hb dX9_readsAll_8 rfl (lv_at hl 1 rfl) ?_
  refine va_get (D := g.1) (ci := 9) (v := .ref m_read) (C := RX9) (T := TX9) (N := 37) hx hb hG iX9 hown hX.1 hP 0 rfl rfl 1 (by decide) (hG _ g1418) (fun _ h9 => h9) rfl dX9_readsAll_9 ?_
  refine lv_iload_n hx hb dX9_readsAll_12 rfl (lv_at hl 0 rfl) ?_
  refine lv_iconst (v := 0) hx hb dX9_readsAll_13 (by decide) ?_
  refine va_iast hx hb hX.1 hP hD hS 1 0 rfl rfl (vp_in_iff.mpr (by decide)) dX9_readsAll_14 (fun H locs hP hD hS => ?_)
  obtain ⟨f7, ef7⟩ : ∃ z : Nat → Int32, z = upd f6 (6 : Int32).toNatClampNeg 0 := ⟨_, rfl⟩
  rw [← ef7] at hP hD
  have hP : va_P g.1 vwCl [(h0, .inr (9, [.ref m_told, .ref m_read, .ref m_now, .ref m_readNow, .ref m_kept, .int 0, .int 1, .int 0, .ref m_tape, .int 0, .ref m_refused, .int 0, .int (-1), .int 0, .int 0, .int 0, .int 0, .int (-1), .ref m_ownLetters, .ref m_flats, .int 0, .ref m_corner, .ref m_wayX, .ref m_wayY, .ref m_normal, .ref m_low, .ref m_high, .ref m_clear, .ref m_ways, .ref m_canBe, .ref m_lain, .int 0, .ref m_fewestBy, .ref m_sortOf, .int 0, .ref m_seenFlange, .ref m_seenLength])), (m_read, .inl (g.2.1.1, 103, .inl f7)), (m_readNow, .inl (g.2.1.1, 21, .inl fn))] H := hP
  have hD : va_D A [(h0, .inr (9, [.ref m_told, .ref m_read, .ref m_now, .ref m_readNow, .ref m_kept, .int 0, .int 1, .int 0, .ref m_tape, .int 0, .ref m_refused, .int 0, .int (-1), .int 0, .int 0, .int 0, .int 0, .int (-1), .ref m_ownLetters, .ref m_flats, .int 0, .ref m_corner, .ref m_wayX, .ref m_wayY, .ref m_normal, .ref m_low, .ref m_high, .ref m_clear, .ref m_ways, .ref m_canBe, .ref m_lain, .int 0, .ref m_fewestBy, .ref m_sortOf, .int 0, .ref m_seenFlange, .ref m_seenLength])), (m_read, .inl (g.2.1.1, 103, .inl f7)), (m_readNow, .inl (g.2.1.1, 21, .inl fn))] := hD
  refine lv_iinc (v := 7) (lv' := [(1, .int 7), (0, .ref h0)]) hx hb dX9_readsAll_15 hl (k := 0) rfl (by decide) (by decide) rfl (fun ls hl => ?_)
  refine lv_goto (tgt := 2) hx hb dX9_readsAll_18 (by decide) ?_
  refine lv_iload_n hx hb dX9_readsAll_2 rfl (lv_at hl 0 rfl) ?_
  refine lv_bipush (v := 103) hx hb dX9_readsAll_3 (by decide) ?_
  refine lv_icmp_ge (tgt := 21) hx hb dX9_readsAll_5 (by decide) (fun c5 => absurd c5 (by decide)) (fun c5 => ?_)
  refine lv_aload_n hx hb dX9_readsAll_8 rfl (lv_at hl 1 rfl) ?_
  refine va_get (D := g.1) (ci := 9) (v := .ref m_read) (C := RX9) (T := TX9) (N := 37) hx hb hG iX9 hown hX.1 hP 0 rfl rfl 1 (by decide) (hG _ g1418) (fun _ h9 => h9) rfl dX9_readsAll_9 ?_
  refine lv_iload_n hx hb dX9_readsAll_12 rfl (lv_at hl 0 rfl) ?_
  refine lv_iconst (v := 0) hx hb dX9_readsAll_13 (by decide) ?_
  refine va_iast hx hb hX.1 hP hD hS 1 0 rfl rfl (vp_in_iff.mpr (by decide)) dX9_readsAll_14 (fun H locs hP hD hS => ?_)
  obtain ⟨f8, ef8⟩ : ∃ z : Nat → Int32, z = upd f7 (7 : Int32).toNatClampNeg 0 := ⟨_, rfl⟩
  rw [← ef8] at hP hD
  have hP : va_P g.1 vwCl [(h0, .inr (9, [.ref m_told, .ref m_read, .ref m_now, .ref m_readNow, .ref m_kept, .int 0, .int 1, .int 0, .ref m_tape, .int 0, .ref m_refused, .int 0, .int (-1), .int 0, .int 0, .int 0, .int 0, .int (-1), .ref m_ownLetters, .ref m_flats, .int 0, .ref m_corner, .ref m_wayX, .ref m_wayY, .ref m_normal, .ref m_low, .ref m_high, .ref m_clear, .ref m_ways, .ref m_canBe, .ref m_lain, .int 0, .ref m_fewestBy, .ref m_sortOf, .int 0, .ref m_seenFlange, .ref m_seenLength])), (m_read, .inl (g.2.1.1, 103, .inl f8)), (m_readNow, .inl (g.2.1.1, 21, .inl fn))] H := hP
  have hD : va_D A [(h0, .inr (9, [.ref m_told, .ref m_read, .ref m_now, .ref m_readNow, .ref m_kept, .int 0, .int 1, .int 0, .ref m_tape, .int 0, .ref m_refused, .int 0, .int (-1), .int 0, .int 0, .int 0, .int 0, .int (-1), .ref m_ownLetters, .ref m_flats, .int 0, .ref m_corner, .ref m_wayX, .ref m_wayY, .ref m_normal, .ref m_low, .ref m_high, .ref m_clear, .ref m_ways, .ref m_canBe, .ref m_lain, .int 0, .ref m_fewestBy, .ref m_sortOf, .int 0, .ref m_seenFlange, .ref m_seenLength])), (m_read, .inl (g.2.1.1, 103, .inl f8)), (m_readNow, .inl (g.2.1.1, 21, .inl fn))] := hD
  refine lv_iinc (v := 8) (lv' := [(1, .int 8), (0, .ref h0)]) hx hb dX9_readsAll_15 hl (k := 0) rfl (by decide) (by decide) rfl (fun ls hl => ?_)
  refine lv_goto (tgt := 2) hx hb dX9_readsAll_18 (by decide) ?_
  refine lv_iload_n hx hb dX9_readsAll_2 rfl (lv_at hl 0 rfl) ?_
  refine lv_bipush (v := 103) hx hb dX9_readsAll_3 (by decide) ?_
  refine lv_icmp_ge (tgt := 21) hx hb dX9_readsAll_5 (by decide) (fun c5 => absurd c5 (by decide)) (fun c5 => ?_)
  refine lv_aload_n hx hb dX9_readsAll_8 rfl (lv_at hl 1 rfl) ?_
  refine va_get (D := g.1) (ci := 9) (v := .ref m_read) (C := RX9) (T := TX9) (N := 37) hx hb hG iX9 hown hX.1 hP 0 rfl rfl 1 (by decide) (hG _ g1418) (fun _ h9 => h9) rfl dX9_readsAll_9 ?_
  refine lv_iload_n hx hb dX9_readsAll_12 rfl (lv_at hl 0 rfl) ?_
  refine lv_iconst (v := 0) hx hb dX9_readsAll_13 (by decide) ?_
  refine va_iast hx hb hX.1 hP hD hS 1 0 rfl rfl (vp_in_iff.mpr (by decide)) dX9_readsAll_14 (fun H locs hP hD hS => ?_)
  obtain ⟨f9, ef9⟩ : ∃ z : Nat → Int32, z = upd f8 (8 : Int32).toNatClampNeg 0 := ⟨_, rfl⟩
  rw [← ef9] at hP hD
  have hP : va_P g.1 vwCl [(h0, .inr (9, [.ref m_told, .ref m_read, .ref m_now, .ref m_readNow, .ref m_kept, .int 0, .int 1, .int 0, .ref m_tape, .int 0, .ref m_refused, .int 0, .int (-1), .int 0, .int 0, .int 0, .int 0, .int (-1), .ref m_ownLetters, .ref m_flats, .int 0, .ref m_corner, .ref m_wayX, .ref m_wayY, .ref m_normal, .ref m_low, .ref m_high, .ref m_clear, .ref m_ways, .ref m_canBe, .ref m_lain, .int 0, .ref m_fewestBy, .ref m_sortOf, .int 0, .ref m_seenFlange, .ref m_seenLength])), (m_read, .inl (g.2.1.1, 103, .inl f9)), (m_readNow, .inl (g.2.1.1, 21, .inl fn))] H := hP
  have hD : va_D A [(h0, .inr (9, [.ref m_told, .ref m_read, .ref m_now, .ref m_readNow, .ref m_kept, .int 0, .int 1, .int 0, .ref m_tape, .int 0, .ref m_refused, .int 0, .int (-1), .int 0, .int 0, .int 0, .int 0, .int (-1), .ref m_ownLetters, .ref m_flats, .int 0, .ref m_corner, .ref m_wayX, .ref m_wayY, .ref m_normal, .ref m_low, .ref m_high, .ref m_clear, .ref m_ways, .ref m_canBe, .ref m_lain, .int 0, .ref m_fewestBy, .ref m_sortOf, .int 0, .ref m_seenFlange, .ref m_seenLength])), (m_read, .inl (g.2.1.1, 103, .inl f9)), (m_readNow, .inl (g.2.1.1, 21, .inl fn))] := hD
  refine lv_iinc (v := 9) (lv' := [(1, .int 9), (0, .ref h0)]) hx hb dX9_readsAll_15 hl (k := 0) rfl (by decide) (by decide) rfl (fun ls hl => ?_)
  refine lv_goto (tgt := 2) hx hb dX9_readsAll_18 (by decide) ?_
  refine lv_iload_n hx hb dX9_readsAll_2 rfl (lv_at hl 0 rfl) ?_
  refine lv_bipush (v := 103) hx hb dX9_readsAll_3 (by decide) ?_
  refine lv_icmp_ge (tgt := 21) hx hb dX9_readsAll_5 (by decide) (fun c5 => absurd c5 (by decide)) (fun c5 => ?_)
  refine lv_aload_n hx hb dX9_readsAll_8 rfl (lv_at hl 1 rfl) ?_
  refine va_get (D := g.1) (ci := 9) (v := .ref m_read) (C := RX9) (T := TX9) (N := 37) hx hb hG iX9 hown hX.1 hP 0 rfl rfl 1 (by decide) (hG _ g1418) (fun _ h9 => h9) rfl dX9_readsAll_9 ?_
  refine lv_iload_n hx hb dX9_readsAll_12 rfl (lv_at hl 0 rfl) ?_
  refine lv_iconst (v := 0) hx hb dX9_readsAll_13 (by decide) ?_
  refine va_iast hx hb hX.1 hP hD hS 1 0 rfl rfl (vp_in_iff.mpr (by decide)) dX9_readsAll_14 (fun H locs hP hD hS => ?_)
  obtain ⟨f10, ef10⟩ : ∃ z : Nat → Int32, z = upd f9 (9 : Int32).toNatClampNeg 0 := ⟨_, rfl⟩
  rw [← ef10] at hP hD
  have hP : va_P g.1 vwCl [(h0, .inr (9, [.ref m_told, .ref m_read, .ref m_now, .ref m_readNow, .ref m_kept, .int 0, .int 1, .int 0, .ref m_tape, .int 0, .ref m_refused, .int 0, .int (-1), .int 0, .int 0, .int 0, .int 0, .int (-1), .ref m_ownLetters, .ref m_flats, .int 0, .ref m_corner, .ref m_wayX, .ref m_wayY, .ref m_normal, .ref m_low, .ref m_high, .ref m_clear, .ref m_ways, .ref m_canBe, .ref m_lain, .int 0, .ref m_fewestBy, .ref m_sortOf, .int 0, .ref m_seenFlange, .ref m_seenLength])), (m_read, .inl (g.2.1.1, 103, .inl f10)), (m_readNow, .inl (g.2.1.1, 21, .inl fn))] H := hP
  have hD : va_D A [(h0, .inr (9, [.ref m_told, .ref m_read, .ref m_now, .ref m_readNow, .ref m_kept, .int 0, .int 1, .int 0, .ref m_tape, .int 0, .ref m_refused, .int 0, .int (-1), .int 0, .int 0, .int 0, .int 0, .int (-1), .ref m_ownLetters, .ref m_flats, .int 0, .ref m_corner, .ref m_wayX, .ref m_wayY, .ref m_normal, .ref m_low, .ref m_high, .ref m_clear, .ref m_ways, .ref m_canBe, .ref m_lain, .int 0, .ref m_fewestBy, .ref m_sortOf, .int 0, .ref m_seenFlange, .ref m_seenLength])), (m_read, .inl (g.2.1.1, 103, .inl f10)), (m_readNow, .inl (g.2.1.1, 21, .inl fn))] := hD
  refine lv_iinc (v := 10) (lv' := [(1, .int 10), (0, .ref h0)]) hx hb dX9_readsAll_15 hl (k := 0) rfl (by decide) (by decide) rfl (fun ls hl => ?_)
  refine lv_goto (tgt := 2) hx hb dX9_readsAll_18 (by decide) ?_
  refine lv_iload_n hx hb dX9_readsAll_2 rfl (lv_at hl 0 rfl) ?_
  refine lv_bipush (v := 103) hx hb dX9_readsAll_3 (by decide) ?_
  refine lv_icmp_ge (tgt := 21) hx hb dX9_readsAll_5 (by decide) (fun c5 => absurd c5 (by decide)) (fun c5 => ?_)
  refine lv_aload_n hx hb dX9_readsAll_8 rfl (lv_at hl 1 rfl) ?_
  refine va_get (D := g.1) (ci := 9) (v := .ref m_read) (C := RX9) (T := TX9) (N := 37) hx hb hG iX9 hown hX.1 hP 0 rfl rfl 1 (by decide) (hG _ g1418) (fun _ h9 => h9) rfl dX9_readsAll_9 ?_
  refine lv_iload_n hx hb dX9_readsAll_12 rfl (lv_at hl 0 rfl) ?_
  refine lv_iconst (v := 0) hx hb dX9_readsAll_13 (by decide) ?_
  refine va_iast hx hb hX.1 hP hD hS 1 0 rfl rfl (vp_in_iff.mpr (by decide)) dX9_readsAll_14 (fun H locs hP hD hS => ?_)
  obtain ⟨f11, ef11⟩ : ∃ z : Nat → Int32, z = upd f10 (10 : Int32).toNatClampNeg 0 := ⟨_, rfl⟩
  rw [← ef11] at hP hD
  have hP : va_P g.1 vwCl [(h0, .inr (9, [.ref m_told, .ref m_read, .ref m_now, .ref m_readNow, .ref m_kept, .int 0, .int 1, .int 0, .ref m_tape, .int 0, .ref m_refused, .int 0, .int (-1), .int 0, .int 0, .int 0, .int 0, .int (-1), .ref m_ownLetters, .ref m_flats, .int 0, .ref m_corner, .ref m_wayX, .ref m_wayY, .ref m_normal, .ref m_low, .ref m_high, .ref m_clear, .ref m_ways, .ref m_canBe, .ref m_lain, .int 0, .ref m_fewestBy, .ref m_sortOf, .int 0, .ref m_seenFlange, .ref m_seenLength])), (m_read, .inl (g.2.1.1, 103, .inl f11)), (m_readNow, .inl (g.2.1.1, 21, .inl fn))] H := hP
  have hD : va_D A [(h0, .inr (9, [.ref m_told, .ref m_read, .ref m_now, .ref m_readNow, .ref m_kept, .int 0, .int 1, .int 0, .ref m_tape, .int 0, .ref m_refused, .int 0, .int (-1), .int 0, .int 0, .int 0, .int 0, .int (-1), .ref m_ownLetters, .ref m_flats, .int 0, .ref m_corner, .ref m_wayX, .ref m_wayY, .ref m_normal, .ref m_low, .ref m_high, .ref m_clear, .ref m_ways, .ref m_canBe, .ref m_lain, .int 0, .ref m_fewestBy, .ref m_sortOf, .int 0, .ref m_seenFlange, .ref m_seenLength])), (m_read, .inl (g.2.1.1, 103, .inl f11)), (m_readNow, .inl (g.2.1.1, 21, .inl fn))] := hD
  refine lv_iinc (v := 11) (lv' := [(1, .int 11), (0, .ref h0)]) hx hb dX9_readsAll_15 hl (k := 0) rfl (by decide) (by decide) rfl (fun ls hl => ?_)
  refine lv_goto (tgt := 2) hx hb dX9_readsAll_18 (by decide) ?_
  refine lv_iload_n hx hb dX9_readsAll_2 rfl (lv_at hl 0 rfl) ?_
  refine lv_bipush (v := 103) hx hb dX9_readsAll_3 (by decide) ?_
  refine lv_icmp_ge (tgt := 21) hx hb dX9_readsAll_5 (by decide) (fun c5 => absurd c5 (by decide)) (fun c5 => ?_)
  refine lv_aload_n hx hb dX9_readsAll_8 rfl (lv_at hl 1 rfl) ?_
  refine va_get (D := g.1) (ci := 9) (v := .ref m_read) (C := RX9) (T := TX9) (N := 37) hx hb hG iX9 hown hX.1 hP 0 rfl rfl 1 (by decide) (hG _ g1418) (fun _ h9 => h9) rfl dX9_readsAll_9 ?_
  refine lv_iload_n hx hb dX9_readsAll_12 rfl (lv_at hl 0 rfl) ?_
  refine lv_iconst (v := 0) hx hb dX9_readsAll_13 (by decide) ?_
  refine va_iast hx hb hX.1 hP hD hS 1 0 rfl rfl (vp_in_iff.mpr (by decide)) dX9_readsAll_14 (fun H locs hP hD hS => ?_)
  obtain ⟨f12, ef12⟩ : ∃ z : Nat → Int32, z = upd f11 (11 : Int32).toNatClampNeg 0 := ⟨_, rfl⟩
  rw [← ef12] at hP hD
  have hP : va_P g.1 vwCl [(h0, .inr (9, [.ref m_told, .ref m_read, .ref m_now, .ref m_readNow, .ref m_kept, .int 0, .int 1, .int 0, .ref m_tape, .int 0, .ref m_refused, .int 0, .int (-1), .int 0, .int 0, .int 0, .int 0, .int (-1), .ref m_ownLetters, .ref m_flats, .int 0, .ref m_corner, .ref m_wayX, .ref m_wayY, .ref m_normal, .ref m_low, .ref m_high, .ref m_clear, .ref m_ways, .ref m_canBe, .ref m_lain, .int 0, .ref m_fewestBy, .ref m_sortOf, .int 0, .ref m_seenFlange, .ref m_seenLength])), (m_read, .inl (g.2.1.1, 103, .inl f12)), (m_readNow, .inl (g.2.1.1, 21, .inl fn))] H := hP
  have hD : va_D A [(h0, .inr (9, [.ref m_told, .ref m_read, .ref m_now, .ref m_readNow, .ref m_kept, .int 0, .int 1, .int 0, .ref m_tape, .int 0, .ref m_refused, .int 0, .int (-1), .int 0, .int 0, .int 0, .int 0, .int (-1), .ref m_ownLetters, .ref m_flats, .int 0, .ref m_corner, .ref m_wayX, .ref m_wayY, .ref m_normal, .ref m_low, .ref m_high, .ref m_clear, .ref m_ways, .ref m_canBe, .ref m_lain, .int 0, .ref m_fewestBy, .ref m_sortOf, .int 0, .ref m_seenFlange, .ref m_seenLength])), (m_read, .inl (g.2.1.1, 103, .inl f12)), (m_readNow, .inl (g.2.1.1, 21, .inl fn))] := hD
  refine lv_iinc (v := 12) (lv' := [(1, .int 12), (0, .ref h0)]) hx hb dX9_readsAll_15 hl (k := 0) rfl (by decide) (by decide) rfl (fun ls hl => ?_)
  refine lv_goto (tgt := 2) hx hb dX9_readsAll_18 (by decide) ?_
  refine lv_iload_n hx hb dX9_readsAll_2 rfl (lv_at hl 0 rfl) ?_
  refine lv_bipush (v := 103) hx hb dX9_readsAll_3 (by decide) ?_
  refine lv_icmp_ge (tgt := 21) hx hb dX9_readsAll_5 (by decide) (fun c5 => absurd c5 (by decide)) (fun c5 => ?_)
  refine lv_aload_n hx hb dX9_readsAll_8 rfl (lv_at hl 1 rfl) ?_
  refine va_get (D := g.1) (ci := 9) (v := .ref m_read) (C := RX9) (T := TX9) (N := 37) hx hb hG iX9 hown hX.1 hP 0 rfl rfl 1 (by decide) (hG _ g1418) (fun _ h9 => h9) rfl dX9_readsAll_9 ?_
  refine lv_iload_n hx hb dX9_readsAll_12 rfl (lv_at hl 0 rfl) ?_
  refine lv_iconst (v := 0) hx hb dX9_readsAll_13 (by decide) ?_
  refine va_iast hx hb hX.1 hP hD hS 1 0 rfl rfl (vp_in_iff.mpr (by decide)) dX9_readsAll_14 (fun H locs hP hD hS => ?_)
  obtain ⟨f13, ef13⟩ : ∃ z : Nat → Int32, z = upd f12 (12 : Int32).toNatClampNeg 0 := ⟨_, rfl⟩
  rw [← ef13] at hP hD
  have hP : va_P g.1 vwCl [(h0, .inr (9, [.ref m_told, .ref m_read, .ref m_now, .ref m_readNow, .ref m_kept, .int 0, .int 1, .int 0, .ref m_tape, .int 0, .ref m_refused, .int 0, .int (-1), .int 0, .int 0, .int 0, .int 0, .int (-1), .ref m_ownLetters, .ref m_flats, .int 0, .ref m_corner, .ref m_wayX, .ref m_wayY, .ref m_normal, .ref m_low, .ref m_high, .ref m_clear, .ref m_ways, .ref m_canBe, .ref m_lain, .int 0, .ref m_fewestBy, .ref m_sortOf, .int 0, .ref m_seenFlange, .ref m_seenLength])), (m_read, .inl (g.2.1.1, 103, .inl f13)), (m_readNow, .inl (g.2.1.1, 21, .inl fn))] H := hP
  have hD : va_D A [(h0, .inr (9, [.ref m_told, .ref m_read, .ref m_now, .ref m_readNow, .ref m_kept, .int 0, .int 1, .int 0, .ref m_tape, .int 0, .ref m_refused, .int 0, .int (-1), .int 0, .int 0, .int 0, .int 0, .int (-1), .ref m_ownLetters, .ref m_flats, .int 0, .ref m_corner, .ref m_wayX, .ref m_wayY, .ref m_normal, .ref m_low, .ref m_high, .ref m_clear, .ref m_ways, .ref m_canBe, .ref m_lain, .int 0, .ref m_fewestBy, .ref m_sortOf, .int 0, .ref m_seenFlange, .ref m_seenLength])), (m_read, .inl (g.2.1.1, 103, .inl f13)), (m_readNow, .inl (g.2.1.1, 21, .inl fn))] := hD
  refine lv_iinc (v := 13) (lv' := [(1, .int 13), (0, .ref h0)]) hx hb dX9_readsAll_15 hl (k := 0) rfl (by decide) (by decide) rfl (fun ls hl => ?_)
  refine lv_goto (tgt := 2) hx hb dX9_readsAll_18 (by decide) ?_
  refine lv_iload_n hx hb dX9_readsAll_2 rfl (lv_at hl 0 rfl) ?_
  refine lv_bipush (v := 103) hx hb dX9_readsAll_3 (by decide) ?_
  refine lv_icmp_ge (tgt := 21) hx hb dX9_readsAll_5 (by decide) (fun c5 => absurd c5 (by decide)) (fun c5 => ?_)
  refine lv_aload_n hx hb dX9_readsAll_8 rfl (lv_at hl 1 rfl) ?_
  refine va_get (D := g.1) (ci := 9) (v := .ref m_read) (C := RX9) (T := TX9) (N := 37) hx hb hG iX9 hown hX.1 hP 0 rfl rfl 1 (by decide) (hG _ g1418) (fun _ h9 => h9) rfl dX9_readsAll_9 ?_
  refine lv_iload_n hx hb dX9_readsAll_12 rfl (lv_at hl 0 rfl) ?_
  refine lv_iconst (v := 0) hx hb dX9_readsAll_13 (by decide) ?_
  refine va_iast hx hb hX.1 hP hD hS 1 0 rfl rfl (vp_in_iff.mpr (by decide)) dX9_readsAll_14 (fun H locs hP hD hS => ?_)
  obtain ⟨f14, ef14⟩ : ∃ z : Nat → Int32, z = upd f13 (13 : Int32).toNatClampNeg 0 := ⟨_, rfl⟩
  rw [← ef14] at hP hD
  have hP : va_P g.1 vwCl [(h0, .inr (9, [.ref m_told, .ref m_read, .ref m_now, .ref m_readNow, .ref m_kept, .int 0, .int 1, .int 0, .ref m_tape, .int 0, .ref m_refused, .int 0, .int (-1), .int 0, .int 0, .int 0, .int 0, .int (-1), .ref m_ownLetters, .ref m_flats, .int 0, .ref m_corner, .ref m_wayX, .ref m_wayY, .ref m_normal, .ref m_low, .ref m_high, .ref m_clear, .ref m_ways, .ref m_canBe, .ref m_lain, .int 0, .ref m_fewestBy, .ref m_sortOf, .int 0, .ref m_seenFlange, .ref m_seenLength])), (m_read, .inl (g.2.1.1, 103, .inl f14)), (m_readNow, .inl (g.2.1.1, 21, .inl fn))] H := hP
  have hD : va_D A [(h0, .inr (9, [.ref m_told, .ref m_read, .ref m_now, .ref m_readNow, .ref m_kept, .int 0, .int 1, .int 0, .ref m_tape, .int 0, .ref m_refused, .int 0, .int (-1), .int 0, .int 0, .int 0, .int 0, .int (-1), .ref m_ownLetters, .ref m_flats, .int 0, .ref m_corner, .ref m_wayX, .ref m_wayY, .ref m_normal, .ref m_low, .ref m_high, .ref m_clear, .ref m_ways, .ref m_canBe, .ref m_lain, .int 0, .ref m_fewestBy, .ref m_sortOf, .int 0, .ref m_seenFlange, .ref m_seenLength])), (m_read, .inl (g.2.1.1, 103, .inl f14)), (m_readNow, .inl (g.2.1.1, 21, .inl fn))] := hD
  refine lv_iinc (v := 14) (lv' := [(1, .int 14), (0, .ref h0)]) hx hb dX9_readsAll_15 hl (k := 0) rfl (by decide) (by decide) rfl (fun ls hl => ?_)
  refine lv_goto (tgt := 2) hx hb dX9_readsAll_18 (by decide) ?_
  refine lv_iload_n hx hb dX9_readsAll_2 rfl (lv_at hl 0 rfl) ?_
  refine lv_bipush (v := 103) hx hb dX9_readsAll_3 (by decide) ?_
  refine lv_icmp_ge (tgt := 21) hx hb dX9_readsAll_5 (by decide) (fun c5 => absurd c5 (by decide)) (fun c5 => ?_)
  refine lv_aload_n hx hb dX9_readsAll_8 rfl (lv_at hl 1 rfl) ?_
  refine va_get (D := g.1) (ci := 9) (v := .ref m_read) (C := RX9) (T := TX9) (N := 37) hx hb hG iX9 hown hX.1 hP 0 rfl rfl 1 (by decide) (hG _ g1418) (fun _ h9 => h9) rfl dX9_readsAll_9 ?_
  refine lv_iload_n hx hb dX9_readsAll_12 rfl (lv_at hl 0 rfl) ?_
  refine lv_iconst (v := 0) hx hb dX9_readsAll_13 (by decide) ?_
  refine va_iast hx hb hX.1 hP hD hS 1 0 rfl rfl (vp_in_iff.mpr (by decide)) dX9_readsAll_14 (fun H locs hP hD hS => ?_)
  obtain ⟨f15, ef15⟩ : ∃ z : Nat → Int32, z = upd f14 (14 : Int32).toNatClampNeg 0 := ⟨_, rfl⟩
  rw [← ef15] at hP hD
  have hP : va_P g.1 vwCl [(h0, .inr (9, [.ref m_told, .ref m_read, .ref m_now, .ref m_readNow, .ref m_kept, .int 0, .int 1, .int 0, .ref m_tape, .int 0, .ref m_refused, .int 0, .int (-1), .int 0, .int 0, .int 0, .int 0, .int (-1), .ref m_ownLetters, .ref m_flats, .int 0, .ref m_corner, .ref m_wayX, .ref m_wayY, .ref m_normal, .ref m_low, .ref m_high, .ref m_clear, .ref m_ways, .ref m_canBe, .ref m_lain, .int 0, .ref m_fewestBy, .ref m_sortOf, .int 0, .ref m_seenFlange, .ref m_seenLength])), (m_read, .inl (g.2.1.1, 103, .inl f15)), (m_readNow, .inl (g.2.1.1, 21, .inl fn))] H := hP
  have hD : va_D A [(h0, .inr (9, [.ref m_told, .ref m_read, .ref m_now, .ref m_readNow, .ref m_kept, .int 0, .int 1, .int 0, .ref m_tape, .int 0, .ref m_refused, .int 0, .int (-1), .int 0, .int 0, .int 0, .int 0, .int (-1), .ref m_ownLetters, .ref m_flats, .int 0, .ref m_corner, .ref m_wayX, .ref m_wayY, .ref m_normal, .ref m_low, .ref m_high, .ref m_clear, .ref m_ways, .ref m_canBe, .ref m_lain, .int 0, .ref m_fewestBy, .ref m_sortOf, .int 0, .ref m_seenFlange, .ref m_seenLength])), (m_read, .inl (g.2.1.1, 103, .inl f15)), (m_readNow, .inl (g.2.1.1, 21, .inl fn))] := hD
  refine lv_iinc (v := 15) (lv' := [(1, .int 15), (0, .ref h0)]) hx hb dX9_readsAll_15 hl (k := 0) rfl (by decide) (by decide) rfl (fun ls hl => ?_)
  refine lv_goto (tgt := 2) hx hb dX9_readsAll_18 (by decide) ?_
  refine lv_iload_n hx hb dX9_readsAll_2 rfl (lv_at hl 0 rfl) ?_
  refine lv_bipush (v := 103) hx hb dX9_readsAll_3 (by decide) ?_
  refine lv_icmp_ge (tgt := 21) hx hb dX9_readsAll_5 (by decide) (fun c5 => absurd c5 (by decide)) (fun c5 => ?_)
  refine lv_aload_n hx hb dX9_readsAll_8 rfl (lv_at hl 1 rfl) ?_
  refine va_get (D := g.1) (ci := 9) (v := .ref m_read) (C := RX9) (T := TX9) (N := 37) hx hb hG iX9 hown hX.1 hP 0 rfl rfl 1 (by decide) (hG _ g1418) (fun _ h9 => h9) rfl dX9_readsAll_9 ?_
  refine lv_iload_n hx hb dX9_readsAll_12 rfl (lv_at hl 0 rfl) ?_
  refine lv_iconst (v := 0) hx hb dX9_readsAll_13 (by decide) ?_
  refine va_iast hx hb hX.1 hP hD hS 1 0 rfl rfl (vp_in_iff.mpr (by decide)) dX9_readsAll_14 (fun H locs hP hD hS => ?_)
  obtain ⟨f16, ef16⟩ : ∃ z : Nat → Int32, z = upd f15 (15 : Int32).toNatClampNeg 0 := ⟨_, rfl⟩
  rw [← ef16] at hP hD
  have hP : va_P g.1 vwCl [(h0, .inr (9, [.ref m_told, .ref m_read, .ref m_now, .ref m_readNow, .ref m_kept, .int 0, .int 1, .int 0, .ref m_tape, .int 0, .ref m_refused, .int 0, .int (-1), .int 0, .int 0, .int 0, .int 0, .int (-1), .ref m_ownLetters, .ref m_flats, .int 0, .ref m_corner, .ref m_wayX, .ref m_wayY, .ref m_normal, .ref m_low, .ref m_high, .ref m_clear, .ref m_ways, .ref m_canBe, .ref m_lain, .int 0, .ref m_fewestBy, .ref m_sortOf, .int 0, .ref m_seenFlange, .ref m_seenLength])), (m_read, .inl (g.2.1.1, 103, .inl f16)), (m_readNow, .inl (g.2.1.1, 21, .inl fn))] H := hP
  have hD : va_D A [(h0, .inr (9, [.ref m_told, .ref m_read, .ref m_now, .ref m_readNow, .ref m_kept, .int 0, .int 1, .int 0, .ref m_tape, .int 0, .ref m_refused, .int 0, .int (-1), .int 0, .int 0, .int 0, .int 0, .int (-1), .ref m_ownLetters, .ref m_flats, .int 0, .ref m_corner, .ref m_wayX, .ref m_wayY, .ref m_normal, .ref m_low, .ref m_high, .ref m_clear, .ref m_ways, .ref m_canBe, .ref m_lain, .int 0, .ref m_fewestBy, .ref m_sortOf, .int 0, .ref m_seenFlange, .ref m_seenLength])), (m_read, .inl (g.2.1.1, 103, .inl f16)), (m_readNow, .inl (g.2.1.1, 21, .inl fn))] := hD
  refine lv_iinc (v := 16) (lv' := [(1, .int 16), (0, .ref h0)]) hx hb dX9_readsAll_15 hl (k := 0) rfl (by decide) (by decide) rfl (fun ls hl => ?_)
  refine lv_goto (tgt := 2) hx hb dX9_readsAll_18 (by decide) ?_
  refine lv_iload_n hx hb dX9_readsAll_2 rfl (lv_at hl 0 rfl) ?_
  refine lv_bipush (v := 103) hx hb dX9_readsAll_3 (by decide) ?_
  refine lv_icmp_ge (tgt := 21) hx hb dX9_readsAll_5 (by decide) (fun c5 => absurd c5 (by decide)) (fun c5 => ?_)
  refine lv_aload_n hx hb dX9_readsAll_8 rfl (lv_at hl 1 rfl) ?_
  refine va_get (D := g.1) (ci := 9) (v := .ref m_read) (C := RX9) (T := TX9) (N := 37) hx hb hG iX9 hown hX.1 hP 0 rfl rfl 1 (by decide) (hG _ g1418) (fun _ h9 => h9) rfl dX9_readsAll_9 ?_
  refine lv_iload_n hx hb dX9_readsAll_12 rfl (lv_at hl 0 rfl) ?_
  refine lv_iconst (v := 0) hx hb dX9_readsAll_13 (by decide) ?_
  refine va_iast hx hb hX.1 hP hD hS 1 0 rfl rfl (vp_in_iff.mpr (by decide)) dX9_readsAll_14 (fun H locs hP hD hS => ?_)
  obtain ⟨f17, ef17⟩ : ∃ z : Nat → Int32, z = upd f16 (16 : Int32).toNatClampNeg 0 := ⟨_, rfl⟩
  rw [← ef17] at hP hD
  have hP : va_P g.1 vwCl [(h0, .inr (9, [.ref m_told, .ref m_read, .ref m_now, .ref m_readNow, .ref m_kept, .int 0, .int 1, .int 0, .ref m_tape, .int 0, .ref m_refused, .int 0, .int (-1), .int 0, .int 0, .int 0, .int 0, .int (-1), .ref m_ownLetters, .ref m_flats, .int 0, .ref m_corner, .ref m_wayX, .ref m_wayY, .ref m_normal, .ref m_low, .ref m_high, .ref m_clear, .ref m_ways, .ref m_canBe, .ref m_lain, .int 0, .ref m_fewestBy, .ref m_sortOf, .int 0, .ref m_seenFlange, .ref m_seenLength])), (m_read, .inl (g.2.1.1, 103, .inl f17)), (m_readNow, .inl (g.2.1.1, 21, .inl fn))] H := hP
  have hD : va_D A [(h0, .inr (9, [.ref m_told, .ref m_read, .ref m_now, .ref m_readNow, .ref m_kept, .int 0, .int 1, .int 0, .ref m_tape, .int 0, .ref m_refused, .int 0, .int (-1), .int 0, .int 0, .int 0, .int 0, .int (-1), .ref m_ownLetters, .ref m_flats, .int 0, .ref m_corner, .ref m_wayX, .ref m_wayY, .ref m_normal, .ref m_low, .ref m_high, .ref m_clear, .ref m_ways, .ref m_canBe, .ref m_lain, .int 0, .ref m_fewestBy, .ref m_sortOf, .int 0, .ref m_seenFlange, .ref m_seenLength])), (m_read, .inl (g.2.1.1, 103, .inl f17)), (m_readNow, .inl (g.2.1.1, 21, .inl fn))] := hD
  refine lv_iinc (v := 17) (lv' := [(1, .int 17), (0, .ref h0)]) hx hb dX9_readsAll_15 hl (k := 0) rfl (by decide) (by decide) rfl (fun ls hl => ?_)
  refine lv_goto (tgt := 2) hx hb dX9_readsAll_18 (by decide) ?_
  refine lv_iload_n hx hb dX9_readsAll_2 rfl (lv_at hl 0 rfl) ?_
  refine lv_bipush (v := 103) hx hb dX9_readsAll_3 (by decide) ?_
  refine lv_icmp_ge (tgt := 21) hx hb dX9_readsAll_5 (by decide) (fun c5 => absurd c5 (by decide)) (fun c5 => ?_)
  refine lv_aload_n hx hb dX9_readsAll_8 rfl (lv_at hl 1 rfl) ?_
  refine va_get (D := g.1) (ci := 9) (v := .ref m_read) (C := RX9) (T := TX9) (N := 37) hx hb hG iX9 hown hX.1 hP 0 rfl rfl 1 (by decide) (hG _ g1418) (fun _ h9 => h9) rfl dX9_readsAll_9 ?_
  refine lv_iload_n hx hb dX9_readsAll_12 rfl (lv_at hl 0 rfl) ?_
  refine lv_iconst (v := 0) hx hb dX9_readsAll_13 (by decide) ?_
  refine va_iast hx hb hX.1 hP hD hS 1 0 rfl rfl (vp_in_iff.mpr (by decide)) dX9_readsAll_14 (fun H locs hP hD hS => ?_)
  obtain ⟨f18, ef18⟩ : ∃ z : Nat → Int32, z = upd f17 (17 : Int32).toNatClampNeg 0 := ⟨_, rfl⟩
  rw [← ef18] at hP hD
  have hP : va_P g.1 vwCl [(h0, .inr (9, [.ref m_told, .ref m_read, .ref m_now, .ref m_readNow, .ref m_kept, .int 0, .int 1, .int 0, .ref m_tape, .int 0, .ref m_refused, .int 0, .int (-1), .int 0, .int 0, .int 0, .int 0, .int (-1), .ref m_ownLetters, .ref m_flats, .int 0, .ref m_corner, .ref m_wayX, .ref m_wayY, .ref m_normal, .ref m_low, .ref m_high, .ref m_clear, .ref m_ways, .ref m_canBe, .ref m_lain, .int 0, .ref m_fewestBy, .ref m_sortOf, .int 0, .ref m_seenFlange, .ref m_seenLength])), (m_read, .inl (g.2.1.1, 103, .inl f18)), (m_readNow, .inl (g.2.1.1, 21, .inl fn))] H := hP
  have hD : va_D A [(h0, .inr (9, [.ref m_told, .ref m_read, .ref m_now, .ref m_readNow, .ref m_kept, .int 0, .int 1, .int 0, .ref m_tape, .int 0, .ref m_refused, .int 0, .int (-1), .int 0, .int 0, .int 0, .int 0, .int (-1), .ref m_ownLetters, .ref m_flats, .int 0, .ref m_corner, .ref m_wayX, .ref m_wayY, .ref m_normal, .ref m_low, .ref m_high, .ref m_clear, .ref m_ways, .ref m_canBe, .ref m_lain, .int 0, .ref m_fewestBy, .ref m_sortOf, .int 0, .ref m_seenFlange, .ref m_seenLength])), (m_read, .inl (g.2.1.1, 103, .inl f18)), (m_readNow, .inl (g.2.1.1, 21, .inl fn))] := hD
  refine lv_iinc (v := 18) (lv' := [(1, .int 18), (0, .ref h0)]) hx hb dX9_readsAll_15 hl (k := 0) rfl (by decide) (by decide) rfl (fun ls hl => ?_)
  refine lv_goto (tgt := 2) hx hb dX9_readsAll_18 (by decide) ?_
  refine lv_iload_n hx hb dX9_readsAll_2 rfl (lv_at hl 0 rfl) ?_
  refine lv_bipush (v := 103) hx hb dX9_readsAll_3 (by decide) ?_
  refine lv_icmp_ge (tgt := 21) hx hb dX9_readsAll_5 (by decide) (fun c5 => absurd c5 (by decide)) (fun c5 => ?_)
  refine lv_aload_n hx hb dX9_readsAll_8 rfl (lv_at hl 1 rfl) ?_
  refine va_get (D := g.1) (ci := 9) (v := .ref m_read) (C := RX9) (T := TX9) (N := 37) hx hb hG iX9 hown hX.1 hP 0 rfl rfl 1 (by decide) (hG _ g1418) (fun _ h9 => h9) rfl dX9_readsAll_9 ?_
  refine lv_iload_n hx hb dX9_readsAll_12 rfl (lv_at hl 0 rfl) ?_
  refine lv_iconst (v := 0) hx hb dX9_readsAll_13 (by decide) ?_
  refine va_iast hx hb hX.1 hP hD hS 1 0 rfl rfl (vp_in_iff.mpr (by decide)) dX9_readsAll_14 (fun H locs hP hD hS => ?_)
  obtain ⟨f19, ef19⟩ : ∃ z : Nat → Int32, z = upd f18 (18 : Int32).toNatClampNeg 0 := ⟨_, rfl⟩
  rw [← ef19] at hP hD
  have hP : va_P g.1 vwCl [(h0, .inr (9, [.ref m_told, .ref m_read, .ref m_now, .ref m_readNow, .ref m_kept, .int 0, .int 1, .int 0, .ref m_tape, .int 0, .ref m_refused, .int 0, .int (-1), .int 0, .int 0, .int 0, .int 0, .int (-1), .ref m_ownLetters, .ref m_flats, .int 0, .ref m_corner, .ref m_wayX, .ref m_wayY, .ref m_normal, .ref m_low, .ref m_high, .ref m_clear, .ref m_ways, .ref m_canBe, .ref m_lain, .int 0, .ref m_fewestBy, .ref m_sortOf, .int 0, .ref m_seenFlange, .ref m_seenLength])), (m_read, .inl (g.2.1.1, 103, .inl f19)), (m_readNow, .inl (g.2.1.1, 21, .inl fn))] H := hP
  have hD : va_D A [(h0, .inr (9, [.ref m_told, .ref m_read, .ref m_now, .ref m_readNow, .ref m_kept, .int 0, .int 1, .int 0, .ref m_tape, .int 0, .ref m_refused, .int 0, .int (-1), .int 0, .int 0, .int 0, .int 0, .int (-1), .ref m_ownLetters, .ref m_flats, .int 0, .ref m_corner, .ref m_wayX, .ref m_wayY, .ref m_normal, .ref m_low, .ref m_high, .ref m_clear, .ref m_ways, .ref m_canBe, .ref m_lain, .int 0, .ref m_fewestBy, .ref m_sortOf, .int 0, .ref m_seenFlange, .ref m_seenLength])), (m_read, .inl (g.2.1.1, 103, .inl f19)), (m_readNow, .inl (g.2.1.1, 21, .inl fn))] := hD
  refine lv_iinc (v := 19) (lv' := [(1, .int 19), (0, .ref h0)]) hx hb dX9_readsAll_15 hl (k := 0) rfl (by decide) (by decide) rfl (fun ls hl => ?_)
  refine lv_goto (tgt := 2) hx hb dX9_readsAll_18 (by decide) ?_
  refine lv_iload_n hx hb dX9_readsAll_2 rfl (lv_at hl 0 rfl) ?_
  refine lv_bipush (v := 103) hx hb dX9_readsAll_3 (by decide) ?_
  refine lv_icmp_ge (tgt := 21) hx hb dX9_readsAll_5 (by decide) (fun c5 => absurd c5 (by decide)) (fun c5 => ?_)
  refine lv_aload_n hx hb dX9_readsAll_8 rfl (lv_at hl 1 rfl) ?_
  refine va_get (D := g.1) (ci := 9) (v := .ref m_read) (C := RX9) (T := TX9) (N := 37) hx hb hG iX9 hown hX.1 hP 0 rfl rfl 1 (by decide) (hG _ g1418) (fun _ h9 => h9) rfl dX9_readsAll_9 ?_
  refine lv_iload_n hx hb dX9_readsAll_12 rfl (lv_at hl 0 rfl) ?_
  refine lv_iconst (v := 0) hx hb dX9_readsAll_13 (by decide) ?_
  refine va_iast hx hb hX.1 hP hD hS 1 0 rfl rfl (vp_in_iff.mpr (by decide)) dX9_readsAll_14 (fun H locs hP hD hS => ?_)
  obtain ⟨f20, ef20⟩ : ∃ z : Nat → Int32, z = upd f19 (19 : Int32).toNatClampNeg 0 := ⟨_, rfl⟩
  rw [← ef20] at hP hD
  have hP : va_P g.1 vwCl [(h0, .inr (9, [.ref m_told, .ref m_read, .ref m_now, .ref m_readNow, .ref m_kept, .int 0, .int 1, .int 0, .ref m_tape, .int 0, .ref m_refused, .int 0, .int (-1), .int 0, .int 0, .int 0, .int 0, .int (-1), .ref m_ownLetters, .ref m_flats, .int 0, .ref m_corner, .ref m_wayX, .ref m_wayY, .ref m_normal, .ref m_low, .ref m_high, .ref m_clear, .ref m_ways, .ref m_canBe, .ref m_lain, .int 0, .ref m_fewestBy, .ref m_sortOf, .int 0, .ref m_seenFlange, .ref m_seenLength])), (m_read, .inl (g.2.1.1, 103, .inl f20)), (m_readNow, .inl (g.2.1.1, 21, .inl fn))] H := hP
  have hD : va_D A [(h0, .inr (9, [.ref m_told, .ref m_read, .ref m_now, .ref m_readNow, .ref m_kept, .int 0, .int 1, .int 0, .ref m_tape, .int 0, .ref m_refused, .int 0, .int (-1), .int 0, .int 0, .int 0, .int 0, .int (-1), .ref m_ownLetters, .ref m_flats, .int 0, .ref m_corner, .ref m_wayX, .ref m_wayY, .ref m_normal, .ref m_low, .ref m_high, .ref m_clear, .ref m_ways, .ref m_canBe, .ref m_lain, .int 0, .ref m_fewestBy, .ref m_sortOf, .int 0, .ref m_seenFlange, .ref m_seenLength])), (m_read, .inl (g.2.1.1, 103, .inl f20)), (m_readNow, .inl (g.2.1.1, 21, .inl fn))] := hD
  refine lv_iinc (v := 20) (lv' := [(1, .int 20), (0, .ref h0)]) hx hb dX9_readsAll_15 hl (k := 0) rfl (by decide) (by decide) rfl (fun ls hl => ?_)
  refine lv_goto (tgt := 2) hx hb dX9_readsAll_18 (by decide) ?_
  refine lv_iload_n hx hb dX9_readsAll_2 rfl (lv_at hl 0 rfl) ?_
  refine lv_bipush (v := 103) hx hb dX9_readsAll_3 (by decide) ?_
  refine lv_icmp_ge (tgt := 21) hx hb dX9_readsAll_5 (by decide) (fun c5 => absurd c5 (by decide)) (fun c5 => ?_)
  refine lv_aload_n hx hb dX9_readsAll_8 rfl (lv_at hl 1 rfl) ?_
  refine va_get (D := g.1) (ci := 9) (v := .ref m_read) (C := RX9) (T := TX9) (N := 37) hx hb hG iX9 hown hX.1 hP 0 rfl rfl 1 (by decide) (hG _ g1418) (fun _ h9 => h9) rfl dX9_readsAll_9 ?_
  refine lv_iload_n hx hb dX9_readsAll_12 rfl (lv_at hl 0 rfl) ?_
  refine lv_iconst (v := 0) hx hb dX9_readsAll_13 (by decide) ?_
  refine va_iast hx hb hX.1 hP hD hS 1 0 rfl rfl (vp_in_iff.mpr (by decide)) dX9_readsAll_14 (fun H locs hP hD hS => ?_)
  obtain ⟨f21, ef21⟩ : ∃ z : Nat → Int32, z = upd f20 (20 : Int32).toNatClampNeg 0 := ⟨_, rfl⟩
  rw [← ef21] at hP hD
  have hP : va_P g.1 vwCl [(h0, .inr (9, [.ref m_told, .ref m_read, .ref m_now, .ref m_readNow, .ref m_kept, .int 0, .int 1, .int 0, .ref m_tape, .int 0, .ref m_refused, .int 0, .int (-1), .int 0, .int 0, .int 0, .int 0, .int (-1), .ref m_ownLetters, .ref m_flats, .int 0, .ref m_corner, .ref m_wayX, .ref m_wayY, .ref m_normal, .ref m_low, .ref m_high, .ref m_clear, .ref m_ways, .ref m_canBe, .ref m_lain, .int 0, .ref m_fewestBy, .ref m_sortOf, .int 0, .ref m_seenFlange, .ref m_seenLength])), (m_read, .inl (g.2.1.1, 103, .inl f21)), (m_readNow, .inl (g.2.1.1, 21, .inl fn))] H := hP
  have hD : va_D A [(h0, .inr (9, [.ref m_told, .ref m_read, .ref m_now, .ref m_readNow, .ref m_kept, .int 0, .int 1, .int 0, .ref m_tape, .int 0, .ref m_refused, .int 0, .int (-1), .int 0, .int 0, .int 0, .int 0, .int (-1), .ref m_ownLetters, .ref m_flats, .int 0, .ref m_corner, .ref m_wayX, .ref m_wayY, .ref m_normal, .ref m_low, .ref m_high, .ref m_clear, .ref m_ways, .ref m_canBe, .ref m_lain, .int 0, .ref m_fewestBy, .ref m_sortOf, .int 0, .ref m_seenFlange, .ref m_seenLength])), (m_read, .inl (g.2.1.1, 103, .inl f21)), (m_readNow, .inl (g.2.1.1, 21, .inl fn))] := hD
  refine lv_iinc (v := 21) (lv' := [(1, .int 21), (0, .ref h0)]) hx hb dX9_readsAll_15 hl (k := 0) rfl (by decide) (by decide) rfl (fun ls hl => ?_)
  refine lv_goto (tgt := 2) hx hb dX9_readsAll_18 (by decide) ?_
  refine lv_iload_n hx hb dX9_readsAll_2 rfl (lv_at hl 0 rfl) ?_
  refine lv_bipush (v := 103) hx hb dX9_readsAll_3 (by decide) ?_
  refine lv_icmp_ge (tgt := 21) hx hb dX9_readsAll_5 (by decide) (fun c5 => absurd c5 (by decide)) (fun c5 => ?_)
  refine lv_aload_n hx hb dX9_readsAll_8 rfl (lv_at hl 1 rfl) ?_
  refine va_get (D := g.1) (ci := 9) (v := .ref m_read) (C := RX9) (T := TX9) (N := 37) hx hb hG iX9 hown hX.1 hP 0 rfl rfl 1 (by decide) (hG _ g1418) (fun _ h9 => h9) rfl dX9_readsAll_9 ?_
  refine lv_iload_n hx hb dX9_readsAll_12 rfl (lv_at hl 0 rfl) ?_
  refine lv_iconst (v := 0) hx hb dX9_readsAll_13 (by decide) ?_
  refine va_iast hx hb hX.1 hP hD hS 1 0 rfl rfl (vp_in_iff.mpr (by decide)) dX9_readsAll_14 (fun H locs hP hD hS => ?_)
  obtain ⟨f22, ef22⟩ : ∃ z : Nat → Int32, z = upd f21 (21 : Int32).toNatClampNeg 0 := ⟨_, rfl⟩
  rw [← ef22] at hP hD
  have hP : va_P g.1 vwCl [(h0, .inr (9, [.ref m_told, .ref m_read, .ref m_now, .ref m_readNow, .ref m_kept, .int 0, .int 1, .int 0, .ref m_tape, .int 0, .ref m_refused, .int 0, .int (-1), .int 0, .int 0, .int 0, .int 0, .int (-1), .ref m_ownLetters, .ref m_flats, .int 0, .ref m_corner, .ref m_wayX, .ref m_wayY, .ref m_normal, .ref m_low, .ref m_high, .ref m_clear, .ref m_ways, .ref m_canBe, .ref m_lain, .int 0, .ref m_fewestBy, .ref m_sortOf, .int 0, .ref m_seenFlange, .ref m_seenLength])), (m_read, .inl (g.2.1.1, 103, .inl f22)), (m_readNow, .inl (g.2.1.1, 21, .inl fn))] H := hP
  have hD : va_D A [(h0, .inr (9, [.ref m_told, .ref m_read, .ref m_now, .ref m_readNow, .ref m_kept, .int 0, .int 1, .int 0, .ref m_tape, .int 0, .ref m_refused, .int 0, .int (-1), .int 0, .int 0, .int 0, .int 0, .int (-1), .ref m_ownLetters, .ref m_flats, .int 0, .ref m_corner, .ref m_wayX, .ref m_wayY, .ref m_normal, .ref m_low, .ref m_high, .ref m_clear, .ref m_ways, .ref m_canBe, .ref m_lain, .int 0, .ref m_fewestBy, .ref m_sortOf, .int 0, .ref m_seenFlange, .ref m_seenLength])), (m_read, .inl (g.2.1.1, 103, .inl f22)), (m_readNow, .inl (g.2.1.1, 21, .inl fn))] := hD
  refine lv_iinc (v := 22) (lv' := [(1, .int 22), (0, .ref h0)]) hx hb dX9_readsAll_15 hl (k := 0) rfl (by decide) (by decide) rfl (fun ls hl => ?_)
  refine lv_goto (tgt := 2) hx hb dX9_readsAll_18 (by decide) ?_
  refine lv_iload_n hx hb dX9_readsAll_2 rfl (lv_at hl 0 rfl) ?_
  refine lv_bipush (v := 103) hx hb dX9_readsAll_3 (by decide) ?_
  refine lv_icmp_ge (tgt := 21) hx hb dX9_readsAll_5 (by decide) (fun c5 => absurd c5 (by decide)) (fun c5 => ?_)
  refine lv_aload_n hx hb dX9_readsAll_8 rfl (lv_at hl 1 rfl) ?_
  refine va_get (D := g.1) (ci := 9) (v := .ref m_read) (C := RX9) (T := TX9) (N := 37) hx hb hG iX9 hown hX.1 hP 0 rfl rfl 1 (by decide) (hG _ g1418) (fun _ h9 => h9) rfl dX9_readsAll_9 ?_
  refine lv_iload_n hx hb dX9_readsAll_12 rfl (lv_at hl 0 rfl) ?_
  refine lv_iconst (v := 0) hx hb dX9_readsAll_13 (by decide) ?_
  refine va_iast hx hb hX.1 hP hD hS 1 0 rfl rfl (vp_in_iff.mpr (by decide)) dX9_readsAll_14 (fun H locs hP hD hS => ?_)
  obtain ⟨f23, ef23⟩ : ∃ z : Nat → Int32, z = upd f22 (22 : Int32).toNatClampNeg 0 := ⟨_, rfl⟩
  rw [← ef23] at hP hD
  have hP : va_P g.1 vwCl [(h0, .inr (9, [.ref m_told, .ref m_read, .ref m_now, .ref m_readNow, .ref m_kept, .int 0, .int 1, .int 0, .ref m_tape, .int 0, .ref m_refused, .int 0, .int (-1), .int 0, .int 0, .int 0, .int 0, .int (-1), .ref m_ownLetters, .ref m_flats, .int 0, .ref m_corner, .ref m_wayX, .ref m_wayY, .ref m_normal, .ref m_low, .ref m_high, .ref m_clear, .ref m_ways, .ref m_canBe, .ref m_lain, .int 0, .ref m_fewestBy, .ref m_sortOf, .int 0, .ref m_seenFlange, .ref m_seenLength])), (m_read, .inl (g.2.1.1, 103, .inl f23)), (m_readNow, .inl (g.2.1.1, 21, .inl fn))] H := hP
  have hD : va_D A [(h0, .inr (9, [.ref m_told, .ref m_read, .ref m_now, .ref m_readNow, .ref m_kept, .int 0, .int 1, .int 0, .ref m_tape, .int 0, .ref m_refused, .int 0, .int (-1), .int 0, .int 0, .int 0, .int 0, .int (-1), .ref m_ownLetters, .ref m_flats, .int 0, .ref m_corner, .ref m_wayX, .ref m_wayY, .ref m_normal, .ref m_low, .ref m_high, .ref m_clear, .ref m_ways, .ref m_canBe, .ref m_lain, .int 0, .ref m_fewestBy, .ref m_sortOf, .int 0, .ref m_seenFlange, .ref m_seenLength])), (m_read, .inl (g.2.1.1, 103, .inl f23)), (m_readNow, .inl (g.2.1.1, 21, .inl fn))] := hD
  refine lv_iinc (v := 23) (lv' := [(1, .int 23), (0, .ref h0)]) hx hb dX9_readsAll_15 hl (k := 0) rfl (by decide) (by decide) rfl (fun ls hl => ?_)
  refine lv_goto (tgt := 2) hx hb dX9_readsAll_18 (by decide) ?_
  refine lv_iload_n hx hb dX9_readsAll_2 rfl (lv_at hl 0 rfl) ?_
  refine lv_bipush (v := 103) hx hb dX9_readsAll_3 (by decide) ?_
  refine lv_icmp_ge (tgt := 21) hx hb dX9_readsAll_5 (by decide) (fun c5 => absurd c5 (by decide)) (fun c5 => ?_)
  refine lv_aload_n hx hb dX9_readsAll_8 rfl (lv_at hl 1 rfl) ?_
  refine va_get (D := g.1) (ci := 9) (v := .ref m_read) (C := RX9) (T := TX9) (N := 37) hx hb hG iX9 hown hX.1 hP 0 rfl rfl 1 (by decide) (hG _ g1418) (fun _ h9 => h9) rfl dX9_readsAll_9 ?_
  refine lv_iload_n hx hb dX9_readsAll_12 rfl (lv_at hl 0 rfl) ?_
  refine lv_iconst (v := 0) hx hb dX9_readsAll_13 (by decide) ?_
  refine va_iast hx hb hX.1 hP hD hS 1 0 rfl rfl (vp_in_iff.mpr (by decide)) dX9_readsAll_14 (fun H locs hP hD hS => ?_)
  obtain ⟨f24, ef24⟩ : ∃ z : Nat → Int32, z = upd f23 (23 : Int32).toNatClampNeg 0 := ⟨_, rfl⟩
  rw [← ef24] at hP hD
  have hP : va_P g.1 vwCl [(h0, .inr (9, [.ref m_told, .ref m_read, .ref m_now, .ref m_readNow, .ref m_kept, .int 0, .int 1, .int 0, .ref m_tape, .int 0, .ref m_refused, .int 0, .int (-1), .int 0, .int 0, .int 0, .int 0, .int (-1), .ref m_ownLetters, .ref m_flats, .int 0, .ref m_corner, .ref m_wayX, .ref m_wayY, .ref m_normal, .ref m_low, .ref m_high, .ref m_clear, .ref m_ways, .ref m_canBe, .ref m_lain, .int 0, .ref m_fewestBy, .ref m_sortOf, .int 0, .ref m_seenFlange, .ref m_seenLength])), (m_read, .inl (g.2.1.1, 103, .inl f24)), (m_readNow, .inl (g.2.1.1, 21, .inl fn))] H := hP
  have hD : va_D A [(h0, .inr (9, [.ref m_told, .ref m_read, .ref m_now, .ref m_readNow, .ref m_kept, .int 0, .int 1, .int 0, .ref m_tape, .int 0, .ref m_refused, .int 0, .int (-1), .int 0, .int 0, .int 0, .int 0, .int (-1), .ref m_ownLetters, .ref m_flats, .int 0, .ref m_corner, .ref m_wayX, .ref m_wayY, .ref m_normal, .ref m_low, .ref m_high, .ref m_clear, .ref m_ways, .ref m_canBe, .ref m_lain, .int 0, .ref m_fewestBy, .ref m_sortOf, .int 0, .ref m_seenFlange, .ref m_seenLength])), (m_read, .inl (g.2.1.1, 103, .inl f24)), (m_readNow, .inl (g.2.1.1, 21, .inl fn))] := hD
  refine lv_iinc (v := 24) (lv' := [(1, .int 24), (0, .ref h0)]) hx hb dX9_readsAll_15 hl (k := 0) rfl (by decide) (by decide) rfl (fun ls hl => ?_)
  refine lv_goto (tgt := 2) hx hb dX9_readsAll_18 (by decide) ?_
  refine lv_iload_n hx hb dX9_readsAll_2 rfl (lv_at hl 0 rfl) ?_
  refine lv_bipush (v := 103) hx hb dX9_readsAll_3 (by decide) ?_
  refine lv_icmp_ge (tgt := 21) hx hb dX9_readsAll_5 (by decide) (fun c5 => absurd c5 (by decide)) (fun c5 => ?_)
  refine lv_aload_n hx hb dX9_readsAll_8 rfl (lv_at hl 1 rfl) ?_
  refine va_get (D := g.1) (ci := 9) (v := .ref m_read) (C := RX9) (T := TX9) (N := 37) hx hb hG iX9 hown hX.1 hP 0 rfl rfl 1 (by decide) (hG _ g1418) (fun _ h9 => h9) rfl dX9_readsAll_9 ?_
  refine lv_iload_n hx hb dX9_readsAll_12 rfl (lv_at hl 0 rfl) ?_
  refine lv_iconst (v := 0) hx hb dX9_readsAll_13 (by decide) ?_
  refine va_iast hx hb hX.1 hP hD hS 1 0 rfl rfl (vp_in_iff.mpr (by decide)) dX9_readsAll_14 (fun H locs hP hD hS => ?_)
  obtain ⟨f25, ef25⟩ : ∃ z : Nat → Int32, z = upd f24 (24 : Int32).toNatClampNeg 0 := ⟨_, rfl⟩
  rw [← ef25] at hP hD
  have hP : va_P g.1 vwCl [(h0, .inr (9, [.ref m_told, .ref m_read, .ref m_now, .ref m_readNow, .ref m_kept, .int 0, .int 1, .int 0, .ref m_tape, .int 0, .ref m_refused, .int 0, .int (-1), .int 0, .int 0, .int 0, .int 0, .int (-1), .ref m_ownLetters, .ref m_flats, .int 0, .ref m_corner, .ref m_wayX, .ref m_wayY, .ref m_normal, .ref m_low, .ref m_high, .ref m_clear, .ref m_ways, .ref m_canBe, .ref m_lain, .int 0, .ref m_fewestBy, .ref m_sortOf, .int 0, .ref m_seenFlange, .ref m_seenLength])), (m_read, .inl (g.2.1.1, 103, .inl f25)), (m_readNow, .inl (g.2.1.1, 21, .inl fn))] H := hP
  have hD : va_D A [(h0, .inr (9, [.ref m_told, .ref m_read, .ref m_now, .ref m_readNow, .ref m_kept, .int 0, .int 1, .int 0, .ref m_tape, .int 0, .ref m_refused, .int 0, .int (-1), .int 0, .int 0, .int 0, .int 0, .int (-1), .ref m_ownLetters, .ref m_flats, .int 0, .ref m_corner, .ref m_wayX, .ref m_wayY, .ref m_normal, .ref m_low, .ref m_high, .ref m_clear, .ref m_ways, .ref m_canBe, .ref m_lain, .int 0, .ref m_fewestBy, .ref m_sortOf, .int 0, .ref m_seenFlange, .ref m_seenLength])), (m_read, .inl (g.2.1.1, 103, .inl f25)), (m_readNow, .inl (g.2.1.1, 21, .inl fn))] := hD
  refine lv_iinc (v := 25) (lv' := [(1, .int 25), (0, .ref h0)]) hx hb dX9_readsAll_15 hl (k := 0) rfl (by decide) (by decide) rfl (fun ls hl => ?_)
  refine lv_goto (tgt := 2) hx hb dX9_readsAll_18 (by decide) ?_
  refine lv_iload_n hx hb dX9_readsAll_2 rfl (lv_at hl 0 rfl) ?_
  refine lv_bipush (v := 103) hx hb dX9_readsAll_3 (by decide) ?_
  refine lv_icmp_ge (tgt := 21) hx hb dX9_readsAll_5 (by decide) (fun c5 => absurd c5 (by decide)) (fun c5 => ?_)
  refine lv_aload_n hx hb dX9_readsAll_8 rfl (lv_at hl 1 rfl) ?_
  refine va_get (D := g.1) (ci := 9) (v := .ref m_read) (C := RX9) (T := TX9) (N := 37) hx hb hG iX9 hown hX.1 hP 0 rfl rfl 1 (by decide) (hG _ g1418) (fun _ h9 => h9) rfl dX9_readsAll_9 ?_
  refine lv_iload_n hx hb dX9_readsAll_12 rfl (lv_at hl 0 rfl) ?_
  refine lv_iconst (v := 0) hx hb dX9_readsAll_13 (by decide) ?_
  refine va_iast hx hb hX.1 hP hD hS 1 0 rfl rfl (vp_in_iff.mpr (by decide)) dX9_readsAll_14 (fun H locs hP hD hS => ?_)
  obtain ⟨f26, ef26⟩ : ∃ z : Nat → Int32, z = upd f25 (25 : Int32).toNatClampNeg 0 := ⟨_, rfl⟩
  rw [← ef26] at hP hD
  have hP : va_P g.1 vwCl [(h0, .inr (9, [.ref m_told, .ref m_read, .ref m_now, .ref m_readNow, .ref m_kept, .int 0, .int 1, .int 0, .ref m_tape, .int 0, .ref m_refused, .int 0, .int (-1), .int 0, .int 0, .int 0, .int 0, .int (-1), .ref m_ownLetters, .ref m_flats, .int 0, .ref m_corner, .ref m_wayX, .ref m_wayY, .ref m_normal, .ref m_low, .ref m_high, .ref m_clear, .ref m_ways, .ref m_canBe, .ref m_lain, .int 0, .ref m_fewestBy, .ref m_sortOf, .int 0, .ref m_seenFlange, .ref m_seenLength])), (m_read, .inl (g.2.1.1, 103, .inl f26)), (m_readNow, .inl (g.2.1.1, 21, .inl fn))] H := hP
  have hD : va_D A [(h0, .inr (9, [.ref m_told, .ref m_read, .ref m_now, .ref m_readNow, .ref m_kept, .int 0, .int 1, .int 0, .ref m_tape, .int 0, .ref m_refused, .int 0, .int (-1), .int 0, .int 0, .int 0, .int 0, .int (-1), .ref m_ownLetters, .ref m_flats, .int 0, .ref m_corner, .ref m_wayX, .ref m_wayY, .ref m_normal, .ref m_low, .ref m_high, .ref m_clear, .ref m_ways, .ref m_canBe, .ref m_lain, .int 0, .ref m_fewestBy, .ref m_sortOf, .int 0, .ref m_seenFlange, .ref m_seenLength])), (m_read, .inl (g.2.1.1, 103, .inl f26)), (m_readNow, .inl (g.2.1.1, 21, .inl fn))] := hD
  refine lv_iinc (v := 26) (lv' := [(1, .int 26), (0, .ref h0)]) hx hb dX9_readsAll_15 hl (k := 0) rfl (by decide) (by decide) rfl (fun ls hl => ?_)
  refine lv_goto (tgt := 2) hx hb dX9_readsAll_18 (by decide) ?_
  refine lv_iload_n hx hb dX9_readsAll_2 rfl (lv_at hl 0 rfl) ?_
  refine lv_bipush (v := 103) hx hb dX9_readsAll_3 (by decide) ?_
  refine lv_icmp_ge (tgt := 21) hx hb dX9_readsAll_5 (by decide) (fun c5 => absurd c5 (by decide)) (fun c5 => ?_)
  refine lv_aload_n hx hb dX9_readsAll_8 rfl (lv_at hl 1 rfl) ?_
  refine va_get (D := g.1) (ci := 9) (v := .ref m_read) (C := RX9) (T := TX9) (N := 37) hx hb hG iX9 hown hX.1 hP 0 rfl rfl 1 (by decide) (hG _ g1418) (fun _ h9 => h9) rfl dX9_readsAll_9 ?_
  refine lv_iload_n hx hb dX9_readsAll_12 rfl (lv_at hl 0 rfl) ?_
  refine lv_iconst (v := 0) hx hb dX9_readsAll_13 (by decide) ?_
  refine va_iast hx hb hX.1 hP hD hS 1 0 rfl rfl (vp_in_iff.mpr (by decide)) dX9_readsAll_14 (fun H locs hP hD hS => ?_)
  obtain ⟨f27, ef27⟩ : ∃ z : Nat → Int32, z = upd f26 (26 : Int32).toNatClampNeg 0 := ⟨_, rfl⟩
  rw [← ef27] at hP hD
  have hP : va_P g.1 vwCl [(h0, .inr (9, [.ref m_told, .ref m_read, .ref m_now, .ref m_readNow, .ref m_kept, .int 0, .int 1, .int 0, .ref m_tape, .int 0, .ref m_refused, .int 0, .int (-1), .int 0, .int 0, .int 0, .int 0, .int (-1), .ref m_ownLetters, .ref m_flats, .int 0, .ref m_corner, .ref m_wayX, .ref m_wayY, .ref m_normal, .ref m_low, .ref m_high, .ref m_clear, .ref m_ways, .ref m_canBe, .ref m_lain, .int 0, .ref m_fewestBy, .ref m_sortOf, .int 0, .ref m_seenFlange, .ref m_seenLength])), (m_read, .inl (g.2.1.1, 103, .inl f27)), (m_readNow, .inl (g.2.1.1, 21, .inl fn))] H := hP
  have hD : va_D A [(h0, .inr (9, [.ref m_told, .ref m_read, .ref m_now, .ref m_readNow, .ref m_kept, .int 0, .int 1, .int 0, .ref m_tape, .int 0, .ref m_refused, .int 0, .int (-1), .int 0, .int 0, .int 0, .int 0, .int (-1), .ref m_ownLetters, .ref m_flats, .int 0, .ref m_corner, .ref m_wayX, .ref m_wayY, .ref m_normal, .ref m_low, .ref m_high, .ref m_clear, .ref m_ways, .ref m_canBe, .ref m_lain, .int 0, .ref m_fewestBy, .ref m_sortOf, .int 0, .ref m_seenFlange, .ref m_seenLength])), (m_read, .inl (g.2.1.1, 103, .inl f27)), (m_readNow, .inl (g.2.1.1, 21, .inl fn))] := hD
  refine lv_iinc (v := 27) (lv' := [(1, .int 27), (0, .ref h0)]) hx hb dX9_readsAll_15 hl (k := 0) rfl (by decide) (by decide) rfl (fun ls hl => ?_)
  refine lv_goto (tgt := 2) hx hb dX9_readsAll_18 (by decide) ?_
  refine lv_iload_n hx hb dX9_readsAll_2 rfl (lv_at hl 0 rfl) ?_
  refine lv_bipush (v := 103) hx hb dX9_readsAll_3 (by decide) ?_
  refine lv_icmp_ge (tgt := 21) hx hb dX9_readsAll_5 (by decide) (fun c5 => absurd c5 (by decide)) (fun c5 => ?_)
  refine lv_aload_n hx hb dX9_readsAll_8 rfl (lv_at hl 1 rfl) ?_
  refine va_get (D := g.1) (ci := 9) (v := .ref m_read) (C := RX9) (T := TX9) (N := 37) hx hb hG iX9 hown hX.1 hP 0 rfl rfl 1 (by decide) (hG _ g1418) (fun _ h9 => h9) rfl dX9_readsAll_9 ?_
  refine lv_iload_n hx hb dX9_readsAll_12 rfl (lv_at hl 0 rfl) ?_
  refine lv_iconst (v := 0) hx hb dX9_readsAll_13 (by decide) ?_
  refine va_iast hx hb hX.1 hP hD hS 1 0 rfl rfl (vp_in_iff.mpr (by decide)) dX9_readsAll_14 (fun H locs hP hD hS => ?_)
  obtain ⟨f28, ef28⟩ : ∃ z : Nat → Int32, z = upd f27 (27 : Int32).toNatClampNeg 0 := ⟨_, rfl⟩
  rw [← ef28] at hP hD
  have hP : va_P g.1 vwCl [(h0, .inr (9, [.ref m_told, .ref m_read, .ref m_now, .ref m_readNow, .ref m_kept, .int 0, .int 1, .int 0, .ref m_tape, .int 0, .ref m_refused, .int 0, .int (-1), .int 0, .int 0, .int 0, .int 0, .int (-1), .ref m_ownLetters, .ref m_flats, .int 0, .ref m_corner, .ref m_wayX, .ref m_wayY, .ref m_normal, .ref m_low, .ref m_high, .ref m_clear, .ref m_ways, .ref m_canBe, .ref m_lain, .int 0, .ref m_fewestBy, .ref m_sortOf, .int 0, .ref m_seenFlange, .ref m_seenLength])), (m_read, .inl (g.2.1.1, 103, .inl f28)), (m_readNow, .inl (g.2.1.1, 21, .inl fn))] H := hP
  have hD : va_D A [(h0, .inr (9, [.ref m_told, .ref m_read, .ref m_now, .ref m_readNow, .ref m_kept, .int 0, .int 1, .int 0, .ref m_tape, .int 0, .ref m_refused, .int 0, .int (-1), .int 0, .int 0, .int 0, .int 0, .int (-1), .ref m_ownLetters, .ref m_flats, .int 0, .ref m_corner, .ref m_wayX, .ref m_wayY, .ref m_normal, .ref m_low, .ref m_high, .ref m_clear, .ref m_ways, .ref m_canBe, .ref m_lain, .int 0, .ref m_fewestBy, .ref m_sortOf, .int 0, .ref m_seenFlange, .ref m_seenLength])), (m_read, .inl (g.2.1.1, 103, .inl f28)), (m_readNow, .inl (g.2.1.1, 21, .inl fn))] := hD
  refine lv_iinc (v := 28) (lv' := [(1, .int 28), (0, .ref h0)]) hx hb dX9_readsAll_15 hl (k := 0) rfl (by decide) (by decide) rfl (fun ls hl => ?_)
  refine lv_goto (tgt := 2) hx hb dX9_readsAll_18 (by decide) ?_
  refine lv_iload_n hx hb dX9_readsAll_2 rfl (lv_at hl 0 rfl) ?_
  refine lv_bipush (v := 103) hx hb dX9_readsAll_3 (by decide) ?_
  refine lv_icmp_ge (tgt := 21) hx hb dX9_readsAll_5 (by decide) (fun c5 => absurd c5 (by decide)) (fun c5 => ?_)
  refine lv_aload_n hx hb dX9_readsAll_8 rfl (lv_at hl 1 rfl) ?_
  refine va_get (D := g.1) (ci := 9) (v := .ref m_read) (C := RX9) (T := TX9) (N := 37) hx hb hG iX9 hown hX.1 hP 0 rfl rfl 1 (by decide) (hG _ g1418) (fun _ h9 => h9) rfl dX9_readsAll_9 ?_
  refine lv_iload_n hx hb dX9_readsAll_12 rfl (lv_at hl 0 rfl) ?_
  refine lv_iconst (v := 0) hx hb dX9_readsAll_13 (by decide) ?_
  refine va_iast hx hb hX.1 hP hD hS 1 0 rfl rfl (vp_in_iff.mpr (by decide)) dX9_readsAll_14 (fun H locs hP hD hS => ?_)
  obtain ⟨f29, ef29⟩ : ∃ z : Nat → Int32, z = upd f28 (28 : Int32).toNatClampNeg 0 := ⟨_, rfl⟩
  rw [← ef29] at hP hD
  have hP : va_P g.1 vwCl [(h0, .inr (9, [.ref m_told, .ref m_read, .ref m_now, .ref m_readNow, .ref m_kept, .int 0, .int 1, .int 0, .ref m_tape, .int 0, .ref m_refused, .int 0, .int (-1), .int 0, .int 0, .int 0, .int 0, .int (-1), .ref m_ownLetters, .ref m_flats, .int 0, .ref m_corner, .ref m_wayX, .ref m_wayY, .ref m_normal, .ref m_low, .ref m_high, .ref m_clear, .ref m_ways, .ref m_canBe, .ref m_lain, .int 0, .ref m_fewestBy, .ref m_sortOf, .int 0, .ref m_seenFlange, .ref m_seenLength])), (m_read, .inl (g.2.1.1, 103, .inl f29)), (m_readNow, .inl (g.2.1.1, 21, .inl fn))] H := hP
  have hD : va_D A [(h0, .inr (9, [.ref m_told, .ref m_read, .ref m_now, .ref m_readNow, .ref m_kept, .int 0, .int 1, .int 0, .ref m_tape, .int 0, .ref m_refused, .int 0, .int (-1), .int 0, .int 0, .int 0, .int 0, .int (-1), .ref m_ownLetters, .ref m_flats, .int 0, .ref m_corner, .ref m_wayX, .ref m_wayY, .ref m_normal, .ref m_low, .ref m_high, .ref m_clear, .ref m_ways, .ref m_canBe, .ref m_lain, .int 0, .ref m_fewestBy, .ref m_sortOf, .int 0, .ref m_seenFlange, .ref m_seenLength])), (m_read, .inl (g.2.1.1, 103, .inl f29)), (m_readNow, .inl (g.2.1.1, 21, .inl fn))] := hD
  refine lv_iinc (v := 29) (lv' := [(1, .int 29), (0, .ref h0)]) hx hb dX9_readsAll_15 hl (k := 0) rfl (by decide) (by decide) rfl (fun ls hl => ?_)
  refine lv_goto (tgt := 2) hx hb dX9_readsAll_18 (by decide) ?_
  refine lv_iload_n hx hb dX9_readsAll_2 rfl (lv_at hl 0 rfl) ?_
  refine lv_bipush (v := 103) hx hb dX9_readsAll_3 (by decide) ?_
  refine lv_icmp_ge (tgt := 21) hx hb dX9_readsAll_5 (by decide) (fun c5 => absurd c5 (by decide)) (fun c5 => ?_)
  refine lv_aload_n hx hb dX9_readsAll_8 rfl (lv_at hl 1 rfl) ?_
  refine va_get (D := g.1) (ci := 9) (v := .ref m_read) (C := RX9) (T := TX9) (N := 37) hx hb hG iX9 hown hX.1 hP 0 rfl rfl 1 (by decide) (hG _ g1418) (fun _ h9 => h9) rfl dX9_readsAll_9 ?_
  refine lv_iload_n hx hb dX9_readsAll_12 rfl (lv_at hl 0 rfl) ?_
  refine lv_iconst (v := 0) hx hb dX9_readsAll_13 (by decide) ?_
  refine va_iast hx hb hX.1 hP hD hS 1 0 rfl rfl (vp_in_iff.mpr (by decide)) dX9_readsAll_14 (fun H locs hP hD hS => ?_)
  obtain ⟨f30, ef30⟩ : ∃ z : Nat → Int32, z = upd f29 (29 : Int32).toNatClampNeg 0 := ⟨_, rfl⟩
  rw [← ef30] at hP hD
  have hP : va_P g.1 vwCl [(h0, .inr (9, [.ref m_told, .ref m_read, .ref m_now, .ref m_readNow, .ref m_kept, .int 0, .int 1, .int 0, .ref m_tape, .int 0, .ref m_refused, .int 0, .int (-1), .int 0, .int 0, .int 0, .int 0, .int (-1), .ref m_ownLetters, .ref m_flats, .int 0, .ref m_corner, .ref m_wayX, .ref m_wayY, .ref m_normal, .ref m_low, .ref m_high, .ref m_clear, .ref m_ways, .ref m_canBe, .ref m_lain, .int 0, .ref m_fewestBy, .ref m_sortOf, .int 0, .ref m_seenFlange, .ref m_seenLength])), (m_read, .inl (g.2.1.1, 103, .inl f30)), (m_readNow, .inl (g.2.1.1, 21, .inl fn))] H := hP
  have hD : va_D A [(h0, .inr (9, [.ref m_told, .ref m_read, .ref m_now, .ref m_readNow, .ref m_kept, .int 0, .int 1, .int 0, .ref m_tape, .int 0, .ref m_refused, .int 0, .int (-1), .int 0, .int 0, .int 0, .int 0, .int (-1), .ref m_ownLetters, .ref m_flats, .int 0, .ref m_corner, .ref m_wayX, .ref m_wayY, .ref m_normal, .ref m_low, .ref m_high, .ref m_clear, .ref m_ways, .ref m_canBe, .ref m_lain, .int 0, .ref m_fewestBy, .ref m_sortOf, .int 0, .ref m_seenFlange, .ref m_seenLength])), (m_read, .inl (g.2.1.1, 103, .inl f30)), (m_readNow, .inl (g.2.1.1, 21, .inl fn))] := hD
  refine lv_iinc (v := 30) (lv' := [(1, .int 30), (0, .ref h0)]) hx hb dX9_readsAll_15 hl (k := 0) rfl (by decide) (by decide) rfl (fun ls hl => ?_)
  refine lv_goto (tgt := 2) hx hb dX9_readsAll_18 (by decide) ?_
  refine lv_iload_n hx hb dX9_readsAll_2 rfl (lv_at hl 0 rfl) ?_
  refine lv_bipush (v := 103) hx hb dX9_readsAll_3 (by decide) ?_
  refine lv_icmp_ge (tgt := 21) hx hb dX9_readsAll_5 (by decide) (fun c5 => absurd c5 (by decide)) (fun c5 => ?_)
  refine lv_aload_n hx hb dX9_readsAll_8 rfl (lv_at hl 1 rfl) ?_
  refine va_get (D := g.1) (ci := 9) (v := .ref m_read) (C := RX9) (T := TX9) (N := 37) hx hb hG iX9 hown hX.1 hP 0 rfl rfl 1 (by decide) (hG _ g1418) (fun _ h9 => h9) rfl dX9_readsAll_9 ?_
  refine lv_iload_n hx hb dX9_readsAll_12 rfl (lv_at hl 0 rfl) ?_
  refine lv_iconst (v := 0) hx hb dX9_readsAll_13 (by decide) ?_
  refine va_iast hx hb hX.1 hP hD hS 1 0 rfl rfl (vp_in_iff.mpr (by decide)) dX9_readsAll_14 (fun H locs hP hD hS => ?_)
  obtain ⟨f31, ef31⟩ : ∃ z : Nat → Int32, z = upd f30 (30 : Int32).toNatClampNeg 0 := ⟨_, rfl⟩
  rw [← ef31] at hP hD
  have hP : va_P g.1 vwCl [(h0, .inr (9, [.ref m_told, .ref m_read, .ref m_now, .ref m_readNow, .ref m_kept, .int 0, .int 1, .int 0, .ref m_tape, .int 0, .ref m_refused, .int 0, .int (-1), .int 0, .int 0, .int 0, .int 0, .int (-1), .ref m_ownLetters, .ref m_flats, .int 0, .ref m_corner, .ref m_wayX, .ref m_wayY, .ref m_normal, .ref m_low, .ref m_high, .ref m_clear, .ref m_ways, .ref m_canBe, .ref m_lain, .int 0, .ref m_fewestBy, .ref m_sortOf, .int 0, .ref m_seenFlange, .ref m_seenLength])), (m_read, .inl (g.2.1.1, 103, .inl f31)), (m_readNow, .inl (g.2.1.1, 21, .inl fn))] H := hP
  have hD : va_D A [(h0, .inr (9, [.ref m_told, .ref m_read, .ref m_now, .ref m_readNow, .ref m_kept, .int 0, .int 1, .int 0, .ref m_tape, .int 0, .ref m_refused, .int 0, .int (-1), .int 0, .int 0, .int 0, .int 0, .int (-1), .ref m_ownLetters, .ref m_flats, .int 0, .ref m_corner, .ref m_wayX, .ref m_wayY, .ref m_normal, .ref m_low, .ref m_high, .ref m_clear, .ref m_ways, .ref m_canBe, .ref m_lain, .int 0, .ref m_fewestBy, .ref m_sortOf, .int 0, .ref m_seenFlange, .ref m_seenLength])), (m_read, .inl (g.2.1.1, 103, .inl f31)), (m_readNow, .inl (g.2.1.1, 21, .inl fn))] := hD
  refine lv_iinc (v := 31) (lv' := [(1, .int 31), (0, .ref h0)]) hx hb dX9_readsAll_15 hl (k := 0) rfl (by decide) (by decide) rfl (fun ls hl => ?_)
  refine lv_goto (tgt := 2) hx hb dX9_readsAll_18 (by decide) ?_
  refine lv_iload_n hx hb dX9_readsAll_2 rfl (lv_at hl 0 rfl) ?_
  refine lv_bipush (v := 103) hx hb dX9_readsAll_3 (by decide) ?_
  refine lv_icmp_ge (tgt := 21) hx hb dX9_readsAll_5 (by decide) (fun c5 => absurd c5 (by decide)) (fun c5 => ?_)
  refine lv_aload_n hx hb dX9_readsAll_8 rfl (lv_at hl 1 rfl) ?_
  refine va_get (D := g.1) (ci := 9) (v := .ref m_read) (C := RX9) (T := TX9) (N := 37) hx hb hG iX9 hown hX.1 hP 0 rfl rfl 1 (by decide) (hG _ g1418) (fun _ h9 => h9) rfl dX9_readsAll_9 ?_
  refine lv_iload_n hx hb dX9_readsAll_12 rfl (lv_at hl 0 rfl) ?_
  refine lv_iconst (v := 0) hx hb dX9_readsAll_13 (by decide) ?_
  refine va_iast hx hb hX.1 hP hD hS 1 0 rfl rfl (vp_in_iff.mpr (by decide)) dX9_readsAll_14 (fun H locs hP hD hS => ?_)
  obtain ⟨f32, ef32⟩ : ∃ z : Nat → Int32, z = upd f31 (31 : Int32).toNatClampNeg 0 := ⟨_, rfl⟩
  rw [← ef32] at hP hD
  have hP : va_P g.1 vwCl [(h0, .inr (9, [.ref m_told, .ref m_read, .ref m_now, .ref m_readNow, .ref m_kept, .int 0, .int 1, .int 0, .ref m_tape, .int 0, .ref m_refused, .int 0, .int (-1), .int 0, .int 0, .int 0, .int 0, .int (-1), .ref m_ownLetters, .ref m_flats, .int 0, .ref m_corner, .ref m_wayX, .ref m_wayY, .ref m_normal, .ref m_low, .ref m_high, .ref m_clear, .ref m_ways, .ref m_canBe, .ref m_lain, .int 0, .ref m_fewestBy, .ref m_sortOf, .int 0, .ref m_seenFlange, .ref m_seenLength])), (m_read, .inl (g.2.1.1, 103, .inl f32)), (m_readNow, .inl (g.2.1.1, 21, .inl fn))] H := hP
  have hD : va_D A [(h0, .inr (9, [.ref m_told, .ref m_read, .ref m_now, .ref m_readNow, .ref m_kept, .int 0, .int 1, .int 0, .ref m_tape, .int 0, .ref m_refused, .int 0, .int (-1), .int 0, .int 0, .int 0, .int 0, .int (-1), .ref m_ownLetters, .ref m_flats, .int 0, .ref m_corner, .ref m_wayX, .ref m_wayY, .ref m_normal, .ref m_low, .ref m_high, .ref m_clear, .ref m_ways, .ref m_canBe, .ref m_lain, .int 0, .ref m_fewestBy, .ref m_sortOf, .int 0, .ref m_seenFlange, .ref m_seenLength])), (m_read, .inl (g.2.1.1, 103, .inl f32)), (m_readNow, .inl (g.2.1.1, 21, .inl fn))] := hD
  refine lv_iinc (v := 32) (lv' := [(1, .int 32), (0, .ref h0)]) hx hb dX9_readsAll_15 hl (k := 0) rfl (by decide) (by decide) rfl (fun ls hl => ?_)
  refine lv_goto (tgt := 2) hx hb dX9_readsAll_18 (by decide) ?_
  refine lv_iload_n hx hb dX9_readsAll_2 rfl (lv_at hl 0 rfl) ?_
  refine lv_bipush (v := 103) hx hb dX9_readsAll_3 (by decide) ?_
  refine lv_icmp_ge (tgt := 21) hx hb dX9_readsAll_5 (by decide) (fun c5 => absurd c5 (by decide)) (fun c5 => ?_)
  refine lv_aload_n hx hb dX9_readsAll_8 rfl (lv_at hl 1 rfl) ?_
  refine va_get (D := g.1) (ci := 9) (v := .ref m_read) (C := RX9) (T := TX9) (N := 37) hx hb hG iX9 hown hX.1 hP 0 rfl rfl 1 (by decide) (hG _ g1418) (fun _ h9 => h9) rfl dX9_readsAll_9 ?_
  refine lv_iload_n hx hb dX9_readsAll_12 rfl (lv_at hl 0 rfl) ?_
  refine lv_iconst (v := 0) hx hb dX9_readsAll_13 (by decide) ?_
  refine va_iast hx hb hX.1 hP hD hS 1 0 rfl rfl (vp_in_iff.mpr (by decide)) dX9_readsAll_14 (fun H locs hP hD hS => ?_)
  obtain ⟨f33, ef33⟩ : ∃ z : Nat → Int32, z = upd f32 (32 : Int32).toNatClampNeg 0 := ⟨_, rfl⟩
  rw [← ef33] at hP hD
  have hP : va_P g.1 vwCl [(h0, .inr (9, [.ref m_told, .ref m_read, .ref m_now, .ref m_readNow, .ref m_kept, .int 0, .int 1, .int 0, .ref m_tape, .int 0, .ref m_refused, .int 0, .int (-1), .int 0, .int 0, .int 0, .int 0, .int (-1), .ref m_ownLetters, .ref m_flats, .int 0, .ref m_corner, .ref m_wayX, .ref m_wayY, .ref m_normal, .ref m_low, .ref m_high, .ref m_clear, .ref m_ways, .ref m_canBe, .ref m_lain, .int 0, .ref m_fewestBy, .ref m_sortOf, .int 0, .ref m_seenFlange, .ref m_seenLength])), (m_read, .inl (g.2.1.1, 103, .inl f33)), (m_readNow, .inl (g.2.1.1, 21, .inl fn))] H := hP
  have hD : va_D A [(h0, .inr (9, [.ref m_told, .ref m_read, .ref m_now, .ref m_readNow, .ref m_kept, .int 0, .int 1, .int 0, .ref m_tape, .int 0, .ref m_refused, .int 0, .int (-1), .int 0, .int 0, .int 0, .int 0, .int (-1), .ref m_ownLetters, .ref m_flats, .int 0, .ref m_corner, .ref m_wayX, .ref m_wayY, .ref m_normal, .ref m_low, .ref m_high, .ref m_clear, .ref m_ways, .ref m_canBe, .ref m_lain, .int 0, .ref m_fewestBy, .ref m_sortOf, .int 0, .ref m_seenFlange, .ref m_seenLength])), (m_read, .inl (g.2.1.1, 103, .inl f33)), (m_readNow, .inl (g.2.1.1, 21, .inl fn))] := hD
  refine lv_iinc (v := 33) (lv' := [(1, .int 33), (0, .ref h0)]) hx hb dX9_readsAll_15 hl (k := 0) rfl (by decide) (by decide) rfl (fun ls hl => ?_)
  refine lv_goto (tgt := 2) hx hb dX9_readsAll_18 (by decide) ?_
  refine lv_iload_n hx hb dX9_readsAll_2 rfl (lv_at hl 0 rfl) ?_
  refine lv_bipush (v := 103) hx hb dX9_readsAll_3 (by decide) ?_
  refine lv_icmp_ge (tgt := 21) hx hb dX9_readsAll_5 (by decide) (fun c5 => absurd c5 (by decide)) (fun c5 => ?_)
  refine lv_aload_n hx hb dX9_readsAll_8 rfl (lv_at hl 1 rfl) ?_
  refine va_get (D := g.1) (ci := 9) (v := .ref m_read) (C := RX9) (T := TX9) (N := 37) hx hb hG iX9 hown hX.1 hP 0 rfl rfl 1 (by decide) (hG _ g1418) (fun _ h9 => h9) rfl dX9_readsAll_9 ?_
  refine lv_iload_n hx hb dX9_readsAll_12 rfl (lv_at hl 0 rfl) ?_
  refine lv_iconst (v := 0) hx hb dX9_readsAll_13 (by decide) ?_
  refine va_iast hx hb hX.1 hP hD hS 1 0 rfl rfl (vp_in_iff.mpr (by decide)) dX9_readsAll_14 (fun H locs hP hD hS => ?_)
  obtain ⟨f34, ef34⟩ : ∃ z : Nat → Int32, z = upd f33 (33 : Int32).toNatClampNeg 0 := ⟨_, rfl⟩
  rw [← ef34] at hP hD
  have hP : va_P g.1 vwCl [(h0, .inr (9, [.ref m_told, .ref m_read, .ref m_now, .ref m_readNow, .ref m_kept, .int 0, .int 1, .int 0, .ref m_tape, .int 0, .ref m_refused, .int 0, .int (-1), .int 0, .int 0, .int 0, .int 0, .int (-1), .ref m_ownLetters, .ref m_flats, .int 0, .ref m_corner, .ref m_wayX, .ref m_wayY, .ref m_normal, .ref m_low, .ref m_high, .ref m_clear, .ref m_ways, .ref m_canBe, .ref m_lain, .int 0, .ref m_fewestBy, .ref m_sortOf, .int 0, .ref m_seenFlange, .ref m_seenLength])), (m_read, .inl (g.2.1.1, 103, .inl f34)), (m_readNow, .inl (g.2.1.1, 21, .inl fn))] H := hP
  have hD : va_D A [(h0, .inr (9, [.ref m_told, .ref m_read, .ref m_now, .ref m_readNow, .ref m_kept, .int 0, .int 1, .int 0, .ref m_tape, .int 0, .ref m_refused, .int 0, .int (-1), .int 0, .int 0, .int 0, .int 0, .int (-1), .ref m_ownLetters, .ref m_flats, .int 0, .ref m_corner, .ref m_wayX, .ref m_wayY, .ref m_normal, .ref m_low, .ref m_high, .ref m_clear, .ref m_ways, .ref m_canBe, .ref m_lain, .int 0, .ref m_fewestBy, .ref m_sortOf, .int 0, .ref m_seenFlange, .ref m_seenLength])), (m_read, .inl (g.2.1.1, 103, .inl f34)), (m_readNow, .inl (g.2.1.1, 21, .inl fn))] := hD
  refine lv_iinc (v := 34) (lv' := [(1, .int 34), (0, .ref h0)]) hx hb dX9_readsAll_15 hl (k := 0) rfl (by decide) (by decide) rfl (fun ls hl => ?_)
  refine lv_goto (tgt := 2) hx hb dX9_readsAll_18 (by decide) ?_
  refine lv_iload_n hx hb dX9_readsAll_2 rfl (lv_at hl 0 rfl) ?_
  refine lv_bipush (v := 103) hx hb dX9_readsAll_3 (by decide) ?_
  refine lv_icmp_ge (tgt := 21) hx hb dX9_readsAll_5 (by decide) (fun c5 => absurd c5 (by decide)) (fun c5 => ?_)
  refine lv_aload_n hx hb dX9_readsAll_8 rfl (lv_at hl 1 rfl) ?_
  refine va_get (D := g.1) (ci := 9) (v := .ref m_read) (C := RX9) (T := TX9) (N := 37) hx hb hG iX9 hown hX.1 hP 0 rfl rfl 1 (by decide) (hG _ g1418) (fun _ h9 => h9) rfl dX9_readsAll_9 ?_
  refine lv_iload_n hx hb dX9_readsAll_12 rfl (lv_at hl 0 rfl) ?_
  refine lv_iconst (v := 0) hx hb dX9_readsAll_13 (by decide) ?_
  refine va_iast hx hb hX.1 hP hD hS 1 0 rfl rfl (vp_in_iff.mpr (by decide)) dX9_readsAll_14 (fun H locs hP hD hS => ?_)
  obtain ⟨f35, ef35⟩ : ∃ z : Nat → Int32, z = upd f34 (34 : Int32).toNatClampNeg 0 := ⟨_, rfl⟩
  rw [← ef35] at hP hD
  have hP : va_P g.1 vwCl [(h0, .inr (9, [.ref m_told, .ref m_read, .ref m_now, .ref m_readNow, .ref m_kept, .int 0, .int 1, .int 0, .ref m_tape, .int 0, .ref m_refused, .int 0, .int (-1), .int 0, .int 0, .int 0, .int 0, .int (-1), .ref m_ownLetters, .ref m_flats, .int 0, .ref m_corner, .ref m_wayX, .ref m_wayY, .ref m_normal, .ref m_low, .ref m_high, .ref m_clear, .ref m_ways, .ref m_canBe, .ref m_lain, .int 0, .ref m_fewestBy, .ref m_sortOf, .int 0, .ref m_seenFlange, .ref m_seenLength])), (m_read, .inl (g.2.1.1, 103, .inl f35)), (m_readNow, .inl (g.2.1.1, 21, .inl fn))] H := hP
  have hD : va_D A [(h0, .inr (9, [.ref m_told, .ref m_read, .ref m_now, .ref m_readNow, .ref m_kept, .int 0, .int 1, .int 0, .ref m_tape, .int 0, .ref m_refused, .int 0, .int (-1), .int 0, .int 0, .int 0, .int 0, .int (-1), .ref m_ownLetters, .ref m_flats, .int 0, .ref m_corner, .ref m_wayX, .ref m_wayY, .ref m_normal, .ref m_low, .ref m_high, .ref m_clear, .ref m_ways, .ref m_canBe, .ref m_lain, .int 0, .ref m_fewestBy, .ref m_sortOf, .int 0, .ref m_seenFlange, .ref m_seenLength])), (m_read, .inl (g.2.1.1, 103, .inl f35)), (m_readNow, .inl (g.2.1.1, 21, .inl fn))] := hD
  refine lv_iinc (v := 35) (lv' := [(1, .int 35), (0, .ref h0)]) hx hb dX9_readsAll_15 hl (k := 0) rfl (by decide) (by decide) rfl (fun ls hl => ?_)
  refine lv_goto (tgt := 2) hx hb dX9_readsAll_18 (by decide) ?_
  refine lv_iload_n hx hb dX9_readsAll_2 rfl (lv_at hl 0 rfl) ?_
  refine lv_bipush (v := 103) hx hb dX9_readsAll_3 (by decide) ?_
  refine lv_icmp_ge (tgt := 21) hx hb dX9_readsAll_5 (by decide) (fun c5 => absurd c5 (by decide)) (fun c5 => ?_)
  refine lv_aload_n hx hb dX9_readsAll_8 rfl (lv_at hl 1 rfl) ?_
  refine va_get (D := g.1) (ci := 9) (v := .ref m_read) (C := RX9) (T := TX9) (N := 37) hx hb hG iX9 hown hX.1 hP 0 rfl rfl 1 (by decide) (hG _ g1418) (fun _ h9 => h9) rfl dX9_readsAll_9 ?_
  refine lv_iload_n hx hb dX9_readsAll_12 rfl (lv_at hl 0 rfl) ?_
  refine lv_iconst (v := 0) hx hb dX9_readsAll_13 (by decide) ?_
  refine va_iast hx hb hX.1 hP hD hS 1 0 rfl rfl (vp_in_iff.mpr (by decide)) dX9_readsAll_14 (fun H locs hP hD hS => ?_)
  obtain ⟨f36, ef36⟩ : ∃ z : Nat → Int32, z = upd f35 (35 : Int32).toNatClampNeg 0 := ⟨_, rfl⟩
  rw [← ef36] at hP hD
  have hP : va_P g.1 vwCl [(h0, .inr (9, [.ref m_told, .ref m_read, .ref m_now, .ref m_readNow, .ref m_kept, .int 0, .int 1, .int 0, .ref m_tape, .int 0, .ref m_refused, .int 0, .int (-1), .int 0, .int 0, .int 0, .int 0, .int (-1), .ref m_ownLetters, .ref m_flats, .int 0, .ref m_corner, .ref m_wayX, .ref m_wayY, .ref m_normal, .ref m_low, .ref m_high, .ref m_clear, .ref m_ways, .ref m_canBe, .ref m_lain, .int 0, .ref m_fewestBy, .ref m_sortOf, .int 0, .ref m_seenFlange, .ref m_seenLength])), (m_read, .inl (g.2.1.1, 103, .inl f36)), (m_readNow, .inl (g.2.1.1, 21, .inl fn))] H := hP
  have hD : va_D A [(h0, .inr (9, [.ref m_told, .ref m_read, .ref m_now, .ref m_readNow, .ref m_kept, .int 0, .int 1, .int 0, .ref m_tape, .int 0, .ref m_refused, .int 0, .int (-1), .int 0, .int 0, .int 0, .int 0, .int (-1), .ref m_ownLetters, .ref m_flats, .int 0, .ref m_corner, .ref m_wayX, .ref m_wayY, .ref m_normal, .ref m_low, .ref m_high, .ref m_clear, .ref m_ways, .ref m_canBe, .ref m_lain, .int 0, .ref m_fewestBy, .ref m_sortOf, .int 0, .ref m_seenFlange, .ref m_seenLength])), (m_read, .inl (g.2.1.1, 103, .inl f36)), (m_readNow, .inl (g.2.1.1, 21, .inl fn))] := hD
  refine lv_iinc (v := 36) (lv' := [(1, .int 36), (0, .ref h0)]) hx hb dX9_readsAll_15 hl (k := 0) rfl (by decide) (by decide) rfl (fun ls hl => ?_)
  refine lv_goto (tgt := 2) hx hb dX9_readsAll_18 (by decide) ?_
  refine lv_iload_n hx hb dX9_readsAll_2 rfl (lv_at hl 0 rfl) ?_
  refine lv_bipush (v := 103) hx hb dX9_readsAll_3 (by decide) ?_
  refine lv_icmp_ge (tgt := 21) hx hb dX9_readsAll_5 (by decide) (fun c5 => absurd c5 (by decide)) (fun c5 => ?_)
  refine lv_aload_n hx hb dX9_readsAll_8 rfl (lv_at hl 1 rfl) ?_
  refine va_get (D := g.1) (ci := 9) (v := .ref m_read) (C := RX9) (T := TX9) (N := 37) hx hb hG iX9 hown hX.1 hP 0 rfl rfl 1 (by decide) (hG _ g1418) (fun _ h9 => h9) rfl dX9_readsAll_9 ?_
  refine lv_iload_n hx hb dX9_readsAll_12 rfl (lv_at hl 0 rfl) ?_
  refine lv_iconst (v := 0) hx hb dX9_readsAll_13 (by decide) ?_
  refine va_iast hx hb hX.1 hP hD hS 1 0 rfl rfl (vp_in_iff.mpr (by decide)) dX9_readsAll_14 (fun H locs hP hD hS => ?_)
  obtain ⟨f37, ef37⟩ : ∃ z : Nat → Int32, z = upd f36 (36 : Int32).toNatClampNeg 0 := ⟨_, rfl⟩
  rw [← ef37] at hP hD
  have hP : va_P g.1 vwCl [(h0, .inr (9, [.ref m_told, .ref m_read, .ref m_now, .ref m_readNow, .ref m_kept, .int 0, .int 1, .int 0, .ref m_tape, .int 0, .ref m_refused, .int 0, .int (-1), .int 0, .int 0, .int 0, .int 0, .int (-1), .ref m_ownLetters, .ref m_flats, .int 0, .ref m_corner, .ref m_wayX, .ref m_wayY, .ref m_normal, .ref m_low, .ref m_high, .ref m_clear, .ref m_ways, .ref m_canBe, .ref m_lain, .int 0, .ref m_fewestBy, .ref m_sortOf, .int 0, .ref m_seenFlange, .ref m_seenLength])), (m_read, .inl (g.2.1.1, 103, .inl f37)), (m_readNow, .inl (g.2.1.1, 21, .inl fn))] H := hP
  have hD : va_D A [(h0, .inr (9, [.ref m_told, .ref m_read, .ref m_now, .ref m_readNow, .ref m_kept, .int 0, .int 1, .int 0, .ref m_tape, .int 0, .ref m_refused, .int 0, .int (-1), .int 0, .int 0, .int 0, .int 0, .int (-1), .ref m_ownLetters, .ref m_flats, .int 0, .ref m_corner, .ref m_wayX, .ref m_wayY, .ref m_normal, .ref m_low, .ref m_high, .ref m_clear, .ref m_ways, .ref m_canBe, .ref m_lain, .int 0, .ref m_fewestBy, .ref m_sortOf, .int 0, .ref m_seenFlange, .ref m_seenLength])), (m_read, .inl (g.2.1.1, 103, .inl f37)), (m_readNow, .inl (g.2.1.1, 21, .inl fn))] := hD
  refine lv_iinc (v := 37) (lv' := [(1, .int 37), (0, .ref h0)]) hx hb dX9_readsAll_15 hl (k := 0) rfl (by decide) (by decide) rfl (fun ls hl => ?_)
  refine lv_goto (tgt := 2) hx hb dX9_readsAll_18 (by decide) ?_
  refine lv_iload_n hx hb dX9_readsAll_2 rfl (lv_at hl 0 rfl) ?_
  refine lv_bipush (v := 103) hx hb dX9_readsAll_3 (by decide) ?_
  refine lv_icmp_ge (tgt := 21) hx hb dX9_readsAll_5 (by decide) (fun c5 => absurd c5 (by decide)) (fun c5 => ?_)
  refine lv_aload_n hx hb dX9_readsAll_8 rfl (lv_at hl 1 rfl) ?_
  refine va_get (D := g.1) (ci := 9) (v := .ref m_read) (C := RX9) (T := TX9) (N := 37) hx hb hG iX9 hown hX.1 hP 0 rfl rfl 1 (by decide) (hG _ g1418) (fun _ h9 => h9) rfl dX9_readsAll_9 ?_
  refine lv_iload_n hx hb dX9_readsAll_12 rfl (lv_at hl 0 rfl) ?_
  refine lv_iconst (v := 0) hx hb dX9_readsAll_13 (by decide) ?_
  refine va_iast hx hb hX.1 hP hD hS 1 0 rfl rfl (vp_in_iff.mpr (by decide)) dX9_readsAll_14 (fun H locs hP hD hS => ?_)
  obtain ⟨f38, ef38⟩ : ∃ z : Nat → Int32, z = upd f37 (37 : Int32).toNatClampNeg 0 := ⟨_, rfl⟩
  rw [← ef38] at hP hD
  have hP : va_P g.1 vwCl [(h0, .inr (9, [.ref m_told, .ref m_read, .ref m_now, .ref m_readNow, .ref m_kept, .int 0, .int 1, .int 0, .ref m_tape, .int 0, .ref m_refused, .int 0, .int (-1), .int 0, .int 0, .int 0, .int 0, .int (-1), .ref m_ownLetters, .ref m_flats, .int 0, .ref m_corner, .ref m_wayX, .ref m_wayY, .ref m_normal, .ref m_low, .ref m_high, .ref m_clear, .ref m_ways, .ref m_canBe, .ref m_lain, .int 0, .ref m_fewestBy, .ref m_sortOf, .int 0, .ref m_seenFlange, .ref m_seenLength])), (m_read, .inl (g.2.1.1, 103, .inl f38)), (m_readNow, .inl (g.2.1.1, 21, .inl fn))] H := hP
  have hD : va_D A [(h0, .inr (9, [.ref m_told, .ref m_read, .ref m_now, .ref m_readNow, .ref m_kept, .int 0, .int 1, .int 0, .ref m_tape, .int 0, .ref m_refused, .int 0, .int (-1), .int 0, .int 0, .int 0, .int 0, .int (-1), .ref m_ownLetters, .ref m_flats, .int 0, .ref m_corner, .ref m_wayX, .ref m_wayY, .ref m_normal, .ref m_low, .ref m_high, .ref m_clear, .ref m_ways, .ref m_canBe, .ref m_lain, .int 0, .ref m_fewestBy, .ref m_sortOf, .int 0, .ref m_seenFlange, .ref m_seenLength])), (m_read, .inl (g.2.1.1, 103, .inl f38)), (m_readNow, .inl (g.2.1.1, 21, .inl fn))] := hD
  refine lv_iinc (v := 38) (lv' := [(1, .int 38), (0, .ref h0)]) hx hb dX9_readsAll_15 hl (k := 0) rfl (by decide) (by decide) rfl (fun ls hl => ?_)
  refine lv_goto (tgt := 2) hx hb dX9_readsAll_18 (by decide) ?_
  refine lv_iload_n hx hb dX9_readsAll_2 rfl (lv_at hl 0 rfl) ?_
  refine lv_bipush (v := 103) hx hb dX9_readsAll_3 (by decide) ?_
  refine lv_icmp_ge (tgt := 21) hx hb dX9_readsAll_5 (by decide) (fun c5 => absurd c5 (by decide)) (fun c5 => ?_)
  refine lv_aload_n hx hb dX9_readsAll_8 rfl (lv_at hl 1 rfl) ?_
  refine va_get (D := g.1) (ci := 9) (v := .ref m_read) (C := RX9) (T := TX9) (N := 37) hx hb hG iX9 hown hX.1 hP 0 rfl rfl 1 (by decide) (hG _ g1418) (fun _ h9 => h9) rfl dX9_readsAll_9 ?_
  refine lv_iload_n hx hb dX9_readsAll_12 rfl (lv_at hl 0 rfl) ?_
  refine lv_iconst (v := 0) hx hb dX9_readsAll_13 (by decide) ?_
  refine va_iast hx hb hX.1 hP hD hS 1 0 rfl rfl (vp_in_iff.mpr (by decide)) dX9_readsAll_14 (fun H locs hP hD hS => ?_)
  obtain ⟨f39, ef39⟩ : ∃ z : Nat → Int32, z = upd f38 (38 : Int32).toNatClampNeg 0 := ⟨_, rfl⟩
  rw [← ef39] at hP hD
  have hP : va_P g.1 vwCl [(h0, .inr (9, [.ref m_told, .ref m_read, .ref m_now, .ref m_readNow, .ref m_kept, .int 0, .int 1, .int 0, .ref m_tape, .int 0, .ref m_refused, .int 0, .int (-1), .int 0, .int 0, .int 0, .int 0, .int (-1), .ref m_ownLetters, .ref m_flats, .int 0, .ref m_corner, .ref m_wayX, .ref m_wayY, .ref m_normal, .ref m_low, .ref m_high, .ref m_clear, .ref m_ways, .ref m_canBe, .ref m_lain, .int 0, .ref m_fewestBy, .ref m_sortOf, .int 0, .ref m_seenFlange, .ref m_seenLength])), (m_read, .inl (g.2.1.1, 103, .inl f39)), (m_readNow, .inl (g.2.1.1, 21, .inl fn))] H := hP
  have hD : va_D A [(h0, .inr (9, [.ref m_told, .ref m_read, .ref m_now, .ref m_readNow, .ref m_kept, .int 0, .int 1, .int 0, .ref m_tape, .int 0, .ref m_refused, .int 0, .int (-1), .int 0, .int 0, .int 0, .int 0, .int (-1), .ref m_ownLetters, .ref m_flats, .int 0, .ref m_corner, .ref m_wayX, .ref m_wayY, .ref m_normal, .ref m_low, .ref m_high, .ref m_clear, .ref m_ways, .ref m_canBe, .ref m_lain, .int 0, .ref m_fewestBy, .ref m_sortOf, .int 0, .ref m_seenFlange, .ref m_seenLength])), (m_read, .inl (g.2.1.1, 103, .inl f39)), (m_readNow, .inl (g.2.1.1, 21, .inl fn))] := hD
  refine lv_iinc (v := 39) (lv' := [(1, .int 39), (0, .ref h0)]) hx hb dX9_readsAll_15 hl (k := 0) rfl (by decide) (by decide) rfl (fun ls hl => ?_)
  refine lv_goto (tgt := 2) hx hb dX9_readsAll_18 (by decide) ?_
  refine lv_iload_n hx hb dX9_readsAll_2 rfl (lv_at hl 0 rfl) ?_
  refine lv_bipush (v := 103) hx hb dX9_readsAll_3 (by decide) ?_
  refine lv_icmp_ge (tgt := 21) hx hb dX9_readsAll_5 (by decide) (fun c5 => absurd c5 (by decide)) (fun c5 => ?_)
  refine lv_aload_n hx hb dX9_readsAll_8 rfl (lv_at hl 1 rfl) ?_
  refine va_get (D := g.1) (ci := 9) (v := .ref m_read) (C := RX9) (T := TX9) (N := 37) hx hb hG iX9 hown hX.1 hP 0 rfl rfl 1 (by decide) (hG _ g1418) (fun _ h9 => h9) rfl dX9_readsAll_9 ?_
  refine lv_iload_n hx hb dX9_readsAll_12 rfl (lv_at hl 0 rfl) ?_
  refine lv_iconst (v := 0) hx hb dX9_readsAll_13 (by decide) ?_
  refine va_iast hx hb hX.1 hP hD hS 1 0 rfl rfl (vp_in_iff.mpr (by decide)) dX9_readsAll_14 (fun H locs hP hD hS => ?_)
  obtain ⟨f40, ef40⟩ : ∃ z : Nat → Int32, z = upd f39 (39 : Int32).toNatClampNeg 0 := ⟨_, rfl⟩
  rw [← ef40] at hP hD
  have hP : va_P g.1 vwCl [(h0, .inr (9, [.ref m_told, .ref m_read, .ref m_now, .ref m_readNow, .ref m_kept, .int 0, .int 1, .int 0, .ref m_tape, .int 0, .ref m_refused, .int 0, .int (-1), .int 0, .int 0, .int 0, .int 0, .int (-1), .ref m_ownLetters, .ref m_flats, .int 0, .ref m_corner, .ref m_wayX, .ref m_wayY, .ref m_normal, .ref m_low, .ref m_high, .ref m_clear, .ref m_ways, .ref m_canBe, .ref m_lain, .int 0, .ref m_fewestBy, .ref m_sortOf, .int 0, .ref m_seenFlange, .ref m_seenLength])), (m_read, .inl (g.2.1.1, 103, .inl f40)), (m_readNow, .inl (g.2.1.1, 21, .inl fn))] H := hP
  have hD : va_D A [(h0, .inr (9, [.ref m_told, .ref m_read, .ref m_now, .ref m_readNow, .ref m_kept, .int 0, .int 1, .int 0, .ref m_tape, .int 0, .ref m_refused, .int 0, .int (-1), .int 0, .int 0, .int 0, .int 0, .int (-1), .ref m_ownLetters, .ref m_flats, .int 0, .ref m_corner, .ref m_wayX, .ref m_wayY, .ref m_normal, .ref m_low, .ref m_high, .ref m_clear, .ref m_ways, .ref m_canBe, .ref m_lain, .int 0, .ref m_fewestBy, .ref m_sortOf, .int 0, .ref m_seenFlange, .ref m_seenLength])), (m_read, .inl (g.2.1.1, 103, .inl f40)), (m_readNow, .inl (g.2.1.1, 21, .inl fn))] := hD
  refine lv_iinc (v := 40) (lv' := [(1, .int 40), (0, .ref h0)]) hx hb dX9_readsAll_15 hl (k := 0) rfl (by decide) (by decide) rfl (fun ls hl => ?_)
  refine lv_goto (tgt := 2) hx hb dX9_readsAll_18 (by decide) ?_
  refine lv_iload_n hx hb dX9_readsAll_2 rfl (lv_at hl 0 rfl) ?_
  refine lv_bipush (v := 103) hx hb dX9_readsAll_3 (by decide) ?_
  refine lv_icmp_ge (tgt := 21) hx hb dX9_readsAll_5 (by decide) (fun c5 => absurd c5 (by decide)) (fun c5 => ?_)
  refine lv_aload_n hx hb dX9_readsAll_8 rfl (lv_at hl 1 rfl) ?_
  refine va_get (D := g.1) (ci := 9) (v := .ref m_read) (C := RX9) (T := TX9) (N := 37) hx hb hG iX9 hown hX.1 hP 0 rfl rfl 1 (by decide) (hG _ g1418) (fun _ h9 => h9) rfl dX9_readsAll_9 ?_
  refine lv_iload_n hx hb dX9_readsAll_12 rfl (lv_at hl 0 rfl) ?_
  refine lv_iconst (v := 0) hx hb dX9_readsAll_13 (by decide) ?_
  refine va_iast hx hb hX.1 hP hD hS 1 0 rfl rfl (vp_in_iff.mpr (by decide)) dX9_readsAll_14 (fun H locs hP hD hS => ?_)
  obtain ⟨f41, ef41⟩ : ∃ z : Nat → Int32, z = upd f40 (40 : Int32).toNatClampNeg 0 := ⟨_, rfl⟩
  rw [← ef41] at hP hD
  have hP : va_P g.1 vwCl [(h0, .inr (9, [.ref m_told, .ref m_read, .ref m_now, .ref m_readNow, .ref m_kept, .int 0, .int 1, .int 0, .ref m_tape, .int 0, .ref m_refused, .int 0, .int (-1), .int 0, .int 0, .int 0, .int 0, .int (-1), .ref m_ownLetters, .ref m_flats, .int 0, .ref m_corner, .ref m_wayX, .ref m_wayY, .ref m_normal, .ref m_low, .ref m_high, .ref m_clear, .ref m_ways, .ref m_canBe, .ref m_lain, .int 0, .ref m_fewestBy, .ref m_sortOf, .int 0, .ref m_seenFlange, .ref m_seenLength])), (m_read, .inl (g.2.1.1, 103, .inl f41)), (m_readNow, .inl (g.2.1.1, 21, .inl fn))] H := hP
  have hD : va_D A [(h0, .inr (9, [.ref m_told, .ref m_read, .ref m_now, .ref m_readNow, .ref m_kept, .int 0, .int 1, .int 0, .ref m_tape, .int 0, .ref m_refused, .int 0, .int (-1), .int 0, .int 0, .int 0, .int 0, .int (-1), .ref m_ownLetters, .ref m_flats, .int 0, .ref m_corner, .ref m_wayX, .ref m_wayY, .ref m_normal, .ref m_low, .ref m_high, .ref m_clear, .ref m_ways, .ref m_canBe, .ref m_lain, .int 0, .ref m_fewestBy, .ref m_sortOf, .int 0, .ref m_seenFlange, .ref m_seenLength])), (m_read, .inl (g.2.1.1, 103, .inl f41)), (m_readNow, .inl (g.2.1.1, 21, .inl fn))] := hD
  refine lv_iinc (v := 41) (lv' := [(1, .int 41), (0, .ref h0)]) hx hb dX9_readsAll_15 hl (k := 0) rfl (by decide) (by decide) rfl (fun ls hl => ?_)
  refine lv_goto (tgt := 2) hx hb dX9_readsAll_18 (by decide) ?_
  refine lv_iload_n hx hb dX9_readsAll_2 rfl (lv_at hl 0 rfl) ?_
  refine lv_bipush (v := 103) hx hb dX9_readsAll_3 (by decide) ?_
  refine lv_icmp_ge (tgt := 21) hx hb dX9_readsAll_5 (by decide) (fun c5 => absurd c5 (by decide)) (fun c5 => ?_)
  refine lv_aload_n hx hb dX9_readsAll_8 rfl (lv_at hl 1 rfl) ?_
  refine va_get (D := g.1) (ci := 9) (v := .ref m_read) (C := RX9) (T := TX9) (N := 37) hx hb hG iX9 hown hX.1 hP 0 rfl rfl 1 (by decide) (hG _ g1418) (fun _ h9 => h9) rfl dX9_readsAll_9 ?_
  refine lv_iload_n hx hb dX9_readsAll_12 rfl (lv_at hl 0 rfl) ?_
  refine lv_iconst (v := 0) hx hb dX9_readsAll_13 (by decide) ?_
  refine va_iast hx hb hX.1 hP hD hS 1 0 rfl rfl (vp_in_iff.mpr (by decide)) dX9_readsAll_14 (fun H locs hP hD hS => ?_)
  obtain ⟨f42, ef42⟩ : ∃ z : Nat → Int32, z = upd f41 (41 : Int32).toNatClampNeg 0 := ⟨_, rfl⟩
  rw [← ef42] at hP hD
  have hP : va_P g.1 vwCl [(h0, .inr (9, [.ref m_told, .ref m_read, .ref m_now, .ref m_readNow, .ref m_kept, .int 0, .int 1, .int 0, .ref m_tape, .int 0, .ref m_refused, .int 0, .int (-1), .int 0, .int 0, .int 0, .int 0, .int (-1), .ref m_ownLetters, .ref m_flats, .int 0, .ref m_corner, .ref m_wayX, .ref m_wayY, .ref m_normal, .ref m_low, .ref m_high, .ref m_clear, .ref m_ways, .ref m_canBe, .ref m_lain, .int 0, .ref m_fewestBy, .ref m_sortOf, .int 0, .ref m_seenFlange, .ref m_seenLength])), (m_read, .inl (g.2.1.1, 103, .inl f42)), (m_readNow, .inl (g.2.1.1, 21, .inl fn))] H := hP
  have hD : va_D A [(h0, .inr (9, [.ref m_told, .ref m_read, .ref m_now, .ref m_readNow, .ref m_kept, .int 0, .int 1, .int 0, .ref m_tape, .int 0, .ref m_refused, .int 0, .int (-1), .int 0, .int 0, .int 0, .int 0, .int (-1), .ref m_ownLetters, .ref m_flats, .int 0, .ref m_corner, .ref m_wayX, .ref m_wayY, .ref m_normal, .ref m_low, .ref m_high, .ref m_clear, .ref m_ways, .ref m_canBe, .ref m_lain, .int 0, .ref m_fewestBy, .ref m_sortOf, .int 0, .ref m_seenFlange, .ref m_seenLength])), (m_read, .inl (g.2.1.1, 103, .inl f42)), (m_readNow, .inl (g.2.1.1, 21, .inl fn))] := hD
  refine lv_iinc (v := 42) (lv' := [(1, .int 42), (0, .ref h0)]) hx hb dX9_readsAll_15 hl (k := 0) rfl (by decide) (by decide) rfl (fun ls hl => ?_)
  refine lv_goto (tgt := 2) hx hb dX9_readsAll_18 (by decide) ?_
  refine lv_iload_n hx hb dX9_readsAll_2 rfl (lv_at hl 0 rfl) ?_
  refine lv_bipush (v := 103) hx hb dX9_readsAll_3 (by decide) ?_
  refine lv_icmp_ge (tgt := 21) hx hb dX9_readsAll_5 (by decide) (fun c5 => absurd c5 (by decide)) (fun c5 => ?_)
  refine lv_aload_n hx hb dX9_readsAll_8 rfl (lv_at hl 1 rfl) ?_
  refine va_get (D := g.1) (ci := 9) (v := .ref m_read) (C := RX9) (T := TX9) (N := 37) hx hb hG iX9 hown hX.1 hP 0 rfl rfl 1 (by decide) (hG _ g1418) (fun _ h9 => h9) rfl dX9_readsAll_9 ?_
  refine lv_iload_n hx hb dX9_readsAll_12 rfl (lv_at hl 0 rfl) ?_
  refine lv_iconst (v := 0) hx hb dX9_readsAll_13 (by decide) ?_
  refine va_iast hx hb hX.1 hP hD hS 1 0 rfl rfl (vp_in_iff.mpr (by decide)) dX9_readsAll_14 (fun H locs hP hD hS => ?_)
  obtain ⟨f43, ef43⟩ : ∃ z : Nat → Int32, z = upd f42 (42 : Int32).toNatClampNeg 0 := ⟨_, rfl⟩
  rw [← ef43] at hP hD
  have hP : va_P g.1 vwCl [(h0, .inr (9, [.ref m_told, .ref m_read, .ref m_now, .ref m_readNow, .ref m_kept, .int 0, .int 1, .int 0, .ref m_tape, .int 0, .ref m_refused, .int 0, .int (-1), .int 0, .int 0, .int 0, .int 0, .int (-1), .ref m_ownLetters, .ref m_flats, .int 0, .ref m_corner, .ref m_wayX, .ref m_wayY, .ref m_normal, .ref m_low, .ref m_high, .ref m_clear, .ref m_ways, .ref m_canBe, .ref m_lain, .int 0, .ref m_fewestBy, .ref m_sortOf, .int 0, .ref m_seenFlange, .ref m_seenLength])), (m_read, .inl (g.2.1.1, 103, .inl f43)), (m_readNow, .inl (g.2.1.1, 21, .inl fn))] H := hP
  have hD : va_D A [(h0, .inr (9, [.ref m_told, .ref m_read, .ref m_now, .ref m_readNow, .ref m_kept, .int 0, .int 1, .int 0, .ref m_tape, .int 0, .ref m_refused, .int 0, .int (-1), .int 0, .int 0, .int 0, .int 0, .int (-1), .ref m_ownLetters, .ref m_flats, .int 0, .ref m_corner, .ref m_wayX, .ref m_wayY, .ref m_normal, .ref m_low, .ref m_high, .ref m_clear, .ref m_ways, .ref m_canBe, .ref m_lain, .int 0, .ref m_fewestBy, .ref m_sortOf, .int 0, .ref m_seenFlange, .ref m_seenLength])), (m_read, .inl (g.2.1.1, 103, .inl f43)), (m_readNow, .inl (g.2.1.1, 21, .inl fn))] := hD
  refine lv_iinc (v := 43) (lv' := [(1, .int 43), (0, .ref h0)]) hx hb dX9_readsAll_15 hl (k := 0) rfl (by decide) (by decide) rfl (fun ls hl => ?_)
  refine lv_goto (tgt := 2) hx hb dX9_readsAll_18 (by decide) ?_
  refine lv_iload_n hx hb dX9_readsAll_2 rfl (lv_at hl 0 rfl) ?_
  refine lv_bipush (v := 103) hx hb dX9_readsAll_3 (by decide) ?_
  refine lv_icmp_ge (tgt := 21) hx hb dX9_readsAll_5 (by decide) (fun c5 => absurd c5 (by decide)) (fun c5 => ?_)
  refine lv_aload_n hx hb dX9_readsAll_8 rfl (lv_at hl 1 rfl) ?_
  refine va_get (D := g.1) (ci := 9) (v := .ref m_read) (C := RX9) (T := TX9) (N := 37) hx hb hG iX9 hown hX.1 hP 0 rfl rfl 1 (by decide) (hG _ g1418) (fun _ h9 => h9) rfl dX9_readsAll_9 ?_
  refine lv_iload_n hx hb dX9_readsAll_12 rfl (lv_at hl 0 rfl) ?_
  refine lv_iconst (v := 0) hx hb dX9_readsAll_13 (by decide) ?_
  refine va_iast hx hb hX.1 hP hD hS 1 0 rfl rfl (vp_in_iff.mpr (by decide)) dX9_readsAll_14 (fun H locs hP hD hS => ?_)
  obtain ⟨f44, ef44⟩ : ∃ z : Nat → Int32, z = upd f43 (43 : Int32).toNatClampNeg 0 := ⟨_, rfl⟩
  rw [← ef44] at hP hD
  have hP : va_P g.1 vwCl [(h0, .inr (9, [.ref m_told, .ref m_read, .ref m_now, .ref m_readNow, .ref m_kept, .int 0, .int 1, .int 0, .ref m_tape, .int 0, .ref m_refused, .int 0, .int (-1), .int 0, .int 0, .int 0, .int 0, .int (-1), .ref m_ownLetters, .ref m_flats, .int 0, .ref m_corner, .ref m_wayX, .ref m_wayY, .ref m_normal, .ref m_low, .ref m_high, .ref m_clear, .ref m_ways, .ref m_canBe, .ref m_lain, .int 0, .ref m_fewestBy, .ref m_sortOf, .int 0, .ref m_seenFlange, .ref m_seenLength])), (m_read, .inl (g.2.1.1, 103, .inl f44)), (m_readNow, .inl (g.2.1.1, 21, .inl fn))] H := hP
  have hD : va_D A [(h0, .inr (9, [.ref m_told, .ref m_read, .ref m_now, .ref m_readNow, .ref m_kept, .int 0, .int 1, .int 0, .ref m_tape, .int 0, .ref m_refused, .int 0, .int (-1), .int 0, .int 0, .int 0, .int 0, .int (-1), .ref m_ownLetters, .ref m_flats, .int 0, .ref m_corner, .ref m_wayX, .ref m_wayY, .ref m_normal, .ref m_low, .ref m_high, .ref m_clear, .ref m_ways, .ref m_canBe, .ref m_lain, .int 0, .ref m_fewestBy, .ref m_sortOf, .int 0, .ref m_seenFlange, .ref m_seenLength])), (m_read, .inl (g.2.1.1, 103, .inl f44)), (m_readNow, .inl (g.2.1.1, 21, .inl fn))] := hD
  refine lv_iinc (v := 44) (lv' := [(1, .int 44), (0, .ref h0)]) hx hb dX9_readsAll_15 hl (k := 0) rfl (by decide) (by decide) rfl (fun ls hl => ?_)
  refine lv_goto (tgt := 2) hx hb dX9_readsAll_18 (by decide) ?_
  refine lv_iload_n hx hb dX9_readsAll_2 rfl (lv_at hl 0 rfl) ?_
  refine lv_bipush (v := 103) hx hb dX9_readsAll_3 (by decide) ?_
  refine lv_icmp_ge (tgt := 21) hx hb dX9_readsAll_5 (by decide) (fun c5 => absurd c5 (by decide)) (fun c5 => ?_)
  refine lv_aload_n hx hb dX9_readsAll_8 rfl (lv_at hl 1 rfl) ?_
  refine va_get (D := g.1) (ci := 9) (v := .ref m_read) (C := RX9) (T := TX9) (N := 37) hx hb hG iX9 hown hX.1 hP 0 rfl rfl 1 (by decide) (hG _ g1418) (fun _ h9 => h9) rfl dX9_readsAll_9 ?_
  refine lv_iload_n hx hb dX9_readsAll_12 rfl (lv_at hl 0 rfl) ?_
  refine lv_iconst (v := 0) hx hb dX9_readsAll_13 (by decide) ?_
  refine va_iast hx hb hX.1 hP hD hS 1 0 rfl rfl (vp_in_iff.mpr (by decide)) dX9_readsAll_14 (fun H locs hP hD hS => ?_)
  obtain ⟨f45, ef45⟩ : ∃ z : Nat → Int32, z = upd f44 (44 : Int32).toNatClampNeg 0 := ⟨_, rfl⟩
  rw [← ef45] at hP hD
  have hP : va_P g.1 vwCl [(h0, .inr (9, [.ref m_told, .ref m_read, .ref m_now, .ref m_readNow, .ref m_kept, .int 0, .int 1, .int 0, .ref m_tape, .int 0, .ref m_refused, .int 0, .int (-1), .int 0, .int 0, .int 0, .int 0, .int (-1), .ref m_ownLetters, .ref m_flats, .int 0, .ref m_corner, .ref m_wayX, .ref m_wayY, .ref m_normal, .ref m_low, .ref m_high, .ref m_clear, .ref m_ways, .ref m_canBe, .ref m_lain, .int 0, .ref m_fewestBy, .ref m_sortOf, .int 0, .ref m_seenFlange, .ref m_seenLength])), (m_read, .inl (g.2.1.1, 103, .inl f45)), (m_readNow, .inl (g.2.1.1, 21, .inl fn))] H := hP
  have hD : va_D A [(h0, .inr (9, [.ref m_told, .ref m_read, .ref m_now, .ref m_readNow, .ref m_kept, .int 0, .int 1, .int 0, .ref m_tape, .int 0, .ref m_refused, .int 0, .int (-1), .int 0, .int 0, .int 0, .int 0, .int (-1), .ref m_ownLetters, .ref m_flats, .int 0, .ref m_corner, .ref m_wayX, .ref m_wayY, .ref m_normal, .ref m_low, .ref m_high, .ref m_clear, .ref m_ways, .ref m_canBe, .ref m_lain, .int 0, .ref m_fewestBy, .ref m_sortOf, .int 0, .ref m_seenFlange, .ref m_seenLength])), (m_read, .inl (g.2.1.1, 103, .inl f45)), (m_readNow, .inl (g.2.1.1, 21, .inl fn))] := hD
  refine lv_iinc (v := 45) (lv' := [(1, .int 45), (0, .ref h0)]) hx hb dX9_readsAll_15 hl (k := 0) rfl (by decide) (by decide) rfl (fun ls hl => ?_)
  refine lv_goto (tgt := 2) hx hb dX9_readsAll_18 (by decide) ?_
  refine lv_iload_n hx hb dX9_readsAll_2 rfl (lv_at hl 0 rfl) ?_
  refine lv_bipush (v := 103) hx hb dX9_readsAll_3 (by decide) ?_
  refine lv_icmp_ge (tgt := 21) hx hb dX9_readsAll_5 (by decide) (fun c5 => absurd c5 (by decide)) (fun c5 => ?_)
  refine lv_aload_n hx hb dX9_readsAll_8 rfl (lv_at hl 1 rfl) ?_
  refine va_get (D := g.1) (ci := 9) (v := .ref m_read) (C := RX9) (T := TX9) (N := 37) hx hb hG iX9 hown hX.1 hP 0 rfl rfl 1 (by decide) (hG _ g1418) (fun _ h9 => h9) rfl dX9_readsAll_9 ?_
  refine lv_iload_n hx hb dX9_readsAll_12 rfl (lv_at hl 0 rfl) ?_
  refine lv_iconst (v := 0) hx hb dX9_readsAll_13 (by decide) ?_
  refine va_iast hx hb hX.1 hP hD hS 1 0 rfl rfl (vp_in_iff.mpr (by decide)) dX9_readsAll_14 (fun H locs hP hD hS => ?_)
  obtain ⟨f46, ef46⟩ : ∃ z : Nat → Int32, z = upd f45 (45 : Int32).toNatClampNeg 0 := ⟨_, rfl⟩
  rw [← ef46] at hP hD
  have hP : va_P g.1 vwCl [(h0, .inr (9, [.ref m_told, .ref m_read, .ref m_now, .ref m_readNow, .ref m_kept, .int 0, .int 1, .int 0, .ref m_tape, .int 0, .ref m_refused, .int 0, .int (-1), .int 0, .int 0, .int 0, .int 0, .int (-1), .ref m_ownLetters, .ref m_flats, .int 0, .ref m_corner, .ref m_wayX, .ref m_wayY, .ref m_normal, .ref m_low, .ref m_high, .ref m_clear, .ref m_ways, .ref m_canBe, .ref m_lain, .int 0, .ref m_fewestBy, .ref m_sortOf, .int 0, .ref m_seenFlange, .ref m_seenLength])), (m_read, .inl (g.2.1.1, 103, .inl f46)), (m_readNow, .inl (g.2.1.1, 21, .inl fn))] H := hP
  have hD : va_D A [(h0, .inr (9, [.ref m_told, .ref m_read, .ref m_now, .ref m_readNow, .ref m_kept, .int 0, .int 1, .int 0, .ref m_tape, .int 0, .ref m_refused, .int 0, .int (-1), .int 0, .int 0, .int 0, .int 0, .int (-1), .ref m_ownLetters, .ref m_flats, .int 0, .ref m_corner, .ref m_wayX, .ref m_wayY, .ref m_normal, .ref m_low, .ref m_high, .ref m_clear, .ref m_ways, .ref m_canBe, .ref m_lain, .int 0, .ref m_fewestBy, .ref m_sortOf, .int 0, .ref m_seenFlange, .ref m_seenLength])), (m_read, .inl (g.2.1.1, 103, .inl f46)), (m_readNow, .inl (g.2.1.1, 21, .inl fn))] := hD
  refine lv_iinc (v := 46) (lv' := [(1, .int 46), (0, .ref h0)]) hx hb dX9_readsAll_15 hl (k := 0) rfl (by decide) (by decide) rfl (fun ls hl => ?_)
  refine lv_goto (tgt := 2) hx hb dX9_readsAll_18 (by decide) ?_
  refine lv_iload_n hx hb dX9_readsAll_2 rfl (lv_at hl 0 rfl) ?_
  refine lv_bipush (v := 103) hx hb dX9_readsAll_3 (by decide) ?_
  refine lv_icmp_ge (tgt := 21) hx hb dX9_readsAll_5 (by decide) (fun c5 => absurd c5 (by decide)) (fun c5 => ?_)
  refine lv_aload_n hx hb dX9_readsAll_8 rfl (lv_at hl 1 rfl) ?_
  refine va_get (D := g.1) (ci := 9) (v := .ref m_read) (C := RX9) (T := TX9) (N := 37) hx hb hG iX9 hown hX.1 hP 0 rfl rfl 1 (by decide) (hG _ g1418) (fun _ h9 => h9) rfl dX9_readsAll_9 ?_
  refine lv_iload_n hx hb dX9_readsAll_12 rfl (lv_at hl 0 rfl) ?_
  refine lv_iconst (v := 0) hx hb dX9_readsAll_13 (by decide) ?_
  refine va_iast hx hb hX.1 hP hD hS 1 0 rfl rfl (vp_in_iff.mpr (by decide)) dX9_readsAll_14 (fun H locs hP hD hS => ?_)
  obtain ⟨f47, ef47⟩ : ∃ z : Nat → Int32, z = upd f46 (46 : Int32).toNatClampNeg 0 := ⟨_, rfl⟩
  rw [← ef47] at hP hD
  have hP : va_P g.1 vwCl [(h0, .inr (9, [.ref m_told, .ref m_read, .ref m_now, .ref m_readNow, .ref m_kept, .int 0, .int 1, .int 0, .ref m_tape, .int 0, .ref m_refused, .int 0, .int (-1), .int 0, .int 0, .int 0, .int 0, .int (-1), .ref m_ownLetters, .ref m_flats, .int 0, .ref m_corner, .ref m_wayX, .ref m_wayY, .ref m_normal, .ref m_low, .ref m_high, .ref m_clear, .ref m_ways, .ref m_canBe, .ref m_lain, .int 0, .ref m_fewestBy, .ref m_sortOf, .int 0, .ref m_seenFlange, .ref m_seenLength])), (m_read, .inl (g.2.1.1, 103, .inl f47)), (m_readNow, .inl (g.2.1.1, 21, .inl fn))] H := hP
  have hD : va_D A [(h0, .inr (9, [.ref m_told, .ref m_read, .ref m_now, .ref m_readNow, .ref m_kept, .int 0, .int 1, .int 0, .ref m_tape, .int 0, .ref m_refused, .int 0, .int (-1), .int 0, .int 0, .int 0, .int 0, .int (-1), .ref m_ownLetters, .ref m_flats, .int 0, .ref m_corner, .ref m_wayX, .ref m_wayY, .ref m_normal, .ref m_low, .ref m_high, .ref m_clear, .ref m_ways, .ref m_canBe, .ref m_lain, .int 0, .ref m_fewestBy, .ref m_sortOf, .int 0, .ref m_seenFlange, .ref m_seenLength])), (m_read, .inl (g.2.1.1, 103, .inl f47)), (m_readNow, .inl (g.2.1.1, 21, .inl fn))] := hD
  refine lv_iinc (v := 47) (lv' := [(1, .int 47), (0, .ref h0)]) hx hb dX9_readsAll_15 hl (k := 0) rfl (by decide) (by decide) rfl (fun ls hl => ?_)
  refine lv_goto (tgt := 2) hx hb dX9_readsAll_18 (by decide) ?_
  refine lv_iload_n hx hb dX9_readsAll_2 rfl (lv_at hl 0 rfl) ?_
  refine lv_bipush (v := 103) hx hb dX9_readsAll_3 (by decide) ?_
  refine lv_icmp_ge (tgt := 21) hx hb dX9_readsAll_5 (by decide) (fun c5 => absurd c5 (by decide)) (fun c5 => ?_)
  refine lv_aload_n hx hb dX9_readsAll_8 rfl (lv_at hl 1 rfl) ?_
  refine va_get (D := g.1) (ci := 9) (v := .ref m_read) (C := RX9) (T := TX9) (N := 37) hx hb hG iX9 hown hX.1 hP 0 rfl rfl 1 (by decide) (hG _ g1418) (fun _ h9 => h9) rfl dX9_readsAll_9 ?_
  refine lv_iload_n hx hb dX9_readsAll_12 rfl (lv_at hl 0 rfl) ?_
  refine lv_iconst (v := 0) hx hb dX9_readsAll_13 (by decide) ?_
  refine va_iast hx hb hX.1 hP hD hS 1 0 rfl rfl (vp_in_iff.mpr (by decide)) dX9_readsAll_14 (fun H locs hP hD hS => ?_)
  obtain ⟨f48, ef48⟩ : ∃ z : Nat → Int32, z = upd f47 (47 : Int32).toNatClampNeg 0 := ⟨_, rfl⟩
  rw [← ef48] at hP hD
  have hP : va_P g.1 vwCl [(h0, .inr (9, [.ref m_told, .ref m_read, .ref m_now, .ref m_readNow, .ref m_kept, .int 0, .int 1, .int 0, .ref m_tape, .int 0, .ref m_refused, .int 0, .int (-1), .int 0, .int 0, .int 0, .int 0, .int (-1), .ref m_ownLetters, .ref m_flats, .int 0, .ref m_corner, .ref m_wayX, .ref m_wayY, .ref m_normal, .ref m_low, .ref m_high, .ref m_clear, .ref m_ways, .ref m_canBe, .ref m_lain, .int 0, .ref m_fewestBy, .ref m_sortOf, .int 0, .ref m_seenFlange, .ref m_seenLength])), (m_read, .inl (g.2.1.1, 103, .inl f48)), (m_readNow, .inl (g.2.1.1, 21, .inl fn))] H := hP
  have hD : va_D A [(h0, .inr (9, [.ref m_told, .ref m_read, .ref m_now, .ref m_readNow, .ref m_kept, .int 0, .int 1, .int 0, .ref m_tape, .int 0, .ref m_refused, .int 0, .int (-1), .int 0, .int 0, .int 0, .int 0, .int (-1), .ref m_ownLetters, .ref m_flats, .int 0, .ref m_corner, .ref m_wayX, .ref m_wayY, .ref m_normal, .ref m_low, .ref m_high, .ref m_clear, .ref m_ways, .ref m_canBe, .ref m_lain, .int 0, .ref m_fewestBy, .ref m_sortOf, .int 0, .ref m_seenFlange, .ref m_seenLength])), (m_read, .inl (g.2.1.1, 103, .inl f48)), (m_readNow, .inl (g.2.1.1, 21, .inl fn))] := hD
  refine lv_iinc (v := 48) (lv' := [(1, .int 48), (0, .ref h0)]) hx hb dX9_readsAll_15 hl (k := 0) rfl (by decide) (by decide) rfl (fun ls hl => ?_)
  refine lv_goto (tgt := 2) hx hb dX9_readsAll_18 (by decide) ?_
  refine lv_iload_n hx hb dX9_readsAll_2 rfl (lv_at hl 0 rfl) ?_
  refine lv_bipush (v := 103) hx hb dX9_readsAll_3 (by decide) ?_
  refine lv_icmp_ge (tgt := 21) hx hb dX9_readsAll_5 (by decide) (fun c5 => absurd c5 (by decide)) (fun c5 => ?_)
  refine lv_aload_n hx hb dX9_readsAll_8 rfl (lv_at hl 1 rfl) ?_
  refine va_get (D := g.1) (ci := 9) (v := .ref m_read) (C := RX9) (T := TX9) (N := 37) hx hb hG iX9 hown hX.1 hP 0 rfl rfl 1 (by decide) (hG _ g1418) (fun _ h9 => h9) rfl dX9_readsAll_9 ?_
  refine lv_iload_n hx hb dX9_readsAll_12 rfl (lv_at hl 0 rfl) ?_
  refine lv_iconst (v := 0) hx hb dX9_readsAll_13 (by decide) ?_
  refine va_iast hx hb hX.1 hP hD hS 1 0 rfl rfl (vp_in_iff.mpr (by decide)) dX9_readsAll_14 (fun H locs hP hD hS => ?_)
  obtain ⟨f49, ef49⟩ : ∃ z : Nat → Int32, z = upd f48 (48 : Int32).toNatClampNeg 0 := ⟨_, rfl⟩
  rw [← ef49] at hP hD
  have hP : va_P g.1 vwCl [(h0, .inr (9, [.ref m_told, .ref m_read, .ref m_now, .ref m_readNow, .ref m_kept, .int 0, .int 1, .int 0, .ref m_tape, .int 0, .ref m_refused, .int 0, .int (-1), .int 0, .int 0, .int 0, .int 0, .int (-1), .ref m_ownLetters, .ref m_flats, .int 0, .ref m_corner, .ref m_wayX, .ref m_wayY, .ref m_normal, .ref m_low, .ref m_high, .ref m_clear, .ref m_ways, .ref m_canBe, .ref m_lain, .int 0, .ref m_fewestBy, .ref m_sortOf, .int 0, .ref m_seenFlange, .ref m_seenLength])), (m_read, .inl (g.2.1.1, 103, .inl f49)), (m_readNow, .inl (g.2.1.1, 21, .inl fn))] H := hP
  have hD : va_D A [(h0, .inr (9, [.ref m_told, .ref m_read, .ref m_now, .ref m_readNow, .ref m_kept, .int 0, .int 1, .int 0, .ref m_tape, .int 0, .ref m_refused, .int 0, .int (-1), .int 0, .int 0, .int 0, .int 0, .int (-1), .ref m_ownLetters, .ref m_flats, .int 0, .ref m_corner, .ref m_wayX, .ref m_wayY, .ref m_normal, .ref m_low, .ref m_high, .ref m_clear, .ref m_ways, .ref m_canBe, .ref m_lain, .int 0, .ref m_fewestBy, .ref m_sortOf, .int 0, .ref m_seenFlange, .ref m_seenLength])), (m_read, .inl (g.2.1.1, 103, .inl f49)), (m_readNow, .inl (g.2.1.1, 21, .inl fn))] := hD
  refine lv_iinc (v := 49) (lv' := [(1, .int 49), (0, .ref h0)]) hx hb dX9_readsAll_15 hl (k := 0) rfl (by decide) (by decide) rfl (fun ls hl => ?_)
  refine lv_goto (tgt := 2) hx hb dX9_readsAll_18 (by decide) ?_
  refine lv_iload_n hx hb dX9_readsAll_2 rfl (lv_at hl 0 rfl) ?_
  refine lv_bipush (v := 103) hx hb dX9_readsAll_3 (by decide) ?_
  refine lv_icmp_ge (tgt := 21) hx hb dX9_readsAll_5 (by decide) (fun c5 => absurd c5 (by decide)) (fun c5 => ?_)
  refine lv_aload_n hx hb dX9_readsAll_8 rfl (lv_at hl 1 rfl) ?_
  refine va_get (D := g.1) (ci := 9) (v := .ref m_read) (C := RX9) (T := TX9) (N := 37) hx hb hG iX9 hown hX.1 hP 0 rfl rfl 1 (by decide) (hG _ g1418) (fun _ h9 => h9) rfl dX9_readsAll_9 ?_
  refine lv_iload_n hx hb dX9_readsAll_12 rfl (lv_at hl 0 rfl) ?_
  refine lv_iconst (v := 0) hx hb dX9_readsAll_13 (by decide) ?_
  refine va_iast hx hb hX.1 hP hD hS 1 0 rfl rfl (vp_in_iff.mpr (by decide)) dX9_readsAll_14 (fun H locs hP hD hS => ?_)
  obtain ⟨f50, ef50⟩ : ∃ z : Nat → Int32, z = upd f49 (49 : Int32).toNatClampNeg 0 := ⟨_, rfl⟩
  rw [← ef50] at hP hD
  have hP : va_P g.1 vwCl [(h0, .inr (9, [.ref m_told, .ref m_read, .ref m_now, .ref m_readNow, .ref m_kept, .int 0, .int 1, .int 0, .ref m_tape, .int 0, .ref m_refused, .int 0, .int (-1), .int 0, .int 0, .int 0, .int 0, .int (-1), .ref m_ownLetters, .ref m_flats, .int 0, .ref m_corner, .ref m_wayX, .ref m_wayY, .ref m_normal, .ref m_low, .ref m_high, .ref m_clear, .ref m_ways, .ref m_canBe, .ref m_lain, .int 0, .ref m_fewestBy, .ref m_sortOf, .int 0, .ref m_seenFlange, .ref m_seenLength])), (m_read, .inl (g.2.1.1, 103, .inl f50)), (m_readNow, .inl (g.2.1.1, 21, .inl fn))] H := hP
  have hD : va_D A [(h0, .inr (9, [.ref m_told, .ref m_read, .ref m_now, .ref m_readNow, .ref m_kept, .int 0, .int 1, .int 0, .ref m_tape, .int 0, .ref m_refused, .int 0, .int (-1), .int 0, .int 0, .int 0, .int 0, .int (-1), .ref m_ownLetters, .ref m_flats, .int 0, .ref m_corner, .ref m_wayX, .ref m_wayY, .ref m_normal, .ref m_low, .ref m_high, .ref m_clear, .ref m_ways, .ref m_canBe, .ref m_lain, .int 0, .ref m_fewestBy, .ref m_sortOf, .int 0, .ref m_seenFlange, .ref m_seenLength])), (m_read, .inl (g.2.1.1, 103, .inl f50)), (m_readNow, .inl (g.2.1.1, 21, .inl fn))] := hD
  refine lv_iinc (v := 50) (lv' := [(1, .int 50), (0, .ref h0)]) hx hb dX9_readsAll_15 hl (k := 0) rfl (by decide) (by decide) rfl (fun ls hl => ?_)
  refine lv_goto (tgt := 2) hx hb dX9_readsAll_18 (by decide) ?_
  refine lv_iload_n hx hb dX9_readsAll_2 rfl (lv_at hl 0 rfl) ?_
  refine lv_bipush (v := 103) hx hb dX9_readsAll_3 (by decide) ?_
  refine lv_icmp_ge (tgt := 21) hx hb dX9_readsAll_5 (by decide) (fun c5 => absurd c5 (by decide)) (fun c5 => ?_)
  refine lv_aload_n hx hb dX9_readsAll_8 rfl (lv_at hl 1 rfl) ?_
  refine va_get (D := g.1) (ci := 9) (v := .ref m_read) (C := RX9) (T := TX9) (N := 37) hx hb hG iX9 hown hX.1 hP 0 rfl rfl 1 (by decide) (hG _ g1418) (fun _ h9 => h9) rfl dX9_readsAll_9 ?_
  refine lv_iload_n hx hb dX9_readsAll_12 rfl (lv_at hl 0 rfl) ?_
  refine lv_iconst (v := 0) hx hb dX9_readsAll_13 (by decide) ?_
  refine va_iast hx hb hX.1 hP hD hS 1 0 rfl rfl (vp_in_iff.mpr (by decide)) dX9_readsAll_14 (fun H locs hP hD hS => ?_)
  obtain ⟨f51, ef51⟩ : ∃ z : Nat → Int32, z = upd f50 (50 : Int32).toNatClampNeg 0 := ⟨_, rfl⟩
  rw [← ef51] at hP hD
  have hP : va_P g.1 vwCl [(h0, .inr (9, [.ref m_told, .ref m_read, .ref m_now, .ref m_readNow, .ref m_kept, .int 0, .int 1, .int 0, .ref m_tape, .int 0, .ref m_refused, .int 0, .int (-1), .int 0, .int 0, .int 0, .int 0, .int (-1), .ref m_ownLetters, .ref m_flats, .int 0, .ref m_corner, .ref m_wayX, .ref m_wayY, .ref m_normal, .ref m_low, .ref m_high, .ref m_clear, .ref m_ways, .ref m_canBe, .ref m_lain, .int 0, .ref m_fewestBy, .ref m_sortOf, .int 0, .ref m_seenFlange, .ref m_seenLength])), (m_read, .inl (g.2.1.1, 103, .inl f51)), (m_readNow, .inl (g.2.1.1, 21, .inl fn))] H := hP
  have hD : va_D A [(h0, .inr (9, [.ref m_told, .ref m_read, .ref m_now, .ref m_readNow, .ref m_kept, .int 0, .int 1, .int 0, .ref m_tape, .int 0, .ref m_refused, .int 0, .int (-1), .int 0, .int 0, .int 0, .int 0, .int (-1), .ref m_ownLetters, .ref m_flats, .int 0, .ref m_corner, .ref m_wayX, .ref m_wayY, .ref m_normal, .ref m_low, .ref m_high, .ref m_clear, .ref m_ways, .ref m_canBe, .ref m_lain, .int 0, .ref m_fewestBy, .ref m_sortOf, .int 0, .ref m_seenFlange, .ref m_seenLength])), (m_read, .inl (g.2.1.1, 103, .inl f51)), (m_readNow, .inl (g.2.1.1, 21, .inl fn))] := hD
  refine lv_iinc (v := 51) (lv' := [(1, .int 51), (0, .ref h0)]) hx hb dX9_readsAll_15 hl (k := 0) rfl (by decide) (by decide) rfl (fun ls hl => ?_)
  refine lv_goto (tgt := 2) hx hb dX9_readsAll_18 (by decide) ?_
  refine lv_iload_n hx hb dX9_readsAll_2 rfl (lv_at hl 0 rfl) ?_
  refine lv_bipush (v := 103) hx hb dX9_readsAll_3 (by decide) ?_
  refine lv_icmp_ge (tgt := 21) hx hb dX9_readsAll_5 (by decide) (fun c5 => absurd c5 (by decide)) (fun c5 => ?_)
  refine lv_aload_n hx hb dX9_readsAll_8 rfl (lv_at hl 1 rfl) ?_
  refine va_get (D := g.1) (ci := 9) (v := .ref m_read) (C := RX9) (T := TX9) (N := 37) hx hb hG iX9 hown hX.1 hP 0 rfl rfl 1 (by decide) (hG _ g1418) (fun _ h9 => h9) rfl dX9_readsAll_9 ?_
  refine lv_iload_n hx hb dX9_readsAll_12 rfl (lv_at hl 0 rfl) ?_
  refine lv_iconst (v := 0) hx hb dX9_readsAll_13 (by decide) ?_
  refine va_iast hx hb hX.1 hP hD hS 1 0 rfl rfl (vp_in_iff.mpr (by decide)) dX9_readsAll_14 (fun H locs hP hD hS => ?_)
  obtain ⟨f52, ef52⟩ : ∃ z : Nat → Int32, z = upd f51 (51 : Int32).toNatClampNeg 0 := ⟨_, rfl⟩
  rw [← ef52] at hP hD
  have hP : va_P g.1 vwCl [(h0, .inr (9, [.ref m_told, .ref m_read, .ref m_now, .ref m_readNow, .ref m_kept, .int 0, .int 1, .int 0, .ref m_tape, .int 0, .ref m_refused, .int 0, .int (-1), .int 0, .int 0, .int 0, .int 0, .int (-1), .ref m_ownLetters, .ref m_flats, .int 0, .ref m_corner, .ref m_wayX, .ref m_wayY, .ref m_normal, .ref m_low, .ref m_high, .ref m_clear, .ref m_ways, .ref m_canBe, .ref m_lain, .int 0, .ref m_fewestBy, .ref m_sortOf, .int 0, .ref m_seenFlange, .ref m_seenLength])), (m_read, .inl (g.2.1.1, 103, .inl f52)), (m_readNow, .inl (g.2.1.1, 21, .inl fn))] H := hP
  have hD : va_D A [(h0, .inr (9, [.ref m_told, .ref m_read, .ref m_now, .ref m_readNow, .ref m_kept, .int 0, .int 1, .int 0, .ref m_tape, .int 0, .ref m_refused, .int 0, .int (-1), .int 0, .int 0, .int 0, .int 0, .int (-1), .ref m_ownLetters, .ref m_flats, .int 0, .ref m_corner, .ref m_wayX, .ref m_wayY, .ref m_normal, .ref m_low, .ref m_high, .ref m_clear, .ref m_ways, .ref m_canBe, .ref m_lain, .int 0, .ref m_fewestBy, .ref m_sortOf, .int 0, .ref m_seenFlange, .ref m_seenLength])), (m_read, .inl (g.2.1.1, 103, .inl f52)), (m_readNow, .inl (g.2.1.1, 21, .inl fn))] := hD
  refine lv_iinc (v := 52) (lv' := [(1, .int 52), (0, .ref h0)]) hx hb dX9_readsAll_15 hl (k := 0) rfl (by decide) (by decide) rfl (fun ls hl => ?_)
  refine lv_goto (tgt := 2) hx hb dX9_readsAll_18 (by decide) ?_
  refine lv_iload_n hx hb dX9_readsAll_2 rfl (lv_at hl 0 rfl) ?_
  refine lv_bipush (v := 103) hx hb dX9_readsAll_3 (by decide) ?_
  refine lv_icmp_ge (tgt := 21) hx hb dX9_readsAll_5 (by decide) (fun c5 => absurd c5 (by decide)) (fun c5 => ?_)
  refine lv_aload_n hx hb dX9_readsAll_8 rfl (lv_at hl 1 rfl) ?_
  refine va_get (D := g.1) (ci := 9) (v := .ref m_read) (C := RX9) (T := TX9) (N := 37) hx hb hG iX9 hown hX.1 hP 0 rfl rfl 1 (by decide) (hG _ g1418) (fun _ h9 => h9) rfl dX9_readsAll_9 ?_
  refine lv_iload_n hx hb dX9_readsAll_12 rfl (lv_at hl 0 rfl) ?_
  refine lv_iconst (v := 0) hx hb dX9_readsAll_13 (by decide) ?_
  refine va_iast hx hb hX.1 hP hD hS 1 0 rfl rfl (vp_in_iff.mpr (by decide)) dX9_readsAll_14 (fun H locs hP hD hS => ?_)
  obtain ⟨f53, ef53⟩ : ∃ z : Nat → Int32, z = upd f52 (52 : Int32).toNatClampNeg 0 := ⟨_, rfl⟩
  rw [← ef53] at hP hD
  have hP : va_P g.1 vwCl [(h0, .inr (9, [.ref m_told, .ref m_read, .ref m_now, .ref m_readNow, .ref m_kept, .int 0, .int 1, .int 0, .ref m_tape, .int 0, .ref m_refused, .int 0, .int (-1), .int 0, .int 0, .int 0, .int 0, .int (-1), .ref m_ownLetters, .ref m_flats, .int 0, .ref m_corner, .ref m_wayX, .ref m_wayY, .ref m_normal, .ref m_low, .ref m_high, .ref m_clear, .ref m_ways, .ref m_canBe, .ref m_lain, .int 0, .ref m_fewestBy, .ref m_sortOf, .int 0, .ref m_seenFlange, .ref m_seenLength])), (m_read, .inl (g.2.1.1, 103, .inl f53)), (m_readNow, .inl (g.2.1.1, 21, .inl fn))] H := hP
  have hD : va_D A [(h0, .inr (9, [.ref m_told, .ref m_read, .ref m_now, .ref m_readNow, .ref m_kept, .int 0, .int 1, .int 0, .ref m_tape, .int 0, .ref m_refused, .int 0, .int (-1), .int 0, .int 0, .int 0, .int 0, .int (-1), .ref m_ownLetters, .ref m_flats, .int 0, .ref m_corner, .ref m_wayX, .ref m_wayY, .ref m_normal, .ref m_low, .ref m_high, .ref m_clear, .ref m_ways, .ref m_canBe, .ref m_lain, .int 0, .ref m_fewestBy, .ref m_sortOf, .int 0, .ref m_seenFlange, .ref m_seenLength])), (m_read, .inl (g.2.1.1, 103, .inl f53)), (m_readNow, .inl (g.2.1.1, 21, .inl fn))] := hD
  refine lv_iinc (v := 53) (lv' := [(1, .int 53), (0, .ref h0)]) hx hb dX9_readsAll_15 hl (k := 0) rfl (by decide) (by decide) rfl (fun ls hl => ?_)
  refine lv_goto (tgt := 2) hx hb dX9_readsAll_18 (by decide) ?_
  refine lv_iload_n hx hb dX9_readsAll_2 rfl (lv_at hl 0 rfl) ?_
  refine lv_bipush (v := 103) hx hb dX9_readsAll_3 (by decide) ?_
  refine lv_icmp_ge (tgt := 21) hx hb dX9_readsAll_5 (by decide) (fun c5 => absurd c5 (by decide)) (fun c5 => ?_)
  refine lv_aload_n hx hb dX9_readsAll_8 rfl (lv_at hl 1 rfl) ?_
  refine va_get (D := g.1) (ci := 9) (v := .ref m_read) (C := RX9) (T := TX9) (N := 37) hx hb hG iX9 hown hX.1 hP 0 rfl rfl 1 (by decide) (hG _ g1418) (fun _ h9 => h9) rfl dX9_readsAll_9 ?_
  refine lv_iload_n hx hb dX9_readsAll_12 rfl (lv_at hl 0 rfl) ?_
  refine lv_iconst (v := 0) hx hb dX9_readsAll_13 (by decide) ?_
  refine va_iast hx hb hX.1 hP hD hS 1 0 rfl rfl (vp_in_iff.mpr (by decide)) dX9_readsAll_14 (fun H locs hP hD hS => ?_)
  obtain ⟨f54, ef54⟩ : ∃ z : Nat → Int32, z = upd f53 (53 : Int32).toNatClampNeg 0 := ⟨_, rfl⟩
  rw [← ef54] at hP hD
  have hP : va_P g.1 vwCl [(h0, .inr (9, [.ref m_told, .ref m_read, .ref m_now, .ref m_readNow, .ref m_kept, .int 0, .int 1, .int 0, .ref m_tape, .int 0, .ref m_refused, .int 0, .int (-1), .int 0, .int 0, .int 0, .int 0, .int (-1), .ref m_ownLetters, .ref m_flats, .int 0, .ref m_corner, .ref m_wayX, .ref m_wayY, .ref m_normal, .ref m_low, .ref m_high, .ref m_clear, .ref m_ways, .ref m_canBe, .ref m_lain, .int 0, .ref m_fewestBy, .ref m_sortOf, .int 0, .ref m_seenFlange, .ref m_seenLength])), (m_read, .inl (g.2.1.1, 103, .inl f54)), (m_readNow, .inl (g.2.1.1, 21, .inl fn))] H := hP
  have hD : va_D A [(h0, .inr (9, [.ref m_told, .ref m_read, .ref m_now, .ref m_readNow, .ref m_kept, .int 0, .int 1, .int 0, .ref m_tape, .int 0, .ref m_refused, .int 0, .int (-1), .int 0, .int 0, .int 0, .int 0, .int (-1), .ref m_ownLetters, .ref m_flats, .int 0, .ref m_corner, .ref m_wayX, .ref m_wayY, .ref m_normal, .ref m_low, .ref m_high, .ref m_clear, .ref m_ways, .ref m_canBe, .ref m_lain, .int 0, .ref m_fewestBy, .ref m_sortOf, .int 0, .ref m_seenFlange, .ref m_seenLength])), (m_read, .inl (g.2.1.1, 103, .inl f54)), (m_readNow, .inl (g.2.1.1, 21, .inl fn))] := hD
  refine lv_iinc (v := 54) (lv' := [(1, .int 54), (0, .ref h0)]) hx hb dX9_readsAll_15 hl (k := 0) rfl (by decide) (by decide) rfl (fun ls hl => ?_)
  refine lv_goto (tgt := 2) hx hb dX9_readsAll_18 (by decide) ?_
  refine lv_iload_n hx hb dX9_readsAll_2 rfl (lv_at hl 0 rfl) ?_
  refine lv_bipush (v := 103) hx hb dX9_readsAll_3 (by decide) ?_
  refine lv_icmp_ge (tgt := 21) hx hb dX9_readsAll_5 (by decide) (fun c5 => absurd c5 (by decide)) (fun c5 => ?_)
  refine lv_aload_n hx hb dX9_readsAll_8 rfl (lv_at hl 1 rfl) ?_
  refine va_get (D := g.1) (ci := 9) (v := .ref m_read) (C := RX9) (T := TX9) (N := 37) hx hb hG iX9 hown hX.1 hP 0 rfl rfl 1 (by decide) (hG _ g1418) (fun _ h9 => h9) rfl dX9_readsAll_9 ?_
  refine lv_iload_n hx hb dX9_readsAll_12 rfl (lv_at hl 0 rfl) ?_
  refine lv_iconst (v := 0) hx hb dX9_readsAll_13 (by decide) ?_
  refine va_iast hx hb hX.1 hP hD hS 1 0 rfl rfl (vp_in_iff.mpr (by decide)) dX9_readsAll_14 (fun H locs hP hD hS => ?_)
  obtain ⟨f55, ef55⟩ : ∃ z : Nat → Int32, z = upd f54 (54 : Int32).toNatClampNeg 0 := ⟨_, rfl⟩
  rw [← ef55] at hP hD
  have hP : va_P g.1 vwCl [(h0, .inr (9, [.ref m_told, .ref m_read, .ref m_now, .ref m_readNow, .ref m_kept, .int 0, .int 1, .int 0, .ref m_tape, .int 0, .ref m_refused, .int 0, .int (-1), .int 0, .int 0, .int 0, .int 0, .int (-1), .ref m_ownLetters, .ref m_flats, .int 0, .ref m_corner, .ref m_wayX, .ref m_wayY, .ref m_normal, .ref m_low, .ref m_high, .ref m_clear, .ref m_ways, .ref m_canBe, .ref m_lain, .int 0, .ref m_fewestBy, .ref m_sortOf, .int 0, .ref m_seenFlange, .ref m_seenLength])), (m_read, .inl (g.2.1.1, 103, .inl f55)), (m_readNow, .inl (g.2.1.1, 21, .inl fn))] H := hP
  have hD : va_D A [(h0, .inr (9, [.ref m_told, .ref m_read, .ref m_now, .ref m_readNow, .ref m_kept, .int 0, .int 1, .int 0, .ref m_tape, .int 0, .ref m_refused, .int 0, .int (-1), .int 0, .int 0, .int 0, .int 0, .int (-1), .ref m_ownLetters, .ref m_flats, .int 0, .ref m_corner, .ref m_wayX, .ref m_wayY, .ref m_normal, .ref m_low, .ref m_high, .ref m_clear, .ref m_ways, .ref m_canBe, .ref m_lain, .int 0, .ref m_fewestBy, .ref m_sortOf, .int 0, .ref m_seenFlange, .ref m_seenLength])), (m_read, .inl (g.2.1.1, 103, .inl f55)), (m_readNow, .inl (g.2.1.1, 21, .inl fn))] := hD
  refine lv_iinc (v := 55) (lv' := [(1, .int 55), (0, .ref h0)]) hx hb dX9_readsAll_15 hl (k := 0) rfl (by decide) (by decide) rfl (fun ls hl => ?_)
  refine lv_goto (tgt := 2) hx hb dX9_readsAll_18 (by decide) ?_
  refine lv_iload_n hx hb dX9_readsAll_2 rfl (lv_at hl 0 rfl) ?_
  refine lv_bipush (v := 103) hx hb dX9_readsAll_3 (by decide) ?_
  refine lv_icmp_ge (tgt := 21) hx hb dX9_readsAll_5 (by decide) (fun c5 => absurd c5 (by decide)) (fun c5 => ?_)
  refine lv_aload_n hx hb dX9_readsAll_8 rfl (lv_at hl 1 rfl) ?_
  refine va_get (D := g.1) (ci := 9) (v := .ref m_read) (C := RX9) (T := TX9) (N := 37) hx hb hG iX9 hown hX.1 hP 0 rfl rfl 1 (by decide) (hG _ g1418) (fun _ h9 => h9) rfl dX9_readsAll_9 ?_
  refine lv_iload_n hx hb dX9_readsAll_12 rfl (lv_at hl 0 rfl) ?_
  refine lv_iconst (v := 0) hx hb dX9_readsAll_13 (by decide) ?_
  refine va_iast hx hb hX.1 hP hD hS 1 0 rfl rfl (vp_in_iff.mpr (by decide)) dX9_readsAll_14 (fun H locs hP hD hS => ?_)
  obtain ⟨f56, ef56⟩ : ∃ z : Nat → Int32, z = upd f55 (55 : Int32).toNatClampNeg 0 := ⟨_, rfl⟩
  rw [← ef56] at hP hD
  have hP : va_P g.1 vwCl [(h0, .inr (9, [.ref m_told, .ref m_read, .ref m_now, .ref m_readNow, .ref m_kept, .int 0, .int 1, .int 0, .ref m_tape, .int 0, .ref m_refused, .int 0, .int (-1), .int 0, .int 0, .int 0, .int 0, .int (-1), .ref m_ownLetters, .ref m_flats, .int 0, .ref m_corner, .ref m_wayX, .ref m_wayY, .ref m_normal, .ref m_low, .ref m_high, .ref m_clear, .ref m_ways, .ref m_canBe, .ref m_lain, .int 0, .ref m_fewestBy, .ref m_sortOf, .int 0, .ref m_seenFlange, .ref m_seenLength])), (m_read, .inl (g.2.1.1, 103, .inl f56)), (m_readNow, .inl (g.2.1.1, 21, .inl fn))] H := hP
  have hD : va_D A [(h0, .inr (9, [.ref m_told, .ref m_read, .ref m_now, .ref m_readNow, .ref m_kept, .int 0, .int 1, .int 0, .ref m_tape, .int 0, .ref m_refused, .int 0, .int (-1), .int 0, .int 0, .int 0, .int 0, .int (-1), .ref m_ownLetters, .ref m_flats, .int 0, .ref m_corner, .ref m_wayX, .ref m_wayY, .ref m_normal, .ref m_low, .ref m_high, .ref m_clear, .ref m_ways, .ref m_canBe, .ref m_lain, .int 0, .ref m_fewestBy, .ref m_sortOf, .int 0, .ref m_seenFlange, .ref m_seenLength])), (m_read, .inl (g.2.1.1, 103, .inl f56)), (m_readNow, .inl (g.2.1.1, 21, .inl fn))] := hD
  refine lv_iinc (v := 56) (lv' := [(1, .int 56), (0, .ref h0)]) hx hb dX9_readsAll_15 hl (k := 0) rfl (by decide) (by decide) rfl (fun ls hl => ?_)
  refine lv_goto (tgt := 2) hx hb dX9_readsAll_18 (by decide) ?_
  refine lv_iload_n hx hb dX9_readsAll_2 rfl (lv_at hl 0 rfl) ?_
  refine lv_bipush (v := 103) hx hb dX9_readsAll_3 (by decide) ?_
  refine lv_icmp_ge (tgt := 21) hx hb dX9_readsAll_5 (by decide) (fun c5 => absurd c5 (by decide)) (fun c5 => ?_)
  refine lv_aload_n hx hb dX9_readsAll_8 rfl (lv_at hl 1 rfl) ?_
  refine va_get (D := g.1) (ci := 9) (v := .ref m_read) (C := RX9) (T := TX9) (N := 37) hx hb hG iX9 hown hX.1 hP 0 rfl rfl 1 (by decide) (hG _ g1418) (fun _ h9 => h9) rfl dX9_readsAll_9 ?_
  refine lv_iload_n hx hb dX9_readsAll_12 rfl (lv_at hl 0 rfl) ?_
  refine lv_iconst (v := 0) hx hb dX9_readsAll_13 (by decide) ?_
  refine va_iast hx hb hX.1 hP hD hS 1 0 rfl rfl (vp_in_iff.mpr (by decide)) dX9_readsAll_14 (fun H locs hP hD hS => ?_)
  obtain ⟨f57, ef57⟩ : ∃ z : Nat → Int32, z = upd f56 (56 : Int32).toNatClampNeg 0 := ⟨_, rfl⟩
  rw [← ef57] at hP hD
  have hP : va_P g.1 vwCl [(h0, .inr (9, [.ref m_told, .ref m_read, .ref m_now, .ref m_readNow, .ref m_kept, .int 0, .int 1, .int 0, .ref m_tape, .int 0, .ref m_refused, .int 0, .int (-1), .int 0, .int 0, .int 0, .int 0, .int (-1), .ref m_ownLetters, .ref m_flats, .int 0, .ref m_corner, .ref m_wayX, .ref m_wayY, .ref m_normal, .ref m_low, .ref m_high, .ref m_clear, .ref m_ways, .ref m_canBe, .ref m_lain, .int 0, .ref m_fewestBy, .ref m_sortOf, .int 0, .ref m_seenFlange, .ref m_seenLength])), (m_read, .inl (g.2.1.1, 103, .inl f57)), (m_readNow, .inl (g.2.1.1, 21, .inl fn))] H := hP
  have hD : va_D A [(h0, .inr (9, [.ref m_told, .ref m_read, .ref m_now, .ref m_readNow, .ref m_kept, .int 0, .int 1, .int 0, .ref m_tape, .int 0, .ref m_refused, .int 0, .int (-1), .int 0, .int 0, .int 0, .int 0, .int (-1), .ref m_ownLetters, .ref m_flats, .int 0, .ref m_corner, .ref m_wayX, .ref m_wayY, .ref m_normal, .ref m_low, .ref m_high, .ref m_clear, .ref m_ways, .ref m_canBe, .ref m_lain, .int 0, .ref m_fewestBy, .ref m_sortOf, .int 0, .ref m_seenFlange, .ref m_seenLength])), (m_read, .inl (g.2.1.1, 103, .inl f57)), (m_readNow, .inl (g.2.1.1, 21, .inl fn))] := hD
  refine lv_iinc (v := 57) (lv' := [(1, .int 57), (0, .ref h0)]) hx hb dX9_readsAll_15 hl (k := 0) rfl (by decide) (by decide) rfl (fun ls hl => ?_)
  refine lv_goto (tgt := 2) hx hb dX9_readsAll_18 (by decide) ?_
  refine lv_iload_n hx hb dX9_readsAll_2 rfl (lv_at hl 0 rfl) ?_
  refine lv_bipush (v := 103) hx hb dX9_readsAll_3 (by decide) ?_
  refine lv_icmp_ge (tgt := 21) hx hb dX9_readsAll_5 (by decide) (fun c5 => absurd c5 (by decide)) (fun c5 => ?_)
  refine lv_aload_n hx hb dX9_readsAll_8 rfl (lv_at hl 1 rfl) ?_
  refine va_get (D := g.1) (ci := 9) (v := .ref m_read) (C := RX9) (T := TX9) (N := 37) hx hb hG iX9 hown hX.1 hP 0 rfl rfl 1 (by decide) (hG _ g1418) (fun _ h9 => h9) rfl dX9_readsAll_9 ?_
  refine lv_iload_n hx hb dX9_readsAll_12 rfl (lv_at hl 0 rfl) ?_
  refine lv_iconst (v := 0) hx hb dX9_readsAll_13 (by decide) ?_
  refine va_iast hx hb hX.1 hP hD hS 1 0 rfl rfl (vp_in_iff.mpr (by decide)) dX9_readsAll_14 (fun H locs hP hD hS => ?_)
  obtain ⟨f58, ef58⟩ : ∃ z : Nat → Int32, z = upd f57 (57 : Int32).toNatClampNeg 0 := ⟨_, rfl⟩
  rw [← ef58] at hP hD
  have hP : va_P g.1 vwCl [(h0, .inr (9, [.ref m_told, .ref m_read, .ref m_now, .ref m_readNow, .ref m_kept, .int 0, .int 1, .int 0, .ref m_tape, .int 0, .ref m_refused, .int 0, .int (-1), .int 0, .int 0, .int 0, .int 0, .int (-1), .ref m_ownLetters, .ref m_flats, .int 0, .ref m_corner, .ref m_wayX, .ref m_wayY, .ref m_normal, .ref m_low, .ref m_high, .ref m_clear, .ref m_ways, .ref m_canBe, .ref m_lain, .int 0, .ref m_fewestBy, .ref m_sortOf, .int 0, .ref m_seenFlange, .ref m_seenLength])), (m_read, .inl (g.2.1.1, 103, .inl f58)), (m_readNow, .inl (g.2.1.1, 21, .inl fn))] H := hP
  have hD : va_D A [(h0, .inr (9, [.ref m_told, .ref m_read, .ref m_now, .ref m_readNow, .ref m_kept, .int 0, .int 1, .int 0, .ref m_tape, .int 0, .ref m_refused, .int 0, .int (-1), .int 0, .int 0, .int 0, .int 0, .int (-1), .ref m_ownLetters, .ref m_flats, .int 0, .ref m_corner, .ref m_wayX, .ref m_wayY, .ref m_normal, .ref m_low, .ref m_high, .ref m_clear, .ref m_ways, .ref m_canBe, .ref m_lain, .int 0, .ref m_fewestBy, .ref m_sortOf, .int 0, .ref m_seenFlange, .ref m_seenLength])), (m_read, .inl (g.2.1.1, 103, .inl f58)), (m_readNow, .inl (g.2.1.1, 21, .inl fn))] := hD
  refine lv_iinc (v := 58) (lv' := [(1, .int 58), (0, .ref h0)]) hx hb dX9_readsAll_15 hl (k := 0) rfl (by decide) (by decide) rfl (fun ls hl => ?_)
  refine lv_goto (tgt := 2) hx hb dX9_readsAll_18 (by decide) ?_
  refine lv_iload_n hx hb dX9_readsAll_2 rfl (lv_at hl 0 rfl) ?_
  refine lv_bipush (v := 103) hx hb dX9_readsAll_3 (by decide) ?_
  refine lv_icmp_ge (tgt := 21) hx hb dX9_readsAll_5 (by decide) (fun c5 => absurd c5 (by decide)) (fun c5 => ?_)
  refine lv_aload_n hx hb dX9_readsAll_8 rfl (lv_at hl 1 rfl) ?_
  refine va_get (D := g.1) (ci := 9) (v := .ref m_read) (C := RX9) (T := TX9) (N := 37) hx hb hG iX9 hown hX.1 hP 0 rfl rfl 1 (by decide) (hG _ g1418) (fun _ h9 => h9) rfl dX9_readsAll_9 ?_
  refine lv_iload_n hx hb dX9_readsAll_12 rfl (lv_at hl 0 rfl) ?_
  refine lv_iconst (v := 0) hx hb dX9_readsAll_13 (by decide) ?_
  refine va_iast hx hb hX.1 hP hD hS 1 0 rfl rfl (vp_in_iff.mpr (by decide)) dX9_readsAll_14 (fun H locs hP hD hS => ?_)
  obtain ⟨f59, ef59⟩ : ∃ z : Nat → Int32, z = upd f58 (58 : Int32).toNatClampNeg 0 := ⟨_, rfl⟩
  rw [← ef59] at hP hD
  have hP : va_P g.1 vwCl [(h0, .inr (9, [.ref m_told, .ref m_read, .ref m_now, .ref m_readNow, .ref m_kept, .int 0, .int 1, .int 0, .ref m_tape, .int 0, .ref m_refused, .int 0, .int (-1), .int 0, .int 0, .int 0, .int 0, .int (-1), .ref m_ownLetters, .ref m_flats, .int 0, .ref m_corner, .ref m_wayX, .ref m_wayY, .ref m_normal, .ref m_low, .ref m_high, .ref m_clear, .ref m_ways, .ref m_canBe, .ref m_lain, .int 0, .ref m_fewestBy, .ref m_sortOf, .int 0, .ref m_seenFlange, .ref m_seenLength])), (m_read, .inl (g.2.1.1, 103, .inl f59)), (m_readNow, .inl (g.2.1.1, 21, .inl fn))] H := hP
  have hD : va_D A [(h0, .inr (9, [.ref m_told, .ref m_read, .ref m_now, .ref m_readNow, .ref m_kept, .int 0, .int 1, .int 0, .ref m_tape, .int 0, .ref m_refused, .int 0, .int (-1), .int 0, .int 0, .int 0, .int 0, .int (-1), .ref m_ownLetters, .ref m_flats, .int 0, .ref m_corner, .ref m_wayX, .ref m_wayY, .ref m_normal, .ref m_low, .ref m_high, .ref m_clear, .ref m_ways, .ref m_canBe, .ref m_lain, .int 0, .ref m_fewestBy, .ref m_sortOf, .int 0, .ref m_seenFlange, .ref m_seenLength])), (m_read, .inl (g.2.1.1, 103, .inl f59)), (m_readNow, .inl (g.2.1.1, 21, .inl fn))] := hD
  refine lv_iinc (v := 59) (lv' := [(1, .int 59), (0, .ref h0)]) hx hb dX9_readsAll_15 hl (k := 0) rfl (by decide) (by decide) rfl (fun ls hl => ?_)
  refine lv_goto (tgt := 2) hx hb dX9_readsAll_18 (by decide) ?_
  refine lv_iload_n hx hb dX9_readsAll_2 rfl (lv_at hl 0 rfl) ?_
  refine lv_bipush (v := 103) hx hb dX9_readsAll_3 (by decide) ?_
  refine lv_icmp_ge (tgt := 21) hx hb dX9_readsAll_5 (by decide) (fun c5 => absurd c5 (by decide)) (fun c5 => ?_)
  refine lv_aload_n hx hb dX9_readsAll_8 rfl (lv_at hl 1 rfl) ?_
  refine va_get (D := g.1) (ci := 9) (v := .ref m_read) (C := RX9) (T := TX9) (N := 37) hx hb hG iX9 hown hX.1 hP 0 rfl rfl 1 (by decide) (hG _ g1418) (fun _ h9 => h9) rfl dX9_readsAll_9 ?_
  refine lv_iload_n hx hb dX9_readsAll_12 rfl (lv_at hl 0 rfl) ?_
  refine lv_iconst (v := 0) hx hb dX9_readsAll_13 (by decide) ?_
  refine va_iast hx hb hX.1 hP hD hS 1 0 rfl rfl (vp_in_iff.mpr (by decide)) dX9_readsAll_14 (fun H locs hP hD hS => ?_)
  obtain ⟨f60, ef60⟩ : ∃ z : Nat → Int32, z = upd f59 (59 : Int32).toNatClampNeg 0 := ⟨_, rfl⟩
  rw [← ef60] at hP hD
  have hP : va_P g.1 vwCl [(h0, .inr (9, [.ref m_told, .ref m_read, .ref m_now, .ref m_readNow, .ref m_kept, .int 0, .int 1, .int 0, .ref m_tape, .int 0, .ref m_refused, .int 0, .int (-1), .int 0, .int 0, .int 0, .int 0, .int (-1), .ref m_ownLetters, .ref m_flats, .int 0, .ref m_corner, .ref m_wayX, .ref m_wayY, .ref m_normal, .ref m_low, .ref m_high, .ref m_clear, .ref m_ways, .ref m_canBe, .ref m_lain, .int 0, .ref m_fewestBy, .ref m_sortOf, .int 0, .ref m_seenFlange, .ref m_seenLength])), (m_read, .inl (g.2.1.1, 103, .inl f60)), (m_readNow, .inl (g.2.1.1, 21, .inl fn))] H := hP
  have hD : va_D A [(h0, .inr (9, [.ref m_told, .ref m_read, .ref m_now, .ref m_readNow, .ref m_kept, .int 0, .int 1, .int 0, .ref m_tape, .int 0, .ref m_refused, .int 0, .int (-1), .int 0, .int 0, .int 0, .int 0, .int (-1), .ref m_ownLetters, .ref m_flats, .int 0, .ref m_corner, .ref m_wayX, .ref m_wayY, .ref m_normal, .ref m_low, .ref m_high, .ref m_clear, .ref m_ways, .ref m_canBe, .ref m_lain, .int 0, .ref m_fewestBy, .ref m_sortOf, .int 0, .ref m_seenFlange, .ref m_seenLength])), (m_read, .inl (g.2.1.1, 103, .inl f60)), (m_readNow, .inl (g.2.1.1, 21, .inl fn))] := hD
  refine lv_iinc (v := 60) (lv' := [(1, .int 60), (0, .ref h0)]) hx hb dX9_readsAll_15 hl (k := 0) rfl (by decide) (by decide) rfl (fun ls hl => ?_)
  refine lv_goto (tgt := 2) hx hb dX9_readsAll_18 (by decide) ?_
  refine lv_iload_n hx hb dX9_readsAll_2 rfl (lv_at hl 0 rfl) ?_
  refine lv_bipush (v := 103) hx hb dX9_readsAll_3 (by decide) ?_
  refine lv_icmp_ge (tgt := 21) hx hb dX9_readsAll_5 (by decide) (fun c5 => absurd c5 (by decide)) (fun c5 => ?_)
  refine lv_aload_n hx hb dX9_readsAll_8 rfl (lv_at hl 1 rfl) ?_
  refine va_get (D := g.1) (ci := 9) (v := .ref m_read) (C := RX9) (T := TX9) (N := 37) hx hb hG iX9 hown hX.1 hP 0 rfl rfl 1 (by decide) (hG _ g1418) (fun _ h9 => h9) rfl dX9_readsAll_9 ?_
  refine lv_iload_n hx hb dX9_readsAll_12 rfl (lv_at hl 0 rfl) ?_
  refine lv_iconst (v := 0) hx hb dX9_readsAll_13 (by decide) ?_
  refine va_iast hx hb hX.1 hP hD hS 1 0 rfl rfl (vp_in_iff.mpr (by decide)) dX9_readsAll_14 (fun H locs hP hD hS => ?_)
  obtain ⟨f61, ef61⟩ : ∃ z : Nat → Int32, z = upd f60 (60 : Int32).toNatClampNeg 0 := ⟨_, rfl⟩
  rw [← ef61] at hP hD
  have hP : va_P g.1 vwCl [(h0, .inr (9, [.ref m_told, .ref m_read, .ref m_now, .ref m_readNow, .ref m_kept, .int 0, .int 1, .int 0, .ref m_tape, .int 0, .ref m_refused, .int 0, .int (-1), .int 0, .int 0, .int 0, .int 0, .int (-1), .ref m_ownLetters, .ref m_flats, .int 0, .ref m_corner, .ref m_wayX, .ref m_wayY, .ref m_normal, .ref m_low, .ref m_high, .ref m_clear, .ref m_ways, .ref m_canBe, .ref m_lain, .int 0, .ref m_fewestBy, .ref m_sortOf, .int 0, .ref m_seenFlange, .ref m_seenLength])), (m_read, .inl (g.2.1.1, 103, .inl f61)), (m_readNow, .inl (g.2.1.1, 21, .inl fn))] H := hP
  have hD : va_D A [(h0, .inr (9, [.ref m_told, .ref m_read, .ref m_now, .ref m_readNow, .ref m_kept, .int 0, .int 1, .int 0, .ref m_tape, .int 0, .ref m_refused, .int 0, .int (-1), .int 0, .int 0, .int 0, .int 0, .int (-1), .ref m_ownLetters, .ref m_flats, .int 0, .ref m_corner, .ref m_wayX, .ref m_wayY, .ref m_normal, .ref m_low, .ref m_high, .ref m_clear, .ref m_ways, .ref m_canBe, .ref m_lain, .int 0, .ref m_fewestBy, .ref m_sortOf, .int 0, .ref m_seenFlange, .ref m_seenLength])), (m_read, .inl (g.2.1.1, 103, .inl f61)), (m_readNow, .inl (g.2.1.1, 21, .inl fn))] := hD
  refine lv_iinc (v := 61) (lv' := [(1, .int 61), (0, .ref h0)]) hx hb dX9_readsAll_15 hl (k := 0) rfl (by decide) (by decide) rfl (fun ls hl => ?_)
  refine lv_goto (tgt := 2) hx hb dX9_readsAll_18 (by decide) ?_
  refine lv_iload_n hx hb dX9_readsAll_2 rfl (lv_at hl 0 rfl) ?_
  refine lv_bipush (v := 103) hx hb dX9_readsAll_3 (by decide) ?_
  refine lv_icmp_ge (tgt := 21) hx hb dX9_readsAll_5 (by decide) (fun c5 => absurd c5 (by decide)) (fun c5 => ?_)
  refine lv_aload_n hx hb dX9_readsAll_8 rfl (lv_at hl 1 rfl) ?_
  refine va_get (D := g.1) (ci := 9) (v := .ref m_read) (C := RX9) (T := TX9) (N := 37) hx hb hG iX9 hown hX.1 hP 0 rfl rfl 1 (by decide) (hG _ g1418) (fun _ h9 => h9) rfl dX9_readsAll_9 ?_
  refine lv_iload_n hx hb dX9_readsAll_12 rfl (lv_at hl 0 rfl) ?_
  refine lv_iconst (v := 0) hx hb dX9_readsAll_13 (by decide) ?_
  refine va_iast hx hb hX.1 hP hD hS 1 0 rfl rfl (vp_in_iff.mpr (by decide)) dX9_readsAll_14 (fun H locs hP hD hS => ?_)
  obtain ⟨f62, ef62⟩ : ∃ z : Nat → Int32, z = upd f61 (61 : Int32).toNatClampNeg 0 := ⟨_, rfl⟩
  rw [← ef62] at hP hD
  have hP : va_P g.1 vwCl [(h0, .inr (9, [.ref m_told, .ref m_read, .ref m_now, .ref m_readNow, .ref m_kept, .int 0, .int 1, .int 0, .ref m_tape, .int 0, .ref m_refused, .int 0, .int (-1), .int 0, .int 0, .int 0, .int 0, .int (-1), .ref m_ownLetters, .ref m_flats, .int 0, .ref m_corner, .ref m_wayX, .ref m_wayY, .ref m_normal, .ref m_low, .ref m_high, .ref m_clear, .ref m_ways, .ref m_canBe, .ref m_lain, .int 0, .ref m_fewestBy, .ref m_sortOf, .int 0, .ref m_seenFlange, .ref m_seenLength])), (m_read, .inl (g.2.1.1, 103, .inl f62)), (m_readNow, .inl (g.2.1.1, 21, .inl fn))] H := hP
  have hD : va_D A [(h0, .inr (9, [.ref m_told, .ref m_read, .ref m_now, .ref m_readNow, .ref m_kept, .int 0, .int 1, .int 0, .ref m_tape, .int 0, .ref m_refused, .int 0, .int (-1), .int 0, .int 0, .int 0, .int 0, .int (-1), .ref m_ownLetters, .ref m_flats, .int 0, .ref m_corner, .ref m_wayX, .ref m_wayY, .ref m_normal, .ref m_low, .ref m_high, .ref m_clear, .ref m_ways, .ref m_canBe, .ref m_lain, .int 0, .ref m_fewestBy, .ref m_sortOf, .int 0, .ref m_seenFlange, .ref m_seenLength])), (m_read, .inl (g.2.1.1, 103, .inl f62)), (m_readNow, .inl (g.2.1.1, 21, .inl fn))] := hD
  refine lv_iinc (v := 62) (lv' := [(1, .int 62), (0, .ref h0)]) hx hb dX9_readsAll_15 hl (k := 0) rfl (by decide) (by decide) rfl (fun ls hl => ?_)
  refine lv_goto (tgt := 2) hx hb dX9_readsAll_18 (by decide) ?_
  refine lv_iload_n hx hb dX9_readsAll_2 rfl (lv_at hl 0 rfl) ?_
  refine lv_bipush (v := 103) hx hb dX9_readsAll_3 (by decide) ?_
  refine lv_icmp_ge (tgt := 21) hx hb dX9_readsAll_5 (by decide) (fun c5 => absurd c5 (by decide)) (fun c5 => ?_)
  refine lv_aload_n hx hb dX9_readsAll_8 rfl (lv_at hl 1 rfl) ?_
  refine va_get (D := g.1) (ci := 9) (v := .ref m_read) (C := RX9) (T := TX9) (N := 37) hx hb hG iX9 hown hX.1 hP 0 rfl rfl 1 (by decide) (hG _ g1418) (fun _ h9 => h9) rfl dX9_readsAll_9 ?_
  refine lv_iload_n hx hb dX9_readsAll_12 rfl (lv_at hl 0 rfl) ?_
  refine lv_iconst (v := 0) hx hb dX9_readsAll_13 (by decide) ?_
  refine va_iast hx hb hX.1 hP hD hS 1 0 rfl rfl (vp_in_iff.mpr (by decide)) dX9_readsAll_14 (fun H locs hP hD hS => ?_)
  obtain ⟨f63, ef63⟩ : ∃ z : Nat → Int32, z = upd f62 (62 : Int32).toNatClampNeg 0 := ⟨_, rfl⟩
  rw [← ef63] at hP hD
  have hP : va_P g.1 vwCl [(h0, .inr (9, [.ref m_told, .ref m_read, .ref m_now, .ref m_readNow, .ref m_kept, .int 0, .int 1, .int 0, .ref m_tape, .int 0, .ref m_refused, .int 0, .int (-1), .int 0, .int 0, .int 0, .int 0, .int (-1), .ref m_ownLetters, .ref m_flats, .int 0, .ref m_corner, .ref m_wayX, .ref m_wayY, .ref m_normal, .ref m_low, .ref m_high, .ref m_clear, .ref m_ways, .ref m_canBe, .ref m_lain, .int 0, .ref m_fewestBy, .ref m_sortOf, .int 0, .ref m_seenFlange, .ref m_seenLength])), (m_read, .inl (g.2.1.1, 103, .inl f63)), (m_readNow, .inl (g.2.1.1, 21, .inl fn))] H := hP
  have hD : va_D A [(h0, .inr (9, [.ref m_told, .ref m_read, .ref m_now, .ref m_readNow, .ref m_kept, .int 0, .int 1, .int 0, .ref m_tape, .int 0, .ref m_refused, .int 0, .int (-1), .int 0, .int 0, .int 0, .int 0, .int (-1), .ref m_ownLetters, .ref m_flats, .int 0, .ref m_corner, .ref m_wayX, .ref m_wayY, .ref m_normal, .ref m_low, .ref m_high, .ref m_clear, .ref m_ways, .ref m_canBe, .ref m_lain, .int 0, .ref m_fewestBy, .ref m_sortOf, .int 0, .ref m_seenFlange, .ref m_seenLength])), (m_read, .inl (g.2.1.1, 103, .inl f63)), (m_readNow, .inl (g.2.1.1, 21, .inl fn))] := hD
  refine lv_iinc (v := 63) (lv' := [(1, .int 63), (0, .ref h0)]) hx hb dX9_readsAll_15 hl (k := 0) rfl (by decide) (by decide) rfl (fun ls hl => ?_)
  refine lv_goto (tgt := 2) hx hb dX9_readsAll_18 (by decide) ?_
  refine lv_iload_n hx hb dX9_readsAll_2 rfl (lv_at hl 0 rfl) ?_
  refine lv_bipush (v := 103) hx hb dX9_readsAll_3 (by decide) ?_
  refine lv_icmp_ge (tgt := 21) hx hb dX9_readsAll_5 (by decide) (fun c5 => absurd c5 (by decide)) (fun c5 => ?_)
  refine lv_aload_n hx hb dX9_readsAll_8 rfl (lv_at hl 1 rfl) ?_
  refine va_get (D := g.1) (ci := 9) (v := .ref m_read) (C := RX9) (T := TX9) (N := 37) hx hb hG iX9 hown hX.1 hP 0 rfl rfl 1 (by decide) (hG _ g1418) (fun _ h9 => h9) rfl dX9_readsAll_9 ?_
  refine lv_iload_n hx hb dX9_readsAll_12 rfl (lv_at hl 0 rfl) ?_
  refine lv_iconst (v := 0) hx hb dX9_readsAll_13 (by decide) ?_
  refine va_iast hx hb hX.1 hP hD hS 1 0 rfl rfl (vp_in_iff.mpr (by decide)) dX9_readsAll_14 (fun H locs hP hD hS => ?_)
  obtain ⟨f64, ef64⟩ : ∃ z : Nat → Int32, z = upd f63 (63 : Int32).toNatClampNeg 0 := ⟨_, rfl⟩
  rw [← ef64] at hP hD
  have hP : va_P g.1 vwCl [(h0, .inr (9, [.ref m_told, .ref m_read, .ref m_now, .ref m_readNow, .ref m_kept, .int 0, .int 1, .int 0, .ref m_tape, .int 0, .ref m_refused, .int 0, .int (-1), .int 0, .int 0, .int 0, .int 0, .int (-1), .ref m_ownLetters, .ref m_flats, .int 0, .ref m_corner, .ref m_wayX, .ref m_wayY, .ref m_normal, .ref m_low, .ref m_high, .ref m_clear, .ref m_ways, .ref m_canBe, .ref m_lain, .int 0, .ref m_fewestBy, .ref m_sortOf, .int 0, .ref m_seenFlange, .ref m_seenLength])), (m_read, .inl (g.2.1.1, 103, .inl f64)), (m_readNow, .inl (g.2.1.1, 21, .inl fn))] H := hP
  have hD : va_D A [(h0, .inr (9, [.ref m_told, .ref m_read, .ref m_now, .ref m_readNow, .ref m_kept, .int 0, .int 1, .int 0, .ref m_tape, .int 0, .ref m_refused, .int 0, .int (-1), .int 0, .int 0, .int 0, .int 0, .int (-1), .ref m_ownLetters, .ref m_flats, .int 0, .ref m_corner, .ref m_wayX, .ref m_wayY, .ref m_normal, .ref m_low, .ref m_high, .ref m_clear, .ref m_ways, .ref m_canBe, .ref m_lain, .int 0, .ref m_fewestBy, .ref m_sortOf, .int 0, .ref m_seenFlange, .ref m_seenLength])), (m_read, .inl (g.2.1.1, 103, .inl f64)), (m_readNow, .inl (g.2.1.1, 21, .inl fn))] := hD
  refine lv_iinc (v := 64) (lv' := [(1, .int 64), (0, .ref h0)]) hx hb dX9_readsAll_15 hl (k := 0) rfl (by decide) (by decide) rfl (fun ls hl => ?_)
  refine lv_goto (tgt := 2) hx hb dX9_readsAll_18 (by decide) ?_
  refine lv_iload_n hx hb dX9_readsAll_2 rfl (lv_at hl 0 rfl) ?_
  refine lv_bipush (v := 103) hx hb dX9_readsAll_3 (by decide) ?_
  refine lv_icmp_ge (tgt := 21) hx hb dX9_readsAll_5 (by decide) (fun c5 => absurd c5 (by decide)) (fun c5 => ?_)
  refine lv_aload_n hx hb dX9_readsAll_8 rfl (lv_at hl 1 rfl) ?_
  refine va_get (D := g.1) (ci := 9) (v := .ref m_read) (C := RX9) (T := TX9) (N := 37) hx hb hG iX9 hown hX.1 hP 0 rfl rfl 1 (by decide) (hG _ g1418) (fun _ h9 => h9) rfl dX9_readsAll_9 ?_
  refine lv_iload_n hx hb dX9_readsAll_12 rfl (lv_at hl 0 rfl) ?_
  refine lv_iconst (v := 0) hx hb dX9_readsAll_13 (by decide) ?_
  refine va_iast hx hb hX.1 hP hD hS 1 0 rfl rfl (vp_in_iff.mpr (by decide)) dX9_readsAll_14 (fun H locs hP hD hS => ?_)
  obtain ⟨f65, ef65⟩ : ∃ z : Nat → Int32, z = upd f64 (64 : Int32).toNatClampNeg 0 := ⟨_, rfl⟩
  rw [← ef65] at hP hD
  have hP : va_P g.1 vwCl [(h0, .inr (9, [.ref m_told, .ref m_read, .ref m_now, .ref m_readNow, .ref m_kept, .int 0, .int 1, .int 0, .ref m_tape, .int 0, .ref m_refused, .int 0, .int (-1), .int 0, .int 0, .int 0, .int 0, .int (-1), .ref m_ownLetters, .ref m_flats, .int 0, .ref m_corner, .ref m_wayX, .ref m_wayY, .ref m_normal, .ref m_low, .ref m_high, .ref m_clear, .ref m_ways, .ref m_canBe, .ref m_lain, .int 0, .ref m_fewestBy, .ref m_sortOf, .int 0, .ref m_seenFlange, .ref m_seenLength])), (m_read, .inl (g.2.1.1, 103, .inl f65)), (m_readNow, .inl (g.2.1.1, 21, .inl fn))] H := hP
  have hD : va_D A [(h0, .inr (9, [.ref m_told, .ref m_read, .ref m_now, .ref m_readNow, .ref m_kept, .int 0, .int 1, .int 0, .ref m_tape, .int 0, .ref m_refused, .int 0, .int (-1), .int 0, .int 0, .int 0, .int 0, .int (-1), .ref m_ownLetters, .ref m_flats, .int 0, .ref m_corner, .ref m_wayX, .ref m_wayY, .ref m_normal, .ref m_low, .ref m_high, .ref m_clear, .ref m_ways, .ref m_canBe, .ref m_lain, .int 0, .ref m_fewestBy, .ref m_sortOf, .int 0, .ref m_seenFlange, .ref m_seenLength])), (m_read, .inl (g.2.1.1, 103, .inl f65)), (m_readNow, .inl (g.2.1.1, 21, .inl fn))] := hD
  refine lv_iinc (v := 65) (lv' := [(1, .int 65), (0, .ref h0)]) hx hb dX9_readsAll_15 hl (k := 0) rfl (by decide) (by decide) rfl (fun ls hl => ?_)
  refine lv_goto (tgt := 2) hx hb dX9_readsAll_18 (by decide) ?_
  refine lv_iload_n hx hb dX9_readsAll_2 rfl (lv_at hl 0 rfl) ?_
  refine lv_bipush (v := 103) hx hb dX9_readsAll_3 (by decide) ?_
  refine lv_icmp_ge (tgt := 21) hx hb dX9_readsAll_5 (by decide) (fun c5 => absurd c5 (by decide)) (fun c5 => ?_)
  refine lv_aload_n hx hb dX9_readsAll_8 rfl (lv_at hl 1 rfl) ?_
  refine va_get (D := g.1) (ci := 9) (v := .ref m_read) (C := RX9) (T := TX9) (N := 37) hx hb hG iX9 hown hX.1 hP 0 rfl rfl 1 (by decide) (hG _ g1418) (fun _ h9 => h9) rfl dX9_readsAll_9 ?_
  refine lv_iload_n hx hb dX9_readsAll_12 rfl (lv_at hl 0 rfl) ?_
  refine lv_iconst (v := 0) hx hb dX9_readsAll_13 (by decide) ?_
  refine va_iast hx hb hX.1 hP hD hS 1 0 rfl rfl (vp_in_iff.mpr (by decide)) dX9_readsAll_14 (fun H locs hP hD hS => ?_)
  obtain ⟨f66, ef66⟩ : ∃ z : Nat → Int32, z = upd f65 (65 : Int32).toNatClampNeg 0 := ⟨_, rfl⟩
  rw [← ef66] at hP hD
  have hP : va_P g.1 vwCl [(h0, .inr (9, [.ref m_told, .ref m_read, .ref m_now, .ref m_readNow, .ref m_kept, .int 0, .int 1, .int 0, .ref m_tape, .int 0, .ref m_refused, .int 0, .int (-1), .int 0, .int 0, .int 0, .int 0, .int (-1), .ref m_ownLetters, .ref m_flats, .int 0, .ref m_corner, .ref m_wayX, .ref m_wayY, .ref m_normal, .ref m_low, .ref m_high, .ref m_clear, .ref m_ways, .ref m_canBe, .ref m_lain, .int 0, .ref m_fewestBy, .ref m_sortOf, .int 0, .ref m_seenFlange, .ref m_seenLength])), (m_read, .inl (g.2.1.1, 103, .inl f66)), (m_readNow, .inl (g.2.1.1, 21, .inl fn))] H := hP
  have hD : va_D A [(h0, .inr (9, [.ref m_told, .ref m_read, .ref m_now, .ref m_readNow, .ref m_kept, .int 0, .int 1, .int 0, .ref m_tape, .int 0, .ref m_refused, .int 0, .int (-1), .int 0, .int 0, .int 0, .int 0, .int (-1), .ref m_ownLetters, .ref m_flats, .int 0, .ref m_corner, .ref m_wayX, .ref m_wayY, .ref m_normal, .ref m_low, .ref m_high, .ref m_clear, .ref m_ways, .ref m_canBe, .ref m_lain, .int 0, .ref m_fewestBy, .ref m_sortOf, .int 0, .ref m_seenFlange, .ref m_seenLength])), (m_read, .inl (g.2.1.1, 103, .inl f66)), (m_readNow, .inl (g.2.1.1, 21, .inl fn))] := hD
  refine lv_iinc (v := 66) (lv' := [(1, .int 66), (0, .ref h0)]) hx hb dX9_readsAll_15 hl (k := 0) rfl (by decide) (by decide) rfl (fun ls hl => ?_)
  refine lv_goto (tgt := 2) hx hb dX9_readsAll_18 (by decide) ?_
  refine lv_iload_n hx hb dX9_readsAll_2 rfl (lv_at hl 0 rfl) ?_
  refine lv_bipush (v := 103) hx hb dX9_readsAll_3 (by decide) ?_
  refine lv_icmp_ge (tgt := 21) hx hb dX9_readsAll_5 (by decide) (fun c5 => absurd c5 (by decide)) (fun c5 => ?_)
  refine lv_aload_n hx hb dX9_readsAll_8 rfl (lv_at hl 1 rfl) ?_
  refine va_get (D := g.1) (ci := 9) (v := .ref m_read) (C := RX9) (T := TX9) (N := 37) hx hb hG iX9 hown hX.1 hP 0 rfl rfl 1 (by decide) (hG _ g1418) (fun _ h9 => h9) rfl dX9_readsAll_9 ?_
  refine lv_iload_n hx hb dX9_readsAll_12 rfl (lv_at hl 0 rfl) ?_
  refine lv_iconst (v := 0) hx hb dX9_readsAll_13 (by decide) ?_
  refine va_iast hx hb hX.1 hP hD hS 1 0 rfl rfl (vp_in_iff.mpr (by decide)) dX9_readsAll_14 (fun H locs hP hD hS => ?_)
  obtain ⟨f67, ef67⟩ : ∃ z : Nat → Int32, z = upd f66 (66 : Int32).toNatClampNeg 0 := ⟨_, rfl⟩
  rw [← ef67] at hP hD
  have hP : va_P g.1 vwCl [(h0, .inr (9, [.ref m_told, .ref m_read, .ref m_now, .ref m_readNow, .ref m_kept, .int 0, .int 1, .int 0, .ref m_tape, .int 0, .ref m_refused, .int 0, .int (-1), .int 0, .int 0, .int 0, .int 0, .int (-1), .ref m_ownLetters, .ref m_flats, .int 0, .ref m_corner, .ref m_wayX, .ref m_wayY, .ref m_normal, .ref m_low, .ref m_high, .ref m_clear, .ref m_ways, .ref m_canBe, .ref m_lain, .int 0, .ref m_fewestBy, .ref m_sortOf, .int 0, .ref m_seenFlange, .ref m_seenLength])), (m_read, .inl (g.2.1.1, 103, .inl f67)), (m_readNow, .inl (g.2.1.1, 21, .inl fn))] H := hP
  have hD : va_D A [(h0, .inr (9, [.ref m_told, .ref m_read, .ref m_now, .ref m_readNow, .ref m_kept, .int 0, .int 1, .int 0, .ref m_tape, .int 0, .ref m_refused, .int 0, .int (-1), .int 0, .int 0, .int 0, .int 0, .int (-1), .ref m_ownLetters, .ref m_flats, .int 0, .ref m_corner, .ref m_wayX, .ref m_wayY, .ref m_normal, .ref m_low, .ref m_high, .ref m_clear, .ref m_ways, .ref m_canBe, .ref m_lain, .int 0, .ref m_fewestBy, .ref m_sortOf, .int 0, .ref m_seenFlange, .ref m_seenLength])), (m_read, .inl (g.2.1.1, 103, .inl f67)), (m_readNow, .inl (g.2.1.1, 21, .inl fn))] := hD
  refine lv_iinc (v := 67) (lv' := [(1, .int 67), (0, .ref h0)]) hx hb dX9_readsAll_15 hl (k := 0) rfl (by decide) (by decide) rfl (fun ls hl => ?_)
  refine lv_goto (tgt := 2) hx hb dX9_readsAll_18 (by decide) ?_
  refine lv_iload_n hx hb dX9_readsAll_2 rfl (lv_at hl 0 rfl) ?_
  refine lv_bipush (v := 103) hx hb dX9_readsAll_3 (by decide) ?_
  refine lv_icmp_ge (tgt := 21) hx hb dX9_readsAll_5 (by decide) (fun c5 => absurd c5 (by decide)) (fun c5 => ?_)
  refine lv_aload_n hx hb dX9_readsAll_8 rfl (lv_at hl 1 rfl) ?_
  refine va_get (D := g.1) (ci := 9) (v := .ref m_read) (C := RX9) (T := TX9) (N := 37) hx hb hG iX9 hown hX.1 hP 0 rfl rfl 1 (by decide) (hG _ g1418) (fun _ h9 => h9) rfl dX9_readsAll_9 ?_
  refine lv_iload_n hx hb dX9_readsAll_12 rfl (lv_at hl 0 rfl) ?_
  refine lv_iconst (v := 0) hx hb dX9_readsAll_13 (by decide) ?_
  refine va_iast hx hb hX.1 hP hD hS 1 0 rfl rfl (vp_in_iff.mpr (by decide)) dX9_readsAll_14 (fun H locs hP hD hS => ?_)
  obtain ⟨f68, ef68⟩ : ∃ z : Nat → Int32, z = upd f67 (67 : Int32).toNatClampNeg 0 := ⟨_, rfl⟩
  rw [← ef68] at hP hD
  have hP : va_P g.1 vwCl [(h0, .inr (9, [.ref m_told, .ref m_read, .ref m_now, .ref m_readNow, .ref m_kept, .int 0, .int 1, .int 0, .ref m_tape, .int 0, .ref m_refused, .int 0, .int (-1), .int 0, .int 0, .int 0, .int 0, .int (-1), .ref m_ownLetters, .ref m_flats, .int 0, .ref m_corner, .ref m_wayX, .ref m_wayY, .ref m_normal, .ref m_low, .ref m_high, .ref m_clear, .ref m_ways, .ref m_canBe, .ref m_lain, .int 0, .ref m_fewestBy, .ref m_sortOf, .int 0, .ref m_seenFlange, .ref m_seenLength])), (m_read, .inl (g.2.1.1, 103, .inl f68)), (m_readNow, .inl (g.2.1.1, 21, .inl fn))] H := hP
  have hD : va_D A [(h0, .inr (9, [.ref m_told, .ref m_read, .ref m_now, .ref m_readNow, .ref m_kept, .int 0, .int 1, .int 0, .ref m_tape, .int 0, .ref m_refused, .int 0, .int (-1), .int 0, .int 0, .int 0, .int 0, .int (-1), .ref m_ownLetters, .ref m_flats, .int 0, .ref m_corner, .ref m_wayX, .ref m_wayY, .ref m_normal, .ref m_low, .ref m_high, .ref m_clear, .ref m_ways, .ref m_canBe, .ref m_lain, .int 0, .ref m_fewestBy, .ref m_sortOf, .int 0, .ref m_seenFlange, .ref m_seenLength])), (m_read, .inl (g.2.1.1, 103, .inl f68)), (m_readNow, .inl (g.2.1.1, 21, .inl fn))] := hD
  refine lv_iinc (v := 68) (lv' := [(1, .int 68), (0, .ref h0)]) hx hb dX9_readsAll_15 hl (k := 0) rfl (by decide) (by decide) rfl (fun ls hl => ?_)
  refine lv_goto (tgt := 2) hx hb dX9_readsAll_18 (by decide) ?_
  refine lv_iload_n hx hb dX9_readsAll_2 rfl (lv_at hl 0 rfl) ?_
  refine lv_bipush (v := 103) hx hb dX9_readsAll_3 (by decide) ?_
  refine lv_icmp_ge (tgt := 21) hx hb dX9_readsAll_5 (by decide) (fun c5 => absurd c5 (by decide)) (fun c5 => ?_)
  refine lv_aload_n hx hb dX9_readsAll_8 rfl (lv_at hl 1 rfl) ?_
  refine va_get (D := g.1) (ci := 9) (v := .ref m_read) (C := RX9) (T := TX9) (N := 37) hx hb hG iX9 hown hX.1 hP 0 rfl rfl 1 (by decide) (hG _ g1418) (fun _ h9 => h9) rfl dX9_readsAll_9 ?_
  refine lv_iload_n hx hb dX9_readsAll_12 rfl (lv_at hl 0 rfl) ?_
  refine lv_iconst (v := 0) hx hb dX9_readsAll_13 (by decide) ?_
  refine va_iast hx hb hX.1 hP hD hS 1 0 rfl rfl (vp_in_iff.mpr (by decide)) dX9_readsAll_14 (fun H locs hP hD hS => ?_)
  obtain ⟨f69, ef69⟩ : ∃ z : Nat → Int32, z = upd f68 (68 : Int32).toNatClampNeg 0 := ⟨_, rfl⟩
  rw [← ef69] at hP hD
  have hP : va_P g.1 vwCl [(h0, .inr (9, [.ref m_told, .ref m_read, .ref m_now, .ref m_readNow, .ref m_kept, .int 0, .int 1, .int 0, .ref m_tape, .int 0, .ref m_refused, .int 0, .int (-1), .int 0, .int 0, .int 0, .int 0, .int (-1), .ref m_ownLetters, .ref m_flats, .int 0, .ref m_corner, .ref m_wayX, .ref m_wayY, .ref m_normal, .ref m_low, .ref m_high, .ref m_clear, .ref m_ways, .ref m_canBe, .ref m_lain, .int 0, .ref m_fewestBy, .ref m_sortOf, .int 0, .ref m_seenFlange, .ref m_seenLength])), (m_read, .inl (g.2.1.1, 103, .inl f69)), (m_readNow, .inl (g.2.1.1, 21, .inl fn))] H := hP
  have hD : va_D A [(h0, .inr (9, [.ref m_told, .ref m_read, .ref m_now, .ref m_readNow, .ref m_kept, .int 0, .int 1, .int 0, .ref m_tape, .int 0, .ref m_refused, .int 0, .int (-1), .int 0, .int 0, .int 0, .int 0, .int (-1), .ref m_ownLetters, .ref m_flats, .int 0, .ref m_corner, .ref m_wayX, .ref m_wayY, .ref m_normal, .ref m_low, .ref m_high, .ref m_clear, .ref m_ways, .ref m_canBe, .ref m_lain, .int 0, .ref m_fewestBy, .ref m_sortOf, .int 0, .ref m_seenFlange, .ref m_seenLength])), (m_read, .inl (g.2.1.1, 103, .inl f69)), (m_readNow, .inl (g.2.1.1, 21, .inl fn))] := hD
  refine lv_iinc (v := 69) (lv' := [(1, .int 69), (0, .ref h0)]) hx hb dX9_readsAll_15 hl (k := 0) rfl (by decide) (by decide) rfl (fun ls hl => ?_)
  refine lv_goto (tgt := 2) hx hb dX9_readsAll_18 (by decide) ?_
  refine lv_iload_n hx hb dX9_readsAll_2 rfl (lv_at hl 0 rfl) ?_
  refine lv_bipush (v := 103) hx hb dX9_readsAll_3 (by decide) ?_
  refine lv_icmp_ge (tgt := 21) hx hb dX9_readsAll_5 (by decide) (fun c5 => absurd c5 (by decide)) (fun c5 => ?_)
  refine lv_aload_n hx hb dX9_readsAll_8 rfl (lv_at hl 1 rfl) ?_
  refine va_get (D := g.1) (ci := 9) (v := .ref m_read) (C := RX9) (T := TX9) (N := 37) hx hb hG iX9 hown hX.1 hP 0 rfl rfl 1 (by decide) (hG _ g1418) (fun _ h9 => h9) rfl dX9_readsAll_9 ?_
  refine lv_iload_n hx hb dX9_readsAll_12 rfl (lv_at hl 0 rfl) ?_
  refine lv_iconst (v := 0) hx hb dX9_readsAll_13 (by decide) ?_
  refine va_iast hx hb hX.1 hP hD hS 1 0 rfl rfl (vp_in_iff.mpr (by decide)) dX9_readsAll_14 (fun H locs hP hD hS => ?_)
  obtain ⟨f70, ef70⟩ : ∃ z : Nat → Int32, z = upd f69 (69 : Int32).toNatClampNeg 0 := ⟨_, rfl⟩
  rw [← ef70] at hP hD
  have hP : va_P g.1 vwCl [(h0, .inr (9, [.ref m_told, .ref m_read, .ref m_now, .ref m_readNow, .ref m_kept, .int 0, .int 1, .int 0, .ref m_tape, .int 0, .ref m_refused, .int 0, .int (-1), .int 0, .int 0, .int 0, .int 0, .int (-1), .ref m_ownLetters, .ref m_flats, .int 0, .ref m_corner, .ref m_wayX, .ref m_wayY, .ref m_normal, .ref m_low, .ref m_high, .ref m_clear, .ref m_ways, .ref m_canBe, .ref m_lain, .int 0, .ref m_fewestBy, .ref m_sortOf, .int 0, .ref m_seenFlange, .ref m_seenLength])), (m_read, .inl (g.2.1.1, 103, .inl f70)), (m_readNow, .inl (g.2.1.1, 21, .inl fn))] H := hP
  have hD : va_D A [(h0, .inr (9, [.ref m_told, .ref m_read, .ref m_now, .ref m_readNow, .ref m_kept, .int 0, .int 1, .int 0, .ref m_tape, .int 0, .ref m_refused, .int 0, .int (-1), .int 0, .int 0, .int 0, .int 0, .int (-1), .ref m_ownLetters, .ref m_flats, .int 0, .ref m_corner, .ref m_wayX, .ref m_wayY, .ref m_normal, .ref m_low, .ref m_high, .ref m_clear, .ref m_ways, .ref m_canBe, .ref m_lain, .int 0, .ref m_fewestBy, .ref m_sortOf, .int 0, .ref m_seenFlange, .ref m_seenLength])), (m_read, .inl (g.2.1.1, 103, .inl f70)), (m_readNow, .inl (g.2.1.1, 21, .inl fn))] := hD
  refine lv_iinc (v := 70) (lv' := [(1, .int 70), (0, .ref h0)]) hx hb dX9_readsAll_15 hl (k := 0) rfl (by decide) (by decide) rfl (fun ls hl => ?_)
  refine lv_goto (tgt := 2) hx hb dX9_readsAll_18 (by decide) ?_
  refine lv_iload_n hx hb dX9_readsAll_2 rfl (lv_at hl 0 rfl) ?_
  refine lv_bipush (v := 103) hx hb dX9_readsAll_3 (by decide) ?_
  refine lv_icmp_ge (tgt := 21) hx hb dX9_readsAll_5 (by decide) (fun c5 => absurd c5 (by decide)) (fun c5 => ?_)
  refine lv_aload_n hx hb dX9_readsAll_8 rfl (lv_at hl 1 rfl) ?_
  refine va_get (D := g.1) (ci := 9) (v := .ref m_read) (C := RX9) (T := TX9) (N := 37) hx hb hG iX9 hown hX.1 hP 0 rfl rfl 1 (by decide) (hG _ g1418) (fun _ h9 => h9) rfl dX9_readsAll_9 ?_
  refine lv_iload_n hx hb dX9_readsAll_12 rfl (lv_at hl 0 rfl) ?_
  refine lv_iconst (v := 0) hx hb dX9_readsAll_13 (by decide) ?_
  refine va_iast hx hb hX.1 hP hD hS 1 0 rfl rfl (vp_in_iff.mpr (by decide)) dX9_readsAll_14 (fun H locs hP hD hS => ?_)
  obtain ⟨f71, ef71⟩ : ∃ z : Nat → Int32, z = upd f70 (70 : Int32).toNatClampNeg 0 := ⟨_, rfl⟩
  rw [← ef71] at hP hD
  have hP : va_P g.1 vwCl [(h0, .inr (9, [.ref m_told, .ref m_read, .ref m_now, .ref m_readNow, .ref m_kept, .int 0, .int 1, .int 0, .ref m_tape, .int 0, .ref m_refused, .int 0, .int (-1), .int 0, .int 0, .int 0, .int 0, .int (-1), .ref m_ownLetters, .ref m_flats, .int 0, .ref m_corner, .ref m_wayX, .ref m_wayY, .ref m_normal, .ref m_low, .ref m_high, .ref m_clear, .ref m_ways, .ref m_canBe, .ref m_lain, .int 0, .ref m_fewestBy, .ref m_sortOf, .int 0, .ref m_seenFlange, .ref m_seenLength])), (m_read, .inl (g.2.1.1, 103, .inl f71)), (m_readNow, .inl (g.2.1.1, 21, .inl fn))] H := hP
  have hD : va_D A [(h0, .inr (9, [.ref m_told, .ref m_read, .ref m_now, .ref m_readNow, .ref m_kept, .int 0, .int 1, .int 0, .ref m_tape, .int 0, .ref m_refused, .int 0, .int (-1), .int 0, .int 0, .int 0, .int 0, .int (-1), .ref m_ownLetters, .ref m_flats, .int 0, .ref m_corner, .ref m_wayX, .ref m_wayY, .ref m_normal, .ref m_low, .ref m_high, .ref m_clear, .ref m_ways, .ref m_canBe, .ref m_lain, .int 0, .ref m_fewestBy, .ref m_sortOf, .int 0, .ref m_seenFlange, .ref m_seenLength])), (m_read, .inl (g.2.1.1, 103, .inl f71)), (m_readNow, .inl (g.2.1.1, 21, .inl fn))] := hD
  refine lv_iinc (v := 71) (lv' := [(1, .int 71), (0, .ref h0)]) hx hb dX9_readsAll_15 hl (k := 0) rfl (by decide) (by decide) rfl (fun ls hl => ?_)
  refine lv_goto (tgt := 2) hx hb dX9_readsAll_18 (by decide) ?_
  refine lv_iload_n hx hb dX9_readsAll_2 rfl (lv_at hl 0 rfl) ?_
  refine lv_bipush (v := 103) hx hb dX9_readsAll_3 (by decide) ?_
  refine lv_icmp_ge (tgt := 21) hx hb dX9_readsAll_5 (by decide) (fun c5 => absurd c5 (by decide)) (fun c5 => ?_)
  refine lv_aload_n hx hb dX9_readsAll_8 rfl (lv_at hl 1 rfl) ?_
  refine va_get (D := g.1) (ci := 9) (v := .ref m_read) (C := RX9) (T := TX9) (N := 37) hx hb hG iX9 hown hX.1 hP 0 rfl rfl 1 (by decide) (hG _ g1418) (fun _ h9 => h9) rfl dX9_readsAll_9 ?_
  refine lv_iload_n hx hb dX9_readsAll_12 rfl (lv_at hl 0 rfl) ?_
  refine lv_iconst (v := 0) hx hb dX9_readsAll_13 (by decide) ?_
  refine va_iast hx hb hX.1 hP hD hS 1 0 rfl rfl (vp_in_iff.mpr (by decide)) dX9_readsAll_14 (fun H locs hP hD hS => ?_)
  obtain ⟨f72, ef72⟩ : ∃ z : Nat → Int32, z = upd f71 (71 : Int32).toNatClampNeg 0 := ⟨_, rfl⟩
  rw [← ef72] at hP hD
  have hP : va_P g.1 vwCl [(h0, .inr (9, [.ref m_told, .ref m_read, .ref m_now, .ref m_readNow, .ref m_kept, .int 0, .int 1, .int 0, .ref m_tape, .int 0, .ref m_refused, .int 0, .int (-1), .int 0, .int 0, .int 0, .int 0, .int (-1), .ref m_ownLetters, .ref m_flats, .int 0, .ref m_corner, .ref m_wayX, .ref m_wayY, .ref m_normal, .ref m_low, .ref m_high, .ref m_clear, .ref m_ways, .ref m_canBe, .ref m_lain, .int 0, .ref m_fewestBy, .ref m_sortOf, .int 0, .ref m_seenFlange, .ref m_seenLength])), (m_read, .inl (g.2.1.1, 103, .inl f72)), (m_readNow, .inl (g.2.1.1, 21, .inl fn))] H := hP
  have hD : va_D A [(h0, .inr (9, [.ref m_told, .ref m_read, .ref m_now, .ref m_readNow, .ref m_kept, .int 0, .int 1, .int 0, .ref m_tape, .int 0, .ref m_refused, .int 0, .int (-1), .int 0, .int 0, .int 0, .int 0, .int (-1), .ref m_ownLetters, .ref m_flats, .int 0, .ref m_corner, .ref m_wayX, .ref m_wayY, .ref m_normal, .ref m_low, .ref m_high, .ref m_clear, .ref m_ways, .ref m_canBe, .ref m_lain, .int 0, .ref m_fewestBy, .ref m_sortOf, .int 0, .ref m_seenFlange, .ref m_seenLength])), (m_read, .inl (g.2.1.1, 103, .inl f72)), (m_readNow, .inl (g.2.1.1, 21, .inl fn))] := hD
  refine lv_iinc (v := 72) (lv' := [(1, .int 72), (0, .ref h0)]) hx hb dX9_readsAll_15 hl (k := 0) rfl (by decide) (by decide) rfl (fun ls hl => ?_)
  refine lv_goto (tgt := 2) hx hb dX9_readsAll_18 (by decide) ?_
  refine lv_iload_n hx hb dX9_readsAll_2 rfl (lv_at hl 0 rfl) ?_
  refine lv_bipush (v := 103) hx hb dX9_readsAll_3 (by decide) ?_
  refine lv_icmp_ge (tgt := 21) hx hb dX9_readsAll_5 (by decide) (fun c5 => absurd c5 (by decide)) (fun c5 => ?_)
  refine lv_aload_n hx hb dX9_readsAll_8 rfl (lv_at hl 1 rfl) ?_
  refine va_get (D := g.1) (ci := 9) (v := .ref m_read) (C := RX9) (T := TX9) (N := 37) hx hb hG iX9 hown hX.1 hP 0 rfl rfl 1 (by decide) (hG _ g1418) (fun _ h9 => h9) rfl dX9_readsAll_9 ?_
  refine lv_iload_n hx hb dX9_readsAll_12 rfl (lv_at hl 0 rfl) ?_
  refine lv_iconst (v := 0) hx hb dX9_readsAll_13 (by decide) ?_
  refine va_iast hx hb hX.1 hP hD hS 1 0 rfl rfl (vp_in_iff.mpr (by decide)) dX9_readsAll_14 (fun H locs hP hD hS => ?_)
  obtain ⟨f73, ef73⟩ : ∃ z : Nat → Int32, z = upd f72 (72 : Int32).toNatClampNeg 0 := ⟨_, rfl⟩
  rw [← ef73] at hP hD
  have hP : va_P g.1 vwCl [(h0, .inr (9, [.ref m_told, .ref m_read, .ref m_now, .ref m_readNow, .ref m_kept, .int 0, .int 1, .int 0, .ref m_tape, .int 0, .ref m_refused, .int 0, .int (-1), .int 0, .int 0, .int 0, .int 0, .int (-1), .ref m_ownLetters, .ref m_flats, .int 0, .ref m_corner, .ref m_wayX, .ref m_wayY, .ref m_normal, .ref m_low, .ref m_high, .ref m_clear, .ref m_ways, .ref m_canBe, .ref m_lain, .int 0, .ref m_fewestBy, .ref m_sortOf, .int 0, .ref m_seenFlange, .ref m_seenLength])), (m_read, .inl (g.2.1.1, 103, .inl f73)), (m_readNow, .inl (g.2.1.1, 21, .inl fn))] H := hP
  have hD : va_D A [(h0, .inr (9, [.ref m_told, .ref m_read, .ref m_now, .ref m_readNow, .ref m_kept, .int 0, .int 1, .int 0, .ref m_tape, .int 0, .ref m_refused, .int 0, .int (-1), .int 0, .int 0, .int 0, .int 0, .int (-1), .ref m_ownLetters, .ref m_flats, .int 0, .ref m_corner, .ref m_wayX, .ref m_wayY, .ref m_normal, .ref m_low, .ref m_high, .ref m_clear, .ref m_ways, .ref m_canBe, .ref m_lain, .int 0, .ref m_fewestBy, .ref m_sortOf, .int 0, .ref m_seenFlange, .ref m_seenLength])), (m_read, .inl (g.2.1.1, 103, .inl f73)), (m_readNow, .inl (g.2.1.1, 21, .inl fn))] := hD
  refine lv_iinc (v := 73) (lv' := [(1, .int 73), (0, .ref h0)]) hx hb dX9_readsAll_15 hl (k := 0) rfl (by decide) (by decide) rfl (fun ls hl => ?_)
  refine lv_goto (tgt := 2) hx hb dX9_readsAll_18 (by decide) ?_
  refine lv_iload_n hx hb dX9_readsAll_2 rfl (lv_at hl 0 rfl) ?_
  refine lv_bipush (v := 103) hx hb dX9_readsAll_3 (by decide) ?_
  refine lv_icmp_ge (tgt := 21) hx hb dX9_readsAll_5 (by decide) (fun c5 => absurd c5 (by decide)) (fun c5 => ?_)
  refine lv_aload_n hx hb dX9_readsAll_8 rfl (lv_at hl 1 rfl) ?_
  refine va_get (D := g.1) (ci := 9) (v := .ref m_read) (C := RX9) (T := TX9) (N := 37) hx hb hG iX9 hown hX.1 hP 0 rfl rfl 1 (by decide) (hG _ g1418) (fun _ h9 => h9) rfl dX9_readsAll_9 ?_
  refine lv_iload_n hx hb dX9_readsAll_12 rfl (lv_at hl 0 rfl) ?_
  refine lv_iconst (v := 0) hx hb dX9_readsAll_13 (by decide) ?_
  refine va_iast hx hb hX.1 hP hD hS 1 0 rfl rfl (vp_in_iff.mpr (by decide)) dX9_readsAll_14 (fun H locs hP hD hS => ?_)
  obtain ⟨f74, ef74⟩ : ∃ z : Nat → Int32, z = upd f73 (73 : Int32).toNatClampNeg 0 := ⟨_, rfl⟩
  rw [← ef74] at hP hD
  have hP : va_P g.1 vwCl [(h0, .inr (9, [.ref m_told, .ref m_read, .ref m_now, .ref m_readNow, .ref m_kept, .int 0, .int 1, .int 0, .ref m_tape, .int 0, .ref m_refused, .int 0, .int (-1), .int 0, .int 0, .int 0, .int 0, .int (-1), .ref m_ownLetters, .ref m_flats, .int 0, .ref m_corner, .ref m_wayX, .ref m_wayY, .ref m_normal, .ref m_low, .ref m_high, .ref m_clear, .ref m_ways, .ref m_canBe, .ref m_lain, .int 0, .ref m_fewestBy, .ref m_sortOf, .int 0, .ref m_seenFlange, .ref m_seenLength])), (m_read, .inl (g.2.1.1, 103, .inl f74)), (m_readNow, .inl (g.2.1.1, 21, .inl fn))] H := hP
  have hD : va_D A [(h0, .inr (9, [.ref m_told, .ref m_read, .ref m_now, .ref m_readNow, .ref m_kept, .int 0, .int 1, .int 0, .ref m_tape, .int 0, .ref m_refused, .int 0, .int (-1), .int 0, .int 0, .int 0, .int 0, .int (-1), .ref m_ownLetters, .ref m_flats, .int 0, .ref m_corner, .ref m_wayX, .ref m_wayY, .ref m_normal, .ref m_low, .ref m_high, .ref m_clear, .ref m_ways, .ref m_canBe, .ref m_lain, .int 0, .ref m_fewestBy, .ref m_sortOf, .int 0, .ref m_seenFlange, .ref m_seenLength])), (m_read, .inl (g.2.1.1, 103, .inl f74)), (m_readNow, .inl (g.2.1.1, 21, .inl fn))] := hD
  refine lv_iinc (v := 74) (lv' := [(1, .int 74), (0, .ref h0)]) hx hb dX9_readsAll_15 hl (k := 0) rfl (by decide) (by decide) rfl (fun ls hl => ?_)
  refine lv_goto (tgt := 2) hx hb dX9_readsAll_18 (by decide) ?_
  refine lv_iload_n hx hb dX9_readsAll_2 rfl (lv_at hl 0 rfl) ?_
  refine lv_bipush (v := 103) hx hb dX9_readsAll_3 (by decide) ?_
  refine lv_icmp_ge (tgt := 21) hx hb dX9_readsAll_5 (by decide) (fun c5 => absurd c5 (by decide)) (fun c5 => ?_)
  refine lv_aload_n hx hb dX9_readsAll_8 rfl (lv_at hl 1 rfl) ?_
  refine va_get (D := g.1) (ci := 9) (v := .ref m_read) (C := RX9) (T := TX9) (N := 37) hx hb hG iX9 hown hX.1 hP 0 rfl rfl 1 (by decide) (hG _ g1418) (fun _ h9 => h9) rfl dX9_readsAll_9 ?_
  refine lv_iload_n hx hb dX9_readsAll_12 rfl (lv_at hl 0 rfl) ?_
  refine lv_iconst (v := 0) hx hb dX9_readsAll_13 (by decide) ?_
  refine va_iast hx hb hX.1 hP hD hS 1 0 rfl rfl (vp_in_iff.mpr (by decide)) dX9_readsAll_14 (fun H locs hP hD hS => ?_)
  obtain ⟨f75, ef75⟩ : ∃ z : Nat → Int32, z = upd f74 (74 : Int32).toNatClampNeg 0 := ⟨_, rfl⟩
  rw [← ef75] at hP hD
  have hP : va_P g.1 vwCl [(h0, .inr (9, [.ref m_told, .ref m_read, .ref m_now, .ref m_readNow, .ref m_kept, .int 0, .int 1, .int 0, .ref m_tape, .int 0, .ref m_refused, .int 0, .int (-1), .int 0, .int 0, .int 0, .int 0, .int (-1), .ref m_ownLetters, .ref m_flats, .int 0, .ref m_corner, .ref m_wayX, .ref m_wayY, .ref m_normal, .ref m_low, .ref m_high, .ref m_clear, .ref m_ways, .ref m_canBe, .ref m_lain, .int 0, .ref m_fewestBy, .ref m_sortOf, .int 0, .ref m_seenFlange, .ref m_seenLength])), (m_read, .inl (g.2.1.1, 103, .inl f75)), (m_readNow, .inl (g.2.1.1, 21, .inl fn))] H := hP
  have hD : va_D A [(h0, .inr (9, [.ref m_told, .ref m_read, .ref m_now, .ref m_readNow, .ref m_kept, .int 0, .int 1, .int 0, .ref m_tape, .int 0, .ref m_refused, .int 0, .int (-1), .int 0, .int 0, .int 0, .int 0, .int (-1), .ref m_ownLetters, .ref m_flats, .int 0, .ref m_corner, .ref m_wayX, .ref m_wayY, .ref m_normal, .ref m_low, .ref m_high, .ref m_clear, .ref m_ways, .ref m_canBe, .ref m_lain, .int 0, .ref m_fewestBy, .ref m_sortOf, .int 0, .ref m_seenFlange, .ref m_seenLength])), (m_read, .inl (g.2.1.1, 103, .inl f75)), (m_readNow, .inl (g.2.1.1, 21, .inl fn))] := hD
  refine lv_iinc (v := 75) (lv' := [(1, .int 75), (0, .ref h0)]) hx hb dX9_readsAll_15 hl (k := 0) rfl (by decide) (by decide) rfl (fun ls hl => ?_)
  refine lv_goto (tgt := 2) hx hb dX9_readsAll_18 (by decide) ?_
  refine lv_iload_n hx hb dX9_readsAll_2 rfl (lv_at hl 0 rfl) ?_
  refine lv_bipush (v := 103) hx hb dX9_readsAll_3 (by decide) ?_
  refine lv_icmp_ge (tgt := 21) hx hb dX9_readsAll_5 (by decide) (fun c5 => absurd c5 (by decide)) (fun c5 => ?_)
  refine lv_aload_n hx hb dX9_readsAll_8 rfl (lv_at hl 1 rfl) ?_
  refine va_get (D := g.1) (ci := 9) (v := .ref m_read) (C := RX9) (T := TX9) (N := 37) hx hb hG iX9 hown hX.1 hP 0 rfl rfl 1 (by decide) (hG _ g1418) (fun _ h9 => h9) rfl dX9_readsAll_9 ?_
  refine lv_iload_n hx hb dX9_readsAll_12 rfl (lv_at hl 0 rfl) ?_
  refine lv_iconst (v := 0) hx hb dX9_readsAll_13 (by decide) ?_
  refine va_iast hx hb hX.1 hP hD hS 1 0 rfl rfl (vp_in_iff.mpr (by decide)) dX9_readsAll_14 (fun H locs hP hD hS => ?_)
  obtain ⟨f76, ef76⟩ : ∃ z : Nat → Int32, z = upd f75 (75 : Int32).toNatClampNeg 0 := ⟨_, rfl⟩
  rw [← ef76] at hP hD
  have hP : va_P g.1 vwCl [(h0, .inr (9, [.ref m_told, .ref m_read, .ref m_now, .ref m_readNow, .ref m_kept, .int 0, .int 1, .int 0, .ref m_tape, .int 0, .ref m_refused, .int 0, .int (-1), .int 0, .int 0, .int 0, .int 0, .int (-1), .ref m_ownLetters, .ref m_flats, .int 0, .ref m_corner, .ref m_wayX, .ref m_wayY, .ref m_normal, .ref m_low, .ref m_high, .ref m_clear, .ref m_ways, .ref m_canBe, .ref m_lain, .int 0, .ref m_fewestBy, .ref m_sortOf, .int 0, .ref m_seenFlange, .ref m_seenLength])), (m_read, .inl (g.2.1.1, 103, .inl f76)), (m_readNow, .inl (g.2.1.1, 21, .inl fn))] H := hP
  have hD : va_D A [(h0, .inr (9, [.ref m_told, .ref m_read, .ref m_now, .ref m_readNow, .ref m_kept, .int 0, .int 1, .int 0, .ref m_tape, .int 0, .ref m_refused, .int 0, .int (-1), .int 0, .int 0, .int 0, .int 0, .int (-1), .ref m_ownLetters, .ref m_flats, .int 0, .ref m_corner, .ref m_wayX, .ref m_wayY, .ref m_normal, .ref m_low, .ref m_high, .ref m_clear, .ref m_ways, .ref m_canBe, .ref m_lain, .int 0, .ref m_fewestBy, .ref m_sortOf, .int 0, .ref m_seenFlange, .ref m_seenLength])), (m_read, .inl (g.2.1.1, 103, .inl f76)), (m_readNow, .inl (g.2.1.1, 21, .inl fn))] := hD
  refine lv_iinc (v := 76) (lv' := [(1, .int 76), (0, .ref h0)]) hx hb dX9_readsAll_15 hl (k := 0) rfl (by decide) (by decide) rfl (fun ls hl => ?_)
  refine lv_goto (tgt := 2) hx hb dX9_readsAll_18 (by decide) ?_
  refine lv_iload_n hx hb dX9_readsAll_2 rfl (lv_at hl 0 rfl) ?_
  refine lv_bipush (v := 103) hx hb dX9_readsAll_3 (by decide) ?_
  refine lv_icmp_ge (tgt := 21) hx hb dX9_readsAll_5 (by decide) (fun c5 => absurd c5 (by decide)) (fun c5 => ?_)
  refine lv_aload_n hx hb dX9_readsAll_8 rfl (lv_at hl 1 rfl) ?_
  refine va_get (D := g.1) (ci := 9) (v := .ref m_read) (C := RX9) (T := TX9) (N := 37) hx hb hG iX9 hown hX.1 hP 0 rfl rfl 1 (by decide) (hG _ g1418) (fun _ h9 => h9) rfl dX9_readsAll_9 ?_
  refine lv_iload_n hx hb dX9_readsAll_12 rfl (lv_at hl 0 rfl) ?_
  refine lv_iconst (v := 0) hx hb dX9_readsAll_13 (by decide) ?_
  refine va_iast hx hb hX.1 hP hD hS 1 0 rfl rfl (vp_in_iff.mpr (by decide)) dX9_readsAll_14 (fun H locs hP hD hS => ?_)
  obtain ⟨f77, ef77⟩ : ∃ z : Nat → Int32, z = upd f76 (76 : Int32).toNatClampNeg 0 := ⟨_, rfl⟩
  rw [← ef77] at hP hD
  have hP : va_P g.1 vwCl [(h0, .inr (9, [.ref m_told, .ref m_read, .ref m_now, .ref m_readNow, .ref m_kept, .int 0, .int 1, .int 0, .ref m_tape, .int 0, .ref m_refused, .int 0, .int (-1), .int 0, .int 0, .int 0, .int 0, .int (-1), .ref m_ownLetters, .ref m_flats, .int 0, .ref m_corner, .ref m_wayX, .ref m_wayY, .ref m_normal, .ref m_low, .ref m_high, .ref m_clear, .ref m_ways, .ref m_canBe, .ref m_lain, .int 0, .ref m_fewestBy, .ref m_sortOf, .int 0, .ref m_seenFlange, .ref m_seenLength])), (m_read, .inl (g.2.1.1, 103, .inl f77)), (m_readNow, .inl (g.2.1.1, 21, .inl fn))] H := hP
  have hD : va_D A [(h0, .inr (9, [.ref m_told, .ref m_read, .ref m_now, .ref m_readNow, .ref m_kept, .int 0, .int 1, .int 0, .ref m_tape, .int 0, .ref m_refused, .int 0, .int (-1), .int 0, .int 0, .int 0, .int 0, .int (-1), .ref m_ownLetters, .ref m_flats, .int 0, .ref m_corner, .ref m_wayX, .ref m_wayY, .ref m_normal, .ref m_low, .ref m_high, .ref m_clear, .ref m_ways, .ref m_canBe, .ref m_lain, .int 0, .ref m_fewestBy, .ref m_sortOf, .int 0, .ref m_seenFlange, .ref m_seenLength])), (m_read, .inl (g.2.1.1, 103, .inl f77)), (m_readNow, .inl (g.2.1.1, 21, .inl fn))] := hD
  refine lv_iinc (v := 77) (lv' := [(1, .int 77), (0, .ref h0)]) hx hb dX9_readsAll_15 hl (k := 0) rfl (by decide) (by decide) rfl (fun ls hl => ?_)
  refine lv_goto (tgt := 2) hx hb dX9_readsAll_18 (by decide) ?_
  refine lv_iload_n hx hb dX9_readsAll_2 rfl (lv_at hl 0 rfl) ?_
  refine lv_bipush (v := 103) hx hb dX9_readsAll_3 (by decide) ?_
  refine lv_icmp_ge (tgt := 21) hx hb dX9_readsAll_5 (by decide) (fun c5 => absurd c5 (by decide)) (fun c5 => ?_)
  refine lv_aload_n hx hb dX9_readsAll_8 rfl (lv_at hl 1 rfl) ?_
  refine va_get (D := g.1) (ci := 9) (v := .ref m_read) (C := RX9) (T := TX9) (N := 37) hx hb hG iX9 hown hX.1 hP 0 rfl rfl 1 (by decide) (hG _ g1418) (fun _ h9 => h9) rfl dX9_readsAll_9 ?_
  refine lv_iload_n hx hb dX9_readsAll_12 rfl (lv_at hl 0 rfl) ?_
  refine lv_iconst (v := 0) hx hb dX9_readsAll_13 (by decide) ?_
  refine va_iast hx hb hX.1 hP hD hS 1 0 rfl rfl (vp_in_iff.mpr (by decide)) dX9_readsAll_14 (fun H locs hP hD hS => ?_)
  obtain ⟨f78, ef78⟩ : ∃ z : Nat → Int32, z = upd f77 (77 : Int32).toNatClampNeg 0 := ⟨_, rfl⟩
  rw [← ef78] at hP hD
  have hP : va_P g.1 vwCl [(h0, .inr (9, [.ref m_told, .ref m_read, .ref m_now, .ref m_readNow, .ref m_kept, .int 0, .int 1, .int 0, .ref m_tape, .int 0, .ref m_refused, .int 0, .int (-1), .int 0, .int 0, .int 0, .int 0, .int (-1), .ref m_ownLetters, .ref m_flats, .int 0, .ref m_corner, .ref m_wayX, .ref m_wayY, .ref m_normal, .ref m_low, .ref m_high, .ref m_clear, .ref m_ways, .ref m_canBe, .ref m_lain, .int 0, .ref m_fewestBy, .ref m_sortOf, .int 0, .ref m_seenFlange, .ref m_seenLength])), (m_read, .inl (g.2.1.1, 103, .inl f78)), (m_readNow, .inl (g.2.1.1, 21, .inl fn))] H := hP
  have hD : va_D A [(h0, .inr (9, [.ref m_told, .ref m_read, .ref m_now, .ref m_readNow, .ref m_kept, .int 0, .int 1, .int 0, .ref m_tape, .int 0, .ref m_refused, .int 0, .int (-1), .int 0, .int 0, .int 0, .int 0, .int (-1), .ref m_ownLetters, .ref m_flats, .int 0, .ref m_corner, .ref m_wayX, .ref m_wayY, .ref m_normal, .ref m_low, .ref m_high, .ref m_clear, .ref m_ways, .ref m_canBe, .ref m_lain, .int 0, .ref m_fewestBy, .ref m_sortOf, .int 0, .ref m_seenFlange, .ref m_seenLength])), (m_read, .inl (g.2.1.1, 103, .inl f78)), (m_readNow, .inl (g.2.1.1, 21, .inl fn))] := hD
  refine lv_iinc (v := 78) (lv' := [(1, .int 78), (0, .ref h0)]) hx hb dX9_readsAll_15 hl (k := 0) rfl (by decide) (by decide) rfl (fun ls hl => ?_)
  refine lv_goto (tgt := 2) hx hb dX9_readsAll_18 (by decide) ?_
  refine lv_iload_n hx hb dX9_readsAll_2 rfl (lv_at hl 0 rfl) ?_
  refine lv_bipush (v := 103) hx hb dX9_readsAll_3 (by decide) ?_
  refine lv_icmp_ge (tgt := 21) hx hb dX9_readsAll_5 (by decide) (fun c5 => absurd c5 (by decide)) (fun c5 => ?_)
  refine lv_aload_n hx hb dX9_readsAll_8 rfl (lv_at hl 1 rfl) ?_
  refine va_get (D := g.1) (ci := 9) (v := .ref m_read) (C := RX9) (T := TX9) (N := 37) hx hb hG iX9 hown hX.1 hP 0 rfl rfl 1 (by decide) (hG _ g1418) (fun _ h9 => h9) rfl dX9_readsAll_9 ?_
  refine lv_iload_n hx hb dX9_readsAll_12 rfl (lv_at hl 0 rfl) ?_
  refine lv_iconst (v := 0) hx hb dX9_readsAll_13 (by decide) ?_
  refine va_iast hx hb hX.1 hP hD hS 1 0 rfl rfl (vp_in_iff.mpr (by decide)) dX9_readsAll_14 (fun H locs hP hD hS => ?_)
  obtain ⟨f79, ef79⟩ : ∃ z : Nat → Int32, z = upd f78 (78 : Int32).toNatClampNeg 0 := ⟨_, rfl⟩
  rw [← ef79] at hP hD
  have hP : va_P g.1 vwCl [(h0, .inr (9, [.ref m_told, .ref m_read, .ref m_now, .ref m_readNow, .ref m_kept, .int 0, .int 1, .int 0, .ref m_tape, .int 0, .ref m_refused, .int 0, .int (-1), .int 0, .int 0, .int 0, .int 0, .int (-1), .ref m_ownLetters, .ref m_flats, .int 0, .ref m_corner, .ref m_wayX, .ref m_wayY, .ref m_normal, .ref m_low, .ref m_high, .ref m_clear, .ref m_ways, .ref m_canBe, .ref m_lain, .int 0, .ref m_fewestBy, .ref m_sortOf, .int 0, .ref m_seenFlange, .ref m_seenLength])), (m_read, .inl (g.2.1.1, 103, .inl f79)), (m_readNow, .inl (g.2.1.1, 21, .inl fn))] H := hP
  have hD : va_D A [(h0, .inr (9, [.ref m_told, .ref m_read, .ref m_now, .ref m_readNow, .ref m_kept, .int 0, .int 1, .int 0, .ref m_tape, .int 0, .ref m_refused, .int 0, .int (-1), .int 0, .int 0, .int 0, .int 0, .int (-1), .ref m_ownLetters, .ref m_flats, .int 0, .ref m_corner, .ref m_wayX, .ref m_wayY, .ref m_normal, .ref m_low, .ref m_high, .ref m_clear, .ref m_ways, .ref m_canBe, .ref m_lain, .int 0, .ref m_fewestBy, .ref m_sortOf, .int 0, .ref m_seenFlange, .ref m_seenLength])), (m_read, .inl (g.2.1.1, 103, .inl f79)), (m_readNow, .inl (g.2.1.1, 21, .inl fn))] := hD
  refine lv_iinc (v := 79) (lv' := [(1, .int 79), (0, .ref h0)]) hx hb dX9_readsAll_15 hl (k := 0) rfl (by decide) (by decide) rfl (fun ls hl => ?_)
  refine lv_goto (tgt := 2) hx hb dX9_readsAll_18 (by decide) ?_
  refine lv_iload_n hx hb dX9_readsAll_2 rfl (lv_at hl 0 rfl) ?_
  refine lv_bipush (v := 103) hx hb dX9_readsAll_3 (by decide) ?_
  refine lv_icmp_ge (tgt := 21) hx hb dX9_readsAll_5 (by decide) (fun c5 => absurd c5 (by decide)) (fun c5 => ?_)
  refine lv_aload_n hx hb dX9_readsAll_8 rfl (lv_at hl 1 rfl) ?_
  refine va_get (D := g.1) (ci := 9) (v := .ref m_read) (C := RX9) (T := TX9) (N := 37) hx hb hG iX9 hown hX.1 hP 0 rfl rfl 1 (by decide) (hG _ g1418) (fun _ h9 => h9) rfl dX9_readsAll_9 ?_
  refine lv_iload_n hx hb dX9_readsAll_12 rfl (lv_at hl 0 rfl) ?_
  refine lv_iconst (v := 0) hx hb dX9_readsAll_13 (by decide) ?_
  refine va_iast hx hb hX.1 hP hD hS 1 0 rfl rfl (vp_in_iff.mpr (by decide)) dX9_readsAll_14 (fun H locs hP hD hS => ?_)
  obtain ⟨f80, ef80⟩ : ∃ z : Nat → Int32, z = upd f79 (79 : Int32).toNatClampNeg 0 := ⟨_, rfl⟩
  rw [← ef80] at hP hD
  have hP : va_P g.1 vwCl [(h0, .inr (9, [.ref m_told, .ref m_read, .ref m_now, .ref m_readNow, .ref m_kept, .int 0, .int 1, .int 0, .ref m_tape, .int 0, .ref m_refused, .int 0, .int (-1), .int 0, .int 0, .int 0, .int 0, .int (-1), .ref m_ownLetters, .ref m_flats, .int 0, .ref m_corner, .ref m_wayX, .ref m_wayY, .ref m_normal, .ref m_low, .ref m_high, .ref m_clear, .ref m_ways, .ref m_canBe, .ref m_lain, .int 0, .ref m_fewestBy, .ref m_sortOf, .int 0, .ref m_seenFlange, .ref m_seenLength])), (m_read, .inl (g.2.1.1, 103, .inl f80)), (m_readNow, .inl (g.2.1.1, 21, .inl fn))] H := hP
  have hD : va_D A [(h0, .inr (9, [.ref m_told, .ref m_read, .ref m_now, .ref m_readNow, .ref m_kept, .int 0, .int 1, .int 0, .ref m_tape, .int 0, .ref m_refused, .int 0, .int (-1), .int 0, .int 0, .int 0, .int 0, .int (-1), .ref m_ownLetters, .ref m_flats, .int 0, .ref m_corner, .ref m_wayX, .ref m_wayY, .ref m_normal, .ref m_low, .ref m_high, .ref m_clear, .ref m_ways, .ref m_canBe, .ref m_lain, .int 0, .ref m_fewestBy, .ref m_sortOf, .int 0, .ref m_seenFlange, .ref m_seenLength])), (m_read, .inl (g.2.1.1, 103, .inl f80)), (m_readNow, .inl (g.2.1.1, 21, .inl fn))] := hD
  refine lv_iinc (v := 80) (lv' := [(1, .int 80), (0, .ref h0)]) hx hb dX9_readsAll_15 hl (k := 0) rfl (by decide) (by decide) rfl (fun ls hl => ?_)
  refine lv_goto (tgt := 2) hx hb dX9_readsAll_18 (by decide) ?_
  refine lv_iload_n hx hb dX9_readsAll_2 rfl (lv_at hl 0 rfl) ?_
  refine lv_bipush (v := 103) hx hb dX9_readsAll_3 (by decide) ?_
  refine lv_icmp_ge (tgt := 21) hx hb dX9_readsAll_5 (by decide) (fun c5 => absurd c5 (by decide)) (fun c5 => ?_)
  refine lv_aload_n hx hb dX9_readsAll_8 rfl (lv_at hl 1 rfl) ?_
  refine va_get (D := g.1) (ci := 9) (v := .ref m_read) (C := RX9) (T := TX9) (N := 37) hx hb hG iX9 hown hX.1 hP 0 rfl rfl 1 (by decide) (hG _ g1418) (fun _ h9 => h9) rfl dX9_readsAll_9 ?_
  refine lv_iload_n hx hb dX9_readsAll_12 rfl (lv_at hl 0 rfl) ?_
  refine lv_iconst (v := 0) hx hb dX9_readsAll_13 (by decide) ?_
  refine va_iast hx hb hX.1 hP hD hS 1 0 rfl rfl (vp_in_iff.mpr (by decide)) dX9_readsAll_14 (fun H locs hP hD hS => ?_)
  obtain ⟨f81, ef81⟩ : ∃ z : Nat → Int32, z = upd f80 (80 : Int32).toNatClampNeg 0 := ⟨_, rfl⟩
  rw [← ef81] at hP hD
  have hP : va_P g.1 vwCl [(h0, .inr (9, [.ref m_told, .ref m_read, .ref m_now, .ref m_readNow, .ref m_kept, .int 0, .int 1, .int 0, .ref m_tape, .int 0, .ref m_refused, .int 0, .int (-1), .int 0, .int 0, .int 0, .int 0, .int (-1), .ref m_ownLetters, .ref m_flats, .int 0, .ref m_corner, .ref m_wayX, .ref m_wayY, .ref m_normal, .ref m_low, .ref m_high, .ref m_clear, .ref m_ways, .ref m_canBe, .ref m_lain, .int 0, .ref m_fewestBy, .ref m_sortOf, .int 0, .ref m_seenFlange, .ref m_seenLength])), (m_read, .inl (g.2.1.1, 103, .inl f81)), (m_readNow, .inl (g.2.1.1, 21, .inl fn))] H := hP
  have hD : va_D A [(h0, .inr (9, [.ref m_told, .ref m_read, .ref m_now, .ref m_readNow, .ref m_kept, .int 0, .int 1, .int 0, .ref m_tape, .int 0, .ref m_refused, .int 0, .int (-1), .int 0, .int 0, .int 0, .int 0, .int (-1), .ref m_ownLetters, .ref m_flats, .int 0, .ref m_corner, .ref m_wayX, .ref m_wayY, .ref m_normal, .ref m_low, .ref m_high, .ref m_clear, .ref m_ways, .ref m_canBe, .ref m_lain, .int 0, .ref m_fewestBy, .ref m_sortOf, .int 0, .ref m_seenFlange, .ref m_seenLength])), (m_read, .inl (g.2.1.1, 103, .inl f81)), (m_readNow, .inl (g.2.1.1, 21, .inl fn))] := hD
  refine lv_iinc (v := 81) (lv' := [(1, .int 81), (0, .ref h0)]) hx hb dX9_readsAll_15 hl (k := 0) rfl (by decide) (by decide) rfl (fun ls hl => ?_)
  refine lv_goto (tgt := 2) hx hb dX9_readsAll_18 (by decide) ?_
  refine lv_iload_n hx hb dX9_readsAll_2 rfl (lv_at hl 0 rfl) ?_
  refine lv_bipush (v := 103) hx hb dX9_readsAll_3 (by decide) ?_
  refine lv_icmp_ge (tgt := 21) hx hb dX9_readsAll_5 (by decide) (fun c5 => absurd c5 (by decide)) (fun c5 => ?_)
  refine lv_aload_n hx hb dX9_readsAll_8 rfl (lv_at hl 1 rfl) ?_
  refine va_get (D := g.1) (ci := 9) (v := .ref m_read) (C := RX9) (T := TX9) (N := 37) hx hb hG iX9 hown hX.1 hP 0 rfl rfl 1 (by decide) (hG _ g1418) (fun _ h9 => h9) rfl dX9_readsAll_9 ?_
  refine lv_iload_n hx hb dX9_readsAll_12 rfl (lv_at hl 0 rfl) ?_
  refine lv_iconst (v := 0) hx hb dX9_readsAll_13 (by decide) ?_
  refine va_iast hx hb hX.1 hP hD hS 1 0 rfl rfl (vp_in_iff.mpr (by decide)) dX9_readsAll_14 (fun H locs hP hD hS => ?_)
  obtain ⟨f82, ef82⟩ : ∃ z : Nat → Int32, z = upd f81 (81 : Int32).toNatClampNeg 0 := ⟨_, rfl⟩
  rw [← ef82] at hP hD
  have hP : va_P g.1 vwCl [(h0, .inr (9, [.ref m_told, .ref m_read, .ref m_now, .ref m_readNow, .ref m_kept, .int 0, .int 1, .int 0, .ref m_tape, .int 0, .ref m_refused, .int 0, .int (-1), .int 0, .int 0, .int 0, .int 0, .int (-1), .ref m_ownLetters, .ref m_flats, .int 0, .ref m_corner, .ref m_wayX, .ref m_wayY, .ref m_normal, .ref m_low, .ref m_high, .ref m_clear, .ref m_ways, .ref m_canBe, .ref m_lain, .int 0, .ref m_fewestBy, .ref m_sortOf, .int 0, .ref m_seenFlange, .ref m_seenLength])), (m_read, .inl (g.2.1.1, 103, .inl f82)), (m_readNow, .inl (g.2.1.1, 21, .inl fn))] H := hP
  have hD : va_D A [(h0, .inr (9, [.ref m_told, .ref m_read, .ref m_now, .ref m_readNow, .ref m_kept, .int 0, .int 1, .int 0, .ref m_tape, .int 0, .ref m_refused, .int 0, .int (-1), .int 0, .int 0, .int 0, .int 0, .int (-1), .ref m_ownLetters, .ref m_flats, .int 0, .ref m_corner, .ref m_wayX, .ref m_wayY, .ref m_normal, .ref m_low, .ref m_high, .ref m_clear, .ref m_ways, .ref m_canBe, .ref m_lain, .int 0, .ref m_fewestBy, .ref m_sortOf, .int 0, .ref m_seenFlange, .ref m_seenLength])), (m_read, .inl (g.2.1.1, 103, .inl f82)), (m_readNow, .inl (g.2.1.1, 21, .inl fn))] := hD
  refine lv_iinc (v := 82) (lv' := [(1, .int 82), (0, .ref h0)]) hx hb dX9_readsAll_15 hl (k := 0) rfl (by decide) (by decide) rfl (fun ls hl => ?_)
  refine lv_goto (tgt := 2) hx hb dX9_readsAll_18 (by decide) ?_
  refine lv_iload_n hx hb dX9_readsAll_2 rfl (lv_at hl 0 rfl) ?_
  refine lv_bipush (v := 103) hx hb dX9_readsAll_3 (by decide) ?_
  refine lv_icmp_ge (tgt := 21) hx hb dX9_readsAll_5 (by decide) (fun c5 => absurd c5 (by decide)) (fun c5 => ?_)
  refine lv_aload_n hx hb dX9_readsAll_8 rfl (lv_at hl 1 rfl) ?_
  refine va_get (D := g.1) (ci := 9) (v := .ref m_read) (C := RX9) (T := TX9) (N := 37) hx hb hG iX9 hown hX.1 hP 0 rfl rfl 1 (by decide) (hG _ g1418) (fun _ h9 => h9) rfl dX9_readsAll_9 ?_
  refine lv_iload_n hx hb dX9_readsAll_12 rfl (lv_at hl 0 rfl) ?_
  refine lv_iconst (v := 0) hx hb dX9_readsAll_13 (by decide) ?_
  refine va_iast hx hb hX.1 hP hD hS 1 0 rfl rfl (vp_in_iff.mpr (by decide)) dX9_readsAll_14 (fun H locs hP hD hS => ?_)
  obtain ⟨f83, ef83⟩ : ∃ z : Nat → Int32, z = upd f82 (82 : Int32).toNatClampNeg 0 := ⟨_, rfl⟩
  rw [← ef83] at hP hD
  have hP : va_P g.1 vwCl [(h0, .inr (9, [.ref m_told, .ref m_read, .ref m_now, .ref m_readNow, .ref m_kept, .int 0, .int 1, .int 0, .ref m_tape, .int 0, .ref m_refused, .int 0, .int (-1), .int 0, .int 0, .int 0, .int 0, .int (-1), .ref m_ownLetters, .ref m_flats, .int 0, .ref m_corner, .ref m_wayX, .ref m_wayY, .ref m_normal, .ref m_low, .ref m_high, .ref m_clear, .ref m_ways, .ref m_canBe, .ref m_lain, .int 0, .ref m_fewestBy, .ref m_sortOf, .int 0, .ref m_seenFlange, .ref m_seenLength])), (m_read, .inl (g.2.1.1, 103, .inl f83)), (m_readNow, .inl (g.2.1.1, 21, .inl fn))] H := hP
  have hD : va_D A [(h0, .inr (9, [.ref m_told, .ref m_read, .ref m_now, .ref m_readNow, .ref m_kept, .int 0, .int 1, .int 0, .ref m_tape, .int 0, .ref m_refused, .int 0, .int (-1), .int 0, .int 0, .int 0, .int 0, .int (-1), .ref m_ownLetters, .ref m_flats, .int 0, .ref m_corner, .ref m_wayX, .ref m_wayY, .ref m_normal, .ref m_low, .ref m_high, .ref m_clear, .ref m_ways, .ref m_canBe, .ref m_lain, .int 0, .ref m_fewestBy, .ref m_sortOf, .int 0, .ref m_seenFlange, .ref m_seenLength])), (m_read, .inl (g.2.1.1, 103, .inl f83)), (m_readNow, .inl (g.2.1.1, 21, .inl fn))] := hD
  refine lv_iinc (v := 83) (lv' := [(1, .int 83), (0, .ref h0)]) hx hb dX9_readsAll_15 hl (k := 0) rfl (by decide) (by decide) rfl (fun ls hl => ?_)
  refine lv_goto (tgt := 2) hx hb dX9_readsAll_18 (by decide) ?_
  refine lv_iload_n hx hb dX9_readsAll_2 rfl (lv_at hl 0 rfl) ?_
  refine lv_bipush (v := 103) hx hb dX9_readsAll_3 (by decide) ?_
  refine lv_icmp_ge (tgt := 21) hx hb dX9_readsAll_5 (by decide) (fun c5 => absurd c5 (by decide)) (fun c5 => ?_)
  refine lv_aload_n hx hb dX9_readsAll_8 rfl (lv_at hl 1 rfl) ?_
  refine va_get (D := g.1) (ci := 9) (v := .ref m_read) (C := RX9) (T := TX9) (N := 37) hx hb hG iX9 hown hX.1 hP 0 rfl rfl 1 (by decide) (hG _ g1418) (fun _ h9 => h9) rfl dX9_readsAll_9 ?_
  refine lv_iload_n hx hb dX9_readsAll_12 rfl (lv_at hl 0 rfl) ?_
  refine lv_iconst (v := 0) hx hb dX9_readsAll_13 (by decide) ?_
  refine va_iast hx hb hX.1 hP hD hS 1 0 rfl rfl (vp_in_iff.mpr (by decide)) dX9_readsAll_14 (fun H locs hP hD hS => ?_)
  obtain ⟨f84, ef84⟩ : ∃ z : Nat → Int32, z = upd f83 (83 : Int32).toNatClampNeg 0 := ⟨_, rfl⟩
  rw [← ef84] at hP hD
  have hP : va_P g.1 vwCl [(h0, .inr (9, [.ref m_told, .ref m_read, .ref m_now, .ref m_readNow, .ref m_kept, .int 0, .int 1, .int 0, .ref m_tape, .int 0, .ref m_refused, .int 0, .int (-1), .int 0, .int 0, .int 0, .int 0, .int (-1), .ref m_ownLetters, .ref m_flats, .int 0, .ref m_corner, .ref m_wayX, .ref m_wayY, .ref m_normal, .ref m_low, .ref m_high, .ref m_clear, .ref m_ways, .ref m_canBe, .ref m_lain, .int 0, .ref m_fewestBy, .ref m_sortOf, .int 0, .ref m_seenFlange, .ref m_seenLength])), (m_read, .inl (g.2.1.1, 103, .inl f84)), (m_readNow, .inl (g.2.1.1, 21, .inl fn))] H := hP
  have hD : va_D A [(h0, .inr (9, [.ref m_told, .ref m_read, .ref m_now, .ref m_readNow, .ref m_kept, .int 0, .int 1, .int 0, .ref m_tape, .int 0, .ref m_refused, .int 0, .int (-1), .int 0, .int 0, .int 0, .int 0, .int (-1), .ref m_ownLetters, .ref m_flats, .int 0, .ref m_corner, .ref m_wayX, .ref m_wayY, .ref m_normal, .ref m_low, .ref m_high, .ref m_clear, .ref m_ways, .ref m_canBe, .ref m_lain, .int 0, .ref m_fewestBy, .ref m_sortOf, .int 0, .ref m_seenFlange, .ref m_seenLength])), (m_read, .inl (g.2.1.1, 103, .inl f84)), (m_readNow, .inl (g.2.1.1, 21, .inl fn))] := hD
  refine lv_iinc (v := 84) (lv' := [(1, .int 84), (0, .ref h0)]) hx hb dX9_readsAll_15 hl (k := 0) rfl (by decide) (by decide) rfl (fun ls hl => ?_)
  refine lv_goto (tgt := 2) hx hb dX9_readsAll_18 (by decide) ?_
  refine lv_iload_n hx hb dX9_readsAll_2 rfl (lv_at hl 0 rfl) ?_
  refine lv_bipush (v := 103) hx hb dX9_readsAll_3 (by decide) ?_
  refine lv_icmp_ge (tgt := 21) hx hb dX9_readsAll_5 (by decide) (fun c5 => absurd c5 (by decide)) (fun c5 => ?_)
  refine lv_aload_n hx hb dX9_readsAll_8 rfl (lv_at hl 1 rfl) ?_
  refine va_get (D := g.1) (ci := 9) (v := .ref m_read) (C := RX9) (T := TX9) (N := 37) hx hb hG iX9 hown hX.1 hP 0 rfl rfl 1 (by decide) (hG _ g1418) (fun _ h9 => h9) rfl dX9_readsAll_9 ?_
  refine lv_iload_n hx hb dX9_readsAll_12 rfl (lv_at hl 0 rfl) ?_
  refine lv_iconst (v := 0) hx hb dX9_readsAll_13 (by decide) ?_
  refine va_iast hx hb hX.1 hP hD hS 1 0 rfl rfl (vp_in_iff.mpr (by decide)) dX9_readsAll_14 (fun H locs hP hD hS => ?_)
  obtain ⟨f85, ef85⟩ : ∃ z : Nat → Int32, z = upd f84 (84 : Int32).toNatClampNeg 0 := ⟨_, rfl⟩
  rw [← ef85] at hP hD
  have hP : va_P g.1 vwCl [(h0, .inr (9, [.ref m_told, .ref m_read, .ref m_now, .ref m_readNow, .ref m_kept, .int 0, .int 1, .int 0, .ref m_tape, .int 0, .ref m_refused, .int 0, .int (-1), .int 0, .int 0, .int 0, .int 0, .int (-1), .ref m_ownLetters, .ref m_flats, .int 0, .ref m_corner, .ref m_wayX, .ref m_wayY, .ref m_normal, .ref m_low, .ref m_high, .ref m_clear, .ref m_ways, .ref m_canBe, .ref m_lain, .int 0, .ref m_fewestBy, .ref m_sortOf, .int 0, .ref m_seenFlange, .ref m_seenLength])), (m_read, .inl (g.2.1.1, 103, .inl f85)), (m_readNow, .inl (g.2.1.1, 21, .inl fn))] H := hP
  have hD : va_D A [(h0, .inr (9, [.ref m_told, .ref m_read, .ref m_now, .ref m_readNow, .ref m_kept, .int 0, .int 1, .int 0, .ref m_tape, .int 0, .ref m_refused, .int 0, .int (-1), .int 0, .int 0, .int 0, .int 0, .int (-1), .ref m_ownLetters, .ref m_flats, .int 0, .ref m_corner, .ref m_wayX, .ref m_wayY, .ref m_normal, .ref m_low, .ref m_high, .ref m_clear, .ref m_ways, .ref m_canBe, .ref m_lain, .int 0, .ref m_fewestBy, .ref m_sortOf, .int 0, .ref m_seenFlange, .ref m_seenLength])), (m_read, .inl (g.2.1.1, 103, .inl f85)), (m_readNow, .inl (g.2.1.1, 21, .inl fn))] := hD
  refine lv_iinc (v := 85) (lv' := [(1, .int 85), (0, .ref h0)]) hx hb dX9_readsAll_15 hl (k := 0) rfl (by decide) (by decide) rfl (fun ls hl => ?_)
  refine lv_goto (tgt := 2) hx hb dX9_readsAll_18 (by decide) ?_
  refine lv_iload_n hx hb dX9_readsAll_2 rfl (lv_at hl 0 rfl) ?_
  refine lv_bipush (v := 103) hx hb dX9_readsAll_3 (by decide) ?_
  refine lv_icmp_ge (tgt := 21) hx hb dX9_readsAll_5 (by decide) (fun c5 => absurd c5 (by decide)) (fun c5 => ?_)
  refine lv_aload_n hx hb dX9_readsAll_8 rfl (lv_at hl 1 rfl) ?_
  refine va_get (D := g.1) (ci := 9) (v := .ref m_read) (C := RX9) (T := TX9) (N := 37) hx hb hG iX9 hown hX.1 hP 0 rfl rfl 1 (by decide) (hG _ g1418) (fun _ h9 => h9) rfl dX9_readsAll_9 ?_
  refine lv_iload_n hx hb dX9_readsAll_12 rfl (lv_at hl 0 rfl) ?_
  refine lv_iconst (v := 0) hx hb dX9_readsAll_13 (by decide) ?_
  refine va_iast hx hb hX.1 hP hD hS 1 0 rfl rfl (vp_in_iff.mpr (by decide)) dX9_readsAll_14 (fun H locs hP hD hS => ?_)
  obtain ⟨f86, ef86⟩ : ∃ z : Nat → Int32, z = upd f85 (85 : Int32).toNatClampNeg 0 := ⟨_, rfl⟩
  rw [← ef86] at hP hD
  have hP : va_P g.1 vwCl [(h0, .inr (9, [.ref m_told, .ref m_read, .ref m_now, .ref m_readNow, .ref m_kept, .int 0, .int 1, .int 0, .ref m_tape, .int 0, .ref m_refused, .int 0, .int (-1), .int 0, .int 0, .int 0, .int 0, .int (-1), .ref m_ownLetters, .ref m_flats, .int 0, .ref m_corner, .ref m_wayX, .ref m_wayY, .ref m_normal, .ref m_low, .ref m_high, .ref m_clear, .ref m_ways, .ref m_canBe, .ref m_lain, .int 0, .ref m_fewestBy, .ref m_sortOf, .int 0, .ref m_seenFlange, .ref m_seenLength])), (m_read, .inl (g.2.1.1, 103, .inl f86)), (m_readNow, .inl (g.2.1.1, 21, .inl fn))] H := hP
  have hD : va_D A [(h0, .inr (9, [.ref m_told, .ref m_read, .ref m_now, .ref m_readNow, .ref m_kept, .int 0, .int 1, .int 0, .ref m_tape, .int 0, .ref m_refused, .int 0, .int (-1), .int 0, .int 0, .int 0, .int 0, .int (-1), .ref m_ownLetters, .ref m_flats, .int 0, .ref m_corner, .ref m_wayX, .ref m_wayY, .ref m_normal, .ref m_low, .ref m_high, .ref m_clear, .ref m_ways, .ref m_canBe, .ref m_lain, .int 0, .ref m_fewestBy, .ref m_sortOf, .int 0, .ref m_seenFlange, .ref m_seenLength])), (m_read, .inl (g.2.1.1, 103, .inl f86)), (m_readNow, .inl (g.2.1.1, 21, .inl fn))] := hD
  refine lv_iinc (v := 86) (lv' := [(1, .int 86), (0, .ref h0)]) hx hb dX9_readsAll_15 hl (k := 0) rfl (by decide) (by decide) rfl (fun ls hl => ?_)
  refine lv_goto (tgt := 2) hx hb dX9_readsAll_18 (by decide) ?_
  refine lv_iload_n hx hb dX9_readsAll_2 rfl (lv_at hl 0 rfl) ?_
  refine lv_bipush (v := 103) hx hb dX9_readsAll_3 (by decide) ?_
  refine lv_icmp_ge (tgt := 21) hx hb dX9_readsAll_5 (by decide) (fun c5 => absurd c5 (by decide)) (fun c5 => ?_)
  refine lv_aload_n hx hb dX9_readsAll_8 rfl (lv_at hl 1 rfl) ?_
  refine va_get (D := g.1) (ci := 9) (v := .ref m_read) (C := RX9) (T := TX9) (N := 37) hx hb hG iX9 hown hX.1 hP 0 rfl rfl 1 (by decide) (hG _ g1418) (fun _ h9 => h9) rfl dX9_readsAll_9 ?_
  refine lv_iload_n hx hb dX9_readsAll_12 rfl (lv_at hl 0 rfl) ?_
  refine lv_iconst (v := 0) hx hb dX9_readsAll_13 (by decide) ?_
  refine va_iast hx hb hX.1 hP hD hS 1 0 rfl rfl (vp_in_iff.mpr (by decide)) dX9_readsAll_14 (fun H locs hP hD hS => ?_)
  obtain ⟨f87, ef87⟩ : ∃ z : Nat → Int32, z = upd f86 (86 : Int32).toNatClampNeg 0 := ⟨_, rfl⟩
  rw [← ef87] at hP hD
  have hP : va_P g.1 vwCl [(h0, .inr (9, [.ref m_told, .ref m_read, .ref m_now, .ref m_readNow, .ref m_kept, .int 0, .int 1, .int 0, .ref m_tape, .int 0, .ref m_refused, .int 0, .int (-1), .int 0, .int 0, .int 0, .int 0, .int (-1), .ref m_ownLetters, .ref m_flats, .int 0, .ref m_corner, .ref m_wayX, .ref m_wayY, .ref m_normal, .ref m_low, .ref m_high, .ref m_clear, .ref m_ways, .ref m_canBe, .ref m_lain, .int 0, .ref m_fewestBy, .ref m_sortOf, .int 0, .ref m_seenFlange, .ref m_seenLength])), (m_read, .inl (g.2.1.1, 103, .inl f87)), (m_readNow, .inl (g.2.1.1, 21, .inl fn))] H := hP
  have hD : va_D A [(h0, .inr (9, [.ref m_told, .ref m_read, .ref m_now, .ref m_readNow, .ref m_kept, .int 0, .int 1, .int 0, .ref m_tape, .int 0, .ref m_refused, .int 0, .int (-1), .int 0, .int 0, .int 0, .int 0, .int (-1), .ref m_ownLetters, .ref m_flats, .int 0, .ref m_corner, .ref m_wayX, .ref m_wayY, .ref m_normal, .ref m_low, .ref m_high, .ref m_clear, .ref m_ways, .ref m_canBe, .ref m_lain, .int 0, .ref m_fewestBy, .ref m_sortOf, .int 0, .ref m_seenFlange, .ref m_seenLength])), (m_read, .inl (g.2.1.1, 103, .inl f87)), (m_readNow, .inl (g.2.1.1, 21, .inl fn))] := hD
  refine lv_iinc (v := 87) (lv' := [(1, .int 87), (0, .ref h0)]) hx hb dX9_readsAll_15 hl (k := 0) rfl (by decide) (by decide) rfl (fun ls hl => ?_)
  refine lv_goto (tgt := 2) hx hb dX9_readsAll_18 (by decide) ?_
  refine lv_iload_n hx hb dX9_readsAll_2 rfl (lv_at hl 0 rfl) ?_
  refine lv_bipush (v := 103) hx hb dX9_readsAll_3 (by decide) ?_
  refine lv_icmp_ge (tgt := 21) hx hb dX9_readsAll_5 (by decide) (fun c5 => absurd c5 (by decide)) (fun c5 => ?_)
  refine lv_aload_n hx hb dX9_readsAll_8 rfl (lv_at hl 1 rfl) ?_
  refine va_get (D := g.1) (ci := 9) (v := .ref m_read) (C := RX9) (T := TX9) (N := 37) hx hb hG iX9 hown hX.1 hP 0 rfl rfl 1 (by decide) (hG _ g1418) (fun _ h9 => h9) rfl dX9_readsAll_9 ?_
  refine lv_iload_n hx hb dX9_readsAll_12 rfl (lv_at hl 0 rfl) ?_
  refine lv_iconst (v := 0) hx hb dX9_readsAll_13 (by decide) ?_
  refine va_iast hx hb hX.1 hP hD hS 1 0 rfl rfl (vp_in_iff.mpr (by decide)) dX9_readsAll_14 (fun H locs hP hD hS => ?_)
  obtain ⟨f88, ef88⟩ : ∃ z : Nat → Int32, z = upd f87 (87 : Int32).toNatClampNeg 0 := ⟨_, rfl⟩
  rw [← ef88] at hP hD
  have hP : va_P g.1 vwCl [(h0, .inr (9, [.ref m_told, .ref m_read, .ref m_now, .ref m_readNow, .ref m_kept, .int 0, .int 1, .int 0, .ref m_tape, .int 0, .ref m_refused, .int 0, .int (-1), .int 0, .int 0, .int 0, .int 0, .int (-1), .ref m_ownLetters, .ref m_flats, .int 0, .ref m_corner, .ref m_wayX, .ref m_wayY, .ref m_normal, .ref m_low, .ref m_high, .ref m_clear, .ref m_ways, .ref m_canBe, .ref m_lain, .int 0, .ref m_fewestBy, .ref m_sortOf, .int 0, .ref m_seenFlange, .ref m_seenLength])), (m_read, .inl (g.2.1.1, 103, .inl f88)), (m_readNow, .inl (g.2.1.1, 21, .inl fn))] H := hP
  have hD : va_D A [(h0, .inr (9, [.ref m_told, .ref m_read, .ref m_now, .ref m_readNow, .ref m_kept, .int 0, .int 1, .int 0, .ref m_tape, .int 0, .ref m_refused, .int 0, .int (-1), .int 0, .int 0, .int 0, .int 0, .int (-1), .ref m_ownLetters, .ref m_flats, .int 0, .ref m_corner, .ref m_wayX, .ref m_wayY, .ref m_normal, .ref m_low, .ref m_high, .ref m_clear, .ref m_ways, .ref m_canBe, .ref m_lain, .int 0, .ref m_fewestBy, .ref m_sortOf, .int 0, .ref m_seenFlange, .ref m_seenLength])), (m_read, .inl (g.2.1.1, 103, .inl f88)), (m_readNow, .inl (g.2.1.1, 21, .inl fn))] := hD
  refine lv_iinc (v := 88) (lv' := [(1, .int 88), (0, .ref h0)]) hx hb dX9_readsAll_15 hl (k := 0) rfl (by decide) (by decide) rfl (fun ls hl => ?_)
  refine lv_goto (tgt := 2) hx hb dX9_readsAll_18 (by decide) ?_
  refine lv_iload_n hx hb dX9_readsAll_2 rfl (lv_at hl 0 rfl) ?_
  refine lv_bipush (v := 103) hx hb dX9_readsAll_3 (by decide) ?_
  refine lv_icmp_ge (tgt := 21) hx hb dX9_readsAll_5 (by decide) (fun c5 => absurd c5 (by decide)) (fun c5 => ?_)
  refine lv_aload_n hx hb dX9_readsAll_8 rfl (lv_at hl 1 rfl) ?_
  refine va_get (D := g.1) (ci := 9) (v := .ref m_read) (C := RX9) (T := TX9) (N := 37) hx hb hG iX9 hown hX.1 hP 0 rfl rfl 1 (by decide) (hG _ g1418) (fun _ h9 => h9) rfl dX9_readsAll_9 ?_
  refine lv_iload_n hx hb dX9_readsAll_12 rfl (lv_at hl 0 rfl) ?_
  refine lv_iconst (v := 0) hx hb dX9_readsAll_13 (by decide) ?_
  refine va_iast hx hb hX.1 hP hD hS 1 0 rfl rfl (vp_in_iff.mpr (by decide)) dX9_readsAll_14 (fun H locs hP hD hS => ?_)
  obtain ⟨f89, ef89⟩ : ∃ z : Nat → Int32, z = upd f88 (88 : Int32).toNatClampNeg 0 := ⟨_, rfl⟩
  rw [← ef89] at hP hD
  have hP : va_P g.1 vwCl [(h0, .inr (9, [.ref m_told, .ref m_read, .ref m_now, .ref m_readNow, .ref m_kept, .int 0, .int 1, .int 0, .ref m_tape, .int 0, .ref m_refused, .int 0, .int (-1), .int 0, .int 0, .int 0, .int 0, .int (-1), .ref m_ownLetters, .ref m_flats, .int 0, .ref m_corner, .ref m_wayX, .ref m_wayY, .ref m_normal, .ref m_low, .ref m_high, .ref m_clear, .ref m_ways, .ref m_canBe, .ref m_lain, .int 0, .ref m_fewestBy, .ref m_sortOf, .int 0, .ref m_seenFlange, .ref m_seenLength])), (m_read, .inl (g.2.1.1, 103, .inl f89)), (m_readNow, .inl (g.2.1.1, 21, .inl fn))] H := hP
  have hD : va_D A [(h0, .inr (9, [.ref m_told, .ref m_read, .ref m_now, .ref m_readNow, .ref m_kept, .int 0, .int 1, .int 0, .ref m_tape, .int 0, .ref m_refused, .int 0, .int (-1), .int 0, .int 0, .int 0, .int 0, .int (-1), .ref m_ownLetters, .ref m_flats, .int 0, .ref m_corner, .ref m_wayX, .ref m_wayY, .ref m_normal, .ref m_low, .ref m_high, .ref m_clear, .ref m_ways, .ref m_canBe, .ref m_lain, .int 0, .ref m_fewestBy, .ref m_sortOf, .int 0, .ref m_seenFlange, .ref m_seenLength])), (m_read, .inl (g.2.1.1, 103, .inl f89)), (m_readNow, .inl (g.2.1.1, 21, .inl fn))] := hD
  refine lv_iinc (v := 89) (lv' := [(1, .int 89), (0, .ref h0)]) hx hb dX9_readsAll_15 hl (k := 0) rfl (by decide) (by decide) rfl (fun ls hl => ?_)
  refine lv_goto (tgt := 2) hx hb dX9_readsAll_18 (by decide) ?_
  refine lv_iload_n hx hb dX9_readsAll_2 rfl (lv_at hl 0 rfl) ?_
  refine lv_bipush (v := 103) hx hb dX9_readsAll_3 (by decide) ?_
  refine lv_icmp_ge (tgt := 21) hx hb dX9_readsAll_5 (by decide) (fun c5 => absurd c5 (by decide)) (fun c5 => ?_)
  refine lv_aload_n hx hb dX9_readsAll_8 rfl (lv_at hl 1 rfl) ?_
  refine va_get (D := g.1) (ci := 9) (v := .ref m_read) (C := RX9) (T := TX9) (N := 37) hx hb hG iX9 hown hX.1 hP 0 rfl rfl 1 (by decide) (hG _ g1418) (fun _ h9 => h9) rfl dX9_readsAll_9 ?_
  refine lv_iload_n hx hb dX9_readsAll_12 rfl (lv_at hl 0 rfl) ?_
  refine lv_iconst (v := 0) hx hb dX9_readsAll_13 (by decide) ?_
  refine va_iast hx hb hX.1 hP hD hS 1 0 rfl rfl (vp_in_iff.mpr (by decide)) dX9_readsAll_14 (fun H locs hP hD hS => ?_)
  obtain ⟨f90, ef90⟩ : ∃ z : Nat → Int32, z = upd f89 (89 : Int32).toNatClampNeg 0 := ⟨_, rfl⟩
  rw [← ef90] at hP hD
  have hP : va_P g.1 vwCl [(h0, .inr (9, [.ref m_told, .ref m_read, .ref m_now, .ref m_readNow, .ref m_kept, .int 0, .int 1, .int 0, .ref m_tape, .int 0, .ref m_refused, .int 0, .int (-1), .int 0, .int 0, .int 0, .int 0, .int (-1), .ref m_ownLetters, .ref m_flats, .int 0, .ref m_corner, .ref m_wayX, .ref m_wayY, .ref m_normal, .ref m_low, .ref m_high, .ref m_clear, .ref m_ways, .ref m_canBe, .ref m_lain, .int 0, .ref m_fewestBy, .ref m_sortOf, .int 0, .ref m_seenFlange, .ref m_seenLength])), (m_read, .inl (g.2.1.1, 103, .inl f90)), (m_readNow, .inl (g.2.1.1, 21, .inl fn))] H := hP
  have hD : va_D A [(h0, .inr (9, [.ref m_told, .ref m_read, .ref m_now, .ref m_readNow, .ref m_kept, .int 0, .int 1, .int 0, .ref m_tape, .int 0, .ref m_refused, .int 0, .int (-1), .int 0, .int 0, .int 0, .int 0, .int (-1), .ref m_ownLetters, .ref m_flats, .int 0, .ref m_corner, .ref m_wayX, .ref m_wayY, .ref m_normal, .ref m_low, .ref m_high, .ref m_clear, .ref m_ways, .ref m_canBe, .ref m_lain, .int 0, .ref m_fewestBy, .ref m_sortOf, .int 0, .ref m_seenFlange, .ref m_seenLength])), (m_read, .inl (g.2.1.1, 103, .inl f90)), (m_readNow, .inl (g.2.1.1, 21, .inl fn))] := hD
  refine lv_iinc (v := 90) (lv' := [(1, .int 90), (0, .ref h0)]) hx hb dX9_readsAll_15 hl (k := 0) rfl (by decide) (by decide) rfl (fun ls hl => ?_)
  refine lv_goto (tgt := 2) hx hb dX9_readsAll_18 (by decide) ?_
  refine lv_iload_n hx hb dX9_readsAll_2 rfl (lv_at hl 0 rfl) ?_
  refine lv_bipush (v := 103) hx hb dX9_readsAll_3 (by decide) ?_
  refine lv_icmp_ge (tgt := 21) hx hb dX9_readsAll_5 (by decide) (fun c5 => absurd c5 (by decide)) (fun c5 => ?_)
  refine lv_aload_n hx hb dX9_readsAll_8 rfl (lv_at hl 1 rfl) ?_
  refine va_get (D := g.1) (ci := 9) (v := .ref m_read) (C := RX9) (T := TX9) (N := 37) hx hb hG iX9 hown hX.1 hP 0 rfl rfl 1 (by decide) (hG _ g1418) (fun _ h9 => h9) rfl dX9_readsAll_9 ?_
  refine lv_iload_n hx hb dX9_readsAll_12 rfl (lv_at hl 0 rfl) ?_
  refine lv_iconst (v := 0) hx hb dX9_readsAll_13 (by decide) ?_
  refine va_iast hx hb hX.1 hP hD hS 1 0 rfl rfl (vp_in_iff.mpr (by decide)) dX9_readsAll_14 (fun H locs hP hD hS => ?_)
  obtain ⟨f91, ef91⟩ : ∃ z : Nat → Int32, z = upd f90 (90 : Int32).toNatClampNeg 0 := ⟨_, rfl⟩
  rw [← ef91] at hP hD
  have hP : va_P g.1 vwCl [(h0, .inr (9, [.ref m_told, .ref m_read, .ref m_now, .ref m_readNow, .ref m_kept, .int 0, .int 1, .int 0, .ref m_tape, .int 0, .ref m_refused, .int 0, .int (-1), .int 0, .int 0, .int 0, .int 0, .int (-1), .ref m_ownLetters, .ref m_flats, .int 0, .ref m_corner, .ref m_wayX, .ref m_wayY, .ref m_normal, .ref m_low, .ref m_high, .ref m_clear, .ref m_ways, .ref m_canBe, .ref m_lain, .int 0, .ref m_fewestBy, .ref m_sortOf, .int 0, .ref m_seenFlange, .ref m_seenLength])), (m_read, .inl (g.2.1.1, 103, .inl f91)), (m_readNow, .inl (g.2.1.1, 21, .inl fn))] H := hP
  have hD : va_D A [(h0, .inr (9, [.ref m_told, .ref m_read, .ref m_now, .ref m_readNow, .ref m_kept, .int 0, .int 1, .int 0, .ref m_tape, .int 0, .ref m_refused, .int 0, .int (-1), .int 0, .int 0, .int 0, .int 0, .int (-1), .ref m_ownLetters, .ref m_flats, .int 0, .ref m_corner, .ref m_wayX, .ref m_wayY, .ref m_normal, .ref m_low, .ref m_high, .ref m_clear, .ref m_ways, .ref m_canBe, .ref m_lain, .int 0, .ref m_fewestBy, .ref m_sortOf, .int 0, .ref m_seenFlange, .ref m_seenLength])), (m_read, .inl (g.2.1.1, 103, .inl f91)), (m_readNow, .inl (g.2.1.1, 21, .inl fn))] := hD
  refine lv_iinc (v := 91) (lv' := [(1, .int 91), (0, .ref h0)]) hx hb dX9_readsAll_15 hl (k := 0) rfl (by decide) (by decide) rfl (fun ls hl => ?_)
  refine lv_goto (tgt := 2) hx hb dX9_readsAll_18 (by decide) ?_
  refine lv_iload_n hx hb dX9_readsAll_2 rfl (lv_at hl 0 rfl) ?_
  refine lv_bipush (v := 103) hx hb dX9_readsAll_3 (by decide) ?_
  refine lv_icmp_ge (tgt := 21) hx hb dX9_readsAll_5 (by decide) (fun c5 => absurd c5 (by decide)) (fun c5 => ?_)
  refine lv_aload_n hx hb dX9_readsAll_8 rfl (lv_at hl 1 rfl) ?_
  refine va_get (D := g.1) (ci := 9) (v := .ref m_read) (C := RX9) (T := TX9) (N := 37) hx hb hG iX9 hown hX.1 hP 0 rfl rfl 1 (by decide) (hG _ g1418) (fun _ h9 => h9) rfl dX9_readsAll_9 ?_
  refine lv_iload_n hx hb dX9_readsAll_12 rfl (lv_at hl 0 rfl) ?_
  refine lv_iconst (v := 0) hx hb dX9_readsAll_13 (by decide) ?_
  refine va_iast hx hb hX.1 hP hD hS 1 0 rfl rfl (vp_in_iff.mpr (by decide)) dX9_readsAll_14 (fun H locs hP hD hS => ?_)
  obtain ⟨f92, ef92⟩ : ∃ z : Nat → Int32, z = upd f91 (91 : Int32).toNatClampNeg 0 := ⟨_, rfl⟩
  rw [← ef92] at hP hD
  have hP : va_P g.1 vwCl [(h0, .inr (9, [.ref m_told, .ref m_read, .ref m_now, .ref m_readNow, .ref m_kept, .int 0, .int 1, .int 0, .ref m_tape, .int 0, .ref m_refused, .int 0, .int (-1), .int 0, .int 0, .int 0, .int 0, .int (-1), .ref m_ownLetters, .ref m_flats, .int 0, .ref m_corner, .ref m_wayX, .ref m_wayY, .ref m_normal, .ref m_low, .ref m_high, .ref m_clear, .ref m_ways, .ref m_canBe, .ref m_lain, .int 0, .ref m_fewestBy, .ref m_sortOf, .int 0, .ref m_seenFlange, .ref m_seenLength])), (m_read, .inl (g.2.1.1, 103, .inl f92)), (m_readNow, .inl (g.2.1.1, 21, .inl fn))] H := hP
  have hD : va_D A [(h0, .inr (9, [.ref m_told, .ref m_read, .ref m_now, .ref m_readNow, .ref m_kept, .int 0, .int 1, .int 0, .ref m_tape, .int 0, .ref m_refused, .int 0, .int (-1), .int 0, .int 0, .int 0, .int 0, .int (-1), .ref m_ownLetters, .ref m_flats, .int 0, .ref m_corner, .ref m_wayX, .ref m_wayY, .ref m_normal, .ref m_low, .ref m_high, .ref m_clear, .ref m_ways, .ref m_canBe, .ref m_lain, .int 0, .ref m_fewestBy, .ref m_sortOf, .int 0, .ref m_seenFlange, .ref m_seenLength])), (m_read, .inl (g.2.1.1, 103, .inl f92)), (m_readNow, .inl (g.2.1.1, 21, .inl fn))] := hD
  refine lv_iinc (v := 92) (lv' := [(1, .int 92), (0, .ref h0)]) hx hb dX9_readsAll_15 hl (k := 0) rfl (by decide) (by decide) rfl (fun ls hl => ?_)
  refine lv_goto (tgt := 2) hx hb dX9_readsAll_18 (by decide) ?_
  refine lv_iload_n hx hb dX9_readsAll_2 rfl (lv_at hl 0 rfl) ?_
  refine lv_bipush (v := 103) hx hb dX9_readsAll_3 (by decide) ?_
  refine lv_icmp_ge (tgt := 21) hx hb dX9_readsAll_5 (by decide) (fun c5 => absurd c5 (by decide)) (fun c5 => ?_)
  refine lv_aload_n hx hb dX9_readsAll_8 rfl (lv_at hl 1 rfl) ?_
  refine va_get (D := g.1) (ci := 9) (v := .ref m_read) (C := RX9) (T := TX9) (N := 37) hx hb hG iX9 hown hX.1 hP 0 rfl rfl 1 (by decide) (hG _ g1418) (fun _ h9 => h9) rfl dX9_readsAll_9 ?_
  refine lv_iload_n hx hb dX9_readsAll_12 rfl (lv_at hl 0 rfl) ?_
  refine lv_iconst (v := 0) hx hb dX9_readsAll_13 (by decide) ?_
  refine va_iast hx hb hX.1 hP hD hS 1 0 rfl rfl (vp_in_iff.mpr (by decide)) dX9_readsAll_14 (fun H locs hP hD hS => ?_)
  obtain ⟨f93, ef93⟩ : ∃ z : Nat → Int32, z = upd f92 (92 : Int32).toNatClampNeg 0 := ⟨_, rfl⟩
  rw [← ef93] at hP hD
  have hP : va_P g.1 vwCl [(h0, .inr (9, [.ref m_told, .ref m_read, .ref m_now, .ref m_readNow, .ref m_kept, .int 0, .int 1, .int 0, .ref m_tape, .int 0, .ref m_refused, .int 0, .int (-1), .int 0, .int 0, .int 0, .int 0, .int (-1), .ref m_ownLetters, .ref m_flats, .int 0, .ref m_corner, .ref m_wayX, .ref m_wayY, .ref m_normal, .ref m_low, .ref m_high, .ref m_clear, .ref m_ways, .ref m_canBe, .ref m_lain, .int 0, .ref m_fewestBy, .ref m_sortOf, .int 0, .ref m_seenFlange, .ref m_seenLength])), (m_read, .inl (g.2.1.1, 103, .inl f93)), (m_readNow, .inl (g.2.1.1, 21, .inl fn))] H := hP
  have hD : va_D A [(h0, .inr (9, [.ref m_told, .ref m_read, .ref m_now, .ref m_readNow, .ref m_kept, .int 0, .int 1, .int 0, .ref m_tape, .int 0, .ref m_refused, .int 0, .int (-1), .int 0, .int 0, .int 0, .int 0, .int (-1), .ref m_ownLetters, .ref m_flats, .int 0, .ref m_corner, .ref m_wayX, .ref m_wayY, .ref m_normal, .ref m_low, .ref m_high, .ref m_clear, .ref m_ways, .ref m_canBe, .ref m_lain, .int 0, .ref m_fewestBy, .ref m_sortOf, .int 0, .ref m_seenFlange, .ref m_seenLength])), (m_read, .inl (g.2.1.1, 103, .inl f93)), (m_readNow, .inl (g.2.1.1, 21, .inl fn))] := hD
  refine lv_iinc (v := 93) (lv' := [(1, .int 93), (0, .ref h0)]) hx hb dX9_readsAll_15 hl (k := 0) rfl (by decide) (by decide) rfl (fun ls hl => ?_)
  refine lv_goto (tgt := 2) hx hb dX9_readsAll_18 (by decide) ?_
  refine lv_iload_n hx hb dX9_readsAll_2 rfl (lv_at hl 0 rfl) ?_
  refine lv_bipush (v := 103) hx hb dX9_readsAll_3 (by decide) ?_
  refine lv_icmp_ge (tgt := 21) hx hb dX9_readsAll_5 (by decide) (fun c5 => absurd c5 (by decide)) (fun c5 => ?_)
  refine lv_aload_n hx hb dX9_readsAll_8 rfl (lv_at hl 1 rfl) ?_
  refine va_get (D := g.1) (ci := 9) (v := .ref m_read) (C := RX9) (T := TX9) (N := 37) hx hb hG iX9 hown hX.1 hP 0 rfl rfl 1 (by decide) (hG _ g1418) (fun _ h9 => h9) rfl dX9_readsAll_9 ?_
  refine lv_iload_n hx hb dX9_readsAll_12 rfl (lv_at hl 0 rfl) ?_
  refine lv_iconst (v := 0) hx hb dX9_readsAll_13 (by decide) ?_
  refine va_iast hx hb hX.1 hP hD hS 1 0 rfl rfl (vp_in_iff.mpr (by decide)) dX9_readsAll_14 (fun H locs hP hD hS => ?_)
  obtain ⟨f94, ef94⟩ : ∃ z : Nat → Int32, z = upd f93 (93 : Int32).toNatClampNeg 0 := ⟨_, rfl⟩
  rw [← ef94] at hP hD
  have hP : va_P g.1 vwCl [(h0, .inr (9, [.ref m_told, .ref m_read, .ref m_now, .ref m_readNow, .ref m_kept, .int 0, .int 1, .int 0, .ref m_tape, .int 0, .ref m_refused, .int 0, .int (-1), .int 0, .int 0, .int 0, .int 0, .int (-1), .ref m_ownLetters, .ref m_flats, .int 0, .ref m_corner, .ref m_wayX, .ref m_wayY, .ref m_normal, .ref m_low, .ref m_high, .ref m_clear, .ref m_ways, .ref m_canBe, .ref m_lain, .int 0, .ref m_fewestBy, .ref m_sortOf, .int 0, .ref m_seenFlange, .ref m_seenLength])), (m_read, .inl (g.2.1.1, 103, .inl f94)), (m_readNow, .inl (g.2.1.1, 21, .inl fn))] H := hP
  have hD : va_D A [(h0, .inr (9, [.ref m_told, .ref m_read, .ref m_now, .ref m_readNow, .ref m_kept, .int 0, .int 1, .int 0, .ref m_tape, .int 0, .ref m_refused, .int 0, .int (-1), .int 0, .int 0, .int 0, .int 0, .int (-1), .ref m_ownLetters, .ref m_flats, .int 0, .ref m_corner, .ref m_wayX, .ref m_wayY, .ref m_normal, .ref m_low, .ref m_high, .ref m_clear, .ref m_ways, .ref m_canBe, .ref m_lain, .int 0, .ref m_fewestBy, .ref m_sortOf, .int 0, .ref m_seenFlange, .ref m_seenLength])), (m_read, .inl (g.2.1.1, 103, .inl f94)), (m_readNow, .inl (g.2.1.1, 21, .inl fn))] := hD
  refine lv_iinc (v := 94) (lv' := [(1, .int 94), (0, .ref h0)]) hx hb dX9_readsAll_15 hl (k := 0) rfl (by decide) (by decide) rfl (fun ls hl => ?_)
  refine lv_goto (tgt := 2) hx hb dX9_readsAll_18 (by decide) ?_
  refine lv_iload_n hx hb dX9_readsAll_2 rfl (lv_at hl 0 rfl) ?_
  refine lv_bipush (v := 103) hx hb dX9_readsAll_3 (by decide) ?_
  refine lv_icmp_ge (tgt := 21) hx hb dX9_readsAll_5 (by decide) (fun c5 => absurd c5 (by decide)) (fun c5 => ?_)
  refine lv_aload_n hx hb dX9_readsAll_8 rfl (lv_at hl 1 rfl) ?_
  refine va_get (D := g.1) (ci := 9) (v := .ref m_read) (C := RX9) (T := TX9) (N := 37) hx hb hG iX9 hown hX.1 hP 0 rfl rfl 1 (by decide) (hG _ g1418) (fun _ h9 => h9) rfl dX9_readsAll_9 ?_
  refine lv_iload_n hx hb dX9_readsAll_12 rfl (lv_at hl 0 rfl) ?_
  refine lv_iconst (v := 0) hx hb dX9_readsAll_13 (by decide) ?_
  refine va_iast hx hb hX.1 hP hD hS 1 0 rfl rfl (vp_in_iff.mpr (by decide)) dX9_readsAll_14 (fun H locs hP hD hS => ?_)
  obtain ⟨f95, ef95⟩ : ∃ z : Nat → Int32, z = upd f94 (94 : Int32).toNatClampNeg 0 := ⟨_, rfl⟩
  rw [← ef95] at hP hD
  have hP : va_P g.1 vwCl [(h0, .inr (9, [.ref m_told, .ref m_read, .ref m_now, .ref m_readNow, .ref m_kept, .int 0, .int 1, .int 0, .ref m_tape, .int 0, .ref m_refused, .int 0, .int (-1), .int 0, .int 0, .int 0, .int 0, .int (-1), .ref m_ownLetters, .ref m_flats, .int 0, .ref m_corner, .ref m_wayX, .ref m_wayY, .ref m_normal, .ref m_low, .ref m_high, .ref m_clear, .ref m_ways, .ref m_canBe, .ref m_lain, .int 0, .ref m_fewestBy, .ref m_sortOf, .int 0, .ref m_seenFlange, .ref m_seenLength])), (m_read, .inl (g.2.1.1, 103, .inl f95)), (m_readNow, .inl (g.2.1.1, 21, .inl fn))] H := hP
  have hD : va_D A [(h0, .inr (9, [.ref m_told, .ref m_read, .ref m_now, .ref m_readNow, .ref m_kept, .int 0, .int 1, .int 0, .ref m_tape, .int 0, .ref m_refused, .int 0, .int (-1), .int 0, .int 0, .int 0, .int 0, .int (-1), .ref m_ownLetters, .ref m_flats, .int 0, .ref m_corner, .ref m_wayX, .ref m_wayY, .ref m_normal, .ref m_low, .ref m_high, .ref m_clear, .ref m_ways, .ref m_canBe, .ref m_lain, .int 0, .ref m_fewestBy, .ref m_sortOf, .int 0, .ref m_seenFlange, .ref m_seenLength])), (m_read, .inl (g.2.1.1, 103, .inl f95)), (m_readNow, .inl (g.2.1.1, 21, .inl fn))] := hD
  refine lv_iinc (v := 95) (lv' := [(1, .int 95), (0, .ref h0)]) hx hb dX9_readsAll_15 hl (k := 0) rfl (by decide) (by decide) rfl (fun ls hl => ?_)
  refine lv_goto (tgt := 2) hx hb dX9_readsAll_18 (by decide) ?_
  refine lv_iload_n hx hb dX9_readsAll_2 rfl (lv_at hl 0 rfl) ?_
  refine lv_bipush (v := 103) hx hb dX9_readsAll_3 (by decide) ?_
  refine lv_icmp_ge (tgt := 21) hx hb dX9_readsAll_5 (by decide) (fun c5 => absurd c5 (by decide)) (fun c5 => ?_)
  refine lv_aload_n hx hb dX9_readsAll_8 rfl (lv_at hl 1 rfl) ?_
  refine va_get (D := g.1) (ci := 9) (v := .ref m_read) (C := RX9) (T := TX9) (N := 37) hx hb hG iX9 hown hX.1 hP 0 rfl rfl 1 (by decide) (hG _ g1418) (fun _ h9 => h9) rfl dX9_readsAll_9 ?_
  refine lv_iload_n hx hb dX9_readsAll_12 rfl (lv_at hl 0 rfl) ?_
  refine lv_iconst (v := 0) hx hb dX9_readsAll_13 (by decide) ?_
  refine va_iast hx hb hX.1 hP hD hS 1 0 rfl rfl (vp_in_iff.mpr (by decide)) dX9_readsAll_14 (fun H locs hP hD hS => ?_)
  obtain ⟨f96, ef96⟩ : ∃ z : Nat → Int32, z = upd f95 (95 : Int32).toNatClampNeg 0 := ⟨_, rfl⟩
  rw [← ef96] at hP hD
  have hP : va_P g.1 vwCl [(h0, .inr (9, [.ref m_told, .ref m_read, .ref m_now, .ref m_readNow, .ref m_kept, .int 0, .int 1, .int 0, .ref m_tape, .int 0, .ref m_refused, .int 0, .int (-1), .int 0, .int 0, .int 0, .int 0, .int (-1), .ref m_ownLetters, .ref m_flats, .int 0, .ref m_corner, .ref m_wayX, .ref m_wayY, .ref m_normal, .ref m_low, .ref m_high, .ref m_clear, .ref m_ways, .ref m_canBe, .ref m_lain, .int 0, .ref m_fewestBy, .ref m_sortOf, .int 0, .ref m_seenFlange, .ref m_seenLength])), (m_read, .inl (g.2.1.1, 103, .inl f96)), (m_readNow, .inl (g.2.1.1, 21, .inl fn))] H := hP
  have hD : va_D A [(h0, .inr (9, [.ref m_told, .ref m_read, .ref m_now, .ref m_readNow, .ref m_kept, .int 0, .int 1, .int 0, .ref m_tape, .int 0, .ref m_refused, .int 0, .int (-1), .int 0, .int 0, .int 0, .int 0, .int (-1), .ref m_ownLetters, .ref m_flats, .int 0, .ref m_corner, .ref m_wayX, .ref m_wayY, .ref m_normal, .ref m_low, .ref m_high, .ref m_clear, .ref m_ways, .ref m_canBe, .ref m_lain, .int 0, .ref m_fewestBy, .ref m_sortOf, .int 0, .ref m_seenFlange, .ref m_seenLength])), (m_read, .inl (g.2.1.1, 103, .inl f96)), (m_readNow, .inl (g.2.1.1, 21, .inl fn))] := hD
  refine lv_iinc (v := 96) (lv' := [(1, .int 96), (0, .ref h0)]) hx hb dX9_readsAll_15 hl (k := 0) rfl (by decide) (by decide) rfl (fun ls hl => ?_)
  refine lv_goto (tgt := 2) hx hb dX9_readsAll_18 (by decide) ?_
  refine lv_iload_n hx hb dX9_readsAll_2 rfl (lv_at hl 0 rfl) ?_
  refine lv_bipush (v := 103) hx hb dX9_readsAll_3 (by decide) ?_
  refine lv_icmp_ge (tgt := 21) hx hb dX9_readsAll_5 (by decide) (fun c5 => absurd c5 (by decide)) (fun c5 => ?_)
  refine lv_aload_n hx hb dX9_readsAll_8 rfl (lv_at hl 1 rfl) ?_
  refine va_get (D := g.1) (ci := 9) (v := .ref m_read) (C := RX9) (T := TX9) (N := 37) hx hb hG iX9 hown hX.1 hP 0 rfl rfl 1 (by decide) (hG _ g1418) (fun _ h9 => h9) rfl dX9_readsAll_9 ?_
  refine lv_iload_n hx hb dX9_readsAll_12 rfl (lv_at hl 0 rfl) ?_
  refine lv_iconst (v := 0) hx hb dX9_readsAll_13 (by decide) ?_
  refine va_iast hx hb hX.1 hP hD hS 1 0 rfl rfl (vp_in_iff.mpr (by decide)) dX9_readsAll_14 (fun H locs hP hD hS => ?_)
  obtain ⟨f97, ef97⟩ : ∃ z : Nat → Int32, z = upd f96 (96 : Int32).toNatClampNeg 0 := ⟨_, rfl⟩
  rw [← ef97] at hP hD
  have hP : va_P g.1 vwCl [(h0, .inr (9, [.ref m_told, .ref m_read, .ref m_now, .ref m_readNow, .ref m_kept, .int 0, .int 1, .int 0, .ref m_tape, .int 0, .ref m_refused, .int 0, .int (-1), .int 0, .int 0, .int 0, .int 0, .int (-1), .ref m_ownLetters, .ref m_flats, .int 0, .ref m_corner, .ref m_wayX, .ref m_wayY, .ref m_normal, .ref m_low, .ref m_high, .ref m_clear, .ref m_ways, .ref m_canBe, .ref m_lain, .int 0, .ref m_fewestBy, .ref m_sortOf, .int 0, .ref m_seenFlange, .ref m_seenLength])), (m_read, .inl (g.2.1.1, 103, .inl f97)), (m_readNow, .inl (g.2.1.1, 21, .inl fn))] H := hP
  have hD : va_D A [(h0, .inr (9, [.ref m_told, .ref m_read, .ref m_now, .ref m_readNow, .ref m_kept, .int 0, .int 1, .int 0, .ref m_tape, .int 0, .ref m_refused, .int 0, .int (-1), .int 0, .int 0, .int 0, .int 0, .int (-1), .ref m_ownLetters, .ref m_flats, .int 0, .ref m_corner, .ref m_wayX, .ref m_wayY, .ref m_normal, .ref m_low, .ref m_high, .ref m_clear, .ref m_ways, .ref m_canBe, .ref m_lain, .int 0, .ref m_fewestBy, .ref m_sortOf, .int 0, .ref m_seenFlange, .ref m_seenLength])), (m_read, .inl (g.2.1.1, 103, .inl f97)), (m_readNow, .inl (g.2.1.1, 21, .inl fn))] := hD
  refine lv_iinc (v := 97) (lv' := [(1, .int 97), (0, .ref h0)]) hx hb dX9_readsAll_15 hl (k := 0) rfl (by decide) (by decide) rfl (fun ls hl => ?_)
  refine lv_goto (tgt := 2) hx hb dX9_readsAll_18 (by decide) ?_
  refine lv_iload_n hx hb dX9_readsAll_2 rfl (lv_at hl 0 rfl) ?_
  refine lv_bipush (v := 103) hx hb dX9_readsAll_3 (by decide) ?_
  refine lv_icmp_ge (tgt := 21) hx hb dX9_readsAll_5 (by decide) (fun c5 => absurd c5 (by decide)) (fun c5 => ?_)
  refine lv_aload_n hx hb dX9_readsAll_8 rfl (lv_at hl 1 rfl) ?_
  refine va_get (D := g.1) (ci := 9) (v := .ref m_read) (C := RX9) (T := TX9) (N := 37) hx hb hG iX9 hown hX.1 hP 0 rfl rfl 1 (by decide) (hG _ g1418) (fun _ h9 => h9) rfl dX9_readsAll_9 ?_
  refine lv_iload_n hx hb dX9_readsAll_12 rfl (lv_at hl 0 rfl) ?_
  refine lv_iconst (v := 0) hx hb dX9_readsAll_13 (by decide) ?_
  refine va_iast hx hb hX.1 hP hD hS 1 0 rfl rfl (vp_in_iff.mpr (by decide)) dX9_readsAll_14 (fun H locs hP hD hS => ?_)
  obtain ⟨f98, ef98⟩ : ∃ z : Nat → Int32, z = upd f97 (97 : Int32).toNatClampNeg 0 := ⟨_, rfl⟩
  rw [← ef98] at hP hD
  have hP : va_P g.1 vwCl [(h0, .inr (9, [.ref m_told, .ref m_read, .ref m_now, .ref m_readNow, .ref m_kept, .int 0, .int 1, .int 0, .ref m_tape, .int 0, .ref m_refused, .int 0, .int (-1), .int 0, .int 0, .int 0, .int 0, .int (-1), .ref m_ownLetters, .ref m_flats, .int 0, .ref m_corner, .ref m_wayX, .ref m_wayY, .ref m_normal, .ref m_low, .ref m_high, .ref m_clear, .ref m_ways, .ref m_canBe, .ref m_lain, .int 0, .ref m_fewestBy, .ref m_sortOf, .int 0, .ref m_seenFlange, .ref m_seenLength])), (m_read, .inl (g.2.1.1, 103, .inl f98)), (m_readNow, .inl (g.2.1.1, 21, .inl fn))] H := hP
  have hD : va_D A [(h0, .inr (9, [.ref m_told, .ref m_read, .ref m_now, .ref m_readNow, .ref m_kept, .int 0, .int 1, .int 0, .ref m_tape, .int 0, .ref m_refused, .int 0, .int (-1), .int 0, .int 0, .int 0, .int 0, .int (-1), .ref m_ownLetters, .ref m_flats, .int 0, .ref m_corner, .ref m_wayX, .ref m_wayY, .ref m_normal, .ref m_low, .ref m_high, .ref m_clear, .ref m_ways, .ref m_canBe, .ref m_lain, .int 0, .ref m_fewestBy, .ref m_sortOf, .int 0, .ref m_seenFlange, .ref m_seenLength])), (m_read, .inl (g.2.1.1, 103, .inl f98)), (m_readNow, .inl (g.2.1.1, 21, .inl fn))] := hD
  refine lv_iinc (v := 98) (lv' := [(1, .int 98), (0, .ref h0)]) hx hb dX9_readsAll_15 hl (k := 0) rfl (by decide) (by decide) rfl (fun ls hl => ?_)
  refine lv_goto (tgt := 2) hx hb dX9_readsAll_18 (by decide) ?_
  refine lv_iload_n hx hb dX9_readsAll_2 rfl (lv_at hl 0 rfl) ?_
  refine lv_bipush (v := 103) hx hb dX9_readsAll_3 (by decide) ?_
  refine lv_icmp_ge (tgt := 21) hx hb dX9_readsAll_5 (by decide) (fun c5 => absurd c5 (by decide)) (fun c5 => ?_)
  refine lv_aload_n hx hb dX9_readsAll_8 rfl (lv_at hl 1 rfl) ?_
  refine va_get (D := g.1) (ci := 9) (v := .ref m_read) (C := RX9) (T := TX9) (N := 37) hx hb hG iX9 hown hX.1 hP 0 rfl rfl 1 (by decide) (hG _ g1418) (fun _ h9 => h9) rfl dX9_readsAll_9 ?_
  refine lv_iload_n hx hb dX9_readsAll_12 rfl (lv_at hl 0 rfl) ?_
  refine lv_iconst (v := 0) hx hb dX9_readsAll_13 (by decide) ?_
  refine va_iast hx hb hX.1 hP hD hS 1 0 rfl rfl (vp_in_iff.mpr (by decide)) dX9_readsAll_14 (fun H locs hP hD hS => ?_)
  obtain ⟨f99, ef99⟩ : ∃ z : Nat → Int32, z = upd f98 (98 : Int32).toNatClampNeg 0 := ⟨_, rfl⟩
  rw [← ef99] at hP hD
  have hP : va_P g.1 vwCl [(h0, .inr (9, [.ref m_told, .ref m_read, .ref m_now, .ref m_readNow, .ref m_kept, .int 0, .int 1, .int 0, .ref m_tape, .int 0, .ref m_refused, .int 0, .int (-1), .int 0, .int 0, .int 0, .int 0, .int (-1), .ref m_ownLetters, .ref m_flats, .int 0, .ref m_corner, .ref m_wayX, .ref m_wayY, .ref m_normal, .ref m_low, .ref m_high, .ref m_clear, .ref m_ways, .ref m_canBe, .ref m_lain, .int 0, .ref m_fewestBy, .ref m_sortOf, .int 0, .ref m_seenFlange, .ref m_seenLength])), (m_read, .inl (g.2.1.1, 103, .inl f99)), (m_readNow, .inl (g.2.1.1, 21, .inl fn))] H := hP
  have hD : va_D A [(h0, .inr (9, [.ref m_told, .ref m_read, .ref m_now, .ref m_readNow, .ref m_kept, .int 0, .int 1, .int 0, .ref m_tape, .int 0, .ref m_refused, .int 0, .int (-1), .int 0, .int 0, .int 0, .int 0, .int (-1), .ref m_ownLetters, .ref m_flats, .int 0, .ref m_corner, .ref m_wayX, .ref m_wayY, .ref m_normal, .ref m_low, .ref m_high, .ref m_clear, .ref m_ways, .ref m_canBe, .ref m_lain, .int 0, .ref m_fewestBy, .ref m_sortOf, .int 0, .ref m_seenFlange, .ref m_seenLength])), (m_read, .inl (g.2.1.1, 103, .inl f99)), (m_readNow, .inl (g.2.1.1, 21, .inl fn))] := hD
  refine lv_iinc (v := 99) (lv' := [(1, .int 99), (0, .ref h0)]) hx hb dX9_readsAll_15 hl (k := 0) rfl (by decide) (by decide) rfl (fun ls hl => ?_)
  refine lv_goto (tgt := 2) hx hb dX9_readsAll_18 (by decide) ?_
  refine lv_iload_n hx hb dX9_readsAll_2 rfl (lv_at hl 0 rfl) ?_
  refine lv_bipush (v := 103) hx hb dX9_readsAll_3 (by decide) ?_
  refine lv_icmp_ge (tgt := 21) hx hb dX9_readsAll_5 (by decide) (fun c5 => absurd c5 (by decide)) (fun c5 => ?_)
  refine lv_aload_n hx hb dX9_readsAll_8 rfl (lv_at hl 1 rfl) ?_
  refine va_get (D := g.1) (ci := 9) (v := .ref m_read) (C := RX9) (T := TX9) (N := 37) hx hb hG iX9 hown hX.1 hP 0 rfl rfl 1 (by decide) (hG _ g1418) (fun _ h9 => h9) rfl dX9_readsAll_9 ?_
  refine lv_iload_n hx hb dX9_readsAll_12 rfl (lv_at hl 0 rfl) ?_
  refine lv_iconst (v := 0) hx hb dX9_readsAll_13 (by decide) ?_
  refine va_iast hx hb hX.1 hP hD hS 1 0 rfl rfl (vp_in_iff.mpr (by decide)) dX9_readsAll_14 (fun H locs hP hD hS => ?_)
  obtain ⟨f100, ef100⟩ : ∃ z : Nat → Int32, z = upd f99 (99 : Int32).toNatClampNeg 0 := ⟨_, rfl⟩
  rw [← ef100] at hP hD
  have hP : va_P g.1 vwCl [(h0, .inr (9, [.ref m_told, .ref m_read, .ref m_now, .ref m_readNow, .ref m_kept, .int 0, .int 1, .int 0, .ref m_tape, .int 0, .ref m_refused, .int 0, .int (-1), .int 0, .int 0, .int 0, .int 0, .int (-1), .ref m_ownLetters, .ref m_flats, .int 0, .ref m_corner, .ref m_wayX, .ref m_wayY, .ref m_normal, .ref m_low, .ref m_high, .ref m_clear, .ref m_ways, .ref m_canBe, .ref m_lain, .int 0, .ref m_fewestBy, .ref m_sortOf, .int 0, .ref m_seenFlange, .ref m_seenLength])), (m_read, .inl (g.2.1.1, 103, .inl f100)), (m_readNow, .inl (g.2.1.1, 21, .inl fn))] H := hP
  have hD : va_D A [(h0, .inr (9, [.ref m_told, .ref m_read, .ref m_now, .ref m_readNow, .ref m_kept, .int 0, .int 1, .int 0, .ref m_tape, .int 0, .ref m_refused, .int 0, .int (-1), .int 0, .int 0, .int 0, .int 0, .int (-1), .ref m_ownLetters, .ref m_flats, .int 0, .ref m_corner, .ref m_wayX, .ref m_wayY, .ref m_normal, .ref m_low, .ref m_high, .ref m_clear, .ref m_ways, .ref m_canBe, .ref m_lain, .int 0, .ref m_fewestBy, .ref m_sortOf, .int 0, .ref m_seenFlange, .ref m_seenLength])), (m_read, .inl (g.2.1.1, 103, .inl f100)), (m_readNow, .inl (g.2.1.1, 21, .inl fn))] := hD
  refine lv_iinc (v := 100) (lv' := [(1, .int 100), (0, .ref h0)]) hx hb dX9_readsAll_15 hl (k := 0) rfl (by decide) (by decide) rfl (fun ls hl => ?_)
  refine lv_goto (tgt := 2) hx hb dX9_readsAll_18 (by decide) ?_
  refine lv_iload_n hx hb dX9_readsAll_2 rfl (lv_at hl 0 rfl) ?_
  refine lv_bipush (v := 103) hx hb dX9_readsAll_3 (by decide) ?_
  refine lv_icmp_ge (tgt := 21) hx hb dX9_readsAll_5 (by decide) (fun c5 => absurd c5 (by decide)) (fun c5 => ?_)
  refine lv_aload_n hx hb dX9_readsAll_8 rfl (lv_at hl 1 rfl) ?_
  refine va_get (D := g.1) (ci := 9) (v := .ref m_read) (C := RX9) (T := TX9) (N := 37) hx hb hG iX9 hown hX.1 hP 0 rfl rfl 1 (by decide) (hG _ g1418) (fun _ h9 => h9) rfl dX9_readsAll_9 ?_
  refine lv_iload_n hx hb dX9_readsAll_12 rfl (lv_at hl 0 rfl) ?_
  refine lv_iconst (v := 0) hx hb dX9_readsAll_13 (by decide) ?_
  refine va_iast hx hb hX.1 hP hD hS 1 0 rfl rfl (vp_in_iff.mpr (by decide)) dX9_readsAll_14 (fun H locs hP hD hS => ?_)
  obtain ⟨f101, ef101⟩ : ∃ z : Nat → Int32, z = upd f100 (100 : Int32).toNatClampNeg 0 := ⟨_, rfl⟩
  rw [← ef101] at hP hD
  have hP : va_P g.1 vwCl [(h0, .inr (9, [.ref m_told, .ref m_read, .ref m_now, .ref m_readNow, .ref m_kept, .int 0, .int 1, .int 0, .ref m_tape, .int 0, .ref m_refused, .int 0, .int (-1), .int 0, .int 0, .int 0, .int 0, .int (-1), .ref m_ownLetters, .ref m_flats, .int 0, .ref m_corner, .ref m_wayX, .ref m_wayY, .ref m_normal, .ref m_low, .ref m_high, .ref m_clear, .ref m_ways, .ref m_canBe, .ref m_lain, .int 0, .ref m_fewestBy, .ref m_sortOf, .int 0, .ref m_seenFlange, .ref m_seenLength])), (m_read, .inl (g.2.1.1, 103, .inl f101)), (m_readNow, .inl (g.2.1.1, 21, .inl fn))] H := hP
  have hD : va_D A [(h0, .inr (9, [.ref m_told, .ref m_read, .ref m_now, .ref m_readNow, .ref m_kept, .int 0, .int 1, .int 0, .ref m_tape, .int 0, .ref m_refused, .int 0, .int (-1), .int 0, .int 0, .int 0, .int 0, .int (-1), .ref m_ownLetters, .ref m_flats, .int 0, .ref m_corner, .ref m_wayX, .ref m_wayY, .ref m_normal, .ref m_low, .ref m_high, .ref m_clear, .ref m_ways, .ref m_canBe, .ref m_lain, .int 0, .ref m_fewestBy, .ref m_sortOf, .int 0, .ref m_seenFlange, .ref m_seenLength])), (m_read, .inl (g.2.1.1, 103, .inl f101)), (m_readNow, .inl (g.2.1.1, 21, .inl fn))] := hD
  refine lv_iinc (v := 101) (lv' := [(1, .int 101), (0, .ref h0)]) hx hb dX9_readsAll_15 hl (k := 0) rfl (by decide) (by decide) rfl (fun ls hl => ?_)
  refine lv_goto (tgt := 2) hx hb dX9_readsAll_18 (by decide) ?_
  refine lv_iload_n hx hb dX9_readsAll_2 rfl (lv_at hl 0 rfl) ?_
  refine lv_bipush (v := 103) hx hb dX9_readsAll_3 (by decide) ?_
  refine lv_icmp_ge (tgt := 21) hx hb dX9_readsAll_5 (by decide) (fun c5 => absurd c5 (by decide)) (fun c5 => ?_)
  refine lv_aload_n hx hb dX9_readsAll_8 rfl (lv_at hl 1 rfl) ?_
  refine va_get (D := g.1) (ci := 9) (v := .ref m_read) (C := RX9) (T := TX9) (N := 37) hx hb hG iX9 hown hX.1 hP 0 rfl rfl 1 (by decide) (hG _ g1418) (fun _ h9 => h9) rfl dX9_readsAll_9 ?_
  refine lv_iload_n hx hb dX9_readsAll_12 rfl (lv_at hl 0 rfl) ?_
  refine lv_iconst (v := 0) hx hb dX9_readsAll_13 (by decide) ?_
  refine va_iast hx hb hX.1 hP hD hS 1 0 rfl rfl (vp_in_iff.mpr (by decide)) dX9_readsAll_14 (fun H locs hP hD hS => ?_)
  obtain ⟨f102, ef102⟩ : ∃ z : Nat → Int32, z = upd f101 (101 : Int32).toNatClampNeg 0 := ⟨_, rfl⟩
  rw [← ef102] at hP hD
  have hP : va_P g.1 vwCl [(h0, .inr (9, [.ref m_told, .ref m_read, .ref m_now, .ref m_readNow, .ref m_kept, .int 0, .int 1, .int 0, .ref m_tape, .int 0, .ref m_refused, .int 0, .int (-1), .int 0, .int 0, .int 0, .int 0, .int (-1), .ref m_ownLetters, .ref m_flats, .int 0, .ref m_corner, .ref m_wayX, .ref m_wayY, .ref m_normal, .ref m_low, .ref m_high, .ref m_clear, .ref m_ways, .ref m_canBe, .ref m_lain, .int 0, .ref m_fewestBy, .ref m_sortOf, .int 0, .ref m_seenFlange, .ref m_seenLength])), (m_read, .inl (g.2.1.1, 103, .inl f102)), (m_readNow, .inl (g.2.1.1, 21, .inl fn))] H := hP
  have hD : va_D A [(h0, .inr (9, [.ref m_told, .ref m_read, .ref m_now, .ref m_readNow, .ref m_kept, .int 0, .int 1, .int 0, .ref m_tape, .int 0, .ref m_refused, .int 0, .int (-1), .int 0, .int 0, .int 0, .int 0, .int (-1), .ref m_ownLetters, .ref m_flats, .int 0, .ref m_corner, .ref m_wayX, .ref m_wayY, .ref m_normal, .ref m_low, .ref m_high, .ref m_clear, .ref m_ways, .ref m_canBe, .ref m_lain, .int 0, .ref m_fewestBy, .ref m_sortOf, .int 0, .ref m_seenFlange, .ref m_seenLength])), (m_read, .inl (g.2.1.1, 103, .inl f102)), (m_readNow, .inl (g.2.1.1, 21, .inl fn))] := hD
  refine lv_iinc (v := 102) (lv' := [(1, .int 102), (0, .ref h0)]) hx hb dX9_readsAll_15 hl (k := 0) rfl (by decide) (by decide) rfl (fun ls hl => ?_)
  refine lv_goto (tgt := 2) hx hb dX9_readsAll_18 (by decide) ?_
  refine lv_iload_n hx hb dX9_readsAll_2 rfl (lv_at hl 0 rfl) ?_
  refine lv_bipush (v := 103) hx hb dX9_readsAll_3 (by decide) ?_
  refine lv_icmp_ge (tgt := 21) hx hb dX9_readsAll_5 (by decide) (fun c5 => absurd c5 (by decide)) (fun c5 => ?_)
  refine lv_aload_n hx hb dX9_readsAll_8 rfl (lv_at hl 1 rfl) ?_
  refine va_get (D := g.1) (ci := 9) (v := .ref m_read) (C := RX9) (T := TX9) (N := 37) hx hb hG iX9 hown hX.1 hP 0 rfl rfl 1 (by decide) (hG _ g1418) (fun _ h9 => h9) rfl dX9_readsAll_9 ?_
  refine lv_iload_n hx hb dX9_readsAll_12 rfl (lv_at hl 0 rfl) ?_
  refine lv_iconst (v := 0) hx hb dX9_readsAll_13 (by decide) ?_
  refine va_iast hx hb hX.1 hP hD hS 1 0 rfl rfl (vp_in_iff.mpr (by decide)) dX9_readsAll_14 (fun H locs hP hD hS => ?_)
  obtain ⟨f103, ef103⟩ : ∃ z : Nat → Int32, z = upd f102 (102 : Int32).toNatClampNeg 0 := ⟨_, rfl⟩
  rw [← ef103] at hP hD
  have hP : va_P g.1 vwCl [(h0, .inr (9, [.ref m_told, .ref m_read, .ref m_now, .ref m_readNow, .ref m_kept, .int 0, .int 1, .int 0, .ref m_tape, .int 0, .ref m_refused, .int 0, .int (-1), .int 0, .int 0, .int 0, .int 0, .int (-1), .ref m_ownLetters, .ref m_flats, .int 0, .ref m_corner, .ref m_wayX, .ref m_wayY, .ref m_normal, .ref m_low, .ref m_high, .ref m_clear, .ref m_ways, .ref m_canBe, .ref m_lain, .int 0, .ref m_fewestBy, .ref m_sortOf, .int 0, .ref m_seenFlange, .ref m_seenLength])), (m_read, .inl (g.2.1.1, 103, .inl f103)), (m_readNow, .inl (g.2.1.1, 21, .inl fn))] H := hP
  have hD : va_D A [(h0, .inr (9, [.ref m_told, .ref m_read, .ref m_now, .ref m_readNow, .ref m_kept, .int 0, .int 1, .int 0, .ref m_tape, .int 0, .ref m_refused, .int 0, .int (-1), .int 0, .int 0, .int 0, .int 0, .int (-1), .ref m_ownLetters, .ref m_flats, .int 0, .ref m_corner, .ref m_wayX, .ref m_wayY, .ref m_normal, .ref m_low, .ref m_high, .ref m_clear, .ref m_ways, .ref m_canBe, .ref m_lain, .int 0, .ref m_fewestBy, .ref m_sortOf, .int 0, .ref m_seenFlange, .ref m_seenLength])), (m_read, .inl (g.2.1.1, 103, .inl f103)), (m_readNow, .inl (g.2.1.1, 21, .inl fn))] := hD
  refine lv_iinc (v := 103) (lv' := [(1, .int 103), (0, .ref h0)]) hx hb dX9_readsAll_15 hl (k := 0) rfl (by decide) (by decide) rfl (fun ls hl => ?_)
  refine lv_goto (tgt := 2) hx hb dX9_readsAll_18 (by decide) ?_
  refine lv_iload_n hx hb dX9_readsAll_2 rfl (lv_at hl 0 rfl) ?_
  refine lv_bipush (v := 103) hx hb dX9_readsAll_3 (by decide) ?_
  refine lv_icmp_ge (tgt := 21) hx hb dX9_readsAll_5 (by decide) (fun c5 => ?_) (fun c5 => (c5 (by decide)).elim)
  refine lv_iconst (v := 0) hx hb dX9_readsAll_21 (by decide) ?_
  refine lv_istore_n (lv' := [(1, .int 0), (0, .ref h0)]) hx hb dX9_readsAll_22 rfl hl (by decide) rfl (fun ls hl => ?_)
  refine lv_iload_n hx hb dX9_readsAll_23 rfl (lv_at hl 0 rfl) ?_
  refine lv_bipush (v := 21) hx hb dX9_readsAll_24 (by decide) ?_
  refine lv_icmp_ge (tgt := 52) hx hb dX9_readsAll_26 (by decide) (fun c26 => absurd c26 (by decide)) (fun c26 => ?_)
  refine lv_aload_n hx hb dX9_readsAll_29 rfl (lv_at hl 1 rfl) ?_
  refine va_get (D := g.1) (ci := 9) (v := .ref m_readNow) (C := RX9) (T := TX9) (N := 37) hx hb hG iX9 hown hX.1 hP 0 rfl rfl 3 (by decide) (hG _ g1420) (fun _ h9 => h9) rfl dX9_readsAll_30 ?_
  refine lv_iload_n hx hb dX9_readsAll_33 rfl (lv_at hl 0 rfl) ?_
  refine lv_iload_n hx hb dX9_readsAll_34 rfl (lv_at hl 0 rfl) ?_
  refine lv_bipush (v := 11) hx hb dX9_readsAll_35 (by decide) ?_
  refine lv_icmp_ge (tgt := 44) hx hb dX9_readsAll_37 (by decide) (fun c37 => absurd c37 (by decide)) (fun c37 => ?_)
  refine lv_iconst (v := 0) hx hb dX9_readsAll_40 (by decide) ?_
  refine lv_goto (tgt := 45) hx hb dX9_readsAll_41 (by decide) ?_
  refine va_iast hx hb hX.1 hP hD hS 2 0 rfl rfl (vp_in_iff.mpr (by decide)) dX9_readsAll_45 (fun H locs hP hD hS => ?_)
  obtain ⟨f104, ef104⟩ : ∃ z : Nat → Int32, z = upd fn (0 : Int32).toNatClampNeg 0 := ⟨_, rfl⟩
  rw [← ef104] at hP hD
  have hP : va_P g.1 vwCl [(h0, .inr (9, [.ref m_told, .ref m_read, .ref m_now, .ref m_readNow, .ref m_kept, .int 0, .int 1, .int 0, .ref m_tape, .int 0, .ref m_refused, .int 0, .int (-1), .int 0, .int 0, .int 0, .int 0, .int (-1), .ref m_ownLetters, .ref m_flats, .int 0, .ref m_corner, .ref m_wayX, .ref m_wayY, .ref m_normal, .ref m_low, .ref m_high, .ref m_clear, .ref m_ways, .ref m_canBe, .ref m_lain, .int 0, .ref m_fewestBy, .ref m_sortOf, .int 0, .ref m_seenFlange, .ref m_seenLength])), (m_read, .inl (g.2.1.1, 103, .inl f103)), (m_readNow, .inl (g.2.1.1, 21, .inl f104))] H := hP
  have hD : va_D A [(h0, .inr (9, [.ref m_told, .ref m_read, .ref m_now, .ref m_readNow, .ref m_kept, .int 0, .int 1, .int 0, .ref m_tape, .int 0, .ref m_refused, .int 0, .int (-1), .int 0, .int 0, .int 0, .int 0, .int (-1), .ref m_ownLetters, .ref m_flats, .int 0, .ref m_corner, .ref m_wayX, .ref m_wayY, .ref m_normal, .ref m_low, .ref m_high, .ref m_clear, .ref m_ways, .ref m_canBe, .ref m_lain, .int 0, .ref m_fewestBy, .ref m_sortOf, .int 0, .ref m_seenFlange, .ref m_seenLength])), (m_read, .inl (g.2.1.1, 103, .inl f103)), (m_readNow, .inl (g.2.1.1, 21, .inl f104))] := hD
  refine lv_iinc (v := 1) (lv' := [(1, .int 1), (0, .ref h0)]) hx hb dX9_readsAll_46 hl (k := 0) rfl (by decide) (by decide) rfl (fun ls hl => ?_)
  refine lv_goto (tgt := 23) hx hb dX9_readsAll_49 (by decide) ?_
  refine lv_iload_n hx hb dX9_readsAll_23 rfl (lv_at hl 0 rfl) ?_
  refine lv_bipush (v := 21) hx hb dX9_readsAll_24 (by decide) ?_
  refine lv_icmp_ge (tgt := 52) hx hb dX9_readsAll_26 (by decide) (fun c26 => absurd c26 (by decide)) (fun c26 => ?_)
  refine lv_aload_n hx hb dX9_readsAll_29 rfl (lv_at hl 1 rfl) ?_
  refine va_get (D := g.1) (ci := 9) (v := .ref m_readNow) (C := RX9) (T := TX9) (N := 37) hx hb hG iX9 hown hX.1 hP 0 rfl rfl 3 (by decide) (hG _ g1420) (fun _ h9 => h9) rfl dX9_readsAll_30 ?_
  refine lv_iload_n hx hb dX9_readsAll_33 rfl (lv_at hl 0 rfl) ?_
  refine lv_iload_n hx hb dX9_readsAll_34 rfl (lv_at hl 0 rfl) ?_
  refine lv_bipush (v := 11) hx hb dX9_readsAll_35 (by decide) ?_
  refine lv_icmp_ge (tgt := 44) hx hb dX9_readsAll_37 (by decide) (fun c37 => absurd c37 (by decide)) (fun c37 => ?_)
  refine lv_iconst (v := 0) hx hb dX9_readsAll_40 (by decide) ?_
  refine lv_goto (tgt := 45) hx hb dX9_readsAll_41 (by decide) ?_
  refine va_iast hx hb hX.1 hP hD hS 2 0 rfl rfl (vp_in_iff.mpr (by decide)) dX9_readsAll_45 (fun H locs hP hD hS => ?_)
  obtain ⟨f105, ef105⟩ : ∃ z : Nat → Int32, z = upd f104 (1 : Int32).toNatClampNeg 0 := ⟨_, rfl⟩
  rw [← ef105] at hP hD
  have hP : va_P g.1 vwCl [(h0, .inr (9, [.ref m_told, .ref m_read, .ref m_now, .ref m_readNow, .ref m_kept, .int 0, .int 1, .int 0, .ref m_tape, .int 0, .ref m_refused, .int 0, .int (-1), .int 0, .int 0, .int 0, .int 0, .int (-1), .ref m_ownLetters, .ref m_flats, .int 0, .ref m_corner, .ref m_wayX, .ref m_wayY, .ref m_normal, .ref m_low, .ref m_high, .ref m_clear, .ref m_ways, .ref m_canBe, .ref m_lain, .int 0, .ref m_fewestBy, .ref m_sortOf, .int 0, .ref m_seenFlange, .ref m_seenLength])), (m_read, .inl (g.2.1.1, 103, .inl f103)), (m_readNow, .inl (g.2.1.1, 21, .inl f105))] H := hP
  have hD : va_D A [(h0, .inr (9, [.ref m_told, .ref m_read, .ref m_now, .ref m_readNow, .ref m_kept, .int 0, .int 1, .int 0, .ref m_tape, .int 0, .ref m_refused, .int 0, .int (-1), .int 0, .int 0, .int 0, .int 0, .int (-1), .ref m_ownLetters, .ref m_flats, .int 0, .ref m_corner, .ref m_wayX, .ref m_wayY, .ref m_normal, .ref m_low, .ref m_high, .ref m_clear, .ref m_ways, .ref m_canBe, .ref m_lain, .int 0, .ref m_fewestBy, .ref m_sortOf, .int 0, .ref m_seenFlange, .ref m_seenLength])), (m_read, .inl (g.2.1.1, 103, .inl f103)), (m_readNow, .inl (g.2.1.1, 21, .inl f105))] := hD
  refine lv_iinc (v := 2) (lv' := [(1, .int 2), (0, .ref h0)]) hx hb dX9_readsAll_46 hl (k := 0) rfl (by decide) (by decide) rfl (fun ls hl => ?_)
  refine lv_goto (tgt := 23) hx hb dX9_readsAll_49 (by decide) ?_
  refine lv_iload_n hx hb dX9_readsAll_23 rfl (lv_at hl 0 rfl) ?_
  refine lv_bipush (v := 21) hx hb dX9_readsAll_24 (by decide) ?_
  refine lv_icmp_ge (tgt := 52) hx hb dX9_readsAll_26 (by decide) (fun c26 => absurd c26 (by decide)) (fun c26 => ?_)
  refine lv_aload_n hx hb dX9_readsAll_29 rfl (lv_at hl 1 rfl) ?_
  refine va_get (D := g.1) (ci := 9) (v := .ref m_readNow) (C := RX9) (T := TX9) (N := 37) hx hb hG iX9 hown hX.1 hP 0 rfl rfl 3 (by decide) (hG _ g1420) (fun _ h9 => h9) rfl dX9_readsAll_30 ?_
  refine lv_iload_n hx hb dX9_readsAll_33 rfl (lv_at hl 0 rfl) ?_
  refine lv_iload_n hx hb dX9_readsAll_34 rfl (lv_at hl 0 rfl) ?_
  refine lv_bipush (v := 11) hx hb dX9_readsAll_35 (by decide) ?_
  refine lv_icmp_ge (tgt := 44) hx hb dX9_readsAll_37 (by decide) (fun c37 => absurd c37 (by decide)) (fun c37 => ?_)
  refine lv_iconst (v := 0) hx hb dX9_readsAll_40 (by decide) ?_
  refine lv_goto (tgt := 45) hx hb dX9_readsAll_41 (by decide) ?_
  refine va_iast hx hb hX.1 hP hD hS 2 0 rfl rfl (vp_in_iff.mpr (by decide)) dX9_readsAll_45 (fun H locs hP hD hS => ?_)
  obtain ⟨f106, ef106⟩ : ∃ z : Nat → Int32, z = upd f105 (2 : Int32).toNatClampNeg 0 := ⟨_, rfl⟩
  rw [← ef106] at hP hD
  have hP : va_P g.1 vwCl [(h0, .inr (9, [.ref m_told, .ref m_read, .ref m_now, .ref m_readNow, .ref m_kept, .int 0, .int 1, .int 0, .ref m_tape, .int 0, .ref m_refused, .int 0, .int (-1), .int 0, .int 0, .int 0, .int 0, .int (-1), .ref m_ownLetters, .ref m_flats, .int 0, .ref m_corner, .ref m_wayX, .ref m_wayY, .ref m_normal, .ref m_low, .ref m_high, .ref m_clear, .ref m_ways, .ref m_canBe, .ref m_lain, .int 0, .ref m_fewestBy, .ref m_sortOf, .int 0, .ref m_seenFlange, .ref m_seenLength])), (m_read, .inl (g.2.1.1, 103, .inl f103)), (m_readNow, .inl (g.2.1.1, 21, .inl f106))] H := hP
  have hD : va_D A [(h0, .inr (9, [.ref m_told, .ref m_read, .ref m_now, .ref m_readNow, .ref m_kept, .int 0, .int 1, .int 0, .ref m_tape, .int 0, .ref m_refused, .int 0, .int (-1), .int 0, .int 0, .int 0, .int 0, .int (-1), .ref m_ownLetters, .ref m_flats, .int 0, .ref m_corner, .ref m_wayX, .ref m_wayY, .ref m_normal, .ref m_low, .ref m_high, .ref m_clear, .ref m_ways, .ref m_canBe, .ref m_lain, .int 0, .ref m_fewestBy, .ref m_sortOf, .int 0, .ref m_seenFlange, .ref m_seenLength])), (m_read, .inl (g.2.1.1, 103, .inl f103)), (m_readNow, .inl (g.2.1.1, 21, .inl f106))] := hD
  refine lv_iinc (v := 3) (lv' := [(1, .int 3), (0, .ref h0)]) hx hb dX9_readsAll_46 hl (k := 0) rfl (by decide) (by decide) rfl (fun ls hl => ?_)
  refine lv_goto (tgt := 23) hx hb dX9_readsAll_49 (by decide) ?_
  refine lv_iload_n hx hb dX9_readsAll_23 rfl (lv_at hl 0 rfl) ?_
  refine lv_bipush (v := 21) hx hb dX9_readsAll_24 (by decide) ?_
  refine lv_icmp_ge (tgt := 52) hx hb dX9_readsAll_26 (by decide) (fun c26 => absurd c26 (by decide)) (fun c26 => ?_)
  refine lv_aload_n hx hb dX9_readsAll_29 rfl (lv_at hl 1 rfl) ?_
  refine va_get (D := g.1) (ci := 9) (v := .ref m_readNow) (C := RX9) (T := TX9) (N := 37) hx hb hG iX9 hown hX.1 hP 0 rfl rfl 3 (by decide) (hG _ g1420) (fun _ h9 => h9) rfl dX9_readsAll_30 ?_
  refine lv_iload_n hx hb dX9_readsAll_33 rfl (lv_at hl 0 rfl) ?_
  refine lv_iload_n hx hb dX9_readsAll_34 rfl (lv_at hl 0 rfl) ?_
  refine lv_bipush (v := 11) hx hb dX9_readsAll_35 (by decide) ?_
  refine lv_icmp_ge (tgt := 44) hx hb dX9_readsAll_37 (by decide) (fun c37 => absurd c37 (by decide)) (fun c37 => ?_)
  refine lv_iconst (v := 0) hx hb dX9_readsAll_40 (by decide) ?_
  refine lv_goto (tgt := 45) hx hb dX9_readsAll_41 (by decide) ?_
  refine va_iast hx hb hX.1 hP hD hS 2 0 rfl rfl (vp_in_iff.mpr (by decide)) dX9_readsAll_45 (fun H locs hP hD hS => ?_)
  obtain ⟨f107, ef107⟩ : ∃ z : Nat → Int32, z = upd f106 (3 : Int32).toNatClampNeg 0 := ⟨_, rfl⟩
  rw [← ef107] at hP hD
  have hP : va_P g.1 vwCl [(h0, .inr (9, [.ref m_told, .ref m_read, .ref m_now, .ref m_readNow, .ref m_kept, .int 0, .int 1, .int 0, .ref m_tape, .int 0, .ref m_refused, .int 0, .int (-1), .int 0, .int 0, .int 0, .int 0, .int (-1), .ref m_ownLetters, .ref m_flats, .int 0, .ref m_corner, .ref m_wayX, .ref m_wayY, .ref m_normal, .ref m_low, .ref m_high, .ref m_clear, .ref m_ways, .ref m_canBe, .ref m_lain, .int 0, .ref m_fewestBy, .ref m_sortOf, .int 0, .ref m_seenFlange, .ref m_seenLength])), (m_read, .inl (g.2.1.1, 103, .inl f103)), (m_readNow, .inl (g.2.1.1, 21, .inl f107))] H := hP
  have hD : va_D A [(h0, .inr (9, [.ref m_told, .ref m_read, .ref m_now, .ref m_readNow, .ref m_kept, .int 0, .int 1, .int 0, .ref m_tape, .int 0, .ref m_refused, .int 0, .int (-1), .int 0, .int 0, .int 0, .int 0, .int (-1), .ref m_ownLetters, .ref m_flats, .int 0, .ref m_corner, .ref m_wayX, .ref m_wayY, .ref m_normal, .ref m_low, .ref m_high, .ref m_clear, .ref m_ways, .ref m_canBe, .ref m_lain, .int 0, .ref m_fewestBy, .ref m_sortOf, .int 0, .ref m_seenFlange, .ref m_seenLength])), (m_read, .inl (g.2.1.1, 103, .inl f103)), (m_readNow, .inl (g.2.1.1, 21, .inl f107))] := hD
  refine lv_iinc (v := 4) (lv' := [(1, .int 4), (0, .ref h0)]) hx hb dX9_readsAll_46 hl (k := 0) rfl (by decide) (by decide) rfl (fun ls hl => ?_)
  refine lv_goto (tgt := 23) hx hb dX9_readsAll_49 (by decide) ?_
  refine lv_iload_n hx hb dX9_readsAll_23 rfl (lv_at hl 0 rfl) ?_
  refine lv_bipush (v := 21) hx hb dX9_readsAll_24 (by decide) ?_
  refine lv_icmp_ge (tgt := 52) hx hb dX9_readsAll_26 (by decide) (fun c26 => absurd c26 (by decide)) (fun c26 => ?_)
  refine lv_aload_n hx hb dX9_readsAll_29 rfl (lv_at hl 1 rfl) ?_
  refine va_get (D := g.1) (ci := 9) (v := .ref m_readNow) (C := RX9) (T := TX9) (N := 37) hx hb hG iX9 hown hX.1 hP 0 rfl rfl 3 (by decide) (hG _ g1420) (fun _ h9 => h9) rfl dX9_readsAll_30 ?_
  refine lv_iload_n hx hb dX9_readsAll_33 rfl (lv_at hl 0 rfl) ?_
  refine lv_iload_n hx hb dX9_readsAll_34 rfl (lv_at hl 0 rfl) ?_
  refine lv_bipush (v := 11) hx hb dX9_readsAll_35 (by decide) ?_
  refine lv_icmp_ge (tgt := 44) hx hb dX9_readsAll_37 (by decide) (fun c37 => absurd c37 (by decide)) (fun c37 => ?_)
  refine lv_iconst (v := 0) hx hb dX9_readsAll_40 (by decide) ?_
  refine lv_goto (tgt := 45) hx hb dX9_readsAll_41 (by decide) ?_
  refine va_iast hx hb hX.1 hP hD hS 2 0 rfl rfl (vp_in_iff.mpr (by decide)) dX9_readsAll_45 (fun H locs hP hD hS => ?_)
  obtain ⟨f108, ef108⟩ : ∃ z : Nat → Int32, z = upd f107 (4 : Int32).toNatClampNeg 0 := ⟨_, rfl⟩
  rw [← ef108] at hP hD
  have hP : va_P g.1 vwCl [(h0, .inr (9, [.ref m_told, .ref m_read, .ref m_now, .ref m_readNow, .ref m_kept, .int 0, .int 1, .int 0, .ref m_tape, .int 0, .ref m_refused, .int 0, .int (-1), .int 0, .int 0, .int 0, .int 0, .int (-1), .ref m_ownLetters, .ref m_flats, .int 0, .ref m_corner, .ref m_wayX, .ref m_wayY, .ref m_normal, .ref m_low, .ref m_high, .ref m_clear, .ref m_ways, .ref m_canBe, .ref m_lain, .int 0, .ref m_fewestBy, .ref m_sortOf, .int 0, .ref m_seenFlange, .ref m_seenLength])), (m_read, .inl (g.2.1.1, 103, .inl f103)), (m_readNow, .inl (g.2.1.1, 21, .inl f108))] H := hP
  have hD : va_D A [(h0, .inr (9, [.ref m_told, .ref m_read, .ref m_now, .ref m_readNow, .ref m_kept, .int 0, .int 1, .int 0, .ref m_tape, .int 0, .ref m_refused, .int 0, .int (-1), .int 0, .int 0, .int 0, .int 0, .int (-1), .ref m_ownLetters, .ref m_flats, .int 0, .ref m_corner, .ref m_wayX, .ref m_wayY, .ref m_normal, .ref m_low, .ref m_high, .ref m_clear, .ref m_ways, .ref m_canBe, .ref m_lain, .int 0, .ref m_fewestBy, .ref m_sortOf, .int 0, .ref m_seenFlange, .ref m_seenLength])), (m_read, .inl (g.2.1.1, 103, .inl f103)), (m_readNow, .inl (g.2.1.1, 21, .inl f108))] := hD
  refine lv_iinc (v := 5) (lv' := [(1, .int 5), (0, .ref h0)]) hx hb dX9_readsAll_46 hl (k := 0) rfl (by decide) (by decide) rfl (fun ls hl => ?_)
  refine lv_goto (tgt := 23) hx hb dX9_readsAll_49 (by decide) ?_
  refine lv_iload_n hx hb dX9_readsAll_23 rfl (lv_at hl 0 rfl) ?_
  refine lv_bipush (v := 21) hx hb dX9_readsAll_24 (by decide) ?_
  refine lv_icmp_ge (tgt := 52) hx hb dX9_readsAll_26 (by decide) (fun c26 => absurd c26 (by decide)) (fun c26 => ?_)
  refine lv_aload_n hx hb dX9_readsAll_29 rfl (lv_at hl 1 rfl) ?_
  refine va_get (D := g.1) (ci := 9) (v := .ref m_readNow) (C := RX9) (T := TX9) (N := 37) hx hb hG iX9 hown hX.1 hP 0 rfl rfl 3 (by decide) (hG _ g1420) (fun _ h9 => h9) rfl dX9_readsAll_30 ?_
  refine lv_iload_n hx hb dX9_readsAll_33 rfl (lv_at hl 0 rfl) ?_
  refine lv_iload_n hx hb dX9_readsAll_34 rfl (lv_at hl 0 rfl) ?_
  refine lv_bipush (v := 11) hx hb dX9_readsAll_35 (by decide) ?_
  refine lv_icmp_ge (tgt := 44) hx hb dX9_readsAll_37 (by decide) (fun c37 => absurd c37 (by decide)) (fun c37 => ?_)
  refine lv_iconst (v := 0) hx hb dX9_readsAll_40 (by decide) ?_
  refine lv_goto (tgt := 45) hx hb dX9_readsAll_41 (by decide) ?_
  refine va_iast hx hb hX.1 hP hD hS 2 0 rfl rfl (vp_in_iff.mpr (by decide)) dX9_readsAll_45 (fun H locs hP hD hS => ?_)
  obtain ⟨f109, ef109⟩ : ∃ z : Nat → Int32, z = upd f108 (5 : Int32).toNatClampNeg 0 := ⟨_, rfl⟩
  rw [← ef109] at hP hD
  have hP : va_P g.1 vwCl [(h0, .inr (9, [.ref m_told, .ref m_read, .ref m_now, .ref m_readNow, .ref m_kept, .int 0, .int 1, .int 0, .ref m_tape, .int 0, .ref m_refused, .int 0, .int (-1), .int 0, .int 0, .int 0, .int 0, .int (-1), .ref m_ownLetters, .ref m_flats, .int 0, .ref m_corner, .ref m_wayX, .ref m_wayY, .ref m_normal, .ref m_low, .ref m_high, .ref m_clear, .ref m_ways, .ref m_canBe, .ref m_lain, .int 0, .ref m_fewestBy, .ref m_sortOf, .int 0, .ref m_seenFlange, .ref m_seenLength])), (m_read, .inl (g.2.1.1, 103, .inl f103)), (m_readNow, .inl (g.2.1.1, 21, .inl f109))] H := hP
  have hD : va_D A [(h0, .inr (9, [.ref m_told, .ref m_read, .ref m_now, .ref m_readNow, .ref m_kept, .int 0, .int 1, .int 0, .ref m_tape, .int 0, .ref m_refused, .int 0, .int (-1), .int 0, .int 0, .int 0, .int 0, .int (-1), .ref m_ownLetters, .ref m_flats, .int 0, .ref m_corner, .ref m_wayX, .ref m_wayY, .ref m_normal, .ref m_low, .ref m_high, .ref m_clear, .ref m_ways, .ref m_canBe, .ref m_lain, .int 0, .ref m_fewestBy, .ref m_sortOf, .int 0, .ref m_seenFlange, .ref m_seenLength])), (m_read, .inl (g.2.1.1, 103, .inl f103)), (m_readNow, .inl (g.2.1.1, 21, .inl f109))] := hD
  refine lv_iinc (v := 6) (lv' := [(1, .int 6), (0, .ref h0)]) hx hb dX9_readsAll_46 hl (k := 0) rfl (by decide) (by decide) rfl (fun ls hl => ?_)
  refine lv_goto (tgt := 23) hx hb dX9_readsAll_49 (by decide) ?_
  refine lv_iload_n hx hb dX9_readsAll_23 rfl (lv_at hl 0 rfl) ?_
  refine lv_bipush (v := 21) hx hb dX9_readsAll_24 (by decide) ?_
  refine lv_icmp_ge (tgt := 52) hx hb dX9_readsAll_26 (by decide) (fun c26 => absurd c26 (by decide)) (fun c26 => ?_)
  refine lv_aload_n hx hb dX9_readsAll_29 rfl (lv_at hl 1 rfl) ?_
  refine va_get (D := g.1) (ci := 9) (v := .ref m_readNow) (C := RX9) (T := TX9) (N := 37) hx hb hG iX9 hown hX.1 hP 0 rfl rfl 3 (by decide) (hG _ g1420) (fun _ h9 => h9) rfl dX9_readsAll_30 ?_
  refine lv_iload_n hx hb dX9_readsAll_33 rfl (lv_at hl 0 rfl) ?_
  refine lv_iload_n hx hb dX9_readsAll_34 rfl (lv_at hl 0 rfl) ?_
  refine lv_bipush (v := 11) hx hb dX9_readsAll_35 (by decide) ?_
  refine lv_icmp_ge (tgt := 44) hx hb dX9_readsAll_37 (by decide) (fun c37 => absurd c37 (by decide)) (fun c37 => ?_)
  refine lv_iconst (v := 0) hx hb dX9_readsAll_40 (by decide) ?_
  refine lv_goto (tgt := 45) hx hb dX9_readsAll_41 (by decide) ?_
  refine va_iast hx hb hX.1 hP hD hS 2 0 rfl rfl (vp_in_iff.mpr (by decide)) dX9_readsAll_45 (fun H locs hP hD hS => ?_)
  obtain ⟨f110, ef110⟩ : ∃ z : Nat → Int32, z = upd f109 (6 : Int32).toNatClampNeg 0 := ⟨_, rfl⟩
  rw [← ef110] at hP hD
  have hP : va_P g.1 vwCl [(h0, .inr (9, [.ref m_told, .ref m_read, .ref m_now, .ref m_readNow, .ref m_kept, .int 0, .int 1, .int 0, .ref m_tape, .int 0, .ref m_refused, .int 0, .int (-1), .int 0, .int 0, .int 0, .int 0, .int (-1), .ref m_ownLetters, .ref m_flats, .int 0, .ref m_corner, .ref m_wayX, .ref m_wayY, .ref m_normal, .ref m_low, .ref m_high, .ref m_clear, .ref m_ways, .ref m_canBe, .ref m_lain, .int 0, .ref m_fewestBy, .ref m_sortOf, .int 0, .ref m_seenFlange, .ref m_seenLength])), (m_read, .inl (g.2.1.1, 103, .inl f103)), (m_readNow, .inl (g.2.1.1, 21, .inl f110))] H := hP
  have hD : va_D A [(h0, .inr (9, [.ref m_told, .ref m_read, .ref m_now, .ref m_readNow, .ref m_kept, .int 0, .int 1, .int 0, .ref m_tape, .int 0, .ref m_refused, .int 0, .int (-1), .int 0, .int 0, .int 0, .int 0, .int (-1), .ref m_ownLetters, .ref m_flats, .int 0, .ref m_corner, .ref m_wayX, .ref m_wayY, .ref m_normal, .ref m_low, .ref m_high, .ref m_clear, .ref m_ways, .ref m_canBe, .ref m_lain, .int 0, .ref m_fewestBy, .ref m_sortOf, .int 0, .ref m_seenFlange, .ref m_seenLength])), (m_read, .inl (g.2.1.1, 103, .inl f103)), (m_readNow, .inl (g.2.1.1, 21, .inl f110))] := hD
  refine lv_iinc (v := 7) (lv' := [(1, .int 7), (0, .ref h0)]) hx hb dX9_readsAll_46 hl (k := 0) rfl (by decide) (by decide) rfl (fun ls hl => ?_)
  refine lv_goto (tgt := 23) hx hb dX9_readsAll_49 (by decide) ?_
  refine lv_iload_n hx hb dX9_readsAll_23 rfl (lv_at hl 0 rfl) ?_
  refine lv_bipush (v := 21) hx hb dX9_readsAll_24 (by decide) ?_
  refine lv_icmp_ge (tgt := 52) hx hb dX9_readsAll_26 (by decide) (fun c26 => absurd c26 (by decide)) (fun c26 => ?_)
  refine lv_aload_n hx hb dX9_readsAll_29 rfl (lv_at hl 1 rfl) ?_
  refine va_get (D := g.1) (ci := 9) (v := .ref m_readNow) (C := RX9) (T := TX9) (N := 37) hx hb hG iX9 hown hX.1 hP 0 rfl rfl 3 (by decide) (hG _ g1420) (fun _ h9 => h9) rfl dX9_readsAll_30 ?_
  refine lv_iload_n hx hb dX9_readsAll_33 rfl (lv_at hl 0 rfl) ?_
  refine lv_iload_n hx hb dX9_readsAll_34 rfl (lv_at hl 0 rfl) ?_
  refine lv_bipush (v := 11) hx hb dX9_readsAll_35 (by decide) ?_
  refine lv_icmp_ge (tgt := 44) hx hb dX9_readsAll_37 (by decide) (fun c37 => absurd c37 (by decide)) (fun c37 => ?_)
  refine lv_iconst (v := 0) hx hb dX9_readsAll_40 (by decide) ?_
  refine lv_goto (tgt := 45) hx hb dX9_readsAll_41 (by decide) ?_
  refine va_iast hx hb hX.1 hP hD hS 2 0 rfl rfl (vp_in_iff.mpr (by decide)) dX9_readsAll_45 (fun H locs hP hD hS => ?_)
  obtain ⟨f111, ef111⟩ : ∃ z : Nat → Int32, z = upd f110 (7 : Int32).toNatClampNeg 0 := ⟨_, rfl⟩
  rw [← ef111] at hP hD
  have hP : va_P g.1 vwCl [(h0, .inr (9, [.ref m_told, .ref m_read, .ref m_now, .ref m_readNow, .ref m_kept, .int 0, .int 1, .int 0, .ref m_tape, .int 0, .ref m_refused, .int 0, .int (-1), .int 0, .int 0, .int 0, .int 0, .int (-1), .ref m_ownLetters, .ref m_flats, .int 0, .ref m_corner, .ref m_wayX, .ref m_wayY, .ref m_normal, .ref m_low, .ref m_high, .ref m_clear, .ref m_ways, .ref m_canBe, .ref m_lain, .int 0, .ref m_fewestBy, .ref m_sortOf, .int 0, .ref m_seenFlange, .ref m_seenLength])), (m_read, .inl (g.2.1.1, 103, .inl f103)), (m_readNow, .inl (g.2.1.1, 21, .inl f111))] H := hP
  have hD : va_D A [(h0, .inr (9, [.ref m_told, .ref m_read, .ref m_now, .ref m_readNow, .ref m_kept, .int 0, .int 1, .int 0, .ref m_tape, .int 0, .ref m_refused, .int 0, .int (-1), .int 0, .int 0, .int 0, .int 0, .int (-1), .ref m_ownLetters, .ref m_flats, .int 0, .ref m_corner, .ref m_wayX, .ref m_wayY, .ref m_normal, .ref m_low, .ref m_high, .ref m_clear, .ref m_ways, .ref m_canBe, .ref m_lain, .int 0, .ref m_fewestBy, .ref m_sortOf, .int 0, .ref m_seenFlange, .ref m_seenLength])), (m_read, .inl (g.2.1.1, 103, .inl f103)), (m_readNow, .inl (g.2.1.1, 21, .inl f111))] := hD
  refine lv_iinc (v := 8) (lv' := [(1, .int 8), (0, .ref h0)]) hx hb dX9_readsAll_46 hl (k := 0) rfl (by decide) (by decide) rfl (fun ls hl => ?_)
  refine lv_goto (tgt := 23) hx hb dX9_readsAll_49 (by decide) ?_
  refine lv_iload_n hx hb dX9_readsAll_23 rfl (lv_at hl 0 rfl) ?_
  refine lv_bipush (v := 21) hx hb dX9_readsAll_24 (by decide) ?_
  refine lv_icmp_ge (tgt := 52) hx hb dX9_readsAll_26 (by decide) (fun c26 => absurd c26 (by decide)) (fun c26 => ?_)
  refine lv_aload_n hx hb dX9_readsAll_29 rfl (lv_at hl 1 rfl) ?_
  refine va_get (D := g.1) (ci := 9) (v := .ref m_readNow) (C := RX9) (T := TX9) (N := 37) hx hb hG iX9 hown hX.1 hP 0 rfl rfl 3 (by decide) (hG _ g1420) (fun _ h9 => h9) rfl dX9_readsAll_30 ?_
  refine lv_iload_n hx hb dX9_readsAll_33 rfl (lv_at hl 0 rfl) ?_
  refine lv_iload_n hx hb dX9_readsAll_34 rfl (lv_at hl 0 rfl) ?_
  refine lv_bipush (v := 11) hx hb dX9_readsAll_35 (by decide) ?_
  refine lv_icmp_ge (tgt := 44) hx hb dX9_readsAll_37 (by decide) (fun c37 => absurd c37 (by decide)) (fun c37 => ?_)
  refine lv_iconst (v := 0) hx hb dX9_readsAll_40 (by decide) ?_
  refine lv_goto (tgt := 45) hx hb dX9_readsAll_41 (by decide) ?_
  refine va_iast hx hb hX.1 hP hD hS 2 0 rfl rfl (vp_in_iff.mpr (by decide)) dX9_readsAll_45 (fun H locs hP hD hS => ?_)
  obtain ⟨f112, ef112⟩ : ∃ z : Nat → Int32, z = upd f111 (8 : Int32).toNatClampNeg 0 := ⟨_, rfl⟩
  rw [← ef112] at hP hD
  have hP : va_P g.1 vwCl [(h0, .inr (9, [.ref m_told, .ref m_read, .ref m_now, .ref m_readNow, .ref m_kept, .int 0, .int 1, .int 0, .ref m_tape, .int 0, .ref m_refused, .int 0, .int (-1), .int 0, .int 0, .int 0, .int 0, .int (-1), .ref m_ownLetters, .ref m_flats, .int 0, .ref m_corner, .ref m_wayX, .ref m_wayY, .ref m_normal, .ref m_low, .ref m_high, .ref m_clear, .ref m_ways, .ref m_canBe, .ref m_lain, .int 0, .ref m_fewestBy, .ref m_sortOf, .int 0, .ref m_seenFlange, .ref m_seenLength])), (m_read, .inl (g.2.1.1, 103, .inl f103)), (m_readNow, .inl (g.2.1.1, 21, .inl f112))] H := hP
  have hD : va_D A [(h0, .inr (9, [.ref m_told, .ref m_read, .ref m_now, .ref m_readNow, .ref m_kept, .int 0, .int 1, .int 0, .ref m_tape, .int 0, .ref m_refused, .int 0, .int (-1), .int 0, .int 0, .int 0, .int 0, .int (-1), .ref m_ownLetters, .ref m_flats, .int 0, .ref m_corner, .ref m_wayX, .ref m_wayY, .ref m_normal, .ref m_low, .ref m_high, .ref m_clear, .ref m_ways, .ref m_canBe, .ref m_lain, .int 0, .ref m_fewestBy, .ref m_sortOf, .int 0, .ref m_seenFlange, .ref m_seenLength])), (m_read, .inl (g.2.1.1, 103, .inl f103)), (m_readNow, .inl (g.2.1.1, 21, .inl f112))] := hD
  refine lv_iinc (v := 9) (lv' := [(1, .int 9), (0, .ref h0)]) hx hb dX9_readsAll_46 hl (k := 0) rfl (by decide) (by decide) rfl (fun ls hl => ?_)
  refine lv_goto (tgt := 23) hx hb dX9_readsAll_49 (by decide) ?_
  refine lv_iload_n hx hb dX9_readsAll_23 rfl (lv_at hl 0 rfl) ?_
  refine lv_bipush (v := 21) hx hb dX9_readsAll_24 (by decide) ?_
  refine lv_icmp_ge (tgt := 52) hx hb dX9_readsAll_26 (by decide) (fun c26 => absurd c26 (by decide)) (fun c26 => ?_)
  refine lv_aload_n hx hb dX9_readsAll_29 rfl (lv_at hl 1 rfl) ?_
  refine va_get (D := g.1) (ci := 9) (v := .ref m_readNow) (C := RX9) (T := TX9) (N := 37) hx hb hG iX9 hown hX.1 hP 0 rfl rfl 3 (by decide) (hG _ g1420) (fun _ h9 => h9) rfl dX9_readsAll_30 ?_
  refine lv_iload_n hx hb dX9_readsAll_33 rfl (lv_at hl 0 rfl) ?_
  refine lv_iload_n hx hb dX9_readsAll_34 rfl (lv_at hl 0 rfl) ?_
  refine lv_bipush (v := 11) hx hb dX9_readsAll_35 (by decide) ?_
  refine lv_icmp_ge (tgt := 44) hx hb dX9_readsAll_37 (by decide) (fun c37 => absurd c37 (by decide)) (fun c37 => ?_)
  refine lv_iconst (v := 0) hx hb dX9_readsAll_40 (by decide) ?_
  refine lv_goto (tgt := 45) hx hb dX9_readsAll_41 (by decide) ?_
  refine va_iast hx hb hX.1 hP hD hS 2 0 rfl rfl (vp_in_iff.mpr (by decide)) dX9_readsAll_45 (fun H locs hP hD hS => ?_)
  obtain ⟨f113, ef113⟩ : ∃ z : Nat → Int32, z = upd f112 (9 : Int32).toNatClampNeg 0 := ⟨_, rfl⟩
  rw [← ef113] at hP hD
  have hP : va_P g.1 vwCl [(h0, .inr (9, [.ref m_told, .ref m_read, .ref m_now, .ref m_readNow, .ref m_kept, .int 0, .int 1, .int 0, .ref m_tape, .int 0, .ref m_refused, .int 0, .int (-1), .int 0, .int 0, .int 0, .int 0, .int (-1), .ref m_ownLetters, .ref m_flats, .int 0, .ref m_corner, .ref m_wayX, .ref m_wayY, .ref m_normal, .ref m_low, .ref m_high, .ref m_clear, .ref m_ways, .ref m_canBe, .ref m_lain, .int 0, .ref m_fewestBy, .ref m_sortOf, .int 0, .ref m_seenFlange, .ref m_seenLength])), (m_read, .inl (g.2.1.1, 103, .inl f103)), (m_readNow, .inl (g.2.1.1, 21, .inl f113))] H := hP
  have hD : va_D A [(h0, .inr (9, [.ref m_told, .ref m_read, .ref m_now, .ref m_readNow, .ref m_kept, .int 0, .int 1, .int 0, .ref m_tape, .int 0, .ref m_refused, .int 0, .int (-1), .int 0, .int 0, .int 0, .int 0, .int (-1), .ref m_ownLetters, .ref m_flats, .int 0, .ref m_corner, .ref m_wayX, .ref m_wayY, .ref m_normal, .ref m_low, .ref m_high, .ref m_clear, .ref m_ways, .ref m_canBe, .ref m_lain, .int 0, .ref m_fewestBy, .ref m_sortOf, .int 0, .ref m_seenFlange, .ref m_seenLength])), (m_read, .inl (g.2.1.1, 103, .inl f103)), (m_readNow, .inl (g.2.1.1, 21, .inl f113))] := hD
  refine lv_iinc (v := 10) (lv' := [(1, .int 10), (0, .ref h0)]) hx hb dX9_readsAll_46 hl (k := 0) rfl (by decide) (by decide) rfl (fun ls hl => ?_)
  refine lv_goto (tgt := 23) hx hb dX9_readsAll_49 (by decide) ?_
  refine lv_iload_n hx hb dX9_readsAll_23 rfl (lv_at hl 0 rfl) ?_
  refine lv_bipush (v := 21) hx hb dX9_readsAll_24 (by decide) ?_
  refine lv_icmp_ge (tgt := 52) hx hb dX9_readsAll_26 (by decide) (fun c26 => absurd c26 (by decide)) (fun c26 => ?_)
  refine lv_aload_n hx hb dX9_readsAll_29 rfl (lv_at hl 1 rfl) ?_
  refine va_get (D := g.1) (ci := 9) (v := .ref m_readNow) (C := RX9) (T := TX9) (N := 37) hx hb hG iX9 hown hX.1 hP 0 rfl rfl 3 (by decide) (hG _ g1420) (fun _ h9 => h9) rfl dX9_readsAll_30 ?_
  refine lv_iload_n hx hb dX9_readsAll_33 rfl (lv_at hl 0 rfl) ?_
  refine lv_iload_n hx hb dX9_readsAll_34 rfl (lv_at hl 0 rfl) ?_
  refine lv_bipush (v := 11) hx hb dX9_readsAll_35 (by decide) ?_
  refine lv_icmp_ge (tgt := 44) hx hb dX9_readsAll_37 (by decide) (fun c37 => absurd c37 (by decide)) (fun c37 => ?_)
  refine lv_iconst (v := 0) hx hb dX9_readsAll_40 (by decide) ?_
  refine lv_goto (tgt := 45) hx hb dX9_readsAll_41 (by decide) ?_
  refine va_iast hx hb hX.1 hP hD hS 2 0 rfl rfl (vp_in_iff.mpr (by decide)) dX9_readsAll_45 (fun H locs hP hD hS => ?_)
  obtain ⟨f114, ef114⟩ : ∃ z : Nat → Int32, z = upd f113 (10 : Int32).toNatClampNeg 0 := ⟨_, rfl⟩
  rw [← ef114] at hP hD
  have hP : va_P g.1 vwCl [(h0, .inr (9, [.ref m_told, .ref m_read, .ref m_now, .ref m_readNow, .ref m_kept, .int 0, .int 1, .int 0, .ref m_tape, .int 0, .ref m_refused, .int 0, .int (-1), .int 0, .int 0, .int 0, .int 0, .int (-1), .ref m_ownLetters, .ref m_flats, .int 0, .ref m_corner, .ref m_wayX, .ref m_wayY, .ref m_normal, .ref m_low, .ref m_high, .ref m_clear, .ref m_ways, .ref m_canBe, .ref m_lain, .int 0, .ref m_fewestBy, .ref m_sortOf, .int 0, .ref m_seenFlange, .ref m_seenLength])), (m_read, .inl (g.2.1.1, 103, .inl f103)), (m_readNow, .inl (g.2.1.1, 21, .inl f114))] H := hP
  have hD : va_D A [(h0, .inr (9, [.ref m_told, .ref m_read, .ref m_now, .ref m_readNow, .ref m_kept, .int 0, .int 1, .int 0, .ref m_tape, .int 0, .ref m_refused, .int 0, .int (-1), .int 0, .int 0, .int 0, .int 0, .int (-1), .ref m_ownLetters, .ref m_flats, .int 0, .ref m_corner, .ref m_wayX, .ref m_wayY, .ref m_normal, .ref m_low, .ref m_high, .ref m_clear, .ref m_ways, .ref m_canBe, .ref m_lain, .int 0, .ref m_fewestBy, .ref m_sortOf, .int 0, .ref m_seenFlange, .ref m_seenLength])), (m_read, .inl (g.2.1.1, 103, .inl f103)), (m_readNow, .inl (g.2.1.1, 21, .inl f114))] := hD
  refine lv_iinc (v := 11) (lv' := [(1, .int 11), (0, .ref h0)]) hx hb dX9_readsAll_46 hl (k := 0) rfl (by decide) (by decide) rfl (fun ls hl => ?_)
  refine lv_goto (tgt := 23) hx hb dX9_readsAll_49 (by decide) ?_
  refine lv_iload_n hx hb dX9_readsAll_23 rfl (lv_at hl 0 rfl) ?_
  refine lv_bipush (v := 21) hx hb dX9_readsAll_24 (by decide) ?_
  refine lv_icmp_ge (tgt := 52) hx hb dX9_readsAll_26 (by decide) (fun c26 => absurd c26 (by decide)) (fun c26 => ?_)
  refine lv_aload_n hx hb dX9_readsAll_29 rfl (lv_at hl 1 rfl) ?_
  refine va_get (D := g.1) (ci := 9) (v := .ref m_readNow) (C := RX9) (T := TX9) (N := 37) hx hb hG iX9 hown hX.1 hP 0 rfl rfl 3 (by decide) (hG _ g1420) (fun _ h9 => h9) rfl dX9_readsAll_30 ?_
  refine lv_iload_n hx hb dX9_readsAll_33 rfl (lv_at hl 0 rfl) ?_
  refine lv_iload_n hx hb dX9_readsAll_34 rfl (lv_at hl 0 rfl) ?_
  refine lv_bipush (v := 11) hx hb dX9_readsAll_35 (by decide) ?_
  refine lv_icmp_ge (tgt := 44) hx hb dX9_readsAll_37 (by decide) (fun c37 => ?_) (fun c37 => (c37 (by decide)).elim)
  refine lv_iconst (v := (-1)) hx hb dX9_readsAll_44 (by decide) ?_
  refine va_iast hx hb hX.1 hP hD hS 2 0 rfl rfl (vp_in_iff.mpr (by decide)) dX9_readsAll_45 (fun H locs hP hD hS => ?_)
  obtain ⟨f115, ef115⟩ : ∃ z : Nat → Int32, z = upd f114 (11 : Int32).toNatClampNeg (-1) := ⟨_, rfl⟩
  rw [← ef115] at hP hD
  have hP : va_P g.1 vwCl [(h0, .inr (9, [.ref m_told, .ref m_read, .ref m_now, .ref m_readNow, .ref m_kept, .int 0, .int 1, .int 0, .ref m_tape, .int 0, .ref m_refused, .int 0, .int (-1), .int 0, .int 0, .int 0, .int 0, .int (-1), .ref m_ownLetters, .ref m_flats, .int 0, .ref m_corner, .ref m_wayX, .ref m_wayY, .ref m_normal, .ref m_low, .ref m_high, .ref m_clear, .ref m_ways, .ref m_canBe, .ref m_lain, .int 0, .ref m_fewestBy, .ref m_sortOf, .int 0, .ref m_seenFlange, .ref m_seenLength])), (m_read, .inl (g.2.1.1, 103, .inl f103)), (m_readNow, .inl (g.2.1.1, 21, .inl f115))] H := hP
  have hD : va_D A [(h0, .inr (9, [.ref m_told, .ref m_read, .ref m_now, .ref m_readNow, .ref m_kept, .int 0, .int 1, .int 0, .ref m_tape, .int 0, .ref m_refused, .int 0, .int (-1), .int 0, .int 0, .int 0, .int 0, .int (-1), .ref m_ownLetters, .ref m_flats, .int 0, .ref m_corner, .ref m_wayX, .ref m_wayY, .ref m_normal, .ref m_low, .ref m_high, .ref m_clear, .ref m_ways, .ref m_canBe, .ref m_lain, .int 0, .ref m_fewestBy, .ref m_sortOf, .int 0, .ref m_seenFlange, .ref m_seenLength])), (m_read, .inl (g.2.1.1, 103, .inl f103)), (m_readNow, .inl (g.2.1.1, 21, .inl f115))] := hD
  refine lv_iinc (v := 12) (lv' := [(1, .int 12), (0, .ref h0)]) hx hb dX9_readsAll_46 hl (k := 0) rfl (by decide) (by decide) rfl (fun ls hl => ?_)
  refine lv_goto (tgt := 23) hx hb dX9_readsAll_49 (by decide) ?_
  refine lv_iload_n hx hb dX9_readsAll_23 rfl (lv_at hl 0 rfl) ?_
  refine lv_bipush (v := 21) hx hb dX9_readsAll_24 (by decide) ?_
  refine lv_icmp_ge (tgt := 52) hx hb dX9_readsAll_26 (by decide) (fun c26 => absurd c26 (by decide)) (fun c26 => ?_)
  refine lv_aload_n hx hb dX9_readsAll_29 rfl (lv_at hl 1 rfl) ?_
  refine va_get (D := g.1) (ci := 9) (v := .ref m_readNow) (C := RX9) (T := TX9) (N := 37) hx hb hG iX9 hown hX.1 hP 0 rfl rfl 3 (by decide) (hG _ g1420) (fun _ h9 => h9) rfl dX9_readsAll_30 ?_
  refine lv_iload_n hx hb dX9_readsAll_33 rfl (lv_at hl 0 rfl) ?_
  refine lv_iload_n hx hb dX9_readsAll_34 rfl (lv_at hl 0 rfl) ?_
  refine lv_bipush (v := 11) hx hb dX9_readsAll_35 (by decide) ?_
  refine lv_icmp_ge (tgt := 44) hx hb dX9_readsAll_37 (by decide) (fun c37 => ?_) (fun c37 => (c37 (by decide)).elim)
  refine lv_iconst (v := (-1)) hx hb dX9_readsAll_44 (by decide) ?_
  refine va_iast hx hb hX.1 hP hD hS 2 0 rfl rfl (vp_in_iff.mpr (by decide)) dX9_readsAll_45 (fun H locs hP hD hS => ?_)
  obtain ⟨f116, ef116⟩ : ∃ z : Nat → Int32, z = upd f115 (12 : Int32).toNatClampNeg (-1) := ⟨_, rfl⟩
  rw [← ef116] at hP hD
  have hP : va_P g.1 vwCl [(h0, .inr (9, [.ref m_told, .ref m_read, .ref m_now, .ref m_readNow, .ref m_kept, .int 0, .int 1, .int 0, .ref m_tape, .int 0, .ref m_refused, .int 0, .int (-1), .int 0, .int 0, .int 0, .int 0, .int (-1), .ref m_ownLetters, .ref m_flats, .int 0, .ref m_corner, .ref m_wayX, .ref m_wayY, .ref m_normal, .ref m_low, .ref m_high, .ref m_clear, .ref m_ways, .ref m_canBe, .ref m_lain, .int 0, .ref m_fewestBy, .ref m_sortOf, .int 0, .ref m_seenFlange, .ref m_seenLength])), (m_read, .inl (g.2.1.1, 103, .inl f103)), (m_readNow, .inl (g.2.1.1, 21, .inl f116))] H := hP
  have hD : va_D A [(h0, .inr (9, [.ref m_told, .ref m_read, .ref m_now, .ref m_readNow, .ref m_kept, .int 0, .int 1, .int 0, .ref m_tape, .int 0, .ref m_refused, .int 0, .int (-1), .int 0, .int 0, .int 0, .int 0, .int (-1), .ref m_ownLetters, .ref m_flats, .int 0, .ref m_corner, .ref m_wayX, .ref m_wayY, .ref m_normal, .ref m_low, .ref m_high, .ref m_clear, .ref m_ways, .ref m_canBe, .ref m_lain, .int 0, .ref m_fewestBy, .ref m_sortOf, .int 0, .ref m_seenFlange, .ref m_seenLength])), (m_read, .inl (g.2.1.1, 103, .inl f103)), (m_readNow, .inl (g.2.1.1, 21, .inl f116))] := hD
  refine lv_iinc (v := 13) (lv' := [(1, .int 13), (0, .ref h0)]) hx hb dX9_readsAll_46 hl (k := 0) rfl (by decide) (by decide) rfl (fun ls hl => ?_)
  refine lv_goto (tgt := 23) hx hb dX9_readsAll_49 (by decide) ?_
  refine lv_iload_n hx hb dX9_readsAll_23 rfl (lv_at hl 0 rfl) ?_
  refine lv_bipush (v := 21) hx hb dX9_readsAll_24 (by decide) ?_
  refine lv_icmp_ge (tgt := 52) hx hb dX9_readsAll_26 (by decide) (fun c26 => absurd c26 (by decide)) (fun c26 => ?_)
  refine lv_aload_n hx hb dX9_readsAll_29 rfl (lv_at hl 1 rfl) ?_
  refine va_get (D := g.1) (ci := 9) (v := .ref m_readNow) (C := RX9) (T := TX9) (N := 37) hx hb hG iX9 hown hX.1 hP 0 rfl rfl 3 (by decide) (hG _ g1420) (fun _ h9 => h9) rfl dX9_readsAll_30 ?_
  refine lv_iload_n hx hb dX9_readsAll_33 rfl (lv_at hl 0 rfl) ?_
  refine lv_iload_n hx hb dX9_readsAll_34 rfl (lv_at hl 0 rfl) ?_
  refine lv_bipush (v := 11) hx hb dX9_readsAll_35 (by decide) ?_
  refine lv_icmp_ge (tgt := 44) hx hb dX9_readsAll_37 (by decide) (fun c37 => ?_) (fun c37 => (c37 (by decide)).elim)
  refine lv_iconst (v := (-1)) hx hb dX9_readsAll_44 (by decide) ?_
  refine va_iast hx hb hX.1 hP hD hS 2 0 rfl rfl (vp_in_iff.mpr (by decide)) dX9_readsAll_45 (fun H locs hP hD hS => ?_)
  obtain ⟨f117, ef117⟩ : ∃ z : Nat → Int32, z = upd f116 (13 : Int32).toNatClampNeg (-1) := ⟨_, rfl⟩
  rw [← ef117] at hP hD
  have hP : va_P g.1 vwCl [(h0, .inr (9, [.ref m_told, .ref m_read, .ref m_now, .ref m_readNow, .ref m_kept, .int 0, .int 1, .int 0, .ref m_tape, .int 0, .ref m_refused, .int 0, .int (-1), .int 0, .int 0, .int 0, .int 0, .int (-1), .ref m_ownLetters, .ref m_flats, .int 0, .ref m_corner, .ref m_wayX, .ref m_wayY, .ref m_normal, .ref m_low, .ref m_high, .ref m_clear, .ref m_ways, .ref m_canBe, .ref m_lain, .int 0, .ref m_fewestBy, .ref m_sortOf, .int 0, .ref m_seenFlange, .ref m_seenLength])), (m_read, .inl (g.2.1.1, 103, .inl f103)), (m_readNow, .inl (g.2.1.1, 21, .inl f117))] H := hP
  have hD : va_D A [(h0, .inr (9, [.ref m_told, .ref m_read, .ref m_now, .ref m_readNow, .ref m_kept, .int 0, .int 1, .int 0, .ref m_tape, .int 0, .ref m_refused, .int 0, .int (-1), .int 0, .int 0, .int 0, .int 0, .int (-1), .ref m_ownLetters, .ref m_flats, .int 0, .ref m_corner, .ref m_wayX, .ref m_wayY, .ref m_normal, .ref m_low, .ref m_high, .ref m_clear, .ref m_ways, .ref m_canBe, .ref m_lain, .int 0, .ref m_fewestBy, .ref m_sortOf, .int 0, .ref m_seenFlange, .ref m_seenLength])), (m_read, .inl (g.2.1.1, 103, .inl f103)), (m_readNow, .inl (g.2.1.1, 21, .inl f117))] := hD
  refine lv_iinc (v := 14) (lv' := [(1, .int 14), (0, .ref h0)]) hx hb dX9_readsAll_46 hl (k := 0) rfl (by decide) (by decide) rfl (fun ls hl => ?_)
  refine lv_goto (tgt := 23) hx hb dX9_readsAll_49 (by decide) ?_
  refine lv_iload_n hx hb dX9_readsAll_23 rfl (lv_at hl 0 rfl) ?_
  refine lv_bipush (v := 21) hx hb dX9_readsAll_24 (by decide) ?_
  refine lv_icmp_ge (tgt := 52) hx hb dX9_readsAll_26 (by decide) (fun c26 => absurd c26 (by decide)) (fun c26 => ?_)
  refine lv_aload_n hx hb dX9_readsAll_29 rfl (lv_at hl 1 rfl) ?_
  refine va_get (D := g.1) (ci := 9) (v := .ref m_readNow) (C := RX9) (T := TX9) (N := 37) hx hb hG iX9 hown hX.1 hP 0 rfl rfl 3 (by decide) (hG _ g1420) (fun _ h9 => h9) rfl dX9_readsAll_30 ?_
  refine lv_iload_n hx hb dX9_readsAll_33 rfl (lv_at hl 0 rfl) ?_
  refine lv_iload_n hx hb dX9_readsAll_34 rfl (lv_at hl 0 rfl) ?_
  refine lv_bipush (v := 11) hx hb dX9_readsAll_35 (by decide) ?_
  refine lv_icmp_ge (tgt := 44) hx hb dX9_readsAll_37 (by decide) (fun c37 => ?_) (fun c37 => (c37 (by decide)).elim)
  refine lv_iconst (v := (-1)) hx hb dX9_readsAll_44 (by decide) ?_
  refine va_iast hx hb hX.1 hP hD hS 2 0 rfl rfl (vp_in_iff.mpr (by decide)) dX9_readsAll_45 (fun H locs hP hD hS => ?_)
  obtain ⟨f118, ef118⟩ : ∃ z : Nat → Int32, z = upd f117 (14 : Int32).toNatClampNeg (-1) := ⟨_, rfl⟩
  rw [← ef118] at hP hD
  have hP : va_P g.1 vwCl [(h0, .inr (9, [.ref m_told, .ref m_read, .ref m_now, .ref m_readNow, .ref m_kept, .int 0, .int 1, .int 0, .ref m_tape, .int 0, .ref m_refused, .int 0, .int (-1), .int 0, .int 0, .int 0, .int 0, .int (-1), .ref m_ownLetters, .ref m_flats, .int 0, .ref m_corner, .ref m_wayX, .ref m_wayY, .ref m_normal, .ref m_low, .ref m_high, .ref m_clear, .ref m_ways, .ref m_canBe, .ref m_lain, .int 0, .ref m_fewestBy, .ref m_sortOf, .int 0, .ref m_seenFlange, .ref m_seenLength])), (m_read, .inl (g.2.1.1, 103, .inl f103)), (m_readNow, .inl (g.2.1.1, 21, .inl f118))] H := hP
  have hD : va_D A [(h0, .inr (9, [.ref m_told, .ref m_read, .ref m_now, .ref m_readNow, .ref m_kept, .int 0, .int 1, .int 0, .ref m_tape, .int 0, .ref m_refused, .int 0, .int (-1), .int 0, .int 0, .int 0, .int 0, .int (-1), .ref m_ownLetters, .ref m_flats, .int 0, .ref m_corner, .ref m_wayX, .ref m_wayY, .ref m_normal, .ref m_low, .ref m_high, .ref m_clear, .ref m_ways, .ref m_canBe, .ref m_lain, .int 0, .ref m_fewestBy, .ref m_sortOf, .int 0, .ref m_seenFlange, .ref m_seenLength])), (m_read, .inl (g.2.1.1, 103, .inl f103)), (m_readNow, .inl (g.2.1.1, 21, .inl f118))] := hD
  refine lv_iinc (v := 15) (lv' := [(1, .int 15), (0, .ref h0)]) hx hb dX9_readsAll_46 hl (k := 0) rfl (by decide) (by decide) rfl (fun ls hl => ?_)
  refine lv_goto (tgt := 23) hx hb dX9_readsAll_49 (by decide) ?_
  refine lv_iload_n hx hb dX9_readsAll_23 rfl (lv_at hl 0 rfl) ?_
  refine lv_bipush (v := 21) hx hb dX9_readsAll_24 (by decide) ?_
  refine lv_icmp_ge (tgt := 52) hx hb dX9_readsAll_26 (by decide) (fun c26 => absurd c26 (by decide)) (fun c26 => ?_)
  refine lv_aload_n hx hb dX9_readsAll_29 rfl (lv_at hl 1 rfl) ?_
  refine va_get (D := g.1) (ci := 9) (v := .ref m_readNow) (C := RX9) (T := TX9) (N := 37) hx hb hG iX9 hown hX.1 hP 0 rfl rfl 3 (by decide) (hG _ g1420) (fun _ h9 => h9) rfl dX9_readsAll_30 ?_
  refine lv_iload_n hx hb dX9_readsAll_33 rfl (lv_at hl 0 rfl) ?_
  refine lv_iload_n hx hb dX9_readsAll_34 rfl (lv_at hl 0 rfl) ?_
  refine lv_bipush (v := 11) hx hb dX9_readsAll_35 (by decide) ?_
  refine lv_icmp_ge (tgt := 44) hx hb dX9_readsAll_37 (by decide) (fun c37 => ?_) (fun c37 => (c37 (by decide)).elim)
  refine lv_iconst (v := (-1)) hx hb dX9_readsAll_44 (by decide) ?_
  refine va_iast hx hb hX.1 hP hD hS 2 0 rfl rfl (vp_in_iff.mpr (by decide)) dX9_readsAll_45 (fun H locs hP hD hS => ?_)
  obtain ⟨f119, ef119⟩ : ∃ z : Nat → Int32, z = upd f118 (15 : Int32).toNatClampNeg (-1) := ⟨_, rfl⟩
  rw [← ef119] at hP hD
  have hP : va_P g.1 vwCl [(h0, .inr (9, [.ref m_told, .ref m_read, .ref m_now, .ref m_readNow, .ref m_kept, .int 0, .int 1, .int 0, .ref m_tape, .int 0, .ref m_refused, .int 0, .int (-1), .int 0, .int 0, .int 0, .int 0, .int (-1), .ref m_ownLetters, .ref m_flats, .int 0, .ref m_corner, .ref m_wayX, .ref m_wayY, .ref m_normal, .ref m_low, .ref m_high, .ref m_clear, .ref m_ways, .ref m_canBe, .ref m_lain, .int 0, .ref m_fewestBy, .ref m_sortOf, .int 0, .ref m_seenFlange, .ref m_seenLength])), (m_read, .inl (g.2.1.1, 103, .inl f103)), (m_readNow, .inl (g.2.1.1, 21, .inl f119))] H := hP
  have hD : va_D A [(h0, .inr (9, [.ref m_told, .ref m_read, .ref m_now, .ref m_readNow, .ref m_kept, .int 0, .int 1, .int 0, .ref m_tape, .int 0, .ref m_refused, .int 0, .int (-1), .int 0, .int 0, .int 0, .int 0, .int (-1), .ref m_ownLetters, .ref m_flats, .int 0, .ref m_corner, .ref m_wayX, .ref m_wayY, .ref m_normal, .ref m_low, .ref m_high, .ref m_clear, .ref m_ways, .ref m_canBe, .ref m_lain, .int 0, .ref m_fewestBy, .ref m_sortOf, .int 0, .ref m_seenFlange, .ref m_seenLength])), (m_read, .inl (g.2.1.1, 103, .inl f103)), (m_readNow, .inl (g.2.1.1, 21, .inl f119))] := hD
  refine lv_iinc (v := 16) (lv' := [(1, .int 16), (0, .ref h0)]) hx hb dX9_readsAll_46 hl (k := 0) rfl (by decide) (by decide) rfl (fun ls hl => ?_)
  refine lv_goto (tgt := 23) hx hb dX9_readsAll_49 (by decide) ?_
  refine lv_iload_n hx hb dX9_readsAll_23 rfl (lv_at hl 0 rfl) ?_
  refine lv_bipush (v := 21) hx hb dX9_readsAll_24 (by decide) ?_
  refine lv_icmp_ge (tgt := 52) hx hb dX9_readsAll_26 (by decide) (fun c26 => absurd c26 (by decide)) (fun c26 => ?_)
  refine lv_aload_n hx hb dX9_readsAll_29 rfl (lv_at hl 1 rfl) ?_
  refine va_get (D := g.1) (ci := 9) (v := .ref m_readNow) (C := RX9) (T := TX9) (N := 37) hx hb hG iX9 hown hX.1 hP 0 rfl rfl 3 (by decide) (hG _ g1420) (fun _ h9 => h9) rfl dX9_readsAll_30 ?_
  refine lv_iload_n hx hb dX9_readsAll_33 rfl (lv_at hl 0 rfl) ?_
  refine lv_iload_n hx hb dX9_readsAll_34 rfl (lv_at hl 0 rfl) ?_
  refine lv_bipush (v := 11) hx hb dX9_readsAll_35 (by decide) ?_
  refine lv_icmp_ge (tgt := 44) hx hb dX9_readsAll_37 (by decide) (fun c37 => ?_) (fun c37 => (c37 (by decide)).elim)
  refine lv_iconst (v := (-1)) hx hb dX9_readsAll_44 (by decide) ?_
  refine va_iast hx hb hX.1 hP hD hS 2 0 rfl rfl (vp_in_iff.mpr (by decide)) dX9_readsAll_45 (fun H locs hP hD hS => ?_)
  obtain ⟨f120, ef120⟩ : ∃ z : Nat → Int32, z = upd f119 (16 : Int32).toNatClampNeg (-1) := ⟨_, rfl⟩
  rw [← ef120] at hP hD
  have hP : va_P g.1 vwCl [(h0, .inr (9, [.ref m_told, .ref m_read, .ref m_now, .ref m_readNow, .ref m_kept, .int 0, .int 1, .int 0, .ref m_tape, .int 0, .ref m_refused, .int 0, .int (-1), .int 0, .int 0, .int 0, .int 0, .int (-1), .ref m_ownLetters, .ref m_flats, .int 0, .ref m_corner, .ref m_wayX, .ref m_wayY, .ref m_normal, .ref m_low, .ref m_high, .ref m_clear, .ref m_ways, .ref m_canBe, .ref m_lain, .int 0, .ref m_fewestBy, .ref m_sortOf, .int 0, .ref m_seenFlange, .ref m_seenLength])), (m_read, .inl (g.2.1.1, 103, .inl f103)), (m_readNow, .inl (g.2.1.1, 21, .inl f120))] H := hP
  have hD : va_D A [(h0, .inr (9, [.ref m_told, .ref m_read, .ref m_now, .ref m_readNow, .ref m_kept, .int 0, .int 1, .int 0, .ref m_tape, .int 0, .ref m_refused, .int 0, .int (-1), .int 0, .int 0, .int 0, .int 0, .int (-1), .ref m_ownLetters, .ref m_flats, .int 0, .ref m_corner, .ref m_wayX, .ref m_wayY, .ref m_normal, .ref m_low, .ref m_high, .ref m_clear, .ref m_ways, .ref m_canBe, .ref m_lain, .int 0, .ref m_fewestBy, .ref m_sortOf, .int 0, .ref m_seenFlange, .ref m_seenLength])), (m_read, .inl (g.2.1.1, 103, .inl f103)), (m_readNow, .inl (g.2.1.1, 21, .inl f120))] := hD
  refine lv_iinc (v := 17) (lv' := [(1, .int 17), (0, .ref h0)]) hx hb dX9_readsAll_46 hl (k := 0) rfl (by decide) (by decide) rfl (fun ls hl => ?_)
  refine lv_goto (tgt := 23) hx hb dX9_readsAll_49 (by decide) ?_
  refine lv_iload_n hx hb dX9_readsAll_23 rfl (lv_at hl 0 rfl) ?_
  refine lv_bipush (v := 21) hx hb dX9_readsAll_24 (by decide) ?_
  refine lv_icmp_ge (tgt := 52) hx hb dX9_readsAll_26 (by decide) (fun c26 => absurd c26 (by decide)) (fun c26 => ?_)
  refine lv_aload_n hx hb dX9_readsAll_29 rfl (lv_at hl 1 rfl) ?_
  refine va_get (D := g.1) (ci := 9) (v := .ref m_readNow) (C := RX9) (T := TX9) (N := 37) hx hb hG iX9 hown hX.1 hP 0 rfl rfl 3 (by decide) (hG _ g1420) (fun _ h9 => h9) rfl dX9_readsAll_30 ?_
  refine lv_iload_n hx hb dX9_readsAll_33 rfl (lv_at hl 0 rfl) ?_
  refine lv_iload_n hx hb dX9_readsAll_34 rfl (lv_at hl 0 rfl) ?_
  refine lv_bipush (v := 11) hx hb dX9_readsAll_35 (by decide) ?_
  refine lv_icmp_ge (tgt := 44) hx hb dX9_readsAll_37 (by decide) (fun c37 => ?_) (fun c37 => (c37 (by decide)).elim)
  refine lv_iconst (v := (-1)) hx hb dX9_readsAll_44 (by decide) ?_
  refine va_iast hx hb hX.1 hP hD hS 2 0 rfl rfl (vp_in_iff.mpr (by decide)) dX9_readsAll_45 (fun H locs hP hD hS => ?_)
  obtain ⟨f121, ef121⟩ : ∃ z : Nat → Int32, z = upd f120 (17 : Int32).toNatClampNeg (-1) := ⟨_, rfl⟩
  rw [← ef121] at hP hD
  have hP : va_P g.1 vwCl [(h0, .inr (9, [.ref m_told, .ref m_read, .ref m_now, .ref m_readNow, .ref m_kept, .int 0, .int 1, .int 0, .ref m_tape, .int 0, .ref m_refused, .int 0, .int (-1), .int 0, .int 0, .int 0, .int 0, .int (-1), .ref m_ownLetters, .ref m_flats, .int 0, .ref m_corner, .ref m_wayX, .ref m_wayY, .ref m_normal, .ref m_low, .ref m_high, .ref m_clear, .ref m_ways, .ref m_canBe, .ref m_lain, .int 0, .ref m_fewestBy, .ref m_sortOf, .int 0, .ref m_seenFlange, .ref m_seenLength])), (m_read, .inl (g.2.1.1, 103, .inl f103)), (m_readNow, .inl (g.2.1.1, 21, .inl f121))] H := hP
  have hD : va_D A [(h0, .inr (9, [.ref m_told, .ref m_read, .ref m_now, .ref m_readNow, .ref m_kept, .int 0, .int 1, .int 0, .ref m_tape, .int 0, .ref m_refused, .int 0, .int (-1), .int 0, .int 0, .int 0, .int 0, .int (-1), .ref m_ownLetters, .ref m_flats, .int 0, .ref m_corner, .ref m_wayX, .ref m_wayY, .ref m_normal, .ref m_low, .ref m_high, .ref m_clear, .ref m_ways, .ref m_canBe, .ref m_lain, .int 0, .ref m_fewestBy, .ref m_sortOf, .int 0, .ref m_seenFlange, .ref m_seenLength])), (m_read, .inl (g.2.1.1, 103, .inl f103)), (m_readNow, .inl (g.2.1.1, 21, .inl f121))] := hD
  refine lv_iinc (v := 18) (lv' := [(1, .int 18), (0, .ref h0)]) hx hb dX9_readsAll_46 hl (k := 0) rfl (by decide) (by decide) rfl (fun ls hl => ?_)
  refine lv_goto (tgt := 23) hx hb dX9_readsAll_49 (by decide) ?_
  refine lv_iload_n hx hb dX9_readsAll_23 rfl (lv_at hl 0 rfl) ?_
  refine lv_bipush (v := 21) hx hb dX9_readsAll_24 (by decide) ?_
  refine lv_icmp_ge (tgt := 52) hx hb dX9_readsAll_26 (by decide) (fun c26 => absurd c26 (by decide)) (fun c26 => ?_)
  refine lv_aload_n hx hb dX9_readsAll_29 rfl (lv_at hl 1 rfl) ?_
  refine va_get (D := g.1) (ci := 9) (v := .ref m_readNow) (C := RX9) (T := TX9) (N := 37) hx hb hG iX9 hown hX.1 hP 0 rfl rfl 3 (by decide) (hG _ g1420) (fun _ h9 => h9) rfl dX9_readsAll_30 ?_
  refine lv_iload_n hx hb dX9_readsAll_33 rfl (lv_at hl 0 rfl) ?_
  refine lv_iload_n hx hb dX9_readsAll_34 rfl (lv_at hl 0 rfl) ?_
  refine lv_bipush (v := 11) hx hb dX9_readsAll_35 (by decide) ?_
  refine lv_icmp_ge (tgt := 44) hx hb dX9_readsAll_37 (by decide) (fun c37 => ?_) (fun c37 => (c37 (by decide)).elim)
  refine lv_iconst (v := (-1)) hx hb dX9_readsAll_44 (by decide) ?_
  refine va_iast hx hb hX.1 hP hD hS 2 0 rfl rfl (vp_in_iff.mpr (by decide)) dX9_readsAll_45 (fun H locs hP hD hS => ?_)
  obtain ⟨f122, ef122⟩ : ∃ z : Nat → Int32, z = upd f121 (18 : Int32).toNatClampNeg (-1) := ⟨_, rfl⟩
  rw [← ef122] at hP hD
  have hP : va_P g.1 vwCl [(h0, .inr (9, [.ref m_told, .ref m_read, .ref m_now, .ref m_readNow, .ref m_kept, .int 0, .int 1, .int 0, .ref m_tape, .int 0, .ref m_refused, .int 0, .int (-1), .int 0, .int 0, .int 0, .int 0, .int (-1), .ref m_ownLetters, .ref m_flats, .int 0, .ref m_corner, .ref m_wayX, .ref m_wayY, .ref m_normal, .ref m_low, .ref m_high, .ref m_clear, .ref m_ways, .ref m_canBe, .ref m_lain, .int 0, .ref m_fewestBy, .ref m_sortOf, .int 0, .ref m_seenFlange, .ref m_seenLength])), (m_read, .inl (g.2.1.1, 103, .inl f103)), (m_readNow, .inl (g.2.1.1, 21, .inl f122))] H := hP
  have hD : va_D A [(h0, .inr (9, [.ref m_told, .ref m_read, .ref m_now, .ref m_readNow, .ref m_kept, .int 0, .int 1, .int 0, .ref m_tape, .int 0, .ref m_refused, .int 0, .int (-1), .int 0, .int 0, .int 0, .int 0, .int (-1), .ref m_ownLetters, .ref m_flats, .int 0, .ref m_corner, .ref m_wayX, .ref m_wayY, .ref m_normal, .ref m_low, .ref m_high, .ref m_clear, .ref m_ways, .ref m_canBe, .ref m_lain, .int 0, .ref m_fewestBy, .ref m_sortOf, .int 0, .ref m_seenFlange, .ref m_seenLength])), (m_read, .inl (g.2.1.1, 103, .inl f103)), (m_readNow, .inl (g.2.1.1, 21, .inl f122))] := hD
  refine lv_iinc (v := 19) (lv' := [(1, .int 19), (0, .ref h0)]) hx hb dX9_readsAll_46 hl (k := 0) rfl (by decide) (by decide) rfl (fun ls hl => ?_)
  refine lv_goto (tgt := 23) hx hb dX9_readsAll_49 (by decide) ?_
  refine lv_iload_n hx hb dX9_readsAll_23 rfl (lv_at hl 0 rfl) ?_
  refine lv_bipush (v := 21) hx hb dX9_readsAll_24 (by decide) ?_
  refine lv_icmp_ge (tgt := 52) hx hb dX9_readsAll_26 (by decide) (fun c26 => absurd c26 (by decide)) (fun c26 => ?_)
  refine lv_aload_n hx hb dX9_readsAll_29 rfl (lv_at hl 1 rfl) ?_
  refine va_get (D := g.1) (ci := 9) (v := .ref m_readNow) (C := RX9) (T := TX9) (N := 37) hx hb hG iX9 hown hX.1 hP 0 rfl rfl 3 (by decide) (hG _ g1420) (fun _ h9 => h9) rfl dX9_readsAll_30 ?_
  refine lv_iload_n hx hb dX9_readsAll_33 rfl (lv_at hl 0 rfl) ?_
  refine lv_iload_n hx hb dX9_readsAll_34 rfl (lv_at hl 0 rfl) ?_
  refine lv_bipush (v := 11) hx hb dX9_readsAll_35 (by decide) ?_
  refine lv_icmp_ge (tgt := 44) hx hb dX9_readsAll_37 (by decide) (fun c37 => ?_) (fun c37 => (c37 (by decide)).elim)
  refine lv_iconst (v := (-1)) hx hb dX9_readsAll_44 (by decide) ?_
  refine va_iast hx hb hX.1 hP hD hS 2 0 rfl rfl (vp_in_iff.mpr (by decide)) dX9_readsAll_45 (fun H locs hP hD hS => ?_)
  obtain ⟨f123, ef123⟩ : ∃ z : Nat → Int32, z = upd f122 (19 : Int32).toNatClampNeg (-1) := ⟨_, rfl⟩
  rw [← ef123] at hP hD
  have hP : va_P g.1 vwCl [(h0, .inr (9, [.ref m_told, .ref m_read, .ref m_now, .ref m_readNow, .ref m_kept, .int 0, .int 1, .int 0, .ref m_tape, .int 0, .ref m_refused, .int 0, .int (-1), .int 0, .int 0, .int 0, .int 0, .int (-1), .ref m_ownLetters, .ref m_flats, .int 0, .ref m_corner, .ref m_wayX, .ref m_wayY, .ref m_normal, .ref m_low, .ref m_high, .ref m_clear, .ref m_ways, .ref m_canBe, .ref m_lain, .int 0, .ref m_fewestBy, .ref m_sortOf, .int 0, .ref m_seenFlange, .ref m_seenLength])), (m_read, .inl (g.2.1.1, 103, .inl f103)), (m_readNow, .inl (g.2.1.1, 21, .inl f123))] H := hP
  have hD : va_D A [(h0, .inr (9, [.ref m_told, .ref m_read, .ref m_now, .ref m_readNow, .ref m_kept, .int 0, .int 1, .int 0, .ref m_tape, .int 0, .ref m_refused, .int 0, .int (-1), .int 0, .int 0, .int 0, .int 0, .int (-1), .ref m_ownLetters, .ref m_flats, .int 0, .ref m_corner, .ref m_wayX, .ref m_wayY, .ref m_normal, .ref m_low, .ref m_high, .ref m_clear, .ref m_ways, .ref m_canBe, .ref m_lain, .int 0, .ref m_fewestBy, .ref m_sortOf, .int 0, .ref m_seenFlange, .ref m_seenLength])), (m_read, .inl (g.2.1.1, 103, .inl f103)), (m_readNow, .inl (g.2.1.1, 21, .inl f123))] := hD
  refine lv_iinc (v := 20) (lv' := [(1, .int 20), (0, .ref h0)]) hx hb dX9_readsAll_46 hl (k := 0) rfl (by decide) (by decide) rfl (fun ls hl => ?_)
  refine lv_goto (tgt := 23) hx hb dX9_readsAll_49 (by decide) ?_
  refine lv_iload_n hx hb dX9_readsAll_23 rfl (lv_at hl 0 rfl) ?_
  refine lv_bipush (v := 21) hx hb dX9_readsAll_24 (by decide) ?_
  refine lv_icmp_ge (tgt := 52) hx hb dX9_readsAll_26 (by decide) (fun c26 => absurd c26 (by decide)) (fun c26 => ?_)
  refine lv_aload_n hx hb dX9_readsAll_29 rfl (lv_at hl 1 rfl) ?_
  refine va_get (D := g.1) (ci := 9) (v := .ref m_readNow) (C := RX9) (T := TX9) (N := 37) hx hb hG iX9 hown hX.1 hP 0 rfl rfl 3 (by decide) (hG _ g1420) (fun _ h9 => h9) rfl dX9_readsAll_30 ?_
  refine lv_iload_n hx hb dX9_readsAll_33 rfl (lv_at hl 0 rfl) ?_
  refine lv_iload_n hx hb dX9_readsAll_34 rfl (lv_at hl 0 rfl) ?_
  refine lv_bipush (v := 11) hx hb dX9_readsAll_35 (by decide) ?_
  refine lv_icmp_ge (tgt := 44) hx hb dX9_readsAll_37 (by decide) (fun c37 => ?_) (fun c37 => (c37 (by decide)).elim)
  refine lv_iconst (v := (-1)) hx hb dX9_readsAll_44 (by decide) ?_
  refine va_iast hx hb hX.1 hP hD hS 2 0 rfl rfl (vp_in_iff.mpr (by decide)) dX9_readsAll_45 (fun H locs hP hD hS => ?_)
  obtain ⟨f124, ef124⟩ : ∃ z : Nat → Int32, z = upd f123 (20 : Int32).toNatClampNeg (-1) := ⟨_, rfl⟩
  rw [← ef124] at hP hD
  have hP : va_P g.1 vwCl [(h0, .inr (9, [.ref m_told, .ref m_read, .ref m_now, .ref m_readNow, .ref m_kept, .int 0, .int 1, .int 0, .ref m_tape, .int 0, .ref m_refused, .int 0, .int (-1), .int 0, .int 0, .int 0, .int 0, .int (-1), .ref m_ownLetters, .ref m_flats, .int 0, .ref m_corner, .ref m_wayX, .ref m_wayY, .ref m_normal, .ref m_low, .ref m_high, .ref m_clear, .ref m_ways, .ref m_canBe, .ref m_lain, .int 0, .ref m_fewestBy, .ref m_sortOf, .int 0, .ref m_seenFlange, .ref m_seenLength])), (m_read, .inl (g.2.1.1, 103, .inl f103)), (m_readNow, .inl (g.2.1.1, 21, .inl f124))] H := hP
  have hD : va_D A [(h0, .inr (9, [.ref m_told, .ref m_read, .ref m_now, .ref m_readNow, .ref m_kept, .int 0, .int 1, .int 0, .ref m_tape, .int 0, .ref m_refused, .int 0, .int (-1), .int 0, .int 0, .int 0, .int 0, .int (-1), .ref m_ownLetters, .ref m_flats, .int 0, .ref m_corner, .ref m_wayX, .ref m_wayY, .ref m_normal, .ref m_low, .ref m_high, .ref m_clear, .ref m_ways, .ref m_canBe, .ref m_lain, .int 0, .ref m_fewestBy, .ref m_sortOf, .int 0, .ref m_seenFlange, .ref m_seenLength])), (m_read, .inl (g.2.1.1, 103, .inl f103)), (m_readNow, .inl (g.2.1.1, 21, .inl f124))] := hD
  refine lv_iinc (v := 21) (lv' := [(1, .int 21), (0, .ref h0)]) hx hb dX9_readsAll_46 hl (k := 0) rfl (by decide) (by decide) rfl (fun ls hl => ?_)
  refine lv_goto (tgt := 23) hx hb dX9_readsAll_49 (by decide) ?_
  refine lv_iload_n hx hb dX9_readsAll_23 rfl (lv_at hl 0 rfl) ?_
  refine lv_bipush (v := 21) hx hb dX9_readsAll_24 (by decide) ?_
  refine lv_icmp_ge (tgt := 52) hx hb dX9_readsAll_26 (by decide) (fun c26 => ?_) (fun c26 => (c26 (by decide)).elim)
  refine lv_aload_n hx hb dX9_readsAll_52 rfl (lv_at hl 1 rfl) ?_
  refine va_get (D := g.1) (ci := 9) (v := .ref m_readNow) (C := RX9) (T := TX9) (N := 37) hx hb hG iX9 hown hX.1 hP 0 rfl rfl 3 (by decide) (hG _ g1420) (fun _ h9 => h9) rfl dX9_readsAll_53 ?_
  refine lv_iconst (v := 1) hx hb dX9_readsAll_56 (by decide) ?_
  refine lv_bipush (v := 30) hx hb dX9_readsAll_57 (by decide) ?_
  refine va_iast hx hb hX.1 hP hD hS 2 0 rfl rfl (vp_in_iff.mpr (by decide)) dX9_readsAll_59 (fun H locs hP hD hS => ?_)
  obtain ⟨f125, ef125⟩ : ∃ z : Nat → Int32, z = upd f124 (1 : Int32).toNatClampNeg 30 := ⟨_, rfl⟩
  rw [← ef125] at hP hD
  have hP : va_P g.1 vwCl [(h0, .inr (9, [.ref m_told, .ref m_read, .ref m_now, .ref m_readNow, .ref m_kept, .int 0, .int 1, .int 0, .ref m_tape, .int 0, .ref m_refused, .int 0, .int (-1), .int 0, .int 0, .int 0, .int 0, .int (-1), .ref m_ownLetters, .ref m_flats, .int 0, .ref m_corner, .ref m_wayX, .ref m_wayY, .ref m_normal, .ref m_low, .ref m_high, .ref m_clear, .ref m_ways, .ref m_canBe, .ref m_lain, .int 0, .ref m_fewestBy, .ref m_sortOf, .int 0, .ref m_seenFlange, .ref m_seenLength])), (m_read, .inl (g.2.1.1, 103, .inl f103)), (m_readNow, .inl (g.2.1.1, 21, .inl f125))] H := hP
  have hD : va_D A [(h0, .inr (9, [.ref m_told, .ref m_read, .ref m_now, .ref m_readNow, .ref m_kept, .int 0, .int 1, .int 0, .ref m_tape, .int 0, .ref m_refused, .int 0, .int (-1), .int 0, .int 0, .int 0, .int 0, .int (-1), .ref m_ownLetters, .ref m_flats, .int 0, .ref m_corner, .ref m_wayX, .ref m_wayY, .ref m_normal, .ref m_low, .ref m_high, .ref m_clear, .ref m_ways, .ref m_canBe, .ref m_lain, .int 0, .ref m_fewestBy, .ref m_sortOf, .int 0, .ref m_seenFlange, .ref m_seenLength])), (m_read, .inl (g.2.1.1, 103, .inl f103)), (m_readNow, .inl (g.2.1.1, 21, .inl f125))] := hD
  refine lv_aload_n hx hb dX9_readsAll_60 rfl (lv_at hl 1 rfl) ?_
  refine va_get (D := g.1) (ci := 9) (v := .ref m_read) (C := RX9) (T := TX9) (N := 37) hx hb hG iX9 hown hX.1 hP 0 rfl rfl 1 (by decide) (hG _ g1418) (fun _ h9 => h9) rfl dX9_readsAll_61 ?_
  refine lv_iconst (v := 3) hx hb dX9_readsAll_64 (by decide) ?_
  refine lv_iconst (v := 1) hx hb dX9_readsAll_65 (by decide) ?_
  refine va_iast hx hb hX.1 hP hD hS 1 0 rfl rfl (vp_in_iff.mpr (by decide)) dX9_readsAll_66 (fun H locs hP hD hS => ?_)
  obtain ⟨f126, ef126⟩ : ∃ z : Nat → Int32, z = upd f103 (3 : Int32).toNatClampNeg 1 := ⟨_, rfl⟩
  rw [← ef126] at hP hD
  have hP : va_P g.1 vwCl [(h0, .inr (9, [.ref m_told, .ref m_read, .ref m_now, .ref m_readNow, .ref m_kept, .int 0, .int 1, .int 0, .ref m_tape, .int 0, .ref m_refused, .int 0, .int (-1), .int 0, .int 0, .int 0, .int 0, .int (-1), .ref m_ownLetters, .ref m_flats, .int 0, .ref m_corner, .ref m_wayX, .ref m_wayY, .ref m_normal, .ref m_low, .ref m_high, .ref m_clear, .ref m_ways, .ref m_canBe, .ref m_lain, .int 0, .ref m_fewestBy, .ref m_sortOf, .int 0, .ref m_seenFlange, .ref m_seenLength])), (m_read, .inl (g.2.1.1, 103, .inl f126)), (m_readNow, .inl (g.2.1.1, 21, .inl f125))] H := hP
  have hD : va_D A [(h0, .inr (9, [.ref m_told, .ref m_read, .ref m_now, .ref m_readNow, .ref m_kept, .int 0, .int 1, .int 0, .ref m_tape, .int 0, .ref m_refused, .int 0, .int (-1), .int 0, .int 0, .int 0, .int 0, .int (-1), .ref m_ownLetters, .ref m_flats, .int 0, .ref m_corner, .ref m_wayX, .ref m_wayY, .ref m_normal, .ref m_low, .ref m_high, .ref m_clear, .ref m_ways, .ref m_canBe, .ref m_lain, .int 0, .ref m_fewestBy, .ref m_sortOf, .int 0, .ref m_seenFlange, .ref m_seenLength])), (m_read, .inl (g.2.1.1, 103, .inl f126)), (m_readNow, .inl (g.2.1.1, 21, .inl f125))] := hD
  refine lv_aload_n hx hb dX9_readsAll_67 rfl (lv_at hl 1 rfl) ?_
  refine lv_iconst (v := 0) hx hb dX9_readsAll_68 (by decide) ?_
  refine zfv (wr := [(m_read, .inl (g.2.1.1, 103, .inl f126)), (m_readNow, .inl (g.2.1.1, 21, .inl f125))]) (va_runV (As := [.int 0]) (rest := []) ⟨hx, hb, hml, hown, hG⟩ (kX9_musta l g h0 m_told m_read m_now m_readNow m_kept m_tape m_refused m_ownLetters m_flats m_corner m_wayX m_wayY m_normal m_low m_high m_clear m_ways m_canBe m_lain m_fewestBy m_sortOf m_seenFlange m_seenLength _) ⟨callB_of 1 hG (zGood g1565) rfl rfl rfl (hG _ g211) (hG _ g1562) hX9_must ⟨Nat.le_of_ble_eq_true rfl, Nat.le_of_ble_eq_true rfl⟩, hG _ g1564, hG _ g129⟩ (zpreV (va_recv hX.1 hP (ci := 9) (q0 := 0) rfl rfl) hX hP hD hS hA [0] rfl (by decide)) rfl rfl hl.1 rfl (lv_room (Nat.le_of_ble_eq_true rfl)) dX9_readsAll_69 ⟨Nat.le_of_ble_eq_true rfl, Nat.le_of_ble_eq_true rfl⟩) hP hD hS hA [0] [1, 2] rfl rfl (by decide) (by decide) (fun _ H locs hp hP hD hS => ?_)
  refine W.cs (cells' := 0) (slots' := 0) rfl rfl ?_
  have hP : va_P g.1 vwCl [(m_read, .inl (g.2.1.1, 103, .inl f126)), (m_readNow, .inl (g.2.1.1, 21, .inl f125)), (h0, .inr (9, [.ref m_told, .ref m_read, .ref m_now, .ref m_readNow, .ref m_kept, .int 0, .int 1, .int 0, .ref m_tape, .int 0, .ref m_refused, .int 0, .int (-1), .int 0, .int 0, .int 0, .int 1, .int 0, .ref m_ownLetters, .ref m_flats, .int 0, .ref m_corner, .ref m_wayX, .ref m_wayY, .ref m_normal, .ref m_low, .ref m_high, .ref m_clear, .ref m_ways, .ref m_canBe, .ref m_lain, .int 0, .ref m_fewestBy, .ref m_sortOf, .int 0, .ref m_seenFlange, .ref m_seenLength]))] H := hP
  have hD : va_D A [(m_read, .inl (g.2.1.1, 103, .inl f126)), (m_readNow, .inl (g.2.1.1, 21, .inl f125)), (h0, .inr (9, [.ref m_told, .ref m_read, .ref m_now, .ref m_readNow, .ref m_kept, .int 0, .int 1, .int 0, .ref m_tape, .int 0, .ref m_refused, .int 0, .int (-1), .int 0, .int 0, .int 0, .int 1, .int 0, .ref m_ownLetters, .ref m_flats, .int 0, .ref m_corner, .ref m_wayX, .ref m_wayY, .ref m_normal, .ref m_low, .ref m_high, .ref m_clear, .ref m_ways, .ref m_canBe, .ref m_lain, .int 0, .ref m_fewestBy, .ref m_sortOf, .int 0, .ref m_seenFlange, .ref m_seenLength]))] := hD
  refine lv_aload_n hx hb dX9_readsAll_72 rfl (lv_at hl 1 rfl) ?_
  refine va_get (D := g.1) (ci := 9) (v := .ref m_read) (C := RX9) (T := TX9) (N := 37) hx hb hG iX9 hown hX.1 hP 2 rfl rfl 1 (by decide) (hG _ g1418) (fun _ h9 => h9) rfl dX9_readsAll_73 ?_
  refine lv_iconst (v := 0) hx hb dX9_readsAll_76 (by decide) ?_
  refine lv_aload_n hx hb dX9_readsAll_77 rfl (lv_at hl 1 rfl) ?_
  refine lv_iconst (v := 1) hx hb dX9_readsAll_78 (by decide) ?_
  refine lv_iconst (v := 1) hx hb dX9_readsAll_79 (by decide) ?_
  refine lv_bipush (v := 9) hx hb dX9_readsAll_80 (by decide) ?_
  refine zfi (wr := [(m_read, .inl (g.2.1.1, 103, .inl f126)), (m_readNow, .inl (g.2.1.1, 21, .inl f125))]) (va_runV (As := [.int 1, .int 1, .int 9]) (rest := [.int 0, .ref m_read]) ⟨hx, hb, hml, hown, hG⟩ (kX9_after l g h0 1 1 9 m_told m_read m_now m_readNow m_kept m_tape m_refused m_ownLetters m_flats m_corner m_wayX m_wayY m_normal m_low m_high m_clear m_ways m_canBe m_lain m_fewestBy m_sortOf m_seenFlange m_seenLength _) ⟨callB_of 3 hG (zGood g1601) rfl rfl rfl (hG _ g211) (hG _ g1598) hX9_after ⟨Nat.le_of_ble_eq_true rfl, Nat.le_of_ble_eq_true rfl⟩, hG _ g1600, hG _ g138⟩ (zpreV (va_recv hX.1 hP (ci := 9) (q0 := 2) rfl rfl) hX hP hD hS hA [2] rfl (by decide)) rfl rfl hl.1 rfl (lv_room (Nat.le_of_ble_eq_true rfl)) dX9_readsAll_82 ⟨Nat.le_of_ble_eq_true rfl, Nat.le_of_ble_eq_true rfl⟩) hP hD hS hA [2] [0, 1] rfl rfl (by decide) (by decide) (fun r128 _ H locs hp hP hD hS => ?_)
  refine W.cs (cells' := 0) (slots' := 0) rfl rfl ?_
  have hq129 : r128 = 0 := hp
  subst hq129
  have hP : va_P g.1 vwCl [(m_read, .inl (g.2.1.1, 103, .inl f126)), (m_readNow, .inl (g.2.1.1, 21, .inl f125)), (h0, .inr (9, [.ref m_told, .ref m_read, .ref m_now, .ref m_readNow, .ref m_kept, .int 0, .int 1, .int 0, .ref m_tape, .int 0, .ref m_refused, .int 0, .int (-1), .int 0, .int 0, .int 0, .int 1, .int 0, .ref m_ownLetters, .ref m_flats, .int 0, .ref m_corner, .ref m_wayX, .ref m_wayY, .ref m_normal, .ref m_low, .ref m_high, .ref m_clear, .ref m_ways, .ref m_canBe, .ref m_lain, .int 0, .ref m_fewestBy, .ref m_sortOf, .int 0, .ref m_seenFlange, .ref m_seenLength]))] H := hP
  have hD : va_D A [(m_read, .inl (g.2.1.1, 103, .inl f126)), (m_readNow, .inl (g.2.1.1, 21, .inl f125)), (h0, .inr (9, [.ref m_told, .ref m_read, .ref m_now, .ref m_readNow, .ref m_kept, .int 0, .int 1, .int 0, .ref m_tape, .int 0, .ref m_refused, .int 0, .int (-1), .int 0, .int 0, .int 0, .int 1, .int 0, .ref m_ownLetters, .ref m_flats, .int 0, .ref m_corner, .ref m_wayX, .ref m_wayY, .ref m_normal, .ref m_low, .ref m_high, .ref m_clear, .ref m_ways, .ref m_canBe, .ref m_lain, .int 0, .ref m_fewestBy, .ref m_sortOf, .int 0, .ref m_seenFlange, .ref m_seenLength]))] := hD
  refine va_iast hx hb hX.1 hP hD hS 0 0 rfl rfl (vp_in_iff.mpr (by decide)) dX9_readsAll_85 (fun H locs hP hD hS => ?_)
  obtain ⟨f130, ef130⟩ : ∃ z : Nat → Int32, z = upd f126 (0 : Int32).toNatClampNeg 0 := ⟨_, rfl⟩
  rw [← ef130] at hP hD
  have hP : va_P g.1 vwCl [(m_read, .inl (g.2.1.1, 103, .inl f130)), (m_readNow, .inl (g.2.1.1, 21, .inl f125)), (h0, .inr (9, [.ref m_told, .ref m_read, .ref m_now, .ref m_readNow, .ref m_kept, .int 0, .int 1, .int 0, .ref m_tape, .int 0, .ref m_refused, .int 0, .int (-1), .int 0, .int 0, .int 0, .int 1, .int 0, .ref m_ownLetters, .ref m_flats, .int 0, .ref m_corner, .ref m_wayX, .ref m_wayY, .ref m_normal, .ref m_low, .ref m_high, .ref m_clear, .ref m_ways, .ref m_canBe, .ref m_lain, .int 0, .ref m_fewestBy, .ref m_sortOf, .int 0, .ref m_seenFlange, .ref m_seenLength]))] H := hP
  have hD : va_D A [(m_read, .inl (g.2.1.1, 103, .inl f130)), (m_readNow, .inl (g.2.1.1, 21, .inl f125)), (h0, .inr (9, [.ref m_told, .ref m_read, .ref m_now, .ref m_readNow, .ref m_kept, .int 0, .int 1, .int 0, .ref m_tape, .int 0, .ref m_refused, .int 0, .int (-1), .int 0, .int 0, .int 0, .int 1, .int 0, .ref m_ownLetters, .ref m_flats, .int 0, .ref m_corner, .ref m_wayX, .ref m_wayY, .ref m_normal, .ref m_low, .ref m_high, .ref m_clear, .ref m_ways, .ref m_canBe, .ref m_lain, .int 0, .ref m_fewestBy, .ref m_sortOf, .int 0, .ref m_seenFlange, .ref m_seenLength]))] := hD
  refine lv_aload_n hx hb dX9_readsAll_86 rfl (lv_at hl 1 rfl) ?_
  refine va_get (D := g.1) (ci := 9) (v := .ref m_read) (C := RX9) (T := TX9) (N := 37) hx hb hG iX9 hown hX.1 hP 2 rfl rfl 1 (by decide) (hG _ g1418) (fun _ h9 => h9) rfl dX9_readsAll_87 ?_
  refine lv_iconst (v := 1) hx hb dX9_readsAll_90 (by decide) ?_
  refine lv_aload_n hx hb dX9_readsAll_91 rfl (lv_at hl 1 rfl) ?_
  refine lv_iconst (v := 2) hx hb dX9_readsAll_92 (by decide) ?_
  refine lv_iconst (v := 1) hx hb dX9_readsAll_93 (by decide) ?_
  refine lv_bipush (v := 60) hx hb dX9_readsAll_94 (by decide) ?_
  refine zfi (wr := [(m_read, .inl (g.2.1.1, 103, .inl f130)), (m_readNow, .inl (g.2.1.1, 21, .inl f125))]) (va_runV (As := [.int 2, .int 1, .int 60]) (rest := [.int 1, .ref m_read]) ⟨hx, hb, hml, hown, hG⟩ (kX9_after l g h0 2 1 60 m_told m_read m_now m_readNow m_kept m_tape m_refused m_ownLetters m_flats m_corner m_wayX m_wayY m_normal m_low m_high m_clear m_ways m_canBe m_lain m_fewestBy m_sortOf m_seenFlange m_seenLength _) ⟨callB_of 3 hG (zGood g1601) rfl rfl rfl (hG _ g211) (hG _ g1598) hX9_after ⟨Nat.le_of_ble_eq_true rfl, Nat.le_of_ble_eq_true rfl⟩, hG _ g1600, hG _ g138⟩ (zpreV (va_recv hX.1 hP (ci := 9) (q0 := 2) rfl rfl) hX hP hD hS hA [2] rfl (by decide)) rfl rfl hl.1 rfl (lv_room (Nat.le_of_ble_eq_true rfl)) dX9_readsAll_96 ⟨Nat.le_of_ble_eq_true rfl, Nat.le_of_ble_eq_true rfl⟩) hP hD hS hA [2] [0, 1] rfl rfl (by decide) (by decide) (fun r131 _ H locs hp hP hD hS => ?_)
  refine W.cs (cells' := 0) (slots' := 0) rfl rfl ?_
  have hq132 : r131 = 0 := hp
  subst hq132
  have hP : va_P g.1 vwCl [(m_read, .inl (g.2.1.1, 103, .inl f130)), (m_readNow, .inl (g.2.1.1, 21, .inl f125)), (h0, .inr (9, [.ref m_told, .ref m_read, .ref m_now, .ref m_readNow, .ref m_kept, .int 0, .int 1, .int 0, .ref m_tape, .int 0, .ref m_refused, .int 0, .int (-1), .int 0, .int 0, .int 0, .int 1, .int 0, .ref m_ownLetters, .ref m_flats, .int 0, .ref m_corner, .ref m_wayX, .ref m_wayY, .ref m_normal, .ref m_low, .ref m_high, .ref m_clear, .ref m_ways, .ref m_canBe, .ref m_lain, .int 0, .ref m_fewestBy, .ref m_sortOf, .int 0, .ref m_seenFlange, .ref m_seenLength]))] H := hP
  have hD : va_D A [(m_read, .inl (g.2.1.1, 103, .inl f130)), (m_readNow, .inl (g.2.1.1, 21, .inl f125)), (h0, .inr (9, [.ref m_told, .ref m_read, .ref m_now, .ref m_readNow, .ref m_kept, .int 0, .int 1, .int 0, .ref m_tape, .int 0, .ref m_refused, .int 0, .int (-1), .int 0, .int 0, .int 0, .int 1, .int 0, .ref m_ownLetters, .ref m_flats, .int 0, .ref m_corner, .ref m_wayX, .ref m_wayY, .ref m_normal, .ref m_low, .ref m_high, .ref m_clear, .ref m_ways, .ref m_canBe, .ref m_lain, .int 0, .ref m_fewestBy, .ref m_sortOf, .int 0, .ref m_seenFlange, .ref m_seenLength]))] := hD
  refine va_iast hx hb hX.1 hP hD hS 0 0 rfl rfl (vp_in_iff.mpr (by decide)) dX9_readsAll_99 (fun H locs hP hD hS => ?_)
  obtain ⟨f133, ef133⟩ : ∃ z : Nat → Int32, z = upd f130 (1 : Int32).toNatClampNeg 0 := ⟨_, rfl⟩
  rw [← ef133] at hP hD
  have hP : va_P g.1 vwCl [(m_read, .inl (g.2.1.1, 103, .inl f133)), (m_readNow, .inl (g.2.1.1, 21, .inl f125)), (h0, .inr (9, [.ref m_told, .ref m_read, .ref m_now, .ref m_readNow, .ref m_kept, .int 0, .int 1, .int 0, .ref m_tape, .int 0, .ref m_refused, .int 0, .int (-1), .int 0, .int 0, .int 0, .int 1, .int 0, .ref m_ownLetters, .ref m_flats, .int 0, .ref m_corner, .ref m_wayX, .ref m_wayY, .ref m_normal, .ref m_low, .ref m_high, .ref m_clear, .ref m_ways, .ref m_canBe, .ref m_lain, .int 0, .ref m_fewestBy, .ref m_sortOf, .int 0, .ref m_seenFlange, .ref m_seenLength]))] H := hP
  have hD : va_D A [(m_read, .inl (g.2.1.1, 103, .inl f133)), (m_readNow, .inl (g.2.1.1, 21, .inl f125)), (h0, .inr (9, [.ref m_told, .ref m_read, .ref m_now, .ref m_readNow, .ref m_kept, .int 0, .int 1, .int 0, .ref m_tape, .int 0, .ref m_refused, .int 0, .int (-1), .int 0, .int 0, .int 0, .int 1, .int 0, .ref m_ownLetters, .ref m_flats, .int 0, .ref m_corner, .ref m_wayX, .ref m_wayY, .ref m_normal, .ref m_low, .ref m_high, .ref m_clear, .ref m_ways, .ref m_canBe, .ref m_lain, .int 0, .ref m_fewestBy, .ref m_sortOf, .int 0, .ref m_seenFlange, .ref m_seenLength]))] := hD
  refine lv_aload_n hx hb dX9_readsAll_100 rfl (lv_at hl 1 rfl) ?_
  refine va_get (D := g.1) (ci := 9) (v := .ref m_read) (C := RX9) (T := TX9) (N := 37) hx hb hG iX9 hown hX.1 hP 2 rfl rfl 1 (by decide) (hG _ g1418) (fun _ h9 => h9) rfl dX9_readsAll_101 ?_
  refine lv_iconst (v := 2) hx hb dX9_readsAll_104 (by decide) ?_
  refine lv_aload_n hx hb dX9_readsAll_105 rfl (lv_at hl 1 rfl) ?_
  refine lv_iconst (v := 1) hx hb dX9_readsAll_106 (by decide) ?_
  refine lv_bipush (v := 60) hx hb dX9_readsAll_107 (by decide) ?_
  refine zfi (wr := [(m_read, .inl (g.2.1.1, 103, .inl f133)), (m_readNow, .inl (g.2.1.1, 21, .inl f125))]) (va_runV (As := [.int 1, .int 60]) (rest := [.int 2, .ref m_read]) ⟨hx, hb, hml, hown, hG⟩ (kX9_number l g h0 1 60 m_told m_read m_now m_readNow m_kept m_tape m_refused m_ownLetters m_flats m_corner m_wayX m_wayY m_normal m_low m_high m_clear m_ways m_canBe m_lain m_fewestBy m_sortOf m_seenFlange m_seenLength _) ⟨callB_of 2 hG (zGood g1605) rfl rfl rfl (hG _ g211) (hG _ g1602) hX9_number ⟨Nat.le_of_ble_eq_true rfl, Nat.le_of_ble_eq_true rfl⟩, hG _ g1604, hG _ g139⟩ (zpreV (va_recv hX.1 hP (ci := 9) (q0 := 2) rfl rfl) hX hP hD hS hA [2] rfl (by decide)) rfl rfl hl.1 rfl (lv_room (Nat.le_of_ble_eq_true rfl)) dX9_readsAll_109 ⟨Nat.le_of_ble_eq_true rfl, Nat.le_of_ble_eq_true rfl⟩) hP hD hS hA [2] [0, 1] rfl rfl (by decide) (by decide) (fun r134 _ H locs hp hP hD hS => ?_)
  refine W.cs (cells' := 0) (slots' := 0) rfl rfl ?_
  have hq135 : r134 = 0 := hp
  subst hq135
  have hP : va_P g.1 vwCl [(m_read, .inl (g.2.1.1, 103, .inl f133)), (m_readNow, .inl (g.2.1.1, 21, .inl f125)), (h0, .inr (9, [.ref m_told, .ref m_read, .ref m_now, .ref m_readNow, .ref m_kept, .int 0, .int 1, .int 0, .ref m_tape, .int 0, .ref m_refused, .int 0, .int (-1), .int 0, .int 0, .int 0, .int 1, .int 0, .ref m_ownLetters, .ref m_flats, .int 0, .ref m_corner, .ref m_wayX, .ref m_wayY, .ref m_normal, .ref m_low, .ref m_high, .ref m_clear, .ref m_ways, .ref m_canBe, .ref m_lain, .int 0, .ref m_fewestBy, .ref m_sortOf, .int 0, .ref m_seenFlange, .ref m_seenLength]))] H := hP
  have hD : va_D A [(m_read, .inl (g.2.1.1, 103, .inl f133)), (m_readNow, .inl (g.2.1.1, 21, .inl f125)), (h0, .inr (9, [.ref m_told, .ref m_read, .ref m_now, .ref m_readNow, .ref m_kept, .int 0, .int 1, .int 0, .ref m_tape, .int 0, .ref m_refused, .int 0, .int (-1), .int 0, .int 0, .int 0, .int 1, .int 0, .ref m_ownLetters, .ref m_flats, .int 0, .ref m_corner, .ref m_wayX, .ref m_wayY, .ref m_normal, .ref m_low, .ref m_high, .ref m_clear, .ref m_ways, .ref m_canBe, .ref m_lain, .int 0, .ref m_fewestBy, .ref m_sortOf, .int 0, .ref m_seenFlange, .ref m_seenLength]))] := hD
  refine va_iast hx hb hX.1 hP hD hS 0 0 rfl rfl (vp_in_iff.mpr (by decide)) dX9_readsAll_112 (fun H locs hP hD hS => ?_)
  obtain ⟨f136, ef136⟩ : ∃ z : Nat → Int32, z = upd f133 (2 : Int32).toNatClampNeg 0 := ⟨_, rfl⟩
  rw [← ef136] at hP hD
  have hP : va_P g.1 vwCl [(m_read, .inl (g.2.1.1, 103, .inl f136)), (m_readNow, .inl (g.2.1.1, 21, .inl f125)), (h0, .inr (9, [.ref m_told, .ref m_read, .ref m_now, .ref m_readNow, .ref m_kept, .int 0, .int 1, .int 0, .ref m_tape, .int 0, .ref m_refused, .int 0, .int (-1), .int 0, .int 0, .int 0, .int 1, .int 0, .ref m_ownLetters, .ref m_flats, .int 0, .ref m_corner, .ref m_wayX, .ref m_wayY, .ref m_normal, .ref m_low, .ref m_high, .ref m_clear, .ref m_ways, .ref m_canBe, .ref m_lain, .int 0, .ref m_fewestBy, .ref m_sortOf, .int 0, .ref m_seenFlange, .ref m_seenLength]))] H := hP
  have hD : va_D A [(m_read, .inl (g.2.1.1, 103, .inl f136)), (m_readNow, .inl (g.2.1.1, 21, .inl f125)), (h0, .inr (9, [.ref m_told, .ref m_read, .ref m_now, .ref m_readNow, .ref m_kept, .int 0, .int 1, .int 0, .ref m_tape, .int 0, .ref m_refused, .int 0, .int (-1), .int 0, .int 0, .int 0, .int 1, .int 0, .ref m_ownLetters, .ref m_flats, .int 0, .ref m_corner, .ref m_wayX, .ref m_wayY, .ref m_normal, .ref m_low, .ref m_high, .ref m_clear, .ref m_ways, .ref m_canBe, .ref m_lain, .int 0, .ref m_fewestBy, .ref m_sortOf, .int 0, .ref m_seenFlange, .ref m_seenLength]))] := hD
  refine lv_aload_n hx hb dX9_readsAll_113 rfl (lv_at hl 1 rfl) ?_
  refine zfv (wr := [(m_read, .inl (g.2.1.1, 103, .inl f136)), (m_readNow, .inl (g.2.1.1, 21, .inl f125))]) (va_runV (As := []) (rest := []) ⟨hx, hb, hml, hown, hG⟩ (kX9_endsWell l g h0 m_told m_read m_now m_readNow m_kept m_tape m_refused m_ownLetters m_flats m_corner m_wayX m_wayY m_normal m_low m_high m_clear m_ways m_canBe m_lain m_fewestBy m_sortOf m_seenFlange m_seenLength _) ⟨callB_of 0 hG (zGood g1612) rfl rfl rfl (hG _ g211) (hG _ g1609) hX9_endsWell ⟨Nat.le_of_ble_eq_true rfl, Nat.le_of_ble_eq_true rfl⟩, hG _ g1611, hG _ g140⟩ (zpreV (va_recv hX.1 hP (ci := 9) (q0 := 2) rfl rfl) hX hP hD hS hA [2] rfl (by decide)) rfl rfl hl.1 rfl (lv_room (Nat.le_of_ble_eq_true rfl)) dX9_readsAll_114 ⟨Nat.le_of_ble_eq_true rfl, Nat.le_of_ble_eq_true rfl⟩) hP hD hS hA [2] [0, 1] rfl rfl (by decide) (by decide) (fun _ H locs hp hP hD hS => ?_)
  refine W.cs (cells' := 0) (slots' := 0) rfl rfl ?_
  have hP : va_P g.1 vwCl [(m_read, .inl (g.2.1.1, 103, .inl f136)), (m_readNow, .inl (g.2.1.1, 21, .inl f125)), (h0, .inr (9, [.ref m_told, .ref m_read, .ref m_now, .ref m_readNow, .ref m_kept, .int 0, .int 1, .int 0, .ref m_tape, .int 0, .ref m_refused, .int 0, .int (-1), .int 0, .int 0, .int 0, .int 1, .int 0, .ref m_ownLetters, .ref m_flats, .int 0, .ref m_corner, .ref m_wayX, .ref m_wayY, .ref m_normal, .ref m_low, .ref m_high, .ref m_clear, .ref m_ways, .ref m_canBe, .ref m_lain, .int 0, .ref m_fewestBy, .ref m_sortOf, .int 0, .ref m_seenFlange, .ref m_seenLength]))] H := hP
  have hD : va_D A [(m_read, .inl (g.2.1.1, 103, .inl f136)), (m_readNow, .inl (g.2.1.1, 21, .inl f125)), (h0, .inr (9, [.ref m_told, .ref m_read, .ref m_now, .ref m_readNow, .ref m_kept, .int 0, .int 1, .int 0, .ref m_tape, .int 0, .ref m_refused, .int 0, .int (-1), .int 0, .int 0, .int 0, .int 1, .int 0, .ref m_ownLetters, .ref m_flats, .int 0, .ref m_corner, .ref m_wayX, .ref m_wayY, .ref m_normal, .ref m_low, .ref m_high, .ref m_clear, .ref m_ways, .ref m_canBe, .ref m_lain, .int 0, .ref m_fewestBy, .ref m_sortOf, .int 0, .ref m_seenFlange, .ref m_seenLength]))] := hD
  refine lv_iconst (v := 1) hx hb dX9_readsAll_117 (by decide) ?_
  refine lv_istore_n (lv' := [(1, .int 1), (0, .ref h0)]) hx hb dX9_readsAll_118 rfl hl (by decide) rfl (fun ls hl => ?_)
  refine lv_aload_n hx hb dX9_readsAll_119 rfl (lv_at hl 1 rfl) ?_
  refine zfi (wr := [(m_read, .inl (g.2.1.1, 103, .inl f136)), (m_readNow, .inl (g.2.1.1, 21, .inl f125))]) (va_runV (As := []) (rest := []) ⟨hx, hb, hml, hown, hG⟩ (kX9_goesWellb l g h0 m_told m_read m_now m_readNow m_kept m_tape m_refused m_ownLetters m_flats m_corner m_wayX m_wayY m_normal m_low m_high m_clear m_ways m_canBe m_lain m_fewestBy m_sortOf m_seenFlange m_seenLength _) ⟨callB_of 0 hG (zGood g1573) rfl rfl rfl (hG _ g211) (hG _ g1570) hX9_goesWell ⟨Nat.le_of_ble_eq_true rfl, Nat.le_of_ble_eq_true rfl⟩, hG _ g1572, hG _ g131⟩ (zpreV (va_recv hX.1 hP (ci := 9) (q0 := 2) rfl rfl) hX hP hD hS hA [2] rfl (by decide)) rfl rfl hl.1 rfl (lv_room (Nat.le_of_ble_eq_true rfl)) dX9_readsAll_120 ⟨Nat.le_of_ble_eq_true rfl, Nat.le_of_ble_eq_true rfl⟩) hP hD hS hA [2] [0, 1] rfl rfl (by decide) (by decide) (fun r138 _ H locs hp hP hD hS => ?_)
  refine W.cs (cells' := 0) (slots' := 0) rfl rfl ?_
  have hq139 : r138 = 0 := hp
  subst hq139
  have hP : va_P g.1 vwCl [(m_read, .inl (g.2.1.1, 103, .inl f136)), (m_readNow, .inl (g.2.1.1, 21, .inl f125)), (h0, .inr (9, [.ref m_told, .ref m_read, .ref m_now, .ref m_readNow, .ref m_kept, .int 0, .int 1, .int 0, .ref m_tape, .int 0, .ref m_refused, .int 0, .int (-1), .int 0, .int 0, .int 0, .int 1, .int 0, .ref m_ownLetters, .ref m_flats, .int 0, .ref m_corner, .ref m_wayX, .ref m_wayY, .ref m_normal, .ref m_low, .ref m_high, .ref m_clear, .ref m_ways, .ref m_canBe, .ref m_lain, .int 0, .ref m_fewestBy, .ref m_sortOf, .int 0, .ref m_seenFlange, .ref m_seenLength]))] H := hP
  have hD : va_D A [(m_read, .inl (g.2.1.1, 103, .inl f136)), (m_readNow, .inl (g.2.1.1, 21, .inl f125)), (h0, .inr (9, [.ref m_told, .ref m_read, .ref m_now, .ref m_readNow, .ref m_kept, .int 0, .int 1, .int 0, .ref m_tape, .int 0, .ref m_refused, .int 0, .int (-1), .int 0, .int 0, .int 0, .int 1, .int 0, .ref m_ownLetters, .ref m_flats, .int 0, .ref m_corner, .ref m_wayX, .ref m_wayY, .ref m_normal, .ref m_low, .ref m_high, .ref m_clear, .ref m_ways, .ref m_canBe, .ref m_lain, .int 0, .ref m_fewestBy, .ref m_sortOf, .int 0, .ref m_seenFlange, .ref m_seenLength]))] := hD
  refine lv_if_eq (tgt := 178) hx hb dX9_readsAll_123 (by decide) (fun c123 => ?_) (fun c123 => (c123 (by decide)).elim)
  refine lv_iload_n hx hb dX9_readsAll_178 rfl (lv_at hl 0 rfl) ?_
  exact zri (rm := { frames := 4, cells := 0, slots := 0, locals := 84 }) (v := 1) (f136, f125) hx hb hr hlocks (Nat.le_of_ble_eq_true rfl) (Nat.le_of_ble_eq_true rfl) (rfl) (hP.sub [2, 0, 1] rfl) (hD.sub [2, 0, 1] (by decide) rfl) hS dX9_readsAll_179
set_option maxHeartbeats 4000000 in
set_option maxRecDepth 100000 in
theorem kX9_refusesp (l : Launch) (g : zL) (h0 : Nat) (m_told : Nat) (m_read : Nat) (m_now : Nat) (m_readNow : Nat) (m_kept : Nat) (m_tape : Nat) (m_refused : Nat) (m_ownLetters : Nat) (m_flats : Nat) (m_corner : Nat) (m_wayX : Nat) (m_wayY : Nat) (m_normal : Nat) (m_low : Nat) (m_high : Nat) (m_clear : Nat) (m_ways : Nat) (m_canBe : Nat) (m_lain : Nat) (m_fewestBy : Nat) (m_sortOf : Nat) (m_seenFlange : Nat) (m_seenLength : Nat) (f : Nat → Int32) : zCi l g yX9_refuses cX9_refuses 2 (some .int) { frames := 0, cells := 0, slots := 0, locals := 0 } [.ref h0, .int 1] [(h0, .inr (9, [.ref m_told, .ref m_read, .ref m_now, .ref m_readNow, .ref m_kept, .int 0, .int 1, .int 0, .ref m_tape, .int 0, .ref m_refused, .int 1, .int 0, .int 0, .int 0, .int 0, .int 1, .int 0, .ref m_ownLetters, .ref m_flats, .int 0, .ref m_corner, .ref m_wayX, .ref m_wayY, .ref m_normal, .ref m_low, .ref m_high, .ref m_clear, .ref m_ways, .ref m_canBe, .ref m_lain, .int 0, .ref m_fewestBy, .ref m_sortOf, .int 0, .ref m_seenFlange, .ref m_seenLength])), (m_refused, .inl (g.2.1.1, 6, .inl f))] (fun (r : Int32) (u : (Nat → Int32)) => r = (-1)) (fun (u : (Nat → Int32)) => [(h0, .inr (9, [.ref m_told, .ref m_read, .ref m_now, .ref m_readNow, .ref m_kept, .int 0, .int 1, .int 0, .ref m_tape, .int 0, .ref m_refused, .int 1, .int 0, .int 0, .int 0, .int 0, .int 1, .int 0, .ref m_ownLetters, .ref m_flats, .int 0, .ref m_corner, .ref m_wayX, .ref m_wayY, .ref m_normal, .ref m_low, .ref m_high, .ref m_clear, .ref m_ways, .ref m_canBe, .ref m_lain, .int 0, .ref m_fewestBy, .ref m_sortOf, .int 0, .ref m_seenFlange, .ref m_seenLength])), (m_refused, .inl (g.2.1.1, 6, .inl u))]) := by
  refine zCi.mk (by decide) (Nat.le_of_ble_eq_true rfl) ?_
  intro p e s m below meth c A hE hP hD hS ls hl
  obtain ⟨hx, hb, hr, hml, hown, hG, hlocks, hnm, hX, hA⟩ := hE
  have hown : s.vm.findClass RX9 = some m.cls := hown
  have hl : lv_has ls 2 [(0, .ref h0), (1, .int 1)] := hl
  refine lv_aload_n hx hb dX9_refuses_0 rfl (lv_at hl 0 rfl) ?_
  refine va_get (D := g.1) (ci := 9) (v := .ref m_refused) (C := RX9) (T := TX9) (N := 37) hx hb hG iX9 hown hX.1 hP 0 rfl rfl 10 (by decide) (hG _ g1427) (fun _ h9 => h9) rfl dX9_refuses_1 ?_
  refine lv_iload_n hx hb dX9_refuses_4 rfl (lv_at hl 1 rfl) ?_
  refine lv_dup2_11 hx hb dX9_refuses_5 rfl rfl ?_
  refine va_iald hx hb hX.1 hP 1 0 rfl rfl (vp_in_iff.mpr (by decide)) dX9_refuses_6 ?_
  refine lv_iconst (v := 1) hx hb dX9_refuses_7 (by decide) ?_
  refine lv_iadd hx hb dX9_refuses_8 ?_
  refine va_iast hx hb hX.1 hP hD hS 1 0 rfl rfl (vp_in_iff.mpr (by decide)) dX9_refuses_9 (fun H locs hP hD hS => ?_)
  have hP : va_P g.1 vwCl [(h0, .inr (9, [.ref m_told, .ref m_read, .ref m_now, .ref m_readNow, .ref m_kept, .int 0, .int 1, .int 0, .ref m_tape, .int 0, .ref m_refused, .int 1, .int 0, .int 0, .int 0, .int 0, .int 1, .int 0, .ref m_ownLetters, .ref m_flats, .int 0, .ref m_corner, .ref m_wayX, .ref m_wayY, .ref m_normal, .ref m_low, .ref m_high, .ref m_clear, .ref m_ways, .ref m_canBe, .ref m_lain, .int 0, .ref m_fewestBy, .ref m_sortOf, .int 0, .ref m_seenFlange, .ref m_seenLength])), (m_refused, .inl (g.2.1.1, 6, .inl (upd f (1 : Int32).toNatClampNeg ((f (1 : Int32).toNatClampNeg) + 1))))] H := hP
  have hD : va_D A [(h0, .inr (9, [.ref m_told, .ref m_read, .ref m_now, .ref m_readNow, .ref m_kept, .int 0, .int 1, .int 0, .ref m_tape, .int 0, .ref m_refused, .int 1, .int 0, .int 0, .int 0, .int 0, .int 1, .int 0, .ref m_ownLetters, .ref m_flats, .int 0, .ref m_corner, .ref m_wayX, .ref m_wayY, .ref m_normal, .ref m_low, .ref m_high, .ref m_clear, .ref m_ways, .ref m_canBe, .ref m_lain, .int 0, .ref m_fewestBy, .ref m_sortOf, .int 0, .ref m_seenFlange, .ref m_seenLength])), (m_refused, .inl (g.2.1.1, 6, .inl (upd f (1 : Int32).toNatClampNeg ((f (1 : Int32).toNatClampNeg) + 1))))] := hD
  refine lv_iconst (v := (-1)) hx hb dX9_refuses_10 (by decide) ?_
  exact zri (rm := { frames := 0, cells := 0, slots := 0, locals := 0 }) (v := (-1)) (upd f (1 : Int32).toNatClampNeg ((f (1 : Int32).toNatClampNeg) + 1)) hx hb hr hlocks (Nat.le_of_ble_eq_true rfl) (Nat.le_of_ble_eq_true rfl) (rfl) hP hD hS dX9_refuses_11
theorem dX9_part_0 : decode cX9_part 0 = .ok (.aload_n 0, 1) := by decide +kernel
theorem dX9_part_1 : decode cX9_part 1 = .ok (.aload_n 0, 1) := by decide +kernel
theorem dX9_part_2 : decode cX9_part 2 = .ok (.invokevirtual 210, 3) := by decide +kernel
theorem dX9_part_5 : decode cX9_part 5 = .ok (.putfield 51, 3) := by decide +kernel
theorem dX9_part_8 : decode cX9_part 8 = .ok (.aload_n 0, 1) := by decide +kernel
theorem dX9_part_9 : decode cX9_part 9 = .ok (.iconst 0, 1) := by decide +kernel
theorem dX9_part_10 : decode cX9_part 10 = .ok (.putfield 54, 3) := by decide +kernel
theorem dX9_part_13 : decode cX9_part 13 = .ok (.aload_n 0, 1) := by decide +kernel
theorem dX9_part_14 : decode cX9_part 14 = .ok (.iconst 0, 1) := by decide +kernel
theorem dX9_part_15 : decode cX9_part 15 = .ok (.putfield 60, 3) := by decide +kernel
theorem dX9_part_18 : decode cX9_part 18 = .ok (.aload_n 0, 1) := by decide +kernel
theorem dX9_part_19 : decode cX9_part 19 = .ok (.iconst (-1), 1) := by decide +kernel
theorem dX9_part_20 : decode cX9_part 20 = .ok (.putfield 63, 3) := by decide +kernel
theorem dX9_part_23 : decode cX9_part 23 = .ok (.aload_n 0, 1) := by decide +kernel
theorem dX9_part_24 : decode cX9_part 24 = .ok (.invokevirtual 213, 3) := by decide +kernel
theorem dX9_part_27 : decode cX9_part 27 = .ok (.istore_n 1, 1) := by decide +kernel
theorem dX9_part_28 : decode cX9_part 28 = .ok (.aload_n 0, 1) := by decide +kernel
theorem dX9_part_29 : decode cX9_part 29 = .ok (.aload_n 0, 1) := by decide +kernel
theorem dX9_part_30 : decode cX9_part 30 = .ok (.getfield 60, 3) := by decide +kernel
theorem dX9_part_33 : decode cX9_part 33 = .ok (.putfield 45, 3) := by decide +kernel
theorem dX9_part_36 : decode cX9_part 36 = .ok (.aload_n 0, 1) := by decide +kernel
theorem dX9_part_37 : decode cX9_part 37 = .ok (.aload_n 0, 1) := by decide +kernel
theorem dX9_part_38 : decode cX9_part 38 = .ok (.getfield 63, 3) := by decide +kernel
theorem dX9_part_41 : decode cX9_part 41 = .ok (.putfield 48, 3) := by decide +kernel
theorem dX9_part_44 : decode cX9_part 44 = .ok (.aload_n 0, 1) := by decide +kernel
theorem dX9_part_45 : decode cX9_part 45 = .ok (.getfield 60, 3) := by decide +kernel
theorem dX9_part_48 : decode cX9_part 48 = .ok (.ifCond .eq 9, 3) := by decide +kernel
theorem dX9_part_51 : decode cX9_part 51 = .ok (.aload_n 0, 1) := by decide +kernel
theorem dX9_part_52 : decode cX9_part 52 = .ok (.iconst 1, 1) := by decide +kernel
theorem dX9_part_53 : decode cX9_part 53 = .ok (.invokevirtual 124, 3) := by decide +kernel
theorem dX9_part_56 : decode cX9_part 56 = .ok (.ireturn, 1) := by decide +kernel
set_option maxHeartbeats 4000000 in
set_option maxRecDepth 100000 in
theorem kX9_part (l : Launch) (g : zL) (h0 : Nat) (m_told : Nat) (m_read : Nat) (m_now : Nat) (m_readNow : Nat) (m_kept : Nat) (m_tape : Nat) (m_refused : Nat) (m_ownLetters : Nat) (m_flats : Nat) (m_corner : Nat) (m_wayX : Nat) (m_wayY : Nat) (m_normal : Nat) (m_low : Nat) (m_high : Nat) (m_clear : Nat) (m_ways : Nat) (m_canBe : Nat) (m_lain : Nat) (m_fewestBy : Nat) (m_sortOf : Nat) (m_seenFlange : Nat) (m_seenLength : Nat) (fr : Nat → Int32) (fn : Nat → Int32) (f : Nat → Int32) : zCi l g yX9_part cX9_part 3 (some .int) { frames := 5, cells := 0, slots := 0, locals := 106 } [.ref h0] [(h0, .inr (9, [.ref m_told, .ref m_read, .ref m_now, .ref m_readNow, .ref m_kept, .int 0, .int 1, .int 0, .ref m_tape, .int 0, .ref m_refused, .int 0, .int (-1), .int 0, .int 0, .int 0, .int 0, .int (-1), .ref m_ownLetters, .ref m_flats, .int 0, .ref m_corner, .ref m_wayX, .ref m_wayY, .ref m_normal, .ref m_low, .ref m_high, .ref m_clear, .ref m_ways, .ref m_canBe, .ref m_lain, .int 0, .ref m_fewestBy, .ref m_sortOf, .int 0, .ref m_seenFlange, .ref m_seenLength])), (m_read, .inl (g.2.1.1, 103, .inl fr)), (m_readNow, .inl (g.2.1.1, 21, .inl fn)), (m_refused, .inl (g.2.1.1, 6, .inl f))] (fun (r : Int32) (u : Unit) => r = (-1)) (fun (u : Unit) => []) := by
  refine zCi.mk (by decide) (Nat.le_of_ble_eq_true rfl) ?_
  intro p e s m below meth c A hE hP hD hS ls hl
  obtain ⟨hx, hb, hr, hml, hown, hG, hlocks, hnm, hX, hA⟩ := hE
  have hown : s.vm.findClass RX9 = some m.cls := hown
  have hl : lv_has ls 3 [(0, .ref h0)] := hl
  refine lv_aload_n hx hb dX9_part_0 rfl (lv_at hl 0 rfl) ?_
  refine lv_aload_n hx hb dX9_part_1 rfl (lv_at hl 0 rfl) ?_
  refine zfi (wr := [(m_read, .inl (g.2.1.1, 103, .inl fr)), (m_readNow, .inl (g.2.1.1, 21, .inl fn)), (m_refused, .inl (g.2.1.1, 6, .inl f))]) (va_runV (As := []) (rest := [.ref h0]) ⟨hx, hb, hml, hown, hG⟩ (kX9_taken l g h0 m_told m_read m_now m_readNow m_kept m_tape m_refused m_ownLetters m_flats m_corner m_wayX m_wayY m_normal m_low m_high m_clear m_ways m_canBe m_lain m_fewestBy m_sortOf m_seenFlange m_seenLength _) ⟨callB_of 0 hG (zGood g1557) rfl rfl rfl (hG _ g211) (hG _ g1554) hX9_taken ⟨Nat.le_of_ble_eq_true rfl, Nat.le_of_ble_eq_true rfl⟩, hG _ g1556, hG _ g127⟩ (zpreV (va_recv hX.1 hP (ci := 9) (q0 := 0) rfl rfl) hX hP hD hS hA [0] rfl (by decide)) rfl rfl hl.1 rfl (lv_room (Nat.le_of_ble_eq_true rfl)) dX9_part_2 ⟨Nat.le_of_ble_eq_true rfl, Nat.le_of_ble_eq_true rfl⟩) hP hD hS hA [0] [1, 2, 3] rfl rfl (by decide) (by decide) (fun r1 _ H locs hp hP hD hS => ?_)
  refine W.cs (cells' := 0) (slots' := 0) rfl rfl ?_
  have hq2 : r1 = 0 := hp
  subst hq2
  have hP : va_P g.1 vwCl [(m_read, .inl (g.2.1.1, 103, .inl fr)), (m_readNow, .inl (g.2.1.1, 21, .inl fn)), (m_refused, .inl (g.2.1.1, 6, .inl f)), (h0, .inr (9, [.ref m_told, .ref m_read, .ref m_now, .ref m_readNow, .ref m_kept, .int 0, .int 1, .int 0, .ref m_tape, .int 0, .ref m_refused, .int 0, .int (-1), .int 0, .int 0, .int 0, .int 0, .int (-1), .ref m_ownLetters, .ref m_flats, .int 0, .ref m_corner, .ref m_wayX, .ref m_wayY, .ref m_normal, .ref m_low, .ref m_high, .ref m_clear, .ref m_ways, .ref m_canBe, .ref m_lain, .int 0, .ref m_fewestBy, .ref m_sortOf, .int 0, .ref m_seenFlange, .ref m_seenLength]))] H := hP
  have hD : va_D A [(m_read, .inl (g.2.1.1, 103, .inl fr)), (m_readNow, .inl (g.2.1.1, 21, .inl fn)), (m_refused, .inl (g.2.1.1, 6, .inl f)), (h0, .inr (9, [.ref m_told, .ref m_read, .ref m_now, .ref m_readNow, .ref m_kept, .int 0, .int 1, .int 0, .ref m_tape, .int 0, .ref m_refused, .int 0, .int (-1), .int 0, .int 0, .int 0, .int 0, .int (-1), .ref m_ownLetters, .ref m_flats, .int 0, .ref m_corner, .ref m_wayX, .ref m_wayY, .ref m_normal, .ref m_low, .ref m_high, .ref m_clear, .ref m_ways, .ref m_canBe, .ref m_lain, .int 0, .ref m_fewestBy, .ref m_sortOf, .int 0, .ref m_seenFlange, .ref m_seenLength]))] := hD
  refine va_put (D := g.1) (ci := 9) (v := .int 0) (ty := .int) (C := RX9) (T := TX9) (N := 37) hx hb hG iX9 tyX9 tyX9_ok nmX9 hown hX.1 hP hD hS 3 rfl rfl 13 (by decide) (hG _ g1430) (fun _ h9 => h9) rfl (by decide +kernel) rfl rfl (Nat.le_of_ble_eq_true rfl) dX9_part_5 (fun H locs hP hD hS => ?_)
  have hP : va_P g.1 vwCl [(m_read, .inl (g.2.1.1, 103, .inl fr)), (m_readNow, .inl (g.2.1.1, 21, .inl fn)), (m_refused, .inl (g.2.1.1, 6, .inl f)), (h0, .inr (9, [.ref m_told, .ref m_read, .ref m_now, .ref m_readNow, .ref m_kept, .int 0, .int 1, .int 0, .ref m_tape, .int 0, .ref m_refused, .int 0, .int (-1), .int 0, .int 0, .int 0, .int 0, .int (-1), .ref m_ownLetters, .ref m_flats, .int 0, .ref m_corner, .ref m_wayX, .ref m_wayY, .ref m_normal, .ref m_low, .ref m_high, .ref m_clear, .ref m_ways, .ref m_canBe, .ref m_lain, .int 0, .ref m_fewestBy, .ref m_sortOf, .int 0, .ref m_seenFlange, .ref m_seenLength]))] H := hP
  have hD : va_D A [(m_read, .inl (g.2.1.1, 103, .inl fr)), (m_readNow, .inl (g.2.1.1, 21, .inl fn)), (m_refused, .inl (g.2.1.1, 6, .inl f)), (h0, .inr (9, [.ref m_told, .ref m_read, .ref m_now, .ref m_readNow, .ref m_kept, .int 0, .int 1, .int 0, .ref m_tape, .int 0, .ref m_refused, .int 0, .int (-1), .int 0, .int 0, .int 0, .int 0, .int (-1), .ref m_ownLetters, .ref m_flats, .int 0, .ref m_corner, .ref m_wayX, .ref m_wayY, .ref m_normal, .ref m_low, .ref m_high, .ref m_clear, .ref m_ways, .ref m_canBe, .ref m_lain, .int 0, .ref m_fewestBy, .ref m_sortOf, .int 0, .ref m_seenFlange, .ref m_seenLength]))] := hD
  refine lv_aload_n hx hb dX9_part_8 rfl (lv_at hl 0 rfl) ?_
  refine lv_iconst (v := 0) hx hb dX9_part_9 (by decide) ?_
  refine va_put (D := g.1) (ci := 9) (v := .int 0) (ty := .int) (C := RX9) (T := TX9) (N := 37) hx hb hG iX9 tyX9 tyX9_ok nmX9 hown hX.1 hP hD hS 3 rfl rfl 14 (by decide) (hG _ g1431) (fun _ h9 => h9) rfl (by decide +kernel) rfl rfl (Nat.le_of_ble_eq_true rfl) dX9_part_10 (fun H locs hP hD hS => ?_)
  have hP : va_P g.1 vwCl [(m_read, .inl (g.2.1.1, 103, .inl fr)), (m_readNow, .inl (g.2.1.1, 21, .inl fn)), (m_refused, .inl (g.2.1.1, 6, .inl f)), (h0, .inr (9, [.ref m_told, .ref m_read, .ref m_now, .ref m_readNow, .ref m_kept, .int 0, .int 1, .int 0, .ref m_tape, .int 0, .ref m_refused, .int 0, .int (-1), .int 0, .int 0, .int 0, .int 0, .int (-1), .ref m_ownLetters, .ref m_flats, .int 0, .ref m_corner, .ref m_wayX, .ref m_wayY, .ref m_normal, .ref m_low, .ref m_high, .ref m_clear, .ref m_ways, .ref m_canBe, .ref m_lain, .int 0, .ref m_fewestBy, .ref m_sortOf, .int 0, .ref m_seenFlange, .ref m_seenLength]))] H := hP
  have hD : va_D A [(m_read, .inl (g.2.1.1, 103, .inl fr)), (m_readNow, .inl (g.2.1.1, 21, .inl fn)), (m_refused, .inl (g.2.1.1, 6, .inl f)), (h0, .inr (9, [.ref m_told, .ref m_read, .ref m_now, .ref m_readNow, .ref m_kept, .int 0, .int 1, .int 0, .ref m_tape, .int 0, .ref m_refused, .int 0, .int (-1), .int 0, .int 0, .int 0, .int 0, .int (-1), .ref m_ownLetters, .ref m_flats, .int 0, .ref m_corner, .ref m_wayX, .ref m_wayY, .ref m_normal, .ref m_low, .ref m_high, .ref m_clear, .ref m_ways, .ref m_canBe, .ref m_lain, .int 0, .ref m_fewestBy, .ref m_sortOf, .int 0, .ref m_seenFlange, .ref m_seenLength]))] := hD
  refine lv_aload_n hx hb dX9_part_13 rfl (lv_at hl 0 rfl) ?_
  refine lv_iconst (v := 0) hx hb dX9_part_14 (by decide) ?_
  refine va_put (D := g.1) (ci := 9) (v := .int 0) (ty := .int) (C := RX9) (T := TX9) (N := 37) hx hb hG iX9 tyX9 tyX9_ok nmX9 hown hX.1 hP hD hS 3 rfl rfl 16 (by decide) (hG _ g1433) (fun _ h9 => h9) rfl (by decide +kernel) rfl rfl (Nat.le_of_ble_eq_true rfl) dX9_part_15 (fun H locs hP hD hS => ?_)
  have hP : va_P g.1 vwCl [(m_read, .inl (g.2.1.1, 103, .inl fr)), (m_readNow, .inl (g.2.1.1, 21, .inl fn)), (m_refused, .inl (g.2.1.1, 6, .inl f)), (h0, .inr (9, [.ref m_told, .ref m_read, .ref m_now, .ref m_readNow, .ref m_kept, .int 0, .int 1, .int 0, .ref m_tape, .int 0, .ref m_refused, .int 0, .int (-1), .int 0, .int 0, .int 0, .int 0, .int (-1), .ref m_ownLetters, .ref m_flats, .int 0, .ref m_corner, .ref m_wayX, .ref m_wayY, .ref m_normal, .ref m_low, .ref m_high, .ref m_clear, .ref m_ways, .ref m_canBe, .ref m_lain, .int 0, .ref m_fewestBy, .ref m_sortOf, .int 0, .ref m_seenFlange, .ref m_seenLength]))] H := hP
  have hD : va_D A [(m_read, .inl (g.2.1.1, 103, .inl fr)), (m_readNow, .inl (g.2.1.1, 21, .inl fn)), (m_refused, .inl (g.2.1.1, 6, .inl f)), (h0, .inr (9, [.ref m_told, .ref m_read, .ref m_now, .ref m_readNow, .ref m_kept, .int 0, .int 1, .int 0, .ref m_tape, .int 0, .ref m_refused, .int 0, .int (-1), .int 0, .int 0, .int 0, .int 0, .int (-1), .ref m_ownLetters, .ref m_flats, .int 0, .ref m_corner, .ref m_wayX, .ref m_wayY, .ref m_normal, .ref m_low, .ref m_high, .ref m_clear, .ref m_ways, .ref m_canBe, .ref m_lain, .int 0, .ref m_fewestBy, .ref m_sortOf, .int 0, .ref m_seenFlange, .ref m_seenLength]))] := hD
  refine lv_aload_n hx hb dX9_part_18 rfl (lv_at hl 0 rfl) ?_
  refine lv_iconst (v := (-1)) hx hb dX9_part_19 (by decide) ?_
  refine va_put (D := g.1) (ci := 9) (v := .int (-1)) (ty := .int) (C := RX9) (T := TX9) (N := 37) hx hb hG iX9 tyX9 tyX9_ok nmX9 hown hX.1 hP hD hS 3 rfl rfl 17 (by decide) (hG _ g1434) (fun _ h9 => h9) rfl (by decide +kernel) rfl rfl (Nat.le_of_ble_eq_true rfl) dX9_part_20 (fun H locs hP hD hS => ?_)
  have hP : va_P g.1 vwCl [(m_read, .inl (g.2.1.1, 103, .inl fr)), (m_readNow, .inl (g.2.1.1, 21, .inl fn)), (m_refused, .inl (g.2.1.1, 6, .inl f)), (h0, .inr (9, [.ref m_told, .ref m_read, .ref m_now, .ref m_readNow, .ref m_kept, .int 0, .int 1, .int 0, .ref m_tape, .int 0, .ref m_refused, .int 0, .int (-1), .int 0, .int 0, .int 0, .int 0, .int (-1), .ref m_ownLetters, .ref m_flats, .int 0, .ref m_corner, .ref m_wayX, .ref m_wayY, .ref m_normal, .ref m_low, .ref m_high, .ref m_clear, .ref m_ways, .ref m_canBe, .ref m_lain, .int 0, .ref m_fewestBy, .ref m_sortOf, .int 0, .ref m_seenFlange, .ref m_seenLength]))] H := hP
  have hD : va_D A [(m_read, .inl (g.2.1.1, 103, .inl fr)), (m_readNow, .inl (g.2.1.1, 21, .inl fn)), (m_refused, .inl (g.2.1.1, 6, .inl f)), (h0, .inr (9, [.ref m_told, .ref m_read, .ref m_now, .ref m_readNow, .ref m_kept, .int 0, .int 1, .int 0, .ref m_tape, .int 0, .ref m_refused, .int 0, .int (-1), .int 0, .int 0, .int 0, .int 0, .int (-1), .ref m_ownLetters, .ref m_flats, .int 0, .ref m_corner, .ref m_wayX, .ref m_wayY, .ref m_normal, .ref m_low, .ref m_high, .ref m_clear, .ref m_ways, .ref m_canBe, .ref m_lain, .int 0, .ref m_fewestBy, .ref m_sortOf, .int 0, .ref m_seenFlange, .ref m_seenLength]))] := hD
  refine lv_aload_n hx hb dX9_part_23 rfl (lv_at hl 0 rfl) ?_
  refine zfi (wr := [(m_refused, .inl (g.2.1.1, 6, .inl f))]) (va_runV (As := []) (rest := []) ⟨hx, hb, hml, hown, hG⟩ (kX9_readsAll l g h0 m_told m_read m_now m_readNow m_kept m_tape m_refused m_ownLetters m_flats m_corner m_wayX m_wayY m_normal m_low m_high m_clear m_ways m_canBe m_lain m_fewestBy m_sortOf m_seenFlange m_seenLength fr fn _) ⟨callB_of 0 hG (zGood g1561) rfl rfl rfl (hG _ g211) (hG _ g1558) hX9_readsAll ⟨Nat.le_of_ble_eq_true rfl, Nat.le_of_ble_eq_true rfl⟩, hG _ g1560, hG _ g128⟩ (zpreV (va_recv hX.1 hP (ci := 9) (q0 := 3) rfl rfl) hX hP hD hS hA [3, 0, 1] rfl (by decide)) rfl rfl hl.1 rfl (lv_room (Nat.le_of_ble_eq_true rfl)) dX9_part_24 ⟨Nat.le_of_ble_eq_true rfl, Nat.le_of_ble_eq_true rfl⟩) hP hD hS hA [3, 0, 1] [2] rfl rfl (by decide) (by decide) (fun r3 z6 H locs hp hP hD hS => ?_)
  refine W.cs (cells' := 0) (slots' := 0) rfl rfl ?_
  obtain ⟨u4, u5⟩ := z6
  have hq7 : r3 = 1 := hp
  subst hq7
  have hP : va_P g.1 vwCl [(m_refused, .inl (g.2.1.1, 6, .inl f)), (h0, .inr (9, [.ref m_told, .ref m_read, .ref m_now, .ref m_readNow, .ref m_kept, .int 0, .int 1, .int 0, .ref m_tape, .int 0, .ref m_refused, .int 0, .int (-1), .int 0, .int 0, .int 0, .int 1, .int 0, .ref m_ownLetters, .ref m_flats, .int 0, .ref m_corner, .ref m_wayX, .ref m_wayY, .ref m_normal, .ref m_low, .ref m_high, .ref m_clear, .ref m_ways, .ref m_canBe, .ref m_lain, .int 0, .ref m_fewestBy, .ref m_sortOf, .int 0, .ref m_seenFlange, .ref m_seenLength])), (m_read, .inl (g.2.1.1, 103, .inl u4)), (m_readNow, .inl (g.2.1.1, 21, .inl u5))] H := hP
  have hD : va_D A [(m_refused, .inl (g.2.1.1, 6, .inl f)), (h0, .inr (9, [.ref m_told, .ref m_read, .ref m_now, .ref m_readNow, .ref m_kept, .int 0, .int 1, .int 0, .ref m_tape, .int 0, .ref m_refused, .int 0, .int (-1), .int 0, .int 0, .int 0, .int 1, .int 0, .ref m_ownLetters, .ref m_flats, .int 0, .ref m_corner, .ref m_wayX, .ref m_wayY, .ref m_normal, .ref m_low, .ref m_high, .ref m_clear, .ref m_ways, .ref m_canBe, .ref m_lain, .int 0, .ref m_fewestBy, .ref m_sortOf, .int 0, .ref m_seenFlange, .ref m_seenLength])), (m_read, .inl (g.2.1.1, 103, .inl u4)), (m_readNow, .inl (g.2.1.1, 21, .inl u5))] := hD
  refine lv_istore_n (lv' := [(1, .int 1), (0, .ref h0)]) hx hb dX9_part_27 rfl hl (by decide) rfl (fun ls hl => ?_)
  refine lv_aload_n hx hb dX9_part_28 rfl (lv_at hl 1 rfl) ?_
  refine lv_aload_n hx hb dX9_part_29 rfl (lv_at hl 1 rfl) ?_
  refine va_get (D := g.1) (ci := 9) (v := .int 1) (C := RX9) (T := TX9) (N := 37) hx hb hG iX9 hown hX.1 hP 1 rfl rfl 16 (by decide) (hG _ g1433) (fun _ h9 => h9) rfl dX9_part_30 ?_
  refine va_put (D := g.1) (ci := 9) (v := .int 1) (ty := .int) (C := RX9) (T := TX9) (N := 37) hx hb hG iX9 tyX9 tyX9_ok nmX9 hown hX.1 hP hD hS 1 rfl rfl 11 (by decide) (hG _ g1428) (fun _ h9 => h9) rfl (by decide +kernel) rfl rfl (Nat.le_of_ble_eq_true rfl) dX9_part_33 (fun H locs hP hD hS => ?_)
  have hP : va_P g.1 vwCl [(m_refused, .inl (g.2.1.1, 6, .inl f)), (h0, .inr (9, [.ref m_told, .ref m_read, .ref m_now, .ref m_readNow, .ref m_kept, .int 0, .int 1, .int 0, .ref m_tape, .int 0, .ref m_refused, .int 1, .int (-1), .int 0, .int 0, .int 0, .int 1, .int 0, .ref m_ownLetters, .ref m_flats, .int 0, .ref m_corner, .ref m_wayX, .ref m_wayY, .ref m_normal, .ref m_low, .ref m_high, .ref m_clear, .ref m_ways, .ref m_canBe, .ref m_lain, .int 0, .ref m_fewestBy, .ref m_sortOf, .int 0, .ref m_seenFlange, .ref m_seenLength])), (m_read, .inl (g.2.1.1, 103, .inl u4)), (m_readNow, .inl (g.2.1.1, 21, .inl u5))] H := hP
  have hD : va_D A [(m_refused, .inl (g.2.1.1, 6, .inl f)), (h0, .inr (9, [.ref m_told, .ref m_read, .ref m_now, .ref m_readNow, .ref m_kept, .int 0, .int 1, .int 0, .ref m_tape, .int 0, .ref m_refused, .int 1, .int (-1), .int 0, .int 0, .int 0, .int 1, .int 0, .ref m_ownLetters, .ref m_flats, .int 0, .ref m_corner, .ref m_wayX, .ref m_wayY, .ref m_normal, .ref m_low, .ref m_high, .ref m_clear, .ref m_ways, .ref m_canBe, .ref m_lain, .int 0, .ref m_fewestBy, .ref m_sortOf, .int 0, .ref m_seenFlange, .ref m_seenLength])), (m_read, .inl (g.2.1.1, 103, .inl u4)), (m_readNow, .inl (g.2.1.1, 21, .inl u5))] := hD
  refine lv_aload_n hx hb dX9_part_36 rfl (lv_at hl 1 rfl) ?_
  refine lv_aload_n hx hb dX9_part_37 rfl (lv_at hl 1 rfl) ?_
  refine va_get (D := g.1) (ci := 9) (v := .int 0) (C := RX9) (T := TX9) (N := 37) hx hb hG iX9 hown hX.1 hP 1 rfl rfl 17 (by decide) (hG _ g1434) (fun _ h9 => h9) rfl dX9_part_38 ?_
  refine va_put (D := g.1) (ci := 9) (v := .int 0) (ty := .int) (C := RX9) (T := TX9) (N := 37) hx hb hG iX9 tyX9 tyX9_ok nmX9 hown hX.1 hP hD hS 1 rfl rfl 12 (by decide) (hG _ g1429) (fun _ h9 => h9) rfl (by decide +kernel) rfl rfl (Nat.le_of_ble_eq_true rfl) dX9_part_41 (fun H locs hP hD hS => ?_)
  have hP : va_P g.1 vwCl [(m_refused, .inl (g.2.1.1, 6, .inl f)), (h0, .inr (9, [.ref m_told, .ref m_read, .ref m_now, .ref m_readNow, .ref m_kept, .int 0, .int 1, .int 0, .ref m_tape, .int 0, .ref m_refused, .int 1, .int 0, .int 0, .int 0, .int 0, .int 1, .int 0, .ref m_ownLetters, .ref m_flats, .int 0, .ref m_corner, .ref m_wayX, .ref m_wayY, .ref m_normal, .ref m_low, .ref m_high, .ref m_clear, .ref m_ways, .ref m_canBe, .ref m_lain, .int 0, .ref m_fewestBy, .ref m_sortOf, .int 0, .ref m_seenFlange, .ref m_seenLength])), (m_read, .inl (g.2.1.1, 103, .inl u4)), (m_readNow, .inl (g.2.1.1, 21, .inl u5))] H := hP
  have hD : va_D A [(m_refused, .inl (g.2.1.1, 6, .inl f)), (h0, .inr (9, [.ref m_told, .ref m_read, .ref m_now, .ref m_readNow, .ref m_kept, .int 0, .int 1, .int 0, .ref m_tape, .int 0, .ref m_refused, .int 1, .int 0, .int 0, .int 0, .int 0, .int 1, .int 0, .ref m_ownLetters, .ref m_flats, .int 0, .ref m_corner, .ref m_wayX, .ref m_wayY, .ref m_normal, .ref m_low, .ref m_high, .ref m_clear, .ref m_ways, .ref m_canBe, .ref m_lain, .int 0, .ref m_fewestBy, .ref m_sortOf, .int 0, .ref m_seenFlange, .ref m_seenLength])), (m_read, .inl (g.2.1.1, 103, .inl u4)), (m_readNow, .inl (g.2.1.1, 21, .inl u5))] := hD
  refine lv_aload_n hx hb dX9_part_44 rfl (lv_at hl 1 rfl) ?_
  refine va_get (D := g.1) (ci := 9) (v := .int 1) (C := RX9) (T := TX9) (N := 37) hx hb hG iX9 hown hX.1 hP 1 rfl rfl 16 (by decide) (hG _ g1433) (fun _ h9 => h9) rfl dX9_part_45 ?_
  refine lv_if_eq (tgt := 57) hx hb dX9_part_48 (by decide) (fun c48 => absurd c48 (by decide)) (fun c48 => ?_)
  refine lv_aload_n hx hb dX9_part_51 rfl (lv_at hl 1 rfl) ?_
  refine lv_iconst (v := 1) hx hb dX9_part_52 (by decide) ?_
  refine zfi (wr := [(m_read, .inl (g.2.1.1, 103, .inl u4)), (m_readNow, .inl (g.2.1.1, 21, .inl u5))]) (va_runV (As := [.int 1]) (rest := []) ⟨hx, hb, hml, hown, hG⟩ (kX9_refusesp l g h0 m_told m_read m_now m_readNow m_kept m_tape m_refused m_ownLetters m_flats m_corner m_wayX m_wayY m_normal m_low m_high m_clear m_ways m_canBe m_lain m_fewestBy m_sortOf m_seenFlange m_seenLength f _) ⟨callB_of 1 hG (zGood g1537) rfl rfl rfl (hG _ g211) (hG _ g1534) hX9_refuses ⟨Nat.le_of_ble_eq_true rfl, Nat.le_of_ble_eq_true rfl⟩, hG _ g1536, hG _ g124⟩ (zpreV (va_recv hX.1 hP (ci := 9) (q0 := 1) rfl rfl) hX hP hD hS hA [1, 0] rfl (by decide)) rfl rfl hl.1 rfl (lv_room (Nat.le_of_ble_eq_true rfl)) dX9_part_53 ⟨Nat.le_of_ble_eq_true rfl, Nat.le_of_ble_eq_true rfl⟩) hP hD hS hA [1, 0] [2, 3] rfl rfl (by decide) (by decide) (fun r8 u9 H locs hp hP hD hS => ?_)
  refine W.cs (cells' := 0) (slots' := 0) rfl rfl ?_
  have hq10 : r8 = (-1) := hp
  subst hq10
  have hP : va_P g.1 vwCl [(m_read, .inl (g.2.1.1, 103, .inl u4)), (m_readNow, .inl (g.2.1.1, 21, .inl u5)), (h0, .inr (9, [.ref m_told, .ref m_read, .ref m_now, .ref m_readNow, .ref m_kept, .int 0, .int 1, .int 0, .ref m_tape, .int 0, .ref m_refused, .int 1, .int 0, .int 0, .int 0, .int 0, .int 1, .int 0, .ref m_ownLetters, .ref m_flats, .int 0, .ref m_corner, .ref m_wayX, .ref m_wayY, .ref m_normal, .ref m_low, .ref m_high, .ref m_clear, .ref m_ways, .ref m_canBe, .ref m_lain, .int 0, .ref m_fewestBy, .ref m_sortOf, .int 0, .ref m_seenFlange, .ref m_seenLength])), (m_refused, .inl (g.2.1.1, 6, .inl u9))] H := hP
  have hD : va_D A [(m_read, .inl (g.2.1.1, 103, .inl u4)), (m_readNow, .inl (g.2.1.1, 21, .inl u5)), (h0, .inr (9, [.ref m_told, .ref m_read, .ref m_now, .ref m_readNow, .ref m_kept, .int 0, .int 1, .int 0, .ref m_tape, .int 0, .ref m_refused, .int 1, .int 0, .int 0, .int 0, .int 0, .int 1, .int 0, .ref m_ownLetters, .ref m_flats, .int 0, .ref m_corner, .ref m_wayX, .ref m_wayY, .ref m_normal, .ref m_low, .ref m_high, .ref m_clear, .ref m_ways, .ref m_canBe, .ref m_lain, .int 0, .ref m_fewestBy, .ref m_sortOf, .int 0, .ref m_seenFlange, .ref m_seenLength])), (m_refused, .inl (g.2.1.1, 6, .inl u9))] := hD
  exact zri (rm := { frames := 5, cells := 0, slots := 0, locals := 106 }) (v := (-1)) () hx hb hr hlocks (Nat.le_of_ble_eq_true rfl) (Nat.le_of_ble_eq_true rfl) (rfl) (hP.sub [] rfl) (hD.sub [] (by decide) rfl) hS dX9_part_56
