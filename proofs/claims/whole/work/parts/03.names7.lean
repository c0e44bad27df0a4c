theorem dX7_init_0 : decode cX7_init 0 = .ok (.aload_n 0, 1) := by decide +kernel
theorem dX7_init_1 : decode cX7_init 1 = .ok (.invokespecial 1, 3) := by decide +kernel
theorem dX7_init_4 : decode cX7_init 4 = .ok (.aload_n 0, 1) := by decide +kernel
theorem dX7_init_5 : decode cX7_init 5 = .ok (.sipush 360, 3) := by decide +kernel
theorem dX7_init_8 : decode cX7_init 8 = .ok (.newarray .int, 2) := by decide +kernel
theorem dX7_init_10 : decode cX7_init 10 = .ok (.putfield 7, 3) := by decide +kernel
theorem dX7_init_13 : decode cX7_init 13 = .ok (.aload_n 0, 1) := by decide +kernel
theorem dX7_init_14 : decode cX7_init 14 = .ok (.bipush 60, 2) := by decide +kernel
theorem dX7_init_16 : decode cX7_init 16 = .ok (.newarray .int, 2) := by decide +kernel
theorem dX7_init_18 : decode cX7_init 18 = .ok (.putfield 13, 3) := by decide +kernel
theorem dX7_init_21 : decode cX7_init 21 = .ok (.aload_n 0, 1) := by decide +kernel
theorem dX7_init_22 : decode cX7_init 22 = .ok (.sipush 160, 3) := by decide +kernel
theorem dX7_init_25 : decode cX7_init 25 = .ok (.newarray .int, 2) := by decide +kernel
theorem dX7_init_27 : decode cX7_init 27 = .ok (.putfield 16, 3) := by decide +kernel
theorem dX7_init_30 : decode cX7_init 30 = .ok (.aload_n 0, 1) := by decide +kernel
theorem dX7_init_31 : decode cX7_init 31 = .ok (.bipush 8, 2) := by decide +kernel
theorem dX7_init_33 : decode cX7_init 33 = .ok (.newarray .int, 2) := by decide +kernel
theorem dX7_init_35 : decode cX7_init 35 = .ok (.dup, 1) := by decide +kernel
theorem dX7_init_36 : decode cX7_init 36 = .ok (.iconst 0, 1) := by decide +kernel
theorem dX7_init_37 : decode cX7_init 37 = .ok (.iconst 0, 1) := by decide +kernel
theorem dX7_init_38 : decode cX7_init 38 = .ok (.iastore, 1) := by decide +kernel
theorem dX7_init_39 : decode cX7_init 39 = .ok (.dup, 1) := by decide +kernel
theorem dX7_init_40 : decode cX7_init 40 = .ok (.iconst 1, 1) := by decide +kernel
theorem dX7_init_41 : decode cX7_init 41 = .ok (.iconst 5, 1) := by decide +kernel
theorem dX7_init_42 : decode cX7_init 42 = .ok (.iastore, 1) := by decide +kernel
theorem dX7_init_43 : decode cX7_init 43 = .ok (.dup, 1) := by decide +kernel
theorem dX7_init_44 : decode cX7_init 44 = .ok (.iconst 2, 1) := by decide +kernel
theorem dX7_init_45 : decode cX7_init 45 = .ok (.bipush 12, 2) := by decide +kernel
theorem dX7_init_47 : decode cX7_init 47 = .ok (.iastore, 1) := by decide +kernel
theorem dX7_init_48 : decode cX7_init 48 = .ok (.dup, 1) := by decide +kernel
theorem dX7_init_49 : decode cX7_init 49 = .ok (.iconst 3, 1) := by decide +kernel
theorem dX7_init_50 : decode cX7_init 50 = .ok (.bipush 16, 2) := by decide +kernel
theorem dX7_init_52 : decode cX7_init 52 = .ok (.iastore, 1) := by decide +kernel
theorem dX7_init_53 : decode cX7_init 53 = .ok (.dup, 1) := by decide +kernel
theorem dX7_init_54 : decode cX7_init 54 = .ok (.iconst 4, 1) := by decide +kernel
theorem dX7_init_55 : decode cX7_init 55 = .ok (.bipush 21, 2) := by decide +kernel
theorem dX7_init_57 : decode cX7_init 57 = .ok (.iastore, 1) := by decide +kernel
theorem dX7_init_58 : decode cX7_init 58 = .ok (.dup, 1) := by decide +kernel
theorem dX7_init_59 : decode cX7_init 59 = .ok (.iconst 5, 1) := by decide +kernel
theorem dX7_init_60 : decode cX7_init 60 = .ok (.bipush 26, 2) := by decide +kernel
theorem dX7_init_62 : decode cX7_init 62 = .ok (.iastore, 1) := by decide +kernel
theorem dX7_init_63 : decode cX7_init 63 = .ok (.dup, 1) := by decide +kernel
theorem dX7_init_64 : decode cX7_init 64 = .ok (.bipush 6, 2) := by decide +kernel
theorem dX7_init_66 : decode cX7_init 66 = .ok (.bipush 31, 2) := by decide +kernel
theorem dX7_init_68 : decode cX7_init 68 = .ok (.iastore, 1) := by decide +kernel
theorem dX7_init_69 : decode cX7_init 69 = .ok (.dup, 1) := by decide +kernel
theorem dX7_init_70 : decode cX7_init 70 = .ok (.bipush 7, 2) := by decide +kernel
theorem dX7_init_72 : decode cX7_init 72 = .ok (.bipush 36, 2) := by decide +kernel
theorem dX7_init_74 : decode cX7_init 74 = .ok (.iastore, 1) := by decide +kernel
theorem dX7_init_75 : decode cX7_init 75 = .ok (.putfield 19, 3) := by decide +kernel
theorem dX7_init_78 : decode cX7_init 78 = .ok (.aload_n 0, 1) := by decide +kernel
theorem dX7_init_79 : decode cX7_init 79 = .ok (.bipush 36, 2) := by decide +kernel
theorem dX7_init_81 : decode cX7_init 81 = .ok (.newarray .int, 2) := by decide +kernel
theorem dX7_init_83 : decode cX7_init 83 = .ok (.dup, 1) := by decide +kernel
theorem dX7_init_84 : decode cX7_init 84 = .ok (.iconst 0, 1) := by decide +kernel
theorem dX7_init_85 : decode cX7_init 85 = .ok (.bipush 112, 2) := by decide +kernel
theorem dX7_init_87 : decode cX7_init 87 = .ok (.iastore, 1) := by decide +kernel
theorem dX7_init_88 : decode cX7_init 88 = .ok (.dup, 1) := by decide +kernel
theorem dX7_init_89 : decode cX7_init 89 = .ok (.iconst 1, 1) := by decide +kernel
theorem dX7_init_90 : decode cX7_init 90 = .ok (.bipush 108, 2) := by decide +kernel
theorem dX7_init_92 : decode cX7_init 92 = .ok (.iastore, 1) := by decide +kernel
theorem dX7_init_93 : decode cX7_init 93 = .ok (.dup, 1) := by decide +kernel
theorem dX7_init_94 : decode cX7_init 94 = .ok (.iconst 2, 1) := by decide +kernel
theorem dX7_init_95 : decode cX7_init 95 = .ok (.bipush 97, 2) := by decide +kernel
theorem dX7_init_97 : decode cX7_init 97 = .ok (.iastore, 1) := by decide +kernel
theorem dX7_init_98 : decode cX7_init 98 = .ok (.dup, 1) := by decide +kernel
theorem dX7_init_99 : decode cX7_init 99 = .ok (.iconst 3, 1) := by decide +kernel
theorem dX7_init_100 : decode cX7_init 100 = .ok (.bipush 105, 2) := by decide +kernel
theorem dX7_init_102 : decode cX7_init 102 = .ok (.iastore, 1) := by decide +kernel
theorem dX7_init_103 : decode cX7_init 103 = .ok (.dup, 1) := by decide +kernel
theorem dX7_init_104 : decode cX7_init 104 = .ok (.iconst 4, 1) := by decide +kernel
theorem dX7_init_105 : decode cX7_init 105 = .ok (.bipush 110, 2) := by decide +kernel
theorem dX7_init_107 : decode cX7_init 107 = .ok (.iastore, 1) := by decide +kernel
theorem dX7_init_108 : decode cX7_init 108 = .ok (.dup, 1) := by decide +kernel
theorem dX7_init_109 : decode cX7_init 109 = .ok (.iconst 5, 1) := by decide +kernel
theorem dX7_init_110 : decode cX7_init 110 = .ok (.bipush 109, 2) := by decide +kernel
theorem dX7_init_112 : decode cX7_init 112 = .ok (.iastore, 1) := by decide +kernel
theorem dX7_init_113 : decode cX7_init 113 = .ok (.dup, 1) := by decide +kernel
theorem dX7_init_114 : decode cX7_init 114 = .ok (.bipush 6, 2) := by decide +kernel
theorem dX7_init_116 : decode cX7_init 116 = .ok (.bipush 111, 2) := by decide +kernel
theorem dX7_init_118 : decode cX7_init 118 = .ok (.iastore, 1) := by decide +kernel
theorem dX7_init_119 : decode cX7_init 119 = .ok (.dup, 1) := by decide +kernel
theorem dX7_init_120 : decode cX7_init 120 = .ok (.bipush 7, 2) := by decide +kernel
theorem dX7_init_122 : decode cX7_init 122 = .ok (.bipush 117, 2) := by decide +kernel
theorem dX7_init_124 : decode cX7_init 124 = .ok (.iastore, 1) := by decide +kernel
theorem dX7_init_125 : decode cX7_init 125 = .ok (.dup, 1) := by decide +kernel
theorem dX7_init_126 : decode cX7_init 126 = .ok (.bipush 8, 2) := by decide +kernel
theorem dX7_init_128 : decode cX7_init 128 = .ok (.bipush 108, 2) := by decide +kernel
theorem dX7_init_130 : decode cX7_init 130 = .ok (.iastore, 1) := by decide +kernel
theorem dX7_init_131 : decode cX7_init 131 = .ok (.dup, 1) := by decide +kernel
theorem dX7_init_132 : decode cX7_init 132 = .ok (.bipush 9, 2) := by decide +kernel
theorem dX7_init_134 : decode cX7_init 134 = .ok (.bipush 116, 2) := by decide +kernel
theorem dX7_init_136 : decode cX7_init 136 = .ok (.iastore, 1) := by decide +kernel
theorem dX7_init_137 : decode cX7_init 137 = .ok (.dup, 1) := by decide +kernel
theorem dX7_init_138 : decode cX7_init 138 = .ok (.bipush 10, 2) := by decide +kernel
theorem dX7_init_140 : decode cX7_init 140 = .ok (.bipush 101, 2) := by decide +kernel
theorem dX7_init_142 : decode cX7_init 142 = .ok (.iastore, 1) := by decide +kernel
theorem dX7_init_143 : decode cX7_init 143 = .ok (.dup, 1) := by decide +kernel
theorem dX7_init_144 : decode cX7_init 144 = .ok (.bipush 11, 2) := by decide +kernel
theorem dX7_init_146 : decode cX7_init 146 = .ok (.bipush 114, 2) := by decide +kernel
theorem dX7_init_148 : decode cX7_init 148 = .ok (.iastore, 1) := by decide +kernel
theorem dX7_init_149 : decode cX7_init 149 = .ok (.dup, 1) := by decide +kernel
theorem dX7_init_150 : decode cX7_init 150 = .ok (.bipush 12, 2) := by decide +kernel
theorem dX7_init_152 : decode cX7_init 152 = .ok (.bipush 115, 2) := by decide +kernel
theorem dX7_init_154 : decode cX7_init 154 = .ok (.iastore, 1) := by decide +kernel
theorem dX7_init_155 : decode cX7_init 155 = .ok (.dup, 1) := by decide +kernel
theorem dX7_init_156 : decode cX7_init 156 = .ok (.bipush 13, 2) := by decide +kernel
theorem dX7_init_158 : decode cX7_init 158 = .ok (.bipush 119, 2) := by decide +kernel
theorem dX7_init_160 : decode cX7_init 160 = .ok (.iastore, 1) := by decide +kernel
theorem dX7_init_161 : decode cX7_init 161 = .ok (.dup, 1) := by decide +kernel
theorem dX7_init_162 : decode cX7_init 162 = .ok (.bipush 14, 2) := by decide +kernel
theorem dX7_init_164 : decode cX7_init 164 = .ok (.bipush 97, 2) := by decide +kernel
theorem dX7_init_166 : decode cX7_init 166 = .ok (.iastore, 1) := by decide +kernel
theorem dX7_init_167 : decode cX7_init 167 = .ok (.dup, 1) := by decide +kernel
theorem dX7_init_168 : decode cX7_init 168 = .ok (.bipush 15, 2) := by decide +kernel
theorem dX7_init_170 : decode cX7_init 170 = .ok (.bipush 110, 2) := by decide +kernel
theorem dX7_init_172 : decode cX7_init 172 = .ok (.iastore, 1) := by decide +kernel
theorem dX7_init_173 : decode cX7_init 173 = .ok (.dup, 1) := by decide +kernel
theorem dX7_init_174 : decode cX7_init 174 = .ok (.bipush 16, 2) := by decide +kernel
theorem dX7_init_176 : decode cX7_init 176 = .ok (.bipush 100, 2) := by decide +kernel
theorem dX7_init_178 : decode cX7_init 178 = .ok (.iastore, 1) := by decide +kernel
theorem dX7_init_179 : decode cX7_init 179 = .ok (.dup, 1) := by decide +kernel
theorem dX7_init_180 : decode cX7_init 180 = .ok (.bipush 17, 2) := by decide +kernel
theorem dX7_init_182 : decode cX7_init 182 = .ok (.bipush 114, 2) := by decide +kernel
theorem dX7_init_184 : decode cX7_init 184 = .ok (.iastore, 1) := by decide +kernel
theorem dX7_init_185 : decode cX7_init 185 = .ok (.dup, 1) := by decide +kernel
theorem dX7_init_186 : decode cX7_init 186 = .ok (.bipush 18, 2) := by decide +kernel
theorem dX7_init_188 : decode cX7_init 188 = .ok (.bipush 97, 2) := by decide +kernel
theorem dX7_init_190 : decode cX7_init 190 = .ok (.iastore, 1) := by decide +kernel
theorem dX7_init_191 : decode cX7_init 191 = .ok (.dup, 1) := by decide +kernel
theorem dX7_init_192 : decode cX7_init 192 = .ok (.bipush 19, 2) := by decide +kernel
theorem dX7_init_194 : decode cX7_init 194 = .ok (.bipush 107, 2) := by decide +kernel
theorem dX7_init_196 : decode cX7_init 196 = .ok (.iastore, 1) := by decide +kernel
theorem dX7_init_197 : decode cX7_init 197 = .ok (.dup, 1) := by decide +kernel
theorem dX7_init_198 : decode cX7_init 198 = .ok (.bipush 20, 2) := by decide +kernel
theorem dX7_init_200 : decode cX7_init 200 = .ok (.bipush 101, 2) := by decide +kernel
theorem dX7_init_202 : decode cX7_init 202 = .ok (.iastore, 1) := by decide +kernel
theorem dX7_init_203 : decode cX7_init 203 = .ok (.dup, 1) := by decide +kernel
theorem dX7_init_204 : decode cX7_init 204 = .ok (.bipush 21, 2) := by decide +kernel
theorem dX7_init_206 : decode cX7_init 206 = .ok (.bipush 115, 2) := by decide +kernel
theorem dX7_init_208 : decode cX7_init 208 = .ok (.iastore, 1) := by decide +kernel
theorem dX7_init_209 : decode cX7_init 209 = .ok (.dup, 1) := by decide +kernel
theorem dX7_init_210 : decode cX7_init 210 = .ok (.bipush 22, 2) := by decide +kernel
theorem dX7_init_212 : decode cX7_init 212 = .ok (.bipush 104, 2) := by decide +kernel
theorem dX7_init_214 : decode cX7_init 214 = .ok (.iastore, 1) := by decide +kernel
theorem dX7_init_215 : decode cX7_init 215 = .ok (.dup, 1) := by decide +kernel
theorem dX7_init_216 : decode cX7_init 216 = .ok (.bipush 23, 2) := by decide +kernel
theorem dX7_init_218 : decode cX7_init 218 = .ok (.bipush 97, 2) := by decide +kernel
theorem dX7_init_220 : decode cX7_init 220 = .ok (.iastore, 1) := by decide +kernel
theorem dX7_init_221 : decode cX7_init 221 = .ok (.dup, 1) := by decide +kernel
theorem dX7_init_222 : decode cX7_init 222 = .ok (.bipush 24, 2) := by decide +kernel
theorem dX7_init_224 : decode cX7_init 224 = .ok (.bipush 114, 2) := by decide +kernel
theorem dX7_init_226 : decode cX7_init 226 = .ok (.iastore, 1) := by decide +kernel
theorem dX7_init_227 : decode cX7_init 227 = .ok (.dup, 1) := by decide +kernel
theorem dX7_init_228 : decode cX7_init 228 = .ok (.bipush 25, 2) := by decide +kernel
theorem dX7_init_230 : decode cX7_init 230 = .ok (.bipush 101, 2) := by decide +kernel
theorem dX7_init_232 : decode cX7_init 232 = .ok (.iastore, 1) := by decide +kernel
theorem dX7_init_233 : decode cX7_init 233 = .ok (.dup, 1) := by decide +kernel
theorem dX7_init_234 : decode cX7_init 234 = .ok (.bipush 26, 2) := by decide +kernel
theorem dX7_init_236 : decode cX7_init 236 = .ok (.bipush 109, 2) := by decide +kernel
theorem dX7_init_238 : decode cX7_init 238 = .ok (.iastore, 1) := by decide +kernel
theorem dX7_init_239 : decode cX7_init 239 = .ok (.dup, 1) := by decide +kernel
theorem dX7_init_240 : decode cX7_init 240 = .ok (.bipush 27, 2) := by decide +kernel
theorem dX7_init_242 : decode cX7_init 242 = .ok (.bipush 111, 2) := by decide +kernel
theorem dX7_init_244 : decode cX7_init 244 = .ok (.iastore, 1) := by decide +kernel
theorem dX7_init_245 : decode cX7_init 245 = .ok (.dup, 1) := by decide +kernel
theorem dX7_init_246 : decode cX7_init 246 = .ok (.bipush 28, 2) := by decide +kernel
theorem dX7_init_248 : decode cX7_init 248 = .ok (.bipush 110, 2) := by decide +kernel
theorem dX7_init_250 : decode cX7_init 250 = .ok (.iastore, 1) := by decide +kernel
theorem dX7_init_251 : decode cX7_init 251 = .ok (.dup, 1) := by decide +kernel
theorem dX7_init_252 : decode cX7_init 252 = .ok (.bipush 29, 2) := by decide +kernel
theorem dX7_init_254 : decode cX7_init 254 = .ok (.bipush 101, 2) := by decide +kernel
theorem dX7_init_256 : decode cX7_init 256 = .ok (.iastore, 1) := by decide +kernel
theorem dX7_init_257 : decode cX7_init 257 = .ok (.dup, 1) := by decide +kernel
theorem dX7_init_258 : decode cX7_init 258 = .ok (.bipush 30, 2) := by decide +kernel
theorem dX7_init_260 : decode cX7_init 260 = .ok (.bipush 121, 2) := by decide +kernel
theorem dX7_init_262 : decode cX7_init 262 = .ok (.iastore, 1) := by decide +kernel
theorem dX7_init_263 : decode cX7_init 263 = .ok (.dup, 1) := by decide +kernel
theorem dX7_init_264 : decode cX7_init 264 = .ok (.bipush 31, 2) := by decide +kernel
theorem dX7_init_266 : decode cX7_init 266 = .ok (.bipush 116, 2) := by decide +kernel
theorem dX7_init_268 : decode cX7_init 268 = .ok (.iastore, 1) := by decide +kernel
theorem dX7_init_269 : decode cX7_init 269 = .ok (.dup, 1) := by decide +kernel
theorem dX7_init_270 : decode cX7_init 270 = .ok (.bipush 32, 2) := by decide +kernel
theorem dX7_init_272 : decode cX7_init 272 = .ok (.bipush 114, 2) := by decide +kernel
theorem dX7_init_274 : decode cX7_init 274 = .ok (.iastore, 1) := by decide +kernel
theorem dX7_init_275 : decode cX7_init 275 = .ok (.dup, 1) := by decide +kernel
theorem dX7_init_276 : decode cX7_init 276 = .ok (.bipush 33, 2) := by decide +kernel
theorem dX7_init_278 : decode cX7_init 278 = .ok (.bipush 97, 2) := by decide +kernel
theorem dX7_init_280 : decode cX7_init 280 = .ok (.iastore, 1) := by decide +kernel
theorem dX7_init_281 : decode cX7_init 281 = .ok (.dup, 1) := by decide +kernel
theorem dX7_init_282 : decode cX7_init 282 = .ok (.bipush 34, 2) := by decide +kernel
theorem dX7_init_284 : decode cX7_init 284 = .ok (.bipush 100, 2) := by decide +kernel
theorem dX7_init_286 : decode cX7_init 286 = .ok (.iastore, 1) := by decide +kernel
theorem dX7_init_287 : decode cX7_init 287 = .ok (.dup, 1) := by decide +kernel
theorem dX7_init_288 : decode cX7_init 288 = .ok (.bipush 35, 2) := by decide +kernel
theorem dX7_init_290 : decode cX7_init 290 = .ok (.bipush 101, 2) := by decide +kernel
theorem dX7_init_292 : decode cX7_init 292 = .ok (.iastore, 1) := by decide +kernel
theorem dX7_init_293 : decode cX7_init 293 = .ok (.putfield 22, 3) := by decide +kernel
theorem dX7_init_296 : decode cX7_init 296 = .ok (.aload_n 0, 1) := by decide +kernel
theorem dX7_init_297 : decode cX7_init 297 = .ok (.bipush 24, 2) := by decide +kernel
theorem dX7_init_299 : decode cX7_init 299 = .ok (.newarray .int, 2) := by decide +kernel
theorem dX7_init_301 : decode cX7_init 301 = .ok (.putfield 25, 3) := by decide +kernel
theorem dX7_init_304 : decode cX7_init 304 = .ok (.aload_n 0, 1) := by decide +kernel
theorem dX7_init_305 : decode cX7_init 305 = .ok (.sipush 420, 3) := by decide +kernel
theorem dX7_init_308 : decode cX7_init 308 = .ok (.newarray .int, 2) := by decide +kernel
theorem dX7_init_310 : decode cX7_init 310 = .ok (.putfield 28, 3) := by decide +kernel
theorem dX7_init_313 : decode cX7_init 313 = .ok (.aload_n 0, 1) := by decide +kernel
theorem dX7_init_314 : decode cX7_init 314 = .ok (.iconst 2, 1) := by decide +kernel
theorem dX7_init_315 : decode cX7_init 315 = .ok (.newarray .boolean, 2) := by decide +kernel
theorem dX7_init_317 : decode cX7_init 317 = .ok (.putfield 31, 3) := by decide +kernel
theorem dX7_init_320 : decode cX7_init 320 = .ok (.aload_n 0, 1) := by decide +kernel
theorem dX7_init_321 : decode cX7_init 321 = .ok (.iconst 4, 1) := by decide +kernel
theorem dX7_init_322 : decode cX7_init 322 = .ok (.newarray .int, 2) := by decide +kernel
theorem dX7_init_324 : decode cX7_init 324 = .ok (.dup, 1) := by decide +kernel
theorem dX7_init_325 : decode cX7_init 325 = .ok (.iconst 0, 1) := by decide +kernel
theorem dX7_init_326 : decode cX7_init 326 = .ok (.bipush (-4), 2) := by decide +kernel
theorem dX7_init_328 : decode cX7_init 328 = .ok (.iastore, 1) := by decide +kernel
theorem dX7_init_329 : decode cX7_init 329 = .ok (.dup, 1) := by decide +kernel
theorem dX7_init_330 : decode cX7_init 330 = .ok (.iconst 1, 1) := by decide +kernel
theorem dX7_init_331 : decode cX7_init 331 = .ok (.bipush (-4), 2) := by decide +kernel
theorem dX7_init_333 : decode cX7_init 333 = .ok (.iastore, 1) := by decide +kernel
theorem dX7_init_334 : decode cX7_init 334 = .ok (.dup, 1) := by decide +kernel
theorem dX7_init_335 : decode cX7_init 335 = .ok (.iconst 2, 1) := by decide +kernel
theorem dX7_init_336 : decode cX7_init 336 = .ok (.bipush (-4), 2) := by decide +kernel
theorem dX7_init_338 : decode cX7_init 338 = .ok (.iastore, 1) := by decide +kernel
theorem dX7_init_339 : decode cX7_init 339 = .ok (.dup, 1) := by decide +kernel
theorem dX7_init_340 : decode cX7_init 340 = .ok (.iconst 3, 1) := by decide +kernel
theorem dX7_init_341 : decode cX7_init 341 = .ok (.bipush (-4), 2) := by decide +kernel
theorem dX7_init_343 : decode cX7_init 343 = .ok (.iastore, 1) := by decide +kernel
theorem dX7_init_344 : decode cX7_init 344 = .ok (.putfield 35, 3) := by decide +kernel
theorem dX7_init_347 : decode cX7_init 347 = .ok (.aload_n 0, 1) := by decide +kernel
theorem dX7_init_348 : decode cX7_init 348 = .ok (.iconst 4, 1) := by decide +kernel
theorem dX7_init_349 : decode cX7_init 349 = .ok (.newarray .int, 2) := by decide +kernel
theorem dX7_init_351 : decode cX7_init 351 = .ok (.putfield 38, 3) := by decide +kernel
theorem dX7_init_354 : decode cX7_init 354 = .ok (.aload_n 0, 1) := by decide +kernel
theorem dX7_init_355 : decode cX7_init 355 = .ok (.sipush 160, 3) := by decide +kernel
theorem dX7_init_358 : decode cX7_init 358 = .ok (.newarray .int, 2) := by decide +kernel
theorem dX7_init_360 : decode cX7_init 360 = .ok (.putfield 41, 3) := by decide +kernel
theorem dX7_init_363 : decode cX7_init 363 = .ok (.return_, 1) := by decide +kernel
theorem dX7_in_0 : decode cX7_in 0 = .ok (.lload_n 0, 1) := by decide +kernel
theorem dX7_in_1 : decode cX7_in 1 = .ok (.lload_n 2, 1) := by decide +kernel
theorem dX7_in_2 : decode cX7_in 2 = .ok (.lcmp, 1) := by decide +kernel
theorem dX7_in_3 : decode cX7_in 3 = .ok (.ifCond .lt 14, 3) := by decide +kernel
theorem dX7_in_6 : decode cX7_in 6 = .ok (.lload_n 0, 1) := by decide +kernel
theorem dX7_in_7 : decode cX7_in 7 = .ok (.lload 4, 2) := by decide +kernel
theorem dX7_in_9 : decode cX7_in 9 = .ok (.lcmp, 1) := by decide +kernel
theorem dX7_in_10 : decode cX7_in 10 = .ok (.ifCond .gt 7, 3) := by decide +kernel
theorem dX7_in_13 : decode cX7_in 13 = .ok (.iconst 1, 1) := by decide +kernel
theorem dX7_in_14 : decode cX7_in 14 = .ok (.goto 4, 3) := by decide +kernel
theorem dX7_in_17 : decode cX7_in 17 = .ok (.iconst 0, 1) := by decide +kernel
theorem dX7_in_18 : decode cX7_in 18 = .ok (.ireturn, 1) := by decide +kernel
set_option maxRecDepth 20000 in
theorem ggX7_feed_X7_in : GoodIn wsX7_feed wsX7_in := goodIn_r _ [7] (by decide +kernel) (by decide +kernel)
set_option maxRecDepth 20000 in
theorem gX7_feed_X7_in : GoodIn wsX7_feed (va_wsS RX7 46 yX7_in wsX7_in) := goodIn_app (goodIn_of _ (by decide +kernel)) ggX7_feed_X7_in
theorem dX7_feed_0 : decode cX7_feed 0 = .ok (.iload_n 1, 1) := by decide +kernel
theorem dX7_feed_1 : decode cX7_feed 1 = .ok (.i2l, 1) := by decide +kernel
theorem dX7_feed_2 : decode cX7_feed 2 = .ok (.lconst 0, 1) := by decide +kernel
theorem dX7_feed_3 : decode cX7_feed 3 = .ok (.ldc2_w 44, 3) := by decide +kernel
theorem dX7_feed_6 : decode cX7_feed 6 = .ok (.invokestatic 46, 3) := by decide +kernel
theorem dX7_feed_9 : decode cX7_feed 9 = .ok (.ifCond .ne 5, 3) := by decide +kernel
theorem dX7_feed_12 : decode cX7_feed 12 = .ok (.iconst (-1), 1) := by decide +kernel
theorem dX7_feed_13 : decode cX7_feed 13 = .ok (.ireturn, 1) := by decide +kernel
theorem dX7_feed_14 : decode cX7_feed 14 = .ok (.aload_n 0, 1) := by decide +kernel
theorem dX7_feed_15 : decode cX7_feed 15 = .ok (.getfield 50, 3) := by decide +kernel
theorem dX7_feed_18 : decode cX7_feed 18 = .ok (.sipush 160, 3) := by decide +kernel
theorem dX7_feed_21 : decode cX7_feed 21 = .ok (.if_icmp .ne 6, 3) := by decide +kernel
theorem dX7_feed_24 : decode cX7_feed 24 = .ok (.bipush (-3), 2) := by decide +kernel
theorem dX7_feed_26 : decode cX7_feed 26 = .ok (.ireturn, 1) := by decide +kernel
theorem dX7_feed_27 : decode cX7_feed 27 = .ok (.aload_n 0, 1) := by decide +kernel
theorem dX7_feed_28 : decode cX7_feed 28 = .ok (.getfield 16, 3) := by decide +kernel
theorem dX7_feed_31 : decode cX7_feed 31 = .ok (.aload_n 0, 1) := by decide +kernel
theorem dX7_feed_32 : decode cX7_feed 32 = .ok (.getfield 50, 3) := by decide +kernel
theorem dX7_feed_35 : decode cX7_feed 35 = .ok (.iload_n 1, 1) := by decide +kernel
theorem dX7_feed_36 : decode cX7_feed 36 = .ok (.iastore, 1) := by decide +kernel
theorem dX7_feed_37 : decode cX7_feed 37 = .ok (.aload_n 0, 1) := by decide +kernel
theorem dX7_feed_38 : decode cX7_feed 38 = .ok (.dup, 1) := by decide +kernel
theorem dX7_feed_39 : decode cX7_feed 39 = .ok (.getfield 50, 3) := by decide +kernel
theorem dX7_feed_42 : decode cX7_feed 42 = .ok (.iconst 1, 1) := by decide +kernel
theorem dX7_feed_43 : decode cX7_feed 43 = .ok (.iadd, 1) := by decide +kernel
theorem dX7_feed_44 : decode cX7_feed 44 = .ok (.putfield 50, 3) := by decide +kernel
theorem dX7_feed_47 : decode cX7_feed 47 = .ok (.aload_n 0, 1) := by decide +kernel
theorem dX7_feed_48 : decode cX7_feed 48 = .ok (.getfield 50, 3) := by decide +kernel
theorem dX7_feed_51 : decode cX7_feed 51 = .ok (.ireturn, 1) := by decide +kernel
set_option maxRecDepth 20000 in
theorem ggX7_end_X7_in : GoodIn wsX7_end wsX7_in := goodIn_r _ [5] (by decide +kernel) (by decide +kernel)
set_option maxRecDepth 20000 in
theorem gX7_end_X7_in : GoodIn wsX7_end (va_wsS RX7 46 yX7_in wsX7_in) := goodIn_app (goodIn_of _ (by decide +kernel)) ggX7_end_X7_in
theorem dX7_end_0 : decode cX7_end 0 = .ok (.iload_n 1, 1) := by decide +kernel
theorem dX7_end_1 : decode cX7_end 1 = .ok (.i2l, 1) := by decide +kernel
theorem dX7_end_2 : decode cX7_end 2 = .ok (.lconst 0, 1) := by decide +kernel
theorem dX7_end_3 : decode cX7_end 3 = .ok (.aload_n 0, 1) := by decide +kernel
theorem dX7_end_4 : decode cX7_end 4 = .ok (.getfield 50, 3) := by decide +kernel
theorem dX7_end_7 : decode cX7_end 7 = .ok (.i2l, 1) := by decide +kernel
theorem dX7_end_8 : decode cX7_end 8 = .ok (.invokestatic 46, 3) := by decide +kernel
theorem dX7_end_11 : decode cX7_end 11 = .ok (.ifCond .ne 5, 3) := by decide +kernel
theorem dX7_end_14 : decode cX7_end 14 = .ok (.iconst (-1), 1) := by decide +kernel
theorem dX7_end_15 : decode cX7_end 15 = .ok (.ireturn, 1) := by decide +kernel
theorem dX7_end_16 : decode cX7_end 16 = .ok (.aload_n 0, 1) := by decide +kernel
theorem dX7_end_17 : decode cX7_end 17 = .ok (.getfield 50, 3) := by decide +kernel
theorem dX7_end_20 : decode cX7_end 20 = .ok (.istore_n 2, 1) := by decide +kernel
theorem dX7_end_21 : decode cX7_end 21 = .ok (.aload_n 0, 1) := by decide +kernel
theorem dX7_end_22 : decode cX7_end 22 = .ok (.iload_n 1, 1) := by decide +kernel
theorem dX7_end_23 : decode cX7_end 23 = .ok (.putfield 50, 3) := by decide +kernel
theorem dX7_end_26 : decode cX7_end 26 = .ok (.iload_n 2, 1) := by decide +kernel
theorem dX7_end_27 : decode cX7_end 27 = .ok (.ireturn, 1) := by decide +kernel
theorem dX7_byteAt_0 : decode cX7_byteAt 0 = .ok (.iload_n 1, 1) := by decide +kernel
theorem dX7_byteAt_1 : decode cX7_byteAt 1 = .ok (.aload_n 0, 1) := by decide +kernel
theorem dX7_byteAt_2 : decode cX7_byteAt 2 = .ok (.getfield 50, 3) := by decide +kernel
theorem dX7_byteAt_5 : decode cX7_byteAt 5 = .ok (.if_icmp .ge 12, 3) := by decide +kernel
theorem dX7_byteAt_8 : decode cX7_byteAt 8 = .ok (.aload_n 0, 1) := by decide +kernel
theorem dX7_byteAt_9 : decode cX7_byteAt 9 = .ok (.getfield 16, 3) := by decide +kernel
theorem dX7_byteAt_12 : decode cX7_byteAt 12 = .ok (.iload_n 1, 1) := by decide +kernel
theorem dX7_byteAt_13 : decode cX7_byteAt 13 = .ok (.iaload, 1) := by decide +kernel
theorem dX7_byteAt_14 : decode cX7_byteAt 14 = .ok (.goto 5, 3) := by decide +kernel
theorem dX7_byteAt_17 : decode cX7_byteAt 17 = .ok (.bipush (-4), 2) := by decide +kernel
theorem dX7_byteAt_19 : decode cX7_byteAt 19 = .ok (.ireturn, 1) := by decide +kernel
theorem dX7_fails_0 : decode cX7_fails 0 = .ok (.aload_n 0, 1) := by decide +kernel
theorem dX7_fails_1 : decode cX7_fails 1 = .ok (.getfield 54, 3) := by decide +kernel
theorem dX7_fails_4 : decode cX7_fails 4 = .ok (.ifCond .ne 16, 3) := by decide +kernel
theorem dX7_fails_7 : decode cX7_fails 7 = .ok (.aload_n 0, 1) := by decide +kernel
theorem dX7_fails_8 : decode cX7_fails 8 = .ok (.iload_n 1, 1) := by decide +kernel
theorem dX7_fails_9 : decode cX7_fails 9 = .ok (.putfield 54, 3) := by decide +kernel
theorem dX7_fails_12 : decode cX7_fails 12 = .ok (.aload_n 0, 1) := by decide +kernel
theorem dX7_fails_13 : decode cX7_fails 13 = .ok (.aload_n 0, 1) := by decide +kernel
theorem dX7_fails_14 : decode cX7_fails 14 = .ok (.getfield 57, 3) := by decide +kernel
theorem dX7_fails_17 : decode cX7_fails 17 = .ok (.putfield 60, 3) := by decide +kernel
theorem dX7_fails_20 : decode cX7_fails 20 = .ok (.return_, 1) := by decide +kernel
set_option maxRecDepth 20000 in
theorem ggX7_nameHere_X7_byteAt : GoodIn wsX7_nameHere wsX7_byteAt := goodIn_r _ [10, 11, 12, 13, 14, 15, 16, 17, 18, 19, 20, 21, 22, 23, 24, 25, 26, 27, 28, 29, 30, 31, 32, 33, 34, 35, 36, 37, 38, 39, 40, 41, 42, 43, 44, 45, 46] (by decide +kernel) (by decide +kernel)
set_option maxRecDepth 20000 in
theorem gX7_nameHere_X7_byteAt : GoodIn wsX7_nameHere (wsV RX7 69 RX7 yX7_byteAt wsX7_byteAt) := goodIn_app (goodIn_of _ (by decide +kernel)) ggX7_nameHere_X7_byteAt
theorem dX7_nameHere_0 : decode cX7_nameHere 0 = .ok (.iconst 0, 1) := by decide +kernel
theorem dX7_nameHere_1 : decode cX7_nameHere 1 = .ok (.istore_n 1, 1) := by decide +kernel
theorem dX7_nameHere_2 : decode cX7_nameHere 2 = .ok (.iload_n 1, 1) := by decide +kernel
theorem dX7_nameHere_3 : decode cX7_nameHere 3 = .ok (.bipush 7, 2) := by decide +kernel
theorem dX7_nameHere_5 : decode cX7_nameHere 5 = .ok (.if_icmp .ge 113, 3) := by decide +kernel
theorem dX7_nameHere_8 : decode cX7_nameHere 8 = .ok (.aload_n 0, 1) := by decide +kernel
theorem dX7_nameHere_9 : decode cX7_nameHere 9 = .ok (.getfield 63, 3) := by decide +kernel
theorem dX7_nameHere_12 : decode cX7_nameHere 12 = .ok (.iconst 1, 1) := by decide +kernel
theorem dX7_nameHere_13 : decode cX7_nameHere 13 = .ok (.if_icmp .ne 105, 3) := by decide +kernel
theorem dX7_nameHere_16 : decode cX7_nameHere 16 = .ok (.aload_n 0, 1) := by decide +kernel
theorem dX7_nameHere_17 : decode cX7_nameHere 17 = .ok (.getfield 66, 3) := by decide +kernel
theorem dX7_nameHere_20 : decode cX7_nameHere 20 = .ok (.aload_n 0, 1) := by decide +kernel
theorem dX7_nameHere_21 : decode cX7_nameHere 21 = .ok (.getfield 57, 3) := by decide +kernel
theorem dX7_nameHere_24 : decode cX7_nameHere 24 = .ok (.isub, 1) := by decide +kernel
theorem dX7_nameHere_25 : decode cX7_nameHere 25 = .ok (.aload_n 0, 1) := by decide +kernel
theorem dX7_nameHere_26 : decode cX7_nameHere 26 = .ok (.getfield 19, 3) := by decide +kernel
theorem dX7_nameHere_29 : decode cX7_nameHere 29 = .ok (.iload_n 1, 1) := by decide +kernel
theorem dX7_nameHere_30 : decode cX7_nameHere 30 = .ok (.iconst 1, 1) := by decide +kernel
theorem dX7_nameHere_31 : decode cX7_nameHere 31 = .ok (.iadd, 1) := by decide +kernel
theorem dX7_nameHere_32 : decode cX7_nameHere 32 = .ok (.iaload, 1) := by decide +kernel
theorem dX7_nameHere_33 : decode cX7_nameHere 33 = .ok (.aload_n 0, 1) := by decide +kernel
theorem dX7_nameHere_34 : decode cX7_nameHere 34 = .ok (.getfield 19, 3) := by decide +kernel
theorem dX7_nameHere_37 : decode cX7_nameHere 37 = .ok (.iload_n 1, 1) := by decide +kernel
theorem dX7_nameHere_38 : decode cX7_nameHere 38 = .ok (.iaload, 1) := by decide +kernel
theorem dX7_nameHere_39 : decode cX7_nameHere 39 = .ok (.isub, 1) := by decide +kernel
theorem dX7_nameHere_40 : decode cX7_nameHere 40 = .ok (.if_icmp .ne 7, 3) := by decide +kernel
theorem dX7_nameHere_43 : decode cX7_nameHere 43 = .ok (.iconst 1, 1) := by decide +kernel
theorem dX7_nameHere_44 : decode cX7_nameHere 44 = .ok (.goto 4, 3) := by decide +kernel
theorem dX7_nameHere_47 : decode cX7_nameHere 47 = .ok (.iconst 0, 1) := by decide +kernel
theorem dX7_nameHere_48 : decode cX7_nameHere 48 = .ok (.istore_n 2, 1) := by decide +kernel
theorem dX7_nameHere_49 : decode cX7_nameHere 49 = .ok (.iconst 0, 1) := by decide +kernel
theorem dX7_nameHere_50 : decode cX7_nameHere 50 = .ok (.istore_n 3, 1) := by decide +kernel
theorem dX7_nameHere_51 : decode cX7_nameHere 51 = .ok (.iload_n 2, 1) := by decide +kernel
theorem dX7_nameHere_52 : decode cX7_nameHere 52 = .ok (.ifCond .eq 54, 3) := by decide +kernel
theorem dX7_nameHere_55 : decode cX7_nameHere 55 = .ok (.iload_n 3, 1) := by decide +kernel
theorem dX7_nameHere_56 : decode cX7_nameHere 56 = .ok (.aload_n 0, 1) := by decide +kernel
theorem dX7_nameHere_57 : decode cX7_nameHere 57 = .ok (.getfield 66, 3) := by decide +kernel
theorem dX7_nameHere_60 : decode cX7_nameHere 60 = .ok (.aload_n 0, 1) := by decide +kernel
theorem dX7_nameHere_61 : decode cX7_nameHere 61 = .ok (.getfield 57, 3) := by decide +kernel
theorem dX7_nameHere_64 : decode cX7_nameHere 64 = .ok (.isub, 1) := by decide +kernel
theorem dX7_nameHere_65 : decode cX7_nameHere 65 = .ok (.if_icmp .ge 41, 3) := by decide +kernel
theorem dX7_nameHere_68 : decode cX7_nameHere 68 = .ok (.aload_n 0, 1) := by decide +kernel
theorem dX7_nameHere_69 : decode cX7_nameHere 69 = .ok (.aload_n 0, 1) := by decide +kernel
theorem dX7_nameHere_70 : decode cX7_nameHere 70 = .ok (.getfield 57, 3) := by decide +kernel
theorem dX7_nameHere_73 : decode cX7_nameHere 73 = .ok (.iload_n 3, 1) := by decide +kernel
theorem dX7_nameHere_74 : decode cX7_nameHere 74 = .ok (.iadd, 1) := by decide +kernel
theorem dX7_nameHere_75 : decode cX7_nameHere 75 = .ok (.invokevirtual 69, 3) := by decide +kernel
theorem dX7_nameHere_78 : decode cX7_nameHere 78 = .ok (.aload_n 0, 1) := by decide +kernel
theorem dX7_nameHere_79 : decode cX7_nameHere 79 = .ok (.getfield 22, 3) := by decide +kernel
theorem dX7_nameHere_82 : decode cX7_nameHere 82 = .ok (.aload_n 0, 1) := by decide +kernel
theorem dX7_nameHere_83 : decode cX7_nameHere 83 = .ok (.getfield 19, 3) := by decide +kernel
theorem dX7_nameHere_86 : decode cX7_nameHere 86 = .ok (.iload_n 1, 1) := by decide +kernel
theorem dX7_nameHere_87 : decode cX7_nameHere 87 = .ok (.iaload, 1) := by decide +kernel
theorem dX7_nameHere_88 : decode cX7_nameHere 88 = .ok (.iload_n 3, 1) := by decide +kernel
theorem dX7_nameHere_89 : decode cX7_nameHere 89 = .ok (.iadd, 1) := by decide +kernel
theorem dX7_nameHere_90 : decode cX7_nameHere 90 = .ok (.iaload, 1) := by decide +kernel
theorem dX7_nameHere_91 : decode cX7_nameHere 91 = .ok (.if_icmp .ne 7, 3) := by decide +kernel
theorem dX7_nameHere_94 : decode cX7_nameHere 94 = .ok (.iconst 1, 1) := by decide +kernel
theorem dX7_nameHere_95 : decode cX7_nameHere 95 = .ok (.goto 4, 3) := by decide +kernel
theorem dX7_nameHere_98 : decode cX7_nameHere 98 = .ok (.iconst 0, 1) := by decide +kernel
theorem dX7_nameHere_99 : decode cX7_nameHere 99 = .ok (.istore_n 2, 1) := by decide +kernel
theorem dX7_nameHere_100 : decode cX7_nameHere 100 = .ok (.iinc 3 1, 3) := by decide +kernel
theorem dX7_nameHere_103 : decode cX7_nameHere 103 = .ok (.goto (-52), 3) := by decide +kernel
theorem dX7_nameHere_106 : decode cX7_nameHere 106 = .ok (.iload_n 2, 1) := by decide +kernel
theorem dX7_nameHere_107 : decode cX7_nameHere 107 = .ok (.ifCond .eq 5, 3) := by decide +kernel
theorem dX7_nameHere_110 : decode cX7_nameHere 110 = .ok (.iload_n 1, 1) := by decide +kernel
theorem dX7_nameHere_111 : decode cX7_nameHere 111 = .ok (.ireturn, 1) := by decide +kernel
theorem dX7_nameHere_112 : decode cX7_nameHere 112 = .ok (.iinc 1 1, 3) := by decide +kernel
theorem dX7_nameHere_115 : decode cX7_nameHere 115 = .ok (.goto (-113), 3) := by decide +kernel
theorem dX7_nameHere_118 : decode cX7_nameHere 118 = .ok (.bipush (-4), 2) := by decide +kernel
theorem dX7_nameHere_120 : decode cX7_nameHere 120 = .ok (.ireturn, 1) := by decide +kernel
set_option maxRecDepth 20000 in
theorem ggX7_step_X7_byteAt : GoodIn wsX7_step wsX7_byteAt := goodIn_r _ [14, 15, 16, 25, 26, 27, 28, 29, 30, 31, 32, 33, 34, 35, 36, 37, 38, 39, 40, 41, 42, 43, 44, 45, 46, 47, 48, 49, 50, 51, 52, 53, 54, 55, 56, 57, 58] (by decide +kernel) (by decide +kernel)
set_option maxRecDepth 20000 in
theorem gX7_step_X7_byteAt : GoodIn wsX7_step (wsV RX7 69 RX7 yX7_byteAt wsX7_byteAt) := goodIn_app (goodIn_of _ (by decide +kernel)) ggX7_step_X7_byteAt
set_option maxRecDepth 20000 in
theorem ggX7_step_X7_in : GoodIn wsX7_step wsX7_in := goodIn_r _ [19] (by decide +kernel) (by decide +kernel)
set_option maxRecDepth 20000 in
theorem gX7_step_X7_in : GoodIn wsX7_step (va_wsS RX7 46 yX7_in wsX7_in) := goodIn_app (goodIn_of _ (by decide +kernel)) ggX7_step_X7_in
set_option maxRecDepth 20000 in
theorem ggX7_step_X7_fails : GoodIn wsX7_step wsX7_fails := goodIn_r _ [23, 1, 3, 24, 25, 26, 27, 28, 29, 30, 31, 32, 33, 34, 35, 36, 37, 38, 39, 40, 41, 42, 43, 44, 45, 46, 47, 48, 49, 50, 51, 52, 53, 54, 55, 56, 57, 58] (by decide +kernel) (by decide +kernel)
set_option maxRecDepth 20000 in
theorem gX7_step_X7_fails : GoodIn wsX7_step (wsV RX7 84 RX7 yX7_fails wsX7_fails) := goodIn_app (goodIn_of _ (by decide +kernel)) ggX7_step_X7_fails
theorem dX7_step_0 : decode cX7_step 0 = .ok (.aload_n 0, 1) := by decide +kernel
theorem dX7_step_1 : decode cX7_step 1 = .ok (.getfield 54, 3) := by decide +kernel
theorem dX7_step_4 : decode cX7_step 4 = .ok (.ifCond .le 4, 3) := by decide +kernel
theorem dX7_step_7 : decode cX7_step 7 = .ok (.return_, 1) := by decide +kernel
theorem dX7_step_8 : decode cX7_step 8 = .ok (.aload_n 0, 1) := by decide +kernel
theorem dX7_step_9 : decode cX7_step 9 = .ok (.aload_n 0, 1) := by decide +kernel
theorem dX7_step_10 : decode cX7_step 10 = .ok (.getfield 66, 3) := by decide +kernel
theorem dX7_step_13 : decode cX7_step 13 = .ok (.invokevirtual 69, 3) := by decide +kernel
theorem dX7_step_16 : decode cX7_step 16 = .ok (.bipush 32, 2) := by decide +kernel
theorem dX7_step_18 : decode cX7_step 18 = .ok (.if_icmp .ne 16, 3) := by decide +kernel
theorem dX7_step_21 : decode cX7_step 21 = .ok (.aload_n 0, 1) := by decide +kernel
theorem dX7_step_22 : decode cX7_step 22 = .ok (.dup, 1) := by decide +kernel
theorem dX7_step_23 : decode cX7_step 23 = .ok (.getfield 66, 3) := by decide +kernel
theorem dX7_step_26 : decode cX7_step 26 = .ok (.iconst 1, 1) := by decide +kernel
theorem dX7_step_27 : decode cX7_step 27 = .ok (.iadd, 1) := by decide +kernel
theorem dX7_step_28 : decode cX7_step 28 = .ok (.putfield 66, 3) := by decide +kernel
theorem dX7_step_31 : decode cX7_step 31 = .ok (.goto (-23), 3) := by decide +kernel
theorem dX7_step_34 : decode cX7_step 34 = .ok (.aload_n 0, 1) := by decide +kernel
theorem dX7_step_35 : decode cX7_step 35 = .ok (.aload_n 0, 1) := by decide +kernel
theorem dX7_step_36 : decode cX7_step 36 = .ok (.getfield 66, 3) := by decide +kernel
theorem dX7_step_39 : decode cX7_step 39 = .ok (.putfield 57, 3) := by decide +kernel
theorem dX7_step_42 : decode cX7_step 42 = .ok (.aload_n 0, 1) := by decide +kernel
theorem dX7_step_43 : decode cX7_step 43 = .ok (.aload_n 0, 1) := by decide +kernel
theorem dX7_step_44 : decode cX7_step 44 = .ok (.getfield 66, 3) := by decide +kernel
theorem dX7_step_47 : decode cX7_step 47 = .ok (.invokevirtual 69, 3) := by decide +kernel
theorem dX7_step_50 : decode cX7_step 50 = .ok (.istore_n 1, 1) := by decide +kernel
theorem dX7_step_51 : decode cX7_step 51 = .ok (.aload_n 0, 1) := by decide +kernel
theorem dX7_step_52 : decode cX7_step 52 = .ok (.iconst 0, 1) := by decide +kernel
theorem dX7_step_53 : decode cX7_step 53 = .ok (.putfield 73, 3) := by decide +kernel
theorem dX7_step_56 : decode cX7_step 56 = .ok (.iload_n 1, 1) := by decide +kernel
theorem dX7_step_57 : decode cX7_step 57 = .ok (.bipush (-4), 2) := by decide +kernel
theorem dX7_step_59 : decode cX7_step 59 = .ok (.if_icmp .ne 11, 3) := by decide +kernel
theorem dX7_step_62 : decode cX7_step 62 = .ok (.aload_n 0, 1) := by decide +kernel
theorem dX7_step_63 : decode cX7_step 63 = .ok (.iconst 0, 1) := by decide +kernel
theorem dX7_step_64 : decode cX7_step 64 = .ok (.putfield 63, 3) := by decide +kernel
theorem dX7_step_67 : decode cX7_step 67 = .ok (.goto 202, 3) := by decide +kernel
theorem dX7_step_70 : decode cX7_step 70 = .ok (.iload_n 1, 1) := by decide +kernel
theorem dX7_step_71 : decode cX7_step 71 = .ok (.i2l, 1) := by decide +kernel
theorem dX7_step_72 : decode cX7_step 72 = .ok (.ldc2_w 76, 3) := by decide +kernel
theorem dX7_step_75 : decode cX7_step 75 = .ok (.ldc2_w 78, 3) := by decide +kernel
theorem dX7_step_78 : decode cX7_step 78 = .ok (.invokestatic 46, 3) := by decide +kernel
theorem dX7_step_81 : decode cX7_step 81 = .ok (.ifCond .eq 45, 3) := by decide +kernel
theorem dX7_step_84 : decode cX7_step 84 = .ok (.aload_n 0, 1) := by decide +kernel
theorem dX7_step_85 : decode cX7_step 85 = .ok (.aload_n 0, 1) := by decide +kernel
theorem dX7_step_86 : decode cX7_step 86 = .ok (.getfield 66, 3) := by decide +kernel
theorem dX7_step_89 : decode cX7_step 89 = .ok (.invokevirtual 69, 3) := by decide +kernel
theorem dX7_step_92 : decode cX7_step 92 = .ok (.i2l, 1) := by decide +kernel
theorem dX7_step_93 : decode cX7_step 93 = .ok (.ldc2_w 76, 3) := by decide +kernel
theorem dX7_step_96 : decode cX7_step 96 = .ok (.ldc2_w 78, 3) := by decide +kernel
theorem dX7_step_99 : decode cX7_step 99 = .ok (.invokestatic 46, 3) := by decide +kernel
theorem dX7_step_102 : decode cX7_step 102 = .ok (.ifCond .eq 16, 3) := by decide +kernel
theorem dX7_step_105 : decode cX7_step 105 = .ok (.aload_n 0, 1) := by decide +kernel
theorem dX7_step_106 : decode cX7_step 106 = .ok (.dup, 1) := by decide +kernel
theorem dX7_step_107 : decode cX7_step 107 = .ok (.getfield 66, 3) := by decide +kernel
theorem dX7_step_110 : decode cX7_step 110 = .ok (.iconst 1, 1) := by decide +kernel
theorem dX7_step_111 : decode cX7_step 111 = .ok (.iadd, 1) := by decide +kernel
theorem dX7_step_112 : decode cX7_step 112 = .ok (.putfield 66, 3) := by decide +kernel
theorem dX7_step_115 : decode cX7_step 115 = .ok (.goto (-31), 3) := by decide +kernel
theorem dX7_step_118 : decode cX7_step 118 = .ok (.aload_n 0, 1) := by decide +kernel
theorem dX7_step_119 : decode cX7_step 119 = .ok (.iconst 1, 1) := by decide +kernel
theorem dX7_step_120 : decode cX7_step 120 = .ok (.putfield 63, 3) := by decide +kernel
theorem dX7_step_123 : decode cX7_step 123 = .ok (.goto 146, 3) := by decide +kernel
theorem dX7_step_126 : decode cX7_step 126 = .ok (.iload_n 1, 1) := by decide +kernel
theorem dX7_step_127 : decode cX7_step 127 = .ok (.i2l, 1) := by decide +kernel
theorem dX7_step_128 : decode cX7_step 128 = .ok (.ldc2_w 80, 3) := by decide +kernel
theorem dX7_step_131 : decode cX7_step 131 = .ok (.ldc2_w 82, 3) := by decide +kernel
theorem dX7_step_134 : decode cX7_step 134 = .ok (.invokestatic 46, 3) := by decide +kernel
theorem dX7_step_137 : decode cX7_step 137 = .ok (.ifCond .eq 106, 3) := by decide +kernel
theorem dX7_step_140 : decode cX7_step 140 = .ok (.aload_n 0, 1) := by decide +kernel
theorem dX7_step_141 : decode cX7_step 141 = .ok (.aload_n 0, 1) := by decide +kernel
theorem dX7_step_142 : decode cX7_step 142 = .ok (.getfield 66, 3) := by decide +kernel
theorem dX7_step_145 : decode cX7_step 145 = .ok (.invokevirtual 69, 3) := by decide +kernel
theorem dX7_step_148 : decode cX7_step 148 = .ok (.i2l, 1) := by decide +kernel
theorem dX7_step_149 : decode cX7_step 149 = .ok (.ldc2_w 80, 3) := by decide +kernel
theorem dX7_step_152 : decode cX7_step 152 = .ok (.ldc2_w 82, 3) := by decide +kernel
theorem dX7_step_155 : decode cX7_step 155 = .ok (.invokestatic 46, 3) := by decide +kernel
theorem dX7_step_158 : decode cX7_step 158 = .ok (.ifCond .eq 59, 3) := by decide +kernel
theorem dX7_step_161 : decode cX7_step 161 = .ok (.aload_n 0, 1) := by decide +kernel
theorem dX7_step_162 : decode cX7_step 162 = .ok (.aload_n 0, 1) := by decide +kernel
theorem dX7_step_163 : decode cX7_step 163 = .ok (.getfield 66, 3) := by decide +kernel
theorem dX7_step_166 : decode cX7_step 166 = .ok (.aload_n 0, 1) := by decide +kernel
theorem dX7_step_167 : decode cX7_step 167 = .ok (.getfield 57, 3) := by decide +kernel
theorem dX7_step_170 : decode cX7_step 170 = .ok (.isub, 1) := by decide +kernel
theorem dX7_step_171 : decode cX7_step 171 = .ok (.iconst 2, 1) := by decide +kernel
theorem dX7_step_172 : decode cX7_step 172 = .ok (.if_icmp .ge 25, 3) := by decide +kernel
theorem dX7_step_175 : decode cX7_step 175 = .ok (.bipush 10, 2) := by decide +kernel
theorem dX7_step_177 : decode cX7_step 177 = .ok (.aload_n 0, 1) := by decide +kernel
theorem dX7_step_178 : decode cX7_step 178 = .ok (.getfield 73, 3) := by decide +kernel
theorem dX7_step_181 : decode cX7_step 181 = .ok (.imul, 1) := by decide +kernel
theorem dX7_step_182 : decode cX7_step 182 = .ok (.aload_n 0, 1) := by decide +kernel
theorem dX7_step_183 : decode cX7_step 183 = .ok (.aload_n 0, 1) := by decide +kernel
theorem dX7_step_184 : decode cX7_step 184 = .ok (.getfield 66, 3) := by decide +kernel
theorem dX7_step_187 : decode cX7_step 187 = .ok (.invokevirtual 69, 3) := by decide +kernel
theorem dX7_step_190 : decode cX7_step 190 = .ok (.iadd, 1) := by decide +kernel
theorem dX7_step_191 : decode cX7_step 191 = .ok (.bipush 48, 2) := by decide +kernel
theorem dX7_step_193 : decode cX7_step 193 = .ok (.isub, 1) := by decide +kernel
theorem dX7_step_194 : decode cX7_step 194 = .ok (.goto 7, 3) := by decide +kernel
theorem dX7_step_197 : decode cX7_step 197 = .ok (.aload_n 0, 1) := by decide +kernel
theorem dX7_step_198 : decode cX7_step 198 = .ok (.getfield 73, 3) := by decide +kernel
theorem dX7_step_201 : decode cX7_step 201 = .ok (.putfield 73, 3) := by decide +kernel
theorem dX7_step_204 : decode cX7_step 204 = .ok (.aload_n 0, 1) := by decide +kernel
theorem dX7_step_205 : decode cX7_step 205 = .ok (.dup, 1) := by decide +kernel
theorem dX7_step_206 : decode cX7_step 206 = .ok (.getfield 66, 3) := by decide +kernel
theorem dX7_step_209 : decode cX7_step 209 = .ok (.iconst 1, 1) := by decide +kernel
theorem dX7_step_210 : decode cX7_step 210 = .ok (.iadd, 1) := by decide +kernel
theorem dX7_step_211 : decode cX7_step 211 = .ok (.putfield 66, 3) := by decide +kernel
theorem dX7_step_214 : decode cX7_step 214 = .ok (.goto (-74), 3) := by decide +kernel
theorem dX7_step_217 : decode cX7_step 217 = .ok (.aload_n 0, 1) := by decide +kernel
theorem dX7_step_218 : decode cX7_step 218 = .ok (.iconst 2, 1) := by decide +kernel
theorem dX7_step_219 : decode cX7_step 219 = .ok (.putfield 63, 3) := by decide +kernel
theorem dX7_step_222 : decode cX7_step 222 = .ok (.aload_n 0, 1) := by decide +kernel
theorem dX7_step_223 : decode cX7_step 223 = .ok (.getfield 66, 3) := by decide +kernel
theorem dX7_step_226 : decode cX7_step 226 = .ok (.aload_n 0, 1) := by decide +kernel
theorem dX7_step_227 : decode cX7_step 227 = .ok (.getfield 57, 3) := by decide +kernel
theorem dX7_step_230 : decode cX7_step 230 = .ok (.isub, 1) := by decide +kernel
theorem dX7_step_231 : decode cX7_step 231 = .ok (.iconst 2, 1) := by decide +kernel
theorem dX7_step_232 : decode cX7_step 232 = .ok (.if_icmp .le 37, 3) := by decide +kernel
theorem dX7_step_235 : decode cX7_step 235 = .ok (.aload_n 0, 1) := by decide +kernel
theorem dX7_step_236 : decode cX7_step 236 = .ok (.iconst 1, 1) := by decide +kernel
theorem dX7_step_237 : decode cX7_step 237 = .ok (.invokevirtual 84, 3) := by decide +kernel
theorem dX7_step_240 : decode cX7_step 240 = .ok (.goto 29, 3) := by decide +kernel
theorem dX7_step_243 : decode cX7_step 243 = .ok (.aload_n 0, 1) := by decide +kernel
theorem dX7_step_244 : decode cX7_step 244 = .ok (.iconst 3, 1) := by decide +kernel
theorem dX7_step_245 : decode cX7_step 245 = .ok (.putfield 63, 3) := by decide +kernel
theorem dX7_step_248 : decode cX7_step 248 = .ok (.aload_n 0, 1) := by decide +kernel
theorem dX7_step_249 : decode cX7_step 249 = .ok (.dup, 1) := by decide +kernel
theorem dX7_step_250 : decode cX7_step 250 = .ok (.getfield 66, 3) := by decide +kernel
theorem dX7_step_253 : decode cX7_step 253 = .ok (.iconst 1, 1) := by decide +kernel
theorem dX7_step_254 : decode cX7_step 254 = .ok (.iadd, 1) := by decide +kernel
theorem dX7_step_255 : decode cX7_step 255 = .ok (.putfield 66, 3) := by decide +kernel
theorem dX7_step_258 : decode cX7_step 258 = .ok (.iload_n 1, 1) := by decide +kernel
theorem dX7_step_259 : decode cX7_step 259 = .ok (.bipush 59, 2) := by decide +kernel
theorem dX7_step_261 : decode cX7_step 261 = .ok (.if_icmp .eq 8, 3) := by decide +kernel
theorem dX7_step_264 : decode cX7_step 264 = .ok (.aload_n 0, 1) := by decide +kernel
theorem dX7_step_265 : decode cX7_step 265 = .ok (.iconst 1, 1) := by decide +kernel
theorem dX7_step_266 : decode cX7_step 266 = .ok (.invokevirtual 84, 3) := by decide +kernel
theorem dX7_step_269 : decode cX7_step 269 = .ok (.return_, 1) := by decide +kernel
set_option maxRecDepth 20000 in
theorem ggX7_other_X7_fails : GoodIn wsX7_other wsX7_fails := goodIn_r _ [8, 1, 9, 10, 29, 30, 31, 32, 33, 34, 35, 36, 37, 38, 39, 40, 41, 42, 43, 44, 45, 46, 47, 48, 49, 50, 51, 52, 53, 54, 55, 56, 57, 58, 59, 60, 61, 62] (by decide +kernel) (by decide +kernel)
set_option maxRecDepth 20000 in
theorem gX7_other_X7_fails : GoodIn wsX7_other (wsV RX7 84 RX7 yX7_fails wsX7_fails) := goodIn_app (goodIn_of _ (by decide +kernel)) ggX7_other_X7_fails
set_option maxRecDepth 20000 in
theorem ggX7_other_X7_in : GoodIn wsX7_other wsX7_in := goodIn_r _ [13] (by decide +kernel) (by decide +kernel)
set_option maxRecDepth 20000 in
theorem gX7_other_X7_in : GoodIn wsX7_other (va_wsS RX7 46 yX7_in wsX7_in) := goodIn_app (goodIn_of _ (by decide +kernel)) ggX7_other_X7_in
set_option maxRecDepth 20000 in
theorem ggX7_other_X7_step : GoodIn wsX7_other wsX7_step := goodIn_r _ [17, 1, 18, 9, 3, 2, 19, 20, 21, 22, 23, 24, 25, 7, 26, 27, 28, 11, 12, 13, 4, 5, 6, 8, 10, 29, 30, 31, 32, 33, 34, 35, 36, 37, 38, 39, 40, 41, 42, 43, 44, 45, 46, 47, 48, 49, 50, 51, 52, 53, 54, 55, 56, 57, 58, 59, 60, 61, 62] (by decide +kernel) (by decide +kernel)
set_option maxRecDepth 20000 in
theorem gX7_other_X7_step : GoodIn wsX7_other (wsV RX7 88 RX7 yX7_step wsX7_step) := goodIn_app (goodIn_of _ (by decide +kernel)) ggX7_other_X7_step
theorem dX7_other_0 : decode cX7_other 0 = .ok (.aload_n 0, 1) := by decide +kernel
theorem dX7_other_1 : decode cX7_other 1 = .ok (.getfield 54, 3) := by decide +kernel
theorem dX7_other_4 : decode cX7_other 4 = .ok (.ifCond .ne 16, 3) := by decide +kernel
theorem dX7_other_7 : decode cX7_other 7 = .ok (.aload_n 0, 1) := by decide +kernel
theorem dX7_other_8 : decode cX7_other 8 = .ok (.getfield 63, 3) := by decide +kernel
theorem dX7_other_11 : decode cX7_other 11 = .ok (.iconst 2, 1) := by decide +kernel
theorem dX7_other_12 : decode cX7_other 12 = .ok (.if_icmp .eq 8, 3) := by decide +kernel
theorem dX7_other_15 : decode cX7_other 15 = .ok (.aload_n 0, 1) := by decide +kernel
theorem dX7_other_16 : decode cX7_other 16 = .ok (.iconst 2, 1) := by decide +kernel
theorem dX7_other_17 : decode cX7_other 17 = .ok (.invokevirtual 84, 3) := by decide +kernel
theorem dX7_other_20 : decode cX7_other 20 = .ok (.aload_n 0, 1) := by decide +kernel
theorem dX7_other_21 : decode cX7_other 21 = .ok (.getfield 54, 3) := by decide +kernel
theorem dX7_other_24 : decode cX7_other 24 = .ok (.ifCond .ne 23, 3) := by decide +kernel
theorem dX7_other_27 : decode cX7_other 27 = .ok (.aload_n 0, 1) := by decide +kernel
theorem dX7_other_28 : decode cX7_other 28 = .ok (.getfield 73, 3) := by decide +kernel
theorem dX7_other_31 : decode cX7_other 31 = .ok (.i2l, 1) := by decide +kernel
theorem dX7_other_32 : decode cX7_other 32 = .ok (.iload_n 1, 1) := by decide +kernel
theorem dX7_other_33 : decode cX7_other 33 = .ok (.i2l, 1) := by decide +kernel
theorem dX7_other_34 : decode cX7_other 34 = .ok (.iload_n 2, 1) := by decide +kernel
theorem dX7_other_35 : decode cX7_other 35 = .ok (.i2l, 1) := by decide +kernel
theorem dX7_other_36 : decode cX7_other 36 = .ok (.invokestatic 46, 3) := by decide +kernel
theorem dX7_other_39 : decode cX7_other 39 = .ok (.ifCond .ne 8, 3) := by decide +kernel
theorem dX7_other_42 : decode cX7_other 42 = .ok (.aload_n 0, 1) := by decide +kernel
theorem dX7_other_43 : decode cX7_other 43 = .ok (.iconst 3, 1) := by decide +kernel
theorem dX7_other_44 : decode cX7_other 44 = .ok (.invokevirtual 84, 3) := by decide +kernel
theorem dX7_other_47 : decode cX7_other 47 = .ok (.aload_n 0, 1) := by decide +kernel
theorem dX7_other_48 : decode cX7_other 48 = .ok (.getfield 54, 3) := by decide +kernel
theorem dX7_other_51 : decode cX7_other 51 = .ok (.ifCond .ne 24, 3) := by decide +kernel
theorem dX7_other_54 : decode cX7_other 54 = .ok (.iload_n 3, 1) := by decide +kernel
theorem dX7_other_55 : decode cX7_other 55 = .ok (.ifCond .eq 20, 3) := by decide +kernel
theorem dX7_other_58 : decode cX7_other 58 = .ok (.iload_n 3, 1) := by decide +kernel
theorem dX7_other_59 : decode cX7_other 59 = .ok (.aload_n 0, 1) := by decide +kernel
theorem dX7_other_60 : decode cX7_other 60 = .ok (.getfield 73, 3) := by decide +kernel
theorem dX7_other_63 : decode cX7_other 63 = .ok (.ishr, 1) := by decide +kernel
theorem dX7_other_64 : decode cX7_other 64 = .ok (.iconst 1, 1) := by decide +kernel
theorem dX7_other_65 : decode cX7_other 65 = .ok (.iand, 1) := by decide +kernel
theorem dX7_other_66 : decode cX7_other 66 = .ok (.iconst 1, 1) := by decide +kernel
theorem dX7_other_67 : decode cX7_other 67 = .ok (.if_icmp .ne 8, 3) := by decide +kernel
theorem dX7_other_70 : decode cX7_other 70 = .ok (.aload_n 0, 1) := by decide +kernel
theorem dX7_other_71 : decode cX7_other 71 = .ok (.iconst 4, 1) := by decide +kernel
theorem dX7_other_72 : decode cX7_other 72 = .ok (.invokevirtual 84, 3) := by decide +kernel
theorem dX7_other_75 : decode cX7_other 75 = .ok (.aload_n 0, 1) := by decide +kernel
theorem dX7_other_76 : decode cX7_other 76 = .ok (.getfield 54, 3) := by decide +kernel
theorem dX7_other_79 : decode cX7_other 79 = .ok (.ifCond .ne 10, 3) := by decide +kernel
theorem dX7_other_82 : decode cX7_other 82 = .ok (.aload_n 0, 1) := by decide +kernel
theorem dX7_other_83 : decode cX7_other 83 = .ok (.getfield 73, 3) := by decide +kernel
theorem dX7_other_86 : decode cX7_other 86 = .ok (.goto 4, 3) := by decide +kernel
theorem dX7_other_89 : decode cX7_other 89 = .ok (.iload_n 1, 1) := by decide +kernel
theorem dX7_other_90 : decode cX7_other 90 = .ok (.istore 4, 2) := by decide +kernel
theorem dX7_other_92 : decode cX7_other 92 = .ok (.aload_n 0, 1) := by decide +kernel
theorem dX7_other_93 : decode cX7_other 93 = .ok (.invokevirtual 88, 3) := by decide +kernel
theorem dX7_other_96 : decode cX7_other 96 = .ok (.iload 4, 2) := by decide +kernel
theorem dX7_other_98 : decode cX7_other 98 = .ok (.ireturn, 1) := by decide +kernel
set_option maxRecDepth 20000 in
theorem ggX7_gooseHere_X7_other : GoodIn wsX7_gooseHere wsX7_other := goodIn_r _ [6, 7, 8, 9, 10, 11, 12, 5, 13, 14, 15, 16, 17, 18, 19, 20, 21, 22, 23, 24, 25, 26, 27, 28, 29, 30, 31, 32, 33, 34, 35, 36, 37, 38, 39, 40, 41, 42, 43, 44, 45, 46, 47, 48, 49, 50, 51, 52, 53, 54, 55, 56, 57, 58, 59, 60, 61, 62, 63, 64, 65, 66, 67] (by decide +kernel) (by decide +kernel)
set_option maxRecDepth 20000 in
theorem gX7_gooseHere_X7_other : GoodIn wsX7_gooseHere (wsV RX7 91 RX7 yX7_other wsX7_other) := goodIn_app (goodIn_of _ (by decide +kernel)) ggX7_gooseHere_X7_other
theorem dX7_gooseHere_0 : decode cX7_gooseHere 0 = .ok (.aload_n 0, 1) := by decide +kernel
theorem dX7_gooseHere_1 : decode cX7_gooseHere 1 = .ok (.iconst 0, 1) := by decide +kernel
theorem dX7_gooseHere_2 : decode cX7_gooseHere 2 = .ok (.iconst 2, 1) := by decide +kernel
theorem dX7_gooseHere_3 : decode cX7_gooseHere 3 = .ok (.iconst 0, 1) := by decide +kernel
theorem dX7_gooseHere_4 : decode cX7_gooseHere 4 = .ok (.invokevirtual 91, 3) := by decide +kernel
theorem dX7_gooseHere_7 : decode cX7_gooseHere 7 = .ok (.istore_n 1, 1) := by decide +kernel
theorem dX7_gooseHere_8 : decode cX7_gooseHere 8 = .ok (.aload_n 0, 1) := by decide +kernel
theorem dX7_gooseHere_9 : decode cX7_gooseHere 9 = .ok (.iload_n 1, 1) := by decide +kernel
theorem dX7_gooseHere_10 : decode cX7_gooseHere 10 = .ok (.aload_n 0, 1) := by decide +kernel
theorem dX7_gooseHere_11 : decode cX7_gooseHere 11 = .ok (.getfield 95, 3) := by decide +kernel
theorem dX7_gooseHere_14 : decode cX7_gooseHere 14 = .ok (.if_icmp .le 7, 3) := by decide +kernel
theorem dX7_gooseHere_17 : decode cX7_gooseHere 17 = .ok (.iload_n 1, 1) := by decide +kernel
theorem dX7_gooseHere_18 : decode cX7_gooseHere 18 = .ok (.goto 7, 3) := by decide +kernel
theorem dX7_gooseHere_21 : decode cX7_gooseHere 21 = .ok (.aload_n 0, 1) := by decide +kernel
theorem dX7_gooseHere_22 : decode cX7_gooseHere 22 = .ok (.getfield 95, 3) := by decide +kernel
theorem dX7_gooseHere_25 : decode cX7_gooseHere 25 = .ok (.putfield 95, 3) := by decide +kernel
theorem dX7_gooseHere_28 : decode cX7_gooseHere 28 = .ok (.iload_n 1, 1) := by decide +kernel
theorem dX7_gooseHere_29 : decode cX7_gooseHere 29 = .ok (.ireturn, 1) := by decide +kernel
set_option maxRecDepth 20000 in
theorem ggX7_readTrade_X7_other : GoodIn wsX7_readTrade wsX7_other := goodIn_r _ [9, 2, 3, 4, 10, 11, 12, 8, 13, 14, 15, 16, 17, 18, 19, 20, 21, 22, 23, 24, 25, 26, 27, 28, 29, 30, 31, 32, 33, 39, 40, 41, 42, 43, 44, 45, 46, 47, 48, 49, 50, 51, 52, 53, 54, 55, 56, 57, 58, 59, 60, 61, 62, 63, 64, 65, 66, 67, 68, 69, 70, 71, 72] (by decide +kernel) (by decide +kernel)
set_option maxRecDepth 20000 in
theorem gX7_readTrade_X7_other : GoodIn wsX7_readTrade (wsV RX7 91 RX7 yX7_other wsX7_other) := goodIn_app (goodIn_of _ (by decide +kernel)) ggX7_readTrade_X7_other
set_option maxRecDepth 20000 in
theorem ggX7_readTrade_X7_fails : GoodIn wsX7_readTrade wsX7_fails := goodIn_r _ [13, 2, 14, 15, 39, 40, 41, 42, 43, 44, 45, 46, 47, 48, 49, 50, 51, 52, 53, 54, 55, 56, 57, 58, 59, 60, 61, 62, 63, 64, 65, 66, 67, 68, 69, 70, 71, 72] (by decide +kernel) (by decide +kernel)
set_option maxRecDepth 20000 in
theorem gX7_readTrade_X7_fails : GoodIn wsX7_readTrade (wsV RX7 84 RX7 yX7_fails wsX7_fails) := goodIn_app (goodIn_of _ (by decide +kernel)) ggX7_readTrade_X7_fails
set_option maxRecDepth 20000 in
theorem ggX7_readTrade_X7_gooseHere : GoodIn wsX7_readTrade wsX7_gooseHere := goodIn_r _ [37, 38, 5, 6, 7, 8, 9, 2, 3, 4, 10, 11, 12, 13, 14, 15, 16, 17, 18, 19, 20, 21, 22, 23, 24, 25, 26, 27, 28, 29, 30, 31, 32, 33, 39, 40, 41, 42, 43, 44, 45, 46, 47, 48, 49, 50, 51, 52, 53, 54, 55, 56, 57, 58, 59, 60, 61, 62, 63, 64, 65, 66, 67, 68, 69, 70, 71, 72] (by decide +kernel) (by decide +kernel)
set_option maxRecDepth 20000 in
theorem gX7_readTrade_X7_gooseHere : GoodIn wsX7_readTrade (wsV RX7 98 RX7 yX7_gooseHere wsX7_gooseHere) := goodIn_app (goodIn_of _ (by decide +kernel)) ggX7_readTrade_X7_gooseHere
theorem dX7_readTrade_0 : decode cX7_readTrade 0 = .ok (.bipush 35, 2) := by decide +kernel
theorem dX7_readTrade_2 : decode cX7_readTrade 2 = .ok (.iconst 4, 1) := by decide +kernel
theorem dX7_readTrade_3 : decode cX7_readTrade 3 = .ok (.aload_n 0, 1) := by decide +kernel
theorem dX7_readTrade_4 : decode cX7_readTrade 4 = .ok (.getfield 13, 3) := by decide +kernel
theorem dX7_readTrade_7 : decode cX7_readTrade 7 = .ok (.bipush 59, 2) := by decide +kernel
theorem dX7_readTrade_9 : decode cX7_readTrade 9 = .ok (.iaload, 1) := by decide +kernel
theorem dX7_readTrade_10 : decode cX7_readTrade 10 = .ok (.imul, 1) := by decide +kernel
theorem dX7_readTrade_11 : decode cX7_readTrade 11 = .ok (.iadd, 1) := by decide +kernel
theorem dX7_readTrade_12 : decode cX7_readTrade 12 = .ok (.istore_n 1, 1) := by decide +kernel
theorem dX7_readTrade_13 : decode cX7_readTrade 13 = .ok (.aload_n 0, 1) := by decide +kernel
theorem dX7_readTrade_14 : decode cX7_readTrade 14 = .ok (.getfield 13, 3) := by decide +kernel
theorem dX7_readTrade_17 : decode cX7_readTrade 17 = .ok (.iload_n 1, 1) := by decide +kernel
theorem dX7_readTrade_18 : decode cX7_readTrade 18 = .ok (.aload_n 0, 1) := by decide +kernel
theorem dX7_readTrade_19 : decode cX7_readTrade 19 = .ok (.iconst 0, 1) := by decide +kernel
theorem dX7_readTrade_20 : decode cX7_readTrade 20 = .ok (.iconst 4, 1) := by decide +kernel
theorem dX7_readTrade_21 : decode cX7_readTrade 21 = .ok (.iconst 0, 1) := by decide +kernel
theorem dX7_readTrade_22 : decode cX7_readTrade 22 = .ok (.invokevirtual 91, 3) := by decide +kernel
theorem dX7_readTrade_25 : decode cX7_readTrade 25 = .ok (.iastore, 1) := by decide +kernel
theorem dX7_readTrade_26 : decode cX7_readTrade 26 = .ok (.aload_n 0, 1) := by decide +kernel
theorem dX7_readTrade_27 : decode cX7_readTrade 27 = .ok (.getfield 54, 3) := by decide +kernel
theorem dX7_readTrade_30 : decode cX7_readTrade 30 = .ok (.ifCond .ne 29, 3) := by decide +kernel
theorem dX7_readTrade_33 : decode cX7_readTrade 33 = .ok (.aload_n 0, 1) := by decide +kernel
theorem dX7_readTrade_34 : decode cX7_readTrade 34 = .ok (.getfield 63, 3) := by decide +kernel
theorem dX7_readTrade_37 : decode cX7_readTrade 37 = .ok (.iconst 2, 1) := by decide +kernel
theorem dX7_readTrade_38 : decode cX7_readTrade 38 = .ok (.if_icmp .ne 21, 3) := by decide +kernel
theorem dX7_readTrade_41 : decode cX7_readTrade 41 = .ok (.aload_n 0, 1) := by decide +kernel
theorem dX7_readTrade_42 : decode cX7_readTrade 42 = .ok (.getfield 73, 3) := by decide +kernel
theorem dX7_readTrade_45 : decode cX7_readTrade 45 = .ok (.aload_n 0, 1) := by decide +kernel
theorem dX7_readTrade_46 : decode cX7_readTrade 46 = .ok (.getfield 13, 3) := by decide +kernel
theorem dX7_readTrade_49 : decode cX7_readTrade 49 = .ok (.iload_n 1, 1) := by decide +kernel
theorem dX7_readTrade_50 : decode cX7_readTrade 50 = .ok (.iaload, 1) := by decide +kernel
theorem dX7_readTrade_51 : decode cX7_readTrade 51 = .ok (.if_icmp .ne 8, 3) := by decide +kernel
theorem dX7_readTrade_54 : decode cX7_readTrade 54 = .ok (.aload_n 0, 1) := by decide +kernel
theorem dX7_readTrade_55 : decode cX7_readTrade 55 = .ok (.iconst 3, 1) := by decide +kernel
theorem dX7_readTrade_56 : decode cX7_readTrade 56 = .ok (.invokevirtual 84, 3) := by decide +kernel
theorem dX7_readTrade_59 : decode cX7_readTrade 59 = .ok (.aload_n 0, 1) := by decide +kernel
theorem dX7_readTrade_60 : decode cX7_readTrade 60 = .ok (.getfield 13, 3) := by decide +kernel
theorem dX7_readTrade_63 : decode cX7_readTrade 63 = .ok (.iload_n 1, 1) := by decide +kernel
theorem dX7_readTrade_64 : decode cX7_readTrade 64 = .ok (.iconst 1, 1) := by decide +kernel
theorem dX7_readTrade_65 : decode cX7_readTrade 65 = .ok (.iadd, 1) := by decide +kernel
theorem dX7_readTrade_66 : decode cX7_readTrade 66 = .ok (.aload_n 0, 1) := by decide +kernel
theorem dX7_readTrade_67 : decode cX7_readTrade 67 = .ok (.iconst 0, 1) := by decide +kernel
theorem dX7_readTrade_68 : decode cX7_readTrade 68 = .ok (.iconst 4, 1) := by decide +kernel
theorem dX7_readTrade_69 : decode cX7_readTrade 69 = .ok (.iconst 0, 1) := by decide +kernel
theorem dX7_readTrade_70 : decode cX7_readTrade 70 = .ok (.invokevirtual 91, 3) := by decide +kernel
theorem dX7_readTrade_73 : decode cX7_readTrade 73 = .ok (.iastore, 1) := by decide +kernel
theorem dX7_readTrade_74 : decode cX7_readTrade 74 = .ok (.aload_n 0, 1) := by decide +kernel
theorem dX7_readTrade_75 : decode cX7_readTrade 75 = .ok (.getfield 13, 3) := by decide +kernel
theorem dX7_readTrade_78 : decode cX7_readTrade 78 = .ok (.iload_n 1, 1) := by decide +kernel
theorem dX7_readTrade_79 : decode cX7_readTrade 79 = .ok (.iconst 2, 1) := by decide +kernel
theorem dX7_readTrade_80 : decode cX7_readTrade 80 = .ok (.iadd, 1) := by decide +kernel
theorem dX7_readTrade_81 : decode cX7_readTrade 81 = .ok (.aload_n 0, 1) := by decide +kernel
theorem dX7_readTrade_82 : decode cX7_readTrade 82 = .ok (.invokevirtual 98, 3) := by decide +kernel
theorem dX7_readTrade_85 : decode cX7_readTrade 85 = .ok (.iastore, 1) := by decide +kernel
theorem dX7_readTrade_86 : decode cX7_readTrade 86 = .ok (.aload_n 0, 1) := by decide +kernel
theorem dX7_readTrade_87 : decode cX7_readTrade 87 = .ok (.getfield 13, 3) := by decide +kernel
theorem dX7_readTrade_90 : decode cX7_readTrade 90 = .ok (.iload_n 1, 1) := by decide +kernel
theorem dX7_readTrade_91 : decode cX7_readTrade 91 = .ok (.iconst 3, 1) := by decide +kernel
theorem dX7_readTrade_92 : decode cX7_readTrade 92 = .ok (.iadd, 1) := by decide +kernel
theorem dX7_readTrade_93 : decode cX7_readTrade 93 = .ok (.aload_n 0, 1) := by decide +kernel
theorem dX7_readTrade_94 : decode cX7_readTrade 94 = .ok (.iconst 1, 1) := by decide +kernel
theorem dX7_readTrade_95 : decode cX7_readTrade 95 = .ok (.bipush 9, 2) := by decide +kernel
theorem dX7_readTrade_97 : decode cX7_readTrade 97 = .ok (.iconst 0, 1) := by decide +kernel
theorem dX7_readTrade_98 : decode cX7_readTrade 98 = .ok (.invokevirtual 91, 3) := by decide +kernel
theorem dX7_readTrade_101 : decode cX7_readTrade 101 = .ok (.iastore, 1) := by decide +kernel
theorem dX7_readTrade_102 : decode cX7_readTrade 102 = .ok (.aload_n 0, 1) := by decide +kernel
theorem dX7_readTrade_103 : decode cX7_readTrade 103 = .ok (.getfield 13, 3) := by decide +kernel
theorem dX7_readTrade_106 : decode cX7_readTrade 106 = .ok (.bipush 59, 2) := by decide +kernel
theorem dX7_readTrade_108 : decode cX7_readTrade 108 = .ok (.dup2, 1) := by decide +kernel
theorem dX7_readTrade_109 : decode cX7_readTrade 109 = .ok (.iaload, 1) := by decide +kernel
theorem dX7_readTrade_110 : decode cX7_readTrade 110 = .ok (.iconst 1, 1) := by decide +kernel
theorem dX7_readTrade_111 : decode cX7_readTrade 111 = .ok (.iadd, 1) := by decide +kernel
theorem dX7_readTrade_112 : decode cX7_readTrade 112 = .ok (.iastore, 1) := by decide +kernel
theorem dX7_readTrade_113 : decode cX7_readTrade 113 = .ok (.return_, 1) := by decide +kernel
set_option maxRecDepth 20000 in
theorem ggX7_readMore_X7_other : GoodIn wsX7_readMore wsX7_other := goodIn_r _ [9, 10, 11, 12, 13, 14, 15, 8, 16, 17, 18, 19, 20, 21, 22, 23, 24, 25, 26, 27, 28, 29, 30, 31, 32, 33, 34, 35, 36, 46, 47, 48, 49, 50, 51, 52, 53, 54, 55, 56, 57, 58, 59, 60, 61, 62, 63, 64, 65, 66, 67, 68, 69, 70, 71, 72, 73, 74, 75, 76, 77, 78, 79] (by decide +kernel) (by decide +kernel)
set_option maxRecDepth 20000 in
theorem gX7_readMore_X7_other : GoodIn wsX7_readMore (wsV RX7 91 RX7 yX7_other wsX7_other) := goodIn_app (goodIn_of _ (by decide +kernel)) ggX7_readMore_X7_other
set_option maxRecDepth 20000 in
theorem ggX7_readMore_X7_gooseHere : GoodIn wsX7_readMore wsX7_gooseHere := goodIn_r _ [40, 41, 5, 6, 7, 8, 9, 10, 11, 12, 13, 14, 15, 16, 17, 18, 19, 20, 21, 22, 23, 24, 25, 26, 27, 28, 29, 30, 31, 32, 33, 34, 35, 36, 46, 47, 48, 49, 50, 51, 52, 53, 54, 55, 56, 57, 58, 59, 60, 61, 62, 63, 64, 65, 66, 67, 68, 69, 70, 71, 72, 73, 74, 75, 76, 77, 78, 79] (by decide +kernel) (by decide +kernel)
set_option maxRecDepth 20000 in
theorem gX7_readMore_X7_gooseHere : GoodIn wsX7_readMore (wsV RX7 98 RX7 yX7_gooseHere wsX7_gooseHere) := goodIn_app (goodIn_of _ (by decide +kernel)) ggX7_readMore_X7_gooseHere
set_option maxRecDepth 20000 in
theorem ggX7_readMore_X7_readTrade : GoodIn wsX7_readMore wsX7_readTrade := goodIn_r _ [45, 1, 10, 11, 12, 5, 6, 7, 8, 9, 13, 14, 15, 16, 17, 18, 19, 20, 21, 22, 23, 24, 25, 26, 27, 28, 29, 30, 31, 32, 33, 34, 35, 36, 37, 38, 39, 40, 41, 46, 47, 48, 49, 50, 51, 52, 53, 54, 55, 56, 57, 58, 59, 60, 61, 62, 63, 64, 65, 66, 67, 68, 69, 70, 71, 72, 73, 74, 75, 76, 77, 78, 79] (by decide +kernel) (by decide +kernel)
set_option maxRecDepth 20000 in
theorem gX7_readMore_X7_readTrade : GoodIn wsX7_readMore (wsV RX7 111 RX7 yX7_readTrade wsX7_readTrade) := goodIn_app (goodIn_of _ (by decide +kernel)) ggX7_readMore_X7_readTrade
theorem dX7_readMore_0 : decode cX7_readMore 0 = .ok (.iload_n 1, 1) := by decide +kernel
theorem dX7_readMore_1 : decode cX7_readMore 1 = .ok (.iconst 3, 1) := by decide +kernel
theorem dX7_readMore_2 : decode cX7_readMore 2 = .ok (.if_icmp .gt 64, 3) := by decide +kernel
theorem dX7_readMore_5 : decode cX7_readMore 5 = .ok (.aload_n 0, 1) := by decide +kernel
theorem dX7_readMore_6 : decode cX7_readMore 6 = .ok (.getfield 13, 3) := by decide +kernel
theorem dX7_readMore_9 : decode cX7_readMore 9 = .ok (.aload_n 0, 1) := by decide +kernel
theorem dX7_readMore_10 : decode cX7_readMore 10 = .ok (.getfield 102, 3) := by decide +kernel
theorem dX7_readMore_13 : decode cX7_readMore 13 = .ok (.iload_n 1, 1) := by decide +kernel
theorem dX7_readMore_14 : decode cX7_readMore 14 = .ok (.iastore, 1) := by decide +kernel
theorem dX7_readMore_15 : decode cX7_readMore 15 = .ok (.aload_n 0, 1) := by decide +kernel
theorem dX7_readMore_16 : decode cX7_readMore 16 = .ok (.getfield 13, 3) := by decide +kernel
theorem dX7_readMore_19 : decode cX7_readMore 19 = .ok (.iconst 3, 1) := by decide +kernel
theorem dX7_readMore_20 : decode cX7_readMore 20 = .ok (.aload_n 0, 1) := by decide +kernel
theorem dX7_readMore_21 : decode cX7_readMore 21 = .ok (.getfield 102, 3) := by decide +kernel
theorem dX7_readMore_24 : decode cX7_readMore 24 = .ok (.iadd, 1) := by decide +kernel
theorem dX7_readMore_25 : decode cX7_readMore 25 = .ok (.aload_n 0, 1) := by decide +kernel
theorem dX7_readMore_26 : decode cX7_readMore 26 = .ok (.iconst 0, 1) := by decide +kernel
theorem dX7_readMore_27 : decode cX7_readMore 27 = .ok (.iconst 4, 1) := by decide +kernel
theorem dX7_readMore_28 : decode cX7_readMore 28 = .ok (.iconst 0, 1) := by decide +kernel
theorem dX7_readMore_29 : decode cX7_readMore 29 = .ok (.invokevirtual 91, 3) := by decide +kernel
theorem dX7_readMore_32 : decode cX7_readMore 32 = .ok (.iastore, 1) := by decide +kernel
theorem dX7_readMore_33 : decode cX7_readMore 33 = .ok (.aload_n 0, 1) := by decide +kernel
theorem dX7_readMore_34 : decode cX7_readMore 34 = .ok (.getfield 13, 3) := by decide +kernel
theorem dX7_readMore_37 : decode cX7_readMore 37 = .ok (.bipush 6, 2) := by decide +kernel
theorem dX7_readMore_39 : decode cX7_readMore 39 = .ok (.aload_n 0, 1) := by decide +kernel
theorem dX7_readMore_40 : decode cX7_readMore 40 = .ok (.getfield 102, 3) := by decide +kernel
theorem dX7_readMore_43 : decode cX7_readMore 43 = .ok (.iadd, 1) := by decide +kernel
theorem dX7_readMore_44 : decode cX7_readMore 44 = .ok (.aload_n 0, 1) := by decide +kernel
theorem dX7_readMore_45 : decode cX7_readMore 45 = .ok (.iconst 1, 1) := by decide +kernel
theorem dX7_readMore_46 : decode cX7_readMore 46 = .ok (.bipush 9, 2) := by decide +kernel
theorem dX7_readMore_48 : decode cX7_readMore 48 = .ok (.iconst 0, 1) := by decide +kernel
theorem dX7_readMore_49 : decode cX7_readMore 49 = .ok (.invokevirtual 91, 3) := by decide +kernel
theorem dX7_readMore_52 : decode cX7_readMore 52 = .ok (.iastore, 1) := by decide +kernel
theorem dX7_readMore_53 : decode cX7_readMore 53 = .ok (.aload_n 0, 1) := by decide +kernel
theorem dX7_readMore_54 : decode cX7_readMore 54 = .ok (.dup, 1) := by decide +kernel
theorem dX7_readMore_55 : decode cX7_readMore 55 = .ok (.getfield 102, 3) := by decide +kernel
theorem dX7_readMore_58 : decode cX7_readMore 58 = .ok (.iconst 1, 1) := by decide +kernel
theorem dX7_readMore_59 : decode cX7_readMore 59 = .ok (.iadd, 1) := by decide +kernel
theorem dX7_readMore_60 : decode cX7_readMore 60 = .ok (.putfield 102, 3) := by decide +kernel
theorem dX7_readMore_63 : decode cX7_readMore 63 = .ok (.goto 126, 3) := by decide +kernel
theorem dX7_readMore_66 : decode cX7_readMore 66 = .ok (.iload_n 1, 1) := by decide +kernel
theorem dX7_readMore_67 : decode cX7_readMore 67 = .ok (.iconst 4, 1) := by decide +kernel
theorem dX7_readMore_68 : decode cX7_readMore 68 = .ok (.if_icmp .ne 66, 3) := by decide +kernel
theorem dX7_readMore_71 : decode cX7_readMore 71 = .ok (.aload_n 0, 1) := by decide +kernel
theorem dX7_readMore_72 : decode cX7_readMore 72 = .ok (.invokevirtual 98, 3) := by decide +kernel
theorem dX7_readMore_75 : decode cX7_readMore 75 = .ok (.istore_n 2, 1) := by decide +kernel
theorem dX7_readMore_76 : decode cX7_readMore 76 = .ok (.aload_n 0, 1) := by decide +kernel
theorem dX7_readMore_77 : decode cX7_readMore 77 = .ok (.iconst 0, 1) := by decide +kernel
theorem dX7_readMore_78 : decode cX7_readMore 78 = .ok (.iconst 4, 1) := by decide +kernel
theorem dX7_readMore_79 : decode cX7_readMore 79 = .ok (.aload_n 0, 1) := by decide +kernel
theorem dX7_readMore_80 : decode cX7_readMore 80 = .ok (.getfield 105, 3) := by decide +kernel
theorem dX7_readMore_83 : decode cX7_readMore 83 = .ok (.iconst 5, 1) := by decide +kernel
theorem dX7_readMore_84 : decode cX7_readMore 84 = .ok (.iload_n 2, 1) := by decide +kernel
theorem dX7_readMore_85 : decode cX7_readMore 85 = .ok (.imul, 1) := by decide +kernel
theorem dX7_readMore_86 : decode cX7_readMore 86 = .ok (.ishr, 1) := by decide +kernel
theorem dX7_readMore_87 : decode cX7_readMore 87 = .ok (.bipush 31, 2) := by decide +kernel
theorem dX7_readMore_89 : decode cX7_readMore 89 = .ok (.iand, 1) := by decide +kernel
theorem dX7_readMore_90 : decode cX7_readMore 90 = .ok (.invokevirtual 91, 3) := by decide +kernel
theorem dX7_readMore_93 : decode cX7_readMore 93 = .ok (.istore_n 3, 1) := by decide +kernel
theorem dX7_readMore_94 : decode cX7_readMore 94 = .ok (.aload_n 0, 1) := by decide +kernel
theorem dX7_readMore_95 : decode cX7_readMore 95 = .ok (.dup, 1) := by decide +kernel
theorem dX7_readMore_96 : decode cX7_readMore 96 = .ok (.getfield 105, 3) := by decide +kernel
theorem dX7_readMore_99 : decode cX7_readMore 99 = .ok (.iconst 1, 1) := by decide +kernel
theorem dX7_readMore_100 : decode cX7_readMore 100 = .ok (.iconst 5, 1) := by decide +kernel
theorem dX7_readMore_101 : decode cX7_readMore 101 = .ok (.iload_n 2, 1) := by decide +kernel
theorem dX7_readMore_102 : decode cX7_readMore 102 = .ok (.imul, 1) := by decide +kernel
theorem dX7_readMore_103 : decode cX7_readMore 103 = .ok (.iload_n 3, 1) := by decide +kernel
theorem dX7_readMore_104 : decode cX7_readMore 104 = .ok (.iadd, 1) := by decide +kernel
theorem dX7_readMore_105 : decode cX7_readMore 105 = .ok (.ishl, 1) := by decide +kernel
theorem dX7_readMore_106 : decode cX7_readMore 106 = .ok (.ior, 1) := by decide +kernel
theorem dX7_readMore_107 : decode cX7_readMore 107 = .ok (.putfield 105, 3) := by decide +kernel
theorem dX7_readMore_110 : decode cX7_readMore 110 = .ok (.aload_n 0, 1) := by decide +kernel
theorem dX7_readMore_111 : decode cX7_readMore 111 = .ok (.getfield 13, 3) := by decide +kernel
theorem dX7_readMore_114 : decode cX7_readMore 114 = .ok (.bipush 19, 2) := by decide +kernel
theorem dX7_readMore_116 : decode cX7_readMore 116 = .ok (.iconst 5, 1) := by decide +kernel
theorem dX7_readMore_117 : decode cX7_readMore 117 = .ok (.iload_n 2, 1) := by decide +kernel
theorem dX7_readMore_118 : decode cX7_readMore 118 = .ok (.imul, 1) := by decide +kernel
theorem dX7_readMore_119 : decode cX7_readMore 119 = .ok (.iadd, 1) := by decide +kernel
theorem dX7_readMore_120 : decode cX7_readMore 120 = .ok (.iload_n 3, 1) := by decide +kernel
theorem dX7_readMore_121 : decode cX7_readMore 121 = .ok (.iadd, 1) := by decide +kernel
theorem dX7_readMore_122 : decode cX7_readMore 122 = .ok (.aload_n 0, 1) := by decide +kernel
theorem dX7_readMore_123 : decode cX7_readMore 123 = .ok (.iconst 0, 1) := by decide +kernel
theorem dX7_readMore_124 : decode cX7_readMore 124 = .ok (.bipush 99, 2) := by decide +kernel
theorem dX7_readMore_126 : decode cX7_readMore 126 = .ok (.iconst 0, 1) := by decide +kernel
theorem dX7_readMore_127 : decode cX7_readMore 127 = .ok (.invokevirtual 91, 3) := by decide +kernel
theorem dX7_readMore_130 : decode cX7_readMore 130 = .ok (.iastore, 1) := by decide +kernel
theorem dX7_readMore_131 : decode cX7_readMore 131 = .ok (.goto 58, 3) := by decide +kernel
theorem dX7_readMore_134 : decode cX7_readMore 134 = .ok (.iload_n 1, 1) := by decide +kernel
theorem dX7_readMore_135 : decode cX7_readMore 135 = .ok (.iconst 5, 1) := by decide +kernel
theorem dX7_readMore_136 : decode cX7_readMore 136 = .ok (.if_icmp .ne 49, 3) := by decide +kernel
theorem dX7_readMore_139 : decode cX7_readMore 139 = .ok (.aload_n 0, 1) := by decide +kernel
theorem dX7_readMore_140 : decode cX7_readMore 140 = .ok (.iconst 0, 1) := by decide +kernel
theorem dX7_readMore_141 : decode cX7_readMore 141 = .ok (.iconst 4, 1) := by decide +kernel
theorem dX7_readMore_142 : decode cX7_readMore 142 = .ok (.aload_n 0, 1) := by decide +kernel
theorem dX7_readMore_143 : decode cX7_readMore 143 = .ok (.getfield 108, 3) := by decide +kernel
theorem dX7_readMore_146 : decode cX7_readMore 146 = .ok (.invokevirtual 91, 3) := by decide +kernel
theorem dX7_readMore_149 : decode cX7_readMore 149 = .ok (.istore_n 2, 1) := by decide +kernel
theorem dX7_readMore_150 : decode cX7_readMore 150 = .ok (.aload_n 0, 1) := by decide +kernel
theorem dX7_readMore_151 : decode cX7_readMore 151 = .ok (.dup, 1) := by decide +kernel
theorem dX7_readMore_152 : decode cX7_readMore 152 = .ok (.getfield 108, 3) := by decide +kernel
theorem dX7_readMore_155 : decode cX7_readMore 155 = .ok (.iconst 1, 1) := by decide +kernel
theorem dX7_readMore_156 : decode cX7_readMore 156 = .ok (.iload_n 2, 1) := by decide +kernel
theorem dX7_readMore_157 : decode cX7_readMore 157 = .ok (.ishl, 1) := by decide +kernel
theorem dX7_readMore_158 : decode cX7_readMore 158 = .ok (.ior, 1) := by decide +kernel
theorem dX7_readMore_159 : decode cX7_readMore 159 = .ok (.putfield 108, 3) := by decide +kernel
theorem dX7_readMore_162 : decode cX7_readMore 162 = .ok (.aload_n 0, 1) := by decide +kernel
theorem dX7_readMore_163 : decode cX7_readMore 163 = .ok (.getfield 13, 3) := by decide +kernel
theorem dX7_readMore_166 : decode cX7_readMore 166 = .ok (.bipush 9, 2) := by decide +kernel
theorem dX7_readMore_168 : decode cX7_readMore 168 = .ok (.iload_n 2, 1) := by decide +kernel
theorem dX7_readMore_169 : decode cX7_readMore 169 = .ok (.iadd, 1) := by decide +kernel
theorem dX7_readMore_170 : decode cX7_readMore 170 = .ok (.aload_n 0, 1) := by decide +kernel
theorem dX7_readMore_171 : decode cX7_readMore 171 = .ok (.iconst 0, 1) := by decide +kernel
theorem dX7_readMore_172 : decode cX7_readMore 172 = .ok (.bipush 99, 2) := by decide +kernel
theorem dX7_readMore_174 : decode cX7_readMore 174 = .ok (.iconst 0, 1) := by decide +kernel
theorem dX7_readMore_175 : decode cX7_readMore 175 = .ok (.invokevirtual 91, 3) := by decide +kernel
theorem dX7_readMore_178 : decode cX7_readMore 178 = .ok (.bipush 20, 2) := by decide +kernel
theorem dX7_readMore_180 : decode cX7_readMore 180 = .ok (.isub, 1) := by decide +kernel
theorem dX7_readMore_181 : decode cX7_readMore 181 = .ok (.iastore, 1) := by decide +kernel
theorem dX7_readMore_182 : decode cX7_readMore 182 = .ok (.goto 7, 3) := by decide +kernel
theorem dX7_readMore_185 : decode cX7_readMore 185 = .ok (.aload_n 0, 1) := by decide +kernel
theorem dX7_readMore_186 : decode cX7_readMore 186 = .ok (.invokevirtual 111, 3) := by decide +kernel
theorem dX7_readMore_189 : decode cX7_readMore 189 = .ok (.return_, 1) := by decide +kernel
set_option maxRecDepth 20000 in
theorem ggX7_readLine_X7_nameHere : GoodIn wsX7_readLine wsX7_nameHere := goodIn_r _ [10, 5, 11, 12, 13, 14, 15, 16, 17, 9, 18, 19, 20, 57, 58, 59, 60, 61, 62, 63, 64, 65, 66, 67, 68, 69, 70, 71, 72, 73, 74, 75, 76, 77, 78, 79, 80, 81, 82, 83, 84, 85, 86, 87, 88, 89, 90] (by decide +kernel) (by decide +kernel)
set_option maxRecDepth 20000 in
theorem gX7_readLine_X7_nameHere : GoodIn wsX7_readLine (wsV RX7 114 RX7 yX7_nameHere wsX7_nameHere) := goodIn_app (goodIn_of _ (by decide +kernel)) ggX7_readLine_X7_nameHere
set_option maxRecDepth 20000 in
theorem ggX7_readLine_X7_in : GoodIn wsX7_readLine wsX7_in := goodIn_r _ [23] (by decide +kernel) (by decide +kernel)
set_option maxRecDepth 20000 in
theorem gX7_readLine_X7_in : GoodIn wsX7_readLine (va_wsS RX7 46 yX7_in wsX7_in) := goodIn_app (goodIn_of _ (by decide +kernel)) ggX7_readLine_X7_in
set_option maxRecDepth 20000 in
theorem ggX7_readLine_X7_fails : GoodIn wsX7_readLine wsX7_fails := goodIn_r _ [27, 4, 12, 28, 57, 58, 59, 60, 61, 62, 63, 64, 65, 66, 67, 68, 69, 70, 71, 72, 73, 74, 75, 76, 77, 78, 79, 80, 81, 82, 83, 84, 85, 86, 87, 88, 89, 90] (by decide +kernel) (by decide +kernel)
set_option maxRecDepth 20000 in
theorem gX7_readLine_X7_fails : GoodIn wsX7_readLine (wsV RX7 84 RX7 yX7_fails wsX7_fails) := goodIn_app (goodIn_of _ (by decide +kernel)) ggX7_readLine_X7_fails
set_option maxRecDepth 20000 in
theorem ggX7_readLine_X7_step : GoodIn wsX7_readLine wsX7_step := goodIn_r _ [32, 4, 11, 12, 33, 5, 34, 35, 36, 37, 15, 16, 17, 9, 18, 19, 20, 21, 22, 23, 24, 25, 26, 27, 28, 57, 58, 59, 60, 61, 62, 63, 64, 65, 66, 67, 68, 69, 70, 71, 72, 73, 74, 75, 76, 77, 78, 79, 80, 81, 82, 83, 84, 85, 86, 87, 88, 89, 90] (by decide +kernel) (by decide +kernel)
set_option maxRecDepth 20000 in
theorem gX7_readLine_X7_step : GoodIn wsX7_readLine (wsV RX7 88 RX7 yX7_step wsX7_step) := goodIn_app (goodIn_of _ (by decide +kernel)) ggX7_readLine_X7_step
set_option maxRecDepth 20000 in
theorem ggX7_readLine_X7_readMore : GoodIn wsX7_readLine wsX7_readMore := goodIn_r _ [41, 3, 2, 42, 43, 44, 45, 46, 9, 47, 4, 5, 33, 24, 25, 26, 27, 12, 28, 21, 22, 23, 29, 30, 31, 32, 11, 34, 35, 36, 37, 15, 16, 17, 18, 19, 20, 48, 49, 50, 51, 52, 53, 54, 55, 56, 57, 58, 59, 60, 61, 62, 63, 64, 65, 66, 67, 68, 69, 70, 71, 72, 73, 74, 75, 76, 77, 78, 79, 80, 81, 82, 83, 84, 85, 86, 87, 88, 89, 90] (by decide +kernel) (by decide +kernel)
set_option maxRecDepth 20000 in
theorem gX7_readLine_X7_readMore : GoodIn wsX7_readLine (wsV RX7 119 RX7 yX7_readMore wsX7_readMore) := goodIn_app (goodIn_of _ (by decide +kernel)) ggX7_readLine_X7_readMore
theorem dX7_readLine_0 : decode cX7_readLine 0 = .ok (.aload_n 0, 1) := by decide +kernel
theorem dX7_readLine_1 : decode cX7_readLine 1 = .ok (.invokevirtual 114, 3) := by decide +kernel
theorem dX7_readLine_4 : decode cX7_readLine 4 = .ok (.istore_n 1, 1) := by decide +kernel
theorem dX7_readLine_5 : decode cX7_readLine 5 = .ok (.iload_n 1, 1) := by decide +kernel
theorem dX7_readLine_6 : decode cX7_readLine 6 = .ok (.i2l, 1) := by decide +kernel
theorem dX7_readLine_7 : decode cX7_readLine 7 = .ok (.lconst 0, 1) := by decide +kernel
theorem dX7_readLine_8 : decode cX7_readLine 8 = .ok (.ldc2_w 117, 3) := by decide +kernel
theorem dX7_readLine_11 : decode cX7_readLine 11 = .ok (.invokestatic 46, 3) := by decide +kernel
theorem dX7_readLine_14 : decode cX7_readLine 14 = .ok (.ifCond .ne 9, 3) := by decide +kernel
theorem dX7_readLine_17 : decode cX7_readLine 17 = .ok (.aload_n 0, 1) := by decide +kernel
theorem dX7_readLine_18 : decode cX7_readLine 18 = .ok (.iconst 2, 1) := by decide +kernel
theorem dX7_readLine_19 : decode cX7_readLine 19 = .ok (.invokevirtual 84, 3) := by decide +kernel
theorem dX7_readLine_22 : decode cX7_readLine 22 = .ok (.return_, 1) := by decide +kernel
theorem dX7_readLine_23 : decode cX7_readLine 23 = .ok (.iload_n 1, 1) := by decide +kernel
theorem dX7_readLine_24 : decode cX7_readLine 24 = .ok (.iconst 3, 1) := by decide +kernel
theorem dX7_readLine_25 : decode cX7_readLine 25 = .ok (.if_icmp .gt 11, 3) := by decide +kernel
theorem dX7_readLine_28 : decode cX7_readLine 28 = .ok (.aload_n 0, 1) := by decide +kernel
theorem dX7_readLine_29 : decode cX7_readLine 29 = .ok (.getfield 102, 3) := by decide +kernel
theorem dX7_readLine_32 : decode cX7_readLine 32 = .ok (.iconst 3, 1) := by decide +kernel
theorem dX7_readLine_33 : decode cX7_readLine 33 = .ok (.if_icmp .eq 21, 3) := by decide +kernel
theorem dX7_readLine_36 : decode cX7_readLine 36 = .ok (.iload_n 1, 1) := by decide +kernel
theorem dX7_readLine_37 : decode cX7_readLine 37 = .ok (.bipush 6, 2) := by decide +kernel
theorem dX7_readLine_39 : decode cX7_readLine 39 = .ok (.if_icmp .ne 20, 3) := by decide +kernel
theorem dX7_readLine_42 : decode cX7_readLine 42 = .ok (.aload_n 0, 1) := by decide +kernel
theorem dX7_readLine_43 : decode cX7_readLine 43 = .ok (.getfield 13, 3) := by decide +kernel
theorem dX7_readLine_46 : decode cX7_readLine 46 = .ok (.bipush 59, 2) := by decide +kernel
theorem dX7_readLine_48 : decode cX7_readLine 48 = .ok (.iaload, 1) := by decide +kernel
theorem dX7_readLine_49 : decode cX7_readLine 49 = .ok (.bipush 6, 2) := by decide +kernel
theorem dX7_readLine_51 : decode cX7_readLine 51 = .ok (.if_icmp .ne 8, 3) := by decide +kernel
theorem dX7_readLine_54 : decode cX7_readLine 54 = .ok (.aload_n 0, 1) := by decide +kernel
theorem dX7_readLine_55 : decode cX7_readLine 55 = .ok (.iconst 5, 1) := by decide +kernel
theorem dX7_readLine_56 : decode cX7_readLine 56 = .ok (.invokevirtual 84, 3) := by decide +kernel
theorem dX7_readLine_59 : decode cX7_readLine 59 = .ok (.aload_n 0, 1) := by decide +kernel
theorem dX7_readLine_60 : decode cX7_readLine 60 = .ok (.invokevirtual 88, 3) := by decide +kernel
theorem dX7_readLine_63 : decode cX7_readLine 63 = .ok (.aload_n 0, 1) := by decide +kernel
theorem dX7_readLine_64 : decode cX7_readLine 64 = .ok (.getfield 54, 3) := by decide +kernel
theorem dX7_readLine_67 : decode cX7_readLine 67 = .ok (.ifCond .le 4, 3) := by decide +kernel
theorem dX7_readLine_70 : decode cX7_readLine 70 = .ok (.return_, 1) := by decide +kernel
theorem dX7_readLine_71 : decode cX7_readLine 71 = .ok (.aload_n 0, 1) := by decide +kernel
theorem dX7_readLine_72 : decode cX7_readLine 72 = .ok (.iload_n 1, 1) := by decide +kernel
theorem dX7_readLine_73 : decode cX7_readLine 73 = .ok (.invokevirtual 119, 3) := by decide +kernel
theorem dX7_readLine_76 : decode cX7_readLine 76 = .ok (.aload_n 0, 1) := by decide +kernel
theorem dX7_readLine_77 : decode cX7_readLine 77 = .ok (.getfield 54, 3) := by decide +kernel
theorem dX7_readLine_80 : decode cX7_readLine 80 = .ok (.ifCond .ne 16, 3) := by decide +kernel
theorem dX7_readLine_83 : decode cX7_readLine 83 = .ok (.aload_n 0, 1) := by decide +kernel
theorem dX7_readLine_84 : decode cX7_readLine 84 = .ok (.getfield 63, 3) := by decide +kernel
theorem dX7_readLine_87 : decode cX7_readLine 87 = .ok (.iconst 3, 1) := by decide +kernel
theorem dX7_readLine_88 : decode cX7_readLine 88 = .ok (.if_icmp .eq 8, 3) := by decide +kernel
theorem dX7_readLine_91 : decode cX7_readLine 91 = .ok (.aload_n 0, 1) := by decide +kernel
theorem dX7_readLine_92 : decode cX7_readLine 92 = .ok (.iconst 2, 1) := by decide +kernel
theorem dX7_readLine_93 : decode cX7_readLine 93 = .ok (.invokevirtual 84, 3) := by decide +kernel
theorem dX7_readLine_96 : decode cX7_readLine 96 = .ok (.aload_n 0, 1) := by decide +kernel
theorem dX7_readLine_97 : decode cX7_readLine 97 = .ok (.invokevirtual 88, 3) := by decide +kernel
theorem dX7_readLine_100 : decode cX7_readLine 100 = .ok (.return_, 1) := by decide +kernel
set_option maxRecDepth 20000 in
theorem ggX7_text_X7_step : GoodIn wsX7_text wsX7_step := goodIn_r _ [20, 1, 2, 21, 22, 8, 23, 24, 25, 26, 27, 28, 29, 19, 30, 9, 31, 32, 33, 34, 35, 36, 37, 38, 11, 66, 67, 68, 69, 70, 71, 72, 73, 74, 75, 76, 77, 78, 79, 80, 81, 82, 83, 84, 85, 86, 87, 88, 89, 90, 91, 92, 93, 94, 95, 96, 97, 98, 99] (by decide +kernel) (by decide +kernel)
set_option maxRecDepth 20000 in
theorem gX7_text_X7_step : GoodIn wsX7_text (wsV RX7 88 RX7 yX7_step wsX7_step) := goodIn_app (goodIn_of _ (by decide +kernel)) ggX7_text_X7_step
set_option maxRecDepth 20000 in
theorem ggX7_text_X7_readLine : GoodIn wsX7_text wsX7_readLine := goodIn_r _ [42, 43, 3, 7, 1, 8, 44, 45, 46, 19, 47, 2, 21, 48, 49, 27, 28, 29, 30, 9, 31, 32, 33, 34, 35, 36, 37, 38, 11, 16, 17, 18, 20, 22, 23, 24, 25, 26, 50, 51, 52, 53, 4, 5, 54, 55, 56, 57, 58, 59, 60, 61, 6, 62, 63, 64, 65, 66, 67, 68, 69, 70, 71, 72, 73, 74, 75, 76, 77, 78, 79, 80, 81, 82, 83, 84, 85, 86, 87, 88, 89, 90, 91, 92, 93, 94, 95, 96, 97, 98, 99] (by decide +kernel) (by decide +kernel)
set_option maxRecDepth 20000 in
theorem gX7_text_X7_readLine : GoodIn wsX7_text (wsV RX7 122 RX7 yX7_readLine wsX7_readLine) := goodIn_app (goodIn_of _ (by decide +kernel)) ggX7_text_X7_readLine
set_option maxRecDepth 20000 in
theorem ggX7_text_X7_fails : GoodIn wsX7_text wsX7_fails := goodIn_r _ [38, 1, 21, 11, 66, 67, 68, 69, 70, 71, 72, 73, 74, 75, 76, 77, 78, 79, 80, 81, 82, 83, 84, 85, 86, 87, 88, 89, 90, 91, 92, 93, 94, 95, 96, 97, 98, 99] (by decide +kernel) (by decide +kernel)
set_option maxRecDepth 20000 in
theorem gX7_text_X7_fails : GoodIn wsX7_text (wsV RX7 84 RX7 yX7_fails wsX7_fails) := goodIn_app (goodIn_of _ (by decide +kernel)) ggX7_text_X7_fails
theorem dX7_text_0 : decode cX7_text 0 = .ok (.aload_n 0, 1) := by decide +kernel
theorem dX7_text_1 : decode cX7_text 1 = .ok (.iconst 0, 1) := by decide +kernel
theorem dX7_text_2 : decode cX7_text 2 = .ok (.putfield 54, 3) := by decide +kernel
theorem dX7_text_5 : decode cX7_text 5 = .ok (.aload_n 0, 1) := by decide +kernel
theorem dX7_text_6 : decode cX7_text 6 = .ok (.iconst 0, 1) := by decide +kernel
theorem dX7_text_7 : decode cX7_text 7 = .ok (.putfield 66, 3) := by decide +kernel
theorem dX7_text_10 : decode cX7_text 10 = .ok (.aload_n 0, 1) := by decide +kernel
theorem dX7_text_11 : decode cX7_text 11 = .ok (.iconst 0, 1) := by decide +kernel
theorem dX7_text_12 : decode cX7_text 12 = .ok (.putfield 102, 3) := by decide +kernel
theorem dX7_text_15 : decode cX7_text 15 = .ok (.aload_n 0, 1) := by decide +kernel
theorem dX7_text_16 : decode cX7_text 16 = .ok (.iconst 0, 1) := by decide +kernel
theorem dX7_text_17 : decode cX7_text 17 = .ok (.putfield 105, 3) := by decide +kernel
theorem dX7_text_20 : decode cX7_text 20 = .ok (.aload_n 0, 1) := by decide +kernel
theorem dX7_text_21 : decode cX7_text 21 = .ok (.iconst 0, 1) := by decide +kernel
theorem dX7_text_22 : decode cX7_text 22 = .ok (.putfield 108, 3) := by decide +kernel
theorem dX7_text_25 : decode cX7_text 25 = .ok (.aload_n 0, 1) := by decide +kernel
theorem dX7_text_26 : decode cX7_text 26 = .ok (.iconst (-1), 1) := by decide +kernel
theorem dX7_text_27 : decode cX7_text 27 = .ok (.putfield 95, 3) := by decide +kernel
theorem dX7_text_30 : decode cX7_text 30 = .ok (.iconst 0, 1) := by decide +kernel
theorem dX7_text_31 : decode cX7_text 31 = .ok (.istore_n 1, 1) := by decide +kernel
theorem dX7_text_32 : decode cX7_text 32 = .ok (.iconst 0, 1) := by decide +kernel
theorem dX7_text_33 : decode cX7_text 33 = .ok (.istore_n 2, 1) := by decide +kernel
theorem dX7_text_34 : decode cX7_text 34 = .ok (.iload_n 2, 1) := by decide +kernel
theorem dX7_text_35 : decode cX7_text 35 = .ok (.bipush 60, 2) := by decide +kernel
theorem dX7_text_37 : decode cX7_text 37 = .ok (.if_icmp .ge 16, 3) := by decide +kernel
theorem dX7_text_40 : decode cX7_text 40 = .ok (.aload_n 0, 1) := by decide +kernel
theorem dX7_text_41 : decode cX7_text 41 = .ok (.getfield 13, 3) := by decide +kernel
theorem dX7_text_44 : decode cX7_text 44 = .ok (.iload_n 2, 1) := by decide +kernel
theorem dX7_text_45 : decode cX7_text 45 = .ok (.iconst 0, 1) := by decide +kernel
theorem dX7_text_46 : decode cX7_text 46 = .ok (.iastore, 1) := by decide +kernel
theorem dX7_text_47 : decode cX7_text 47 = .ok (.iinc 2 1, 3) := by decide +kernel
theorem dX7_text_50 : decode cX7_text 50 = .ok (.goto (-16), 3) := by decide +kernel
theorem dX7_text_53 : decode cX7_text 53 = .ok (.aload_n 0, 1) := by decide +kernel
theorem dX7_text_54 : decode cX7_text 54 = .ok (.invokevirtual 88, 3) := by decide +kernel
theorem dX7_text_57 : decode cX7_text 57 = .ok (.aload_n 0, 1) := by decide +kernel
theorem dX7_text_58 : decode cX7_text 58 = .ok (.getfield 54, 3) := by decide +kernel
theorem dX7_text_61 : decode cX7_text 61 = .ok (.ifCond .ne 20, 3) := by decide +kernel
theorem dX7_text_64 : decode cX7_text 64 = .ok (.aload_n 0, 1) := by decide +kernel
theorem dX7_text_65 : decode cX7_text 65 = .ok (.getfield 63, 3) := by decide +kernel
theorem dX7_text_68 : decode cX7_text 68 = .ok (.ifCond .eq 13, 3) := by decide +kernel
theorem dX7_text_71 : decode cX7_text 71 = .ok (.aload_n 0, 1) := by decide +kernel
theorem dX7_text_72 : decode cX7_text 72 = .ok (.invokevirtual 122, 3) := by decide +kernel
theorem dX7_text_75 : decode cX7_text 75 = .ok (.iinc 1 1, 3) := by decide +kernel
theorem dX7_text_78 : decode cX7_text 78 = .ok (.goto (-21), 3) := by decide +kernel
theorem dX7_text_81 : decode cX7_text 81 = .ok (.aload_n 0, 1) := by decide +kernel
theorem dX7_text_82 : decode cX7_text 82 = .ok (.getfield 54, 3) := by decide +kernel
theorem dX7_text_85 : decode cX7_text 85 = .ok (.ifCond .ne 20, 3) := by decide +kernel
theorem dX7_text_88 : decode cX7_text 88 = .ok (.aload_n 0, 1) := by decide +kernel
theorem dX7_text_89 : decode cX7_text 89 = .ok (.getfield 95, 3) := by decide +kernel
theorem dX7_text_92 : decode cX7_text 92 = .ok (.aload_n 0, 1) := by decide +kernel
theorem dX7_text_93 : decode cX7_text 93 = .ok (.getfield 102, 3) := by decide +kernel
theorem dX7_text_96 : decode cX7_text 96 = .ok (.if_icmp .lt 9, 3) := by decide +kernel
theorem dX7_text_99 : decode cX7_text 99 = .ok (.aload_n 0, 1) := by decide +kernel
theorem dX7_text_100 : decode cX7_text 100 = .ok (.bipush 6, 2) := by decide +kernel
theorem dX7_text_102 : decode cX7_text 102 = .ok (.invokevirtual 84, 3) := by decide +kernel
theorem dX7_text_105 : decode cX7_text 105 = .ok (.aload_n 0, 1) := by decide +kernel
theorem dX7_text_106 : decode cX7_text 106 = .ok (.iconst 0, 1) := by decide +kernel
theorem dX7_text_107 : decode cX7_text 107 = .ok (.putfield 50, 3) := by decide +kernel
theorem dX7_text_110 : decode cX7_text 110 = .ok (.aload_n 0, 1) := by decide +kernel
theorem dX7_text_111 : decode cX7_text 111 = .ok (.aload_n 0, 1) := by decide +kernel
theorem dX7_text_112 : decode cX7_text 112 = .ok (.getfield 54, 3) := by decide +kernel
theorem dX7_text_115 : decode cX7_text 115 = .ok (.putfield 125, 3) := by decide +kernel
theorem dX7_text_118 : decode cX7_text 118 = .ok (.aload_n 0, 1) := by decide +kernel
theorem dX7_text_119 : decode cX7_text 119 = .ok (.getfield 54, 3) := by decide +kernel
theorem dX7_text_122 : decode cX7_text 122 = .ok (.ifCond .le 11, 3) := by decide +kernel
theorem dX7_text_125 : decode cX7_text 125 = .ok (.bipush (-10), 2) := by decide +kernel
theorem dX7_text_127 : decode cX7_text 127 = .ok (.aload_n 0, 1) := by decide +kernel
theorem dX7_text_128 : decode cX7_text 128 = .ok (.getfield 60, 3) := by decide +kernel
theorem dX7_text_131 : decode cX7_text 131 = .ok (.isub, 1) := by decide +kernel
theorem dX7_text_132 : decode cX7_text 132 = .ok (.ireturn, 1) := by decide +kernel
theorem dX7_text_133 : decode cX7_text 133 = .ok (.iconst 0, 1) := by decide +kernel
theorem dX7_text_134 : decode cX7_text 134 = .ok (.istore_n 2, 1) := by decide +kernel
theorem dX7_text_135 : decode cX7_text 135 = .ok (.iload_n 2, 1) := by decide +kernel
theorem dX7_text_136 : decode cX7_text 136 = .ok (.bipush 60, 2) := by decide +kernel
theorem dX7_text_138 : decode cX7_text 138 = .ok (.if_icmp .ge 21, 3) := by decide +kernel
theorem dX7_text_141 : decode cX7_text 141 = .ok (.aload_n 0, 1) := by decide +kernel
theorem dX7_text_142 : decode cX7_text 142 = .ok (.getfield 7, 3) := by decide +kernel
theorem dX7_text_145 : decode cX7_text 145 = .ok (.iload_n 2, 1) := by decide +kernel
theorem dX7_text_146 : decode cX7_text 146 = .ok (.aload_n 0, 1) := by decide +kernel
theorem dX7_text_147 : decode cX7_text 147 = .ok (.getfield 13, 3) := by decide +kernel
theorem dX7_text_150 : decode cX7_text 150 = .ok (.iload_n 2, 1) := by decide +kernel
theorem dX7_text_151 : decode cX7_text 151 = .ok (.iaload, 1) := by decide +kernel
theorem dX7_text_152 : decode cX7_text 152 = .ok (.iastore, 1) := by decide +kernel
theorem dX7_text_153 : decode cX7_text 153 = .ok (.iinc 2 1, 3) := by decide +kernel
theorem dX7_text_156 : decode cX7_text 156 = .ok (.goto (-21), 3) := by decide +kernel
theorem dX7_text_159 : decode cX7_text 159 = .ok (.aload_n 0, 1) := by decide +kernel
theorem dX7_text_160 : decode cX7_text 160 = .ok (.aload_n 0, 1) := by decide +kernel
theorem dX7_text_161 : decode cX7_text 161 = .ok (.getfield 102, 3) := by decide +kernel
theorem dX7_text_164 : decode cX7_text 164 = .ok (.putfield 128, 3) := by decide +kernel
theorem dX7_text_167 : decode cX7_text 167 = .ok (.aload_n 0, 1) := by decide +kernel
theorem dX7_text_168 : decode cX7_text 168 = .ok (.iconst 0, 1) := by decide +kernel
theorem dX7_text_169 : decode cX7_text 169 = .ok (.putfield 131, 3) := by decide +kernel
theorem dX7_text_172 : decode cX7_text 172 = .ok (.aload_n 0, 1) := by decide +kernel
theorem dX7_text_173 : decode cX7_text 173 = .ok (.getfield 31, 3) := by decide +kernel
theorem dX7_text_176 : decode cX7_text 176 = .ok (.iconst 0, 1) := by decide +kernel
theorem dX7_text_177 : decode cX7_text 177 = .ok (.iconst 0, 1) := by decide +kernel
theorem dX7_text_178 : decode cX7_text 178 = .ok (.bastore, 1) := by decide +kernel
theorem dX7_text_179 : decode cX7_text 179 = .ok (.aload_n 0, 1) := by decide +kernel
theorem dX7_text_180 : decode cX7_text 180 = .ok (.getfield 31, 3) := by decide +kernel
theorem dX7_text_183 : decode cX7_text 183 = .ok (.iconst 1, 1) := by decide +kernel
theorem dX7_text_184 : decode cX7_text 184 = .ok (.iconst 0, 1) := by decide +kernel
theorem dX7_text_185 : decode cX7_text 185 = .ok (.bastore, 1) := by decide +kernel
theorem dX7_text_186 : decode cX7_text 186 = .ok (.iload_n 1, 1) := by decide +kernel
theorem dX7_text_187 : decode cX7_text 187 = .ok (.ireturn, 1) := by decide +kernel
theorem dX7_fault_0 : decode cX7_fault 0 = .ok (.aload_n 0, 1) := by decide +kernel
theorem dX7_fault_1 : decode cX7_fault 1 = .ok (.getfield 125, 3) := by decide +kernel
theorem dX7_fault_4 : decode cX7_fault 4 = .ok (.ireturn, 1) := by decide +kernel
set_option maxRecDepth 20000 in
theorem ggX7_isGoose_X7_in : GoodIn wsX7_isGoose wsX7_in := goodIn_r _ [5] (by decide +kernel) (by decide +kernel)
set_option maxRecDepth 20000 in
theorem gX7_isGoose_X7_in : GoodIn wsX7_isGoose (va_wsS RX7 46 yX7_in wsX7_in) := goodIn_app (goodIn_of _ (by decide +kernel)) ggX7_isGoose_X7_in
theorem dX7_isGoose_0 : decode cX7_isGoose 0 = .ok (.iload_n 1, 1) := by decide +kernel
theorem dX7_isGoose_1 : decode cX7_isGoose 1 = .ok (.i2l, 1) := by decide +kernel
theorem dX7_isGoose_2 : decode cX7_isGoose 2 = .ok (.lconst 0, 1) := by decide +kernel
theorem dX7_isGoose_3 : decode cX7_isGoose 3 = .ok (.aload_n 0, 1) := by decide +kernel
theorem dX7_isGoose_4 : decode cX7_isGoose 4 = .ok (.getfield 128, 3) := by decide +kernel
theorem dX7_isGoose_7 : decode cX7_isGoose 7 = .ok (.iconst 1, 1) := by decide +kernel
theorem dX7_isGoose_8 : decode cX7_isGoose 8 = .ok (.isub, 1) := by decide +kernel
theorem dX7_isGoose_9 : decode cX7_isGoose 9 = .ok (.i2l, 1) := by decide +kernel
theorem dX7_isGoose_10 : decode cX7_isGoose 10 = .ok (.invokestatic 46, 3) := by decide +kernel
theorem dX7_isGoose_13 : decode cX7_isGoose 13 = .ok (.ireturn, 1) := by decide +kernel
set_option maxRecDepth 20000 in
theorem ggX7_isOwner_X7_in : GoodIn wsX7_isOwner wsX7_in := goodIn_r _ [5] (by decide +kernel) (by decide +kernel)
set_option maxRecDepth 20000 in
theorem gX7_isOwner_X7_in : GoodIn wsX7_isOwner (va_wsS RX7 46 yX7_in wsX7_in) := goodIn_app (goodIn_of _ (by decide +kernel)) ggX7_isOwner_X7_in
theorem dX7_isOwner_0 : decode cX7_isOwner 0 = .ok (.iload_n 0, 1) := by decide +kernel
theorem dX7_isOwner_1 : decode cX7_isOwner 1 = .ok (.i2l, 1) := by decide +kernel
theorem dX7_isOwner_2 : decode cX7_isOwner 2 = .ok (.lconst 0, 1) := by decide +kernel
theorem dX7_isOwner_3 : decode cX7_isOwner 3 = .ok (.ldc2_w 134, 3) := by decide +kernel
theorem dX7_isOwner_6 : decode cX7_isOwner 6 = .ok (.invokestatic 46, 3) := by decide +kernel
theorem dX7_isOwner_9 : decode cX7_isOwner 9 = .ok (.ireturn, 1) := by decide +kernel
theorem dX7_shareOn_0 : decode cX7_shareOn 0 = .ok (.aload_n 0, 1) := by decide +kernel
theorem dX7_shareOn_1 : decode cX7_shareOn 1 = .ok (.getfield 7, 3) := by decide +kernel
theorem dX7_shareOn_4 : decode cX7_shareOn 4 = .ok (.iload_n 1, 1) := by decide +kernel
theorem dX7_shareOn_5 : decode cX7_shareOn 5 = .ok (.bipush 19, 2) := by decide +kernel
theorem dX7_shareOn_7 : decode cX7_shareOn 7 = .ok (.iadd, 1) := by decide +kernel
theorem dX7_shareOn_8 : decode cX7_shareOn 8 = .ok (.iconst 5, 1) := by decide +kernel
theorem dX7_shareOn_9 : decode cX7_shareOn 9 = .ok (.iload_n 2, 1) := by decide +kernel
theorem dX7_shareOn_10 : decode cX7_shareOn 10 = .ok (.imul, 1) := by decide +kernel
theorem dX7_shareOn_11 : decode cX7_shareOn 11 = .ok (.iadd, 1) := by decide +kernel
theorem dX7_shareOn_12 : decode cX7_shareOn 12 = .ok (.iload_n 3, 1) := by decide +kernel
theorem dX7_shareOn_13 : decode cX7_shareOn 13 = .ok (.iadd, 1) := by decide +kernel
theorem dX7_shareOn_14 : decode cX7_shareOn 14 = .ok (.iaload, 1) := by decide +kernel
theorem dX7_shareOn_15 : decode cX7_shareOn 15 = .ok (.ireturn, 1) := by decide +kernel
theorem dX7_moneyOn_0 : decode cX7_moneyOn 0 = .ok (.aload_n 0, 1) := by decide +kernel
theorem dX7_moneyOn_1 : decode cX7_moneyOn 1 = .ok (.getfield 7, 3) := by decide +kernel
theorem dX7_moneyOn_4 : decode cX7_moneyOn 4 = .ok (.iload_n 1, 1) := by decide +kernel
theorem dX7_moneyOn_5 : decode cX7_moneyOn 5 = .ok (.bipush 9, 2) := by decide +kernel
theorem dX7_moneyOn_7 : decode cX7_moneyOn 7 = .ok (.iadd, 1) := by decide +kernel
theorem dX7_moneyOn_8 : decode cX7_moneyOn 8 = .ok (.iload_n 2, 1) := by decide +kernel
theorem dX7_moneyOn_9 : decode cX7_moneyOn 9 = .ok (.iadd, 1) := by decide +kernel
theorem dX7_moneyOn_10 : decode cX7_moneyOn 10 = .ok (.iaload, 1) := by decide +kernel
theorem dX7_moneyOn_11 : decode cX7_moneyOn 11 = .ok (.bipush 20, 2) := by decide +kernel
theorem dX7_moneyOn_13 : decode cX7_moneyOn 13 = .ok (.iadd, 1) := by decide +kernel
theorem dX7_moneyOn_14 : decode cX7_moneyOn 14 = .ok (.ireturn, 1) := by decide +kernel
set_option maxRecDepth 20000 in
theorem ggX7_feathersOn_X7_shareOn : GoodIn wsX7_feathersOn wsX7_shareOn := goodIn_r _ [5, 6, 7, 8, 9, 10, 11, 12, 13, 14, 15, 16, 17, 18, 19, 20, 21, 22, 23, 24, 25, 26, 27, 28, 29, 30, 31, 32, 33, 34, 35, 36, 37, 38, 39, 40] (by decide +kernel) (by decide +kernel)
set_option maxRecDepth 20000 in
theorem gX7_feathersOn_X7_shareOn : GoodIn wsX7_feathersOn (wsV RX7 136 RX7 yX7_shareOn wsX7_shareOn) := goodIn_app (goodIn_of _ (by decide +kernel)) ggX7_feathersOn_X7_shareOn
theorem dX7_feathersOn_0 : decode cX7_feathersOn 0 = .ok (.iconst 0, 1) := by decide +kernel
theorem dX7_feathersOn_1 : decode cX7_feathersOn 1 = .ok (.istore_n 3, 1) := by decide +kernel
theorem dX7_feathersOn_2 : decode cX7_feathersOn 2 = .ok (.iconst 0, 1) := by decide +kernel
theorem dX7_feathersOn_3 : decode cX7_feathersOn 3 = .ok (.istore 4, 2) := by decide +kernel
theorem dX7_feathersOn_5 : decode cX7_feathersOn 5 = .ok (.iload 4, 2) := by decide +kernel
theorem dX7_feathersOn_7 : decode cX7_feathersOn 7 = .ok (.iconst 5, 1) := by decide +kernel
theorem dX7_feathersOn_8 : decode cX7_feathersOn 8 = .ok (.if_icmp .ge 20, 3) := by decide +kernel
theorem dX7_feathersOn_11 : decode cX7_feathersOn 11 = .ok (.iload_n 3, 1) := by decide +kernel
theorem dX7_feathersOn_12 : decode cX7_feathersOn 12 = .ok (.aload_n 0, 1) := by decide +kernel
theorem dX7_feathersOn_13 : decode cX7_feathersOn 13 = .ok (.iload_n 1, 1) := by decide +kernel
theorem dX7_feathersOn_14 : decode cX7_feathersOn 14 = .ok (.iload_n 2, 1) := by decide +kernel
theorem dX7_feathersOn_15 : decode cX7_feathersOn 15 = .ok (.iload 4, 2) := by decide +kernel
theorem dX7_feathersOn_17 : decode cX7_feathersOn 17 = .ok (.invokevirtual 136, 3) := by decide +kernel
theorem dX7_feathersOn_20 : decode cX7_feathersOn 20 = .ok (.iadd, 1) := by decide +kernel
theorem dX7_feathersOn_21 : decode cX7_feathersOn 21 = .ok (.istore_n 3, 1) := by decide +kernel
theorem dX7_feathersOn_22 : decode cX7_feathersOn 22 = .ok (.iinc 4 1, 3) := by decide +kernel
theorem dX7_feathersOn_25 : decode cX7_feathersOn 25 = .ok (.goto (-20), 3) := by decide +kernel
theorem dX7_feathersOn_28 : decode cX7_feathersOn 28 = .ok (.iload_n 3, 1) := by decide +kernel
theorem dX7_feathersOn_29 : decode cX7_feathersOn 29 = .ok (.ireturn, 1) := by decide +kernel
set_option maxRecDepth 20000 in
theorem ggX7_eggOn_X7_shareOn : GoodIn wsX7_eggOn wsX7_shareOn := goodIn_r _ [6, 1, 11, 12, 13, 14, 15, 16, 17, 18, 19, 20, 21, 22, 23, 24, 25, 26, 27, 28, 29, 30, 31, 32, 33, 34, 35, 36, 37, 38, 39, 40, 41, 42, 43, 44] (by decide +kernel) (by decide +kernel)
set_option maxRecDepth 20000 in
theorem gX7_eggOn_X7_shareOn : GoodIn wsX7_eggOn (wsV RX7 136 RX7 yX7_shareOn wsX7_shareOn) := goodIn_app (goodIn_of _ (by decide +kernel)) ggX7_eggOn_X7_shareOn
set_option maxRecDepth 20000 in
theorem ggX7_eggOn_X7_feathersOn : GoodIn wsX7_eggOn wsX7_feathersOn := goodIn_r _ [10, 2, 3, 4, 5, 6, 1, 11, 12, 13, 14, 15, 16, 17, 18, 19, 20, 21, 22, 23, 24, 25, 26, 27, 28, 29, 30, 31, 32, 33, 34, 35, 36, 37, 38, 39, 40, 41, 42, 43, 44] (by decide +kernel) (by decide +kernel)
set_option maxRecDepth 20000 in
theorem gX7_eggOn_X7_feathersOn : GoodIn wsX7_eggOn (wsV RX7 139 RX7 yX7_feathersOn wsX7_feathersOn) := goodIn_app (goodIn_of _ (by decide +kernel)) ggX7_eggOn_X7_feathersOn
theorem dX7_eggOn_0 : decode cX7_eggOn 0 = .ok (.iconst 0, 1) := by decide +kernel
theorem dX7_eggOn_1 : decode cX7_eggOn 1 = .ok (.istore_n 3, 1) := by decide +kernel
theorem dX7_eggOn_2 : decode cX7_eggOn 2 = .ok (.iconst 1, 1) := by decide +kernel
theorem dX7_eggOn_3 : decode cX7_eggOn 3 = .ok (.istore 4, 2) := by decide +kernel
theorem dX7_eggOn_5 : decode cX7_eggOn 5 = .ok (.iload 4, 2) := by decide +kernel
theorem dX7_eggOn_7 : decode cX7_eggOn 7 = .ok (.iconst 5, 1) := by decide +kernel
theorem dX7_eggOn_8 : decode cX7_eggOn 8 = .ok (.if_icmp .ge 34, 3) := by decide +kernel
theorem dX7_eggOn_11 : decode cX7_eggOn 11 = .ok (.aload_n 0, 1) := by decide +kernel
theorem dX7_eggOn_12 : decode cX7_eggOn 12 = .ok (.iload_n 1, 1) := by decide +kernel
theorem dX7_eggOn_13 : decode cX7_eggOn 13 = .ok (.iload_n 2, 1) := by decide +kernel
theorem dX7_eggOn_14 : decode cX7_eggOn 14 = .ok (.iload 4, 2) := by decide +kernel
theorem dX7_eggOn_16 : decode cX7_eggOn 16 = .ok (.invokevirtual 136, 3) := by decide +kernel
theorem dX7_eggOn_19 : decode cX7_eggOn 19 = .ok (.aload_n 0, 1) := by decide +kernel
theorem dX7_eggOn_20 : decode cX7_eggOn 20 = .ok (.iload_n 1, 1) := by decide +kernel
theorem dX7_eggOn_21 : decode cX7_eggOn 21 = .ok (.iload_n 2, 1) := by decide +kernel
theorem dX7_eggOn_22 : decode cX7_eggOn 22 = .ok (.iload_n 3, 1) := by decide +kernel
theorem dX7_eggOn_23 : decode cX7_eggOn 23 = .ok (.invokevirtual 136, 3) := by decide +kernel
theorem dX7_eggOn_26 : decode cX7_eggOn 26 = .ok (.if_icmp .le 8, 3) := by decide +kernel
theorem dX7_eggOn_29 : decode cX7_eggOn 29 = .ok (.iload 4, 2) := by decide +kernel
theorem dX7_eggOn_31 : decode cX7_eggOn 31 = .ok (.goto 4, 3) := by decide +kernel
theorem dX7_eggOn_34 : decode cX7_eggOn 34 = .ok (.iload_n 3, 1) := by decide +kernel
theorem dX7_eggOn_35 : decode cX7_eggOn 35 = .ok (.istore_n 3, 1) := by decide +kernel
theorem dX7_eggOn_36 : decode cX7_eggOn 36 = .ok (.iinc 4 1, 3) := by decide +kernel
theorem dX7_eggOn_39 : decode cX7_eggOn 39 = .ok (.goto (-34), 3) := by decide +kernel
theorem dX7_eggOn_42 : decode cX7_eggOn 42 = .ok (.aload_n 0, 1) := by decide +kernel
theorem dX7_eggOn_43 : decode cX7_eggOn 43 = .ok (.getfield 7, 3) := by decide +kernel
theorem dX7_eggOn_46 : decode cX7_eggOn 46 = .ok (.iload_n 1, 1) := by decide +kernel
theorem dX7_eggOn_47 : decode cX7_eggOn 47 = .ok (.iconst 3, 1) := by decide +kernel
theorem dX7_eggOn_48 : decode cX7_eggOn 48 = .ok (.iadd, 1) := by decide +kernel
theorem dX7_eggOn_49 : decode cX7_eggOn 49 = .ok (.iload_n 2, 1) := by decide +kernel
theorem dX7_eggOn_50 : decode cX7_eggOn 50 = .ok (.iadd, 1) := by decide +kernel
theorem dX7_eggOn_51 : decode cX7_eggOn 51 = .ok (.iaload, 1) := by decide +kernel
theorem dX7_eggOn_52 : decode cX7_eggOn 52 = .ok (.istore 4, 2) := by decide +kernel
theorem dX7_eggOn_54 : decode cX7_eggOn 54 = .ok (.aload_n 0, 1) := by decide +kernel
theorem dX7_eggOn_55 : decode cX7_eggOn 55 = .ok (.iload_n 1, 1) := by decide +kernel
theorem dX7_eggOn_56 : decode cX7_eggOn 56 = .ok (.iload_n 2, 1) := by decide +kernel
theorem dX7_eggOn_57 : decode cX7_eggOn 57 = .ok (.iload 4, 2) := by decide +kernel
theorem dX7_eggOn_59 : decode cX7_eggOn 59 = .ok (.invokevirtual 136, 3) := by decide +kernel
theorem dX7_eggOn_62 : decode cX7_eggOn 62 = .ok (.aload_n 0, 1) := by decide +kernel
theorem dX7_eggOn_63 : decode cX7_eggOn 63 = .ok (.iload_n 1, 1) := by decide +kernel
theorem dX7_eggOn_64 : decode cX7_eggOn 64 = .ok (.iload_n 2, 1) := by decide +kernel
theorem dX7_eggOn_65 : decode cX7_eggOn 65 = .ok (.iload_n 3, 1) := by decide +kernel
theorem dX7_eggOn_66 : decode cX7_eggOn 66 = .ok (.invokevirtual 136, 3) := by decide +kernel
theorem dX7_eggOn_69 : decode cX7_eggOn 69 = .ok (.if_icmp .ne 8, 3) := by decide +kernel
theorem dX7_eggOn_72 : decode cX7_eggOn 72 = .ok (.iload 4, 2) := by decide +kernel
theorem dX7_eggOn_74 : decode cX7_eggOn 74 = .ok (.goto 4, 3) := by decide +kernel
theorem dX7_eggOn_77 : decode cX7_eggOn 77 = .ok (.iload_n 3, 1) := by decide +kernel
theorem dX7_eggOn_78 : decode cX7_eggOn 78 = .ok (.istore_n 3, 1) := by decide +kernel
theorem dX7_eggOn_79 : decode cX7_eggOn 79 = .ok (.aload_n 0, 1) := by decide +kernel
theorem dX7_eggOn_80 : decode cX7_eggOn 80 = .ok (.iload_n 1, 1) := by decide +kernel
theorem dX7_eggOn_81 : decode cX7_eggOn 81 = .ok (.iload_n 2, 1) := by decide +kernel
theorem dX7_eggOn_82 : decode cX7_eggOn 82 = .ok (.invokevirtual 139, 3) := by decide +kernel
theorem dX7_eggOn_85 : decode cX7_eggOn 85 = .ok (.ifCond .ne 8, 3) := by decide +kernel
theorem dX7_eggOn_88 : decode cX7_eggOn 88 = .ok (.bipush (-4), 2) := by decide +kernel
theorem dX7_eggOn_90 : decode cX7_eggOn 90 = .ok (.goto 4, 3) := by decide +kernel
theorem dX7_eggOn_93 : decode cX7_eggOn 93 = .ok (.iload_n 3, 1) := by decide +kernel
theorem dX7_eggOn_94 : decode cX7_eggOn 94 = .ok (.ireturn, 1) := by decide +kernel
set_option maxRecDepth 20000 in
theorem ggX7_eggsNow_X7_eggOn : GoodIn wsX7_eggsNow wsX7_eggOn := goodIn_r _ [6, 7, 8, 9, 10, 5, 11, 12, 13, 14, 15, 16, 17, 18, 19, 20, 21, 22, 23, 24, 25, 26, 27, 28, 29, 30, 31, 32, 33, 34, 35, 36, 37, 38, 39, 40, 41, 42, 43, 44, 45, 46, 47, 48, 49] (by decide +kernel) (by decide +kernel)
set_option maxRecDepth 20000 in
theorem gX7_eggsNow_X7_eggOn : GoodIn wsX7_eggsNow (wsV RX7 143 RX7 yX7_eggOn wsX7_eggOn) := goodIn_app (goodIn_of _ (by decide +kernel)) ggX7_eggsNow_X7_eggOn
theorem dX7_eggsNow_0 : decode cX7_eggsNow 0 = .ok (.iconst 0, 1) := by decide +kernel
theorem dX7_eggsNow_1 : decode cX7_eggsNow 1 = .ok (.istore_n 3, 1) := by decide +kernel
theorem dX7_eggsNow_2 : decode cX7_eggsNow 2 = .ok (.iconst 0, 1) := by decide +kernel
theorem dX7_eggsNow_3 : decode cX7_eggsNow 3 = .ok (.istore 4, 2) := by decide +kernel
theorem dX7_eggsNow_5 : decode cX7_eggsNow 5 = .ok (.iload 4, 2) := by decide +kernel
theorem dX7_eggsNow_7 : decode cX7_eggsNow 7 = .ok (.aload_n 0, 1) := by decide +kernel
theorem dX7_eggsNow_8 : decode cX7_eggsNow 8 = .ok (.getfield 128, 3) := by decide +kernel
theorem dX7_eggsNow_11 : decode cX7_eggsNow 11 = .ok (.if_icmp .ge 31, 3) := by decide +kernel
theorem dX7_eggsNow_14 : decode cX7_eggsNow 14 = .ok (.iload_n 3, 1) := by decide +kernel
theorem dX7_eggsNow_15 : decode cX7_eggsNow 15 = .ok (.aload_n 0, 1) := by decide +kernel
theorem dX7_eggsNow_16 : decode cX7_eggsNow 16 = .ok (.iload_n 1, 1) := by decide +kernel
theorem dX7_eggsNow_17 : decode cX7_eggsNow 17 = .ok (.iload 4, 2) := by decide +kernel
theorem dX7_eggsNow_19 : decode cX7_eggsNow 19 = .ok (.invokevirtual 143, 3) := by decide +kernel
theorem dX7_eggsNow_22 : decode cX7_eggsNow 22 = .ok (.iload_n 2, 1) := by decide +kernel
theorem dX7_eggsNow_23 : decode cX7_eggsNow 23 = .ok (.if_icmp .ne 10, 3) := by decide +kernel
theorem dX7_eggsNow_26 : decode cX7_eggsNow 26 = .ok (.iconst 1, 1) := by decide +kernel
theorem dX7_eggsNow_27 : decode cX7_eggsNow 27 = .ok (.iload 4, 2) := by decide +kernel
theorem dX7_eggsNow_29 : decode cX7_eggsNow 29 = .ok (.ishl, 1) := by decide +kernel
theorem dX7_eggsNow_30 : decode cX7_eggsNow 30 = .ok (.goto 4, 3) := by decide +kernel
theorem dX7_eggsNow_33 : decode cX7_eggsNow 33 = .ok (.iconst 0, 1) := by decide +kernel
theorem dX7_eggsNow_34 : decode cX7_eggsNow 34 = .ok (.ior, 1) := by decide +kernel
theorem dX7_eggsNow_35 : decode cX7_eggsNow 35 = .ok (.istore_n 3, 1) := by decide +kernel
theorem dX7_eggsNow_36 : decode cX7_eggsNow 36 = .ok (.iinc 4 1, 3) := by decide +kernel
theorem dX7_eggsNow_39 : decode cX7_eggsNow 39 = .ok (.goto (-34), 3) := by decide +kernel
theorem dX7_eggsNow_42 : decode cX7_eggsNow 42 = .ok (.iload_n 3, 1) := by decide +kernel
theorem dX7_eggsNow_43 : decode cX7_eggsNow 43 = .ok (.ireturn, 1) := by decide +kernel
set_option maxRecDepth 20000 in
theorem ggX7_worthOn_X7_moneyOn : GoodIn wsX7_worthOn wsX7_moneyOn := goodIn_r _ [7, 2, 12, 13, 14, 15, 16, 17, 18, 19, 20, 21, 22, 23, 24, 25, 26, 27, 28, 29, 30, 31, 32, 33, 34, 35, 36, 37, 38, 39, 40, 41, 42, 43, 44, 45] (by decide +kernel) (by decide +kernel)
set_option maxRecDepth 20000 in
theorem gX7_worthOn_X7_moneyOn : GoodIn wsX7_worthOn (wsV RX7 146 RX7 yX7_moneyOn wsX7_moneyOn) := goodIn_app (goodIn_of _ (by decide +kernel)) ggX7_worthOn_X7_moneyOn
set_option maxRecDepth 20000 in
theorem ggX7_worthOn_X7_shareOn : GoodIn wsX7_worthOn wsX7_shareOn := goodIn_r _ [11, 2, 12, 13, 14, 15, 16, 17, 18, 19, 20, 21, 22, 23, 24, 25, 26, 27, 28, 29, 30, 31, 32, 33, 34, 35, 36, 37, 38, 39, 40, 41, 42, 43, 44, 45] (by decide +kernel) (by decide +kernel)
set_option maxRecDepth 20000 in
theorem gX7_worthOn_X7_shareOn : GoodIn wsX7_worthOn (wsV RX7 136 RX7 yX7_shareOn wsX7_shareOn) := goodIn_app (goodIn_of _ (by decide +kernel)) ggX7_worthOn_X7_shareOn
theorem dX7_worthOn_0 : decode cX7_worthOn 0 = .ok (.aload_n 0, 1) := by decide +kernel
theorem dX7_worthOn_1 : decode cX7_worthOn 1 = .ok (.iload_n 1, 1) := by decide +kernel
theorem dX7_worthOn_2 : decode cX7_worthOn 2 = .ok (.iload_n 2, 1) := by decide +kernel
theorem dX7_worthOn_3 : decode cX7_worthOn 3 = .ok (.invokevirtual 146, 3) := by decide +kernel
theorem dX7_worthOn_6 : decode cX7_worthOn 6 = .ok (.istore_n 3, 1) := by decide +kernel
theorem dX7_worthOn_7 : decode cX7_worthOn 7 = .ok (.iconst 0, 1) := by decide +kernel
theorem dX7_worthOn_8 : decode cX7_worthOn 8 = .ok (.istore 4, 2) := by decide +kernel
theorem dX7_worthOn_10 : decode cX7_worthOn 10 = .ok (.iload 4, 2) := by decide +kernel
theorem dX7_worthOn_12 : decode cX7_worthOn 12 = .ok (.aload_n 0, 1) := by decide +kernel
theorem dX7_worthOn_13 : decode cX7_worthOn 13 = .ok (.getfield 128, 3) := by decide +kernel
theorem dX7_worthOn_16 : decode cX7_worthOn 16 = .ok (.if_icmp .ge 33, 3) := by decide +kernel
theorem dX7_worthOn_19 : decode cX7_worthOn 19 = .ok (.iload_n 3, 1) := by decide +kernel
theorem dX7_worthOn_20 : decode cX7_worthOn 20 = .ok (.aload_n 0, 1) := by decide +kernel
theorem dX7_worthOn_21 : decode cX7_worthOn 21 = .ok (.iload_n 1, 1) := by decide +kernel
theorem dX7_worthOn_22 : decode cX7_worthOn 22 = .ok (.iload 4, 2) := by decide +kernel
theorem dX7_worthOn_24 : decode cX7_worthOn 24 = .ok (.iload_n 2, 1) := by decide +kernel
theorem dX7_worthOn_25 : decode cX7_worthOn 25 = .ok (.invokevirtual 136, 3) := by decide +kernel
theorem dX7_worthOn_28 : decode cX7_worthOn 28 = .ok (.aload_n 0, 1) := by decide +kernel
theorem dX7_worthOn_29 : decode cX7_worthOn 29 = .ok (.getfield 7, 3) := by decide +kernel
theorem dX7_worthOn_32 : decode cX7_worthOn 32 = .ok (.iload_n 1, 1) := by decide +kernel
theorem dX7_worthOn_33 : decode cX7_worthOn 33 = .ok (.bipush 6, 2) := by decide +kernel
theorem dX7_worthOn_35 : decode cX7_worthOn 35 = .ok (.iadd, 1) := by decide +kernel
theorem dX7_worthOn_36 : decode cX7_worthOn 36 = .ok (.iload 4, 2) := by decide +kernel
theorem dX7_worthOn_38 : decode cX7_worthOn 38 = .ok (.iadd, 1) := by decide +kernel
theorem dX7_worthOn_39 : decode cX7_worthOn 39 = .ok (.iaload, 1) := by decide +kernel
theorem dX7_worthOn_40 : decode cX7_worthOn 40 = .ok (.imul, 1) := by decide +kernel
theorem dX7_worthOn_41 : decode cX7_worthOn 41 = .ok (.iadd, 1) := by decide +kernel
theorem dX7_worthOn_42 : decode cX7_worthOn 42 = .ok (.istore_n 3, 1) := by decide +kernel
theorem dX7_worthOn_43 : decode cX7_worthOn 43 = .ok (.iinc 4 1, 3) := by decide +kernel
theorem dX7_worthOn_46 : decode cX7_worthOn 46 = .ok (.goto (-36), 3) := by decide +kernel
theorem dX7_worthOn_49 : decode cX7_worthOn 49 = .ok (.iload_n 3, 1) := by decide +kernel
theorem dX7_worthOn_50 : decode cX7_worthOn 50 = .ok (.ireturn, 1) := by decide +kernel
theorem dX7_losesOf_0 : decode cX7_losesOf 0 = .ok (.iload_n 1, 1) := by decide +kernel
theorem dX7_losesOf_1 : decode cX7_losesOf 1 = .ok (.bipush 8, 2) := by decide +kernel
theorem dX7_losesOf_3 : decode cX7_losesOf 3 = .ok (.idiv, 1) := by decide +kernel
theorem dX7_losesOf_4 : decode cX7_losesOf 4 = .ok (.istore_n 2, 1) := by decide +kernel
theorem dX7_losesOf_5 : decode cX7_losesOf 5 = .ok (.iconst 2, 1) := by decide +kernel
theorem dX7_losesOf_6 : decode cX7_losesOf 6 = .ok (.iload_n 2, 1) := by decide +kernel
theorem dX7_losesOf_7 : decode cX7_losesOf 7 = .ok (.imul, 1) := by decide +kernel
theorem dX7_losesOf_8 : decode cX7_losesOf 8 = .ok (.iconst 1, 1) := by decide +kernel
theorem dX7_losesOf_9 : decode cX7_losesOf 9 = .ok (.iadd, 1) := by decide +kernel
theorem dX7_losesOf_10 : decode cX7_losesOf 10 = .ok (.iload_n 1, 1) := by decide +kernel
theorem dX7_losesOf_11 : decode cX7_losesOf 11 = .ok (.if_icmp .le 7, 3) := by decide +kernel
theorem dX7_losesOf_14 : decode cX7_losesOf 14 = .ok (.iload_n 1, 1) := by decide +kernel
theorem dX7_losesOf_15 : decode cX7_losesOf 15 = .ok (.goto 8, 3) := by decide +kernel
theorem dX7_losesOf_18 : decode cX7_losesOf 18 = .ok (.iconst 2, 1) := by decide +kernel
theorem dX7_losesOf_19 : decode cX7_losesOf 19 = .ok (.iload_n 2, 1) := by decide +kernel
theorem dX7_losesOf_20 : decode cX7_losesOf 20 = .ok (.imul, 1) := by decide +kernel
theorem dX7_losesOf_21 : decode cX7_losesOf 21 = .ok (.iconst 1, 1) := by decide +kernel
theorem dX7_losesOf_22 : decode cX7_losesOf 22 = .ok (.iadd, 1) := by decide +kernel
theorem dX7_losesOf_23 : decode cX7_losesOf 23 = .ok (.istore_n 3, 1) := by decide +kernel
theorem dX7_losesOf_24 : decode cX7_losesOf 24 = .ok (.iload_n 0, 1) := by decide +kernel
theorem dX7_losesOf_25 : decode cX7_losesOf 25 = .ok (.ifCond .ne 7, 3) := by decide +kernel
theorem dX7_losesOf_28 : decode cX7_losesOf 28 = .ok (.iload_n 2, 1) := by decide +kernel
theorem dX7_losesOf_29 : decode cX7_losesOf 29 = .ok (.goto 34, 3) := by decide +kernel
theorem dX7_losesOf_32 : decode cX7_losesOf 32 = .ok (.iload_n 0, 1) := by decide +kernel
theorem dX7_losesOf_33 : decode cX7_losesOf 33 = .ok (.iconst 1, 1) := by decide +kernel
theorem dX7_losesOf_34 : decode cX7_losesOf 34 = .ok (.if_icmp .ne 7, 3) := by decide +kernel
theorem dX7_losesOf_37 : decode cX7_losesOf 37 = .ok (.iload_n 3, 1) := by decide +kernel
theorem dX7_losesOf_38 : decode cX7_losesOf 38 = .ok (.goto 25, 3) := by decide +kernel
theorem dX7_losesOf_41 : decode cX7_losesOf 41 = .ok (.iload_n 0, 1) := by decide +kernel
theorem dX7_losesOf_42 : decode cX7_losesOf 42 = .ok (.iconst 2, 1) := by decide +kernel
theorem dX7_losesOf_43 : decode cX7_losesOf 43 = .ok (.if_icmp .ne 9, 3) := by decide +kernel
theorem dX7_losesOf_46 : decode cX7_losesOf 46 = .ok (.iload_n 3, 1) := by decide +kernel
theorem dX7_losesOf_47 : decode cX7_losesOf 47 = .ok (.iconst 2, 1) := by decide +kernel
theorem dX7_losesOf_48 : decode cX7_losesOf 48 = .ok (.idiv, 1) := by decide +kernel
theorem dX7_losesOf_49 : decode cX7_losesOf 49 = .ok (.goto 14, 3) := by decide +kernel
theorem dX7_losesOf_52 : decode cX7_losesOf 52 = .ok (.iload_n 2, 1) := by decide +kernel
theorem dX7_losesOf_53 : decode cX7_losesOf 53 = .ok (.ifCond .le 9, 3) := by decide +kernel
theorem dX7_losesOf_56 : decode cX7_losesOf 56 = .ok (.iload_n 2, 1) := by decide +kernel
theorem dX7_losesOf_57 : decode cX7_losesOf 57 = .ok (.iconst 1, 1) := by decide +kernel
theorem dX7_losesOf_58 : decode cX7_losesOf 58 = .ok (.isub, 1) := by decide +kernel
theorem dX7_losesOf_59 : decode cX7_losesOf 59 = .ok (.goto 4, 3) := by decide +kernel
theorem dX7_losesOf_62 : decode cX7_losesOf 62 = .ok (.iconst 0, 1) := by decide +kernel
theorem dX7_losesOf_63 : decode cX7_losesOf 63 = .ok (.ireturn, 1) := by decide +kernel
set_option maxRecDepth 20000 in
theorem ggX7_moultsOn_X7_shareOn : GoodIn wsX7_moultsOn wsX7_shareOn := goodIn_r _ [6, 1, 10, 11, 12, 13, 14, 15, 16, 17, 18, 19, 20, 21, 22, 23, 24, 25, 26, 27, 28, 29, 30, 31, 32, 33, 34, 35, 36, 37, 38, 39, 40, 41, 42, 43] (by decide +kernel) (by decide +kernel)
set_option maxRecDepth 20000 in
theorem gX7_moultsOn_X7_shareOn : GoodIn wsX7_moultsOn (wsV RX7 136 RX7 yX7_shareOn wsX7_shareOn) := goodIn_app (goodIn_of _ (by decide +kernel)) ggX7_moultsOn_X7_shareOn
set_option maxRecDepth 20000 in
theorem ggX7_moultsOn_X7_losesOf : GoodIn wsX7_moultsOn wsX7_losesOf := goodIn_r _ [9] (by decide +kernel) (by decide +kernel)
set_option maxRecDepth 20000 in
theorem gX7_moultsOn_X7_losesOf : GoodIn wsX7_moultsOn (va_wsS RX7 149 yX7_losesOf wsX7_losesOf) := goodIn_app (goodIn_of _ (by decide +kernel)) ggX7_moultsOn_X7_losesOf
theorem dX7_moultsOn_0 : decode cX7_moultsOn 0 = .ok (.iconst 0, 1) := by decide +kernel
theorem dX7_moultsOn_1 : decode cX7_moultsOn 1 = .ok (.istore_n 3, 1) := by decide +kernel
theorem dX7_moultsOn_2 : decode cX7_moultsOn 2 = .ok (.iconst 0, 1) := by decide +kernel
theorem dX7_moultsOn_3 : decode cX7_moultsOn 3 = .ok (.istore 4, 2) := by decide +kernel
theorem dX7_moultsOn_5 : decode cX7_moultsOn 5 = .ok (.iload 4, 2) := by decide +kernel
theorem dX7_moultsOn_7 : decode cX7_moultsOn 7 = .ok (.iconst 5, 1) := by decide +kernel
theorem dX7_moultsOn_8 : decode cX7_moultsOn 8 = .ok (.if_icmp .ge 56, 3) := by decide +kernel
theorem dX7_moultsOn_11 : decode cX7_moultsOn 11 = .ok (.aload_n 0, 1) := by decide +kernel
theorem dX7_moultsOn_12 : decode cX7_moultsOn 12 = .ok (.getfield 7, 3) := by decide +kernel
theorem dX7_moultsOn_15 : decode cX7_moultsOn 15 = .ok (.iload_n 1, 1) := by decide +kernel
theorem dX7_moultsOn_16 : decode cX7_moultsOn 16 = .ok (.iload_n 2, 1) := by decide +kernel
theorem dX7_moultsOn_17 : decode cX7_moultsOn 17 = .ok (.iadd, 1) := by decide +kernel
theorem dX7_moultsOn_18 : decode cX7_moultsOn 18 = .ok (.iaload, 1) := by decide +kernel
theorem dX7_moultsOn_19 : decode cX7_moultsOn 19 = .ok (.aload_n 0, 1) := by decide +kernel
theorem dX7_moultsOn_20 : decode cX7_moultsOn 20 = .ok (.iload_n 1, 1) := by decide +kernel
theorem dX7_moultsOn_21 : decode cX7_moultsOn 21 = .ok (.iload_n 2, 1) := by decide +kernel
theorem dX7_moultsOn_22 : decode cX7_moultsOn 22 = .ok (.iload 4, 2) := by decide +kernel
theorem dX7_moultsOn_24 : decode cX7_moultsOn 24 = .ok (.invokevirtual 136, 3) := by decide +kernel
theorem dX7_moultsOn_27 : decode cX7_moultsOn 27 = .ok (.invokestatic 149, 3) := by decide +kernel
theorem dX7_moultsOn_30 : decode cX7_moultsOn 30 = .ok (.istore 5, 2) := by decide +kernel
theorem dX7_moultsOn_32 : decode cX7_moultsOn 32 = .ok (.aload_n 0, 1) := by decide +kernel
theorem dX7_moultsOn_33 : decode cX7_moultsOn 33 = .ok (.getfield 7, 3) := by decide +kernel
theorem dX7_moultsOn_36 : decode cX7_moultsOn 36 = .ok (.iload_n 1, 1) := by decide +kernel
theorem dX7_moultsOn_37 : decode cX7_moultsOn 37 = .ok (.bipush 19, 2) := by decide +kernel
theorem dX7_moultsOn_39 : decode cX7_moultsOn 39 = .ok (.iadd, 1) := by decide +kernel
theorem dX7_moultsOn_40 : decode cX7_moultsOn 40 = .ok (.iconst 5, 1) := by decide +kernel
theorem dX7_moultsOn_41 : decode cX7_moultsOn 41 = .ok (.iload_n 2, 1) := by decide +kernel
theorem dX7_moultsOn_42 : decode cX7_moultsOn 42 = .ok (.imul, 1) := by decide +kernel
theorem dX7_moultsOn_43 : decode cX7_moultsOn 43 = .ok (.iadd, 1) := by decide +kernel
theorem dX7_moultsOn_44 : decode cX7_moultsOn 44 = .ok (.iload 4, 2) := by decide +kernel
theorem dX7_moultsOn_46 : decode cX7_moultsOn 46 = .ok (.iadd, 1) := by decide +kernel
theorem dX7_moultsOn_47 : decode cX7_moultsOn 47 = .ok (.dup2, 1) := by decide +kernel
theorem dX7_moultsOn_48 : decode cX7_moultsOn 48 = .ok (.iaload, 1) := by decide +kernel
theorem dX7_moultsOn_49 : decode cX7_moultsOn 49 = .ok (.iload 5, 2) := by decide +kernel
theorem dX7_moultsOn_51 : decode cX7_moultsOn 51 = .ok (.isub, 1) := by decide +kernel
theorem dX7_moultsOn_52 : decode cX7_moultsOn 52 = .ok (.iastore, 1) := by decide +kernel
theorem dX7_moultsOn_53 : decode cX7_moultsOn 53 = .ok (.iload_n 3, 1) := by decide +kernel
theorem dX7_moultsOn_54 : decode cX7_moultsOn 54 = .ok (.iload 5, 2) := by decide +kernel
theorem dX7_moultsOn_56 : decode cX7_moultsOn 56 = .ok (.iadd, 1) := by decide +kernel
theorem dX7_moultsOn_57 : decode cX7_moultsOn 57 = .ok (.istore_n 3, 1) := by decide +kernel
theorem dX7_moultsOn_58 : decode cX7_moultsOn 58 = .ok (.iinc 4 1, 3) := by decide +kernel
theorem dX7_moultsOn_61 : decode cX7_moultsOn 61 = .ok (.goto (-56), 3) := by decide +kernel
theorem dX7_moultsOn_64 : decode cX7_moultsOn 64 = .ok (.iload_n 1, 1) := by decide +kernel
theorem dX7_moultsOn_65 : decode cX7_moultsOn 65 = .ok (.bipush 19, 2) := by decide +kernel
theorem dX7_moultsOn_67 : decode cX7_moultsOn 67 = .ok (.iadd, 1) := by decide +kernel
theorem dX7_moultsOn_68 : decode cX7_moultsOn 68 = .ok (.iconst 5, 1) := by decide +kernel
theorem dX7_moultsOn_69 : decode cX7_moultsOn 69 = .ok (.iload_n 2, 1) := by decide +kernel
theorem dX7_moultsOn_70 : decode cX7_moultsOn 70 = .ok (.imul, 1) := by decide +kernel
theorem dX7_moultsOn_71 : decode cX7_moultsOn 71 = .ok (.iadd, 1) := by decide +kernel
theorem dX7_moultsOn_72 : decode cX7_moultsOn 72 = .ok (.aload_n 0, 1) := by decide +kernel
theorem dX7_moultsOn_73 : decode cX7_moultsOn 73 = .ok (.getfield 7, 3) := by decide +kernel
theorem dX7_moultsOn_76 : decode cX7_moultsOn 76 = .ok (.iload_n 1, 1) := by decide +kernel
theorem dX7_moultsOn_77 : decode cX7_moultsOn 77 = .ok (.iconst 3, 1) := by decide +kernel
theorem dX7_moultsOn_78 : decode cX7_moultsOn 78 = .ok (.iadd, 1) := by decide +kernel
theorem dX7_moultsOn_79 : decode cX7_moultsOn 79 = .ok (.iload_n 2, 1) := by decide +kernel
theorem dX7_moultsOn_80 : decode cX7_moultsOn 80 = .ok (.iadd, 1) := by decide +kernel
theorem dX7_moultsOn_81 : decode cX7_moultsOn 81 = .ok (.iaload, 1) := by decide +kernel
theorem dX7_moultsOn_82 : decode cX7_moultsOn 82 = .ok (.iadd, 1) := by decide +kernel
theorem dX7_moultsOn_83 : decode cX7_moultsOn 83 = .ok (.istore 4, 2) := by decide +kernel
theorem dX7_moultsOn_85 : decode cX7_moultsOn 85 = .ok (.aload_n 0, 1) := by decide +kernel
theorem dX7_moultsOn_86 : decode cX7_moultsOn 86 = .ok (.getfield 7, 3) := by decide +kernel
theorem dX7_moultsOn_89 : decode cX7_moultsOn 89 = .ok (.iload 4, 2) := by decide +kernel
theorem dX7_moultsOn_91 : decode cX7_moultsOn 91 = .ok (.iaload, 1) := by decide +kernel
theorem dX7_moultsOn_92 : decode cX7_moultsOn 92 = .ok (.iload_n 3, 1) := by decide +kernel
theorem dX7_moultsOn_93 : decode cX7_moultsOn 93 = .ok (.iconst 1, 1) := by decide +kernel
theorem dX7_moultsOn_94 : decode cX7_moultsOn 94 = .ok (.iadd, 1) := by decide +kernel
theorem dX7_moultsOn_95 : decode cX7_moultsOn 95 = .ok (.iconst 2, 1) := by decide +kernel
theorem dX7_moultsOn_96 : decode cX7_moultsOn 96 = .ok (.idiv, 1) := by decide +kernel
theorem dX7_moultsOn_97 : decode cX7_moultsOn 97 = .ok (.iadd, 1) := by decide +kernel
theorem dX7_moultsOn_98 : decode cX7_moultsOn 98 = .ok (.istore 5, 2) := by decide +kernel
theorem dX7_moultsOn_100 : decode cX7_moultsOn 100 = .ok (.aload_n 0, 1) := by decide +kernel
theorem dX7_moultsOn_101 : decode cX7_moultsOn 101 = .ok (.getfield 7, 3) := by decide +kernel
theorem dX7_moultsOn_104 : decode cX7_moultsOn 104 = .ok (.iload 4, 2) := by decide +kernel
theorem dX7_moultsOn_106 : decode cX7_moultsOn 106 = .ok (.iload 5, 2) := by decide +kernel
theorem dX7_moultsOn_108 : decode cX7_moultsOn 108 = .ok (.bipush 99, 2) := by decide +kernel
theorem dX7_moultsOn_110 : decode cX7_moultsOn 110 = .ok (.if_icmp .le 8, 3) := by decide +kernel
theorem dX7_moultsOn_113 : decode cX7_moultsOn 113 = .ok (.bipush 99, 2) := by decide +kernel
theorem dX7_moultsOn_115 : decode cX7_moultsOn 115 = .ok (.goto 5, 3) := by decide +kernel
theorem dX7_moultsOn_118 : decode cX7_moultsOn 118 = .ok (.iload 5, 2) := by decide +kernel
theorem dX7_moultsOn_120 : decode cX7_moultsOn 120 = .ok (.iastore, 1) := by decide +kernel
theorem dX7_moultsOn_121 : decode cX7_moultsOn 121 = .ok (.return_, 1) := by decide +kernel
set_option maxRecDepth 20000 in
theorem ggX7_weekOn_X7_eggOn : GoodIn wsX7_weekOn wsX7_eggOn := goodIn_r _ [7, 2, 8, 9, 10, 6, 11, 12, 13, 14, 15, 23, 24, 25, 26, 27, 28, 29, 30, 31, 32, 33, 34, 35, 36, 37, 38, 39, 40, 41, 42, 43, 44, 45, 46, 47, 48, 49, 50, 51, 52, 53, 54, 55, 56] (by decide +kernel) (by decide +kernel)
set_option maxRecDepth 20000 in
theorem gX7_weekOn_X7_eggOn : GoodIn wsX7_weekOn (wsV RX7 143 RX7 yX7_eggOn wsX7_eggOn) := goodIn_app (goodIn_of _ (by decide +kernel)) ggX7_weekOn_X7_eggOn
set_option maxRecDepth 20000 in
theorem ggX7_weekOn_X7_moultsOn : GoodIn wsX7_weekOn wsX7_moultsOn := goodIn_r _ [19, 2, 8, 9, 10, 6, 11, 20, 21, 22, 23, 24, 25, 26, 27, 28, 29, 30, 31, 32, 33, 34, 35, 36, 37, 38, 39, 40, 41, 42, 43, 44, 45, 46, 47, 48, 49, 50, 51, 52, 53, 54, 55, 56] (by decide +kernel) (by decide +kernel)
set_option maxRecDepth 20000 in
theorem gX7_weekOn_X7_moultsOn : GoodIn wsX7_weekOn (wsV RX7 152 RX7 yX7_moultsOn wsX7_moultsOn) := goodIn_app (goodIn_of _ (by decide +kernel)) ggX7_weekOn_X7_moultsOn
theorem dX7_weekOn_0 : decode cX7_weekOn 0 = .ok (.iconst 0, 1) := by decide +kernel
theorem dX7_weekOn_1 : decode cX7_weekOn 1 = .ok (.istore_n 3, 1) := by decide +kernel
theorem dX7_weekOn_2 : decode cX7_weekOn 2 = .ok (.iconst 0, 1) := by decide +kernel
theorem dX7_weekOn_3 : decode cX7_weekOn 3 = .ok (.istore 4, 2) := by decide +kernel
theorem dX7_weekOn_5 : decode cX7_weekOn 5 = .ok (.iload 4, 2) := by decide +kernel
theorem dX7_weekOn_7 : decode cX7_weekOn 7 = .ok (.aload_n 0, 1) := by decide +kernel
theorem dX7_weekOn_8 : decode cX7_weekOn 8 = .ok (.getfield 128, 3) := by decide +kernel
theorem dX7_weekOn_11 : decode cX7_weekOn 11 = .ok (.if_icmp .ge 55, 3) := by decide +kernel
theorem dX7_weekOn_14 : decode cX7_weekOn 14 = .ok (.aload_n 0, 1) := by decide +kernel
theorem dX7_weekOn_15 : decode cX7_weekOn 15 = .ok (.iload_n 1, 1) := by decide +kernel
theorem dX7_weekOn_16 : decode cX7_weekOn 16 = .ok (.iload 4, 2) := by decide +kernel
theorem dX7_weekOn_18 : decode cX7_weekOn 18 = .ok (.invokevirtual 143, 3) := by decide +kernel
theorem dX7_weekOn_21 : decode cX7_weekOn 21 = .ok (.istore 5, 2) := by decide +kernel
theorem dX7_weekOn_23 : decode cX7_weekOn 23 = .ok (.iload 5, 2) := by decide +kernel
theorem dX7_weekOn_25 : decode cX7_weekOn 25 = .ok (.bipush (-4), 2) := by decide +kernel
theorem dX7_weekOn_27 : decode cX7_weekOn 27 = .ok (.if_icmp .eq 22, 3) := by decide +kernel
theorem dX7_weekOn_30 : decode cX7_weekOn 30 = .ok (.aload_n 0, 1) := by decide +kernel
theorem dX7_weekOn_31 : decode cX7_weekOn 31 = .ok (.getfield 7, 3) := by decide +kernel
theorem dX7_weekOn_34 : decode cX7_weekOn 34 = .ok (.iload_n 1, 1) := by decide +kernel
theorem dX7_weekOn_35 : decode cX7_weekOn 35 = .ok (.bipush 14, 2) := by decide +kernel
theorem dX7_weekOn_37 : decode cX7_weekOn 37 = .ok (.iadd, 1) := by decide +kernel
theorem dX7_weekOn_38 : decode cX7_weekOn 38 = .ok (.iload 5, 2) := by decide +kernel
theorem dX7_weekOn_40 : decode cX7_weekOn 40 = .ok (.iadd, 1) := by decide +kernel
theorem dX7_weekOn_41 : decode cX7_weekOn 41 = .ok (.dup2, 1) := by decide +kernel
theorem dX7_weekOn_42 : decode cX7_weekOn 42 = .ok (.iaload, 1) := by decide +kernel
theorem dX7_weekOn_43 : decode cX7_weekOn 43 = .ok (.iconst 1, 1) := by decide +kernel
theorem dX7_weekOn_44 : decode cX7_weekOn 44 = .ok (.iadd, 1) := by decide +kernel
theorem dX7_weekOn_45 : decode cX7_weekOn 45 = .ok (.iastore, 1) := by decide +kernel
theorem dX7_weekOn_46 : decode cX7_weekOn 46 = .ok (.iinc 3 1, 3) := by decide +kernel
theorem dX7_weekOn_49 : decode cX7_weekOn 49 = .ok (.iload_n 2, 1) := by decide +kernel
theorem dX7_weekOn_50 : decode cX7_weekOn 50 = .ok (.ifCond .eq 10, 3) := by decide +kernel
theorem dX7_weekOn_53 : decode cX7_weekOn 53 = .ok (.aload_n 0, 1) := by decide +kernel
theorem dX7_weekOn_54 : decode cX7_weekOn 54 = .ok (.iload_n 1, 1) := by decide +kernel
theorem dX7_weekOn_55 : decode cX7_weekOn 55 = .ok (.iload 4, 2) := by decide +kernel
theorem dX7_weekOn_57 : decode cX7_weekOn 57 = .ok (.invokevirtual 152, 3) := by decide +kernel
theorem dX7_weekOn_60 : decode cX7_weekOn 60 = .ok (.iinc 4 1, 3) := by decide +kernel
theorem dX7_weekOn_63 : decode cX7_weekOn 63 = .ok (.goto (-58), 3) := by decide +kernel
theorem dX7_weekOn_66 : decode cX7_weekOn 66 = .ok (.aload_n 0, 1) := by decide +kernel
theorem dX7_weekOn_67 : decode cX7_weekOn 67 = .ok (.getfield 7, 3) := by decide +kernel
theorem dX7_weekOn_70 : decode cX7_weekOn 70 = .ok (.iload_n 1, 1) := by decide +kernel
theorem dX7_weekOn_71 : decode cX7_weekOn 71 = .ok (.bipush 34, 2) := by decide +kernel
theorem dX7_weekOn_73 : decode cX7_weekOn 73 = .ok (.iadd, 1) := by decide +kernel
theorem dX7_weekOn_74 : decode cX7_weekOn 74 = .ok (.dup2, 1) := by decide +kernel
theorem dX7_weekOn_75 : decode cX7_weekOn 75 = .ok (.iaload, 1) := by decide +kernel
theorem dX7_weekOn_76 : decode cX7_weekOn 76 = .ok (.iconst 1, 1) := by decide +kernel
theorem dX7_weekOn_77 : decode cX7_weekOn 77 = .ok (.iadd, 1) := by decide +kernel
theorem dX7_weekOn_78 : decode cX7_weekOn 78 = .ok (.iastore, 1) := by decide +kernel
theorem dX7_weekOn_79 : decode cX7_weekOn 79 = .ok (.iload_n 3, 1) := by decide +kernel
theorem dX7_weekOn_80 : decode cX7_weekOn 80 = .ok (.ireturn, 1) := by decide +kernel
set_option maxRecDepth 20000 in
theorem ggX7_rule_X7_moneyOn : GoodIn wsX7_rule wsX7_moneyOn := goodIn_r _ [7, 1, 16, 17, 18, 19, 20, 21, 22, 23, 24, 25, 26, 27, 28, 29, 30, 31, 32, 33, 34, 35, 36, 37, 38, 39, 40, 41, 42, 43, 44, 45, 46, 47, 48, 49] (by decide +kernel) (by decide +kernel)
set_option maxRecDepth 20000 in
theorem gX7_rule_X7_moneyOn : GoodIn wsX7_rule (wsV RX7 146 RX7 yX7_moneyOn wsX7_moneyOn) := goodIn_app (goodIn_of _ (by decide +kernel)) ggX7_rule_X7_moneyOn
set_option maxRecDepth 20000 in
theorem ggX7_rule_X7_feathersOn : GoodIn wsX7_rule wsX7_feathersOn := goodIn_r _ [11, 12, 13, 14, 6, 15, 1, 16, 17, 18, 19, 20, 21, 22, 23, 24, 25, 26, 27, 28, 29, 30, 31, 32, 33, 34, 35, 36, 37, 38, 39, 40, 41, 42, 43, 44, 45, 46, 47, 48, 49] (by decide +kernel) (by decide +kernel)
set_option maxRecDepth 20000 in
theorem gX7_rule_X7_feathersOn : GoodIn wsX7_rule (wsV RX7 139 RX7 yX7_feathersOn wsX7_feathersOn) := goodIn_app (goodIn_of _ (by decide +kernel)) ggX7_rule_X7_feathersOn
theorem dX7_rule_0 : decode cX7_rule 0 = .ok (.iconst 0, 1) := by decide +kernel
theorem dX7_rule_1 : decode cX7_rule 1 = .ok (.istore_n 2, 1) := by decide +kernel
theorem dX7_rule_2 : decode cX7_rule 2 = .ok (.iconst 0, 1) := by decide +kernel
theorem dX7_rule_3 : decode cX7_rule 3 = .ok (.istore_n 3, 1) := by decide +kernel
theorem dX7_rule_4 : decode cX7_rule 4 = .ok (.iconst 0, 1) := by decide +kernel
theorem dX7_rule_5 : decode cX7_rule 5 = .ok (.istore 4, 2) := by decide +kernel
theorem dX7_rule_7 : decode cX7_rule 7 = .ok (.iconst 0, 1) := by decide +kernel
theorem dX7_rule_8 : decode cX7_rule 8 = .ok (.istore 5, 2) := by decide +kernel
theorem dX7_rule_10 : decode cX7_rule 10 = .ok (.iload 5, 2) := by decide +kernel
theorem dX7_rule_12 : decode cX7_rule 12 = .ok (.iconst 5, 1) := by decide +kernel
theorem dX7_rule_13 : decode cX7_rule 13 = .ok (.if_icmp .ge 32, 3) := by decide +kernel
theorem dX7_rule_16 : decode cX7_rule 16 = .ok (.iload_n 2, 1) := by decide +kernel
theorem dX7_rule_17 : decode cX7_rule 17 = .ok (.aload_n 0, 1) := by decide +kernel
theorem dX7_rule_18 : decode cX7_rule 18 = .ok (.iconst 0, 1) := by decide +kernel
theorem dX7_rule_19 : decode cX7_rule 19 = .ok (.iload 5, 2) := by decide +kernel
theorem dX7_rule_21 : decode cX7_rule 21 = .ok (.invokevirtual 146, 3) := by decide +kernel
theorem dX7_rule_24 : decode cX7_rule 24 = .ok (.iadd, 1) := by decide +kernel
theorem dX7_rule_25 : decode cX7_rule 25 = .ok (.istore_n 2, 1) := by decide +kernel
theorem dX7_rule_26 : decode cX7_rule 26 = .ok (.iload_n 3, 1) := by decide +kernel
theorem dX7_rule_27 : decode cX7_rule 27 = .ok (.aload_n 0, 1) := by decide +kernel
theorem dX7_rule_28 : decode cX7_rule 28 = .ok (.getfield 7, 3) := by decide +kernel
theorem dX7_rule_31 : decode cX7_rule 31 = .ok (.bipush 14, 2) := by decide +kernel
theorem dX7_rule_33 : decode cX7_rule 33 = .ok (.iload 5, 2) := by decide +kernel
theorem dX7_rule_35 : decode cX7_rule 35 = .ok (.iadd, 1) := by decide +kernel
theorem dX7_rule_36 : decode cX7_rule 36 = .ok (.iaload, 1) := by decide +kernel
theorem dX7_rule_37 : decode cX7_rule 37 = .ok (.iadd, 1) := by decide +kernel
theorem dX7_rule_38 : decode cX7_rule 38 = .ok (.istore_n 3, 1) := by decide +kernel
theorem dX7_rule_39 : decode cX7_rule 39 = .ok (.iinc 5 1, 3) := by decide +kernel
theorem dX7_rule_42 : decode cX7_rule 42 = .ok (.goto (-32), 3) := by decide +kernel
theorem dX7_rule_45 : decode cX7_rule 45 = .ok (.iconst 0, 1) := by decide +kernel
theorem dX7_rule_46 : decode cX7_rule 46 = .ok (.istore 5, 2) := by decide +kernel
theorem dX7_rule_48 : decode cX7_rule 48 = .ok (.iload 5, 2) := by decide +kernel
theorem dX7_rule_50 : decode cX7_rule 50 = .ok (.aload_n 0, 1) := by decide +kernel
theorem dX7_rule_51 : decode cX7_rule 51 = .ok (.getfield 128, 3) := by decide +kernel
theorem dX7_rule_54 : decode cX7_rule 54 = .ok (.if_icmp .ge 32, 3) := by decide +kernel
theorem dX7_rule_57 : decode cX7_rule 57 = .ok (.iload 4, 2) := by decide +kernel
theorem dX7_rule_59 : decode cX7_rule 59 = .ok (.aload_n 0, 1) := by decide +kernel
theorem dX7_rule_60 : decode cX7_rule 60 = .ok (.iconst 0, 1) := by decide +kernel
theorem dX7_rule_61 : decode cX7_rule 61 = .ok (.iload 5, 2) := by decide +kernel
theorem dX7_rule_63 : decode cX7_rule 63 = .ok (.invokevirtual 139, 3) := by decide +kernel
theorem dX7_rule_66 : decode cX7_rule 66 = .ok (.ifCond .ne 10, 3) := by decide +kernel
theorem dX7_rule_69 : decode cX7_rule 69 = .ok (.iconst 1, 1) := by decide +kernel
theorem dX7_rule_70 : decode cX7_rule 70 = .ok (.iload 5, 2) := by decide +kernel
theorem dX7_rule_72 : decode cX7_rule 72 = .ok (.ishl, 1) := by decide +kernel
theorem dX7_rule_73 : decode cX7_rule 73 = .ok (.goto 4, 3) := by decide +kernel
theorem dX7_rule_76 : decode cX7_rule 76 = .ok (.iconst 0, 1) := by decide +kernel
theorem dX7_rule_77 : decode cX7_rule 77 = .ok (.ior, 1) := by decide +kernel
theorem dX7_rule_78 : decode cX7_rule 78 = .ok (.istore 4, 2) := by decide +kernel
theorem dX7_rule_80 : decode cX7_rule 80 = .ok (.iinc 5 1, 3) := by decide +kernel
theorem dX7_rule_83 : decode cX7_rule 83 = .ok (.goto (-35), 3) := by decide +kernel
theorem dX7_rule_86 : decode cX7_rule 86 = .ok (.iload_n 1, 1) := by decide +kernel
theorem dX7_rule_87 : decode cX7_rule 87 = .ok (.tableswitch 65 0 5 #[37, 42, 50, 58, 60, 62], 37) := by decide +kernel
theorem dX7_rule_124 : decode cX7_rule 124 = .ok (.aload_n 0, 1) := by decide +kernel
theorem dX7_rule_125 : decode cX7_rule 125 = .ok (.getfield 128, 3) := by decide +kernel
theorem dX7_rule_128 : decode cX7_rule 128 = .ok (.ireturn, 1) := by decide +kernel
theorem dX7_rule_129 : decode cX7_rule 129 = .ok (.aload_n 0, 1) := by decide +kernel
theorem dX7_rule_130 : decode cX7_rule 130 = .ok (.getfield 7, 3) := by decide +kernel
theorem dX7_rule_133 : decode cX7_rule 133 = .ok (.bipush 34, 2) := by decide +kernel
theorem dX7_rule_135 : decode cX7_rule 135 = .ok (.iaload, 1) := by decide +kernel
theorem dX7_rule_136 : decode cX7_rule 136 = .ok (.ireturn, 1) := by decide +kernel
theorem dX7_rule_137 : decode cX7_rule 137 = .ok (.aload_n 0, 1) := by decide +kernel
theorem dX7_rule_138 : decode cX7_rule 138 = .ok (.getfield 7, 3) := by decide +kernel
theorem dX7_rule_141 : decode cX7_rule 141 = .ok (.bipush 59, 2) := by decide +kernel
theorem dX7_rule_143 : decode cX7_rule 143 = .ok (.iaload, 1) := by decide +kernel
theorem dX7_rule_144 : decode cX7_rule 144 = .ok (.ireturn, 1) := by decide +kernel
theorem dX7_rule_145 : decode cX7_rule 145 = .ok (.iload_n 2, 1) := by decide +kernel
theorem dX7_rule_146 : decode cX7_rule 146 = .ok (.ireturn, 1) := by decide +kernel
theorem dX7_rule_147 : decode cX7_rule 147 = .ok (.iload_n 3, 1) := by decide +kernel
theorem dX7_rule_148 : decode cX7_rule 148 = .ok (.ireturn, 1) := by decide +kernel
theorem dX7_rule_149 : decode cX7_rule 149 = .ok (.iload 4, 2) := by decide +kernel
theorem dX7_rule_151 : decode cX7_rule 151 = .ok (.ireturn, 1) := by decide +kernel
theorem dX7_rule_152 : decode cX7_rule 152 = .ok (.iconst (-1), 1) := by decide +kernel
theorem dX7_rule_153 : decode cX7_rule 153 = .ok (.ireturn, 1) := by decide +kernel
set_option maxRecDepth 20000 in
theorem ggX7_goose_X7_isGoose : GoodIn wsX7_goose wsX7_isGoose := goodIn_r _ [7, 8, 9, 10, 6, 11, 24, 25, 26, 27, 28, 29, 30, 31, 32, 33, 34, 35, 36, 37, 38, 39, 40, 41, 42, 43, 44, 45, 46, 47, 48, 49, 50, 51, 52, 53, 54, 55, 56, 57] (by decide +kernel) (by decide +kernel)
set_option maxRecDepth 20000 in
theorem gX7_goose_X7_isGoose : GoodIn wsX7_goose (wsV RX7 156 RX7 yX7_isGoose wsX7_isGoose) := goodIn_app (goodIn_of _ (by decide +kernel)) ggX7_goose_X7_isGoose
set_option maxRecDepth 20000 in
theorem ggX7_goose_X7_in : GoodIn wsX7_goose wsX7_in := goodIn_r _ [11] (by decide +kernel) (by decide +kernel)
set_option maxRecDepth 20000 in
theorem gX7_goose_X7_in : GoodIn wsX7_goose (va_wsS RX7 46 yX7_in wsX7_in) := goodIn_app (goodIn_of _ (by decide +kernel)) ggX7_goose_X7_in
set_option maxRecDepth 20000 in
theorem ggX7_goose_X7_feathersOn : GoodIn wsX7_goose wsX7_feathersOn := goodIn_r _ [15, 16, 17, 18, 6, 19, 2, 24, 25, 26, 27, 28, 29, 30, 31, 32, 33, 34, 35, 36, 37, 38, 39, 40, 41, 42, 43, 44, 45, 46, 47, 48, 49, 50, 51, 52, 53, 54, 55, 56, 57] (by decide +kernel) (by decide +kernel)
set_option maxRecDepth 20000 in
theorem gX7_goose_X7_feathersOn : GoodIn wsX7_goose (wsV RX7 139 RX7 yX7_feathersOn wsX7_feathersOn) := goodIn_app (goodIn_of _ (by decide +kernel)) ggX7_goose_X7_feathersOn
set_option maxRecDepth 20000 in
theorem ggX7_goose_X7_eggOn : GoodIn wsX7_goose wsX7_eggOn := goodIn_r _ [23, 2, 16, 17, 18, 6, 19, 12, 13, 14, 15, 24, 25, 26, 27, 28, 29, 30, 31, 32, 33, 34, 35, 36, 37, 38, 39, 40, 41, 42, 43, 44, 45, 46, 47, 48, 49, 50, 51, 52, 53, 54, 55, 56, 57] (by decide +kernel) (by decide +kernel)
set_option maxRecDepth 20000 in
theorem gX7_goose_X7_eggOn : GoodIn wsX7_goose (wsV RX7 143 RX7 yX7_eggOn wsX7_eggOn) := goodIn_app (goodIn_of _ (by decide +kernel)) ggX7_goose_X7_eggOn
theorem dX7_goose_0 : decode cX7_goose 0 = .ok (.aload_n 0, 1) := by decide +kernel
theorem dX7_goose_1 : decode cX7_goose 1 = .ok (.iload_n 1, 1) := by decide +kernel
theorem dX7_goose_2 : decode cX7_goose 2 = .ok (.invokevirtual 156, 3) := by decide +kernel
theorem dX7_goose_5 : decode cX7_goose 5 = .ok (.ifCond .eq 15, 3) := by decide +kernel
theorem dX7_goose_8 : decode cX7_goose 8 = .ok (.iload_n 2, 1) := by decide +kernel
theorem dX7_goose_9 : decode cX7_goose 9 = .ok (.i2l, 1) := by decide +kernel
theorem dX7_goose_10 : decode cX7_goose 10 = .ok (.lconst 0, 1) := by decide +kernel
theorem dX7_goose_11 : decode cX7_goose 11 = .ok (.ldc2_w 134, 3) := by decide +kernel
theorem dX7_goose_14 : decode cX7_goose 14 = .ok (.invokestatic 46, 3) := by decide +kernel
theorem dX7_goose_17 : decode cX7_goose 17 = .ok (.ifCond .ne 5, 3) := by decide +kernel
theorem dX7_goose_20 : decode cX7_goose 20 = .ok (.iconst (-1), 1) := by decide +kernel
theorem dX7_goose_21 : decode cX7_goose 21 = .ok (.ireturn, 1) := by decide +kernel
theorem dX7_goose_22 : decode cX7_goose 22 = .ok (.iload_n 2, 1) := by decide +kernel
theorem dX7_goose_23 : decode cX7_goose 23 = .ok (.iconst 3, 1) := by decide +kernel
theorem dX7_goose_24 : decode cX7_goose 24 = .ok (.if_icmp .ge 16, 3) := by decide +kernel
theorem dX7_goose_27 : decode cX7_goose 27 = .ok (.aload_n 0, 1) := by decide +kernel
theorem dX7_goose_28 : decode cX7_goose 28 = .ok (.getfield 7, 3) := by decide +kernel
theorem dX7_goose_31 : decode cX7_goose 31 = .ok (.iconst 3, 1) := by decide +kernel
theorem dX7_goose_32 : decode cX7_goose 32 = .ok (.iload_n 2, 1) := by decide +kernel
theorem dX7_goose_33 : decode cX7_goose 33 = .ok (.imul, 1) := by decide +kernel
theorem dX7_goose_34 : decode cX7_goose 34 = .ok (.iload_n 1, 1) := by decide +kernel
theorem dX7_goose_35 : decode cX7_goose 35 = .ok (.iadd, 1) := by decide +kernel
theorem dX7_goose_36 : decode cX7_goose 36 = .ok (.iaload, 1) := by decide +kernel
theorem dX7_goose_37 : decode cX7_goose 37 = .ok (.goto 23, 3) := by decide +kernel
theorem dX7_goose_40 : decode cX7_goose 40 = .ok (.iload_n 2, 1) := by decide +kernel
theorem dX7_goose_41 : decode cX7_goose 41 = .ok (.iconst 3, 1) := by decide +kernel
theorem dX7_goose_42 : decode cX7_goose 42 = .ok (.if_icmp .ne 12, 3) := by decide +kernel
theorem dX7_goose_45 : decode cX7_goose 45 = .ok (.aload_n 0, 1) := by decide +kernel
theorem dX7_goose_46 : decode cX7_goose 46 = .ok (.iconst 0, 1) := by decide +kernel
theorem dX7_goose_47 : decode cX7_goose 47 = .ok (.iload_n 1, 1) := by decide +kernel
theorem dX7_goose_48 : decode cX7_goose 48 = .ok (.invokevirtual 139, 3) := by decide +kernel
theorem dX7_goose_51 : decode cX7_goose 51 = .ok (.goto 9, 3) := by decide +kernel
theorem dX7_goose_54 : decode cX7_goose 54 = .ok (.aload_n 0, 1) := by decide +kernel
theorem dX7_goose_55 : decode cX7_goose 55 = .ok (.iconst 0, 1) := by decide +kernel
theorem dX7_goose_56 : decode cX7_goose 56 = .ok (.iload_n 1, 1) := by decide +kernel
theorem dX7_goose_57 : decode cX7_goose 57 = .ok (.invokevirtual 143, 3) := by decide +kernel
theorem dX7_goose_60 : decode cX7_goose 60 = .ok (.ireturn, 1) := by decide +kernel
set_option maxRecDepth 20000 in
theorem ggX7_ownerOn_X7_moneyOn : GoodIn wsX7_ownerOn wsX7_moneyOn := goodIn_r _ [6, 1, 28, 29, 30, 31, 32, 33, 34, 35, 36, 37, 38, 39, 40, 41, 42, 43, 44, 45, 46, 47, 48, 49, 50, 51, 52, 53, 54, 55, 56, 57, 58, 59, 60, 61] (by decide +kernel) (by decide +kernel)
set_option maxRecDepth 20000 in
theorem gX7_ownerOn_X7_moneyOn : GoodIn wsX7_ownerOn (wsV RX7 146 RX7 yX7_moneyOn wsX7_moneyOn) := goodIn_app (goodIn_of _ (by decide +kernel)) ggX7_ownerOn_X7_moneyOn
set_option maxRecDepth 20000 in
theorem ggX7_ownerOn_X7_worthOn : GoodIn wsX7_ownerOn wsX7_worthOn := goodIn_r _ [10, 11, 1, 2, 3, 4, 5, 6, 12, 13, 14, 15, 28, 29, 30, 31, 32, 33, 34, 35, 36, 37, 38, 39, 40, 41, 42, 43, 44, 45, 46, 47, 48, 49, 50, 51, 52, 53, 54, 55, 56, 57, 58, 59, 60, 61] (by decide +kernel) (by decide +kernel)
set_option maxRecDepth 20000 in
theorem gX7_ownerOn_X7_worthOn : GoodIn wsX7_ownerOn (wsV RX7 160 RX7 yX7_worthOn wsX7_worthOn) := goodIn_app (goodIn_of _ (by decide +kernel)) ggX7_ownerOn_X7_worthOn
set_option maxRecDepth 20000 in
theorem ggX7_ownerOn_X7_eggsNow : GoodIn wsX7_ownerOn wsX7_eggsNow := goodIn_r _ [19, 11, 20, 21, 22, 5, 23, 1, 12, 13, 14, 15, 24, 25, 26, 27, 28, 29, 30, 31, 32, 33, 34, 35, 36, 37, 38, 39, 40, 41, 42, 43, 44, 45, 46, 47, 48, 49, 50, 51, 52, 53, 54, 55, 56, 57, 58, 59, 60, 61] (by decide +kernel) (by decide +kernel)
set_option maxRecDepth 20000 in
theorem gX7_ownerOn_X7_eggsNow : GoodIn wsX7_ownerOn (wsV RX7 163 RX7 yX7_eggsNow wsX7_eggsNow) := goodIn_app (goodIn_of _ (by decide +kernel)) ggX7_ownerOn_X7_eggsNow
theorem dX7_ownerOn_0 : decode cX7_ownerOn 0 = .ok (.iload_n 3, 1) := by decide +kernel
theorem dX7_ownerOn_1 : decode cX7_ownerOn 1 = .ok (.ifCond .ne 12, 3) := by decide +kernel
theorem dX7_ownerOn_4 : decode cX7_ownerOn 4 = .ok (.aload_n 0, 1) := by decide +kernel
theorem dX7_ownerOn_5 : decode cX7_ownerOn 5 = .ok (.iload_n 1, 1) := by decide +kernel
theorem dX7_ownerOn_6 : decode cX7_ownerOn 6 = .ok (.iload_n 2, 1) := by decide +kernel
theorem dX7_ownerOn_7 : decode cX7_ownerOn 7 = .ok (.invokevirtual 146, 3) := by decide +kernel
theorem dX7_ownerOn_10 : decode cX7_ownerOn 10 = .ok (.goto 42, 3) := by decide +kernel
theorem dX7_ownerOn_13 : decode cX7_ownerOn 13 = .ok (.iload_n 3, 1) := by decide +kernel
theorem dX7_ownerOn_14 : decode cX7_ownerOn 14 = .ok (.iconst 1, 1) := by decide +kernel
theorem dX7_ownerOn_15 : decode cX7_ownerOn 15 = .ok (.if_icmp .ne 17, 3) := by decide +kernel
theorem dX7_ownerOn_18 : decode cX7_ownerOn 18 = .ok (.aload_n 0, 1) := by decide +kernel
theorem dX7_ownerOn_19 : decode cX7_ownerOn 19 = .ok (.getfield 7, 3) := by decide +kernel
theorem dX7_ownerOn_22 : decode cX7_ownerOn 22 = .ok (.iload_n 1, 1) := by decide +kernel
theorem dX7_ownerOn_23 : decode cX7_ownerOn 23 = .ok (.bipush 14, 2) := by decide +kernel
theorem dX7_ownerOn_25 : decode cX7_ownerOn 25 = .ok (.iadd, 1) := by decide +kernel
theorem dX7_ownerOn_26 : decode cX7_ownerOn 26 = .ok (.iload_n 2, 1) := by decide +kernel
theorem dX7_ownerOn_27 : decode cX7_ownerOn 27 = .ok (.iadd, 1) := by decide +kernel
theorem dX7_ownerOn_28 : decode cX7_ownerOn 28 = .ok (.iaload, 1) := by decide +kernel
theorem dX7_ownerOn_29 : decode cX7_ownerOn 29 = .ok (.goto 23, 3) := by decide +kernel
theorem dX7_ownerOn_32 : decode cX7_ownerOn 32 = .ok (.iload_n 3, 1) := by decide +kernel
theorem dX7_ownerOn_33 : decode cX7_ownerOn 33 = .ok (.iconst 2, 1) := by decide +kernel
theorem dX7_ownerOn_34 : decode cX7_ownerOn 34 = .ok (.if_icmp .ne 12, 3) := by decide +kernel
theorem dX7_ownerOn_37 : decode cX7_ownerOn 37 = .ok (.aload_n 0, 1) := by decide +kernel
theorem dX7_ownerOn_38 : decode cX7_ownerOn 38 = .ok (.iload_n 1, 1) := by decide +kernel
theorem dX7_ownerOn_39 : decode cX7_ownerOn 39 = .ok (.iload_n 2, 1) := by decide +kernel
theorem dX7_ownerOn_40 : decode cX7_ownerOn 40 = .ok (.invokevirtual 160, 3) := by decide +kernel
theorem dX7_ownerOn_43 : decode cX7_ownerOn 43 = .ok (.goto 9, 3) := by decide +kernel
theorem dX7_ownerOn_46 : decode cX7_ownerOn 46 = .ok (.aload_n 0, 1) := by decide +kernel
theorem dX7_ownerOn_47 : decode cX7_ownerOn 47 = .ok (.iload_n 1, 1) := by decide +kernel
theorem dX7_ownerOn_48 : decode cX7_ownerOn 48 = .ok (.iload_n 2, 1) := by decide +kernel
theorem dX7_ownerOn_49 : decode cX7_ownerOn 49 = .ok (.invokevirtual 163, 3) := by decide +kernel
theorem dX7_ownerOn_52 : decode cX7_ownerOn 52 = .ok (.ireturn, 1) := by decide +kernel
set_option maxRecDepth 20000 in
theorem ggX7_owner_X7_isOwner : GoodIn wsX7_owner wsX7_isOwner := goodIn_r _ [5, 6, 7, 8, 4, 9] (by decide +kernel) (by decide +kernel)
set_option maxRecDepth 20000 in
theorem gX7_owner_X7_isOwner : GoodIn wsX7_owner (va_wsS RX7 166 yX7_isOwner wsX7_isOwner) := goodIn_app (goodIn_of _ (by decide +kernel)) ggX7_owner_X7_isOwner
set_option maxRecDepth 20000 in
theorem ggX7_owner_X7_in : GoodIn wsX7_owner wsX7_in := goodIn_r _ [9] (by decide +kernel) (by decide +kernel)
set_option maxRecDepth 20000 in
theorem gX7_owner_X7_in : GoodIn wsX7_owner (va_wsS RX7 46 yX7_in wsX7_in) := goodIn_app (goodIn_of _ (by decide +kernel)) ggX7_owner_X7_in
set_option maxRecDepth 20000 in
theorem ggX7_owner_X7_ownerOn : GoodIn wsX7_owner wsX7_ownerOn := goodIn_r _ [13, 14, 15, 16, 17, 4, 18, 19, 20, 21, 22, 23, 24, 25, 26, 27, 28, 29, 30, 31, 32, 33, 34, 35, 36, 37, 38, 39, 40, 41, 42, 43, 44, 45, 46, 47, 48, 49, 50, 51, 52, 53, 54, 55, 56, 57, 58, 59, 60, 61, 62, 63, 64, 65, 66, 67, 68, 69, 70, 71, 72, 73] (by decide +kernel) (by decide +kernel)
set_option maxRecDepth 20000 in
theorem gX7_owner_X7_ownerOn : GoodIn wsX7_owner (wsV RX7 171 RX7 yX7_ownerOn wsX7_ownerOn) := goodIn_app (goodIn_of _ (by decide +kernel)) ggX7_owner_X7_ownerOn
theorem dX7_owner_0 : decode cX7_owner 0 = .ok (.iload_n 1, 1) := by decide +kernel
theorem dX7_owner_1 : decode cX7_owner 1 = .ok (.invokestatic 166, 3) := by decide +kernel
theorem dX7_owner_4 : decode cX7_owner 4 = .ok (.ifCond .eq 25, 3) := by decide +kernel
theorem dX7_owner_7 : decode cX7_owner 7 = .ok (.iload_n 2, 1) := by decide +kernel
theorem dX7_owner_8 : decode cX7_owner 8 = .ok (.i2l, 1) := by decide +kernel
theorem dX7_owner_9 : decode cX7_owner 9 = .ok (.lconst 0, 1) := by decide +kernel
theorem dX7_owner_10 : decode cX7_owner 10 = .ok (.ldc2_w 169, 3) := by decide +kernel
theorem dX7_owner_13 : decode cX7_owner 13 = .ok (.invokestatic 46, 3) := by decide +kernel
theorem dX7_owner_16 : decode cX7_owner 16 = .ok (.ifCond .eq 13, 3) := by decide +kernel
theorem dX7_owner_19 : decode cX7_owner 19 = .ok (.aload_n 0, 1) := by decide +kernel
theorem dX7_owner_20 : decode cX7_owner 20 = .ok (.iconst 0, 1) := by decide +kernel
theorem dX7_owner_21 : decode cX7_owner 21 = .ok (.iload_n 1, 1) := by decide +kernel
theorem dX7_owner_22 : decode cX7_owner 22 = .ok (.iload_n 2, 1) := by decide +kernel
theorem dX7_owner_23 : decode cX7_owner 23 = .ok (.invokevirtual 171, 3) := by decide +kernel
theorem dX7_owner_26 : decode cX7_owner 26 = .ok (.goto 4, 3) := by decide +kernel
theorem dX7_owner_29 : decode cX7_owner 29 = .ok (.iconst (-1), 1) := by decide +kernel
theorem dX7_owner_30 : decode cX7_owner 30 = .ok (.ireturn, 1) := by decide +kernel
set_option maxRecDepth 20000 in
theorem ggX7_share_X7_isGoose : GoodIn wsX7_share wsX7_isGoose := goodIn_r _ [5, 6, 7, 8, 4, 9, 19, 20, 21, 22, 23, 24, 25, 26, 27, 28, 29, 30, 31, 32, 33, 34, 35, 36, 37, 38, 39, 40, 41, 42, 43, 44, 45, 46, 47, 48, 49, 50, 51, 52] (by decide +kernel) (by decide +kernel)
set_option maxRecDepth 20000 in
theorem gX7_share_X7_isGoose : GoodIn wsX7_share (wsV RX7 156 RX7 yX7_isGoose wsX7_isGoose) := goodIn_app (goodIn_of _ (by decide +kernel)) ggX7_share_X7_isGoose
set_option maxRecDepth 20000 in
theorem ggX7_share_X7_isOwner : GoodIn wsX7_share wsX7_isOwner := goodIn_r _ [12, 13, 7, 8, 4, 9] (by decide +kernel) (by decide +kernel)
set_option maxRecDepth 20000 in
theorem gX7_share_X7_isOwner : GoodIn wsX7_share (va_wsS RX7 166 yX7_isOwner wsX7_isOwner) := goodIn_app (goodIn_of _ (by decide +kernel)) ggX7_share_X7_isOwner
set_option maxRecDepth 20000 in
theorem ggX7_share_X7_shareOn : GoodIn wsX7_share wsX7_shareOn := goodIn_r _ [17, 18, 19, 20, 21, 22, 23, 24, 25, 26, 27, 28, 29, 30, 31, 32, 33, 34, 35, 36, 37, 38, 39, 40, 41, 42, 43, 44, 45, 46, 47, 48, 49, 50, 51, 52] (by decide +kernel) (by decide +kernel)
set_option maxRecDepth 20000 in
theorem gX7_share_X7_shareOn : GoodIn wsX7_share (wsV RX7 136 RX7 yX7_shareOn wsX7_shareOn) := goodIn_app (goodIn_of _ (by decide +kernel)) ggX7_share_X7_shareOn
theorem dX7_share_0 : decode cX7_share 0 = .ok (.aload_n 0, 1) := by decide +kernel
theorem dX7_share_1 : decode cX7_share 1 = .ok (.iload_n 1, 1) := by decide +kernel
theorem dX7_share_2 : decode cX7_share 2 = .ok (.invokevirtual 156, 3) := by decide +kernel
theorem dX7_share_5 : decode cX7_share 5 = .ok (.ifCond .eq 20, 3) := by decide +kernel
theorem dX7_share_8 : decode cX7_share 8 = .ok (.iload_n 2, 1) := by decide +kernel
theorem dX7_share_9 : decode cX7_share 9 = .ok (.invokestatic 166, 3) := by decide +kernel
theorem dX7_share_12 : decode cX7_share 12 = .ok (.ifCond .eq 13, 3) := by decide +kernel
theorem dX7_share_15 : decode cX7_share 15 = .ok (.aload_n 0, 1) := by decide +kernel
theorem dX7_share_16 : decode cX7_share 16 = .ok (.iconst 0, 1) := by decide +kernel
theorem dX7_share_17 : decode cX7_share 17 = .ok (.iload_n 1, 1) := by decide +kernel
theorem dX7_share_18 : decode cX7_share 18 = .ok (.iload_n 2, 1) := by decide +kernel
theorem dX7_share_19 : decode cX7_share 19 = .ok (.invokevirtual 136, 3) := by decide +kernel
theorem dX7_share_22 : decode cX7_share 22 = .ok (.goto 4, 3) := by decide +kernel
theorem dX7_share_25 : decode cX7_share 25 = .ok (.iconst (-1), 1) := by decide +kernel
theorem dX7_share_26 : decode cX7_share 26 = .ok (.ireturn, 1) := by decide +kernel
set_option maxRecDepth 20000 in
theorem ggX7_trade_X7_in : GoodIn wsX7_trade wsX7_in := goodIn_r _ [6] (by decide +kernel) (by decide +kernel)
set_option maxRecDepth 20000 in
theorem gX7_trade_X7_in : GoodIn wsX7_trade (va_wsS RX7 46 yX7_in wsX7_in) := goodIn_app (goodIn_of _ (by decide +kernel)) ggX7_trade_X7_in
theorem dX7_trade_0 : decode cX7_trade 0 = .ok (.iload_n 1, 1) := by decide +kernel
theorem dX7_trade_1 : decode cX7_trade 1 = .ok (.i2l, 1) := by decide +kernel
theorem dX7_trade_2 : decode cX7_trade 2 = .ok (.lconst 0, 1) := by decide +kernel
theorem dX7_trade_3 : decode cX7_trade 3 = .ok (.aload_n 0, 1) := by decide +kernel
theorem dX7_trade_4 : decode cX7_trade 4 = .ok (.getfield 7, 3) := by decide +kernel
theorem dX7_trade_7 : decode cX7_trade 7 = .ok (.bipush 59, 2) := by decide +kernel
theorem dX7_trade_9 : decode cX7_trade 9 = .ok (.iaload, 1) := by decide +kernel
theorem dX7_trade_10 : decode cX7_trade 10 = .ok (.iconst 1, 1) := by decide +kernel
theorem dX7_trade_11 : decode cX7_trade 11 = .ok (.isub, 1) := by decide +kernel
theorem dX7_trade_12 : decode cX7_trade 12 = .ok (.i2l, 1) := by decide +kernel
theorem dX7_trade_13 : decode cX7_trade 13 = .ok (.invokestatic 46, 3) := by decide +kernel
theorem dX7_trade_16 : decode cX7_trade 16 = .ok (.ifCond .eq 31, 3) := by decide +kernel
theorem dX7_trade_19 : decode cX7_trade 19 = .ok (.iload_n 2, 1) := by decide +kernel
theorem dX7_trade_20 : decode cX7_trade 20 = .ok (.i2l, 1) := by decide +kernel
theorem dX7_trade_21 : decode cX7_trade 21 = .ok (.lconst 0, 1) := by decide +kernel
theorem dX7_trade_22 : decode cX7_trade 22 = .ok (.ldc2_w 169, 3) := by decide +kernel
theorem dX7_trade_25 : decode cX7_trade 25 = .ok (.invokestatic 46, 3) := by decide +kernel
theorem dX7_trade_28 : decode cX7_trade 28 = .ok (.ifCond .eq 19, 3) := by decide +kernel
theorem dX7_trade_31 : decode cX7_trade 31 = .ok (.aload_n 0, 1) := by decide +kernel
theorem dX7_trade_32 : decode cX7_trade 32 = .ok (.getfield 7, 3) := by decide +kernel
theorem dX7_trade_35 : decode cX7_trade 35 = .ok (.bipush 35, 2) := by decide +kernel
theorem dX7_trade_37 : decode cX7_trade 37 = .ok (.iconst 4, 1) := by decide +kernel
theorem dX7_trade_38 : decode cX7_trade 38 = .ok (.iload_n 1, 1) := by decide +kernel
theorem dX7_trade_39 : decode cX7_trade 39 = .ok (.imul, 1) := by decide +kernel
theorem dX7_trade_40 : decode cX7_trade 40 = .ok (.iadd, 1) := by decide +kernel
theorem dX7_trade_41 : decode cX7_trade 41 = .ok (.iload_n 2, 1) := by decide +kernel
theorem dX7_trade_42 : decode cX7_trade 42 = .ok (.iadd, 1) := by decide +kernel
theorem dX7_trade_43 : decode cX7_trade 43 = .ok (.iaload, 1) := by decide +kernel
theorem dX7_trade_44 : decode cX7_trade 44 = .ok (.goto 4, 3) := by decide +kernel
theorem dX7_trade_47 : decode cX7_trade 47 = .ok (.iconst (-1), 1) := by decide +kernel
theorem dX7_trade_48 : decode cX7_trade 48 = .ok (.ireturn, 1) := by decide +kernel
theorem dX7_puts_0 : decode cX7_puts 0 = .ok (.iload_n 1, 1) := by decide +kernel
theorem dX7_puts_1 : decode cX7_puts 1 = .ok (.ifCond .ne 5, 3) := by decide +kernel
theorem dX7_puts_4 : decode cX7_puts 4 = .ok (.iconst (-1), 1) := by decide +kernel
theorem dX7_puts_5 : decode cX7_puts 5 = .ok (.ireturn, 1) := by decide +kernel
theorem dX7_puts_6 : decode cX7_puts 6 = .ok (.aload_n 0, 1) := by decide +kernel
theorem dX7_puts_7 : decode cX7_puts 7 = .ok (.getfield 7, 3) := by decide +kernel
theorem dX7_puts_10 : decode cX7_puts 10 = .ok (.iload_n 2, 1) := by decide +kernel
theorem dX7_puts_11 : decode cX7_puts 11 = .ok (.iaload, 1) := by decide +kernel
theorem dX7_puts_12 : decode cX7_puts 12 = .ok (.iload 4, 2) := by decide +kernel
theorem dX7_puts_14 : decode cX7_puts 14 = .ok (.iadd, 1) := by decide +kernel
theorem dX7_puts_15 : decode cX7_puts 15 = .ok (.istore 5, 2) := by decide +kernel
theorem dX7_puts_17 : decode cX7_puts 17 = .ok (.aload_n 0, 1) := by decide +kernel
theorem dX7_puts_18 : decode cX7_puts 18 = .ok (.getfield 7, 3) := by decide +kernel
theorem dX7_puts_21 : decode cX7_puts 21 = .ok (.iload_n 2, 1) := by decide +kernel
theorem dX7_puts_22 : decode cX7_puts 22 = .ok (.iload_n 3, 1) := by decide +kernel
theorem dX7_puts_23 : decode cX7_puts 23 = .ok (.iload 4, 2) := by decide +kernel
theorem dX7_puts_25 : decode cX7_puts 25 = .ok (.isub, 1) := by decide +kernel
theorem dX7_puts_26 : decode cX7_puts 26 = .ok (.iastore, 1) := by decide +kernel
theorem dX7_puts_27 : decode cX7_puts 27 = .ok (.iload 5, 2) := by decide +kernel
theorem dX7_puts_29 : decode cX7_puts 29 = .ok (.ireturn, 1) := by decide +kernel
set_option maxRecDepth 20000 in
theorem ggX7_alter_X7_in : GoodIn wsX7_alter wsX7_in := goodIn_r _ [6] (by decide +kernel) (by decide +kernel)
set_option maxRecDepth 20000 in
theorem gX7_alter_X7_in : GoodIn wsX7_alter (va_wsS RX7 46 yX7_in wsX7_in) := goodIn_app (goodIn_of _ (by decide +kernel)) ggX7_alter_X7_in
set_option maxRecDepth 20000 in
theorem ggX7_alter_X7_isOwner : GoodIn wsX7_alter wsX7_isOwner := goodIn_r _ [9, 10, 3, 4, 5, 6] (by decide +kernel) (by decide +kernel)
set_option maxRecDepth 20000 in
theorem gX7_alter_X7_isOwner : GoodIn wsX7_alter (va_wsS RX7 166 yX7_isOwner wsX7_isOwner) := goodIn_app (goodIn_of _ (by decide +kernel)) ggX7_alter_X7_isOwner
set_option maxRecDepth 20000 in
theorem ggX7_alter_X7_isGoose : GoodIn wsX7_alter wsX7_isGoose := goodIn_r _ [14, 15, 3, 4, 5, 6, 21, 22, 23, 24, 25, 26, 27, 28, 29, 30, 31, 32, 33, 34, 35, 36, 37, 38, 39, 40, 41, 42, 43, 44, 45, 46, 47, 48, 49, 50, 51, 52, 53, 54] (by decide +kernel) (by decide +kernel)
set_option maxRecDepth 20000 in
theorem gX7_alter_X7_isGoose : GoodIn wsX7_alter (wsV RX7 156 RX7 yX7_isGoose wsX7_isGoose) := goodIn_app (goodIn_of _ (by decide +kernel)) ggX7_alter_X7_isGoose
set_option maxRecDepth 20000 in
theorem ggX7_alter_X7_puts : GoodIn wsX7_alter wsX7_puts := goodIn_r _ [19, 20, 21, 22, 23, 24, 25, 26, 27, 28, 29, 30, 31, 32, 33, 34, 35, 36, 37, 38, 39, 40, 41, 42, 43, 44, 45, 46, 47, 48, 49, 50, 51, 52, 53, 54] (by decide +kernel) (by decide +kernel)
set_option maxRecDepth 20000 in
theorem gX7_alter_X7_puts : GoodIn wsX7_alter (wsV RX7 176 RX7 yX7_puts wsX7_puts) := goodIn_app (goodIn_of _ (by decide +kernel)) ggX7_alter_X7_puts
theorem dX7_alter_0 : decode cX7_alter 0 = .ok (.iload_n 2, 1) := by decide +kernel
theorem dX7_alter_1 : decode cX7_alter 1 = .ok (.ifCond .ne 15, 3) := by decide +kernel
theorem dX7_alter_4 : decode cX7_alter 4 = .ok (.iload_n 3, 1) := by decide +kernel
theorem dX7_alter_5 : decode cX7_alter 5 = .ok (.i2l, 1) := by decide +kernel
theorem dX7_alter_6 : decode cX7_alter 6 = .ok (.lconst 0, 1) := by decide +kernel
theorem dX7_alter_7 : decode cX7_alter 7 = .ok (.ldc2_w 169, 3) := by decide +kernel
theorem dX7_alter_10 : decode cX7_alter 10 = .ok (.invokestatic 46, 3) := by decide +kernel
theorem dX7_alter_13 : decode cX7_alter 13 = .ok (.goto 37, 3) := by decide +kernel
theorem dX7_alter_16 : decode cX7_alter 16 = .ok (.iload_n 2, 1) := by decide +kernel
theorem dX7_alter_17 : decode cX7_alter 17 = .ok (.iconst 1, 1) := by decide +kernel
theorem dX7_alter_18 : decode cX7_alter 18 = .ok (.if_icmp .ne 10, 3) := by decide +kernel
theorem dX7_alter_21 : decode cX7_alter 21 = .ok (.iload_n 3, 1) := by decide +kernel
theorem dX7_alter_22 : decode cX7_alter 22 = .ok (.invokestatic 166, 3) := by decide +kernel
theorem dX7_alter_25 : decode cX7_alter 25 = .ok (.goto 25, 3) := by decide +kernel
theorem dX7_alter_28 : decode cX7_alter 28 = .ok (.iload_n 2, 1) := by decide +kernel
theorem dX7_alter_29 : decode cX7_alter 29 = .ok (.iconst 2, 1) := by decide +kernel
theorem dX7_alter_30 : decode cX7_alter 30 = .ok (.if_icmp .ne 19, 3) := by decide +kernel
theorem dX7_alter_33 : decode cX7_alter 33 = .ok (.iload_n 3, 1) := by decide +kernel
theorem dX7_alter_34 : decode cX7_alter 34 = .ok (.i2l, 1) := by decide +kernel
theorem dX7_alter_35 : decode cX7_alter 35 = .ok (.lconst 1, 1) := by decide +kernel
theorem dX7_alter_36 : decode cX7_alter 36 = .ok (.ldc2_w 174, 3) := by decide +kernel
theorem dX7_alter_39 : decode cX7_alter 39 = .ok (.invokestatic 46, 3) := by decide +kernel
theorem dX7_alter_42 : decode cX7_alter 42 = .ok (.ifCond .eq 7, 3) := by decide +kernel
theorem dX7_alter_45 : decode cX7_alter 45 = .ok (.iconst 1, 1) := by decide +kernel
theorem dX7_alter_46 : decode cX7_alter 46 = .ok (.goto 4, 3) := by decide +kernel
theorem dX7_alter_49 : decode cX7_alter 49 = .ok (.iconst 0, 1) := by decide +kernel
theorem dX7_alter_50 : decode cX7_alter 50 = .ok (.istore 4, 2) := by decide +kernel
theorem dX7_alter_52 : decode cX7_alter 52 = .ok (.aload_n 0, 1) := by decide +kernel
theorem dX7_alter_53 : decode cX7_alter 53 = .ok (.aload_n 0, 1) := by decide +kernel
theorem dX7_alter_54 : decode cX7_alter 54 = .ok (.iload_n 1, 1) := by decide +kernel
theorem dX7_alter_55 : decode cX7_alter 55 = .ok (.invokevirtual 156, 3) := by decide +kernel
theorem dX7_alter_58 : decode cX7_alter 58 = .ok (.ifCond .eq 12, 3) := by decide +kernel
theorem dX7_alter_61 : decode cX7_alter 61 = .ok (.iload 4, 2) := by decide +kernel
theorem dX7_alter_63 : decode cX7_alter 63 = .ok (.ifCond .eq 7, 3) := by decide +kernel
theorem dX7_alter_66 : decode cX7_alter 66 = .ok (.iconst 1, 1) := by decide +kernel
theorem dX7_alter_67 : decode cX7_alter 67 = .ok (.goto 4, 3) := by decide +kernel
theorem dX7_alter_70 : decode cX7_alter 70 = .ok (.iconst 0, 1) := by decide +kernel
theorem dX7_alter_71 : decode cX7_alter 71 = .ok (.iconst 3, 1) := by decide +kernel
theorem dX7_alter_72 : decode cX7_alter 72 = .ok (.iload_n 2, 1) := by decide +kernel
theorem dX7_alter_73 : decode cX7_alter 73 = .ok (.imul, 1) := by decide +kernel
theorem dX7_alter_74 : decode cX7_alter 74 = .ok (.iload_n 1, 1) := by decide +kernel
theorem dX7_alter_75 : decode cX7_alter 75 = .ok (.iadd, 1) := by decide +kernel
theorem dX7_alter_76 : decode cX7_alter 76 = .ok (.iload_n 3, 1) := by decide +kernel
theorem dX7_alter_77 : decode cX7_alter 77 = .ok (.iconst 0, 1) := by decide +kernel
theorem dX7_alter_78 : decode cX7_alter 78 = .ok (.invokevirtual 176, 3) := by decide +kernel
theorem dX7_alter_81 : decode cX7_alter 81 = .ok (.ireturn, 1) := by decide +kernel
set_option maxRecDepth 20000 in
theorem ggX7_purse_X7_isOwner : GoodIn wsX7_purse wsX7_isOwner := goodIn_r _ [5, 6, 7, 8, 4, 9] (by decide +kernel) (by decide +kernel)
set_option maxRecDepth 20000 in
theorem gX7_purse_X7_isOwner : GoodIn wsX7_purse (va_wsS RX7 166 yX7_isOwner wsX7_isOwner) := goodIn_app (goodIn_of _ (by decide +kernel)) ggX7_purse_X7_isOwner
set_option maxRecDepth 20000 in
theorem ggX7_purse_X7_in : GoodIn wsX7_purse wsX7_in := goodIn_r _ [9] (by decide +kernel) (by decide +kernel)
set_option maxRecDepth 20000 in
theorem gX7_purse_X7_in : GoodIn wsX7_purse (va_wsS RX7 46 yX7_in wsX7_in) := goodIn_app (goodIn_of _ (by decide +kernel)) ggX7_purse_X7_in
set_option maxRecDepth 20000 in
theorem ggX7_purse_X7_puts : GoodIn wsX7_purse wsX7_puts := goodIn_r _ [13, 14, 15, 16, 17, 18, 19, 20, 21, 22, 23, 24, 25, 26, 27, 28, 29, 30, 31, 32, 33, 34, 35, 36, 37, 38, 39, 40, 41, 42, 43, 44, 45, 46, 47, 48] (by decide +kernel) (by decide +kernel)
set_option maxRecDepth 20000 in
theorem gX7_purse_X7_puts : GoodIn wsX7_purse (wsV RX7 176 RX7 yX7_puts wsX7_puts) := goodIn_app (goodIn_of _ (by decide +kernel)) ggX7_purse_X7_puts
theorem dX7_purse_0 : decode cX7_purse 0 = .ok (.aload_n 0, 1) := by decide +kernel
theorem dX7_purse_1 : decode cX7_purse 1 = .ok (.iload_n 1, 1) := by decide +kernel
theorem dX7_purse_2 : decode cX7_purse 2 = .ok (.invokestatic 166, 3) := by decide +kernel
theorem dX7_purse_5 : decode cX7_purse 5 = .ok (.ifCond .eq 19, 3) := by decide +kernel
theorem dX7_purse_8 : decode cX7_purse 8 = .ok (.iload_n 2, 1) := by decide +kernel
theorem dX7_purse_9 : decode cX7_purse 9 = .ok (.i2l, 1) := by decide +kernel
theorem dX7_purse_10 : decode cX7_purse 10 = .ok (.lconst 0, 1) := by decide +kernel
theorem dX7_purse_11 : decode cX7_purse 11 = .ok (.ldc2_w 180, 3) := by decide +kernel
theorem dX7_purse_14 : decode cX7_purse 14 = .ok (.invokestatic 46, 3) := by decide +kernel
theorem dX7_purse_17 : decode cX7_purse 17 = .ok (.ifCond .eq 7, 3) := by decide +kernel
theorem dX7_purse_20 : decode cX7_purse 20 = .ok (.iconst 1, 1) := by decide +kernel
theorem dX7_purse_21 : decode cX7_purse 21 = .ok (.goto 4, 3) := by decide +kernel
theorem dX7_purse_24 : decode cX7_purse 24 = .ok (.iconst 0, 1) := by decide +kernel
theorem dX7_purse_25 : decode cX7_purse 25 = .ok (.bipush 9, 2) := by decide +kernel
theorem dX7_purse_27 : decode cX7_purse 27 = .ok (.iload_n 1, 1) := by decide +kernel
theorem dX7_purse_28 : decode cX7_purse 28 = .ok (.iadd, 1) := by decide +kernel
theorem dX7_purse_29 : decode cX7_purse 29 = .ok (.iload_n 2, 1) := by decide +kernel
theorem dX7_purse_30 : decode cX7_purse 30 = .ok (.bipush 20, 2) := by decide +kernel
theorem dX7_purse_32 : decode cX7_purse 32 = .ok (.invokevirtual 176, 3) := by decide +kernel
theorem dX7_purse_35 : decode cX7_purse 35 = .ok (.ireturn, 1) := by decide +kernel
set_option maxRecDepth 20000 in
theorem ggX7_grant_X7_isGoose : GoodIn wsX7_grant wsX7_isGoose := goodIn_r _ [6, 7, 8, 9, 5, 10, 20, 21, 22, 23, 24, 25, 26, 27, 28, 29, 30, 31, 32, 33, 34, 35, 36, 37, 38, 39, 40, 41, 42, 43, 44, 45, 46, 47, 48, 49, 50, 51, 52, 53] (by decide +kernel) (by decide +kernel)
set_option maxRecDepth 20000 in
theorem gX7_grant_X7_isGoose : GoodIn wsX7_grant (wsV RX7 156 RX7 yX7_isGoose wsX7_isGoose) := goodIn_app (goodIn_of _ (by decide +kernel)) ggX7_grant_X7_isGoose
set_option maxRecDepth 20000 in
theorem ggX7_grant_X7_isOwner : GoodIn wsX7_grant wsX7_isOwner := goodIn_r _ [13, 14, 8, 9, 5, 10] (by decide +kernel) (by decide +kernel)
set_option maxRecDepth 20000 in
theorem gX7_grant_X7_isOwner : GoodIn wsX7_grant (va_wsS RX7 166 yX7_isOwner wsX7_isOwner) := goodIn_app (goodIn_of _ (by decide +kernel)) ggX7_grant_X7_isOwner
set_option maxRecDepth 20000 in
theorem ggX7_grant_X7_in : GoodIn wsX7_grant wsX7_in := goodIn_r _ [10] (by decide +kernel) (by decide +kernel)
set_option maxRecDepth 20000 in
theorem gX7_grant_X7_in : GoodIn wsX7_grant (va_wsS RX7 46 yX7_in wsX7_in) := goodIn_app (goodIn_of _ (by decide +kernel)) ggX7_grant_X7_in
set_option maxRecDepth 20000 in
theorem ggX7_grant_X7_puts : GoodIn wsX7_grant wsX7_puts := goodIn_r _ [18, 19, 20, 21, 22, 23, 24, 25, 26, 27, 28, 29, 30, 31, 32, 33, 34, 35, 36, 37, 38, 39, 40, 41, 42, 43, 44, 45, 46, 47, 48, 49, 50, 51, 52, 53] (by decide +kernel) (by decide +kernel)
set_option maxRecDepth 20000 in
theorem gX7_grant_X7_puts : GoodIn wsX7_grant (wsV RX7 176 RX7 yX7_puts wsX7_puts) := goodIn_app (goodIn_of _ (by decide +kernel)) ggX7_grant_X7_puts
theorem dX7_grant_0 : decode cX7_grant 0 = .ok (.aload_n 0, 1) := by decide +kernel
theorem dX7_grant_1 : decode cX7_grant 1 = .ok (.aload_n 0, 1) := by decide +kernel
theorem dX7_grant_2 : decode cX7_grant 2 = .ok (.iload_n 1, 1) := by decide +kernel
theorem dX7_grant_3 : decode cX7_grant 3 = .ok (.invokevirtual 156, 3) := by decide +kernel
theorem dX7_grant_6 : decode cX7_grant 6 = .ok (.ifCond .eq 26, 3) := by decide +kernel
theorem dX7_grant_9 : decode cX7_grant 9 = .ok (.iload_n 2, 1) := by decide +kernel
theorem dX7_grant_10 : decode cX7_grant 10 = .ok (.invokestatic 166, 3) := by decide +kernel
theorem dX7_grant_13 : decode cX7_grant 13 = .ok (.ifCond .eq 19, 3) := by decide +kernel
theorem dX7_grant_16 : decode cX7_grant 16 = .ok (.iload_n 3, 1) := by decide +kernel
theorem dX7_grant_17 : decode cX7_grant 17 = .ok (.i2l, 1) := by decide +kernel
theorem dX7_grant_18 : decode cX7_grant 18 = .ok (.lconst 0, 1) := by decide +kernel
theorem dX7_grant_19 : decode cX7_grant 19 = .ok (.ldc2_w 182, 3) := by decide +kernel
theorem dX7_grant_22 : decode cX7_grant 22 = .ok (.invokestatic 46, 3) := by decide +kernel
theorem dX7_grant_25 : decode cX7_grant 25 = .ok (.ifCond .eq 7, 3) := by decide +kernel
theorem dX7_grant_28 : decode cX7_grant 28 = .ok (.iconst 1, 1) := by decide +kernel
theorem dX7_grant_29 : decode cX7_grant 29 = .ok (.goto 4, 3) := by decide +kernel
theorem dX7_grant_32 : decode cX7_grant 32 = .ok (.iconst 0, 1) := by decide +kernel
theorem dX7_grant_33 : decode cX7_grant 33 = .ok (.bipush 19, 2) := by decide +kernel
theorem dX7_grant_35 : decode cX7_grant 35 = .ok (.iconst 5, 1) := by decide +kernel
theorem dX7_grant_36 : decode cX7_grant 36 = .ok (.iload_n 1, 1) := by decide +kernel
theorem dX7_grant_37 : decode cX7_grant 37 = .ok (.imul, 1) := by decide +kernel
theorem dX7_grant_38 : decode cX7_grant 38 = .ok (.iadd, 1) := by decide +kernel
theorem dX7_grant_39 : decode cX7_grant 39 = .ok (.iload_n 2, 1) := by decide +kernel
theorem dX7_grant_40 : decode cX7_grant 40 = .ok (.iadd, 1) := by decide +kernel
theorem dX7_grant_41 : decode cX7_grant 41 = .ok (.iload_n 3, 1) := by decide +kernel
theorem dX7_grant_42 : decode cX7_grant 42 = .ok (.iconst 0, 1) := by decide +kernel
theorem dX7_grant_43 : decode cX7_grant 43 = .ok (.invokevirtual 176, 3) := by decide +kernel
theorem dX7_grant_46 : decode cX7_grant 46 = .ok (.ireturn, 1) := by decide +kernel
set_option maxRecDepth 20000 in
theorem ggX7_isTrade_X7_isOwner : GoodIn wsX7_isTrade wsX7_isOwner := goodIn_r _ [5, 6, 7, 8, 4, 9] (by decide +kernel) (by decide +kernel)
set_option maxRecDepth 20000 in
theorem gX7_isTrade_X7_isOwner : GoodIn wsX7_isTrade (va_wsS RX7 166 yX7_isOwner wsX7_isOwner) := goodIn_app (goodIn_of _ (by decide +kernel)) ggX7_isTrade_X7_isOwner
set_option maxRecDepth 20000 in
theorem ggX7_isTrade_X7_isGoose : GoodIn wsX7_isTrade wsX7_isGoose := goodIn_r _ [13, 14, 7, 8, 4, 9, 15, 16, 17, 18, 19, 20, 21, 22, 23, 24, 25, 26, 27, 28, 29, 30, 31, 32, 33, 34, 35, 36, 37, 38, 39, 40, 41, 42, 43, 44, 45, 46, 47, 48] (by decide +kernel) (by decide +kernel)
set_option maxRecDepth 20000 in
theorem gX7_isTrade_X7_isGoose : GoodIn wsX7_isTrade (wsV RX7 156 RX7 yX7_isGoose wsX7_isGoose) := goodIn_app (goodIn_of _ (by decide +kernel)) ggX7_isTrade_X7_isGoose
set_option maxRecDepth 20000 in
theorem ggX7_isTrade_X7_in : GoodIn wsX7_isTrade wsX7_in := goodIn_r _ [9] (by decide +kernel) (by decide +kernel)
set_option maxRecDepth 20000 in
theorem gX7_isTrade_X7_in : GoodIn wsX7_isTrade (va_wsS RX7 46 yX7_in wsX7_in) := goodIn_app (goodIn_of _ (by decide +kernel)) ggX7_isTrade_X7_in
theorem dX7_isTrade_0 : decode cX7_isTrade 0 = .ok (.iload_n 1, 1) := by decide +kernel
theorem dX7_isTrade_1 : decode cX7_isTrade 1 = .ok (.invokestatic 166, 3) := by decide +kernel
theorem dX7_isTrade_4 : decode cX7_isTrade 4 = .ok (.ifCond .eq 40, 3) := by decide +kernel
theorem dX7_isTrade_7 : decode cX7_isTrade 7 = .ok (.iload_n 2, 1) := by decide +kernel
theorem dX7_isTrade_8 : decode cX7_isTrade 8 = .ok (.invokestatic 166, 3) := by decide +kernel
theorem dX7_isTrade_11 : decode cX7_isTrade 11 = .ok (.ifCond .eq 33, 3) := by decide +kernel
theorem dX7_isTrade_14 : decode cX7_isTrade 14 = .ok (.iload_n 1, 1) := by decide +kernel
theorem dX7_isTrade_15 : decode cX7_isTrade 15 = .ok (.iload_n 2, 1) := by decide +kernel
theorem dX7_isTrade_16 : decode cX7_isTrade 16 = .ok (.if_icmp .eq 28, 3) := by decide +kernel
theorem dX7_isTrade_19 : decode cX7_isTrade 19 = .ok (.aload_n 0, 1) := by decide +kernel
theorem dX7_isTrade_20 : decode cX7_isTrade 20 = .ok (.iload_n 3, 1) := by decide +kernel
theorem dX7_isTrade_21 : decode cX7_isTrade 21 = .ok (.invokevirtual 156, 3) := by decide +kernel
theorem dX7_isTrade_24 : decode cX7_isTrade 24 = .ok (.ifCond .eq 20, 3) := by decide +kernel
theorem dX7_isTrade_27 : decode cX7_isTrade 27 = .ok (.iload 4, 2) := by decide +kernel
theorem dX7_isTrade_29 : decode cX7_isTrade 29 = .ok (.i2l, 1) := by decide +kernel
theorem dX7_isTrade_30 : decode cX7_isTrade 30 = .ok (.lconst 1, 1) := by decide +kernel
theorem dX7_isTrade_31 : decode cX7_isTrade 31 = .ok (.ldc2_w 174, 3) := by decide +kernel
theorem dX7_isTrade_34 : decode cX7_isTrade 34 = .ok (.invokestatic 46, 3) := by decide +kernel
theorem dX7_isTrade_37 : decode cX7_isTrade 37 = .ok (.ifCond .eq 7, 3) := by decide +kernel
theorem dX7_isTrade_40 : decode cX7_isTrade 40 = .ok (.iconst 1, 1) := by decide +kernel
theorem dX7_isTrade_41 : decode cX7_isTrade 41 = .ok (.goto 4, 3) := by decide +kernel
theorem dX7_isTrade_44 : decode cX7_isTrade 44 = .ok (.iconst 0, 1) := by decide +kernel
theorem dX7_isTrade_45 : decode cX7_isTrade 45 = .ok (.ireturn, 1) := by decide +kernel
set_option maxRecDepth 20000 in
theorem ggX7_plan_X7_isTrade : GoodIn wsX7_plan wsX7_isTrade := goodIn_r _ [6, 7, 8, 9, 5, 10, 11, 12, 13, 14, 15, 16, 17, 18, 19, 20, 21, 22, 23, 24, 25, 26, 27, 28, 29, 30, 31, 32, 33, 34, 35, 36, 37, 38, 39, 40, 41, 42, 43, 44, 45, 46, 47, 48, 49, 50, 51, 52, 53] (by decide +kernel) (by decide +kernel)
set_option maxRecDepth 20000 in
theorem gX7_plan_X7_isTrade : GoodIn wsX7_plan (wsV RX7 184 RX7 yX7_isTrade wsX7_isTrade) := goodIn_app (goodIn_of _ (by decide +kernel)) ggX7_plan_X7_isTrade
theorem dX7_plan_0 : decode cX7_plan 0 = .ok (.aload_n 0, 1) := by decide +kernel
theorem dX7_plan_1 : decode cX7_plan 1 = .ok (.iload_n 1, 1) := by decide +kernel
theorem dX7_plan_2 : decode cX7_plan 2 = .ok (.iload_n 2, 1) := by decide +kernel
theorem dX7_plan_3 : decode cX7_plan 3 = .ok (.iload_n 3, 1) := by decide +kernel
theorem dX7_plan_4 : decode cX7_plan 4 = .ok (.iload 4, 2) := by decide +kernel
theorem dX7_plan_6 : decode cX7_plan 6 = .ok (.invokevirtual 184, 3) := by decide +kernel
theorem dX7_plan_9 : decode cX7_plan 9 = .ok (.ifCond .ne 5, 3) := by decide +kernel
theorem dX7_plan_12 : decode cX7_plan 12 = .ok (.iconst (-1), 1) := by decide +kernel
theorem dX7_plan_13 : decode cX7_plan 13 = .ok (.ireturn, 1) := by decide +kernel
theorem dX7_plan_14 : decode cX7_plan 14 = .ok (.aload_n 0, 1) := by decide +kernel
theorem dX7_plan_15 : decode cX7_plan 15 = .ok (.getfield 7, 3) := by decide +kernel
theorem dX7_plan_18 : decode cX7_plan 18 = .ok (.bipush 59, 2) := by decide +kernel
theorem dX7_plan_20 : decode cX7_plan 20 = .ok (.iaload, 1) := by decide +kernel
theorem dX7_plan_21 : decode cX7_plan 21 = .ok (.bipush 6, 2) := by decide +kernel
theorem dX7_plan_23 : decode cX7_plan 23 = .ok (.if_icmp .ne 6, 3) := by decide +kernel
theorem dX7_plan_26 : decode cX7_plan 26 = .ok (.bipush (-3), 2) := by decide +kernel
theorem dX7_plan_28 : decode cX7_plan 28 = .ok (.ireturn, 1) := by decide +kernel
theorem dX7_plan_29 : decode cX7_plan 29 = .ok (.bipush 35, 2) := by decide +kernel
theorem dX7_plan_31 : decode cX7_plan 31 = .ok (.iconst 4, 1) := by decide +kernel
theorem dX7_plan_32 : decode cX7_plan 32 = .ok (.aload_n 0, 1) := by decide +kernel
theorem dX7_plan_33 : decode cX7_plan 33 = .ok (.getfield 7, 3) := by decide +kernel
theorem dX7_plan_36 : decode cX7_plan 36 = .ok (.bipush 59, 2) := by decide +kernel
theorem dX7_plan_38 : decode cX7_plan 38 = .ok (.iaload, 1) := by decide +kernel
theorem dX7_plan_39 : decode cX7_plan 39 = .ok (.imul, 1) := by decide +kernel
theorem dX7_plan_40 : decode cX7_plan 40 = .ok (.iadd, 1) := by decide +kernel
theorem dX7_plan_41 : decode cX7_plan 41 = .ok (.istore 5, 2) := by decide +kernel
theorem dX7_plan_43 : decode cX7_plan 43 = .ok (.aload_n 0, 1) := by decide +kernel
theorem dX7_plan_44 : decode cX7_plan 44 = .ok (.getfield 7, 3) := by decide +kernel
theorem dX7_plan_47 : decode cX7_plan 47 = .ok (.iload 5, 2) := by decide +kernel
theorem dX7_plan_49 : decode cX7_plan 49 = .ok (.iload_n 1, 1) := by decide +kernel
theorem dX7_plan_50 : decode cX7_plan 50 = .ok (.iastore, 1) := by decide +kernel
theorem dX7_plan_51 : decode cX7_plan 51 = .ok (.aload_n 0, 1) := by decide +kernel
theorem dX7_plan_52 : decode cX7_plan 52 = .ok (.getfield 7, 3) := by decide +kernel
theorem dX7_plan_55 : decode cX7_plan 55 = .ok (.iload 5, 2) := by decide +kernel
theorem dX7_plan_57 : decode cX7_plan 57 = .ok (.iconst 1, 1) := by decide +kernel
theorem dX7_plan_58 : decode cX7_plan 58 = .ok (.iadd, 1) := by decide +kernel
theorem dX7_plan_59 : decode cX7_plan 59 = .ok (.iload_n 2, 1) := by decide +kernel
theorem dX7_plan_60 : decode cX7_plan 60 = .ok (.iastore, 1) := by decide +kernel
theorem dX7_plan_61 : decode cX7_plan 61 = .ok (.aload_n 0, 1) := by decide +kernel
theorem dX7_plan_62 : decode cX7_plan 62 = .ok (.getfield 7, 3) := by decide +kernel
theorem dX7_plan_65 : decode cX7_plan 65 = .ok (.iload 5, 2) := by decide +kernel
theorem dX7_plan_67 : decode cX7_plan 67 = .ok (.iconst 2, 1) := by decide +kernel
theorem dX7_plan_68 : decode cX7_plan 68 = .ok (.iadd, 1) := by decide +kernel
theorem dX7_plan_69 : decode cX7_plan 69 = .ok (.iload_n 3, 1) := by decide +kernel
theorem dX7_plan_70 : decode cX7_plan 70 = .ok (.iastore, 1) := by decide +kernel
theorem dX7_plan_71 : decode cX7_plan 71 = .ok (.aload_n 0, 1) := by decide +kernel
theorem dX7_plan_72 : decode cX7_plan 72 = .ok (.getfield 7, 3) := by decide +kernel
theorem dX7_plan_75 : decode cX7_plan 75 = .ok (.iload 5, 2) := by decide +kernel
theorem dX7_plan_77 : decode cX7_plan 77 = .ok (.iconst 3, 1) := by decide +kernel
theorem dX7_plan_78 : decode cX7_plan 78 = .ok (.iadd, 1) := by decide +kernel
theorem dX7_plan_79 : decode cX7_plan 79 = .ok (.iload 4, 2) := by decide +kernel
theorem dX7_plan_81 : decode cX7_plan 81 = .ok (.iastore, 1) := by decide +kernel
theorem dX7_plan_82 : decode cX7_plan 82 = .ok (.aload_n 0, 1) := by decide +kernel
theorem dX7_plan_83 : decode cX7_plan 83 = .ok (.getfield 7, 3) := by decide +kernel
theorem dX7_plan_86 : decode cX7_plan 86 = .ok (.bipush 59, 2) := by decide +kernel
theorem dX7_plan_88 : decode cX7_plan 88 = .ok (.dup2, 1) := by decide +kernel
theorem dX7_plan_89 : decode cX7_plan 89 = .ok (.iaload, 1) := by decide +kernel
theorem dX7_plan_90 : decode cX7_plan 90 = .ok (.iconst 1, 1) := by decide +kernel
theorem dX7_plan_91 : decode cX7_plan 91 = .ok (.iadd, 1) := by decide +kernel
theorem dX7_plan_92 : decode cX7_plan 92 = .ok (.iastore, 1) := by decide +kernel
theorem dX7_plan_93 : decode cX7_plan 93 = .ok (.aload_n 0, 1) := by decide +kernel
theorem dX7_plan_94 : decode cX7_plan 94 = .ok (.getfield 7, 3) := by decide +kernel
theorem dX7_plan_97 : decode cX7_plan 97 = .ok (.bipush 59, 2) := by decide +kernel
theorem dX7_plan_99 : decode cX7_plan 99 = .ok (.iaload, 1) := by decide +kernel
theorem dX7_plan_100 : decode cX7_plan 100 = .ok (.ireturn, 1) := by decide +kernel
set_option maxRecDepth 20000 in
theorem ggX7_cut_X7_in : GoodIn wsX7_cut wsX7_in := goodIn_r _ [5] (by decide +kernel) (by decide +kernel)
set_option maxRecDepth 20000 in
theorem gX7_cut_X7_in : GoodIn wsX7_cut (va_wsS RX7 46 yX7_in wsX7_in) := goodIn_app (goodIn_of _ (by decide +kernel)) ggX7_cut_X7_in
set_option maxRecDepth 20000 in
theorem ggX7_cut_X7_puts : GoodIn wsX7_cut wsX7_puts := goodIn_r _ [9, 1, 10, 11, 12, 13, 14, 15, 16, 17, 18, 19, 20, 21, 22, 23, 24, 25, 26, 27, 28, 29, 30, 31, 32, 33, 34, 35, 36, 37, 38, 39, 40, 41, 42, 43] (by decide +kernel) (by decide +kernel)
set_option maxRecDepth 20000 in
theorem gX7_cut_X7_puts : GoodIn wsX7_cut (wsV RX7 176 RX7 yX7_puts wsX7_puts) := goodIn_app (goodIn_of _ (by decide +kernel)) ggX7_cut_X7_puts
theorem dX7_cut_0 : decode cX7_cut 0 = .ok (.aload_n 0, 1) := by decide +kernel
theorem dX7_cut_1 : decode cX7_cut 1 = .ok (.iload_n 1, 1) := by decide +kernel
theorem dX7_cut_2 : decode cX7_cut 2 = .ok (.i2l, 1) := by decide +kernel
theorem dX7_cut_3 : decode cX7_cut 3 = .ok (.lconst 0, 1) := by decide +kernel
theorem dX7_cut_4 : decode cX7_cut 4 = .ok (.aload_n 0, 1) := by decide +kernel
theorem dX7_cut_5 : decode cX7_cut 5 = .ok (.getfield 7, 3) := by decide +kernel
theorem dX7_cut_8 : decode cX7_cut 8 = .ok (.bipush 59, 2) := by decide +kernel
theorem dX7_cut_10 : decode cX7_cut 10 = .ok (.iaload, 1) := by decide +kernel
theorem dX7_cut_11 : decode cX7_cut 11 = .ok (.i2l, 1) := by decide +kernel
theorem dX7_cut_12 : decode cX7_cut 12 = .ok (.invokestatic 46, 3) := by decide +kernel
theorem dX7_cut_15 : decode cX7_cut 15 = .ok (.bipush 59, 2) := by decide +kernel
theorem dX7_cut_17 : decode cX7_cut 17 = .ok (.iload_n 1, 1) := by decide +kernel
theorem dX7_cut_18 : decode cX7_cut 18 = .ok (.iconst 0, 1) := by decide +kernel
theorem dX7_cut_19 : decode cX7_cut 19 = .ok (.invokevirtual 176, 3) := by decide +kernel
theorem dX7_cut_22 : decode cX7_cut 22 = .ok (.ireturn, 1) := by decide +kernel
set_option maxRecDepth 20000 in
theorem ggX7_plucksOn_X7_shareOn : GoodIn wsX7_plucksOn wsX7_shareOn := goodIn_r _ [6, 1, 7, 8, 9, 10, 11, 12, 13, 14, 15, 16, 17, 18, 19, 20, 21, 22, 23, 24, 25, 26, 27, 28, 29, 30, 31, 32, 33, 34, 35, 36, 37, 38, 39, 40] (by decide +kernel) (by decide +kernel)
set_option maxRecDepth 20000 in
theorem gX7_plucksOn_X7_shareOn : GoodIn wsX7_plucksOn (wsV RX7 136 RX7 yX7_shareOn wsX7_shareOn) := goodIn_app (goodIn_of _ (by decide +kernel)) ggX7_plucksOn_X7_shareOn
theorem dX7_plucksOn_0 : decode cX7_plucksOn 0 = .ok (.aload_n 0, 1) := by decide +kernel
theorem dX7_plucksOn_1 : decode cX7_plucksOn 1 = .ok (.iload_n 1, 1) := by decide +kernel
theorem dX7_plucksOn_2 : decode cX7_plucksOn 2 = .ok (.iload 4, 2) := by decide +kernel
theorem dX7_plucksOn_4 : decode cX7_plucksOn 4 = .ok (.iload_n 3, 1) := by decide +kernel
theorem dX7_plucksOn_5 : decode cX7_plucksOn 5 = .ok (.invokevirtual 136, 3) := by decide +kernel
theorem dX7_plucksOn_8 : decode cX7_plucksOn 8 = .ok (.iload 5, 2) := by decide +kernel
theorem dX7_plucksOn_10 : decode cX7_plucksOn 10 = .ok (.if_icmp .lt 23, 3) := by decide +kernel
theorem dX7_plucksOn_13 : decode cX7_plucksOn 13 = .ok (.aload_n 0, 1) := by decide +kernel
theorem dX7_plucksOn_14 : decode cX7_plucksOn 14 = .ok (.iload_n 1, 1) := by decide +kernel
theorem dX7_plucksOn_15 : decode cX7_plucksOn 15 = .ok (.iload 4, 2) := by decide +kernel
theorem dX7_plucksOn_17 : decode cX7_plucksOn 17 = .ok (.iload_n 2, 1) := by decide +kernel
theorem dX7_plucksOn_18 : decode cX7_plucksOn 18 = .ok (.invokevirtual 136, 3) := by decide +kernel
theorem dX7_plucksOn_21 : decode cX7_plucksOn 21 = .ok (.iload 5, 2) := by decide +kernel
theorem dX7_plucksOn_23 : decode cX7_plucksOn 23 = .ok (.iadd, 1) := by decide +kernel
theorem dX7_plucksOn_24 : decode cX7_plucksOn 24 = .ok (.bipush 99, 2) := by decide +kernel
theorem dX7_plucksOn_26 : decode cX7_plucksOn 26 = .ok (.if_icmp .gt 7, 3) := by decide +kernel
theorem dX7_plucksOn_29 : decode cX7_plucksOn 29 = .ok (.iconst 1, 1) := by decide +kernel
theorem dX7_plucksOn_30 : decode cX7_plucksOn 30 = .ok (.goto 4, 3) := by decide +kernel
theorem dX7_plucksOn_33 : decode cX7_plucksOn 33 = .ok (.iconst 0, 1) := by decide +kernel
theorem dX7_plucksOn_34 : decode cX7_plucksOn 34 = .ok (.istore 6, 2) := by decide +kernel
theorem dX7_plucksOn_36 : decode cX7_plucksOn 36 = .ok (.iload 6, 2) := by decide +kernel
theorem dX7_plucksOn_38 : decode cX7_plucksOn 38 = .ok (.ifCond .eq 45, 3) := by decide +kernel
theorem dX7_plucksOn_41 : decode cX7_plucksOn 41 = .ok (.aload_n 0, 1) := by decide +kernel
theorem dX7_plucksOn_42 : decode cX7_plucksOn 42 = .ok (.getfield 7, 3) := by decide +kernel
theorem dX7_plucksOn_45 : decode cX7_plucksOn 45 = .ok (.iload_n 1, 1) := by decide +kernel
theorem dX7_plucksOn_46 : decode cX7_plucksOn 46 = .ok (.bipush 19, 2) := by decide +kernel
theorem dX7_plucksOn_48 : decode cX7_plucksOn 48 = .ok (.iadd, 1) := by decide +kernel
theorem dX7_plucksOn_49 : decode cX7_plucksOn 49 = .ok (.iconst 5, 1) := by decide +kernel
theorem dX7_plucksOn_50 : decode cX7_plucksOn 50 = .ok (.iload 4, 2) := by decide +kernel
theorem dX7_plucksOn_52 : decode cX7_plucksOn 52 = .ok (.imul, 1) := by decide +kernel
theorem dX7_plucksOn_53 : decode cX7_plucksOn 53 = .ok (.iadd, 1) := by decide +kernel
theorem dX7_plucksOn_54 : decode cX7_plucksOn 54 = .ok (.iload_n 3, 1) := by decide +kernel
theorem dX7_plucksOn_55 : decode cX7_plucksOn 55 = .ok (.iadd, 1) := by decide +kernel
theorem dX7_plucksOn_56 : decode cX7_plucksOn 56 = .ok (.dup2, 1) := by decide +kernel
theorem dX7_plucksOn_57 : decode cX7_plucksOn 57 = .ok (.iaload, 1) := by decide +kernel
theorem dX7_plucksOn_58 : decode cX7_plucksOn 58 = .ok (.iload 5, 2) := by decide +kernel
theorem dX7_plucksOn_60 : decode cX7_plucksOn 60 = .ok (.isub, 1) := by decide +kernel
theorem dX7_plucksOn_61 : decode cX7_plucksOn 61 = .ok (.iastore, 1) := by decide +kernel
theorem dX7_plucksOn_62 : decode cX7_plucksOn 62 = .ok (.aload_n 0, 1) := by decide +kernel
theorem dX7_plucksOn_63 : decode cX7_plucksOn 63 = .ok (.getfield 7, 3) := by decide +kernel
theorem dX7_plucksOn_66 : decode cX7_plucksOn 66 = .ok (.iload_n 1, 1) := by decide +kernel
theorem dX7_plucksOn_67 : decode cX7_plucksOn 67 = .ok (.bipush 19, 2) := by decide +kernel
theorem dX7_plucksOn_69 : decode cX7_plucksOn 69 = .ok (.iadd, 1) := by decide +kernel
theorem dX7_plucksOn_70 : decode cX7_plucksOn 70 = .ok (.iconst 5, 1) := by decide +kernel
theorem dX7_plucksOn_71 : decode cX7_plucksOn 71 = .ok (.iload 4, 2) := by decide +kernel
theorem dX7_plucksOn_73 : decode cX7_plucksOn 73 = .ok (.imul, 1) := by decide +kernel
theorem dX7_plucksOn_74 : decode cX7_plucksOn 74 = .ok (.iadd, 1) := by decide +kernel
theorem dX7_plucksOn_75 : decode cX7_plucksOn 75 = .ok (.iload_n 2, 1) := by decide +kernel
theorem dX7_plucksOn_76 : decode cX7_plucksOn 76 = .ok (.iadd, 1) := by decide +kernel
theorem dX7_plucksOn_77 : decode cX7_plucksOn 77 = .ok (.dup2, 1) := by decide +kernel
theorem dX7_plucksOn_78 : decode cX7_plucksOn 78 = .ok (.iaload, 1) := by decide +kernel
theorem dX7_plucksOn_79 : decode cX7_plucksOn 79 = .ok (.iload 5, 2) := by decide +kernel
theorem dX7_plucksOn_81 : decode cX7_plucksOn 81 = .ok (.iadd, 1) := by decide +kernel
theorem dX7_plucksOn_82 : decode cX7_plucksOn 82 = .ok (.iastore, 1) := by decide +kernel
theorem dX7_plucksOn_83 : decode cX7_plucksOn 83 = .ok (.iload 6, 2) := by decide +kernel
theorem dX7_plucksOn_85 : decode cX7_plucksOn 85 = .ok (.ireturn, 1) := by decide +kernel
set_option maxRecDepth 20000 in
theorem ggX7_buysOn_X7_moneyOn : GoodIn wsX7_buysOn wsX7_moneyOn := goodIn_r _ [6, 1, 15, 16, 17, 18, 19, 20, 21, 22, 23, 24, 25, 26, 27, 28, 29, 30, 31, 32, 33, 34, 35, 36, 37, 38, 39, 40, 41, 42, 43, 44, 45, 46, 47, 48] (by decide +kernel) (by decide +kernel)
set_option maxRecDepth 20000 in
theorem gX7_buysOn_X7_moneyOn : GoodIn wsX7_buysOn (wsV RX7 146 RX7 yX7_moneyOn wsX7_moneyOn) := goodIn_app (goodIn_of _ (by decide +kernel)) ggX7_buysOn_X7_moneyOn
set_option maxRecDepth 20000 in
theorem ggX7_buysOn_X7_plucksOn : GoodIn wsX7_buysOn wsX7_plucksOn := goodIn_r _ [10, 1, 11, 12, 13, 5, 14, 15, 16, 17, 18, 19, 20, 21, 22, 23, 24, 25, 26, 27, 28, 29, 30, 31, 32, 33, 34, 35, 36, 37, 38, 39, 40, 41, 42, 43, 44, 45, 46, 47, 48] (by decide +kernel) (by decide +kernel)
set_option maxRecDepth 20000 in
theorem gX7_buysOn_X7_plucksOn : GoodIn wsX7_buysOn (wsV RX7 188 RX7 yX7_plucksOn wsX7_plucksOn) := goodIn_app (goodIn_of _ (by decide +kernel)) ggX7_buysOn_X7_plucksOn
theorem dX7_buysOn_0 : decode cX7_buysOn 0 = .ok (.iload 5, 2) := by decide +kernel
theorem dX7_buysOn_2 : decode cX7_buysOn 2 = .ok (.aload_n 0, 1) := by decide +kernel
theorem dX7_buysOn_3 : decode cX7_buysOn 3 = .ok (.getfield 7, 3) := by decide +kernel
theorem dX7_buysOn_6 : decode cX7_buysOn 6 = .ok (.iload_n 1, 1) := by decide +kernel
theorem dX7_buysOn_7 : decode cX7_buysOn 7 = .ok (.bipush 6, 2) := by decide +kernel
theorem dX7_buysOn_9 : decode cX7_buysOn 9 = .ok (.iadd, 1) := by decide +kernel
theorem dX7_buysOn_10 : decode cX7_buysOn 10 = .ok (.iload 4, 2) := by decide +kernel
theorem dX7_buysOn_12 : decode cX7_buysOn 12 = .ok (.iadd, 1) := by decide +kernel
theorem dX7_buysOn_13 : decode cX7_buysOn 13 = .ok (.iaload, 1) := by decide +kernel
theorem dX7_buysOn_14 : decode cX7_buysOn 14 = .ok (.imul, 1) := by decide +kernel
theorem dX7_buysOn_15 : decode cX7_buysOn 15 = .ok (.istore 6, 2) := by decide +kernel
theorem dX7_buysOn_17 : decode cX7_buysOn 17 = .ok (.aload_n 0, 1) := by decide +kernel
theorem dX7_buysOn_18 : decode cX7_buysOn 18 = .ok (.iload_n 1, 1) := by decide +kernel
theorem dX7_buysOn_19 : decode cX7_buysOn 19 = .ok (.iload_n 2, 1) := by decide +kernel
theorem dX7_buysOn_20 : decode cX7_buysOn 20 = .ok (.invokevirtual 146, 3) := by decide +kernel
theorem dX7_buysOn_23 : decode cX7_buysOn 23 = .ok (.iload 6, 2) := by decide +kernel
theorem dX7_buysOn_25 : decode cX7_buysOn 25 = .ok (.if_icmp .lt 36, 3) := by decide +kernel
theorem dX7_buysOn_28 : decode cX7_buysOn 28 = .ok (.aload_n 0, 1) := by decide +kernel
theorem dX7_buysOn_29 : decode cX7_buysOn 29 = .ok (.iload_n 1, 1) := by decide +kernel
theorem dX7_buysOn_30 : decode cX7_buysOn 30 = .ok (.iload_n 3, 1) := by decide +kernel
theorem dX7_buysOn_31 : decode cX7_buysOn 31 = .ok (.invokevirtual 146, 3) := by decide +kernel
theorem dX7_buysOn_34 : decode cX7_buysOn 34 = .ok (.iload 6, 2) := by decide +kernel
theorem dX7_buysOn_36 : decode cX7_buysOn 36 = .ok (.iadd, 1) := by decide +kernel
theorem dX7_buysOn_37 : decode cX7_buysOn 37 = .ok (.sipush 999, 3) := by decide +kernel
theorem dX7_buysOn_40 : decode cX7_buysOn 40 = .ok (.if_icmp .gt 21, 3) := by decide +kernel
theorem dX7_buysOn_43 : decode cX7_buysOn 43 = .ok (.aload_n 0, 1) := by decide +kernel
theorem dX7_buysOn_44 : decode cX7_buysOn 44 = .ok (.iload_n 1, 1) := by decide +kernel
theorem dX7_buysOn_45 : decode cX7_buysOn 45 = .ok (.iload_n 2, 1) := by decide +kernel
theorem dX7_buysOn_46 : decode cX7_buysOn 46 = .ok (.iload_n 3, 1) := by decide +kernel
theorem dX7_buysOn_47 : decode cX7_buysOn 47 = .ok (.iload 4, 2) := by decide +kernel
theorem dX7_buysOn_49 : decode cX7_buysOn 49 = .ok (.iload 5, 2) := by decide +kernel
theorem dX7_buysOn_51 : decode cX7_buysOn 51 = .ok (.invokevirtual 188, 3) := by decide +kernel
theorem dX7_buysOn_54 : decode cX7_buysOn 54 = .ok (.ifCond .eq 7, 3) := by decide +kernel
theorem dX7_buysOn_57 : decode cX7_buysOn 57 = .ok (.iconst 1, 1) := by decide +kernel
theorem dX7_buysOn_58 : decode cX7_buysOn 58 = .ok (.goto 4, 3) := by decide +kernel
theorem dX7_buysOn_61 : decode cX7_buysOn 61 = .ok (.iconst 0, 1) := by decide +kernel
theorem dX7_buysOn_62 : decode cX7_buysOn 62 = .ok (.istore 7, 2) := by decide +kernel
theorem dX7_buysOn_64 : decode cX7_buysOn 64 = .ok (.iload 7, 2) := by decide +kernel
theorem dX7_buysOn_66 : decode cX7_buysOn 66 = .ok (.ifCond .eq 35, 3) := by decide +kernel
theorem dX7_buysOn_69 : decode cX7_buysOn 69 = .ok (.aload_n 0, 1) := by decide +kernel
theorem dX7_buysOn_70 : decode cX7_buysOn 70 = .ok (.getfield 7, 3) := by decide +kernel
theorem dX7_buysOn_73 : decode cX7_buysOn 73 = .ok (.iload_n 1, 1) := by decide +kernel
theorem dX7_buysOn_74 : decode cX7_buysOn 74 = .ok (.bipush 9, 2) := by decide +kernel
theorem dX7_buysOn_76 : decode cX7_buysOn 76 = .ok (.iadd, 1) := by decide +kernel
theorem dX7_buysOn_77 : decode cX7_buysOn 77 = .ok (.iload_n 2, 1) := by decide +kernel
theorem dX7_buysOn_78 : decode cX7_buysOn 78 = .ok (.iadd, 1) := by decide +kernel
theorem dX7_buysOn_79 : decode cX7_buysOn 79 = .ok (.dup2, 1) := by decide +kernel
theorem dX7_buysOn_80 : decode cX7_buysOn 80 = .ok (.iaload, 1) := by decide +kernel
theorem dX7_buysOn_81 : decode cX7_buysOn 81 = .ok (.iload 6, 2) := by decide +kernel
theorem dX7_buysOn_83 : decode cX7_buysOn 83 = .ok (.isub, 1) := by decide +kernel
theorem dX7_buysOn_84 : decode cX7_buysOn 84 = .ok (.iastore, 1) := by decide +kernel
theorem dX7_buysOn_85 : decode cX7_buysOn 85 = .ok (.aload_n 0, 1) := by decide +kernel
theorem dX7_buysOn_86 : decode cX7_buysOn 86 = .ok (.getfield 7, 3) := by decide +kernel
theorem dX7_buysOn_89 : decode cX7_buysOn 89 = .ok (.iload_n 1, 1) := by decide +kernel
theorem dX7_buysOn_90 : decode cX7_buysOn 90 = .ok (.bipush 9, 2) := by decide +kernel
theorem dX7_buysOn_92 : decode cX7_buysOn 92 = .ok (.iadd, 1) := by decide +kernel
theorem dX7_buysOn_93 : decode cX7_buysOn 93 = .ok (.iload_n 3, 1) := by decide +kernel
theorem dX7_buysOn_94 : decode cX7_buysOn 94 = .ok (.iadd, 1) := by decide +kernel
theorem dX7_buysOn_95 : decode cX7_buysOn 95 = .ok (.dup2, 1) := by decide +kernel
theorem dX7_buysOn_96 : decode cX7_buysOn 96 = .ok (.iaload, 1) := by decide +kernel
theorem dX7_buysOn_97 : decode cX7_buysOn 97 = .ok (.iload 6, 2) := by decide +kernel
theorem dX7_buysOn_99 : decode cX7_buysOn 99 = .ok (.iadd, 1) := by decide +kernel
theorem dX7_buysOn_100 : decode cX7_buysOn 100 = .ok (.iastore, 1) := by decide +kernel
theorem dX7_buysOn_101 : decode cX7_buysOn 101 = .ok (.iload 7, 2) := by decide +kernel
theorem dX7_buysOn_103 : decode cX7_buysOn 103 = .ok (.ireturn, 1) := by decide +kernel
set_option maxRecDepth 20000 in
theorem ggX7_buys_X7_isTrade : GoodIn wsX7_buys wsX7_isTrade := goodIn_r _ [5, 6, 7, 8, 4, 9, 10, 11, 12, 13, 14, 15, 16, 17, 18, 36, 37, 38, 39, 40, 41, 42, 43, 44, 45, 46, 47, 48, 49, 50, 51, 52, 53, 54, 55, 56, 57, 58, 59, 60, 61, 62, 63, 64, 65, 66, 67, 68, 69] (by decide +kernel) (by decide +kernel)
set_option maxRecDepth 20000 in
theorem gX7_buys_X7_isTrade : GoodIn wsX7_buys (wsV RX7 184 RX7 yX7_isTrade wsX7_isTrade) := goodIn_app (goodIn_of _ (by decide +kernel)) ggX7_buys_X7_isTrade
set_option maxRecDepth 20000 in
theorem ggX7_buys_X7_buysOn : GoodIn wsX7_buys wsX7_buysOn := goodIn_r _ [22, 23, 24, 25, 26, 4, 27, 28, 29, 30, 31, 32, 33, 34, 35, 36, 37, 38, 39, 40, 41, 42, 43, 44, 45, 46, 47, 48, 49, 50, 51, 52, 53, 54, 55, 56, 57, 58, 59, 60, 61, 62, 63, 64, 65, 66, 67, 68, 69] (by decide +kernel) (by decide +kernel)
set_option maxRecDepth 20000 in
theorem gX7_buys_X7_buysOn : GoodIn wsX7_buys (wsV RX7 192 RX7 yX7_buysOn wsX7_buysOn) := goodIn_app (goodIn_of _ (by decide +kernel)) ggX7_buys_X7_buysOn
set_option maxRecDepth 20000 in
theorem ggX7_buys_X7_moneyOn : GoodIn wsX7_buys wsX7_moneyOn := goodIn_r _ [27, 23, 36, 37, 38, 39, 40, 41, 42, 43, 44, 45, 46, 47, 48, 49, 50, 51, 52, 53, 54, 55, 56, 57, 58, 59, 60, 61, 62, 63, 64, 65, 66, 67, 68, 69] (by decide +kernel) (by decide +kernel)
set_option maxRecDepth 20000 in
theorem gX7_buys_X7_moneyOn : GoodIn wsX7_buys (wsV RX7 146 RX7 yX7_moneyOn wsX7_moneyOn) := goodIn_app (goodIn_of _ (by decide +kernel)) ggX7_buys_X7_moneyOn
theorem dX7_buys_0 : decode cX7_buys 0 = .ok (.aload_n 0, 1) := by decide +kernel
theorem dX7_buys_1 : decode cX7_buys 1 = .ok (.iload_n 1, 1) := by decide +kernel
theorem dX7_buys_2 : decode cX7_buys 2 = .ok (.iload_n 2, 1) := by decide +kernel
theorem dX7_buys_3 : decode cX7_buys 3 = .ok (.iload_n 3, 1) := by decide +kernel
theorem dX7_buys_4 : decode cX7_buys 4 = .ok (.iload 4, 2) := by decide +kernel
theorem dX7_buys_6 : decode cX7_buys 6 = .ok (.invokevirtual 184, 3) := by decide +kernel
theorem dX7_buys_9 : decode cX7_buys 9 = .ok (.ifCond .ne 5, 3) := by decide +kernel
theorem dX7_buys_12 : decode cX7_buys 12 = .ok (.iconst (-1), 1) := by decide +kernel
theorem dX7_buys_13 : decode cX7_buys 13 = .ok (.ireturn, 1) := by decide +kernel
theorem dX7_buys_14 : decode cX7_buys 14 = .ok (.aload_n 0, 1) := by decide +kernel
theorem dX7_buys_15 : decode cX7_buys 15 = .ok (.iconst 0, 1) := by decide +kernel
theorem dX7_buys_16 : decode cX7_buys 16 = .ok (.iload_n 1, 1) := by decide +kernel
theorem dX7_buys_17 : decode cX7_buys 17 = .ok (.iload_n 2, 1) := by decide +kernel
theorem dX7_buys_18 : decode cX7_buys 18 = .ok (.iload_n 3, 1) := by decide +kernel
theorem dX7_buys_19 : decode cX7_buys 19 = .ok (.iload 4, 2) := by decide +kernel
theorem dX7_buys_21 : decode cX7_buys 21 = .ok (.invokevirtual 192, 3) := by decide +kernel
theorem dX7_buys_24 : decode cX7_buys 24 = .ok (.ifCond .eq 12, 3) := by decide +kernel
theorem dX7_buys_27 : decode cX7_buys 27 = .ok (.aload_n 0, 1) := by decide +kernel
theorem dX7_buys_28 : decode cX7_buys 28 = .ok (.iconst 0, 1) := by decide +kernel
theorem dX7_buys_29 : decode cX7_buys 29 = .ok (.iload_n 1, 1) := by decide +kernel
theorem dX7_buys_30 : decode cX7_buys 30 = .ok (.invokevirtual 146, 3) := by decide +kernel
theorem dX7_buys_33 : decode cX7_buys 33 = .ok (.goto 5, 3) := by decide +kernel
theorem dX7_buys_36 : decode cX7_buys 36 = .ok (.bipush (-2), 2) := by decide +kernel
theorem dX7_buys_38 : decode cX7_buys 38 = .ok (.ireturn, 1) := by decide +kernel
set_option maxRecDepth 20000 in
theorem ggX7_buy_X7_buys : GoodIn wsX7_buy wsX7_buys := goodIn_r _ [5, 6, 7, 8, 4, 9, 10, 11, 12, 13, 14, 15, 16, 17, 18, 19, 20, 21, 22, 23, 24, 25, 26, 27, 28, 29, 30, 31, 32, 33, 34, 35, 36, 37, 38, 39, 40, 41, 42, 43, 44, 45, 46, 47, 48, 49, 50, 51, 52, 53, 54, 55, 56, 57, 58, 59, 60, 61, 62, 63, 64, 65, 66, 67, 68, 69, 70, 71, 72, 73] (by decide +kernel) (by decide +kernel)
set_option maxRecDepth 20000 in
theorem gX7_buy_X7_buys : GoodIn wsX7_buy (wsV RX7 195 RX7 yX7_buys wsX7_buys) := goodIn_app (goodIn_of _ (by decide +kernel)) ggX7_buy_X7_buys
theorem dX7_buy_0 : decode cX7_buy 0 = .ok (.aload_n 0, 1) := by decide +kernel
theorem dX7_buy_1 : decode cX7_buy 1 = .ok (.iload_n 1, 1) := by decide +kernel
theorem dX7_buy_2 : decode cX7_buy 2 = .ok (.iload_n 2, 1) := by decide +kernel
theorem dX7_buy_3 : decode cX7_buy 3 = .ok (.iload_n 3, 1) := by decide +kernel
theorem dX7_buy_4 : decode cX7_buy 4 = .ok (.iload 4, 2) := by decide +kernel
theorem dX7_buy_6 : decode cX7_buy 6 = .ok (.invokevirtual 195, 3) := by decide +kernel
theorem dX7_buy_9 : decode cX7_buy 9 = .ok (.ireturn, 1) := by decide +kernel
set_option maxRecDepth 20000 in
theorem ggX7_pluck_X7_isTrade : GoodIn wsX7_pluck wsX7_isTrade := goodIn_r _ [5, 6, 7, 8, 4, 9, 10, 11, 12, 13, 14, 15, 16, 17, 18, 28, 29, 30, 31, 32, 33, 34, 35, 36, 37, 38, 39, 40, 41, 42, 43, 44, 45, 46, 47, 48, 49, 50, 51, 52, 53, 54, 55, 56, 57, 58, 59, 60, 61] (by decide +kernel) (by decide +kernel)
set_option maxRecDepth 20000 in
theorem gX7_pluck_X7_isTrade : GoodIn wsX7_pluck (wsV RX7 184 RX7 yX7_isTrade wsX7_isTrade) := goodIn_app (goodIn_of _ (by decide +kernel)) ggX7_pluck_X7_isTrade
set_option maxRecDepth 20000 in
theorem ggX7_pluck_X7_plucksOn : GoodIn wsX7_pluck wsX7_plucksOn := goodIn_r _ [22, 23, 24, 25, 26, 4, 27, 28, 29, 30, 31, 32, 33, 34, 35, 36, 37, 38, 39, 40, 41, 42, 43, 44, 45, 46, 47, 48, 49, 50, 51, 52, 53, 54, 55, 56, 57, 58, 59, 60, 61] (by decide +kernel) (by decide +kernel)
set_option maxRecDepth 20000 in
theorem gX7_pluck_X7_plucksOn : GoodIn wsX7_pluck (wsV RX7 188 RX7 yX7_plucksOn wsX7_plucksOn) := goodIn_app (goodIn_of _ (by decide +kernel)) ggX7_pluck_X7_plucksOn
set_option maxRecDepth 20000 in
theorem ggX7_pluck_X7_shareOn : GoodIn wsX7_pluck wsX7_shareOn := goodIn_r _ [27, 23, 28, 29, 30, 31, 32, 33, 34, 35, 36, 37, 38, 39, 40, 41, 42, 43, 44, 45, 46, 47, 48, 49, 50, 51, 52, 53, 54, 55, 56, 57, 58, 59, 60, 61] (by decide +kernel) (by decide +kernel)
set_option maxRecDepth 20000 in
theorem gX7_pluck_X7_shareOn : GoodIn wsX7_pluck (wsV RX7 136 RX7 yX7_shareOn wsX7_shareOn) := goodIn_app (goodIn_of _ (by decide +kernel)) ggX7_pluck_X7_shareOn
theorem dX7_pluck_0 : decode cX7_pluck 0 = .ok (.aload_n 0, 1) := by decide +kernel
theorem dX7_pluck_1 : decode cX7_pluck 1 = .ok (.iload_n 1, 1) := by decide +kernel
theorem dX7_pluck_2 : decode cX7_pluck 2 = .ok (.iload_n 2, 1) := by decide +kernel
theorem dX7_pluck_3 : decode cX7_pluck 3 = .ok (.iload_n 3, 1) := by decide +kernel
theorem dX7_pluck_4 : decode cX7_pluck 4 = .ok (.iload 4, 2) := by decide +kernel
theorem dX7_pluck_6 : decode cX7_pluck 6 = .ok (.invokevirtual 184, 3) := by decide +kernel
theorem dX7_pluck_9 : decode cX7_pluck 9 = .ok (.ifCond .ne 5, 3) := by decide +kernel
theorem dX7_pluck_12 : decode cX7_pluck 12 = .ok (.iconst (-1), 1) := by decide +kernel
theorem dX7_pluck_13 : decode cX7_pluck 13 = .ok (.ireturn, 1) := by decide +kernel
theorem dX7_pluck_14 : decode cX7_pluck 14 = .ok (.aload_n 0, 1) := by decide +kernel
theorem dX7_pluck_15 : decode cX7_pluck 15 = .ok (.iconst 0, 1) := by decide +kernel
theorem dX7_pluck_16 : decode cX7_pluck 16 = .ok (.iload_n 1, 1) := by decide +kernel
theorem dX7_pluck_17 : decode cX7_pluck 17 = .ok (.iload_n 2, 1) := by decide +kernel
theorem dX7_pluck_18 : decode cX7_pluck 18 = .ok (.iload_n 3, 1) := by decide +kernel
theorem dX7_pluck_19 : decode cX7_pluck 19 = .ok (.iload 4, 2) := by decide +kernel
theorem dX7_pluck_21 : decode cX7_pluck 21 = .ok (.invokevirtual 188, 3) := by decide +kernel
theorem dX7_pluck_24 : decode cX7_pluck 24 = .ok (.ifCond .eq 13, 3) := by decide +kernel
theorem dX7_pluck_27 : decode cX7_pluck 27 = .ok (.aload_n 0, 1) := by decide +kernel
theorem dX7_pluck_28 : decode cX7_pluck 28 = .ok (.iconst 0, 1) := by decide +kernel
theorem dX7_pluck_29 : decode cX7_pluck 29 = .ok (.iload_n 3, 1) := by decide +kernel
theorem dX7_pluck_30 : decode cX7_pluck 30 = .ok (.iload_n 1, 1) := by decide +kernel
theorem dX7_pluck_31 : decode cX7_pluck 31 = .ok (.invokevirtual 136, 3) := by decide +kernel
theorem dX7_pluck_34 : decode cX7_pluck 34 = .ok (.goto 5, 3) := by decide +kernel
theorem dX7_pluck_37 : decode cX7_pluck 37 = .ok (.bipush (-2), 2) := by decide +kernel
theorem dX7_pluck_39 : decode cX7_pluck 39 = .ok (.ireturn, 1) := by decide +kernel
set_option maxRecDepth 20000 in
theorem ggX7_weeks_X7_in : GoodIn wsX7_weeks wsX7_in := goodIn_r _ [6] (by decide +kernel) (by decide +kernel)
set_option maxRecDepth 20000 in
theorem gX7_weeks_X7_in : GoodIn wsX7_weeks (va_wsS RX7 46 yX7_in wsX7_in) := goodIn_app (goodIn_of _ (by decide +kernel)) ggX7_weeks_X7_in
set_option maxRecDepth 20000 in
theorem ggX7_weeks_X7_weekOn : GoodIn wsX7_weeks wsX7_weekOn := goodIn_r _ [10, 11, 2, 12, 13, 14, 5, 15, 16, 17, 18, 19, 20, 21, 22, 23, 24, 25, 26, 27, 28, 29, 30, 31, 32, 33, 34, 35, 36, 37, 38, 39, 40, 41, 42, 43, 44, 45, 46, 47, 48, 49, 50, 51, 52, 53, 54, 55, 56, 57, 58, 59, 60, 61, 62, 63, 64] (by decide +kernel) (by decide +kernel)
set_option maxRecDepth 20000 in
theorem gX7_weeks_X7_weekOn : GoodIn wsX7_weeks (wsV RX7 201 RX7 yX7_weekOn wsX7_weekOn) := goodIn_app (goodIn_of _ (by decide +kernel)) ggX7_weeks_X7_weekOn
theorem dX7_weeks_0 : decode cX7_weeks 0 = .ok (.iload_n 1, 1) := by decide +kernel
theorem dX7_weeks_1 : decode cX7_weeks 1 = .ok (.i2l, 1) := by decide +kernel
theorem dX7_weeks_2 : decode cX7_weeks 2 = .ok (.lconst 0, 1) := by decide +kernel
theorem dX7_weeks_3 : decode cX7_weeks 3 = .ok (.ldc2_w 199, 3) := by decide +kernel
theorem dX7_weeks_6 : decode cX7_weeks 6 = .ok (.invokestatic 46, 3) := by decide +kernel
theorem dX7_weeks_9 : decode cX7_weeks 9 = .ok (.ifCond .ne 5, 3) := by decide +kernel
theorem dX7_weeks_12 : decode cX7_weeks 12 = .ok (.iconst (-1), 1) := by decide +kernel
theorem dX7_weeks_13 : decode cX7_weeks 13 = .ok (.ireturn, 1) := by decide +kernel
theorem dX7_weeks_14 : decode cX7_weeks 14 = .ok (.aload_n 0, 1) := by decide +kernel
theorem dX7_weeks_15 : decode cX7_weeks 15 = .ok (.getfield 7, 3) := by decide +kernel
theorem dX7_weeks_18 : decode cX7_weeks 18 = .ok (.bipush 34, 2) := by decide +kernel
theorem dX7_weeks_20 : decode cX7_weeks 20 = .ok (.iaload, 1) := by decide +kernel
theorem dX7_weeks_21 : decode cX7_weeks 21 = .ok (.iload_n 1, 1) := by decide +kernel
theorem dX7_weeks_22 : decode cX7_weeks 22 = .ok (.iadd, 1) := by decide +kernel
theorem dX7_weeks_23 : decode cX7_weeks 23 = .ok (.sipush 999, 3) := by decide +kernel
theorem dX7_weeks_26 : decode cX7_weeks 26 = .ok (.if_icmp .le 6, 3) := by decide +kernel
theorem dX7_weeks_29 : decode cX7_weeks 29 = .ok (.bipush (-3), 2) := by decide +kernel
theorem dX7_weeks_31 : decode cX7_weeks 31 = .ok (.ireturn, 1) := by decide +kernel
theorem dX7_weeks_32 : decode cX7_weeks 32 = .ok (.iconst 0, 1) := by decide +kernel
theorem dX7_weeks_33 : decode cX7_weeks 33 = .ok (.istore_n 2, 1) := by decide +kernel
theorem dX7_weeks_34 : decode cX7_weeks 34 = .ok (.iconst 0, 1) := by decide +kernel
theorem dX7_weeks_35 : decode cX7_weeks 35 = .ok (.istore_n 3, 1) := by decide +kernel
theorem dX7_weeks_36 : decode cX7_weeks 36 = .ok (.iload_n 3, 1) := by decide +kernel
theorem dX7_weeks_37 : decode cX7_weeks 37 = .ok (.iload_n 1, 1) := by decide +kernel
theorem dX7_weeks_38 : decode cX7_weeks 38 = .ok (.if_icmp .ge 18, 3) := by decide +kernel
theorem dX7_weeks_41 : decode cX7_weeks 41 = .ok (.iload_n 2, 1) := by decide +kernel
theorem dX7_weeks_42 : decode cX7_weeks 42 = .ok (.aload_n 0, 1) := by decide +kernel
theorem dX7_weeks_43 : decode cX7_weeks 43 = .ok (.iconst 0, 1) := by decide +kernel
theorem dX7_weeks_44 : decode cX7_weeks 44 = .ok (.iconst 1, 1) := by decide +kernel
theorem dX7_weeks_45 : decode cX7_weeks 45 = .ok (.invokevirtual 201, 3) := by decide +kernel
theorem dX7_weeks_48 : decode cX7_weeks 48 = .ok (.iadd, 1) := by decide +kernel
theorem dX7_weeks_49 : decode cX7_weeks 49 = .ok (.istore_n 2, 1) := by decide +kernel
theorem dX7_weeks_50 : decode cX7_weeks 50 = .ok (.iinc 3 1, 3) := by decide +kernel
theorem dX7_weeks_53 : decode cX7_weeks 53 = .ok (.goto (-17), 3) := by decide +kernel
theorem dX7_weeks_56 : decode cX7_weeks 56 = .ok (.iload_n 2, 1) := by decide +kernel
theorem dX7_weeks_57 : decode cX7_weeks 57 = .ok (.ireturn, 1) := by decide +kernel
theorem dX7_copies_0 : decode cX7_copies 0 = .ok (.iconst 0, 1) := by decide +kernel
theorem dX7_copies_1 : decode cX7_copies 1 = .ok (.istore_n 3, 1) := by decide +kernel
theorem dX7_copies_2 : decode cX7_copies 2 = .ok (.iload_n 3, 1) := by decide +kernel
theorem dX7_copies_3 : decode cX7_copies 3 = .ok (.bipush 60, 2) := by decide +kernel
theorem dX7_copies_5 : decode cX7_copies 5 = .ok (.if_icmp .ge 25, 3) := by decide +kernel
theorem dX7_copies_8 : decode cX7_copies 8 = .ok (.aload_n 0, 1) := by decide +kernel
theorem dX7_copies_9 : decode cX7_copies 9 = .ok (.getfield 7, 3) := by decide +kernel
theorem dX7_copies_12 : decode cX7_copies 12 = .ok (.iload_n 2, 1) := by decide +kernel
theorem dX7_copies_13 : decode cX7_copies 13 = .ok (.iload_n 3, 1) := by decide +kernel
theorem dX7_copies_14 : decode cX7_copies 14 = .ok (.iadd, 1) := by decide +kernel
theorem dX7_copies_15 : decode cX7_copies 15 = .ok (.aload_n 0, 1) := by decide +kernel
theorem dX7_copies_16 : decode cX7_copies 16 = .ok (.getfield 7, 3) := by decide +kernel
theorem dX7_copies_19 : decode cX7_copies 19 = .ok (.iload_n 1, 1) := by decide +kernel
theorem dX7_copies_20 : decode cX7_copies 20 = .ok (.iload_n 3, 1) := by decide +kernel
theorem dX7_copies_21 : decode cX7_copies 21 = .ok (.iadd, 1) := by decide +kernel
theorem dX7_copies_22 : decode cX7_copies 22 = .ok (.iaload, 1) := by decide +kernel
theorem dX7_copies_23 : decode cX7_copies 23 = .ok (.iastore, 1) := by decide +kernel
theorem dX7_copies_24 : decode cX7_copies 24 = .ok (.iinc 3 1, 3) := by decide +kernel
theorem dX7_copies_27 : decode cX7_copies 27 = .ok (.goto (-25), 3) := by decide +kernel
theorem dX7_copies_30 : decode cX7_copies 30 = .ok (.return_, 1) := by decide +kernel
set_option maxRecDepth 20000 in
theorem ggX7_planGoes_X7_copies : GoodIn wsX7_planGoes wsX7_copies := goodIn_r _ [9, 4, 26, 27, 28, 29, 30, 31, 32, 33, 34, 35, 36, 37, 38, 39, 40, 41, 42, 43, 44, 45, 46, 47, 48, 49, 50, 51, 52, 53, 54, 55, 56, 57, 58, 59] (by decide +kernel) (by decide +kernel)
set_option maxRecDepth 20000 in
theorem gX7_planGoes_X7_copies : GoodIn wsX7_planGoes (wsV RX7 205 RX7 yX7_copies wsX7_copies) := goodIn_app (goodIn_of _ (by decide +kernel)) ggX7_planGoes_X7_copies
set_option maxRecDepth 20000 in
theorem ggX7_planGoes_X7_buysOn : GoodIn wsX7_planGoes wsX7_buysOn := goodIn_r _ [13, 4, 14, 15, 16, 8, 17, 18, 19, 20, 21, 22, 23, 24, 25, 26, 27, 28, 29, 30, 31, 32, 33, 34, 35, 36, 37, 38, 39, 40, 41, 42, 43, 44, 45, 46, 47, 48, 49, 50, 51, 52, 53, 54, 55, 56, 57, 58, 59] (by decide +kernel) (by decide +kernel)
set_option maxRecDepth 20000 in
theorem gX7_planGoes_X7_buysOn : GoodIn wsX7_planGoes (wsV RX7 192 RX7 yX7_buysOn wsX7_buysOn) := goodIn_app (goodIn_of _ (by decide +kernel)) ggX7_planGoes_X7_buysOn
theorem dX7_planGoes_0 : decode cX7_planGoes 0 = .ok (.aload_n 0, 1) := by decide +kernel
theorem dX7_planGoes_1 : decode cX7_planGoes 1 = .ok (.iconst 0, 1) := by decide +kernel
theorem dX7_planGoes_2 : decode cX7_planGoes 2 = .ok (.sipush 240, 3) := by decide +kernel
theorem dX7_planGoes_5 : decode cX7_planGoes 5 = .ok (.invokevirtual 205, 3) := by decide +kernel
theorem dX7_planGoes_8 : decode cX7_planGoes 8 = .ok (.aload_n 0, 1) := by decide +kernel
theorem dX7_planGoes_9 : decode cX7_planGoes 9 = .ok (.iconst 0, 1) := by decide +kernel
theorem dX7_planGoes_10 : decode cX7_planGoes 10 = .ok (.putfield 208, 3) := by decide +kernel
theorem dX7_planGoes_13 : decode cX7_planGoes 13 = .ok (.aload_n 0, 1) := by decide +kernel
theorem dX7_planGoes_14 : decode cX7_planGoes 14 = .ok (.bipush (-4), 2) := by decide +kernel
theorem dX7_planGoes_16 : decode cX7_planGoes 16 = .ok (.putfield 211, 3) := by decide +kernel
theorem dX7_planGoes_19 : decode cX7_planGoes 19 = .ok (.aload_n 0, 1) := by decide +kernel
theorem dX7_planGoes_20 : decode cX7_planGoes 20 = .ok (.iconst 0, 1) := by decide +kernel
theorem dX7_planGoes_21 : decode cX7_planGoes 21 = .ok (.putfield 214, 3) := by decide +kernel
theorem dX7_planGoes_24 : decode cX7_planGoes 24 = .ok (.iconst 0, 1) := by decide +kernel
theorem dX7_planGoes_25 : decode cX7_planGoes 25 = .ok (.istore_n 2, 1) := by decide +kernel
theorem dX7_planGoes_26 : decode cX7_planGoes 26 = .ok (.iload_n 2, 1) := by decide +kernel
theorem dX7_planGoes_27 : decode cX7_planGoes 27 = .ok (.aload_n 0, 1) := by decide +kernel
theorem dX7_planGoes_28 : decode cX7_planGoes 28 = .ok (.getfield 7, 3) := by decide +kernel
theorem dX7_planGoes_31 : decode cX7_planGoes 31 = .ok (.bipush 59, 2) := by decide +kernel
theorem dX7_planGoes_33 : decode cX7_planGoes 33 = .ok (.iaload, 1) := by decide +kernel
theorem dX7_planGoes_34 : decode cX7_planGoes 34 = .ok (.if_icmp .ge 129, 3) := by decide +kernel
theorem dX7_planGoes_37 : decode cX7_planGoes 37 = .ok (.bipush 35, 2) := by decide +kernel
theorem dX7_planGoes_39 : decode cX7_planGoes 39 = .ok (.iconst 4, 1) := by decide +kernel
theorem dX7_planGoes_40 : decode cX7_planGoes 40 = .ok (.iload_n 2, 1) := by decide +kernel
theorem dX7_planGoes_41 : decode cX7_planGoes 41 = .ok (.imul, 1) := by decide +kernel
theorem dX7_planGoes_42 : decode cX7_planGoes 42 = .ok (.iadd, 1) := by decide +kernel
theorem dX7_planGoes_43 : decode cX7_planGoes 43 = .ok (.istore_n 3, 1) := by decide +kernel
theorem dX7_planGoes_44 : decode cX7_planGoes 44 = .ok (.iload_n 2, 1) := by decide +kernel
theorem dX7_planGoes_45 : decode cX7_planGoes 45 = .ok (.iload_n 1, 1) := by decide +kernel
theorem dX7_planGoes_46 : decode cX7_planGoes 46 = .ok (.if_icmp .eq 111, 3) := by decide +kernel
theorem dX7_planGoes_49 : decode cX7_planGoes 49 = .ok (.aload_n 0, 1) := by decide +kernel
theorem dX7_planGoes_50 : decode cX7_planGoes 50 = .ok (.sipush 240, 3) := by decide +kernel
theorem dX7_planGoes_53 : decode cX7_planGoes 53 = .ok (.aload_n 0, 1) := by decide +kernel
theorem dX7_planGoes_54 : decode cX7_planGoes 54 = .ok (.getfield 7, 3) := by decide +kernel
theorem dX7_planGoes_57 : decode cX7_planGoes 57 = .ok (.iload_n 3, 1) := by decide +kernel
theorem dX7_planGoes_58 : decode cX7_planGoes 58 = .ok (.iaload, 1) := by decide +kernel
theorem dX7_planGoes_59 : decode cX7_planGoes 59 = .ok (.aload_n 0, 1) := by decide +kernel
theorem dX7_planGoes_60 : decode cX7_planGoes 60 = .ok (.getfield 7, 3) := by decide +kernel
theorem dX7_planGoes_63 : decode cX7_planGoes 63 = .ok (.iload_n 3, 1) := by decide +kernel
theorem dX7_planGoes_64 : decode cX7_planGoes 64 = .ok (.iconst 1, 1) := by decide +kernel
theorem dX7_planGoes_65 : decode cX7_planGoes 65 = .ok (.iadd, 1) := by decide +kernel
theorem dX7_planGoes_66 : decode cX7_planGoes 66 = .ok (.iaload, 1) := by decide +kernel
theorem dX7_planGoes_67 : decode cX7_planGoes 67 = .ok (.aload_n 0, 1) := by decide +kernel
theorem dX7_planGoes_68 : decode cX7_planGoes 68 = .ok (.getfield 7, 3) := by decide +kernel
theorem dX7_planGoes_71 : decode cX7_planGoes 71 = .ok (.iload_n 3, 1) := by decide +kernel
theorem dX7_planGoes_72 : decode cX7_planGoes 72 = .ok (.iconst 2, 1) := by decide +kernel
theorem dX7_planGoes_73 : decode cX7_planGoes 73 = .ok (.iadd, 1) := by decide +kernel
theorem dX7_planGoes_74 : decode cX7_planGoes 74 = .ok (.iaload, 1) := by decide +kernel
theorem dX7_planGoes_75 : decode cX7_planGoes 75 = .ok (.aload_n 0, 1) := by decide +kernel
theorem dX7_planGoes_76 : decode cX7_planGoes 76 = .ok (.getfield 7, 3) := by decide +kernel
theorem dX7_planGoes_79 : decode cX7_planGoes 79 = .ok (.iload_n 3, 1) := by decide +kernel
theorem dX7_planGoes_80 : decode cX7_planGoes 80 = .ok (.iconst 3, 1) := by decide +kernel
theorem dX7_planGoes_81 : decode cX7_planGoes 81 = .ok (.iadd, 1) := by decide +kernel
theorem dX7_planGoes_82 : decode cX7_planGoes 82 = .ok (.iaload, 1) := by decide +kernel
theorem dX7_planGoes_83 : decode cX7_planGoes 83 = .ok (.invokevirtual 192, 3) := by decide +kernel
theorem dX7_planGoes_86 : decode cX7_planGoes 86 = .ok (.ifCond .eq 50, 3) := by decide +kernel
theorem dX7_planGoes_89 : decode cX7_planGoes 89 = .ok (.aload_n 0, 1) := by decide +kernel
theorem dX7_planGoes_90 : decode cX7_planGoes 90 = .ok (.dup, 1) := by decide +kernel
theorem dX7_planGoes_91 : decode cX7_planGoes 91 = .ok (.getfield 208, 3) := by decide +kernel
theorem dX7_planGoes_94 : decode cX7_planGoes 94 = .ok (.iconst 1, 1) := by decide +kernel
theorem dX7_planGoes_95 : decode cX7_planGoes 95 = .ok (.iadd, 1) := by decide +kernel
theorem dX7_planGoes_96 : decode cX7_planGoes 96 = .ok (.putfield 208, 3) := by decide +kernel
theorem dX7_planGoes_99 : decode cX7_planGoes 99 = .ok (.aload_n 0, 1) := by decide +kernel
theorem dX7_planGoes_100 : decode cX7_planGoes 100 = .ok (.dup, 1) := by decide +kernel
theorem dX7_planGoes_101 : decode cX7_planGoes 101 = .ok (.getfield 214, 3) := by decide +kernel
theorem dX7_planGoes_104 : decode cX7_planGoes 104 = .ok (.aload_n 0, 1) := by decide +kernel
theorem dX7_planGoes_105 : decode cX7_planGoes 105 = .ok (.getfield 7, 3) := by decide +kernel
theorem dX7_planGoes_108 : decode cX7_planGoes 108 = .ok (.iload_n 3, 1) := by decide +kernel
theorem dX7_planGoes_109 : decode cX7_planGoes 109 = .ok (.iconst 3, 1) := by decide +kernel
theorem dX7_planGoes_110 : decode cX7_planGoes 110 = .ok (.iadd, 1) := by decide +kernel
theorem dX7_planGoes_111 : decode cX7_planGoes 111 = .ok (.iaload, 1) := by decide +kernel
theorem dX7_planGoes_112 : decode cX7_planGoes 112 = .ok (.aload_n 0, 1) := by decide +kernel
theorem dX7_planGoes_113 : decode cX7_planGoes 113 = .ok (.getfield 7, 3) := by decide +kernel
theorem dX7_planGoes_116 : decode cX7_planGoes 116 = .ok (.bipush 6, 2) := by decide +kernel
theorem dX7_planGoes_118 : decode cX7_planGoes 118 = .ok (.aload_n 0, 1) := by decide +kernel
theorem dX7_planGoes_119 : decode cX7_planGoes 119 = .ok (.getfield 7, 3) := by decide +kernel
theorem dX7_planGoes_122 : decode cX7_planGoes 122 = .ok (.iload_n 3, 1) := by decide +kernel
theorem dX7_planGoes_123 : decode cX7_planGoes 123 = .ok (.iconst 2, 1) := by decide +kernel
theorem dX7_planGoes_124 : decode cX7_planGoes 124 = .ok (.iadd, 1) := by decide +kernel
theorem dX7_planGoes_125 : decode cX7_planGoes 125 = .ok (.iaload, 1) := by decide +kernel
theorem dX7_planGoes_126 : decode cX7_planGoes 126 = .ok (.iadd, 1) := by decide +kernel
theorem dX7_planGoes_127 : decode cX7_planGoes 127 = .ok (.iaload, 1) := by decide +kernel
theorem dX7_planGoes_128 : decode cX7_planGoes 128 = .ok (.imul, 1) := by decide +kernel
theorem dX7_planGoes_129 : decode cX7_planGoes 129 = .ok (.iadd, 1) := by decide +kernel
theorem dX7_planGoes_130 : decode cX7_planGoes 130 = .ok (.putfield 214, 3) := by decide +kernel
theorem dX7_planGoes_133 : decode cX7_planGoes 133 = .ok (.goto 24, 3) := by decide +kernel
theorem dX7_planGoes_136 : decode cX7_planGoes 136 = .ok (.aload_n 0, 1) := by decide +kernel
theorem dX7_planGoes_137 : decode cX7_planGoes 137 = .ok (.aload_n 0, 1) := by decide +kernel
theorem dX7_planGoes_138 : decode cX7_planGoes 138 = .ok (.getfield 211, 3) := by decide +kernel
theorem dX7_planGoes_141 : decode cX7_planGoes 141 = .ok (.bipush (-4), 2) := by decide +kernel
theorem dX7_planGoes_143 : decode cX7_planGoes 143 = .ok (.if_icmp .ne 7, 3) := by decide +kernel
theorem dX7_planGoes_146 : decode cX7_planGoes 146 = .ok (.iload_n 2, 1) := by decide +kernel
theorem dX7_planGoes_147 : decode cX7_planGoes 147 = .ok (.goto 7, 3) := by decide +kernel
theorem dX7_planGoes_150 : decode cX7_planGoes 150 = .ok (.aload_n 0, 1) := by decide +kernel
theorem dX7_planGoes_151 : decode cX7_planGoes 151 = .ok (.getfield 211, 3) := by decide +kernel
theorem dX7_planGoes_154 : decode cX7_planGoes 154 = .ok (.putfield 211, 3) := by decide +kernel
theorem dX7_planGoes_157 : decode cX7_planGoes 157 = .ok (.iinc 2 1, 3) := by decide +kernel
theorem dX7_planGoes_160 : decode cX7_planGoes 160 = .ok (.goto (-134), 3) := by decide +kernel
theorem dX7_planGoes_163 : decode cX7_planGoes 163 = .ok (.return_, 1) := by decide +kernel
set_option maxRecDepth 20000 in
theorem ggX7_runs_X7_in : GoodIn wsX7_runs wsX7_in := goodIn_r _ [8] (by decide +kernel) (by decide +kernel)
set_option maxRecDepth 20000 in
theorem gX7_runs_X7_in : GoodIn wsX7_runs (va_wsS RX7 46 yX7_in wsX7_in) := goodIn_app (goodIn_of _ (by decide +kernel)) ggX7_runs_X7_in
set_option maxRecDepth 20000 in
theorem ggX7_runs_X7_planGoes : GoodIn wsX7_runs wsX7_planGoes := goodIn_r _ [12, 2, 3, 4, 13, 14, 15, 16, 7, 17, 18, 19, 20, 21, 22, 23, 24, 25, 26, 27, 28, 29, 30, 31, 32, 33, 34, 35, 36, 37, 38, 39, 40, 41, 42, 43, 44, 45, 46, 47, 48, 49, 50, 51, 52, 53, 54, 55, 56, 57, 58, 59, 60, 61, 62, 63, 64, 65, 66, 67] (by decide +kernel) (by decide +kernel)
set_option maxRecDepth 20000 in
theorem gX7_runs_X7_planGoes : GoodIn wsX7_runs (wsV RX7 219 RX7 yX7_planGoes wsX7_planGoes) := goodIn_app (goodIn_of _ (by decide +kernel)) ggX7_runs_X7_planGoes
theorem dX7_runs_0 : decode cX7_runs 0 = .ok (.iload_n 1, 1) := by decide +kernel
theorem dX7_runs_1 : decode cX7_runs 1 = .ok (.i2l, 1) := by decide +kernel
theorem dX7_runs_2 : decode cX7_runs 2 = .ok (.lconst 0, 1) := by decide +kernel
theorem dX7_runs_3 : decode cX7_runs 3 = .ok (.ldc2_w 217, 3) := by decide +kernel
theorem dX7_runs_6 : decode cX7_runs 6 = .ok (.invokestatic 46, 3) := by decide +kernel
theorem dX7_runs_9 : decode cX7_runs 9 = .ok (.ifCond .ne 5, 3) := by decide +kernel
theorem dX7_runs_12 : decode cX7_runs 12 = .ok (.iconst (-1), 1) := by decide +kernel
theorem dX7_runs_13 : decode cX7_runs 13 = .ok (.ireturn, 1) := by decide +kernel
theorem dX7_runs_14 : decode cX7_runs 14 = .ok (.aload_n 0, 1) := by decide +kernel
theorem dX7_runs_15 : decode cX7_runs 15 = .ok (.bipush (-4), 2) := by decide +kernel
theorem dX7_runs_17 : decode cX7_runs 17 = .ok (.invokevirtual 219, 3) := by decide +kernel
theorem dX7_runs_20 : decode cX7_runs 20 = .ok (.iload_n 1, 1) := by decide +kernel
theorem dX7_runs_21 : decode cX7_runs 21 = .ok (.ifCond .ne 10, 3) := by decide +kernel
theorem dX7_runs_24 : decode cX7_runs 24 = .ok (.aload_n 0, 1) := by decide +kernel
theorem dX7_runs_25 : decode cX7_runs 25 = .ok (.getfield 208, 3) := by decide +kernel
theorem dX7_runs_28 : decode cX7_runs 28 = .ok (.goto 19, 3) := by decide +kernel
theorem dX7_runs_31 : decode cX7_runs 31 = .ok (.iload_n 1, 1) := by decide +kernel
theorem dX7_runs_32 : decode cX7_runs 32 = .ok (.iconst 1, 1) := by decide +kernel
theorem dX7_runs_33 : decode cX7_runs 33 = .ok (.if_icmp .ne 10, 3) := by decide +kernel
theorem dX7_runs_36 : decode cX7_runs 36 = .ok (.aload_n 0, 1) := by decide +kernel
theorem dX7_runs_37 : decode cX7_runs 37 = .ok (.getfield 211, 3) := by decide +kernel
theorem dX7_runs_40 : decode cX7_runs 40 = .ok (.goto 7, 3) := by decide +kernel
theorem dX7_runs_43 : decode cX7_runs 43 = .ok (.aload_n 0, 1) := by decide +kernel
theorem dX7_runs_44 : decode cX7_runs 44 = .ok (.getfield 214, 3) := by decide +kernel
theorem dX7_runs_47 : decode cX7_runs 47 = .ok (.ireturn, 1) := by decide +kernel
set_option maxRecDepth 20000 in
theorem ggX7_ahead_X7_isOwner : GoodIn wsX7_ahead wsX7_isOwner := goodIn_r _ [5, 6, 7, 8, 4, 9] (by decide +kernel) (by decide +kernel)
set_option maxRecDepth 20000 in
theorem gX7_ahead_X7_isOwner : GoodIn wsX7_ahead (va_wsS RX7 166 yX7_isOwner wsX7_isOwner) := goodIn_app (goodIn_of _ (by decide +kernel)) ggX7_ahead_X7_isOwner
set_option maxRecDepth 20000 in
theorem ggX7_ahead_X7_in : GoodIn wsX7_ahead wsX7_in := goodIn_r _ [9] (by decide +kernel) (by decide +kernel)
set_option maxRecDepth 20000 in
theorem gX7_ahead_X7_in : GoodIn wsX7_ahead (va_wsS RX7 46 yX7_in wsX7_in) := goodIn_app (goodIn_of _ (by decide +kernel)) ggX7_ahead_X7_in
set_option maxRecDepth 20000 in
theorem ggX7_ahead_X7_planGoes : GoodIn wsX7_ahead wsX7_planGoes := goodIn_r _ [13, 14, 15, 16, 17, 18, 19, 20, 4, 21, 22, 23, 24, 25, 26, 27, 28, 29, 30, 31, 32, 33, 34, 35, 36, 37, 59, 60, 61, 62, 63, 64, 65, 66, 67, 68, 69, 70, 71, 72, 73, 74, 75, 76, 77, 78, 79, 80, 81, 82, 83, 84, 85, 86, 87, 88, 89, 90, 91, 92] (by decide +kernel) (by decide +kernel)
set_option maxRecDepth 20000 in
theorem gX7_ahead_X7_planGoes : GoodIn wsX7_ahead (wsV RX7 219 RX7 yX7_planGoes wsX7_planGoes) := goodIn_app (goodIn_of _ (by decide +kernel)) ggX7_ahead_X7_planGoes
set_option maxRecDepth 20000 in
theorem ggX7_ahead_X7_ownerOn : GoodIn wsX7_ahead wsX7_ownerOn := goodIn_r _ [41, 17, 26, 27, 28, 4, 29, 42, 43, 44, 45, 46, 34, 35, 36, 37, 47, 48, 49, 50, 51, 52, 53, 54, 55, 56, 57, 58, 59, 60, 61, 62, 63, 64, 65, 66, 67, 68, 69, 70, 71, 72, 73, 74, 75, 76, 77, 78, 79, 80, 81, 82, 83, 84, 85, 86, 87, 88, 89, 90, 91, 92] (by decide +kernel) (by decide +kernel)
set_option maxRecDepth 20000 in
theorem gX7_ahead_X7_ownerOn : GoodIn wsX7_ahead (wsV RX7 171 RX7 yX7_ownerOn wsX7_ownerOn) := goodIn_app (goodIn_of _ (by decide +kernel)) ggX7_ahead_X7_ownerOn
theorem dX7_ahead_0 : decode cX7_ahead 0 = .ok (.iload_n 1, 1) := by decide +kernel
theorem dX7_ahead_1 : decode cX7_ahead 1 = .ok (.invokestatic 166, 3) := by decide +kernel
theorem dX7_ahead_4 : decode cX7_ahead 4 = .ok (.ifCond .eq 15, 3) := by decide +kernel
theorem dX7_ahead_7 : decode cX7_ahead 7 = .ok (.iload_n 2, 1) := by decide +kernel
theorem dX7_ahead_8 : decode cX7_ahead 8 = .ok (.i2l, 1) := by decide +kernel
theorem dX7_ahead_9 : decode cX7_ahead 9 = .ok (.lconst 0, 1) := by decide +kernel
theorem dX7_ahead_10 : decode cX7_ahead 10 = .ok (.ldc2_w 169, 3) := by decide +kernel
theorem dX7_ahead_13 : decode cX7_ahead 13 = .ok (.invokestatic 46, 3) := by decide +kernel
theorem dX7_ahead_16 : decode cX7_ahead 16 = .ok (.ifCond .ne 5, 3) := by decide +kernel
theorem dX7_ahead_19 : decode cX7_ahead 19 = .ok (.iconst (-1), 1) := by decide +kernel
theorem dX7_ahead_20 : decode cX7_ahead 20 = .ok (.ireturn, 1) := by decide +kernel
theorem dX7_ahead_21 : decode cX7_ahead 21 = .ok (.aload_n 0, 1) := by decide +kernel
theorem dX7_ahead_22 : decode cX7_ahead 22 = .ok (.bipush (-4), 2) := by decide +kernel
theorem dX7_ahead_24 : decode cX7_ahead 24 = .ok (.invokevirtual 219, 3) := by decide +kernel
theorem dX7_ahead_27 : decode cX7_ahead 27 = .ok (.aload_n 0, 1) := by decide +kernel
theorem dX7_ahead_28 : decode cX7_ahead 28 = .ok (.sipush 240, 3) := by decide +kernel
theorem dX7_ahead_31 : decode cX7_ahead 31 = .ok (.iload_n 1, 1) := by decide +kernel
theorem dX7_ahead_32 : decode cX7_ahead 32 = .ok (.iload_n 2, 1) := by decide +kernel
theorem dX7_ahead_33 : decode cX7_ahead 33 = .ok (.invokevirtual 171, 3) := by decide +kernel
theorem dX7_ahead_36 : decode cX7_ahead 36 = .ok (.ireturn, 1) := by decide +kernel
set_option maxRecDepth 20000 in
theorem ggX7_weeksGo_X7_copies : GoodIn wsX7_weeksGo wsX7_copies := goodIn_r _ [5, 6, 31, 32, 33, 34, 35, 36, 37, 38, 39, 40, 41, 42, 43, 44, 45, 46, 47, 48, 49, 50, 51, 52, 53, 54, 55, 56, 57, 58, 59, 60, 61, 62, 63, 64] (by decide +kernel) (by decide +kernel)
set_option maxRecDepth 20000 in
theorem gX7_weeksGo_X7_copies : GoodIn wsX7_weeksGo (wsV RX7 205 RX7 yX7_copies wsX7_copies) := goodIn_app (goodIn_of _ (by decide +kernel)) ggX7_weeksGo_X7_copies
set_option maxRecDepth 20000 in
theorem ggX7_weeksGo_X7_weekOn : GoodIn wsX7_weeksGo wsX7_weekOn := goodIn_r _ [10, 11, 6, 12, 13, 14, 4, 15, 16, 17, 18, 19, 20, 21, 22, 23, 24, 25, 26, 27, 28, 29, 30, 31, 32, 33, 34, 35, 36, 37, 38, 39, 40, 41, 42, 43, 44, 45, 46, 47, 48, 49, 50, 51, 52, 53, 54, 55, 56, 57, 58, 59, 60, 61, 62, 63, 64] (by decide +kernel) (by decide +kernel)
set_option maxRecDepth 20000 in
theorem gX7_weeksGo_X7_weekOn : GoodIn wsX7_weeksGo (wsV RX7 201 RX7 yX7_weekOn wsX7_weekOn) := goodIn_app (goodIn_of _ (by decide +kernel)) ggX7_weeksGo_X7_weekOn
theorem dX7_weeksGo_0 : decode cX7_weeksGo 0 = .ok (.aload_n 0, 1) := by decide +kernel
theorem dX7_weeksGo_1 : decode cX7_weeksGo 1 = .ok (.iconst 0, 1) := by decide +kernel
theorem dX7_weeksGo_2 : decode cX7_weeksGo 2 = .ok (.sipush 240, 3) := by decide +kernel
theorem dX7_weeksGo_5 : decode cX7_weeksGo 5 = .ok (.invokevirtual 205, 3) := by decide +kernel
theorem dX7_weeksGo_8 : decode cX7_weeksGo 8 = .ok (.iconst 0, 1) := by decide +kernel
theorem dX7_weeksGo_9 : decode cX7_weeksGo 9 = .ok (.istore_n 2, 1) := by decide +kernel
theorem dX7_weeksGo_10 : decode cX7_weeksGo 10 = .ok (.iload_n 2, 1) := by decide +kernel
theorem dX7_weeksGo_11 : decode cX7_weeksGo 11 = .ok (.iload_n 1, 1) := by decide +kernel
theorem dX7_weeksGo_12 : decode cX7_weeksGo 12 = .ok (.if_icmp .ge 18, 3) := by decide +kernel
theorem dX7_weeksGo_15 : decode cX7_weeksGo 15 = .ok (.aload_n 0, 1) := by decide +kernel
theorem dX7_weeksGo_16 : decode cX7_weeksGo 16 = .ok (.sipush 240, 3) := by decide +kernel
theorem dX7_weeksGo_19 : decode cX7_weeksGo 19 = .ok (.iconst 1, 1) := by decide +kernel
theorem dX7_weeksGo_20 : decode cX7_weeksGo 20 = .ok (.invokevirtual 201, 3) := by decide +kernel
theorem dX7_weeksGo_23 : decode cX7_weeksGo 23 = .ok (.pop, 1) := by decide +kernel
theorem dX7_weeksGo_24 : decode cX7_weeksGo 24 = .ok (.iinc 2 1, 3) := by decide +kernel
theorem dX7_weeksGo_27 : decode cX7_weeksGo 27 = .ok (.goto (-17), 3) := by decide +kernel
theorem dX7_weeksGo_30 : decode cX7_weeksGo 30 = .ok (.return_, 1) := by decide +kernel
