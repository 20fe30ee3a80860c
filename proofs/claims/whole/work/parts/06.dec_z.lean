theorem d_La_law_0 : decode b_La_law 0 = .ok (.new 7, 3) := by decide +kernel
theorem d_La_law_3 : decode b_La_law 3 = .ok (.dup, 1) := by decide +kernel
theorem d_La_law_4 : decode b_La_law 4 = .ok (.invokespecial 9, 3) := by decide +kernel
theorem d_La_law_7 : decode b_La_law 7 = .ok (.astore_n 1, 1) := by decide +kernel
theorem d_La_law_8 : decode b_La_law 8 = .ok (.new 10, 3) := by decide +kernel
theorem d_La_law_11 : decode b_La_law 11 = .ok (.dup, 1) := by decide +kernel
theorem d_La_law_12 : decode b_La_law 12 = .ok (.invokespecial 12, 3) := by decide +kernel
theorem d_La_law_15 : decode b_La_law 15 = .ok (.astore_n 2, 1) := by decide +kernel
theorem d_La_law_16 : decode b_La_law 16 = .ok (.iconst 0, 1) := by decide +kernel
theorem d_La_law_17 : decode b_La_law 17 = .ok (.istore_n 3, 1) := by decide +kernel
theorem d_La_law_18 : decode b_La_law 18 = .ok (.iload_n 3, 1) := by decide +kernel
theorem d_La_law_19 : decode b_La_law 19 = .ok (.aload_n 0, 1) := by decide +kernel
theorem d_La_law_20 : decode b_La_law 20 = .ok (.arraylength, 1) := by decide +kernel
theorem d_La_law_21 : decode b_La_law 21 = .ok (.bipush 7, 2) := by decide +kernel
theorem d_La_law_23 : decode b_La_law 23 = .ok (.isub, 1) := by decide +kernel
theorem d_La_law_24 : decode b_La_law 24 = .ok (.if_icmp .gt 669, 3) := by decide +kernel
theorem d_La_law_27 : decode b_La_law 27 = .ok (.aload_n 0, 1) := by decide +kernel
theorem d_La_law_28 : decode b_La_law 28 = .ok (.iload_n 3, 1) := by decide +kernel
theorem d_La_law_29 : decode b_La_law 29 = .ok (.iaload, 1) := by decide +kernel
theorem d_La_law_30 : decode b_La_law 30 = .ok (.bipush 15, 2) := by decide +kernel
theorem d_La_law_32 : decode b_La_law 32 = .ok (.iand, 1) := by decide +kernel
theorem d_La_law_33 : decode b_La_law 33 = .ok (.tableswitch 654 0 11 #[63, 178, 261, 344, 407, 470, 533, 547, 570, 594, 618, 641], 63) := by decide +kernel
theorem d_La_law_96 : decode b_La_law 96 = .ok (.aload_n 1, 1) := by decide +kernel
theorem d_La_law_97 : decode b_La_law 97 = .ok (.aload_n 0, 1) := by decide +kernel
theorem d_La_law_98 : decode b_La_law 98 = .ok (.iload_n 3, 1) := by decide +kernel
theorem d_La_law_99 : decode b_La_law 99 = .ok (.iconst 1, 1) := by decide +kernel
theorem d_La_law_100 : decode b_La_law 100 = .ok (.iadd, 1) := by decide +kernel
theorem d_La_law_101 : decode b_La_law 101 = .ok (.iaload, 1) := by decide +kernel
theorem d_La_law_102 : decode b_La_law 102 = .ok (.aload_n 0, 1) := by decide +kernel
theorem d_La_law_103 : decode b_La_law 103 = .ok (.iload_n 3, 1) := by decide +kernel
theorem d_La_law_104 : decode b_La_law 104 = .ok (.iconst 2, 1) := by decide +kernel
theorem d_La_law_105 : decode b_La_law 105 = .ok (.iadd, 1) := by decide +kernel
theorem d_La_law_106 : decode b_La_law 106 = .ok (.iaload, 1) := by decide +kernel
theorem d_La_law_107 : decode b_La_law 107 = .ok (.aload_n 0, 1) := by decide +kernel
theorem d_La_law_108 : decode b_La_law 108 = .ok (.iload_n 3, 1) := by decide +kernel
theorem d_La_law_109 : decode b_La_law 109 = .ok (.iconst 3, 1) := by decide +kernel
theorem d_La_law_110 : decode b_La_law 110 = .ok (.iadd, 1) := by decide +kernel
theorem d_La_law_111 : decode b_La_law 111 = .ok (.iaload, 1) := by decide +kernel
theorem d_La_law_112 : decode b_La_law 112 = .ok (.i2l, 1) := by decide +kernel
theorem d_La_law_113 : decode b_La_law 113 = .ok (.bipush 32, 2) := by decide +kernel
theorem d_La_law_115 : decode b_La_law 115 = .ok (.lshl, 1) := by decide +kernel
theorem d_La_law_116 : decode b_La_law 116 = .ok (.aload_n 0, 1) := by decide +kernel
theorem d_La_law_117 : decode b_La_law 117 = .ok (.iload_n 3, 1) := by decide +kernel
theorem d_La_law_118 : decode b_La_law 118 = .ok (.iconst 4, 1) := by decide +kernel
theorem d_La_law_119 : decode b_La_law 119 = .ok (.iadd, 1) := by decide +kernel
theorem d_La_law_120 : decode b_La_law 120 = .ok (.iaload, 1) := by decide +kernel
theorem d_La_law_121 : decode b_La_law 121 = .ok (.i2l, 1) := by decide +kernel
theorem d_La_law_122 : decode b_La_law 122 = .ok (.ldc2_w 13, 3) := by decide +kernel
theorem d_La_law_125 : decode b_La_law 125 = .ok (.land, 1) := by decide +kernel
theorem d_La_law_126 : decode b_La_law 126 = .ok (.lor, 1) := by decide +kernel
theorem d_La_law_127 : decode b_La_law 127 = .ok (.aload_n 0, 1) := by decide +kernel
theorem d_La_law_128 : decode b_La_law 128 = .ok (.iload_n 3, 1) := by decide +kernel
theorem d_La_law_129 : decode b_La_law 129 = .ok (.iconst 5, 1) := by decide +kernel
theorem d_La_law_130 : decode b_La_law 130 = .ok (.iadd, 1) := by decide +kernel
theorem d_La_law_131 : decode b_La_law 131 = .ok (.iaload, 1) := by decide +kernel
theorem d_La_law_132 : decode b_La_law 132 = .ok (.i2l, 1) := by decide +kernel
theorem d_La_law_133 : decode b_La_law 133 = .ok (.bipush 32, 2) := by decide +kernel
theorem d_La_law_135 : decode b_La_law 135 = .ok (.lshl, 1) := by decide +kernel
theorem d_La_law_136 : decode b_La_law 136 = .ok (.aload_n 0, 1) := by decide +kernel
theorem d_La_law_137 : decode b_La_law 137 = .ok (.iload_n 3, 1) := by decide +kernel
theorem d_La_law_138 : decode b_La_law 138 = .ok (.bipush 6, 2) := by decide +kernel
theorem d_La_law_140 : decode b_La_law 140 = .ok (.iadd, 1) := by decide +kernel
theorem d_La_law_141 : decode b_La_law 141 = .ok (.iaload, 1) := by decide +kernel
theorem d_La_law_142 : decode b_La_law 142 = .ok (.i2l, 1) := by decide +kernel
theorem d_La_law_143 : decode b_La_law 143 = .ok (.ldc2_w 13, 3) := by decide +kernel
theorem d_La_law_146 : decode b_La_law 146 = .ok (.land, 1) := by decide +kernel
theorem d_La_law_147 : decode b_La_law 147 = .ok (.lor, 1) := by decide +kernel
theorem d_La_law_148 : decode b_La_law 148 = .ok (.invokevirtual 15, 3) := by decide +kernel
theorem d_La_law_151 : decode b_La_law 151 = .ok (.aload_n 2, 1) := by decide +kernel
theorem d_La_law_152 : decode b_La_law 152 = .ok (.aload_n 0, 1) := by decide +kernel
theorem d_La_law_153 : decode b_La_law 153 = .ok (.iload_n 3, 1) := by decide +kernel
theorem d_La_law_154 : decode b_La_law 154 = .ok (.iconst 1, 1) := by decide +kernel
theorem d_La_law_155 : decode b_La_law 155 = .ok (.iadd, 1) := by decide +kernel
theorem d_La_law_156 : decode b_La_law 156 = .ok (.iaload, 1) := by decide +kernel
theorem d_La_law_157 : decode b_La_law 157 = .ok (.aload_n 0, 1) := by decide +kernel
theorem d_La_law_158 : decode b_La_law 158 = .ok (.iload_n 3, 1) := by decide +kernel
theorem d_La_law_159 : decode b_La_law 159 = .ok (.iconst 2, 1) := by decide +kernel
theorem d_La_law_160 : decode b_La_law 160 = .ok (.iadd, 1) := by decide +kernel
theorem d_La_law_161 : decode b_La_law 161 = .ok (.iaload, 1) := by decide +kernel
theorem d_La_law_162 : decode b_La_law 162 = .ok (.aload_n 0, 1) := by decide +kernel
theorem d_La_law_163 : decode b_La_law 163 = .ok (.iload_n 3, 1) := by decide +kernel
theorem d_La_law_164 : decode b_La_law 164 = .ok (.iconst 3, 1) := by decide +kernel
theorem d_La_law_165 : decode b_La_law 165 = .ok (.iadd, 1) := by decide +kernel
theorem d_La_law_166 : decode b_La_law 166 = .ok (.iaload, 1) := by decide +kernel
theorem d_La_law_167 : decode b_La_law 167 = .ok (.i2l, 1) := by decide +kernel
theorem d_La_law_168 : decode b_La_law 168 = .ok (.bipush 32, 2) := by decide +kernel
theorem d_La_law_170 : decode b_La_law 170 = .ok (.lshl, 1) := by decide +kernel
theorem d_La_law_171 : decode b_La_law 171 = .ok (.aload_n 0, 1) := by decide +kernel
theorem d_La_law_172 : decode b_La_law 172 = .ok (.iload_n 3, 1) := by decide +kernel
theorem d_La_law_173 : decode b_La_law 173 = .ok (.iconst 4, 1) := by decide +kernel
theorem d_La_law_174 : decode b_La_law 174 = .ok (.iadd, 1) := by decide +kernel
theorem d_La_law_175 : decode b_La_law 175 = .ok (.iaload, 1) := by decide +kernel
theorem d_La_law_176 : decode b_La_law 176 = .ok (.i2l, 1) := by decide +kernel
theorem d_La_law_177 : decode b_La_law 177 = .ok (.ldc2_w 13, 3) := by decide +kernel
theorem d_La_law_180 : decode b_La_law 180 = .ok (.land, 1) := by decide +kernel
theorem d_La_law_181 : decode b_La_law 181 = .ok (.lor, 1) := by decide +kernel
theorem d_La_law_182 : decode b_La_law 182 = .ok (.aload_n 0, 1) := by decide +kernel
theorem d_La_law_183 : decode b_La_law 183 = .ok (.iload_n 3, 1) := by decide +kernel
theorem d_La_law_184 : decode b_La_law 184 = .ok (.iconst 5, 1) := by decide +kernel
theorem d_La_law_185 : decode b_La_law 185 = .ok (.iadd, 1) := by decide +kernel
theorem d_La_law_186 : decode b_La_law 186 = .ok (.iaload, 1) := by decide +kernel
theorem d_La_law_187 : decode b_La_law 187 = .ok (.i2l, 1) := by decide +kernel
theorem d_La_law_188 : decode b_La_law 188 = .ok (.bipush 32, 2) := by decide +kernel
theorem d_La_law_190 : decode b_La_law 190 = .ok (.lshl, 1) := by decide +kernel
theorem d_La_law_191 : decode b_La_law 191 = .ok (.aload_n 0, 1) := by decide +kernel
theorem d_La_law_192 : decode b_La_law 192 = .ok (.iload_n 3, 1) := by decide +kernel
theorem d_La_law_193 : decode b_La_law 193 = .ok (.bipush 6, 2) := by decide +kernel
theorem d_La_law_195 : decode b_La_law 195 = .ok (.iadd, 1) := by decide +kernel
theorem d_La_law_196 : decode b_La_law 196 = .ok (.iaload, 1) := by decide +kernel
theorem d_La_law_197 : decode b_La_law 197 = .ok (.i2l, 1) := by decide +kernel
theorem d_La_law_198 : decode b_La_law 198 = .ok (.ldc2_w 13, 3) := by decide +kernel
theorem d_La_law_201 : decode b_La_law 201 = .ok (.land, 1) := by decide +kernel
theorem d_La_law_202 : decode b_La_law 202 = .ok (.lor, 1) := by decide +kernel
theorem d_La_law_203 : decode b_La_law 203 = .ok (.invokevirtual 19, 3) := by decide +kernel
theorem d_La_law_206 : decode b_La_law 206 = .ok (.if_icmp .eq 481, 3) := by decide +kernel
theorem d_La_law_209 : decode b_La_law 209 = .ok (.iconst 0, 1) := by decide +kernel
theorem d_La_law_210 : decode b_La_law 210 = .ok (.ireturn, 1) := by decide +kernel
theorem d_La_law_211 : decode b_La_law 211 = .ok (.aload_n 1, 1) := by decide +kernel
theorem d_La_law_212 : decode b_La_law 212 = .ok (.aload_n 0, 1) := by decide +kernel
theorem d_La_law_213 : decode b_La_law 213 = .ok (.iload_n 3, 1) := by decide +kernel
theorem d_La_law_214 : decode b_La_law 214 = .ok (.iconst 1, 1) := by decide +kernel
theorem d_La_law_215 : decode b_La_law 215 = .ok (.iadd, 1) := by decide +kernel
theorem d_La_law_216 : decode b_La_law 216 = .ok (.iaload, 1) := by decide +kernel
theorem d_La_law_217 : decode b_La_law 217 = .ok (.aload_n 0, 1) := by decide +kernel
theorem d_La_law_218 : decode b_La_law 218 = .ok (.iload_n 3, 1) := by decide +kernel
theorem d_La_law_219 : decode b_La_law 219 = .ok (.iconst 2, 1) := by decide +kernel
theorem d_La_law_220 : decode b_La_law 220 = .ok (.iadd, 1) := by decide +kernel
theorem d_La_law_221 : decode b_La_law 221 = .ok (.iaload, 1) := by decide +kernel
theorem d_La_law_222 : decode b_La_law 222 = .ok (.aload_n 0, 1) := by decide +kernel
theorem d_La_law_223 : decode b_La_law 223 = .ok (.iload_n 3, 1) := by decide +kernel
theorem d_La_law_224 : decode b_La_law 224 = .ok (.iconst 3, 1) := by decide +kernel
theorem d_La_law_225 : decode b_La_law 225 = .ok (.iadd, 1) := by decide +kernel
theorem d_La_law_226 : decode b_La_law 226 = .ok (.iaload, 1) := by decide +kernel
theorem d_La_law_227 : decode b_La_law 227 = .ok (.i2l, 1) := by decide +kernel
theorem d_La_law_228 : decode b_La_law 228 = .ok (.bipush 32, 2) := by decide +kernel
theorem d_La_law_230 : decode b_La_law 230 = .ok (.lshl, 1) := by decide +kernel
theorem d_La_law_231 : decode b_La_law 231 = .ok (.aload_n 0, 1) := by decide +kernel
theorem d_La_law_232 : decode b_La_law 232 = .ok (.iload_n 3, 1) := by decide +kernel
theorem d_La_law_233 : decode b_La_law 233 = .ok (.iconst 4, 1) := by decide +kernel
theorem d_La_law_234 : decode b_La_law 234 = .ok (.iadd, 1) := by decide +kernel
theorem d_La_law_235 : decode b_La_law 235 = .ok (.iaload, 1) := by decide +kernel
theorem d_La_law_236 : decode b_La_law 236 = .ok (.i2l, 1) := by decide +kernel
theorem d_La_law_237 : decode b_La_law 237 = .ok (.ldc2_w 13, 3) := by decide +kernel
theorem d_La_law_240 : decode b_La_law 240 = .ok (.land, 1) := by decide +kernel
theorem d_La_law_241 : decode b_La_law 241 = .ok (.lor, 1) := by decide +kernel
theorem d_La_law_242 : decode b_La_law 242 = .ok (.aload_n 0, 1) := by decide +kernel
theorem d_La_law_243 : decode b_La_law 243 = .ok (.iload_n 3, 1) := by decide +kernel
theorem d_La_law_244 : decode b_La_law 244 = .ok (.iconst 5, 1) := by decide +kernel
theorem d_La_law_245 : decode b_La_law 245 = .ok (.iadd, 1) := by decide +kernel
theorem d_La_law_246 : decode b_La_law 246 = .ok (.iaload, 1) := by decide +kernel
theorem d_La_law_247 : decode b_La_law 247 = .ok (.invokevirtual 20, 3) := by decide +kernel
theorem d_La_law_250 : decode b_La_law 250 = .ok (.aload_n 2, 1) := by decide +kernel
theorem d_La_law_251 : decode b_La_law 251 = .ok (.aload_n 0, 1) := by decide +kernel
theorem d_La_law_252 : decode b_La_law 252 = .ok (.iload_n 3, 1) := by decide +kernel
theorem d_La_law_253 : decode b_La_law 253 = .ok (.iconst 1, 1) := by decide +kernel
theorem d_La_law_254 : decode b_La_law 254 = .ok (.iadd, 1) := by decide +kernel
theorem d_La_law_255 : decode b_La_law 255 = .ok (.iaload, 1) := by decide +kernel
theorem d_La_law_256 : decode b_La_law 256 = .ok (.aload_n 0, 1) := by decide +kernel
theorem d_La_law_257 : decode b_La_law 257 = .ok (.iload_n 3, 1) := by decide +kernel
theorem d_La_law_258 : decode b_La_law 258 = .ok (.iconst 2, 1) := by decide +kernel
theorem d_La_law_259 : decode b_La_law 259 = .ok (.iadd, 1) := by decide +kernel
theorem d_La_law_260 : decode b_La_law 260 = .ok (.iaload, 1) := by decide +kernel
theorem d_La_law_261 : decode b_La_law 261 = .ok (.aload_n 0, 1) := by decide +kernel
theorem d_La_law_262 : decode b_La_law 262 = .ok (.iload_n 3, 1) := by decide +kernel
theorem d_La_law_263 : decode b_La_law 263 = .ok (.iconst 3, 1) := by decide +kernel
theorem d_La_law_264 : decode b_La_law 264 = .ok (.iadd, 1) := by decide +kernel
theorem d_La_law_265 : decode b_La_law 265 = .ok (.iaload, 1) := by decide +kernel
theorem d_La_law_266 : decode b_La_law 266 = .ok (.i2l, 1) := by decide +kernel
theorem d_La_law_267 : decode b_La_law 267 = .ok (.bipush 32, 2) := by decide +kernel
theorem d_La_law_269 : decode b_La_law 269 = .ok (.lshl, 1) := by decide +kernel
theorem d_La_law_270 : decode b_La_law 270 = .ok (.aload_n 0, 1) := by decide +kernel
theorem d_La_law_271 : decode b_La_law 271 = .ok (.iload_n 3, 1) := by decide +kernel
theorem d_La_law_272 : decode b_La_law 272 = .ok (.iconst 4, 1) := by decide +kernel
theorem d_La_law_273 : decode b_La_law 273 = .ok (.iadd, 1) := by decide +kernel
theorem d_La_law_274 : decode b_La_law 274 = .ok (.iaload, 1) := by decide +kernel
theorem d_La_law_275 : decode b_La_law 275 = .ok (.i2l, 1) := by decide +kernel
theorem d_La_law_276 : decode b_La_law 276 = .ok (.ldc2_w 13, 3) := by decide +kernel
theorem d_La_law_279 : decode b_La_law 279 = .ok (.land, 1) := by decide +kernel
theorem d_La_law_280 : decode b_La_law 280 = .ok (.lor, 1) := by decide +kernel
theorem d_La_law_281 : decode b_La_law 281 = .ok (.aload_n 0, 1) := by decide +kernel
theorem d_La_law_282 : decode b_La_law 282 = .ok (.iload_n 3, 1) := by decide +kernel
theorem d_La_law_283 : decode b_La_law 283 = .ok (.iconst 5, 1) := by decide +kernel
theorem d_La_law_284 : decode b_La_law 284 = .ok (.iadd, 1) := by decide +kernel
theorem d_La_law_285 : decode b_La_law 285 = .ok (.iaload, 1) := by decide +kernel
theorem d_La_law_286 : decode b_La_law 286 = .ok (.invokevirtual 24, 3) := by decide +kernel
theorem d_La_law_289 : decode b_La_law 289 = .ok (.if_icmp .eq 398, 3) := by decide +kernel
theorem d_La_law_292 : decode b_La_law 292 = .ok (.iconst 0, 1) := by decide +kernel
theorem d_La_law_293 : decode b_La_law 293 = .ok (.ireturn, 1) := by decide +kernel
theorem d_La_law_294 : decode b_La_law 294 = .ok (.aload_n 1, 1) := by decide +kernel
theorem d_La_law_295 : decode b_La_law 295 = .ok (.aload_n 0, 1) := by decide +kernel
theorem d_La_law_296 : decode b_La_law 296 = .ok (.iload_n 3, 1) := by decide +kernel
theorem d_La_law_297 : decode b_La_law 297 = .ok (.iconst 1, 1) := by decide +kernel
theorem d_La_law_298 : decode b_La_law 298 = .ok (.iadd, 1) := by decide +kernel
theorem d_La_law_299 : decode b_La_law 299 = .ok (.iaload, 1) := by decide +kernel
theorem d_La_law_300 : decode b_La_law 300 = .ok (.aload_n 0, 1) := by decide +kernel
theorem d_La_law_301 : decode b_La_law 301 = .ok (.iload_n 3, 1) := by decide +kernel
theorem d_La_law_302 : decode b_La_law 302 = .ok (.iconst 2, 1) := by decide +kernel
theorem d_La_law_303 : decode b_La_law 303 = .ok (.iadd, 1) := by decide +kernel
theorem d_La_law_304 : decode b_La_law 304 = .ok (.iaload, 1) := by decide +kernel
theorem d_La_law_305 : decode b_La_law 305 = .ok (.aload_n 0, 1) := by decide +kernel
theorem d_La_law_306 : decode b_La_law 306 = .ok (.iload_n 3, 1) := by decide +kernel
theorem d_La_law_307 : decode b_La_law 307 = .ok (.iconst 3, 1) := by decide +kernel
theorem d_La_law_308 : decode b_La_law 308 = .ok (.iadd, 1) := by decide +kernel
theorem d_La_law_309 : decode b_La_law 309 = .ok (.iaload, 1) := by decide +kernel
theorem d_La_law_310 : decode b_La_law 310 = .ok (.aload_n 0, 1) := by decide +kernel
theorem d_La_law_311 : decode b_La_law 311 = .ok (.iload_n 3, 1) := by decide +kernel
theorem d_La_law_312 : decode b_La_law 312 = .ok (.iconst 4, 1) := by decide +kernel
theorem d_La_law_313 : decode b_La_law 313 = .ok (.iadd, 1) := by decide +kernel
theorem d_La_law_314 : decode b_La_law 314 = .ok (.iaload, 1) := by decide +kernel
theorem d_La_law_315 : decode b_La_law 315 = .ok (.i2l, 1) := by decide +kernel
theorem d_La_law_316 : decode b_La_law 316 = .ok (.bipush 32, 2) := by decide +kernel
theorem d_La_law_318 : decode b_La_law 318 = .ok (.lshl, 1) := by decide +kernel
theorem d_La_law_319 : decode b_La_law 319 = .ok (.aload_n 0, 1) := by decide +kernel
theorem d_La_law_320 : decode b_La_law 320 = .ok (.iload_n 3, 1) := by decide +kernel
theorem d_La_law_321 : decode b_La_law 321 = .ok (.iconst 5, 1) := by decide +kernel
theorem d_La_law_322 : decode b_La_law 322 = .ok (.iadd, 1) := by decide +kernel
theorem d_La_law_323 : decode b_La_law 323 = .ok (.iaload, 1) := by decide +kernel
theorem d_La_law_324 : decode b_La_law 324 = .ok (.i2l, 1) := by decide +kernel
theorem d_La_law_325 : decode b_La_law 325 = .ok (.ldc2_w 13, 3) := by decide +kernel
theorem d_La_law_328 : decode b_La_law 328 = .ok (.land, 1) := by decide +kernel
theorem d_La_law_329 : decode b_La_law 329 = .ok (.lor, 1) := by decide +kernel
theorem d_La_law_330 : decode b_La_law 330 = .ok (.invokevirtual 25, 3) := by decide +kernel
theorem d_La_law_333 : decode b_La_law 333 = .ok (.aload_n 2, 1) := by decide +kernel
theorem d_La_law_334 : decode b_La_law 334 = .ok (.aload_n 0, 1) := by decide +kernel
theorem d_La_law_335 : decode b_La_law 335 = .ok (.iload_n 3, 1) := by decide +kernel
theorem d_La_law_336 : decode b_La_law 336 = .ok (.iconst 1, 1) := by decide +kernel
theorem d_La_law_337 : decode b_La_law 337 = .ok (.iadd, 1) := by decide +kernel
theorem d_La_law_338 : decode b_La_law 338 = .ok (.iaload, 1) := by decide +kernel
theorem d_La_law_339 : decode b_La_law 339 = .ok (.aload_n 0, 1) := by decide +kernel
theorem d_La_law_340 : decode b_La_law 340 = .ok (.iload_n 3, 1) := by decide +kernel
theorem d_La_law_341 : decode b_La_law 341 = .ok (.iconst 2, 1) := by decide +kernel
theorem d_La_law_342 : decode b_La_law 342 = .ok (.iadd, 1) := by decide +kernel
theorem d_La_law_343 : decode b_La_law 343 = .ok (.iaload, 1) := by decide +kernel
theorem d_La_law_344 : decode b_La_law 344 = .ok (.aload_n 0, 1) := by decide +kernel
theorem d_La_law_345 : decode b_La_law 345 = .ok (.iload_n 3, 1) := by decide +kernel
theorem d_La_law_346 : decode b_La_law 346 = .ok (.iconst 3, 1) := by decide +kernel
theorem d_La_law_347 : decode b_La_law 347 = .ok (.iadd, 1) := by decide +kernel
theorem d_La_law_348 : decode b_La_law 348 = .ok (.iaload, 1) := by decide +kernel
theorem d_La_law_349 : decode b_La_law 349 = .ok (.aload_n 0, 1) := by decide +kernel
theorem d_La_law_350 : decode b_La_law 350 = .ok (.iload_n 3, 1) := by decide +kernel
theorem d_La_law_351 : decode b_La_law 351 = .ok (.iconst 4, 1) := by decide +kernel
theorem d_La_law_352 : decode b_La_law 352 = .ok (.iadd, 1) := by decide +kernel
theorem d_La_law_353 : decode b_La_law 353 = .ok (.iaload, 1) := by decide +kernel
theorem d_La_law_354 : decode b_La_law 354 = .ok (.i2l, 1) := by decide +kernel
theorem d_La_law_355 : decode b_La_law 355 = .ok (.bipush 32, 2) := by decide +kernel
theorem d_La_law_357 : decode b_La_law 357 = .ok (.lshl, 1) := by decide +kernel
theorem d_La_law_358 : decode b_La_law 358 = .ok (.aload_n 0, 1) := by decide +kernel
theorem d_La_law_359 : decode b_La_law 359 = .ok (.iload_n 3, 1) := by decide +kernel
theorem d_La_law_360 : decode b_La_law 360 = .ok (.iconst 5, 1) := by decide +kernel
theorem d_La_law_361 : decode b_La_law 361 = .ok (.iadd, 1) := by decide +kernel
theorem d_La_law_362 : decode b_La_law 362 = .ok (.iaload, 1) := by decide +kernel
theorem d_La_law_363 : decode b_La_law 363 = .ok (.i2l, 1) := by decide +kernel
theorem d_La_law_364 : decode b_La_law 364 = .ok (.ldc2_w 13, 3) := by decide +kernel
theorem d_La_law_367 : decode b_La_law 367 = .ok (.land, 1) := by decide +kernel
theorem d_La_law_368 : decode b_La_law 368 = .ok (.lor, 1) := by decide +kernel
theorem d_La_law_369 : decode b_La_law 369 = .ok (.invokevirtual 29, 3) := by decide +kernel
theorem d_La_law_372 : decode b_La_law 372 = .ok (.if_icmp .eq 315, 3) := by decide +kernel
theorem d_La_law_375 : decode b_La_law 375 = .ok (.iconst 0, 1) := by decide +kernel
theorem d_La_law_376 : decode b_La_law 376 = .ok (.ireturn, 1) := by decide +kernel
theorem d_La_law_377 : decode b_La_law 377 = .ok (.aload_n 1, 1) := by decide +kernel
theorem d_La_law_378 : decode b_La_law 378 = .ok (.aload_n 0, 1) := by decide +kernel
theorem d_La_law_379 : decode b_La_law 379 = .ok (.iload_n 3, 1) := by decide +kernel
theorem d_La_law_380 : decode b_La_law 380 = .ok (.iconst 1, 1) := by decide +kernel
theorem d_La_law_381 : decode b_La_law 381 = .ok (.iadd, 1) := by decide +kernel
theorem d_La_law_382 : decode b_La_law 382 = .ok (.iaload, 1) := by decide +kernel
theorem d_La_law_383 : decode b_La_law 383 = .ok (.aload_n 0, 1) := by decide +kernel
theorem d_La_law_384 : decode b_La_law 384 = .ok (.iload_n 3, 1) := by decide +kernel
theorem d_La_law_385 : decode b_La_law 385 = .ok (.iconst 2, 1) := by decide +kernel
theorem d_La_law_386 : decode b_La_law 386 = .ok (.iadd, 1) := by decide +kernel
theorem d_La_law_387 : decode b_La_law 387 = .ok (.iaload, 1) := by decide +kernel
theorem d_La_law_388 : decode b_La_law 388 = .ok (.i2l, 1) := by decide +kernel
theorem d_La_law_389 : decode b_La_law 389 = .ok (.bipush 32, 2) := by decide +kernel
theorem d_La_law_391 : decode b_La_law 391 = .ok (.lshl, 1) := by decide +kernel
theorem d_La_law_392 : decode b_La_law 392 = .ok (.aload_n 0, 1) := by decide +kernel
theorem d_La_law_393 : decode b_La_law 393 = .ok (.iload_n 3, 1) := by decide +kernel
theorem d_La_law_394 : decode b_La_law 394 = .ok (.iconst 3, 1) := by decide +kernel
theorem d_La_law_395 : decode b_La_law 395 = .ok (.iadd, 1) := by decide +kernel
theorem d_La_law_396 : decode b_La_law 396 = .ok (.iaload, 1) := by decide +kernel
theorem d_La_law_397 : decode b_La_law 397 = .ok (.i2l, 1) := by decide +kernel
theorem d_La_law_398 : decode b_La_law 398 = .ok (.ldc2_w 13, 3) := by decide +kernel
theorem d_La_law_401 : decode b_La_law 401 = .ok (.land, 1) := by decide +kernel
theorem d_La_law_402 : decode b_La_law 402 = .ok (.lor, 1) := by decide +kernel
theorem d_La_law_403 : decode b_La_law 403 = .ok (.invokevirtual 30, 3) := by decide +kernel
theorem d_La_law_406 : decode b_La_law 406 = .ok (.aload_n 2, 1) := by decide +kernel
theorem d_La_law_407 : decode b_La_law 407 = .ok (.aload_n 0, 1) := by decide +kernel
theorem d_La_law_408 : decode b_La_law 408 = .ok (.iload_n 3, 1) := by decide +kernel
theorem d_La_law_409 : decode b_La_law 409 = .ok (.iconst 1, 1) := by decide +kernel
theorem d_La_law_410 : decode b_La_law 410 = .ok (.iadd, 1) := by decide +kernel
theorem d_La_law_411 : decode b_La_law 411 = .ok (.iaload, 1) := by decide +kernel
theorem d_La_law_412 : decode b_La_law 412 = .ok (.aload_n 0, 1) := by decide +kernel
theorem d_La_law_413 : decode b_La_law 413 = .ok (.iload_n 3, 1) := by decide +kernel
theorem d_La_law_414 : decode b_La_law 414 = .ok (.iconst 2, 1) := by decide +kernel
theorem d_La_law_415 : decode b_La_law 415 = .ok (.iadd, 1) := by decide +kernel
theorem d_La_law_416 : decode b_La_law 416 = .ok (.iaload, 1) := by decide +kernel
theorem d_La_law_417 : decode b_La_law 417 = .ok (.i2l, 1) := by decide +kernel
theorem d_La_law_418 : decode b_La_law 418 = .ok (.bipush 32, 2) := by decide +kernel
theorem d_La_law_420 : decode b_La_law 420 = .ok (.lshl, 1) := by decide +kernel
theorem d_La_law_421 : decode b_La_law 421 = .ok (.aload_n 0, 1) := by decide +kernel
theorem d_La_law_422 : decode b_La_law 422 = .ok (.iload_n 3, 1) := by decide +kernel
theorem d_La_law_423 : decode b_La_law 423 = .ok (.iconst 3, 1) := by decide +kernel
theorem d_La_law_424 : decode b_La_law 424 = .ok (.iadd, 1) := by decide +kernel
theorem d_La_law_425 : decode b_La_law 425 = .ok (.iaload, 1) := by decide +kernel
theorem d_La_law_426 : decode b_La_law 426 = .ok (.i2l, 1) := by decide +kernel
theorem d_La_law_427 : decode b_La_law 427 = .ok (.ldc2_w 13, 3) := by decide +kernel
theorem d_La_law_430 : decode b_La_law 430 = .ok (.land, 1) := by decide +kernel
theorem d_La_law_431 : decode b_La_law 431 = .ok (.lor, 1) := by decide +kernel
theorem d_La_law_432 : decode b_La_law 432 = .ok (.invokevirtual 34, 3) := by decide +kernel
theorem d_La_law_435 : decode b_La_law 435 = .ok (.if_icmp .eq 252, 3) := by decide +kernel
theorem d_La_law_438 : decode b_La_law 438 = .ok (.iconst 0, 1) := by decide +kernel
theorem d_La_law_439 : decode b_La_law 439 = .ok (.ireturn, 1) := by decide +kernel
theorem d_La_law_440 : decode b_La_law 440 = .ok (.aload_n 1, 1) := by decide +kernel
theorem d_La_law_441 : decode b_La_law 441 = .ok (.aload_n 0, 1) := by decide +kernel
theorem d_La_law_442 : decode b_La_law 442 = .ok (.iload_n 3, 1) := by decide +kernel
theorem d_La_law_443 : decode b_La_law 443 = .ok (.iconst 1, 1) := by decide +kernel
theorem d_La_law_444 : decode b_La_law 444 = .ok (.iadd, 1) := by decide +kernel
theorem d_La_law_445 : decode b_La_law 445 = .ok (.iaload, 1) := by decide +kernel
theorem d_La_law_446 : decode b_La_law 446 = .ok (.aload_n 0, 1) := by decide +kernel
theorem d_La_law_447 : decode b_La_law 447 = .ok (.iload_n 3, 1) := by decide +kernel
theorem d_La_law_448 : decode b_La_law 448 = .ok (.iconst 2, 1) := by decide +kernel
theorem d_La_law_449 : decode b_La_law 449 = .ok (.iadd, 1) := by decide +kernel
theorem d_La_law_450 : decode b_La_law 450 = .ok (.iaload, 1) := by decide +kernel
theorem d_La_law_451 : decode b_La_law 451 = .ok (.i2l, 1) := by decide +kernel
theorem d_La_law_452 : decode b_La_law 452 = .ok (.bipush 32, 2) := by decide +kernel
theorem d_La_law_454 : decode b_La_law 454 = .ok (.lshl, 1) := by decide +kernel
theorem d_La_law_455 : decode b_La_law 455 = .ok (.aload_n 0, 1) := by decide +kernel
theorem d_La_law_456 : decode b_La_law 456 = .ok (.iload_n 3, 1) := by decide +kernel
theorem d_La_law_457 : decode b_La_law 457 = .ok (.iconst 3, 1) := by decide +kernel
theorem d_La_law_458 : decode b_La_law 458 = .ok (.iadd, 1) := by decide +kernel
theorem d_La_law_459 : decode b_La_law 459 = .ok (.iaload, 1) := by decide +kernel
theorem d_La_law_460 : decode b_La_law 460 = .ok (.i2l, 1) := by decide +kernel
theorem d_La_law_461 : decode b_La_law 461 = .ok (.ldc2_w 13, 3) := by decide +kernel
theorem d_La_law_464 : decode b_La_law 464 = .ok (.land, 1) := by decide +kernel
theorem d_La_law_465 : decode b_La_law 465 = .ok (.lor, 1) := by decide +kernel
theorem d_La_law_466 : decode b_La_law 466 = .ok (.invokevirtual 35, 3) := by decide +kernel
theorem d_La_law_469 : decode b_La_law 469 = .ok (.aload_n 2, 1) := by decide +kernel
theorem d_La_law_470 : decode b_La_law 470 = .ok (.aload_n 0, 1) := by decide +kernel
theorem d_La_law_471 : decode b_La_law 471 = .ok (.iload_n 3, 1) := by decide +kernel
theorem d_La_law_472 : decode b_La_law 472 = .ok (.iconst 1, 1) := by decide +kernel
theorem d_La_law_473 : decode b_La_law 473 = .ok (.iadd, 1) := by decide +kernel
theorem d_La_law_474 : decode b_La_law 474 = .ok (.iaload, 1) := by decide +kernel
theorem d_La_law_475 : decode b_La_law 475 = .ok (.aload_n 0, 1) := by decide +kernel
theorem d_La_law_476 : decode b_La_law 476 = .ok (.iload_n 3, 1) := by decide +kernel
theorem d_La_law_477 : decode b_La_law 477 = .ok (.iconst 2, 1) := by decide +kernel
theorem d_La_law_478 : decode b_La_law 478 = .ok (.iadd, 1) := by decide +kernel
theorem d_La_law_479 : decode b_La_law 479 = .ok (.iaload, 1) := by decide +kernel
theorem d_La_law_480 : decode b_La_law 480 = .ok (.i2l, 1) := by decide +kernel
theorem d_La_law_481 : decode b_La_law 481 = .ok (.bipush 32, 2) := by decide +kernel
theorem d_La_law_483 : decode b_La_law 483 = .ok (.lshl, 1) := by decide +kernel
theorem d_La_law_484 : decode b_La_law 484 = .ok (.aload_n 0, 1) := by decide +kernel
theorem d_La_law_485 : decode b_La_law 485 = .ok (.iload_n 3, 1) := by decide +kernel
theorem d_La_law_486 : decode b_La_law 486 = .ok (.iconst 3, 1) := by decide +kernel
theorem d_La_law_487 : decode b_La_law 487 = .ok (.iadd, 1) := by decide +kernel
theorem d_La_law_488 : decode b_La_law 488 = .ok (.iaload, 1) := by decide +kernel
theorem d_La_law_489 : decode b_La_law 489 = .ok (.i2l, 1) := by decide +kernel
theorem d_La_law_490 : decode b_La_law 490 = .ok (.ldc2_w 13, 3) := by decide +kernel
theorem d_La_law_493 : decode b_La_law 493 = .ok (.land, 1) := by decide +kernel
theorem d_La_law_494 : decode b_La_law 494 = .ok (.lor, 1) := by decide +kernel
theorem d_La_law_495 : decode b_La_law 495 = .ok (.invokevirtual 38, 3) := by decide +kernel
theorem d_La_law_498 : decode b_La_law 498 = .ok (.if_icmp .eq 189, 3) := by decide +kernel
theorem d_La_law_501 : decode b_La_law 501 = .ok (.iconst 0, 1) := by decide +kernel
theorem d_La_law_502 : decode b_La_law 502 = .ok (.ireturn, 1) := by decide +kernel
theorem d_La_law_503 : decode b_La_law 503 = .ok (.aload_n 1, 1) := by decide +kernel
theorem d_La_law_504 : decode b_La_law 504 = .ok (.aload_n 0, 1) := by decide +kernel
theorem d_La_law_505 : decode b_La_law 505 = .ok (.iload_n 3, 1) := by decide +kernel
theorem d_La_law_506 : decode b_La_law 506 = .ok (.iconst 1, 1) := by decide +kernel
theorem d_La_law_507 : decode b_La_law 507 = .ok (.iadd, 1) := by decide +kernel
theorem d_La_law_508 : decode b_La_law 508 = .ok (.iaload, 1) := by decide +kernel
theorem d_La_law_509 : decode b_La_law 509 = .ok (.aload_n 0, 1) := by decide +kernel
theorem d_La_law_510 : decode b_La_law 510 = .ok (.iload_n 3, 1) := by decide +kernel
theorem d_La_law_511 : decode b_La_law 511 = .ok (.iconst 2, 1) := by decide +kernel
theorem d_La_law_512 : decode b_La_law 512 = .ok (.iadd, 1) := by decide +kernel
theorem d_La_law_513 : decode b_La_law 513 = .ok (.iaload, 1) := by decide +kernel
theorem d_La_law_514 : decode b_La_law 514 = .ok (.i2l, 1) := by decide +kernel
theorem d_La_law_515 : decode b_La_law 515 = .ok (.bipush 32, 2) := by decide +kernel
theorem d_La_law_517 : decode b_La_law 517 = .ok (.lshl, 1) := by decide +kernel
theorem d_La_law_518 : decode b_La_law 518 = .ok (.aload_n 0, 1) := by decide +kernel
theorem d_La_law_519 : decode b_La_law 519 = .ok (.iload_n 3, 1) := by decide +kernel
theorem d_La_law_520 : decode b_La_law 520 = .ok (.iconst 3, 1) := by decide +kernel
theorem d_La_law_521 : decode b_La_law 521 = .ok (.iadd, 1) := by decide +kernel
theorem d_La_law_522 : decode b_La_law 522 = .ok (.iaload, 1) := by decide +kernel
theorem d_La_law_523 : decode b_La_law 523 = .ok (.i2l, 1) := by decide +kernel
theorem d_La_law_524 : decode b_La_law 524 = .ok (.ldc2_w 13, 3) := by decide +kernel
theorem d_La_law_527 : decode b_La_law 527 = .ok (.land, 1) := by decide +kernel
theorem d_La_law_528 : decode b_La_law 528 = .ok (.lor, 1) := by decide +kernel
theorem d_La_law_529 : decode b_La_law 529 = .ok (.invokevirtual 39, 3) := by decide +kernel
theorem d_La_law_532 : decode b_La_law 532 = .ok (.aload_n 2, 1) := by decide +kernel
theorem d_La_law_533 : decode b_La_law 533 = .ok (.aload_n 0, 1) := by decide +kernel
theorem d_La_law_534 : decode b_La_law 534 = .ok (.iload_n 3, 1) := by decide +kernel
theorem d_La_law_535 : decode b_La_law 535 = .ok (.iconst 1, 1) := by decide +kernel
theorem d_La_law_536 : decode b_La_law 536 = .ok (.iadd, 1) := by decide +kernel
theorem d_La_law_537 : decode b_La_law 537 = .ok (.iaload, 1) := by decide +kernel
theorem d_La_law_538 : decode b_La_law 538 = .ok (.aload_n 0, 1) := by decide +kernel
theorem d_La_law_539 : decode b_La_law 539 = .ok (.iload_n 3, 1) := by decide +kernel
theorem d_La_law_540 : decode b_La_law 540 = .ok (.iconst 2, 1) := by decide +kernel
theorem d_La_law_541 : decode b_La_law 541 = .ok (.iadd, 1) := by decide +kernel
theorem d_La_law_542 : decode b_La_law 542 = .ok (.iaload, 1) := by decide +kernel
theorem d_La_law_543 : decode b_La_law 543 = .ok (.i2l, 1) := by decide +kernel
theorem d_La_law_544 : decode b_La_law 544 = .ok (.bipush 32, 2) := by decide +kernel
theorem d_La_law_546 : decode b_La_law 546 = .ok (.lshl, 1) := by decide +kernel
theorem d_La_law_547 : decode b_La_law 547 = .ok (.aload_n 0, 1) := by decide +kernel
theorem d_La_law_548 : decode b_La_law 548 = .ok (.iload_n 3, 1) := by decide +kernel
theorem d_La_law_549 : decode b_La_law 549 = .ok (.iconst 3, 1) := by decide +kernel
theorem d_La_law_550 : decode b_La_law 550 = .ok (.iadd, 1) := by decide +kernel
theorem d_La_law_551 : decode b_La_law 551 = .ok (.iaload, 1) := by decide +kernel
theorem d_La_law_552 : decode b_La_law 552 = .ok (.i2l, 1) := by decide +kernel
theorem d_La_law_553 : decode b_La_law 553 = .ok (.ldc2_w 13, 3) := by decide +kernel
theorem d_La_law_556 : decode b_La_law 556 = .ok (.land, 1) := by decide +kernel
theorem d_La_law_557 : decode b_La_law 557 = .ok (.lor, 1) := by decide +kernel
theorem d_La_law_558 : decode b_La_law 558 = .ok (.invokevirtual 42, 3) := by decide +kernel
theorem d_La_law_561 : decode b_La_law 561 = .ok (.if_icmp .eq 126, 3) := by decide +kernel
theorem d_La_law_564 : decode b_La_law 564 = .ok (.iconst 0, 1) := by decide +kernel
theorem d_La_law_565 : decode b_La_law 565 = .ok (.ireturn, 1) := by decide +kernel
theorem d_La_law_566 : decode b_La_law 566 = .ok (.aload_n 1, 1) := by decide +kernel
theorem d_La_law_567 : decode b_La_law 567 = .ok (.invokevirtual 43, 3) := by decide +kernel
theorem d_La_law_570 : decode b_La_law 570 = .ok (.aload_n 2, 1) := by decide +kernel
theorem d_La_law_571 : decode b_La_law 571 = .ok (.invokevirtual 47, 3) := by decide +kernel
theorem d_La_law_574 : decode b_La_law 574 = .ok (.lcmp, 1) := by decide +kernel
theorem d_La_law_575 : decode b_La_law 575 = .ok (.ifCond .eq 112, 3) := by decide +kernel
theorem d_La_law_578 : decode b_La_law 578 = .ok (.iconst 0, 1) := by decide +kernel
theorem d_La_law_579 : decode b_La_law 579 = .ok (.ireturn, 1) := by decide +kernel
theorem d_La_law_580 : decode b_La_law 580 = .ok (.aload_n 1, 1) := by decide +kernel
theorem d_La_law_581 : decode b_La_law 581 = .ok (.aload_n 0, 1) := by decide +kernel
theorem d_La_law_582 : decode b_La_law 582 = .ok (.iload_n 3, 1) := by decide +kernel
theorem d_La_law_583 : decode b_La_law 583 = .ok (.iconst 1, 1) := by decide +kernel
theorem d_La_law_584 : decode b_La_law 584 = .ok (.iadd, 1) := by decide +kernel
theorem d_La_law_585 : decode b_La_law 585 = .ok (.iaload, 1) := by decide +kernel
theorem d_La_law_586 : decode b_La_law 586 = .ok (.invokevirtual 48, 3) := by decide +kernel
theorem d_La_law_589 : decode b_La_law 589 = .ok (.aload_n 2, 1) := by decide +kernel
theorem d_La_law_590 : decode b_La_law 590 = .ok (.aload_n 0, 1) := by decide +kernel
theorem d_La_law_591 : decode b_La_law 591 = .ok (.iload_n 3, 1) := by decide +kernel
theorem d_La_law_592 : decode b_La_law 592 = .ok (.iconst 1, 1) := by decide +kernel
theorem d_La_law_593 : decode b_La_law 593 = .ok (.iadd, 1) := by decide +kernel
theorem d_La_law_594 : decode b_La_law 594 = .ok (.iaload, 1) := by decide +kernel
theorem d_La_law_595 : decode b_La_law 595 = .ok (.invokevirtual 52, 3) := by decide +kernel
theorem d_La_law_598 : decode b_La_law 598 = .ok (.if_icmp .eq 89, 3) := by decide +kernel
theorem d_La_law_601 : decode b_La_law 601 = .ok (.iconst 0, 1) := by decide +kernel
theorem d_La_law_602 : decode b_La_law 602 = .ok (.ireturn, 1) := by decide +kernel
theorem d_La_law_603 : decode b_La_law 603 = .ok (.aload_n 1, 1) := by decide +kernel
theorem d_La_law_604 : decode b_La_law 604 = .ok (.aload_n 0, 1) := by decide +kernel
theorem d_La_law_605 : decode b_La_law 605 = .ok (.iload_n 3, 1) := by decide +kernel
theorem d_La_law_606 : decode b_La_law 606 = .ok (.iconst 1, 1) := by decide +kernel
theorem d_La_law_607 : decode b_La_law 607 = .ok (.iadd, 1) := by decide +kernel
theorem d_La_law_608 : decode b_La_law 608 = .ok (.iaload, 1) := by decide +kernel
theorem d_La_law_609 : decode b_La_law 609 = .ok (.invokevirtual 53, 3) := by decide +kernel
theorem d_La_law_612 : decode b_La_law 612 = .ok (.aload_n 2, 1) := by decide +kernel
theorem d_La_law_613 : decode b_La_law 613 = .ok (.aload_n 0, 1) := by decide +kernel
theorem d_La_law_614 : decode b_La_law 614 = .ok (.iload_n 3, 1) := by decide +kernel
theorem d_La_law_615 : decode b_La_law 615 = .ok (.iconst 1, 1) := by decide +kernel
theorem d_La_law_616 : decode b_La_law 616 = .ok (.iadd, 1) := by decide +kernel
theorem d_La_law_617 : decode b_La_law 617 = .ok (.iaload, 1) := by decide +kernel
theorem d_La_law_618 : decode b_La_law 618 = .ok (.invokevirtual 57, 3) := by decide +kernel
theorem d_La_law_621 : decode b_La_law 621 = .ok (.lcmp, 1) := by decide +kernel
theorem d_La_law_622 : decode b_La_law 622 = .ok (.ifCond .eq 65, 3) := by decide +kernel
theorem d_La_law_625 : decode b_La_law 625 = .ok (.iconst 0, 1) := by decide +kernel
theorem d_La_law_626 : decode b_La_law 626 = .ok (.ireturn, 1) := by decide +kernel
theorem d_La_law_627 : decode b_La_law 627 = .ok (.aload_n 1, 1) := by decide +kernel
theorem d_La_law_628 : decode b_La_law 628 = .ok (.aload_n 0, 1) := by decide +kernel
theorem d_La_law_629 : decode b_La_law 629 = .ok (.iload_n 3, 1) := by decide +kernel
theorem d_La_law_630 : decode b_La_law 630 = .ok (.iconst 1, 1) := by decide +kernel
theorem d_La_law_631 : decode b_La_law 631 = .ok (.iadd, 1) := by decide +kernel
theorem d_La_law_632 : decode b_La_law 632 = .ok (.iaload, 1) := by decide +kernel
theorem d_La_law_633 : decode b_La_law 633 = .ok (.invokevirtual 58, 3) := by decide +kernel
theorem d_La_law_636 : decode b_La_law 636 = .ok (.aload_n 2, 1) := by decide +kernel
theorem d_La_law_637 : decode b_La_law 637 = .ok (.aload_n 0, 1) := by decide +kernel
theorem d_La_law_638 : decode b_La_law 638 = .ok (.iload_n 3, 1) := by decide +kernel
theorem d_La_law_639 : decode b_La_law 639 = .ok (.iconst 1, 1) := by decide +kernel
theorem d_La_law_640 : decode b_La_law 640 = .ok (.iadd, 1) := by decide +kernel
theorem d_La_law_641 : decode b_La_law 641 = .ok (.iaload, 1) := by decide +kernel
theorem d_La_law_642 : decode b_La_law 642 = .ok (.invokevirtual 61, 3) := by decide +kernel
theorem d_La_law_645 : decode b_La_law 645 = .ok (.lcmp, 1) := by decide +kernel
theorem d_La_law_646 : decode b_La_law 646 = .ok (.ifCond .eq 41, 3) := by decide +kernel
theorem d_La_law_649 : decode b_La_law 649 = .ok (.iconst 0, 1) := by decide +kernel
theorem d_La_law_650 : decode b_La_law 650 = .ok (.ireturn, 1) := by decide +kernel
theorem d_La_law_651 : decode b_La_law 651 = .ok (.aload_n 1, 1) := by decide +kernel
theorem d_La_law_652 : decode b_La_law 652 = .ok (.aload_n 0, 1) := by decide +kernel
theorem d_La_law_653 : decode b_La_law 653 = .ok (.iload_n 3, 1) := by decide +kernel
theorem d_La_law_654 : decode b_La_law 654 = .ok (.iconst 1, 1) := by decide +kernel
theorem d_La_law_655 : decode b_La_law 655 = .ok (.iadd, 1) := by decide +kernel
theorem d_La_law_656 : decode b_La_law 656 = .ok (.iaload, 1) := by decide +kernel
theorem d_La_law_657 : decode b_La_law 657 = .ok (.invokevirtual 62, 3) := by decide +kernel
theorem d_La_law_660 : decode b_La_law 660 = .ok (.aload_n 2, 1) := by decide +kernel
theorem d_La_law_661 : decode b_La_law 661 = .ok (.aload_n 0, 1) := by decide +kernel
theorem d_La_law_662 : decode b_La_law 662 = .ok (.iload_n 3, 1) := by decide +kernel
theorem d_La_law_663 : decode b_La_law 663 = .ok (.iconst 1, 1) := by decide +kernel
theorem d_La_law_664 : decode b_La_law 664 = .ok (.iadd, 1) := by decide +kernel
theorem d_La_law_665 : decode b_La_law 665 = .ok (.iaload, 1) := by decide +kernel
theorem d_La_law_666 : decode b_La_law 666 = .ok (.invokevirtual 65, 3) := by decide +kernel
theorem d_La_law_669 : decode b_La_law 669 = .ok (.if_icmp .eq 18, 3) := by decide +kernel
theorem d_La_law_672 : decode b_La_law 672 = .ok (.iconst 0, 1) := by decide +kernel
theorem d_La_law_673 : decode b_La_law 673 = .ok (.ireturn, 1) := by decide +kernel
theorem d_La_law_674 : decode b_La_law 674 = .ok (.aload_n 1, 1) := by decide +kernel
theorem d_La_law_675 : decode b_La_law 675 = .ok (.invokevirtual 66, 3) := by decide +kernel
theorem d_La_law_678 : decode b_La_law 678 = .ok (.aload_n 2, 1) := by decide +kernel
theorem d_La_law_679 : decode b_La_law 679 = .ok (.invokevirtual 70, 3) := by decide +kernel
theorem d_La_law_682 : decode b_La_law 682 = .ok (.if_icmp .eq 5, 3) := by decide +kernel
theorem d_La_law_685 : decode b_La_law 685 = .ok (.iconst 0, 1) := by decide +kernel
theorem d_La_law_686 : decode b_La_law 686 = .ok (.ireturn, 1) := by decide +kernel
theorem d_La_law_687 : decode b_La_law 687 = .ok (.iinc 3 7, 3) := by decide +kernel
theorem d_La_law_690 : decode b_La_law 690 = .ok (.goto (-672), 3) := by decide +kernel
theorem d_La_law_693 : decode b_La_law 693 = .ok (.iconst 1, 1) := by decide +kernel
theorem d_La_law_694 : decode b_La_law 694 = .ok (.ireturn, 1) := by decide +kernel
