theorem d_R_init_0 : decode prog_11_method_1_code 0 = .ok (.aload_n 0, 1) := by decide +kernel
theorem d_R_init_1 : decode prog_11_method_1_code 1 = .ok (.invokespecial 1, 3) := by decide +kernel
theorem d_R_init_4 : decode prog_11_method_1_code 4 = .ok (.aload_n 0, 1) := by decide +kernel
theorem d_R_init_5 : decode prog_11_method_1_code 5 = .ok (.sipush 1217, 3) := by decide +kernel
theorem d_R_init_8 : decode prog_11_method_1_code 8 = .ok (.newarray .int, 2) := by decide +kernel
theorem d_R_init_10 : decode prog_11_method_1_code 10 = .ok (.putfield 7, 3) := by decide +kernel
theorem d_R_init_13 : decode prog_11_method_1_code 13 = .ok (.aload_n 0, 1) := by decide +kernel
theorem d_R_init_14 : decode prog_11_method_1_code 14 = .ok (.sipush 1217, 3) := by decide +kernel
theorem d_R_init_17 : decode prog_11_method_1_code 17 = .ok (.newarray .int, 2) := by decide +kernel
theorem d_R_init_19 : decode prog_11_method_1_code 19 = .ok (.putfield 13, 3) := by decide +kernel
theorem d_R_init_22 : decode prog_11_method_1_code 22 = .ok (.aload_n 0, 1) := by decide +kernel
theorem d_R_init_23 : decode prog_11_method_1_code 23 = .ok (.bipush 20, 2) := by decide +kernel
theorem d_R_init_25 : decode prog_11_method_1_code 25 = .ok (.newarray .int, 2) := by decide +kernel
theorem d_R_init_27 : decode prog_11_method_1_code 27 = .ok (.putfield 16, 3) := by decide +kernel
theorem d_R_init_30 : decode prog_11_method_1_code 30 = .ok (.aload_n 0, 1) := by decide +kernel
theorem d_R_init_31 : decode prog_11_method_1_code 31 = .ok (.bipush 20, 2) := by decide +kernel
theorem d_R_init_33 : decode prog_11_method_1_code 33 = .ok (.newarray .int, 2) := by decide +kernel
theorem d_R_init_35 : decode prog_11_method_1_code 35 = .ok (.putfield 19, 3) := by decide +kernel
theorem d_R_init_38 : decode prog_11_method_1_code 38 = .ok (.aload_n 0, 1) := by decide +kernel
theorem d_R_init_39 : decode prog_11_method_1_code 39 = .ok (.sipush 160, 3) := by decide +kernel
theorem d_R_init_42 : decode prog_11_method_1_code 42 = .ok (.newarray .int, 2) := by decide +kernel
theorem d_R_init_44 : decode prog_11_method_1_code 44 = .ok (.putfield 22, 3) := by decide +kernel
theorem d_R_init_47 : decode prog_11_method_1_code 47 = .ok (.aload_n 0, 1) := by decide +kernel
theorem d_R_init_48 : decode prog_11_method_1_code 48 = .ok (.bipush 81, 2) := by decide +kernel
theorem d_R_init_50 : decode prog_11_method_1_code 50 = .ok (.newarray .int, 2) := by decide +kernel
theorem d_R_init_52 : decode prog_11_method_1_code 52 = .ok (.putfield 25, 3) := by decide +kernel
theorem d_R_init_55 : decode prog_11_method_1_code 55 = .ok (.aload_n 0, 1) := by decide +kernel
theorem d_R_init_56 : decode prog_11_method_1_code 56 = .ok (.sipush 2724, 3) := by decide +kernel
theorem d_R_init_59 : decode prog_11_method_1_code 59 = .ok (.newarray .int, 2) := by decide +kernel
theorem d_R_init_61 : decode prog_11_method_1_code 61 = .ok (.putfield 28, 3) := by decide +kernel
theorem d_R_init_64 : decode prog_11_method_1_code 64 = .ok (.aload_n 0, 1) := by decide +kernel
theorem d_R_init_65 : decode prog_11_method_1_code 65 = .ok (.bipush 21, 2) := by decide +kernel
theorem d_R_init_67 : decode prog_11_method_1_code 67 = .ok (.newarray .int, 2) := by decide +kernel
theorem d_R_init_69 : decode prog_11_method_1_code 69 = .ok (.putfield 31, 3) := by decide +kernel
theorem d_R_init_72 : decode prog_11_method_1_code 72 = .ok (.aload_n 0, 1) := by decide +kernel
theorem d_R_init_73 : decode prog_11_method_1_code 73 = .ok (.sipush 300, 3) := by decide +kernel
theorem d_R_init_76 : decode prog_11_method_1_code 76 = .ok (.newarray .int, 2) := by decide +kernel
theorem d_R_init_78 : decode prog_11_method_1_code 78 = .ok (.putfield 34, 3) := by decide +kernel
theorem d_R_init_81 : decode prog_11_method_1_code 81 = .ok (.aload_n 0, 1) := by decide +kernel
theorem d_R_init_82 : decode prog_11_method_1_code 82 = .ok (.iconst (-1), 1) := by decide +kernel
theorem d_R_init_83 : decode prog_11_method_1_code 83 = .ok (.putfield 37, 3) := by decide +kernel
theorem d_R_init_86 : decode prog_11_method_1_code 86 = .ok (.aload_n 0, 1) := by decide +kernel
theorem d_R_init_87 : decode prog_11_method_1_code 87 = .ok (.iconst (-1), 1) := by decide +kernel
theorem d_R_init_88 : decode prog_11_method_1_code 88 = .ok (.putfield 41, 3) := by decide +kernel
theorem d_R_init_91 : decode prog_11_method_1_code 91 = .ok (.aload_n 0, 1) := by decide +kernel
theorem d_R_init_92 : decode prog_11_method_1_code 92 = .ok (.sipush 160, 3) := by decide +kernel
theorem d_R_init_95 : decode prog_11_method_1_code 95 = .ok (.newarray .int, 2) := by decide +kernel
theorem d_R_init_97 : decode prog_11_method_1_code 97 = .ok (.putfield 44, 3) := by decide +kernel
theorem d_R_init_100 : decode prog_11_method_1_code 100 = .ok (.aload_n 0, 1) := by decide +kernel
theorem d_R_init_101 : decode prog_11_method_1_code 101 = .ok (.sipush 160, 3) := by decide +kernel
theorem d_R_init_104 : decode prog_11_method_1_code 104 = .ok (.newarray .int, 2) := by decide +kernel
theorem d_R_init_106 : decode prog_11_method_1_code 106 = .ok (.putfield 47, 3) := by decide +kernel
theorem d_R_init_109 : decode prog_11_method_1_code 109 = .ok (.aload_n 0, 1) := by decide +kernel
theorem d_R_init_110 : decode prog_11_method_1_code 110 = .ok (.bipush 7, 2) := by decide +kernel
theorem d_R_init_112 : decode prog_11_method_1_code 112 = .ok (.newarray .int, 2) := by decide +kernel
theorem d_R_init_114 : decode prog_11_method_1_code 114 = .ok (.putfield 50, 3) := by decide +kernel
theorem d_R_init_117 : decode prog_11_method_1_code 117 = .ok (.aload_n 0, 1) := by decide +kernel
theorem d_R_init_118 : decode prog_11_method_1_code 118 = .ok (.sipush 330, 3) := by decide +kernel
theorem d_R_init_121 : decode prog_11_method_1_code 121 = .ok (.newarray .long, 2) := by decide +kernel
theorem d_R_init_123 : decode prog_11_method_1_code 123 = .ok (.putfield 53, 3) := by decide +kernel
theorem d_R_init_126 : decode prog_11_method_1_code 126 = .ok (.aload_n 0, 1) := by decide +kernel
theorem d_R_init_127 : decode prog_11_method_1_code 127 = .ok (.sipush 330, 3) := by decide +kernel
theorem d_R_init_130 : decode prog_11_method_1_code 130 = .ok (.newarray .boolean, 2) := by decide +kernel
theorem d_R_init_132 : decode prog_11_method_1_code 132 = .ok (.putfield 57, 3) := by decide +kernel
theorem d_R_init_135 : decode prog_11_method_1_code 135 = .ok (.aload_n 0, 1) := by decide +kernel
theorem d_R_init_136 : decode prog_11_method_1_code 136 = .ok (.iconst 1, 1) := by decide +kernel
theorem d_R_init_137 : decode prog_11_method_1_code 137 = .ok (.putfield 61, 3) := by decide +kernel
theorem d_R_init_140 : decode prog_11_method_1_code 140 = .ok (.aload_n 0, 1) := by decide +kernel
theorem d_R_init_141 : decode prog_11_method_1_code 141 = .ok (.bipush 18, 2) := by decide +kernel
theorem d_R_init_143 : decode prog_11_method_1_code 143 = .ok (.newarray .int, 2) := by decide +kernel
theorem d_R_init_145 : decode prog_11_method_1_code 145 = .ok (.putfield 65, 3) := by decide +kernel
theorem d_R_init_148 : decode prog_11_method_1_code 148 = .ok (.aload_n 0, 1) := by decide +kernel
theorem d_R_init_149 : decode prog_11_method_1_code 149 = .ok (.bipush 21, 2) := by decide +kernel
theorem d_R_init_151 : decode prog_11_method_1_code 151 = .ok (.newarray .long, 2) := by decide +kernel
theorem d_R_init_153 : decode prog_11_method_1_code 153 = .ok (.putfield 68, 3) := by decide +kernel
theorem d_R_init_156 : decode prog_11_method_1_code 156 = .ok (.aload_n 0, 1) := by decide +kernel
theorem d_R_init_157 : decode prog_11_method_1_code 157 = .ok (.sipush 1024, 3) := by decide +kernel
theorem d_R_init_160 : decode prog_11_method_1_code 160 = .ok (.newarray .boolean, 2) := by decide +kernel
theorem d_R_init_162 : decode prog_11_method_1_code 162 = .ok (.putfield 71, 3) := by decide +kernel
theorem d_R_init_165 : decode prog_11_method_1_code 165 = .ok (.aload_n 0, 1) := by decide +kernel
theorem d_R_init_166 : decode prog_11_method_1_code 166 = .ok (.bipush 20, 2) := by decide +kernel
theorem d_R_init_168 : decode prog_11_method_1_code 168 = .ok (.newarray .int, 2) := by decide +kernel
theorem d_R_init_170 : decode prog_11_method_1_code 170 = .ok (.putfield 74, 3) := by decide +kernel
theorem d_R_init_173 : decode prog_11_method_1_code 173 = .ok (.aload_n 0, 1) := by decide +kernel
theorem d_R_init_174 : decode prog_11_method_1_code 174 = .ok (.getfield 7, 3) := by decide +kernel
theorem d_R_init_177 : decode prog_11_method_1_code 177 = .ok (.bipush 7, 2) := by decide +kernel
theorem d_R_init_179 : decode prog_11_method_1_code 179 = .ok (.sipush 431, 3) := by decide +kernel
theorem d_R_init_182 : decode prog_11_method_1_code 182 = .ok (.iastore, 1) := by decide +kernel
theorem d_R_init_183 : decode prog_11_method_1_code 183 = .ok (.aload_n 0, 1) := by decide +kernel
theorem d_R_init_184 : decode prog_11_method_1_code 184 = .ok (.getfield 7, 3) := by decide +kernel
theorem d_R_init_187 : decode prog_11_method_1_code 187 = .ok (.iconst 2, 1) := by decide +kernel
theorem d_R_init_188 : decode prog_11_method_1_code 188 = .ok (.iconst (-1), 1) := by decide +kernel
theorem d_R_init_189 : decode prog_11_method_1_code 189 = .ok (.iastore, 1) := by decide +kernel
theorem d_R_init_190 : decode prog_11_method_1_code 190 = .ok (.iconst 0, 1) := by decide +kernel
theorem d_R_init_191 : decode prog_11_method_1_code 191 = .ok (.istore_n 1, 1) := by decide +kernel
theorem d_R_init_192 : decode prog_11_method_1_code 192 = .ok (.iload_n 1, 1) := by decide +kernel
theorem d_R_init_193 : decode prog_11_method_1_code 193 = .ok (.bipush 81, 2) := by decide +kernel
theorem d_R_init_195 : decode prog_11_method_1_code 195 = .ok (.if_icmp .ge 16, 3) := by decide +kernel
theorem d_R_init_198 : decode prog_11_method_1_code 198 = .ok (.aload_n 0, 1) := by decide +kernel
theorem d_R_init_199 : decode prog_11_method_1_code 199 = .ok (.getfield 25, 3) := by decide +kernel
theorem d_R_init_202 : decode prog_11_method_1_code 202 = .ok (.iload_n 1, 1) := by decide +kernel
theorem d_R_init_203 : decode prog_11_method_1_code 203 = .ok (.iconst (-1), 1) := by decide +kernel
theorem d_R_init_204 : decode prog_11_method_1_code 204 = .ok (.iastore, 1) := by decide +kernel
theorem d_R_init_205 : decode prog_11_method_1_code 205 = .ok (.iinc 1 1, 3) := by decide +kernel
theorem d_R_init_208 : decode prog_11_method_1_code 208 = .ok (.goto (-16), 3) := by decide +kernel
theorem d_R_init_211 : decode prog_11_method_1_code 211 = .ok (.iconst 0, 1) := by decide +kernel
theorem d_R_init_212 : decode prog_11_method_1_code 212 = .ok (.istore_n 1, 1) := by decide +kernel
theorem d_R_init_213 : decode prog_11_method_1_code 213 = .ok (.iload_n 1, 1) := by decide +kernel
theorem d_R_init_214 : decode prog_11_method_1_code 214 = .ok (.bipush 6, 2) := by decide +kernel
theorem d_R_init_216 : decode prog_11_method_1_code 216 = .ok (.if_icmp .ge 62, 3) := by decide +kernel
theorem d_R_init_219 : decode prog_11_method_1_code 219 = .ok (.aload_n 0, 1) := by decide +kernel
theorem d_R_init_220 : decode prog_11_method_1_code 220 = .ok (.iload_n 1, 1) := by decide +kernel
theorem d_R_init_221 : decode prog_11_method_1_code 221 = .ok (.iconst 3, 1) := by decide +kernel
theorem d_R_init_222 : decode prog_11_method_1_code 222 = .ok (.iload_n 1, 1) := by decide +kernel
theorem d_R_init_223 : decode prog_11_method_1_code 223 = .ok (.iconst 2, 1) := by decide +kernel
theorem d_R_init_224 : decode prog_11_method_1_code 224 = .ok (.idiv, 1) := by decide +kernel
theorem d_R_init_225 : decode prog_11_method_1_code 225 = .ok (.imul, 1) := by decide +kernel
theorem d_R_init_226 : decode prog_11_method_1_code 226 = .ok (.iload_n 1, 1) := by decide +kernel
theorem d_R_init_227 : decode prog_11_method_1_code 227 = .ok (.iconst 2, 1) := by decide +kernel
theorem d_R_init_228 : decode prog_11_method_1_code 228 = .ok (.irem, 1) := by decide +kernel
theorem d_R_init_229 : decode prog_11_method_1_code 229 = .ok (.iadd, 1) := by decide +kernel
theorem d_R_init_230 : decode prog_11_method_1_code 230 = .ok (.iconst 3, 1) := by decide +kernel
theorem d_R_init_231 : decode prog_11_method_1_code 231 = .ok (.iload_n 1, 1) := by decide +kernel
theorem d_R_init_232 : decode prog_11_method_1_code 232 = .ok (.iconst 2, 1) := by decide +kernel
theorem d_R_init_233 : decode prog_11_method_1_code 233 = .ok (.idiv, 1) := by decide +kernel
theorem d_R_init_234 : decode prog_11_method_1_code 234 = .ok (.imul, 1) := by decide +kernel
theorem d_R_init_235 : decode prog_11_method_1_code 235 = .ok (.iload_n 1, 1) := by decide +kernel
theorem d_R_init_236 : decode prog_11_method_1_code 236 = .ok (.iconst 2, 1) := by decide +kernel
theorem d_R_init_237 : decode prog_11_method_1_code 237 = .ok (.irem, 1) := by decide +kernel
theorem d_R_init_238 : decode prog_11_method_1_code 238 = .ok (.iadd, 1) := by decide +kernel
theorem d_R_init_239 : decode prog_11_method_1_code 239 = .ok (.iconst 1, 1) := by decide +kernel
theorem d_R_init_240 : decode prog_11_method_1_code 240 = .ok (.iadd, 1) := by decide +kernel
theorem d_R_init_241 : decode prog_11_method_1_code 241 = .ok (.invokevirtual 77, 3) := by decide +kernel
theorem d_R_init_244 : decode prog_11_method_1_code 244 = .ok (.aload_n 0, 1) := by decide +kernel
theorem d_R_init_245 : decode prog_11_method_1_code 245 = .ok (.bipush 6, 2) := by decide +kernel
theorem d_R_init_247 : decode prog_11_method_1_code 247 = .ok (.iload_n 1, 1) := by decide +kernel
theorem d_R_init_248 : decode prog_11_method_1_code 248 = .ok (.iadd, 1) := by decide +kernel
theorem d_R_init_249 : decode prog_11_method_1_code 249 = .ok (.iconst 3, 1) := by decide +kernel
theorem d_R_init_250 : decode prog_11_method_1_code 250 = .ok (.iload_n 1, 1) := by decide +kernel
theorem d_R_init_251 : decode prog_11_method_1_code 251 = .ok (.iconst 3, 1) := by decide +kernel
theorem d_R_init_252 : decode prog_11_method_1_code 252 = .ok (.idiv, 1) := by decide +kernel
theorem d_R_init_253 : decode prog_11_method_1_code 253 = .ok (.imul, 1) := by decide +kernel
theorem d_R_init_254 : decode prog_11_method_1_code 254 = .ok (.iload_n 1, 1) := by decide +kernel
theorem d_R_init_255 : decode prog_11_method_1_code 255 = .ok (.iconst 3, 1) := by decide +kernel
theorem d_R_init_256 : decode prog_11_method_1_code 256 = .ok (.irem, 1) := by decide +kernel
theorem d_R_init_257 : decode prog_11_method_1_code 257 = .ok (.iadd, 1) := by decide +kernel
theorem d_R_init_258 : decode prog_11_method_1_code 258 = .ok (.iconst 3, 1) := by decide +kernel
theorem d_R_init_259 : decode prog_11_method_1_code 259 = .ok (.iload_n 1, 1) := by decide +kernel
theorem d_R_init_260 : decode prog_11_method_1_code 260 = .ok (.iconst 3, 1) := by decide +kernel
theorem d_R_init_261 : decode prog_11_method_1_code 261 = .ok (.idiv, 1) := by decide +kernel
theorem d_R_init_262 : decode prog_11_method_1_code 262 = .ok (.imul, 1) := by decide +kernel
theorem d_R_init_263 : decode prog_11_method_1_code 263 = .ok (.iload_n 1, 1) := by decide +kernel
theorem d_R_init_264 : decode prog_11_method_1_code 264 = .ok (.iconst 3, 1) := by decide +kernel
theorem d_R_init_265 : decode prog_11_method_1_code 265 = .ok (.irem, 1) := by decide +kernel
theorem d_R_init_266 : decode prog_11_method_1_code 266 = .ok (.iadd, 1) := by decide +kernel
theorem d_R_init_267 : decode prog_11_method_1_code 267 = .ok (.iconst 3, 1) := by decide +kernel
theorem d_R_init_268 : decode prog_11_method_1_code 268 = .ok (.iadd, 1) := by decide +kernel
theorem d_R_init_269 : decode prog_11_method_1_code 269 = .ok (.invokevirtual 77, 3) := by decide +kernel
theorem d_R_init_272 : decode prog_11_method_1_code 272 = .ok (.iinc 1 1, 3) := by decide +kernel
theorem d_R_init_275 : decode prog_11_method_1_code 275 = .ok (.goto (-62), 3) := by decide +kernel
theorem d_R_init_278 : decode prog_11_method_1_code 278 = .ok (.iconst 0, 1) := by decide +kernel
theorem d_R_init_279 : decode prog_11_method_1_code 279 = .ok (.istore_n 1, 1) := by decide +kernel
theorem d_R_init_280 : decode prog_11_method_1_code 280 = .ok (.iload_n 1, 1) := by decide +kernel
theorem d_R_init_281 : decode prog_11_method_1_code 281 = .ok (.iconst 4, 1) := by decide +kernel
theorem d_R_init_282 : decode prog_11_method_1_code 282 = .ok (.if_icmp .ge 67, 3) := by decide +kernel
theorem d_R_init_285 : decode prog_11_method_1_code 285 = .ok (.aload_n 0, 1) := by decide +kernel
theorem d_R_init_286 : decode prog_11_method_1_code 286 = .ok (.bipush 12, 2) := by decide +kernel
theorem d_R_init_288 : decode prog_11_method_1_code 288 = .ok (.iload_n 1, 1) := by decide +kernel
theorem d_R_init_289 : decode prog_11_method_1_code 289 = .ok (.iadd, 1) := by decide +kernel
theorem d_R_init_290 : decode prog_11_method_1_code 290 = .ok (.iconst 3, 1) := by decide +kernel
theorem d_R_init_291 : decode prog_11_method_1_code 291 = .ok (.iload_n 1, 1) := by decide +kernel
theorem d_R_init_292 : decode prog_11_method_1_code 292 = .ok (.iconst 2, 1) := by decide +kernel
theorem d_R_init_293 : decode prog_11_method_1_code 293 = .ok (.idiv, 1) := by decide +kernel
theorem d_R_init_294 : decode prog_11_method_1_code 294 = .ok (.imul, 1) := by decide +kernel
theorem d_R_init_295 : decode prog_11_method_1_code 295 = .ok (.iload_n 1, 1) := by decide +kernel
theorem d_R_init_296 : decode prog_11_method_1_code 296 = .ok (.iconst 2, 1) := by decide +kernel
theorem d_R_init_297 : decode prog_11_method_1_code 297 = .ok (.irem, 1) := by decide +kernel
theorem d_R_init_298 : decode prog_11_method_1_code 298 = .ok (.iadd, 1) := by decide +kernel
theorem d_R_init_299 : decode prog_11_method_1_code 299 = .ok (.iconst 3, 1) := by decide +kernel
theorem d_R_init_300 : decode prog_11_method_1_code 300 = .ok (.iload_n 1, 1) := by decide +kernel
theorem d_R_init_301 : decode prog_11_method_1_code 301 = .ok (.iconst 2, 1) := by decide +kernel
theorem d_R_init_302 : decode prog_11_method_1_code 302 = .ok (.idiv, 1) := by decide +kernel
theorem d_R_init_303 : decode prog_11_method_1_code 303 = .ok (.imul, 1) := by decide +kernel
theorem d_R_init_304 : decode prog_11_method_1_code 304 = .ok (.iload_n 1, 1) := by decide +kernel
theorem d_R_init_305 : decode prog_11_method_1_code 305 = .ok (.iconst 2, 1) := by decide +kernel
theorem d_R_init_306 : decode prog_11_method_1_code 306 = .ok (.irem, 1) := by decide +kernel
theorem d_R_init_307 : decode prog_11_method_1_code 307 = .ok (.iadd, 1) := by decide +kernel
theorem d_R_init_308 : decode prog_11_method_1_code 308 = .ok (.iconst 4, 1) := by decide +kernel
theorem d_R_init_309 : decode prog_11_method_1_code 309 = .ok (.iadd, 1) := by decide +kernel
theorem d_R_init_310 : decode prog_11_method_1_code 310 = .ok (.invokevirtual 77, 3) := by decide +kernel
theorem d_R_init_313 : decode prog_11_method_1_code 313 = .ok (.aload_n 0, 1) := by decide +kernel
theorem d_R_init_314 : decode prog_11_method_1_code 314 = .ok (.bipush 16, 2) := by decide +kernel
theorem d_R_init_316 : decode prog_11_method_1_code 316 = .ok (.iload_n 1, 1) := by decide +kernel
theorem d_R_init_317 : decode prog_11_method_1_code 317 = .ok (.iadd, 1) := by decide +kernel
theorem d_R_init_318 : decode prog_11_method_1_code 318 = .ok (.iconst 3, 1) := by decide +kernel
theorem d_R_init_319 : decode prog_11_method_1_code 319 = .ok (.iload_n 1, 1) := by decide +kernel
theorem d_R_init_320 : decode prog_11_method_1_code 320 = .ok (.iconst 2, 1) := by decide +kernel
theorem d_R_init_321 : decode prog_11_method_1_code 321 = .ok (.idiv, 1) := by decide +kernel
theorem d_R_init_322 : decode prog_11_method_1_code 322 = .ok (.imul, 1) := by decide +kernel
theorem d_R_init_323 : decode prog_11_method_1_code 323 = .ok (.iload_n 1, 1) := by decide +kernel
theorem d_R_init_324 : decode prog_11_method_1_code 324 = .ok (.iconst 2, 1) := by decide +kernel
theorem d_R_init_325 : decode prog_11_method_1_code 325 = .ok (.irem, 1) := by decide +kernel
theorem d_R_init_326 : decode prog_11_method_1_code 326 = .ok (.iadd, 1) := by decide +kernel
theorem d_R_init_327 : decode prog_11_method_1_code 327 = .ok (.iconst 1, 1) := by decide +kernel
theorem d_R_init_328 : decode prog_11_method_1_code 328 = .ok (.iadd, 1) := by decide +kernel
theorem d_R_init_329 : decode prog_11_method_1_code 329 = .ok (.iconst 3, 1) := by decide +kernel
theorem d_R_init_330 : decode prog_11_method_1_code 330 = .ok (.iload_n 1, 1) := by decide +kernel
theorem d_R_init_331 : decode prog_11_method_1_code 331 = .ok (.iconst 2, 1) := by decide +kernel
theorem d_R_init_332 : decode prog_11_method_1_code 332 = .ok (.idiv, 1) := by decide +kernel
theorem d_R_init_333 : decode prog_11_method_1_code 333 = .ok (.imul, 1) := by decide +kernel
theorem d_R_init_334 : decode prog_11_method_1_code 334 = .ok (.iload_n 1, 1) := by decide +kernel
theorem d_R_init_335 : decode prog_11_method_1_code 335 = .ok (.iconst 2, 1) := by decide +kernel
theorem d_R_init_336 : decode prog_11_method_1_code 336 = .ok (.irem, 1) := by decide +kernel
theorem d_R_init_337 : decode prog_11_method_1_code 337 = .ok (.iadd, 1) := by decide +kernel
theorem d_R_init_338 : decode prog_11_method_1_code 338 = .ok (.iconst 3, 1) := by decide +kernel
theorem d_R_init_339 : decode prog_11_method_1_code 339 = .ok (.iadd, 1) := by decide +kernel
theorem d_R_init_340 : decode prog_11_method_1_code 340 = .ok (.invokevirtual 77, 3) := by decide +kernel
theorem d_R_init_343 : decode prog_11_method_1_code 343 = .ok (.iinc 1 1, 3) := by decide +kernel
theorem d_R_init_346 : decode prog_11_method_1_code 346 = .ok (.goto (-66), 3) := by decide +kernel
theorem d_R_init_349 : decode prog_11_method_1_code 349 = .ok (.iconst 0, 1) := by decide +kernel
theorem d_R_init_350 : decode prog_11_method_1_code 350 = .ok (.istore_n 1, 1) := by decide +kernel
theorem d_R_init_351 : decode prog_11_method_1_code 351 = .ok (.iload_n 1, 1) := by decide +kernel
theorem d_R_init_352 : decode prog_11_method_1_code 352 = .ok (.bipush 8, 2) := by decide +kernel
theorem d_R_init_354 : decode prog_11_method_1_code 354 = .ok (.if_icmp .ge 63, 3) := by decide +kernel
theorem d_R_init_357 : decode prog_11_method_1_code 357 = .ok (.iconst 0, 1) := by decide +kernel
theorem d_R_init_358 : decode prog_11_method_1_code 358 = .ok (.istore_n 2, 1) := by decide +kernel
theorem d_R_init_359 : decode prog_11_method_1_code 359 = .ok (.iload_n 2, 1) := by decide +kernel
theorem d_R_init_360 : decode prog_11_method_1_code 360 = .ok (.bipush 20, 2) := by decide +kernel
theorem d_R_init_362 : decode prog_11_method_1_code 362 = .ok (.if_icmp .ge 49, 3) := by decide +kernel
theorem d_R_init_365 : decode prog_11_method_1_code 365 = .ok (.aload_n 0, 1) := by decide +kernel
theorem d_R_init_366 : decode prog_11_method_1_code 366 = .ok (.getfield 22, 3) := by decide +kernel
theorem d_R_init_369 : decode prog_11_method_1_code 369 = .ok (.bipush 20, 2) := by decide +kernel
theorem d_R_init_371 : decode prog_11_method_1_code 371 = .ok (.iload_n 1, 1) := by decide +kernel
theorem d_R_init_372 : decode prog_11_method_1_code 372 = .ok (.imul, 1) := by decide +kernel
theorem d_R_init_373 : decode prog_11_method_1_code 373 = .ok (.iload_n 2, 1) := by decide +kernel
theorem d_R_init_374 : decode prog_11_method_1_code 374 = .ok (.iadd, 1) := by decide +kernel
theorem d_R_init_375 : decode prog_11_method_1_code 375 = .ok (.aload_n 0, 1) := by decide +kernel
theorem d_R_init_376 : decode prog_11_method_1_code 376 = .ok (.getfield 25, 3) := by decide +kernel
theorem d_R_init_379 : decode prog_11_method_1_code 379 = .ok (.bipush 9, 2) := by decide +kernel
theorem d_R_init_381 : decode prog_11_method_1_code 381 = .ok (.aload_n 0, 1) := by decide +kernel
theorem d_R_init_382 : decode prog_11_method_1_code 382 = .ok (.getfield 16, 3) := by decide +kernel
theorem d_R_init_385 : decode prog_11_method_1_code 385 = .ok (.iload_n 2, 1) := by decide +kernel
theorem d_R_init_386 : decode prog_11_method_1_code 386 = .ok (.iaload, 1) := by decide +kernel
theorem d_R_init_387 : decode prog_11_method_1_code 387 = .ok (.iload_n 1, 1) := by decide +kernel
theorem d_R_init_388 : decode prog_11_method_1_code 388 = .ok (.invokestatic 81, 3) := by decide +kernel
theorem d_R_init_391 : decode prog_11_method_1_code 391 = .ok (.imul, 1) := by decide +kernel
theorem d_R_init_392 : decode prog_11_method_1_code 392 = .ok (.aload_n 0, 1) := by decide +kernel
theorem d_R_init_393 : decode prog_11_method_1_code 393 = .ok (.getfield 19, 3) := by decide +kernel
theorem d_R_init_396 : decode prog_11_method_1_code 396 = .ok (.iload_n 2, 1) := by decide +kernel
theorem d_R_init_397 : decode prog_11_method_1_code 397 = .ok (.iaload, 1) := by decide +kernel
theorem d_R_init_398 : decode prog_11_method_1_code 398 = .ok (.iload_n 1, 1) := by decide +kernel
theorem d_R_init_399 : decode prog_11_method_1_code 399 = .ok (.invokestatic 81, 3) := by decide +kernel
theorem d_R_init_402 : decode prog_11_method_1_code 402 = .ok (.iadd, 1) := by decide +kernel
theorem d_R_init_403 : decode prog_11_method_1_code 403 = .ok (.iaload, 1) := by decide +kernel
theorem d_R_init_404 : decode prog_11_method_1_code 404 = .ok (.iastore, 1) := by decide +kernel
theorem d_R_init_405 : decode prog_11_method_1_code 405 = .ok (.iinc 2 1, 3) := by decide +kernel
theorem d_R_init_408 : decode prog_11_method_1_code 408 = .ok (.goto (-49), 3) := by decide +kernel
theorem d_R_init_411 : decode prog_11_method_1_code 411 = .ok (.iinc 1 1, 3) := by decide +kernel
theorem d_R_init_414 : decode prog_11_method_1_code 414 = .ok (.goto (-63), 3) := by decide +kernel
theorem d_R_init_417 : decode prog_11_method_1_code 417 = .ok (.aload_n 0, 1) := by decide +kernel
theorem d_R_init_418 : decode prog_11_method_1_code 418 = .ok (.getfield 7, 3) := by decide +kernel
theorem d_R_init_421 : decode prog_11_method_1_code 421 = .ok (.aload_n 0, 1) := by decide +kernel
theorem d_R_init_422 : decode prog_11_method_1_code 422 = .ok (.getfield 13, 3) := by decide +kernel
theorem d_R_init_425 : decode prog_11_method_1_code 425 = .ok (.invokestatic 85, 3) := by decide +kernel
theorem d_R_init_428 : decode prog_11_method_1_code 428 = .ok (.return_, 1) := by decide +kernel
theorem d_R_layStroke_0 : decode prog_11_method_2_code 0 = .ok (.aload_n 0, 1) := by decide +kernel
theorem d_R_layStroke_1 : decode prog_11_method_2_code 1 = .ok (.getfield 16, 3) := by decide +kernel
theorem d_R_layStroke_4 : decode prog_11_method_2_code 4 = .ok (.iload_n 1, 1) := by decide +kernel
theorem d_R_layStroke_5 : decode prog_11_method_2_code 5 = .ok (.iload_n 2, 1) := by decide +kernel
theorem d_R_layStroke_6 : decode prog_11_method_2_code 6 = .ok (.iastore, 1) := by decide +kernel
theorem d_R_layStroke_7 : decode prog_11_method_2_code 7 = .ok (.aload_n 0, 1) := by decide +kernel
theorem d_R_layStroke_8 : decode prog_11_method_2_code 8 = .ok (.getfield 19, 3) := by decide +kernel
theorem d_R_layStroke_11 : decode prog_11_method_2_code 11 = .ok (.iload_n 1, 1) := by decide +kernel
theorem d_R_layStroke_12 : decode prog_11_method_2_code 12 = .ok (.iload_n 3, 1) := by decide +kernel
theorem d_R_layStroke_13 : decode prog_11_method_2_code 13 = .ok (.iastore, 1) := by decide +kernel
theorem d_R_layStroke_14 : decode prog_11_method_2_code 14 = .ok (.aload_n 0, 1) := by decide +kernel
theorem d_R_layStroke_15 : decode prog_11_method_2_code 15 = .ok (.getfield 25, 3) := by decide +kernel
theorem d_R_layStroke_18 : decode prog_11_method_2_code 18 = .ok (.bipush 9, 2) := by decide +kernel
theorem d_R_layStroke_20 : decode prog_11_method_2_code 20 = .ok (.iload_n 2, 1) := by decide +kernel
theorem d_R_layStroke_21 : decode prog_11_method_2_code 21 = .ok (.imul, 1) := by decide +kernel
theorem d_R_layStroke_22 : decode prog_11_method_2_code 22 = .ok (.iload_n 3, 1) := by decide +kernel
theorem d_R_layStroke_23 : decode prog_11_method_2_code 23 = .ok (.iadd, 1) := by decide +kernel
theorem d_R_layStroke_24 : decode prog_11_method_2_code 24 = .ok (.iload_n 1, 1) := by decide +kernel
theorem d_R_layStroke_25 : decode prog_11_method_2_code 25 = .ok (.iastore, 1) := by decide +kernel
theorem d_R_layStroke_26 : decode prog_11_method_2_code 26 = .ok (.aload_n 0, 1) := by decide +kernel
theorem d_R_layStroke_27 : decode prog_11_method_2_code 27 = .ok (.getfield 25, 3) := by decide +kernel
theorem d_R_layStroke_30 : decode prog_11_method_2_code 30 = .ok (.bipush 9, 2) := by decide +kernel
theorem d_R_layStroke_32 : decode prog_11_method_2_code 32 = .ok (.iload_n 3, 1) := by decide +kernel
theorem d_R_layStroke_33 : decode prog_11_method_2_code 33 = .ok (.imul, 1) := by decide +kernel
theorem d_R_layStroke_34 : decode prog_11_method_2_code 34 = .ok (.iload_n 2, 1) := by decide +kernel
theorem d_R_layStroke_35 : decode prog_11_method_2_code 35 = .ok (.iadd, 1) := by decide +kernel
theorem d_R_layStroke_36 : decode prog_11_method_2_code 36 = .ok (.iload_n 1, 1) := by decide +kernel
theorem d_R_layStroke_37 : decode prog_11_method_2_code 37 = .ok (.iastore, 1) := by decide +kernel
theorem d_R_layStroke_38 : decode prog_11_method_2_code 38 = .ok (.return_, 1) := by decide +kernel
theorem d_R_pointBy_0 : decode prog_11_method_3_code 0 = .ok (.iload_n 0, 1) := by decide +kernel
theorem d_R_pointBy_1 : decode prog_11_method_3_code 1 = .ok (.iconst 3, 1) := by decide +kernel
theorem d_R_pointBy_2 : decode prog_11_method_3_code 2 = .ok (.idiv, 1) := by decide +kernel
theorem d_R_pointBy_3 : decode prog_11_method_3_code 3 = .ok (.istore_n 2, 1) := by decide +kernel
theorem d_R_pointBy_4 : decode prog_11_method_3_code 4 = .ok (.iload_n 1, 1) := by decide +kernel
theorem d_R_pointBy_5 : decode prog_11_method_3_code 5 = .ok (.iconst 3, 1) := by decide +kernel
theorem d_R_pointBy_6 : decode prog_11_method_3_code 6 = .ok (.if_icmp .le 11, 3) := by decide +kernel
theorem d_R_pointBy_9 : decode prog_11_method_3_code 9 = .ok (.iconst 2, 1) := by decide +kernel
theorem d_R_pointBy_10 : decode prog_11_method_3_code 10 = .ok (.iload_n 0, 1) := by decide +kernel
theorem d_R_pointBy_11 : decode prog_11_method_3_code 11 = .ok (.iconst 3, 1) := by decide +kernel
theorem d_R_pointBy_12 : decode prog_11_method_3_code 12 = .ok (.irem, 1) := by decide +kernel
theorem d_R_pointBy_13 : decode prog_11_method_3_code 13 = .ok (.isub, 1) := by decide +kernel
theorem d_R_pointBy_14 : decode prog_11_method_3_code 14 = .ok (.goto 6, 3) := by decide +kernel
theorem d_R_pointBy_17 : decode prog_11_method_3_code 17 = .ok (.iload_n 0, 1) := by decide +kernel
theorem d_R_pointBy_18 : decode prog_11_method_3_code 18 = .ok (.iconst 3, 1) := by decide +kernel
theorem d_R_pointBy_19 : decode prog_11_method_3_code 19 = .ok (.irem, 1) := by decide +kernel
theorem d_R_pointBy_20 : decode prog_11_method_3_code 20 = .ok (.istore_n 3, 1) := by decide +kernel
theorem d_R_pointBy_21 : decode prog_11_method_3_code 21 = .ok (.iconst 0, 1) := by decide +kernel
theorem d_R_pointBy_22 : decode prog_11_method_3_code 22 = .ok (.istore 4, 2) := by decide +kernel
theorem d_R_pointBy_24 : decode prog_11_method_3_code 24 = .ok (.iload 4, 2) := by decide +kernel
theorem d_R_pointBy_26 : decode prog_11_method_3_code 26 = .ok (.iload_n 1, 1) := by decide +kernel
theorem d_R_pointBy_27 : decode prog_11_method_3_code 27 = .ok (.iconst 4, 1) := by decide +kernel
theorem d_R_pointBy_28 : decode prog_11_method_3_code 28 = .ok (.irem, 1) := by decide +kernel
theorem d_R_pointBy_29 : decode prog_11_method_3_code 29 = .ok (.if_icmp .ge 19, 3) := by decide +kernel
theorem d_R_pointBy_32 : decode prog_11_method_3_code 32 = .ok (.iload_n 2, 1) := by decide +kernel
theorem d_R_pointBy_33 : decode prog_11_method_3_code 33 = .ok (.istore 5, 2) := by decide +kernel
theorem d_R_pointBy_35 : decode prog_11_method_3_code 35 = .ok (.iload_n 3, 1) := by decide +kernel
theorem d_R_pointBy_36 : decode prog_11_method_3_code 36 = .ok (.istore_n 2, 1) := by decide +kernel
theorem d_R_pointBy_37 : decode prog_11_method_3_code 37 = .ok (.iconst 2, 1) := by decide +kernel
theorem d_R_pointBy_38 : decode prog_11_method_3_code 38 = .ok (.iload 5, 2) := by decide +kernel
theorem d_R_pointBy_40 : decode prog_11_method_3_code 40 = .ok (.isub, 1) := by decide +kernel
theorem d_R_pointBy_41 : decode prog_11_method_3_code 41 = .ok (.istore_n 3, 1) := by decide +kernel
theorem d_R_pointBy_42 : decode prog_11_method_3_code 42 = .ok (.iinc 4 1, 3) := by decide +kernel
theorem d_R_pointBy_45 : decode prog_11_method_3_code 45 = .ok (.goto (-21), 3) := by decide +kernel
theorem d_R_pointBy_48 : decode prog_11_method_3_code 48 = .ok (.iconst 3, 1) := by decide +kernel
theorem d_R_pointBy_49 : decode prog_11_method_3_code 49 = .ok (.iload_n 2, 1) := by decide +kernel
theorem d_R_pointBy_50 : decode prog_11_method_3_code 50 = .ok (.imul, 1) := by decide +kernel
theorem d_R_pointBy_51 : decode prog_11_method_3_code 51 = .ok (.iload_n 3, 1) := by decide +kernel
theorem d_R_pointBy_52 : decode prog_11_method_3_code 52 = .ok (.iadd, 1) := by decide +kernel
theorem d_R_pointBy_53 : decode prog_11_method_3_code 53 = .ok (.ireturn, 1) := by decide +kernel
theorem d_R_copy_0 : decode prog_11_method_4_code 0 = .ok (.iconst 0, 1) := by decide +kernel
theorem d_R_copy_1 : decode prog_11_method_4_code 1 = .ok (.istore_n 2, 1) := by decide +kernel
theorem d_R_copy_2 : decode prog_11_method_4_code 2 = .ok (.iload_n 2, 1) := by decide +kernel
theorem d_R_copy_3 : decode prog_11_method_4_code 3 = .ok (.sipush 1217, 3) := by decide +kernel
theorem d_R_copy_6 : decode prog_11_method_4_code 6 = .ok (.if_icmp .ge 15, 3) := by decide +kernel
theorem d_R_copy_9 : decode prog_11_method_4_code 9 = .ok (.aload_n 1, 1) := by decide +kernel
theorem d_R_copy_10 : decode prog_11_method_4_code 10 = .ok (.iload_n 2, 1) := by decide +kernel
theorem d_R_copy_11 : decode prog_11_method_4_code 11 = .ok (.aload_n 0, 1) := by decide +kernel
theorem d_R_copy_12 : decode prog_11_method_4_code 12 = .ok (.iload_n 2, 1) := by decide +kernel
theorem d_R_copy_13 : decode prog_11_method_4_code 13 = .ok (.iaload, 1) := by decide +kernel
theorem d_R_copy_14 : decode prog_11_method_4_code 14 = .ok (.iastore, 1) := by decide +kernel
theorem d_R_copy_15 : decode prog_11_method_4_code 15 = .ok (.iinc 2 1, 3) := by decide +kernel
theorem d_R_copy_18 : decode prog_11_method_4_code 18 = .ok (.goto (-16), 3) := by decide +kernel
theorem d_R_copy_21 : decode prog_11_method_4_code 21 = .ok (.return_, 1) := by decide +kernel
theorem d_R_drawn_0 : decode prog_11_method_14_code 0 = .ok (.iload_n 1, 1) := by decide +kernel
theorem d_R_drawn_1 : decode prog_11_method_14_code 1 = .ok (.iconst 0, 1) := by decide +kernel
theorem d_R_drawn_2 : decode prog_11_method_14_code 2 = .ok (.bipush 8, 2) := by decide +kernel
theorem d_R_drawn_4 : decode prog_11_method_14_code 4 = .ok (.invokestatic 89, 3) := by decide +kernel
theorem d_R_drawn_7 : decode prog_11_method_14_code 7 = .ok (.ifCond .eq 27, 3) := by decide +kernel
theorem d_R_drawn_10 : decode prog_11_method_14_code 10 = .ok (.iload_n 2, 1) := by decide +kernel
theorem d_R_drawn_11 : decode prog_11_method_14_code 11 = .ok (.iconst 0, 1) := by decide +kernel
theorem d_R_drawn_12 : decode prog_11_method_14_code 12 = .ok (.bipush 8, 2) := by decide +kernel
theorem d_R_drawn_14 : decode prog_11_method_14_code 14 = .ok (.invokestatic 89, 3) := by decide +kernel
theorem d_R_drawn_17 : decode prog_11_method_14_code 17 = .ok (.ifCond .eq 17, 3) := by decide +kernel
theorem d_R_drawn_20 : decode prog_11_method_14_code 20 = .ok (.aload_n 0, 1) := by decide +kernel
theorem d_R_drawn_21 : decode prog_11_method_14_code 21 = .ok (.getfield 25, 3) := by decide +kernel
theorem d_R_drawn_24 : decode prog_11_method_14_code 24 = .ok (.bipush 9, 2) := by decide +kernel
theorem d_R_drawn_26 : decode prog_11_method_14_code 26 = .ok (.iload_n 1, 1) := by decide +kernel
theorem d_R_drawn_27 : decode prog_11_method_14_code 27 = .ok (.imul, 1) := by decide +kernel
theorem d_R_drawn_28 : decode prog_11_method_14_code 28 = .ok (.iload_n 2, 1) := by decide +kernel
theorem d_R_drawn_29 : decode prog_11_method_14_code 29 = .ok (.iadd, 1) := by decide +kernel
theorem d_R_drawn_30 : decode prog_11_method_14_code 30 = .ok (.iaload, 1) := by decide +kernel
theorem d_R_drawn_31 : decode prog_11_method_14_code 31 = .ok (.goto 4, 3) := by decide +kernel
theorem d_R_drawn_34 : decode prog_11_method_14_code 34 = .ok (.iconst (-1), 1) := by decide +kernel
theorem d_R_drawn_35 : decode prog_11_method_14_code 35 = .ok (.ireturn, 1) := by decide +kernel
theorem d_R_isIn_0 : decode prog_11_method_5_code 0 = .ok (.iload_n 0, 1) := by decide +kernel
theorem d_R_isIn_1 : decode prog_11_method_5_code 1 = .ok (.iload_n 1, 1) := by decide +kernel
theorem d_R_isIn_2 : decode prog_11_method_5_code 2 = .ok (.if_icmp .lt 12, 3) := by decide +kernel
theorem d_R_isIn_5 : decode prog_11_method_5_code 5 = .ok (.iload_n 0, 1) := by decide +kernel
theorem d_R_isIn_6 : decode prog_11_method_5_code 6 = .ok (.iload_n 2, 1) := by decide +kernel
theorem d_R_isIn_7 : decode prog_11_method_5_code 7 = .ok (.if_icmp .gt 7, 3) := by decide +kernel
theorem d_R_isIn_10 : decode prog_11_method_5_code 10 = .ok (.iconst 1, 1) := by decide +kernel
theorem d_R_isIn_11 : decode prog_11_method_5_code 11 = .ok (.goto 4, 3) := by decide +kernel
theorem d_R_isIn_14 : decode prog_11_method_5_code 14 = .ok (.iconst 0, 1) := by decide +kernel
theorem d_R_isIn_15 : decode prog_11_method_5_code 15 = .ok (.ireturn, 1) := by decide +kernel
theorem d_R_turned_0 : decode prog_11_method_15_code 0 = .ok (.iload_n 1, 1) := by decide +kernel
theorem d_R_turned_1 : decode prog_11_method_15_code 1 = .ok (.invokestatic 98, 3) := by decide +kernel
theorem d_R_turned_4 : decode prog_11_method_15_code 4 = .ok (.ifCond .eq 19, 3) := by decide +kernel
theorem d_R_turned_7 : decode prog_11_method_15_code 7 = .ok (.iload_n 2, 1) := by decide +kernel
theorem d_R_turned_8 : decode prog_11_method_15_code 8 = .ok (.invokestatic 102, 3) := by decide +kernel
theorem d_R_turned_11 : decode prog_11_method_15_code 11 = .ok (.ifCond .eq 12, 3) := by decide +kernel
theorem d_R_turned_14 : decode prog_11_method_15_code 14 = .ok (.aload_n 0, 1) := by decide +kernel
theorem d_R_turned_15 : decode prog_11_method_15_code 15 = .ok (.iload_n 1, 1) := by decide +kernel
theorem d_R_turned_16 : decode prog_11_method_15_code 16 = .ok (.iload_n 2, 1) := by decide +kernel
theorem d_R_turned_17 : decode prog_11_method_15_code 17 = .ok (.invokevirtual 105, 3) := by decide +kernel
theorem d_R_turned_20 : decode prog_11_method_15_code 20 = .ok (.goto 4, 3) := by decide +kernel
theorem d_R_turned_23 : decode prog_11_method_15_code 23 = .ok (.iconst (-1), 1) := by decide +kernel
theorem d_R_turned_24 : decode prog_11_method_15_code 24 = .ok (.ireturn, 1) := by decide +kernel
theorem d_R_areStrokes_0 : decode prog_11_method_11_code 0 = .ok (.iload_n 0, 1) := by decide +kernel
theorem d_R_areStrokes_1 : decode prog_11_method_11_code 1 = .ok (.iconst 0, 1) := by decide +kernel
theorem d_R_areStrokes_2 : decode prog_11_method_11_code 2 = .ok (.ldc 93, 2) := by decide +kernel
theorem d_R_areStrokes_4 : decode prog_11_method_11_code 4 = .ok (.invokestatic 89, 3) := by decide +kernel
theorem d_R_areStrokes_7 : decode prog_11_method_11_code 7 = .ok (.ireturn, 1) := by decide +kernel
theorem d_R_isWay_0 : decode prog_11_method_12_code 0 = .ok (.iload_n 0, 1) := by decide +kernel
theorem d_R_isWay_1 : decode prog_11_method_12_code 1 = .ok (.iconst 0, 1) := by decide +kernel
theorem d_R_isWay_2 : decode prog_11_method_12_code 2 = .ok (.bipush 7, 2) := by decide +kernel
theorem d_R_isWay_4 : decode prog_11_method_12_code 4 = .ok (.invokestatic 89, 3) := by decide +kernel
theorem d_R_isWay_7 : decode prog_11_method_12_code 7 = .ok (.ireturn, 1) := by decide +kernel
theorem d_R_byWay_0 : decode prog_11_method_13_code 0 = .ok (.iconst 0, 1) := by decide +kernel
theorem d_R_byWay_1 : decode prog_11_method_13_code 1 = .ok (.istore_n 3, 1) := by decide +kernel
theorem d_R_byWay_2 : decode prog_11_method_13_code 2 = .ok (.iconst 0, 1) := by decide +kernel
theorem d_R_byWay_3 : decode prog_11_method_13_code 3 = .ok (.istore 4, 2) := by decide +kernel
theorem d_R_byWay_5 : decode prog_11_method_13_code 5 = .ok (.iload 4, 2) := by decide +kernel
theorem d_R_byWay_7 : decode prog_11_method_13_code 7 = .ok (.bipush 20, 2) := by decide +kernel
theorem d_R_byWay_9 : decode prog_11_method_13_code 9 = .ok (.if_icmp .ge 35, 3) := by decide +kernel
theorem d_R_byWay_12 : decode prog_11_method_13_code 12 = .ok (.iload_n 1, 1) := by decide +kernel
theorem d_R_byWay_13 : decode prog_11_method_13_code 13 = .ok (.iload 4, 2) := by decide +kernel
theorem d_R_byWay_15 : decode prog_11_method_13_code 15 = .ok (.invokestatic 94, 3) := by decide +kernel
theorem d_R_byWay_18 : decode prog_11_method_13_code 18 = .ok (.ifCond .eq 20, 3) := by decide +kernel
theorem d_R_byWay_21 : decode prog_11_method_13_code 21 = .ok (.iload_n 3, 1) := by decide +kernel
theorem d_R_byWay_22 : decode prog_11_method_13_code 22 = .ok (.iconst 1, 1) := by decide +kernel
theorem d_R_byWay_23 : decode prog_11_method_13_code 23 = .ok (.aload_n 0, 1) := by decide +kernel
theorem d_R_byWay_24 : decode prog_11_method_13_code 24 = .ok (.getfield 22, 3) := by decide +kernel
theorem d_R_byWay_27 : decode prog_11_method_13_code 27 = .ok (.bipush 20, 2) := by decide +kernel
theorem d_R_byWay_29 : decode prog_11_method_13_code 29 = .ok (.iload_n 2, 1) := by decide +kernel
theorem d_R_byWay_30 : decode prog_11_method_13_code 30 = .ok (.imul, 1) := by decide +kernel
theorem d_R_byWay_31 : decode prog_11_method_13_code 31 = .ok (.iload 4, 2) := by decide +kernel
theorem d_R_byWay_33 : decode prog_11_method_13_code 33 = .ok (.iadd, 1) := by decide +kernel
theorem d_R_byWay_34 : decode prog_11_method_13_code 34 = .ok (.iaload, 1) := by decide +kernel
theorem d_R_byWay_35 : decode prog_11_method_13_code 35 = .ok (.ishl, 1) := by decide +kernel
theorem d_R_byWay_36 : decode prog_11_method_13_code 36 = .ok (.ior, 1) := by decide +kernel
theorem d_R_byWay_37 : decode prog_11_method_13_code 37 = .ok (.istore_n 3, 1) := by decide +kernel
theorem d_R_byWay_38 : decode prog_11_method_13_code 38 = .ok (.iinc 4 1, 3) := by decide +kernel
theorem d_R_byWay_41 : decode prog_11_method_13_code 41 = .ok (.goto (-36), 3) := by decide +kernel
theorem d_R_byWay_44 : decode prog_11_method_13_code 44 = .ok (.iload_n 3, 1) := by decide +kernel
theorem d_R_byWay_45 : decode prog_11_method_13_code 45 = .ok (.ireturn, 1) := by decide +kernel
theorem d_R_has_0 : decode prog_11_method_7_code 0 = .ok (.iload_n 0, 1) := by decide +kernel
theorem d_R_has_1 : decode prog_11_method_7_code 1 = .ok (.iload_n 1, 1) := by decide +kernel
theorem d_R_has_2 : decode prog_11_method_7_code 2 = .ok (.ishr, 1) := by decide +kernel
theorem d_R_has_3 : decode prog_11_method_7_code 3 = .ok (.iconst 1, 1) := by decide +kernel
theorem d_R_has_4 : decode prog_11_method_7_code 4 = .ok (.iand, 1) := by decide +kernel
theorem d_R_has_5 : decode prog_11_method_7_code 5 = .ok (.iconst 1, 1) := by decide +kernel
theorem d_R_has_6 : decode prog_11_method_7_code 6 = .ok (.if_icmp .ne 7, 3) := by decide +kernel
theorem d_R_has_9 : decode prog_11_method_7_code 9 = .ok (.iconst 1, 1) := by decide +kernel
theorem d_R_has_10 : decode prog_11_method_7_code 10 = .ok (.goto 4, 3) := by decide +kernel
theorem d_R_has_13 : decode prog_11_method_7_code 13 = .ok (.iconst 0, 1) := by decide +kernel
theorem d_R_has_14 : decode prog_11_method_7_code 14 = .ok (.ireturn, 1) := by decide +kernel
theorem d_R_joined_0 : decode prog_11_method_16_code 0 = .ok (.iload_n 1, 1) := by decide +kernel
theorem d_R_joined_1 : decode prog_11_method_16_code 1 = .ok (.invokestatic 102, 3) := by decide +kernel
theorem d_R_joined_4 : decode prog_11_method_16_code 4 = .ok (.ifCond .eq 10, 3) := by decide +kernel
theorem d_R_joined_7 : decode prog_11_method_16_code 7 = .ok (.iload_n 2, 1) := by decide +kernel
theorem d_R_joined_8 : decode prog_11_method_16_code 8 = .ok (.invokestatic 102, 3) := by decide +kernel
theorem d_R_joined_11 : decode prog_11_method_16_code 11 = .ok (.ifCond .ne 5, 3) := by decide +kernel
theorem d_R_joined_14 : decode prog_11_method_16_code 14 = .ok (.iconst (-1), 1) := by decide +kernel
theorem d_R_joined_15 : decode prog_11_method_16_code 15 = .ok (.ireturn, 1) := by decide +kernel
theorem d_R_joined_16 : decode prog_11_method_16_code 16 = .ok (.iconst 0, 1) := by decide +kernel
theorem d_R_joined_17 : decode prog_11_method_16_code 17 = .ok (.istore_n 3, 1) := by decide +kernel
theorem d_R_joined_18 : decode prog_11_method_16_code 18 = .ok (.iload_n 3, 1) := by decide +kernel
theorem d_R_joined_19 : decode prog_11_method_16_code 19 = .ok (.iload_n 1, 1) := by decide +kernel
theorem d_R_joined_20 : decode prog_11_method_16_code 20 = .ok (.iload_n 2, 1) := by decide +kernel
theorem d_R_joined_21 : decode prog_11_method_16_code 21 = .ok (.invokestatic 108, 3) := by decide +kernel
theorem d_R_joined_24 : decode prog_11_method_16_code 24 = .ok (.ifCond .ne 9, 3) := by decide +kernel
theorem d_R_joined_27 : decode prog_11_method_16_code 27 = .ok (.iinc 3 1, 3) := by decide +kernel
theorem d_R_joined_30 : decode prog_11_method_16_code 30 = .ok (.goto (-12), 3) := by decide +kernel
theorem d_R_joined_33 : decode prog_11_method_16_code 33 = .ok (.iload_n 3, 1) := by decide +kernel
theorem d_R_joined_34 : decode prog_11_method_16_code 34 = .ok (.ireturn, 1) := by decide +kernel
theorem d_R_areLike_0 : decode prog_11_method_17_code 0 = .ok (.iconst 0, 1) := by decide +kernel
theorem d_R_areLike_1 : decode prog_11_method_17_code 1 = .ok (.istore_n 3, 1) := by decide +kernel
theorem d_R_areLike_2 : decode prog_11_method_17_code 2 = .ok (.iload_n 3, 1) := by decide +kernel
theorem d_R_areLike_3 : decode prog_11_method_17_code 3 = .ok (.bipush 9, 2) := by decide +kernel
theorem d_R_areLike_5 : decode prog_11_method_17_code 5 = .ok (.if_icmp .ge 28, 3) := by decide +kernel
theorem d_R_areLike_8 : decode prog_11_method_17_code 8 = .ok (.iload_n 3, 1) := by decide +kernel
theorem d_R_areLike_9 : decode prog_11_method_17_code 9 = .ok (.iload_n 0, 1) := by decide +kernel
theorem d_R_areLike_10 : decode prog_11_method_17_code 10 = .ok (.invokestatic 81, 3) := by decide +kernel
theorem d_R_areLike_13 : decode prog_11_method_17_code 13 = .ok (.iload_n 3, 1) := by decide +kernel
theorem d_R_areLike_14 : decode prog_11_method_17_code 14 = .ok (.iload_n 1, 1) := by decide +kernel
theorem d_R_areLike_15 : decode prog_11_method_17_code 15 = .ok (.invokestatic 81, 3) := by decide +kernel
theorem d_R_areLike_18 : decode prog_11_method_17_code 18 = .ok (.iload_n 2, 1) := by decide +kernel
theorem d_R_areLike_19 : decode prog_11_method_17_code 19 = .ok (.invokestatic 81, 3) := by decide +kernel
theorem d_R_areLike_22 : decode prog_11_method_17_code 22 = .ok (.if_icmp .eq 5, 3) := by decide +kernel
theorem d_R_areLike_25 : decode prog_11_method_17_code 25 = .ok (.iconst 0, 1) := by decide +kernel
theorem d_R_areLike_26 : decode prog_11_method_17_code 26 = .ok (.ireturn, 1) := by decide +kernel
theorem d_R_areLike_27 : decode prog_11_method_17_code 27 = .ok (.iinc 3 1, 3) := by decide +kernel
theorem d_R_areLike_30 : decode prog_11_method_17_code 30 = .ok (.goto (-28), 3) := by decide +kernel
theorem d_R_areLike_33 : decode prog_11_method_17_code 33 = .ok (.iconst 1, 1) := by decide +kernel
theorem d_R_areLike_34 : decode prog_11_method_17_code 34 = .ok (.ireturn, 1) := by decide +kernel
theorem d_R_own_0 : decode prog_11_method_18_code 0 = .ok (.iload_n 1, 1) := by decide +kernel
theorem d_R_own_1 : decode prog_11_method_18_code 1 = .ok (.invokestatic 98, 3) := by decide +kernel
theorem d_R_own_4 : decode prog_11_method_18_code 4 = .ok (.ifCond .ne 5, 3) := by decide +kernel
theorem d_R_own_7 : decode prog_11_method_18_code 7 = .ok (.iconst (-1), 1) := by decide +kernel
theorem d_R_own_8 : decode prog_11_method_18_code 8 = .ok (.ireturn, 1) := by decide +kernel
theorem d_R_own_9 : decode prog_11_method_18_code 9 = .ok (.iconst 0, 1) := by decide +kernel
theorem d_R_own_10 : decode prog_11_method_18_code 10 = .ok (.istore_n 2, 1) := by decide +kernel
theorem d_R_own_11 : decode prog_11_method_18_code 11 = .ok (.iconst 0, 1) := by decide +kernel
theorem d_R_own_12 : decode prog_11_method_18_code 12 = .ok (.istore_n 3, 1) := by decide +kernel
theorem d_R_own_13 : decode prog_11_method_18_code 13 = .ok (.iload_n 3, 1) := by decide +kernel
theorem d_R_own_14 : decode prog_11_method_18_code 14 = .ok (.bipush 8, 2) := by decide +kernel
theorem d_R_own_16 : decode prog_11_method_18_code 16 = .ok (.if_icmp .ge 29, 3) := by decide +kernel
theorem d_R_own_19 : decode prog_11_method_18_code 19 = .ok (.iload_n 2, 1) := by decide +kernel
theorem d_R_own_20 : decode prog_11_method_18_code 20 = .ok (.aload_n 0, 1) := by decide +kernel
theorem d_R_own_21 : decode prog_11_method_18_code 21 = .ok (.iload_n 1, 1) := by decide +kernel
theorem d_R_own_22 : decode prog_11_method_18_code 22 = .ok (.iload_n 3, 1) := by decide +kernel
theorem d_R_own_23 : decode prog_11_method_18_code 23 = .ok (.invokevirtual 105, 3) := by decide +kernel
theorem d_R_own_26 : decode prog_11_method_18_code 26 = .ok (.iload_n 1, 1) := by decide +kernel
theorem d_R_own_27 : decode prog_11_method_18_code 27 = .ok (.if_icmp .ne 9, 3) := by decide +kernel
theorem d_R_own_30 : decode prog_11_method_18_code 30 = .ok (.iconst 1, 1) := by decide +kernel
theorem d_R_own_31 : decode prog_11_method_18_code 31 = .ok (.iload_n 3, 1) := by decide +kernel
theorem d_R_own_32 : decode prog_11_method_18_code 32 = .ok (.ishl, 1) := by decide +kernel
theorem d_R_own_33 : decode prog_11_method_18_code 33 = .ok (.goto 4, 3) := by decide +kernel
theorem d_R_own_36 : decode prog_11_method_18_code 36 = .ok (.iconst 0, 1) := by decide +kernel
theorem d_R_own_37 : decode prog_11_method_18_code 37 = .ok (.ior, 1) := by decide +kernel
theorem d_R_own_38 : decode prog_11_method_18_code 38 = .ok (.istore_n 2, 1) := by decide +kernel
theorem d_R_own_39 : decode prog_11_method_18_code 39 = .ok (.iinc 3 1, 3) := by decide +kernel
theorem d_R_own_42 : decode prog_11_method_18_code 42 = .ok (.goto (-29), 3) := by decide +kernel
theorem d_R_own_45 : decode prog_11_method_18_code 45 = .ok (.iload_n 2, 1) := by decide +kernel
theorem d_R_own_46 : decode prog_11_method_18_code 46 = .ok (.ireturn, 1) := by decide +kernel
theorem d_R_least_0 : decode prog_11_method_19_code 0 = .ok (.iload_n 1, 1) := by decide +kernel
theorem d_R_least_1 : decode prog_11_method_19_code 1 = .ok (.invokestatic 98, 3) := by decide +kernel
theorem d_R_least_4 : decode prog_11_method_19_code 4 = .ok (.ifCond .ne 5, 3) := by decide +kernel
theorem d_R_least_7 : decode prog_11_method_19_code 7 = .ok (.iconst (-1), 1) := by decide +kernel
theorem d_R_least_8 : decode prog_11_method_19_code 8 = .ok (.ireturn, 1) := by decide +kernel
theorem d_R_least_9 : decode prog_11_method_19_code 9 = .ok (.iload_n 1, 1) := by decide +kernel
theorem d_R_least_10 : decode prog_11_method_19_code 10 = .ok (.istore_n 2, 1) := by decide +kernel
theorem d_R_least_11 : decode prog_11_method_19_code 11 = .ok (.iconst 1, 1) := by decide +kernel
theorem d_R_least_12 : decode prog_11_method_19_code 12 = .ok (.istore_n 3, 1) := by decide +kernel
theorem d_R_least_13 : decode prog_11_method_19_code 13 = .ok (.iload_n 3, 1) := by decide +kernel
theorem d_R_least_14 : decode prog_11_method_19_code 14 = .ok (.bipush 8, 2) := by decide +kernel
theorem d_R_least_16 : decode prog_11_method_19_code 16 = .ok (.if_icmp .ge 26, 3) := by decide +kernel
theorem d_R_least_19 : decode prog_11_method_19_code 19 = .ok (.aload_n 0, 1) := by decide +kernel
theorem d_R_least_20 : decode prog_11_method_19_code 20 = .ok (.iload_n 1, 1) := by decide +kernel
theorem d_R_least_21 : decode prog_11_method_19_code 21 = .ok (.iload_n 3, 1) := by decide +kernel
theorem d_R_least_22 : decode prog_11_method_19_code 22 = .ok (.invokevirtual 105, 3) := by decide +kernel
theorem d_R_least_25 : decode prog_11_method_19_code 25 = .ok (.iload_n 2, 1) := by decide +kernel
theorem d_R_least_26 : decode prog_11_method_19_code 26 = .ok (.if_icmp .ge 10, 3) := by decide +kernel
theorem d_R_least_29 : decode prog_11_method_19_code 29 = .ok (.aload_n 0, 1) := by decide +kernel
theorem d_R_least_30 : decode prog_11_method_19_code 30 = .ok (.iload_n 1, 1) := by decide +kernel
theorem d_R_least_31 : decode prog_11_method_19_code 31 = .ok (.iload_n 3, 1) := by decide +kernel
theorem d_R_least_32 : decode prog_11_method_19_code 32 = .ok (.invokevirtual 105, 3) := by decide +kernel
theorem d_R_least_35 : decode prog_11_method_19_code 35 = .ok (.istore_n 2, 1) := by decide +kernel
theorem d_R_least_36 : decode prog_11_method_19_code 36 = .ok (.iinc 3 1, 3) := by decide +kernel
theorem d_R_least_39 : decode prog_11_method_19_code 39 = .ok (.goto (-26), 3) := by decide +kernel
theorem d_R_least_42 : decode prog_11_method_19_code 42 = .ok (.iload_n 2, 1) := by decide +kernel
theorem d_R_least_43 : decode prog_11_method_19_code 43 = .ok (.ireturn, 1) := by decide +kernel
theorem d_R_pens_0 : decode prog_11_method_28_code 0 = .ok (.iload_n 1, 1) := by decide +kernel
theorem d_R_pens_1 : decode prog_11_method_28_code 1 = .ok (.invokestatic 98, 3) := by decide +kernel
theorem d_R_pens_4 : decode prog_11_method_28_code 4 = .ok (.ifCond .eq 11, 3) := by decide +kernel
theorem d_R_pens_7 : decode prog_11_method_28_code 7 = .ok (.aload_n 0, 1) := by decide +kernel
theorem d_R_pens_8 : decode prog_11_method_28_code 8 = .ok (.iload_n 1, 1) := by decide +kernel
theorem d_R_pens_9 : decode prog_11_method_28_code 9 = .ok (.invokevirtual 130, 3) := by decide +kernel
theorem d_R_pens_12 : decode prog_11_method_28_code 12 = .ok (.goto 4, 3) := by decide +kernel
theorem d_R_pens_15 : decode prog_11_method_28_code 15 = .ok (.iconst (-1), 1) := by decide +kernel
theorem d_R_pens_16 : decode prog_11_method_28_code 16 = .ok (.ireturn, 1) := by decide +kernel
theorem d_R_pensOf_0 : decode prog_11_method_27_code 0 = .ok (.iconst 0, 1) := by decide +kernel
theorem d_R_pensOf_1 : decode prog_11_method_27_code 1 = .ok (.istore_n 2, 1) := by decide +kernel
theorem d_R_pensOf_2 : decode prog_11_method_27_code 2 = .ok (.aload_n 0, 1) := by decide +kernel
theorem d_R_pensOf_3 : decode prog_11_method_27_code 3 = .ok (.iload_n 1, 1) := by decide +kernel
theorem d_R_pensOf_4 : decode prog_11_method_27_code 4 = .ok (.invokevirtual 114, 3) := by decide +kernel
theorem d_R_pensOf_7 : decode prog_11_method_27_code 7 = .ok (.istore_n 3, 1) := by decide +kernel
theorem d_R_pensOf_8 : decode prog_11_method_27_code 8 = .ok (.aload_n 0, 1) := by decide +kernel
theorem d_R_pensOf_9 : decode prog_11_method_27_code 9 = .ok (.iload_n 1, 1) := by decide +kernel
theorem d_R_pensOf_10 : decode prog_11_method_27_code 10 = .ok (.invokevirtual 127, 3) := by decide +kernel
theorem d_R_pensOf_13 : decode prog_11_method_27_code 13 = .ok (.istore 4, 2) := by decide +kernel
theorem d_R_pensOf_15 : decode prog_11_method_27_code 15 = .ok (.iconst 0, 1) := by decide +kernel
theorem d_R_pensOf_16 : decode prog_11_method_27_code 16 = .ok (.istore 5, 2) := by decide +kernel
theorem d_R_pensOf_18 : decode prog_11_method_27_code 18 = .ok (.iload 5, 2) := by decide +kernel
theorem d_R_pensOf_20 : decode prog_11_method_27_code 20 = .ok (.bipush 9, 2) := by decide +kernel
theorem d_R_pensOf_22 : decode prog_11_method_27_code 22 = .ok (.if_icmp .ge 62, 3) := by decide +kernel
theorem d_R_pensOf_25 : decode prog_11_method_27_code 25 = .ok (.iload_n 3, 1) := by decide +kernel
theorem d_R_pensOf_26 : decode prog_11_method_27_code 26 = .ok (.iload 5, 2) := by decide +kernel
theorem d_R_pensOf_28 : decode prog_11_method_27_code 28 = .ok (.invokestatic 94, 3) := by decide +kernel
theorem d_R_pensOf_31 : decode prog_11_method_27_code 31 = .ok (.ifCond .ne 6, 3) := by decide +kernel
theorem d_R_pensOf_34 : decode prog_11_method_27_code 34 = .ok (.goto 44, 3) := by decide +kernel
theorem d_R_pensOf_37 : decode prog_11_method_27_code 37 = .ok (.aload_n 0, 1) := by decide +kernel
theorem d_R_pensOf_38 : decode prog_11_method_27_code 38 = .ok (.iload_n 1, 1) := by decide +kernel
theorem d_R_pensOf_39 : decode prog_11_method_27_code 39 = .ok (.iload 5, 2) := by decide +kernel
theorem d_R_pensOf_41 : decode prog_11_method_27_code 41 = .ok (.invokevirtual 118, 3) := by decide +kernel
theorem d_R_pensOf_44 : decode prog_11_method_27_code 44 = .ok (.istore 6, 2) := by decide +kernel
theorem d_R_pensOf_46 : decode prog_11_method_27_code 46 = .ok (.iload_n 3, 1) := by decide +kernel
theorem d_R_pensOf_47 : decode prog_11_method_27_code 47 = .ok (.iload 6, 2) := by decide +kernel
theorem d_R_pensOf_49 : decode prog_11_method_27_code 49 = .ok (.iconst (-1), 1) := by decide +kernel
theorem d_R_pensOf_50 : decode prog_11_method_27_code 50 = .ok (.ixor, 1) := by decide +kernel
theorem d_R_pensOf_51 : decode prog_11_method_27_code 51 = .ok (.iand, 1) := by decide +kernel
theorem d_R_pensOf_52 : decode prog_11_method_27_code 52 = .ok (.istore_n 3, 1) := by decide +kernel
theorem d_R_pensOf_53 : decode prog_11_method_27_code 53 = .ok (.iload_n 2, 1) := by decide +kernel
theorem d_R_pensOf_54 : decode prog_11_method_27_code 54 = .ok (.iload 4, 2) := by decide +kernel
theorem d_R_pensOf_56 : decode prog_11_method_27_code 56 = .ok (.iload 6, 2) := by decide +kernel
theorem d_R_pensOf_58 : decode prog_11_method_27_code 58 = .ok (.iand, 1) := by decide +kernel
theorem d_R_pensOf_59 : decode prog_11_method_27_code 59 = .ok (.ifCond .ne 7, 3) := by decide +kernel
theorem d_R_pensOf_62 : decode prog_11_method_27_code 62 = .ok (.iconst 1, 1) := by decide +kernel
theorem d_R_pensOf_63 : decode prog_11_method_27_code 63 = .ok (.goto 13, 3) := by decide +kernel
theorem d_R_pensOf_66 : decode prog_11_method_27_code 66 = .ok (.iload 4, 2) := by decide +kernel
theorem d_R_pensOf_68 : decode prog_11_method_27_code 68 = .ok (.iload 6, 2) := by decide +kernel
theorem d_R_pensOf_70 : decode prog_11_method_27_code 70 = .ok (.iand, 1) := by decide +kernel
theorem d_R_pensOf_71 : decode prog_11_method_27_code 71 = .ok (.invokestatic 121, 3) := by decide +kernel
theorem d_R_pensOf_74 : decode prog_11_method_27_code 74 = .ok (.iconst 2, 1) := by decide +kernel
theorem d_R_pensOf_75 : decode prog_11_method_27_code 75 = .ok (.idiv, 1) := by decide +kernel
theorem d_R_pensOf_76 : decode prog_11_method_27_code 76 = .ok (.iadd, 1) := by decide +kernel
theorem d_R_pensOf_77 : decode prog_11_method_27_code 77 = .ok (.istore_n 2, 1) := by decide +kernel
theorem d_R_pensOf_78 : decode prog_11_method_27_code 78 = .ok (.iinc 5 1, 3) := by decide +kernel
theorem d_R_pensOf_81 : decode prog_11_method_27_code 81 = .ok (.goto (-63), 3) := by decide +kernel
theorem d_R_pensOf_84 : decode prog_11_method_27_code 84 = .ok (.iload_n 2, 1) := by decide +kernel
theorem d_R_pensOf_85 : decode prog_11_method_27_code 85 = .ok (.ireturn, 1) := by decide +kernel
theorem d_R_pointsOf_0 : decode prog_11_method_21_code 0 = .ok (.iconst 0, 1) := by decide +kernel
theorem d_R_pointsOf_1 : decode prog_11_method_21_code 1 = .ok (.istore_n 2, 1) := by decide +kernel
theorem d_R_pointsOf_2 : decode prog_11_method_21_code 2 = .ok (.iconst 0, 1) := by decide +kernel
theorem d_R_pointsOf_3 : decode prog_11_method_21_code 3 = .ok (.istore_n 3, 1) := by decide +kernel
theorem d_R_pointsOf_4 : decode prog_11_method_21_code 4 = .ok (.iload_n 3, 1) := by decide +kernel
theorem d_R_pointsOf_5 : decode prog_11_method_21_code 5 = .ok (.bipush 20, 2) := by decide +kernel
theorem d_R_pointsOf_7 : decode prog_11_method_21_code 7 = .ok (.if_icmp .ge 37, 3) := by decide +kernel
theorem d_R_pointsOf_10 : decode prog_11_method_21_code 10 = .ok (.iload_n 1, 1) := by decide +kernel
theorem d_R_pointsOf_11 : decode prog_11_method_21_code 11 = .ok (.iload_n 3, 1) := by decide +kernel
theorem d_R_pointsOf_12 : decode prog_11_method_21_code 12 = .ok (.invokestatic 94, 3) := by decide +kernel
theorem d_R_pointsOf_15 : decode prog_11_method_21_code 15 = .ok (.ifCond .eq 23, 3) := by decide +kernel
theorem d_R_pointsOf_18 : decode prog_11_method_21_code 18 = .ok (.iload_n 2, 1) := by decide +kernel
theorem d_R_pointsOf_19 : decode prog_11_method_21_code 19 = .ok (.iconst 1, 1) := by decide +kernel
theorem d_R_pointsOf_20 : decode prog_11_method_21_code 20 = .ok (.aload_n 0, 1) := by decide +kernel
theorem d_R_pointsOf_21 : decode prog_11_method_21_code 21 = .ok (.getfield 16, 3) := by decide +kernel
theorem d_R_pointsOf_24 : decode prog_11_method_21_code 24 = .ok (.iload_n 3, 1) := by decide +kernel
theorem d_R_pointsOf_25 : decode prog_11_method_21_code 25 = .ok (.iaload, 1) := by decide +kernel
theorem d_R_pointsOf_26 : decode prog_11_method_21_code 26 = .ok (.ishl, 1) := by decide +kernel
theorem d_R_pointsOf_27 : decode prog_11_method_21_code 27 = .ok (.iconst 1, 1) := by decide +kernel
theorem d_R_pointsOf_28 : decode prog_11_method_21_code 28 = .ok (.aload_n 0, 1) := by decide +kernel
theorem d_R_pointsOf_29 : decode prog_11_method_21_code 29 = .ok (.getfield 19, 3) := by decide +kernel
theorem d_R_pointsOf_32 : decode prog_11_method_21_code 32 = .ok (.iload_n 3, 1) := by decide +kernel
theorem d_R_pointsOf_33 : decode prog_11_method_21_code 33 = .ok (.iaload, 1) := by decide +kernel
theorem d_R_pointsOf_34 : decode prog_11_method_21_code 34 = .ok (.ishl, 1) := by decide +kernel
theorem d_R_pointsOf_35 : decode prog_11_method_21_code 35 = .ok (.ior, 1) := by decide +kernel
theorem d_R_pointsOf_36 : decode prog_11_method_21_code 36 = .ok (.ior, 1) := by decide +kernel
theorem d_R_pointsOf_37 : decode prog_11_method_21_code 37 = .ok (.istore_n 2, 1) := by decide +kernel
theorem d_R_pointsOf_38 : decode prog_11_method_21_code 38 = .ok (.iinc 3 1, 3) := by decide +kernel
theorem d_R_pointsOf_41 : decode prog_11_method_21_code 41 = .ok (.goto (-37), 3) := by decide +kernel
theorem d_R_pointsOf_44 : decode prog_11_method_21_code 44 = .ok (.iload_n 2, 1) := by decide +kernel
theorem d_R_pointsOf_45 : decode prog_11_method_21_code 45 = .ok (.ireturn, 1) := by decide +kernel
theorem d_R_oddOf_0 : decode prog_11_method_22_code 0 = .ok (.iconst 0, 1) := by decide +kernel
theorem d_R_oddOf_1 : decode prog_11_method_22_code 1 = .ok (.istore_n 2, 1) := by decide +kernel
theorem d_R_oddOf_2 : decode prog_11_method_22_code 2 = .ok (.iconst 0, 1) := by decide +kernel
theorem d_R_oddOf_3 : decode prog_11_method_22_code 3 = .ok (.istore_n 3, 1) := by decide +kernel
theorem d_R_oddOf_4 : decode prog_11_method_22_code 4 = .ok (.iload_n 3, 1) := by decide +kernel
theorem d_R_oddOf_5 : decode prog_11_method_22_code 5 = .ok (.bipush 9, 2) := by decide +kernel
theorem d_R_oddOf_7 : decode prog_11_method_22_code 7 = .ok (.if_icmp .ge 31, 3) := by decide +kernel
theorem d_R_oddOf_10 : decode prog_11_method_22_code 10 = .ok (.iload_n 2, 1) := by decide +kernel
theorem d_R_oddOf_11 : decode prog_11_method_22_code 11 = .ok (.aload_n 0, 1) := by decide +kernel
theorem d_R_oddOf_12 : decode prog_11_method_22_code 12 = .ok (.iload_n 1, 1) := by decide +kernel
theorem d_R_oddOf_13 : decode prog_11_method_22_code 13 = .ok (.iload_n 3, 1) := by decide +kernel
theorem d_R_oddOf_14 : decode prog_11_method_22_code 14 = .ok (.invokevirtual 111, 3) := by decide +kernel
theorem d_R_oddOf_17 : decode prog_11_method_22_code 17 = .ok (.iconst 2, 1) := by decide +kernel
theorem d_R_oddOf_18 : decode prog_11_method_22_code 18 = .ok (.irem, 1) := by decide +kernel
theorem d_R_oddOf_19 : decode prog_11_method_22_code 19 = .ok (.iconst 1, 1) := by decide +kernel
theorem d_R_oddOf_20 : decode prog_11_method_22_code 20 = .ok (.if_icmp .ne 9, 3) := by decide +kernel
theorem d_R_oddOf_23 : decode prog_11_method_22_code 23 = .ok (.iconst 1, 1) := by decide +kernel
theorem d_R_oddOf_24 : decode prog_11_method_22_code 24 = .ok (.iload_n 3, 1) := by decide +kernel
theorem d_R_oddOf_25 : decode prog_11_method_22_code 25 = .ok (.ishl, 1) := by decide +kernel
theorem d_R_oddOf_26 : decode prog_11_method_22_code 26 = .ok (.goto 4, 3) := by decide +kernel
theorem d_R_oddOf_29 : decode prog_11_method_22_code 29 = .ok (.iconst 0, 1) := by decide +kernel
theorem d_R_oddOf_30 : decode prog_11_method_22_code 30 = .ok (.ior, 1) := by decide +kernel
theorem d_R_oddOf_31 : decode prog_11_method_22_code 31 = .ok (.istore_n 2, 1) := by decide +kernel
theorem d_R_oddOf_32 : decode prog_11_method_22_code 32 = .ok (.iinc 3 1, 3) := by decide +kernel
theorem d_R_oddOf_35 : decode prog_11_method_22_code 35 = .ok (.goto (-31), 3) := by decide +kernel
theorem d_R_oddOf_38 : decode prog_11_method_22_code 38 = .ok (.iload_n 2, 1) := by decide +kernel
theorem d_R_oddOf_39 : decode prog_11_method_22_code 39 = .ok (.ireturn, 1) := by decide +kernel
theorem d_R_strokesAt_0 : decode prog_11_method_20_code 0 = .ok (.iconst 0, 1) := by decide +kernel
theorem d_R_strokesAt_1 : decode prog_11_method_20_code 1 = .ok (.istore_n 3, 1) := by decide +kernel
theorem d_R_strokesAt_2 : decode prog_11_method_20_code 2 = .ok (.iconst 0, 1) := by decide +kernel
theorem d_R_strokesAt_3 : decode prog_11_method_20_code 3 = .ok (.istore 4, 2) := by decide +kernel
theorem d_R_strokesAt_5 : decode prog_11_method_20_code 5 = .ok (.iload 4, 2) := by decide +kernel
theorem d_R_strokesAt_7 : decode prog_11_method_20_code 7 = .ok (.bipush 20, 2) := by decide +kernel
theorem d_R_strokesAt_9 : decode prog_11_method_20_code 9 = .ok (.if_icmp .ge 48, 3) := by decide +kernel
theorem d_R_strokesAt_12 : decode prog_11_method_20_code 12 = .ok (.iload_n 3, 1) := by decide +kernel
theorem d_R_strokesAt_13 : decode prog_11_method_20_code 13 = .ok (.iload_n 1, 1) := by decide +kernel
theorem d_R_strokesAt_14 : decode prog_11_method_20_code 14 = .ok (.iload 4, 2) := by decide +kernel
theorem d_R_strokesAt_16 : decode prog_11_method_20_code 16 = .ok (.invokestatic 94, 3) := by decide +kernel
theorem d_R_strokesAt_19 : decode prog_11_method_20_code 19 = .ok (.ifCond .eq 29, 3) := by decide +kernel
theorem d_R_strokesAt_22 : decode prog_11_method_20_code 22 = .ok (.aload_n 0, 1) := by decide +kernel
theorem d_R_strokesAt_23 : decode prog_11_method_20_code 23 = .ok (.getfield 16, 3) := by decide +kernel
theorem d_R_strokesAt_26 : decode prog_11_method_20_code 26 = .ok (.iload 4, 2) := by decide +kernel
theorem d_R_strokesAt_28 : decode prog_11_method_20_code 28 = .ok (.iaload, 1) := by decide +kernel
theorem d_R_strokesAt_29 : decode prog_11_method_20_code 29 = .ok (.iload_n 2, 1) := by decide +kernel
theorem d_R_strokesAt_30 : decode prog_11_method_20_code 30 = .ok (.if_icmp .eq 14, 3) := by decide +kernel
theorem d_R_strokesAt_33 : decode prog_11_method_20_code 33 = .ok (.aload_n 0, 1) := by decide +kernel
theorem d_R_strokesAt_34 : decode prog_11_method_20_code 34 = .ok (.getfield 19, 3) := by decide +kernel
theorem d_R_strokesAt_37 : decode prog_11_method_20_code 37 = .ok (.iload 4, 2) := by decide +kernel
theorem d_R_strokesAt_39 : decode prog_11_method_20_code 39 = .ok (.iaload, 1) := by decide +kernel
theorem d_R_strokesAt_40 : decode prog_11_method_20_code 40 = .ok (.iload_n 2, 1) := by decide +kernel
theorem d_R_strokesAt_41 : decode prog_11_method_20_code 41 = .ok (.if_icmp .ne 7, 3) := by decide +kernel
theorem d_R_strokesAt_44 : decode prog_11_method_20_code 44 = .ok (.iconst 1, 1) := by decide +kernel
theorem d_R_strokesAt_45 : decode prog_11_method_20_code 45 = .ok (.goto 4, 3) := by decide +kernel
theorem d_R_strokesAt_48 : decode prog_11_method_20_code 48 = .ok (.iconst 0, 1) := by decide +kernel
theorem d_R_strokesAt_49 : decode prog_11_method_20_code 49 = .ok (.iadd, 1) := by decide +kernel
theorem d_R_strokesAt_50 : decode prog_11_method_20_code 50 = .ok (.istore_n 3, 1) := by decide +kernel
theorem d_R_strokesAt_51 : decode prog_11_method_20_code 51 = .ok (.iinc 4 1, 3) := by decide +kernel
theorem d_R_strokesAt_54 : decode prog_11_method_20_code 54 = .ok (.goto (-49), 3) := by decide +kernel
theorem d_R_strokesAt_57 : decode prog_11_method_20_code 57 = .ok (.iload_n 3, 1) := by decide +kernel
theorem d_R_strokesAt_58 : decode prog_11_method_20_code 58 = .ok (.ireturn, 1) := by decide +kernel
theorem d_R_pieceOf_0 : decode prog_11_method_23_code 0 = .ok (.iconst 1, 1) := by decide +kernel
theorem d_R_pieceOf_1 : decode prog_11_method_23_code 1 = .ok (.iload_n 2, 1) := by decide +kernel
theorem d_R_pieceOf_2 : decode prog_11_method_23_code 2 = .ok (.ishl, 1) := by decide +kernel
theorem d_R_pieceOf_3 : decode prog_11_method_23_code 3 = .ok (.istore_n 3, 1) := by decide +kernel
theorem d_R_pieceOf_4 : decode prog_11_method_23_code 4 = .ok (.iconst 0, 1) := by decide +kernel
theorem d_R_pieceOf_5 : decode prog_11_method_23_code 5 = .ok (.istore 4, 2) := by decide +kernel
theorem d_R_pieceOf_7 : decode prog_11_method_23_code 7 = .ok (.iload 4, 2) := by decide +kernel
theorem d_R_pieceOf_9 : decode prog_11_method_23_code 9 = .ok (.iload_n 3, 1) := by decide +kernel
theorem d_R_pieceOf_10 : decode prog_11_method_23_code 10 = .ok (.if_icmp .eq 84, 3) := by decide +kernel
theorem d_R_pieceOf_13 : decode prog_11_method_23_code 13 = .ok (.iload_n 3, 1) := by decide +kernel
theorem d_R_pieceOf_14 : decode prog_11_method_23_code 14 = .ok (.istore 4, 2) := by decide +kernel
theorem d_R_pieceOf_16 : decode prog_11_method_23_code 16 = .ok (.iconst 0, 1) := by decide +kernel
theorem d_R_pieceOf_17 : decode prog_11_method_23_code 17 = .ok (.istore 5, 2) := by decide +kernel
theorem d_R_pieceOf_19 : decode prog_11_method_23_code 19 = .ok (.iload 5, 2) := by decide +kernel
theorem d_R_pieceOf_21 : decode prog_11_method_23_code 21 = .ok (.bipush 20, 2) := by decide +kernel
theorem d_R_pieceOf_23 : decode prog_11_method_23_code 23 = .ok (.if_icmp .ge 68, 3) := by decide +kernel
theorem d_R_pieceOf_26 : decode prog_11_method_23_code 26 = .ok (.iload_n 1, 1) := by decide +kernel
theorem d_R_pieceOf_27 : decode prog_11_method_23_code 27 = .ok (.iload 5, 2) := by decide +kernel
theorem d_R_pieceOf_29 : decode prog_11_method_23_code 29 = .ok (.invokestatic 94, 3) := by decide +kernel
theorem d_R_pieceOf_32 : decode prog_11_method_23_code 32 = .ok (.ifCond .eq 53, 3) := by decide +kernel
theorem d_R_pieceOf_35 : decode prog_11_method_23_code 35 = .ok (.iload_n 3, 1) := by decide +kernel
theorem d_R_pieceOf_36 : decode prog_11_method_23_code 36 = .ok (.aload_n 0, 1) := by decide +kernel
theorem d_R_pieceOf_37 : decode prog_11_method_23_code 37 = .ok (.getfield 16, 3) := by decide +kernel
theorem d_R_pieceOf_40 : decode prog_11_method_23_code 40 = .ok (.iload 5, 2) := by decide +kernel
theorem d_R_pieceOf_42 : decode prog_11_method_23_code 42 = .ok (.iaload, 1) := by decide +kernel
theorem d_R_pieceOf_43 : decode prog_11_method_23_code 43 = .ok (.invokestatic 94, 3) := by decide +kernel
theorem d_R_pieceOf_46 : decode prog_11_method_23_code 46 = .ok (.ifCond .ne 17, 3) := by decide +kernel
theorem d_R_pieceOf_49 : decode prog_11_method_23_code 49 = .ok (.iload_n 3, 1) := by decide +kernel
theorem d_R_pieceOf_50 : decode prog_11_method_23_code 50 = .ok (.aload_n 0, 1) := by decide +kernel
theorem d_R_pieceOf_51 : decode prog_11_method_23_code 51 = .ok (.getfield 19, 3) := by decide +kernel
theorem d_R_pieceOf_54 : decode prog_11_method_23_code 54 = .ok (.iload 5, 2) := by decide +kernel
theorem d_R_pieceOf_56 : decode prog_11_method_23_code 56 = .ok (.iaload, 1) := by decide +kernel
theorem d_R_pieceOf_57 : decode prog_11_method_23_code 57 = .ok (.invokestatic 94, 3) := by decide +kernel
theorem d_R_pieceOf_60 : decode prog_11_method_23_code 60 = .ok (.ifCond .eq 25, 3) := by decide +kernel
theorem d_R_pieceOf_63 : decode prog_11_method_23_code 63 = .ok (.iload_n 3, 1) := by decide +kernel
theorem d_R_pieceOf_64 : decode prog_11_method_23_code 64 = .ok (.iconst 1, 1) := by decide +kernel
theorem d_R_pieceOf_65 : decode prog_11_method_23_code 65 = .ok (.aload_n 0, 1) := by decide +kernel
theorem d_R_pieceOf_66 : decode prog_11_method_23_code 66 = .ok (.getfield 16, 3) := by decide +kernel
theorem d_R_pieceOf_69 : decode prog_11_method_23_code 69 = .ok (.iload 5, 2) := by decide +kernel
theorem d_R_pieceOf_71 : decode prog_11_method_23_code 71 = .ok (.iaload, 1) := by decide +kernel
theorem d_R_pieceOf_72 : decode prog_11_method_23_code 72 = .ok (.ishl, 1) := by decide +kernel
theorem d_R_pieceOf_73 : decode prog_11_method_23_code 73 = .ok (.iconst 1, 1) := by decide +kernel
theorem d_R_pieceOf_74 : decode prog_11_method_23_code 74 = .ok (.aload_n 0, 1) := by decide +kernel
theorem d_R_pieceOf_75 : decode prog_11_method_23_code 75 = .ok (.getfield 19, 3) := by decide +kernel
theorem d_R_pieceOf_78 : decode prog_11_method_23_code 78 = .ok (.iload 5, 2) := by decide +kernel
theorem d_R_pieceOf_80 : decode prog_11_method_23_code 80 = .ok (.iaload, 1) := by decide +kernel
theorem d_R_pieceOf_81 : decode prog_11_method_23_code 81 = .ok (.ishl, 1) := by decide +kernel
theorem d_R_pieceOf_82 : decode prog_11_method_23_code 82 = .ok (.ior, 1) := by decide +kernel
theorem d_R_pieceOf_83 : decode prog_11_method_23_code 83 = .ok (.ior, 1) := by decide +kernel
theorem d_R_pieceOf_84 : decode prog_11_method_23_code 84 = .ok (.istore_n 3, 1) := by decide +kernel
theorem d_R_pieceOf_85 : decode prog_11_method_23_code 85 = .ok (.iinc 5 1, 3) := by decide +kernel
theorem d_R_pieceOf_88 : decode prog_11_method_23_code 88 = .ok (.goto (-69), 3) := by decide +kernel
theorem d_R_pieceOf_91 : decode prog_11_method_23_code 91 = .ok (.goto (-84), 3) := by decide +kernel
theorem d_R_pieceOf_94 : decode prog_11_method_23_code 94 = .ok (.iload_n 3, 1) := by decide +kernel
theorem d_R_pieceOf_95 : decode prog_11_method_23_code 95 = .ok (.ireturn, 1) := by decide +kernel
theorem d_R_bits_0 : decode prog_11_method_8_code 0 = .ok (.iconst 0, 1) := by decide +kernel
theorem d_R_bits_1 : decode prog_11_method_8_code 1 = .ok (.istore_n 1, 1) := by decide +kernel
theorem d_R_bits_2 : decode prog_11_method_8_code 2 = .ok (.iload_n 0, 1) := by decide +kernel
theorem d_R_bits_3 : decode prog_11_method_8_code 3 = .ok (.istore_n 2, 1) := by decide +kernel
theorem d_R_bits_4 : decode prog_11_method_8_code 4 = .ok (.iload_n 2, 1) := by decide +kernel
theorem d_R_bits_5 : decode prog_11_method_8_code 5 = .ok (.ifCond .eq 15, 3) := by decide +kernel
theorem d_R_bits_8 : decode prog_11_method_8_code 8 = .ok (.iinc 1 1, 3) := by decide +kernel
theorem d_R_bits_11 : decode prog_11_method_8_code 11 = .ok (.iload_n 2, 1) := by decide +kernel
theorem d_R_bits_12 : decode prog_11_method_8_code 12 = .ok (.iload_n 2, 1) := by decide +kernel
theorem d_R_bits_13 : decode prog_11_method_8_code 13 = .ok (.iconst 1, 1) := by decide +kernel
theorem d_R_bits_14 : decode prog_11_method_8_code 14 = .ok (.isub, 1) := by decide +kernel
theorem d_R_bits_15 : decode prog_11_method_8_code 15 = .ok (.iand, 1) := by decide +kernel
theorem d_R_bits_16 : decode prog_11_method_8_code 16 = .ok (.istore_n 2, 1) := by decide +kernel
theorem d_R_bits_17 : decode prog_11_method_8_code 17 = .ok (.goto (-13), 3) := by decide +kernel
theorem d_R_bits_20 : decode prog_11_method_8_code 20 = .ok (.iload_n 1, 1) := by decide +kernel
theorem d_R_bits_21 : decode prog_11_method_8_code 21 = .ok (.ireturn, 1) := by decide +kernel
theorem d_R_trail_0 : decode prog_11_method_32_code 0 = .ok (.iload_n 1, 1) := by decide +kernel
theorem d_R_trail_1 : decode prog_11_method_32_code 1 = .ok (.invokestatic 98, 3) := by decide +kernel
theorem d_R_trail_4 : decode prog_11_method_32_code 4 = .ok (.ifCond .ne 6, 3) := by decide +kernel
theorem d_R_trail_7 : decode prog_11_method_32_code 7 = .ok (.bipush (-2), 2) := by decide +kernel
theorem d_R_trail_9 : decode prog_11_method_32_code 9 = .ok (.ireturn, 1) := by decide +kernel
theorem d_R_trail_10 : decode prog_11_method_32_code 10 = .ok (.aload_n 0, 1) := by decide +kernel
theorem d_R_trail_11 : decode prog_11_method_32_code 11 = .ok (.iload_n 1, 1) := by decide +kernel
theorem d_R_trail_12 : decode prog_11_method_32_code 12 = .ok (.invokevirtual 139, 3) := by decide +kernel
theorem d_R_trail_15 : decode prog_11_method_32_code 15 = .ok (.istore_n 3, 1) := by decide +kernel
theorem d_R_trail_16 : decode prog_11_method_32_code 16 = .ok (.iload_n 3, 1) := by decide +kernel
theorem d_R_trail_17 : decode prog_11_method_32_code 17 = .ok (.iconst (-1), 1) := by decide +kernel
theorem d_R_trail_18 : decode prog_11_method_32_code 18 = .ok (.if_icmp .ne 6, 3) := by decide +kernel
theorem d_R_trail_21 : decode prog_11_method_32_code 21 = .ok (.bipush (-2), 2) := by decide +kernel
theorem d_R_trail_23 : decode prog_11_method_32_code 23 = .ok (.ireturn, 1) := by decide +kernel
theorem d_R_trail_24 : decode prog_11_method_32_code 24 = .ok (.iload_n 2, 1) := by decide +kernel
theorem d_R_trail_25 : decode prog_11_method_32_code 25 = .ok (.iconst (-1), 1) := by decide +kernel
theorem d_R_trail_26 : decode prog_11_method_32_code 26 = .ok (.if_icmp .ne 7, 3) := by decide +kernel
theorem d_R_trail_29 : decode prog_11_method_32_code 29 = .ok (.iload_n 3, 1) := by decide +kernel
theorem d_R_trail_30 : decode prog_11_method_32_code 30 = .ok (.goto 25, 3) := by decide +kernel
theorem d_R_trail_33 : decode prog_11_method_32_code 33 = .ok (.iload_n 2, 1) := by decide +kernel
theorem d_R_trail_34 : decode prog_11_method_32_code 34 = .ok (.iconst 0, 1) := by decide +kernel
theorem d_R_trail_35 : decode prog_11_method_32_code 35 = .ok (.iload_n 3, 1) := by decide +kernel
theorem d_R_trail_36 : decode prog_11_method_32_code 36 = .ok (.iconst 1, 1) := by decide +kernel
theorem d_R_trail_37 : decode prog_11_method_32_code 37 = .ok (.isub, 1) := by decide +kernel
theorem d_R_trail_38 : decode prog_11_method_32_code 38 = .ok (.invokestatic 89, 3) := by decide +kernel
theorem d_R_trail_41 : decode prog_11_method_32_code 41 = .ok (.ifCond .eq 12, 3) := by decide +kernel
theorem d_R_trail_44 : decode prog_11_method_32_code 44 = .ok (.aload_n 0, 1) := by decide +kernel
theorem d_R_trail_45 : decode prog_11_method_32_code 45 = .ok (.getfield 31, 3) := by decide +kernel
theorem d_R_trail_48 : decode prog_11_method_32_code 48 = .ok (.iload_n 2, 1) := by decide +kernel
theorem d_R_trail_49 : decode prog_11_method_32_code 49 = .ok (.iaload, 1) := by decide +kernel
theorem d_R_trail_50 : decode prog_11_method_32_code 50 = .ok (.goto 5, 3) := by decide +kernel
theorem d_R_trail_53 : decode prog_11_method_32_code 53 = .ok (.bipush (-2), 2) := by decide +kernel
theorem d_R_trail_55 : decode prog_11_method_32_code 55 = .ok (.ireturn, 1) := by decide +kernel
theorem d_R_layLine_0 : decode prog_11_method_30_code 0 = .ok (.iload_n 1, 1) := by decide +kernel
theorem d_R_layLine_1 : decode prog_11_method_30_code 1 = .ok (.ifCond .eq 12, 3) := by decide +kernel
theorem d_R_layLine_4 : decode prog_11_method_30_code 4 = .ok (.aload_n 0, 1) := by decide +kernel
theorem d_R_layLine_5 : decode prog_11_method_30_code 5 = .ok (.iload_n 1, 1) := by decide +kernel
theorem d_R_layLine_6 : decode prog_11_method_30_code 6 = .ok (.invokevirtual 130, 3) := by decide +kernel
theorem d_R_layLine_9 : decode prog_11_method_30_code 9 = .ok (.iconst 1, 1) := by decide +kernel
theorem d_R_layLine_10 : decode prog_11_method_30_code 10 = .ok (.if_icmp .eq 5, 3) := by decide +kernel
theorem d_R_layLine_13 : decode prog_11_method_30_code 13 = .ok (.iconst (-1), 1) := by decide +kernel
theorem d_R_layLine_14 : decode prog_11_method_30_code 14 = .ok (.ireturn, 1) := by decide +kernel
theorem d_R_layLine_15 : decode prog_11_method_30_code 15 = .ok (.iconst 0, 1) := by decide +kernel
theorem d_R_layLine_16 : decode prog_11_method_30_code 16 = .ok (.istore_n 2, 1) := by decide +kernel
theorem d_R_layLine_17 : decode prog_11_method_30_code 17 = .ok (.aload_n 0, 1) := by decide +kernel
theorem d_R_layLine_18 : decode prog_11_method_30_code 18 = .ok (.iload_n 1, 1) := by decide +kernel
theorem d_R_layLine_19 : decode prog_11_method_30_code 19 = .ok (.iload_n 2, 1) := by decide +kernel
theorem d_R_layLine_20 : decode prog_11_method_30_code 20 = .ok (.invokevirtual 133, 3) := by decide +kernel
theorem d_R_layLine_23 : decode prog_11_method_30_code 23 = .ok (.ifCond .ne 9, 3) := by decide +kernel
theorem d_R_layLine_26 : decode prog_11_method_30_code 26 = .ok (.iinc 2 1, 3) := by decide +kernel
theorem d_R_layLine_29 : decode prog_11_method_30_code 29 = .ok (.goto (-12), 3) := by decide +kernel
theorem d_R_layLine_32 : decode prog_11_method_30_code 32 = .ok (.aload_n 0, 1) := by decide +kernel
theorem d_R_layLine_33 : decode prog_11_method_30_code 33 = .ok (.getfield 31, 3) := by decide +kernel
theorem d_R_layLine_36 : decode prog_11_method_30_code 36 = .ok (.iconst 0, 1) := by decide +kernel
theorem d_R_layLine_37 : decode prog_11_method_30_code 37 = .ok (.iload_n 2, 1) := by decide +kernel
theorem d_R_layLine_38 : decode prog_11_method_30_code 38 = .ok (.iastore, 1) := by decide +kernel
theorem d_R_layLine_39 : decode prog_11_method_30_code 39 = .ok (.iconst 1, 1) := by decide +kernel
theorem d_R_layLine_40 : decode prog_11_method_30_code 40 = .ok (.istore_n 3, 1) := by decide +kernel
theorem d_R_layLine_41 : decode prog_11_method_30_code 41 = .ok (.iload_n 1, 1) := by decide +kernel
theorem d_R_layLine_42 : decode prog_11_method_30_code 42 = .ok (.istore 4, 2) := by decide +kernel
theorem d_R_layLine_44 : decode prog_11_method_30_code 44 = .ok (.iload 4, 2) := by decide +kernel
theorem d_R_layLine_46 : decode prog_11_method_30_code 46 = .ok (.ifCond .eq 61, 3) := by decide +kernel
theorem d_R_layLine_49 : decode prog_11_method_30_code 49 = .ok (.iconst 0, 1) := by decide +kernel
theorem d_R_layLine_50 : decode prog_11_method_30_code 50 = .ok (.istore 5, 2) := by decide +kernel
theorem d_R_layLine_52 : decode prog_11_method_30_code 52 = .ok (.aload_n 0, 1) := by decide +kernel
theorem d_R_layLine_53 : decode prog_11_method_30_code 53 = .ok (.iload 4, 2) := by decide +kernel
theorem d_R_layLine_55 : decode prog_11_method_30_code 55 = .ok (.iload_n 2, 1) := by decide +kernel
theorem d_R_layLine_56 : decode prog_11_method_30_code 56 = .ok (.iload 5, 2) := by decide +kernel
theorem d_R_layLine_58 : decode prog_11_method_30_code 58 = .ok (.invokevirtual 136, 3) := by decide +kernel
theorem d_R_layLine_61 : decode prog_11_method_30_code 61 = .ok (.ifCond .ne 9, 3) := by decide +kernel
theorem d_R_layLine_64 : decode prog_11_method_30_code 64 = .ok (.iinc 5 1, 3) := by decide +kernel
theorem d_R_layLine_67 : decode prog_11_method_30_code 67 = .ok (.goto (-15), 3) := by decide +kernel
theorem d_R_layLine_70 : decode prog_11_method_30_code 70 = .ok (.iload 4, 2) := by decide +kernel
theorem d_R_layLine_72 : decode prog_11_method_30_code 72 = .ok (.iconst 1, 1) := by decide +kernel
theorem d_R_layLine_73 : decode prog_11_method_30_code 73 = .ok (.aload_n 0, 1) := by decide +kernel
theorem d_R_layLine_74 : decode prog_11_method_30_code 74 = .ok (.getfield 25, 3) := by decide +kernel
theorem d_R_layLine_77 : decode prog_11_method_30_code 77 = .ok (.bipush 9, 2) := by decide +kernel
theorem d_R_layLine_79 : decode prog_11_method_30_code 79 = .ok (.iload_n 2, 1) := by decide +kernel
theorem d_R_layLine_80 : decode prog_11_method_30_code 80 = .ok (.imul, 1) := by decide +kernel
theorem d_R_layLine_81 : decode prog_11_method_30_code 81 = .ok (.iload 5, 2) := by decide +kernel
theorem d_R_layLine_83 : decode prog_11_method_30_code 83 = .ok (.iadd, 1) := by decide +kernel
theorem d_R_layLine_84 : decode prog_11_method_30_code 84 = .ok (.iaload, 1) := by decide +kernel
theorem d_R_layLine_85 : decode prog_11_method_30_code 85 = .ok (.ishl, 1) := by decide +kernel
theorem d_R_layLine_86 : decode prog_11_method_30_code 86 = .ok (.iconst (-1), 1) := by decide +kernel
theorem d_R_layLine_87 : decode prog_11_method_30_code 87 = .ok (.ixor, 1) := by decide +kernel
theorem d_R_layLine_88 : decode prog_11_method_30_code 88 = .ok (.iand, 1) := by decide +kernel
theorem d_R_layLine_89 : decode prog_11_method_30_code 89 = .ok (.istore 4, 2) := by decide +kernel
theorem d_R_layLine_91 : decode prog_11_method_30_code 91 = .ok (.iload 5, 2) := by decide +kernel
theorem d_R_layLine_93 : decode prog_11_method_30_code 93 = .ok (.istore_n 2, 1) := by decide +kernel
theorem d_R_layLine_94 : decode prog_11_method_30_code 94 = .ok (.aload_n 0, 1) := by decide +kernel
theorem d_R_layLine_95 : decode prog_11_method_30_code 95 = .ok (.getfield 31, 3) := by decide +kernel
theorem d_R_layLine_98 : decode prog_11_method_30_code 98 = .ok (.iload_n 3, 1) := by decide +kernel
theorem d_R_layLine_99 : decode prog_11_method_30_code 99 = .ok (.iload_n 2, 1) := by decide +kernel
theorem d_R_layLine_100 : decode prog_11_method_30_code 100 = .ok (.iastore, 1) := by decide +kernel
theorem d_R_layLine_101 : decode prog_11_method_30_code 101 = .ok (.iinc 3 1, 3) := by decide +kernel
theorem d_R_layLine_104 : decode prog_11_method_30_code 104 = .ok (.goto (-60), 3) := by decide +kernel
theorem d_R_layLine_107 : decode prog_11_method_30_code 107 = .ok (.iload_n 3, 1) := by decide +kernel
theorem d_R_layLine_108 : decode prog_11_method_30_code 108 = .ok (.ireturn, 1) := by decide +kernel
theorem d_R_isLineFrom_0 : decode prog_11_method_29_code 0 = .ok (.iload_n 1, 1) := by decide +kernel
theorem d_R_isLineFrom_1 : decode prog_11_method_29_code 1 = .ok (.ifCond .ne 5, 3) := by decide +kernel
theorem d_R_isLineFrom_4 : decode prog_11_method_29_code 4 = .ok (.iconst 1, 1) := by decide +kernel
theorem d_R_isLineFrom_5 : decode prog_11_method_29_code 5 = .ok (.ireturn, 1) := by decide +kernel
theorem d_R_isLineFrom_6 : decode prog_11_method_29_code 6 = .ok (.aload_n 0, 1) := by decide +kernel
theorem d_R_isLineFrom_7 : decode prog_11_method_29_code 7 = .ok (.iload_n 1, 1) := by decide +kernel
theorem d_R_isLineFrom_8 : decode prog_11_method_29_code 8 = .ok (.invokevirtual 127, 3) := by decide +kernel
theorem d_R_isLineFrom_11 : decode prog_11_method_29_code 11 = .ok (.istore_n 3, 1) := by decide +kernel
theorem d_R_isLineFrom_12 : decode prog_11_method_29_code 12 = .ok (.aload_n 0, 1) := by decide +kernel
theorem d_R_isLineFrom_13 : decode prog_11_method_29_code 13 = .ok (.iload_n 1, 1) := by decide +kernel
theorem d_R_isLineFrom_14 : decode prog_11_method_29_code 14 = .ok (.invokevirtual 114, 3) := by decide +kernel
theorem d_R_isLineFrom_17 : decode prog_11_method_29_code 17 = .ok (.iload_n 2, 1) := by decide +kernel
theorem d_R_isLineFrom_18 : decode prog_11_method_29_code 18 = .ok (.invokestatic 94, 3) := by decide +kernel
theorem d_R_isLineFrom_21 : decode prog_11_method_29_code 21 = .ok (.ifCond .eq 28, 3) := by decide +kernel
theorem d_R_isLineFrom_24 : decode prog_11_method_29_code 24 = .ok (.aload_n 0, 1) := by decide +kernel
theorem d_R_isLineFrom_25 : decode prog_11_method_29_code 25 = .ok (.iload_n 1, 1) := by decide +kernel
theorem d_R_isLineFrom_26 : decode prog_11_method_29_code 26 = .ok (.invokevirtual 130, 3) := by decide +kernel
theorem d_R_isLineFrom_29 : decode prog_11_method_29_code 29 = .ok (.iconst 1, 1) := by decide +kernel
theorem d_R_isLineFrom_30 : decode prog_11_method_29_code 30 = .ok (.if_icmp .ne 19, 3) := by decide +kernel
theorem d_R_isLineFrom_33 : decode prog_11_method_29_code 33 = .ok (.iload_n 3, 1) := by decide +kernel
theorem d_R_isLineFrom_34 : decode prog_11_method_29_code 34 = .ok (.ifCond .eq 11, 3) := by decide +kernel
theorem d_R_isLineFrom_37 : decode prog_11_method_29_code 37 = .ok (.iload_n 3, 1) := by decide +kernel
theorem d_R_isLineFrom_38 : decode prog_11_method_29_code 38 = .ok (.iload_n 2, 1) := by decide +kernel
theorem d_R_isLineFrom_39 : decode prog_11_method_29_code 39 = .ok (.invokestatic 94, 3) := by decide +kernel
theorem d_R_isLineFrom_42 : decode prog_11_method_29_code 42 = .ok (.ifCond .eq 7, 3) := by decide +kernel
theorem d_R_isLineFrom_45 : decode prog_11_method_29_code 45 = .ok (.iconst 1, 1) := by decide +kernel
theorem d_R_isLineFrom_46 : decode prog_11_method_29_code 46 = .ok (.goto 4, 3) := by decide +kernel
theorem d_R_isLineFrom_49 : decode prog_11_method_29_code 49 = .ok (.iconst 0, 1) := by decide +kernel
theorem d_R_isLineFrom_50 : decode prog_11_method_29_code 50 = .ok (.ireturn, 1) := by decide +kernel
theorem d_R_isNext_0 : decode prog_11_method_31_code 0 = .ok (.aload_n 0, 1) := by decide +kernel
theorem d_R_isNext_1 : decode prog_11_method_31_code 1 = .ok (.getfield 25, 3) := by decide +kernel
theorem d_R_isNext_4 : decode prog_11_method_31_code 4 = .ok (.bipush 9, 2) := by decide +kernel
theorem d_R_isNext_6 : decode prog_11_method_31_code 6 = .ok (.iload_n 2, 1) := by decide +kernel
theorem d_R_isNext_7 : decode prog_11_method_31_code 7 = .ok (.imul, 1) := by decide +kernel
theorem d_R_isNext_8 : decode prog_11_method_31_code 8 = .ok (.iload_n 3, 1) := by decide +kernel
theorem d_R_isNext_9 : decode prog_11_method_31_code 9 = .ok (.iadd, 1) := by decide +kernel
theorem d_R_isNext_10 : decode prog_11_method_31_code 10 = .ok (.iaload, 1) := by decide +kernel
theorem d_R_isNext_11 : decode prog_11_method_31_code 11 = .ok (.istore 4, 2) := by decide +kernel
theorem d_R_isNext_13 : decode prog_11_method_31_code 13 = .ok (.iload 4, 2) := by decide +kernel
theorem d_R_isNext_15 : decode prog_11_method_31_code 15 = .ok (.iconst (-1), 1) := by decide +kernel
theorem d_R_isNext_16 : decode prog_11_method_31_code 16 = .ok (.if_icmp .eq 32, 3) := by decide +kernel
theorem d_R_isNext_19 : decode prog_11_method_31_code 19 = .ok (.iload_n 1, 1) := by decide +kernel
theorem d_R_isNext_20 : decode prog_11_method_31_code 20 = .ok (.iload 4, 2) := by decide +kernel
theorem d_R_isNext_22 : decode prog_11_method_31_code 22 = .ok (.invokestatic 94, 3) := by decide +kernel
theorem d_R_isNext_25 : decode prog_11_method_31_code 25 = .ok (.ifCond .eq 23, 3) := by decide +kernel
theorem d_R_isNext_28 : decode prog_11_method_31_code 28 = .ok (.aload_n 0, 1) := by decide +kernel
theorem d_R_isNext_29 : decode prog_11_method_31_code 29 = .ok (.iload_n 1, 1) := by decide +kernel
theorem d_R_isNext_30 : decode prog_11_method_31_code 30 = .ok (.iconst 1, 1) := by decide +kernel
theorem d_R_isNext_31 : decode prog_11_method_31_code 31 = .ok (.iload 4, 2) := by decide +kernel
theorem d_R_isNext_33 : decode prog_11_method_31_code 33 = .ok (.ishl, 1) := by decide +kernel
theorem d_R_isNext_34 : decode prog_11_method_31_code 34 = .ok (.iconst (-1), 1) := by decide +kernel
theorem d_R_isNext_35 : decode prog_11_method_31_code 35 = .ok (.ixor, 1) := by decide +kernel
theorem d_R_isNext_36 : decode prog_11_method_31_code 36 = .ok (.iand, 1) := by decide +kernel
theorem d_R_isNext_37 : decode prog_11_method_31_code 37 = .ok (.iload_n 3, 1) := by decide +kernel
theorem d_R_isNext_38 : decode prog_11_method_31_code 38 = .ok (.invokevirtual 133, 3) := by decide +kernel
theorem d_R_isNext_41 : decode prog_11_method_31_code 41 = .ok (.ifCond .eq 7, 3) := by decide +kernel
theorem d_R_isNext_44 : decode prog_11_method_31_code 44 = .ok (.iconst 1, 1) := by decide +kernel
theorem d_R_isNext_45 : decode prog_11_method_31_code 45 = .ok (.goto 4, 3) := by decide +kernel
theorem d_R_isNext_48 : decode prog_11_method_31_code 48 = .ok (.iconst 0, 1) := by decide +kernel
theorem d_R_isNext_49 : decode prog_11_method_31_code 49 = .ok (.ireturn, 1) := by decide +kernel
theorem d_R_rim_0 : decode prog_11_method_33_code 0 = .ok (.iload_n 1, 1) := by decide +kernel
theorem d_R_rim_1 : decode prog_11_method_33_code 1 = .ok (.invokestatic 98, 3) := by decide +kernel
theorem d_R_rim_4 : decode prog_11_method_33_code 4 = .ok (.ifCond .ne 5, 3) := by decide +kernel
theorem d_R_rim_7 : decode prog_11_method_33_code 7 = .ok (.iconst (-1), 1) := by decide +kernel
theorem d_R_rim_8 : decode prog_11_method_33_code 8 = .ok (.ireturn, 1) := by decide +kernel
theorem d_R_rim_9 : decode prog_11_method_33_code 9 = .ok (.iconst 0, 1) := by decide +kernel
theorem d_R_rim_10 : decode prog_11_method_33_code 10 = .ok (.istore_n 2, 1) := by decide +kernel
theorem d_R_rim_11 : decode prog_11_method_33_code 11 = .ok (.iconst 0, 1) := by decide +kernel
theorem d_R_rim_12 : decode prog_11_method_33_code 12 = .ok (.istore_n 3, 1) := by decide +kernel
theorem d_R_rim_13 : decode prog_11_method_33_code 13 = .ok (.iload_n 3, 1) := by decide +kernel
theorem d_R_rim_14 : decode prog_11_method_33_code 14 = .ok (.bipush 9, 2) := by decide +kernel
theorem d_R_rim_16 : decode prog_11_method_33_code 16 = .ok (.if_icmp .ge 29, 3) := by decide +kernel
theorem d_R_rim_19 : decode prog_11_method_33_code 19 = .ok (.iload_n 2, 1) := by decide +kernel
theorem d_R_rim_20 : decode prog_11_method_33_code 20 = .ok (.aload_n 0, 1) := by decide +kernel
theorem d_R_rim_21 : decode prog_11_method_33_code 21 = .ok (.iload_n 1, 1) := by decide +kernel
theorem d_R_rim_22 : decode prog_11_method_33_code 22 = .ok (.iload_n 3, 1) := by decide +kernel
theorem d_R_rim_23 : decode prog_11_method_33_code 23 = .ok (.invokevirtual 111, 3) := by decide +kernel
theorem d_R_rim_26 : decode prog_11_method_33_code 26 = .ok (.iconst 1, 1) := by decide +kernel
theorem d_R_rim_27 : decode prog_11_method_33_code 27 = .ok (.if_icmp .ne 9, 3) := by decide +kernel
theorem d_R_rim_30 : decode prog_11_method_33_code 30 = .ok (.iconst 1, 1) := by decide +kernel
theorem d_R_rim_31 : decode prog_11_method_33_code 31 = .ok (.iload_n 3, 1) := by decide +kernel
theorem d_R_rim_32 : decode prog_11_method_33_code 32 = .ok (.ishl, 1) := by decide +kernel
theorem d_R_rim_33 : decode prog_11_method_33_code 33 = .ok (.goto 4, 3) := by decide +kernel
theorem d_R_rim_36 : decode prog_11_method_33_code 36 = .ok (.iconst 0, 1) := by decide +kernel
theorem d_R_rim_37 : decode prog_11_method_33_code 37 = .ok (.ior, 1) := by decide +kernel
theorem d_R_rim_38 : decode prog_11_method_33_code 38 = .ok (.istore_n 2, 1) := by decide +kernel
theorem d_R_rim_39 : decode prog_11_method_33_code 39 = .ok (.iinc 3 1, 3) := by decide +kernel
theorem d_R_rim_42 : decode prog_11_method_33_code 42 = .ok (.goto (-29), 3) := by decide +kernel
theorem d_R_rim_45 : decode prog_11_method_33_code 45 = .ok (.iload_n 2, 1) := by decide +kernel
theorem d_R_rim_46 : decode prog_11_method_33_code 46 = .ok (.ireturn, 1) := by decide +kernel
theorem d_R_mark_0 : decode prog_11_method_34_code 0 = .ok (.iload_n 1, 1) := by decide +kernel
theorem d_R_mark_1 : decode prog_11_method_34_code 1 = .ok (.invokestatic 98, 3) := by decide +kernel
theorem d_R_mark_4 : decode prog_11_method_34_code 4 = .ok (.ifCond .eq 14, 3) := by decide +kernel
theorem d_R_mark_7 : decode prog_11_method_34_code 7 = .ok (.aload_n 0, 1) := by decide +kernel
theorem d_R_mark_8 : decode prog_11_method_34_code 8 = .ok (.getfield 7, 3) := by decide +kernel
theorem d_R_mark_11 : decode prog_11_method_34_code 11 = .ok (.iconst 0, 1) := by decide +kernel
theorem d_R_mark_12 : decode prog_11_method_34_code 12 = .ok (.iaload, 1) := by decide +kernel
theorem d_R_mark_13 : decode prog_11_method_34_code 13 = .ok (.bipush 8, 2) := by decide +kernel
theorem d_R_mark_15 : decode prog_11_method_34_code 15 = .ok (.if_icmp .ne 5, 3) := by decide +kernel
theorem d_R_mark_18 : decode prog_11_method_34_code 18 = .ok (.iconst (-1), 1) := by decide +kernel
theorem d_R_mark_19 : decode prog_11_method_34_code 19 = .ok (.ireturn, 1) := by decide +kernel
theorem d_R_mark_20 : decode prog_11_method_34_code 20 = .ok (.aload_n 0, 1) := by decide +kernel
theorem d_R_mark_21 : decode prog_11_method_34_code 21 = .ok (.getfield 7, 3) := by decide +kernel
theorem d_R_mark_24 : decode prog_11_method_34_code 24 = .ok (.bipush 10, 2) := by decide +kernel
theorem d_R_mark_26 : decode prog_11_method_34_code 26 = .ok (.aload_n 0, 1) := by decide +kernel
theorem d_R_mark_27 : decode prog_11_method_34_code 27 = .ok (.getfield 7, 3) := by decide +kernel
theorem d_R_mark_30 : decode prog_11_method_34_code 30 = .ok (.iconst 0, 1) := by decide +kernel
theorem d_R_mark_31 : decode prog_11_method_34_code 31 = .ok (.iaload, 1) := by decide +kernel
theorem d_R_mark_32 : decode prog_11_method_34_code 32 = .ok (.iadd, 1) := by decide +kernel
theorem d_R_mark_33 : decode prog_11_method_34_code 33 = .ok (.iload_n 1, 1) := by decide +kernel
theorem d_R_mark_34 : decode prog_11_method_34_code 34 = .ok (.iastore, 1) := by decide +kernel
theorem d_R_mark_35 : decode prog_11_method_34_code 35 = .ok (.aload_n 0, 1) := by decide +kernel
theorem d_R_mark_36 : decode prog_11_method_34_code 36 = .ok (.getfield 7, 3) := by decide +kernel
theorem d_R_mark_39 : decode prog_11_method_34_code 39 = .ok (.bipush 18, 2) := by decide +kernel
theorem d_R_mark_41 : decode prog_11_method_34_code 41 = .ok (.aload_n 0, 1) := by decide +kernel
theorem d_R_mark_42 : decode prog_11_method_34_code 42 = .ok (.getfield 7, 3) := by decide +kernel
theorem d_R_mark_45 : decode prog_11_method_34_code 45 = .ok (.iconst 0, 1) := by decide +kernel
theorem d_R_mark_46 : decode prog_11_method_34_code 46 = .ok (.iaload, 1) := by decide +kernel
theorem d_R_mark_47 : decode prog_11_method_34_code 47 = .ok (.iadd, 1) := by decide +kernel
theorem d_R_mark_48 : decode prog_11_method_34_code 48 = .ok (.iload_n 1, 1) := by decide +kernel
theorem d_R_mark_49 : decode prog_11_method_34_code 49 = .ok (.iastore, 1) := by decide +kernel
theorem d_R_mark_50 : decode prog_11_method_34_code 50 = .ok (.aload_n 0, 1) := by decide +kernel
theorem d_R_mark_51 : decode prog_11_method_34_code 51 = .ok (.getfield 7, 3) := by decide +kernel
theorem d_R_mark_54 : decode prog_11_method_34_code 54 = .ok (.iconst 0, 1) := by decide +kernel
theorem d_R_mark_55 : decode prog_11_method_34_code 55 = .ok (.dup2, 1) := by decide +kernel
theorem d_R_mark_56 : decode prog_11_method_34_code 56 = .ok (.iaload, 1) := by decide +kernel
theorem d_R_mark_57 : decode prog_11_method_34_code 57 = .ok (.iconst 1, 1) := by decide +kernel
theorem d_R_mark_58 : decode prog_11_method_34_code 58 = .ok (.iadd, 1) := by decide +kernel
theorem d_R_mark_59 : decode prog_11_method_34_code 59 = .ok (.iastore, 1) := by decide +kernel
theorem d_R_mark_60 : decode prog_11_method_34_code 60 = .ok (.aload_n 0, 1) := by decide +kernel
theorem d_R_mark_61 : decode prog_11_method_34_code 61 = .ok (.getfield 7, 3) := by decide +kernel
theorem d_R_mark_64 : decode prog_11_method_34_code 64 = .ok (.iconst 0, 1) := by decide +kernel
theorem d_R_mark_65 : decode prog_11_method_34_code 65 = .ok (.iaload, 1) := by decide +kernel
theorem d_R_mark_66 : decode prog_11_method_34_code 66 = .ok (.iconst 1, 1) := by decide +kernel
theorem d_R_mark_67 : decode prog_11_method_34_code 67 = .ok (.isub, 1) := by decide +kernel
theorem d_R_mark_68 : decode prog_11_method_34_code 68 = .ok (.ireturn, 1) := by decide +kernel
theorem d_R_feed_0 : decode prog_11_method_36_code 0 = .ok (.aload_n 0, 1) := by decide +kernel
theorem d_R_feed_1 : decode prog_11_method_36_code 1 = .ok (.getfield 142, 3) := by decide +kernel
theorem d_R_feed_4 : decode prog_11_method_36_code 4 = .ok (.bipush 20, 2) := by decide +kernel
theorem d_R_feed_6 : decode prog_11_method_36_code 6 = .ok (.iadd, 1) := by decide +kernel
theorem d_R_feed_7 : decode prog_11_method_36_code 7 = .ok (.sipush 300, 3) := by decide +kernel
theorem d_R_feed_10 : decode prog_11_method_36_code 10 = .ok (.if_icmp .le 5, 3) := by decide +kernel
theorem d_R_feed_13 : decode prog_11_method_36_code 13 = .ok (.iconst (-1), 1) := by decide +kernel
theorem d_R_feed_14 : decode prog_11_method_36_code 14 = .ok (.ireturn, 1) := by decide +kernel
theorem d_R_feed_15 : decode prog_11_method_36_code 15 = .ok (.aload_n 0, 1) := by decide +kernel
theorem d_R_feed_16 : decode prog_11_method_36_code 16 = .ok (.iload_n 1, 1) := by decide +kernel
theorem d_R_feed_17 : decode prog_11_method_36_code 17 = .ok (.invokevirtual 145, 3) := by decide +kernel
theorem d_R_feed_20 : decode prog_11_method_36_code 20 = .ok (.aload_n 0, 1) := by decide +kernel
theorem d_R_feed_21 : decode prog_11_method_36_code 21 = .ok (.iload_n 2, 1) := by decide +kernel
theorem d_R_feed_22 : decode prog_11_method_36_code 22 = .ok (.invokevirtual 145, 3) := by decide +kernel
theorem d_R_feed_25 : decode prog_11_method_36_code 25 = .ok (.aload_n 0, 1) := by decide +kernel
theorem d_R_feed_26 : decode prog_11_method_36_code 26 = .ok (.iload_n 3, 1) := by decide +kernel
theorem d_R_feed_27 : decode prog_11_method_36_code 27 = .ok (.invokevirtual 145, 3) := by decide +kernel
theorem d_R_feed_30 : decode prog_11_method_36_code 30 = .ok (.aload_n 0, 1) := by decide +kernel
theorem d_R_feed_31 : decode prog_11_method_36_code 31 = .ok (.iload 4, 2) := by decide +kernel
theorem d_R_feed_33 : decode prog_11_method_36_code 33 = .ok (.invokevirtual 145, 3) := by decide +kernel
theorem d_R_feed_36 : decode prog_11_method_36_code 36 = .ok (.aload_n 0, 1) := by decide +kernel
theorem d_R_feed_37 : decode prog_11_method_36_code 37 = .ok (.iload 5, 2) := by decide +kernel
theorem d_R_feed_39 : decode prog_11_method_36_code 39 = .ok (.invokevirtual 145, 3) := by decide +kernel
theorem d_R_feed_42 : decode prog_11_method_36_code 42 = .ok (.aload_n 0, 1) := by decide +kernel
theorem d_R_feed_43 : decode prog_11_method_36_code 43 = .ok (.getfield 142, 3) := by decide +kernel
theorem d_R_feed_46 : decode prog_11_method_36_code 46 = .ok (.ireturn, 1) := by decide +kernel
theorem d_R_four_0 : decode prog_11_method_35_code 0 = .ok (.bipush 24, 2) := by decide +kernel
theorem d_R_four_2 : decode prog_11_method_35_code 2 = .ok (.istore_n 2, 1) := by decide +kernel
theorem d_R_four_3 : decode prog_11_method_35_code 3 = .ok (.iload_n 2, 1) := by decide +kernel
theorem d_R_four_4 : decode prog_11_method_35_code 4 = .ok (.ifCond .lt 35, 3) := by decide +kernel
theorem d_R_four_7 : decode prog_11_method_35_code 7 = .ok (.aload_n 0, 1) := by decide +kernel
theorem d_R_four_8 : decode prog_11_method_35_code 8 = .ok (.getfield 34, 3) := by decide +kernel
theorem d_R_four_11 : decode prog_11_method_35_code 11 = .ok (.aload_n 0, 1) := by decide +kernel
theorem d_R_four_12 : decode prog_11_method_35_code 12 = .ok (.getfield 142, 3) := by decide +kernel
theorem d_R_four_15 : decode prog_11_method_35_code 15 = .ok (.iload_n 1, 1) := by decide +kernel
theorem d_R_four_16 : decode prog_11_method_35_code 16 = .ok (.iload_n 2, 1) := by decide +kernel
theorem d_R_four_17 : decode prog_11_method_35_code 17 = .ok (.ishr, 1) := by decide +kernel
theorem d_R_four_18 : decode prog_11_method_35_code 18 = .ok (.sipush 255, 3) := by decide +kernel
theorem d_R_four_21 : decode prog_11_method_35_code 21 = .ok (.iand, 1) := by decide +kernel
theorem d_R_four_22 : decode prog_11_method_35_code 22 = .ok (.iastore, 1) := by decide +kernel
theorem d_R_four_23 : decode prog_11_method_35_code 23 = .ok (.aload_n 0, 1) := by decide +kernel
theorem d_R_four_24 : decode prog_11_method_35_code 24 = .ok (.dup, 1) := by decide +kernel
theorem d_R_four_25 : decode prog_11_method_35_code 25 = .ok (.getfield 142, 3) := by decide +kernel
theorem d_R_four_28 : decode prog_11_method_35_code 28 = .ok (.iconst 1, 1) := by decide +kernel
theorem d_R_four_29 : decode prog_11_method_35_code 29 = .ok (.iadd, 1) := by decide +kernel
theorem d_R_four_30 : decode prog_11_method_35_code 30 = .ok (.putfield 142, 3) := by decide +kernel
theorem d_R_four_33 : decode prog_11_method_35_code 33 = .ok (.iinc 2 (-8), 3) := by decide +kernel
theorem d_R_four_36 : decode prog_11_method_35_code 36 = .ok (.goto (-33), 3) := by decide +kernel
theorem d_R_four_39 : decode prog_11_method_35_code 39 = .ok (.return_, 1) := by decide +kernel
theorem d_R_end_0 : decode prog_11_method_37_code 0 = .ok (.iload_n 1, 1) := by decide +kernel
theorem d_R_end_1 : decode prog_11_method_37_code 1 = .ok (.iconst 0, 1) := by decide +kernel
theorem d_R_end_2 : decode prog_11_method_37_code 2 = .ok (.aload_n 0, 1) := by decide +kernel
theorem d_R_end_3 : decode prog_11_method_37_code 3 = .ok (.getfield 142, 3) := by decide +kernel
theorem d_R_end_6 : decode prog_11_method_37_code 6 = .ok (.invokestatic 89, 3) := by decide +kernel
theorem d_R_end_9 : decode prog_11_method_37_code 9 = .ok (.ifCond .ne 5, 3) := by decide +kernel
theorem d_R_end_12 : decode prog_11_method_37_code 12 = .ok (.iconst (-1), 1) := by decide +kernel
theorem d_R_end_13 : decode prog_11_method_37_code 13 = .ok (.ireturn, 1) := by decide +kernel
theorem d_R_end_14 : decode prog_11_method_37_code 14 = .ok (.aload_n 0, 1) := by decide +kernel
theorem d_R_end_15 : decode prog_11_method_37_code 15 = .ok (.iload_n 1, 1) := by decide +kernel
theorem d_R_end_16 : decode prog_11_method_37_code 16 = .ok (.putfield 142, 3) := by decide +kernel
theorem d_R_end_19 : decode prog_11_method_37_code 19 = .ok (.iload_n 1, 1) := by decide +kernel
theorem d_R_end_20 : decode prog_11_method_37_code 20 = .ok (.ireturn, 1) := by decide +kernel
theorem d_R_text_0 : decode prog_11_method_80_code 0 = .ok (.aload_n 0, 1) := by decide +kernel
theorem d_R_text_1 : decode prog_11_method_80_code 1 = .ok (.getfield 7, 3) := by decide +kernel
theorem d_R_text_4 : decode prog_11_method_80_code 4 = .ok (.iconst 1, 1) := by decide +kernel
theorem d_R_text_5 : decode prog_11_method_80_code 5 = .ok (.iaload, 1) := by decide +kernel
theorem d_R_text_6 : decode prog_11_method_80_code 6 = .ok (.iconst 4, 1) := by decide +kernel
theorem d_R_text_7 : decode prog_11_method_80_code 7 = .ok (.if_icmp .ne 5, 3) := by decide +kernel
theorem d_R_text_10 : decode prog_11_method_80_code 10 = .ok (.iconst (-1), 1) := by decide +kernel
theorem d_R_text_11 : decode prog_11_method_80_code 11 = .ok (.ireturn, 1) := by decide +kernel
theorem d_R_text_12 : decode prog_11_method_80_code 12 = .ok (.aload_n 0, 1) := by decide +kernel
theorem d_R_text_13 : decode prog_11_method_80_code 13 = .ok (.aload_n 0, 1) := by decide +kernel
theorem d_R_text_14 : decode prog_11_method_80_code 14 = .ok (.invokevirtual 327, 3) := by decide +kernel
theorem d_R_text_17 : decode prog_11_method_80_code 17 = .ok (.putfield 37, 3) := by decide +kernel
theorem d_R_text_20 : decode prog_11_method_80_code 20 = .ok (.aload_n 0, 1) := by decide +kernel
theorem d_R_text_21 : decode prog_11_method_80_code 21 = .ok (.aload_n 0, 1) := by decide +kernel
theorem d_R_text_22 : decode prog_11_method_80_code 22 = .ok (.getfield 37, 3) := by decide +kernel
theorem d_R_text_25 : decode prog_11_method_80_code 25 = .ok (.ifCond .ne 7, 3) := by decide +kernel
theorem d_R_text_28 : decode prog_11_method_80_code 28 = .ok (.iconst (-1), 1) := by decide +kernel
theorem d_R_text_29 : decode prog_11_method_80_code 29 = .ok (.goto 7, 3) := by decide +kernel
theorem d_R_text_32 : decode prog_11_method_80_code 32 = .ok (.aload_n 0, 1) := by decide +kernel
theorem d_R_text_33 : decode prog_11_method_80_code 33 = .ok (.getfield 155, 3) := by decide +kernel
theorem d_R_text_36 : decode prog_11_method_80_code 36 = .ok (.putfield 41, 3) := by decide +kernel
theorem d_R_text_39 : decode prog_11_method_80_code 39 = .ok (.aload_n 0, 1) := by decide +kernel
theorem d_R_text_40 : decode prog_11_method_80_code 40 = .ok (.iconst 0, 1) := by decide +kernel
theorem d_R_text_41 : decode prog_11_method_80_code 41 = .ok (.putfield 142, 3) := by decide +kernel
theorem d_R_text_44 : decode prog_11_method_80_code 44 = .ok (.aload_n 0, 1) := by decide +kernel
theorem d_R_text_45 : decode prog_11_method_80_code 45 = .ok (.getfield 37, 3) := by decide +kernel
theorem d_R_text_48 : decode prog_11_method_80_code 48 = .ok (.ifCond .eq 5, 3) := by decide +kernel
theorem d_R_text_51 : decode prog_11_method_80_code 51 = .ok (.iconst (-1), 1) := by decide +kernel
theorem d_R_text_52 : decode prog_11_method_80_code 52 = .ok (.ireturn, 1) := by decide +kernel
theorem d_R_text_53 : decode prog_11_method_80_code 53 = .ok (.aload_n 0, 1) := by decide +kernel
theorem d_R_text_54 : decode prog_11_method_80_code 54 = .ok (.getfield 7, 3) := by decide +kernel
theorem d_R_text_57 : decode prog_11_method_80_code 57 = .ok (.iconst 1, 1) := by decide +kernel
theorem d_R_text_58 : decode prog_11_method_80_code 58 = .ok (.dup2, 1) := by decide +kernel
theorem d_R_text_59 : decode prog_11_method_80_code 59 = .ok (.iaload, 1) := by decide +kernel
theorem d_R_text_60 : decode prog_11_method_80_code 60 = .ok (.iconst 1, 1) := by decide +kernel
theorem d_R_text_61 : decode prog_11_method_80_code 61 = .ok (.iadd, 1) := by decide +kernel
theorem d_R_text_62 : decode prog_11_method_80_code 62 = .ok (.iastore, 1) := by decide +kernel
theorem d_R_text_63 : decode prog_11_method_80_code 63 = .ok (.aload_n 0, 1) := by decide +kernel
theorem d_R_text_64 : decode prog_11_method_80_code 64 = .ok (.getfield 7, 3) := by decide +kernel
theorem d_R_text_67 : decode prog_11_method_80_code 67 = .ok (.iconst 1, 1) := by decide +kernel
theorem d_R_text_68 : decode prog_11_method_80_code 68 = .ok (.iaload, 1) := by decide +kernel
theorem d_R_text_69 : decode prog_11_method_80_code 69 = .ok (.iconst 1, 1) := by decide +kernel
theorem d_R_text_70 : decode prog_11_method_80_code 70 = .ok (.isub, 1) := by decide +kernel
theorem d_R_text_71 : decode prog_11_method_80_code 71 = .ok (.ireturn, 1) := by decide +kernel
theorem d_R_readText_0 : decode prog_11_method_79_code 0 = .ok (.aload_n 0, 1) := by decide +kernel
theorem d_R_readText_1 : decode prog_11_method_79_code 1 = .ok (.sipush 681, 3) := by decide +kernel
theorem d_R_readText_4 : decode prog_11_method_79_code 4 = .ok (.aload_n 0, 1) := by decide +kernel
theorem d_R_readText_5 : decode prog_11_method_79_code 5 = .ok (.getfield 7, 3) := by decide +kernel
theorem d_R_readText_8 : decode prog_11_method_79_code 8 = .ok (.iconst 1, 1) := by decide +kernel
theorem d_R_readText_9 : decode prog_11_method_79_code 9 = .ok (.iaload, 1) := by decide +kernel
theorem d_R_readText_10 : decode prog_11_method_79_code 10 = .ok (.imul, 1) := by decide +kernel
theorem d_R_readText_11 : decode prog_11_method_79_code 11 = .ok (.putfield 196, 3) := by decide +kernel
theorem d_R_readText_14 : decode prog_11_method_79_code 14 = .ok (.aload_n 0, 1) := by decide +kernel
theorem d_R_readText_15 : decode prog_11_method_79_code 15 = .ok (.getfield 28, 3) := by decide +kernel
theorem d_R_readText_18 : decode prog_11_method_79_code 18 = .ok (.aload_n 0, 1) := by decide +kernel
theorem d_R_readText_19 : decode prog_11_method_79_code 19 = .ok (.getfield 196, 3) := by decide +kernel
theorem d_R_readText_22 : decode prog_11_method_79_code 22 = .ok (.iconst 0, 1) := by decide +kernel
theorem d_R_readText_23 : decode prog_11_method_79_code 23 = .ok (.iastore, 1) := by decide +kernel
theorem d_R_readText_24 : decode prog_11_method_79_code 24 = .ok (.aload_n 0, 1) := by decide +kernel
theorem d_R_readText_25 : decode prog_11_method_79_code 25 = .ok (.iconst 0, 1) := by decide +kernel
theorem d_R_readText_26 : decode prog_11_method_79_code 26 = .ok (.putfield 199, 3) := by decide +kernel
theorem d_R_readText_29 : decode prog_11_method_79_code 29 = .ok (.aload_n 0, 1) := by decide +kernel
theorem d_R_readText_30 : decode prog_11_method_79_code 30 = .ok (.iconst 0, 1) := by decide +kernel
theorem d_R_readText_31 : decode prog_11_method_79_code 31 = .ok (.putfield 318, 3) := by decide +kernel
theorem d_R_readText_34 : decode prog_11_method_79_code 34 = .ok (.aload_n 0, 1) := by decide +kernel
theorem d_R_readText_35 : decode prog_11_method_79_code 35 = .ok (.iconst 0, 1) := by decide +kernel
theorem d_R_readText_36 : decode prog_11_method_79_code 36 = .ok (.putfield 149, 3) := by decide +kernel
theorem d_R_readText_39 : decode prog_11_method_79_code 39 = .ok (.aload_n 0, 1) := by decide +kernel
theorem d_R_readText_40 : decode prog_11_method_79_code 40 = .ok (.invokevirtual 233, 3) := by decide +kernel
theorem d_R_readText_43 : decode prog_11_method_79_code 43 = .ok (.aload_n 0, 1) := by decide +kernel
theorem d_R_readText_44 : decode prog_11_method_79_code 44 = .ok (.getfield 158, 3) := by decide +kernel
theorem d_R_readText_47 : decode prog_11_method_79_code 47 = .ok (.ifCond .eq 17, 3) := by decide +kernel
theorem d_R_readText_50 : decode prog_11_method_79_code 50 = .ok (.aload_n 0, 1) := by decide +kernel
theorem d_R_readText_51 : decode prog_11_method_79_code 51 = .ok (.invokevirtual 324, 3) := by decide +kernel
theorem d_R_readText_54 : decode prog_11_method_79_code 54 = .ok (.istore_n 1, 1) := by decide +kernel
theorem d_R_readText_55 : decode prog_11_method_79_code 55 = .ok (.iload_n 1, 1) := by decide +kernel
theorem d_R_readText_56 : decode prog_11_method_79_code 56 = .ok (.ifCond .eq 5, 3) := by decide +kernel
theorem d_R_readText_59 : decode prog_11_method_79_code 59 = .ok (.iload_n 1, 1) := by decide +kernel
theorem d_R_readText_60 : decode prog_11_method_79_code 60 = .ok (.ireturn, 1) := by decide +kernel
theorem d_R_readText_61 : decode prog_11_method_79_code 61 = .ok (.goto (-18), 3) := by decide +kernel
theorem d_R_readText_64 : decode prog_11_method_79_code 64 = .ok (.iconst 0, 1) := by decide +kernel
theorem d_R_readText_65 : decode prog_11_method_79_code 65 = .ok (.ireturn, 1) := by decide +kernel
theorem d_R_nextToken_0 : decode prog_11_method_42_code 0 = .ok (.aload_n 0, 1) := by decide +kernel
theorem d_R_nextToken_1 : decode prog_11_method_42_code 1 = .ok (.aload_n 0, 1) := by decide +kernel
theorem d_R_nextToken_2 : decode prog_11_method_42_code 2 = .ok (.getfield 149, 3) := by decide +kernel
theorem d_R_nextToken_5 : decode prog_11_method_42_code 5 = .ok (.invokevirtual 152, 3) := by decide +kernel
theorem d_R_nextToken_8 : decode prog_11_method_42_code 8 = .ok (.bipush 32, 2) := by decide +kernel
theorem d_R_nextToken_10 : decode prog_11_method_42_code 10 = .ok (.if_icmp .eq 16, 3) := by decide +kernel
theorem d_R_nextToken_13 : decode prog_11_method_42_code 13 = .ok (.aload_n 0, 1) := by decide +kernel
theorem d_R_nextToken_14 : decode prog_11_method_42_code 14 = .ok (.aload_n 0, 1) := by decide +kernel
theorem d_R_nextToken_15 : decode prog_11_method_42_code 15 = .ok (.getfield 149, 3) := by decide +kernel
theorem d_R_nextToken_18 : decode prog_11_method_42_code 18 = .ok (.invokevirtual 152, 3) := by decide +kernel
theorem d_R_nextToken_21 : decode prog_11_method_42_code 21 = .ok (.bipush 10, 2) := by decide +kernel
theorem d_R_nextToken_23 : decode prog_11_method_42_code 23 = .ok (.if_icmp .ne 16, 3) := by decide +kernel
theorem d_R_nextToken_26 : decode prog_11_method_42_code 26 = .ok (.aload_n 0, 1) := by decide +kernel
theorem d_R_nextToken_27 : decode prog_11_method_42_code 27 = .ok (.dup, 1) := by decide +kernel
theorem d_R_nextToken_28 : decode prog_11_method_42_code 28 = .ok (.getfield 149, 3) := by decide +kernel
theorem d_R_nextToken_31 : decode prog_11_method_42_code 31 = .ok (.iconst 1, 1) := by decide +kernel
theorem d_R_nextToken_32 : decode prog_11_method_42_code 32 = .ok (.iadd, 1) := by decide +kernel
theorem d_R_nextToken_33 : decode prog_11_method_42_code 33 = .ok (.putfield 149, 3) := by decide +kernel
theorem d_R_nextToken_36 : decode prog_11_method_42_code 36 = .ok (.goto (-36), 3) := by decide +kernel
theorem d_R_nextToken_39 : decode prog_11_method_42_code 39 = .ok (.aload_n 0, 1) := by decide +kernel
theorem d_R_nextToken_40 : decode prog_11_method_42_code 40 = .ok (.aload_n 0, 1) := by decide +kernel
theorem d_R_nextToken_41 : decode prog_11_method_42_code 41 = .ok (.getfield 149, 3) := by decide +kernel
theorem d_R_nextToken_44 : decode prog_11_method_42_code 44 = .ok (.putfield 155, 3) := by decide +kernel
theorem d_R_nextToken_47 : decode prog_11_method_42_code 47 = .ok (.aload_n 0, 1) := by decide +kernel
theorem d_R_nextToken_48 : decode prog_11_method_42_code 48 = .ok (.aload_n 0, 1) := by decide +kernel
theorem d_R_nextToken_49 : decode prog_11_method_42_code 49 = .ok (.getfield 149, 3) := by decide +kernel
theorem d_R_nextToken_52 : decode prog_11_method_42_code 52 = .ok (.invokevirtual 152, 3) := by decide +kernel
theorem d_R_nextToken_55 : decode prog_11_method_42_code 55 = .ok (.istore_n 1, 1) := by decide +kernel
theorem d_R_nextToken_56 : decode prog_11_method_42_code 56 = .ok (.iload_n 1, 1) := by decide +kernel
theorem d_R_nextToken_57 : decode prog_11_method_42_code 57 = .ok (.ifCond .ge 11, 3) := by decide +kernel
theorem d_R_nextToken_60 : decode prog_11_method_42_code 60 = .ok (.aload_n 0, 1) := by decide +kernel
theorem d_R_nextToken_61 : decode prog_11_method_42_code 61 = .ok (.iconst 0, 1) := by decide +kernel
theorem d_R_nextToken_62 : decode prog_11_method_42_code 62 = .ok (.putfield 158, 3) := by decide +kernel
theorem d_R_nextToken_65 : decode prog_11_method_42_code 65 = .ok (.goto 245, 3) := by decide +kernel
theorem d_R_nextToken_68 : decode prog_11_method_42_code 68 = .ok (.iload_n 1, 1) := by decide +kernel
theorem d_R_nextToken_69 : decode prog_11_method_42_code 69 = .ok (.invokestatic 161, 3) := by decide +kernel
theorem d_R_nextToken_72 : decode prog_11_method_42_code 72 = .ok (.ifCond .eq 79, 3) := by decide +kernel
theorem d_R_nextToken_75 : decode prog_11_method_42_code 75 = .ok (.aload_n 0, 1) := by decide +kernel
theorem d_R_nextToken_76 : decode prog_11_method_42_code 76 = .ok (.iconst 1, 1) := by decide +kernel
theorem d_R_nextToken_77 : decode prog_11_method_42_code 77 = .ok (.putfield 158, 3) := by decide +kernel
theorem d_R_nextToken_80 : decode prog_11_method_42_code 80 = .ok (.aload_n 0, 1) := by decide +kernel
theorem d_R_nextToken_81 : decode prog_11_method_42_code 81 = .ok (.iconst 0, 1) := by decide +kernel
theorem d_R_nextToken_82 : decode prog_11_method_42_code 82 = .ok (.putfield 164, 3) := by decide +kernel
theorem d_R_nextToken_85 : decode prog_11_method_42_code 85 = .ok (.aload_n 0, 1) := by decide +kernel
theorem d_R_nextToken_86 : decode prog_11_method_42_code 86 = .ok (.aload_n 0, 1) := by decide +kernel
theorem d_R_nextToken_87 : decode prog_11_method_42_code 87 = .ok (.getfield 149, 3) := by decide +kernel
theorem d_R_nextToken_90 : decode prog_11_method_42_code 90 = .ok (.invokevirtual 152, 3) := by decide +kernel
theorem d_R_nextToken_93 : decode prog_11_method_42_code 93 = .ok (.invokestatic 161, 3) := by decide +kernel
theorem d_R_nextToken_96 : decode prog_11_method_42_code 96 = .ok (.ifCond .eq 214, 3) := by decide +kernel
theorem d_R_nextToken_99 : decode prog_11_method_42_code 99 = .ok (.aload_n 0, 1) := by decide +kernel
theorem d_R_nextToken_100 : decode prog_11_method_42_code 100 = .ok (.aload_n 0, 1) := by decide +kernel
theorem d_R_nextToken_101 : decode prog_11_method_42_code 101 = .ok (.getfield 164, 3) := by decide +kernel
theorem d_R_nextToken_104 : decode prog_11_method_42_code 104 = .ok (.ldc 167, 2) := by decide +kernel
theorem d_R_nextToken_106 : decode prog_11_method_42_code 106 = .ok (.if_icmp .le 10, 3) := by decide +kernel
theorem d_R_nextToken_109 : decode prog_11_method_42_code 109 = .ok (.aload_n 0, 1) := by decide +kernel
theorem d_R_nextToken_110 : decode prog_11_method_42_code 110 = .ok (.getfield 164, 3) := by decide +kernel
theorem d_R_nextToken_113 : decode prog_11_method_42_code 113 = .ok (.goto 22, 3) := by decide +kernel
theorem d_R_nextToken_116 : decode prog_11_method_42_code 116 = .ok (.bipush 10, 2) := by decide +kernel
theorem d_R_nextToken_118 : decode prog_11_method_42_code 118 = .ok (.aload_n 0, 1) := by decide +kernel
theorem d_R_nextToken_119 : decode prog_11_method_42_code 119 = .ok (.getfield 164, 3) := by decide +kernel
theorem d_R_nextToken_122 : decode prog_11_method_42_code 122 = .ok (.imul, 1) := by decide +kernel
theorem d_R_nextToken_123 : decode prog_11_method_42_code 123 = .ok (.aload_n 0, 1) := by decide +kernel
theorem d_R_nextToken_124 : decode prog_11_method_42_code 124 = .ok (.aload_n 0, 1) := by decide +kernel
theorem d_R_nextToken_125 : decode prog_11_method_42_code 125 = .ok (.getfield 149, 3) := by decide +kernel
theorem d_R_nextToken_128 : decode prog_11_method_42_code 128 = .ok (.invokevirtual 152, 3) := by decide +kernel
theorem d_R_nextToken_131 : decode prog_11_method_42_code 131 = .ok (.iadd, 1) := by decide +kernel
theorem d_R_nextToken_132 : decode prog_11_method_42_code 132 = .ok (.bipush 48, 2) := by decide +kernel
theorem d_R_nextToken_134 : decode prog_11_method_42_code 134 = .ok (.isub, 1) := by decide +kernel
theorem d_R_nextToken_135 : decode prog_11_method_42_code 135 = .ok (.putfield 164, 3) := by decide +kernel
theorem d_R_nextToken_138 : decode prog_11_method_42_code 138 = .ok (.aload_n 0, 1) := by decide +kernel
theorem d_R_nextToken_139 : decode prog_11_method_42_code 139 = .ok (.dup, 1) := by decide +kernel
theorem d_R_nextToken_140 : decode prog_11_method_42_code 140 = .ok (.getfield 149, 3) := by decide +kernel
theorem d_R_nextToken_143 : decode prog_11_method_42_code 143 = .ok (.iconst 1, 1) := by decide +kernel
theorem d_R_nextToken_144 : decode prog_11_method_42_code 144 = .ok (.iadd, 1) := by decide +kernel
theorem d_R_nextToken_145 : decode prog_11_method_42_code 145 = .ok (.putfield 149, 3) := by decide +kernel
theorem d_R_nextToken_148 : decode prog_11_method_42_code 148 = .ok (.goto (-63), 3) := by decide +kernel
theorem d_R_nextToken_151 : decode prog_11_method_42_code 151 = .ok (.iload_n 1, 1) := by decide +kernel
theorem d_R_nextToken_152 : decode prog_11_method_42_code 152 = .ok (.invokestatic 168, 3) := by decide +kernel
theorem d_R_nextToken_155 : decode prog_11_method_42_code 155 = .ok (.ifCond .eq 79, 3) := by decide +kernel
theorem d_R_nextToken_158 : decode prog_11_method_42_code 158 = .ok (.aload_n 0, 1) := by decide +kernel
theorem d_R_nextToken_159 : decode prog_11_method_42_code 159 = .ok (.iconst 2, 1) := by decide +kernel
theorem d_R_nextToken_160 : decode prog_11_method_42_code 160 = .ok (.putfield 158, 3) := by decide +kernel
theorem d_R_nextToken_163 : decode prog_11_method_42_code 163 = .ok (.aload_n 0, 1) := by decide +kernel
theorem d_R_nextToken_164 : decode prog_11_method_42_code 164 = .ok (.lconst 0, 1) := by decide +kernel
theorem d_R_nextToken_165 : decode prog_11_method_42_code 165 = .ok (.putfield 171, 3) := by decide +kernel
theorem d_R_nextToken_168 : decode prog_11_method_42_code 168 = .ok (.aload_n 0, 1) := by decide +kernel
theorem d_R_nextToken_169 : decode prog_11_method_42_code 169 = .ok (.aload_n 0, 1) := by decide +kernel
theorem d_R_nextToken_170 : decode prog_11_method_42_code 170 = .ok (.getfield 149, 3) := by decide +kernel
theorem d_R_nextToken_173 : decode prog_11_method_42_code 173 = .ok (.invokevirtual 152, 3) := by decide +kernel
theorem d_R_nextToken_176 : decode prog_11_method_42_code 176 = .ok (.invokestatic 168, 3) := by decide +kernel
theorem d_R_nextToken_179 : decode prog_11_method_42_code 179 = .ok (.ifCond .eq 131, 3) := by decide +kernel
theorem d_R_nextToken_182 : decode prog_11_method_42_code 182 = .ok (.aload_n 0, 1) := by decide +kernel
theorem d_R_nextToken_183 : decode prog_11_method_42_code 183 = .ok (.aload_n 0, 1) := by decide +kernel
theorem d_R_nextToken_184 : decode prog_11_method_42_code 184 = .ok (.getfield 171, 3) := by decide +kernel
theorem d_R_nextToken_187 : decode prog_11_method_42_code 187 = .ok (.bipush 48, 2) := by decide +kernel
theorem d_R_nextToken_189 : decode prog_11_method_42_code 189 = .ok (.lshr, 1) := by decide +kernel
theorem d_R_nextToken_190 : decode prog_11_method_42_code 190 = .ok (.lconst 0, 1) := by decide +kernel
theorem d_R_nextToken_191 : decode prog_11_method_42_code 191 = .ok (.lcmp, 1) := by decide +kernel
theorem d_R_nextToken_192 : decode prog_11_method_42_code 192 = .ok (.ifCond .eq 9, 3) := by decide +kernel
theorem d_R_nextToken_195 : decode prog_11_method_42_code 195 = .ok (.ldc2_w 175, 3) := by decide +kernel
theorem d_R_nextToken_198 : decode prog_11_method_42_code 198 = .ok (.goto 20, 3) := by decide +kernel
theorem d_R_nextToken_201 : decode prog_11_method_42_code 201 = .ok (.aload_n 0, 1) := by decide +kernel
theorem d_R_nextToken_202 : decode prog_11_method_42_code 202 = .ok (.getfield 171, 3) := by decide +kernel
theorem d_R_nextToken_205 : decode prog_11_method_42_code 205 = .ok (.bipush 8, 2) := by decide +kernel
theorem d_R_nextToken_207 : decode prog_11_method_42_code 207 = .ok (.lshl, 1) := by decide +kernel
theorem d_R_nextToken_208 : decode prog_11_method_42_code 208 = .ok (.aload_n 0, 1) := by decide +kernel
theorem d_R_nextToken_209 : decode prog_11_method_42_code 209 = .ok (.aload_n 0, 1) := by decide +kernel
theorem d_R_nextToken_210 : decode prog_11_method_42_code 210 = .ok (.getfield 149, 3) := by decide +kernel
theorem d_R_nextToken_213 : decode prog_11_method_42_code 213 = .ok (.invokevirtual 152, 3) := by decide +kernel
theorem d_R_nextToken_216 : decode prog_11_method_42_code 216 = .ok (.i2l, 1) := by decide +kernel
theorem d_R_nextToken_217 : decode prog_11_method_42_code 217 = .ok (.lor, 1) := by decide +kernel
theorem d_R_nextToken_218 : decode prog_11_method_42_code 218 = .ok (.putfield 171, 3) := by decide +kernel
theorem d_R_nextToken_221 : decode prog_11_method_42_code 221 = .ok (.aload_n 0, 1) := by decide +kernel
theorem d_R_nextToken_222 : decode prog_11_method_42_code 222 = .ok (.dup, 1) := by decide +kernel
theorem d_R_nextToken_223 : decode prog_11_method_42_code 223 = .ok (.getfield 149, 3) := by decide +kernel
theorem d_R_nextToken_226 : decode prog_11_method_42_code 226 = .ok (.iconst 1, 1) := by decide +kernel
theorem d_R_nextToken_227 : decode prog_11_method_42_code 227 = .ok (.iadd, 1) := by decide +kernel
theorem d_R_nextToken_228 : decode prog_11_method_42_code 228 = .ok (.putfield 149, 3) := by decide +kernel
theorem d_R_nextToken_231 : decode prog_11_method_42_code 231 = .ok (.goto (-63), 3) := by decide +kernel
theorem d_R_nextToken_234 : decode prog_11_method_42_code 234 = .ok (.aload_n 0, 1) := by decide +kernel
theorem d_R_nextToken_235 : decode prog_11_method_42_code 235 = .ok (.iload_n 1, 1) := by decide +kernel
theorem d_R_nextToken_236 : decode prog_11_method_42_code 236 = .ok (.invokestatic 177, 3) := by decide +kernel
theorem d_R_nextToken_239 : decode prog_11_method_42_code 239 = .ok (.ifCond .eq 7, 3) := by decide +kernel
theorem d_R_nextToken_242 : decode prog_11_method_42_code 242 = .ok (.iload_n 1, 1) := by decide +kernel
theorem d_R_nextToken_243 : decode prog_11_method_42_code 243 = .ok (.goto 4, 3) := by decide +kernel
theorem d_R_nextToken_246 : decode prog_11_method_42_code 246 = .ok (.iconst 3, 1) := by decide +kernel
theorem d_R_nextToken_247 : decode prog_11_method_42_code 247 = .ok (.putfield 158, 3) := by decide +kernel
theorem d_R_nextToken_250 : decode prog_11_method_42_code 250 = .ok (.aload_n 0, 1) := by decide +kernel
theorem d_R_nextToken_251 : decode prog_11_method_42_code 251 = .ok (.dup, 1) := by decide +kernel
theorem d_R_nextToken_252 : decode prog_11_method_42_code 252 = .ok (.getfield 149, 3) := by decide +kernel
theorem d_R_nextToken_255 : decode prog_11_method_42_code 255 = .ok (.iconst 1, 1) := by decide +kernel
theorem d_R_nextToken_256 : decode prog_11_method_42_code 256 = .ok (.iadd, 1) := by decide +kernel
theorem d_R_nextToken_257 : decode prog_11_method_42_code 257 = .ok (.putfield 149, 3) := by decide +kernel
theorem d_R_nextToken_260 : decode prog_11_method_42_code 260 = .ok (.iload_n 1, 1) := by decide +kernel
theorem d_R_nextToken_261 : decode prog_11_method_42_code 261 = .ok (.bipush 60, 2) := by decide +kernel
theorem d_R_nextToken_263 : decode prog_11_method_42_code 263 = .ok (.if_icmp .eq 9, 3) := by decide +kernel
theorem d_R_nextToken_266 : decode prog_11_method_42_code 266 = .ok (.iload_n 1, 1) := by decide +kernel
theorem d_R_nextToken_267 : decode prog_11_method_42_code 267 = .ok (.bipush 62, 2) := by decide +kernel
theorem d_R_nextToken_269 : decode prog_11_method_42_code 269 = .ok (.if_icmp .ne 41, 3) := by decide +kernel
theorem d_R_nextToken_272 : decode prog_11_method_42_code 272 = .ok (.aload_n 0, 1) := by decide +kernel
theorem d_R_nextToken_273 : decode prog_11_method_42_code 273 = .ok (.aload_n 0, 1) := by decide +kernel
theorem d_R_nextToken_274 : decode prog_11_method_42_code 274 = .ok (.getfield 149, 3) := by decide +kernel
theorem d_R_nextToken_277 : decode prog_11_method_42_code 277 = .ok (.invokevirtual 152, 3) := by decide +kernel
theorem d_R_nextToken_280 : decode prog_11_method_42_code 280 = .ok (.bipush 61, 2) := by decide +kernel
theorem d_R_nextToken_282 : decode prog_11_method_42_code 282 = .ok (.if_icmp .ne 28, 3) := by decide +kernel
theorem d_R_nextToken_285 : decode prog_11_method_42_code 285 = .ok (.aload_n 0, 1) := by decide +kernel
theorem d_R_nextToken_286 : decode prog_11_method_42_code 286 = .ok (.iload_n 1, 1) := by decide +kernel
theorem d_R_nextToken_287 : decode prog_11_method_42_code 287 = .ok (.bipush 60, 2) := by decide +kernel
theorem d_R_nextToken_289 : decode prog_11_method_42_code 289 = .ok (.if_icmp .ne 7, 3) := by decide +kernel
theorem d_R_nextToken_292 : decode prog_11_method_42_code 292 = .ok (.iconst 4, 1) := by decide +kernel
theorem d_R_nextToken_293 : decode prog_11_method_42_code 293 = .ok (.goto 4, 3) := by decide +kernel
theorem d_R_nextToken_296 : decode prog_11_method_42_code 296 = .ok (.iconst 5, 1) := by decide +kernel
theorem d_R_nextToken_297 : decode prog_11_method_42_code 297 = .ok (.putfield 158, 3) := by decide +kernel
theorem d_R_nextToken_300 : decode prog_11_method_42_code 300 = .ok (.aload_n 0, 1) := by decide +kernel
theorem d_R_nextToken_301 : decode prog_11_method_42_code 301 = .ok (.dup, 1) := by decide +kernel
theorem d_R_nextToken_302 : decode prog_11_method_42_code 302 = .ok (.getfield 149, 3) := by decide +kernel
theorem d_R_nextToken_305 : decode prog_11_method_42_code 305 = .ok (.iconst 1, 1) := by decide +kernel
theorem d_R_nextToken_306 : decode prog_11_method_42_code 306 = .ok (.iadd, 1) := by decide +kernel
theorem d_R_nextToken_307 : decode prog_11_method_42_code 307 = .ok (.putfield 149, 3) := by decide +kernel
theorem d_R_nextToken_310 : decode prog_11_method_42_code 310 = .ok (.return_, 1) := by decide +kernel
theorem d_R_byteAt_0 : decode prog_11_method_38_code 0 = .ok (.iload_n 1, 1) := by decide +kernel
theorem d_R_byteAt_1 : decode prog_11_method_38_code 1 = .ok (.aload_n 0, 1) := by decide +kernel
theorem d_R_byteAt_2 : decode prog_11_method_38_code 2 = .ok (.getfield 142, 3) := by decide +kernel
theorem d_R_byteAt_5 : decode prog_11_method_38_code 5 = .ok (.if_icmp .ge 12, 3) := by decide +kernel
theorem d_R_byteAt_8 : decode prog_11_method_38_code 8 = .ok (.aload_n 0, 1) := by decide +kernel
theorem d_R_byteAt_9 : decode prog_11_method_38_code 9 = .ok (.getfield 34, 3) := by decide +kernel
theorem d_R_byteAt_12 : decode prog_11_method_38_code 12 = .ok (.iload_n 1, 1) := by decide +kernel
theorem d_R_byteAt_13 : decode prog_11_method_38_code 13 = .ok (.iaload, 1) := by decide +kernel
theorem d_R_byteAt_14 : decode prog_11_method_38_code 14 = .ok (.goto 4, 3) := by decide +kernel
theorem d_R_byteAt_17 : decode prog_11_method_38_code 17 = .ok (.iconst (-1), 1) := by decide +kernel
theorem d_R_byteAt_18 : decode prog_11_method_38_code 18 = .ok (.ireturn, 1) := by decide +kernel
theorem d_R_isFigure_0 : decode prog_11_method_40_code 0 = .ok (.iload_n 0, 1) := by decide +kernel
theorem d_R_isFigure_1 : decode prog_11_method_40_code 1 = .ok (.bipush 48, 2) := by decide +kernel
theorem d_R_isFigure_3 : decode prog_11_method_40_code 3 = .ok (.if_icmp .lt 13, 3) := by decide +kernel
theorem d_R_isFigure_6 : decode prog_11_method_40_code 6 = .ok (.iload_n 0, 1) := by decide +kernel
theorem d_R_isFigure_7 : decode prog_11_method_40_code 7 = .ok (.bipush 57, 2) := by decide +kernel
theorem d_R_isFigure_9 : decode prog_11_method_40_code 9 = .ok (.if_icmp .gt 7, 3) := by decide +kernel
theorem d_R_isFigure_12 : decode prog_11_method_40_code 12 = .ok (.iconst 1, 1) := by decide +kernel
theorem d_R_isFigure_13 : decode prog_11_method_40_code 13 = .ok (.goto 4, 3) := by decide +kernel
theorem d_R_isFigure_16 : decode prog_11_method_40_code 16 = .ok (.iconst 0, 1) := by decide +kernel
theorem d_R_isFigure_17 : decode prog_11_method_40_code 17 = .ok (.ireturn, 1) := by decide +kernel
theorem d_R_isLetterByte_0 : decode prog_11_method_39_code 0 = .ok (.iload_n 0, 1) := by decide +kernel
theorem d_R_isLetterByte_1 : decode prog_11_method_39_code 1 = .ok (.bipush 97, 2) := by decide +kernel
theorem d_R_isLetterByte_3 : decode prog_11_method_39_code 3 = .ok (.if_icmp .lt 9, 3) := by decide +kernel
theorem d_R_isLetterByte_6 : decode prog_11_method_39_code 6 = .ok (.iload_n 0, 1) := by decide +kernel
theorem d_R_isLetterByte_7 : decode prog_11_method_39_code 7 = .ok (.bipush 122, 2) := by decide +kernel
theorem d_R_isLetterByte_9 : decode prog_11_method_39_code 9 = .ok (.if_icmp .le 15, 3) := by decide +kernel
theorem d_R_isLetterByte_12 : decode prog_11_method_39_code 12 = .ok (.iload_n 0, 1) := by decide +kernel
theorem d_R_isLetterByte_13 : decode prog_11_method_39_code 13 = .ok (.bipush 65, 2) := by decide +kernel
theorem d_R_isLetterByte_15 : decode prog_11_method_39_code 15 = .ok (.if_icmp .lt 13, 3) := by decide +kernel
theorem d_R_isLetterByte_18 : decode prog_11_method_39_code 18 = .ok (.iload_n 0, 1) := by decide +kernel
theorem d_R_isLetterByte_19 : decode prog_11_method_39_code 19 = .ok (.bipush 90, 2) := by decide +kernel
theorem d_R_isLetterByte_21 : decode prog_11_method_39_code 21 = .ok (.if_icmp .gt 7, 3) := by decide +kernel
theorem d_R_isLetterByte_24 : decode prog_11_method_39_code 24 = .ok (.iconst 1, 1) := by decide +kernel
theorem d_R_isLetterByte_25 : decode prog_11_method_39_code 25 = .ok (.goto 4, 3) := by decide +kernel
theorem d_R_isLetterByte_28 : decode prog_11_method_39_code 28 = .ok (.iconst 0, 1) := by decide +kernel
theorem d_R_isLetterByte_29 : decode prog_11_method_39_code 29 = .ok (.ireturn, 1) := by decide +kernel
theorem d_R_isSign_0 : decode prog_11_method_41_code 0 = .ok (.iload_n 0, 1) := by decide +kernel
theorem d_R_isSign_1 : decode prog_11_method_41_code 1 = .ok (.tableswitch 129 35 62 #[127, 129, 129, 129, 129, 127, 127, 127, 127, 129, 127, 129, 127, 129, 129, 129, 129, 129, 129, 129, 129, 129, 129, 127, 127, 127, 127, 127], 127) := by decide +kernel
theorem d_R_isSign_128 : decode prog_11_method_41_code 128 = .ok (.iconst 1, 1) := by decide +kernel
theorem d_R_isSign_129 : decode prog_11_method_41_code 129 = .ok (.ireturn, 1) := by decide +kernel
theorem d_R_isSign_130 : decode prog_11_method_41_code 130 = .ok (.iconst 0, 1) := by decide +kernel
theorem d_R_isSign_131 : decode prog_11_method_41_code 131 = .ok (.ireturn, 1) := by decide +kernel
theorem d_R_clause_0 : decode prog_11_method_78_code 0 = .ok (.aload_n 0, 1) := by decide +kernel
theorem d_R_clause_1 : decode prog_11_method_78_code 1 = .ok (.invokevirtual 315, 3) := by decide +kernel
theorem d_R_clause_4 : decode prog_11_method_78_code 4 = .ok (.istore_n 1, 1) := by decide +kernel
theorem d_R_clause_5 : decode prog_11_method_78_code 5 = .ok (.iload_n 1, 1) := by decide +kernel
theorem d_R_clause_6 : decode prog_11_method_78_code 6 = .ok (.ifCond .ge 5, 3) := by decide +kernel
theorem d_R_clause_9 : decode prog_11_method_78_code 9 = .ok (.iconst 1, 1) := by decide +kernel
theorem d_R_clause_10 : decode prog_11_method_78_code 10 = .ok (.ireturn, 1) := by decide +kernel
theorem d_R_clause_11 : decode prog_11_method_78_code 11 = .ok (.iload_n 1, 1) := by decide +kernel
theorem d_R_clause_12 : decode prog_11_method_78_code 12 = .ok (.iconst 1, 1) := by decide +kernel
theorem d_R_clause_13 : decode prog_11_method_78_code 13 = .ok (.if_icmp .gt 16, 3) := by decide +kernel
theorem d_R_clause_16 : decode prog_11_method_78_code 16 = .ok (.aload_n 0, 1) := by decide +kernel
theorem d_R_clause_17 : decode prog_11_method_78_code 17 = .ok (.getfield 318, 3) := by decide +kernel
theorem d_R_clause_20 : decode prog_11_method_78_code 20 = .ok (.iload_n 1, 1) := by decide +kernel
theorem d_R_clause_21 : decode prog_11_method_78_code 21 = .ok (.invokestatic 94, 3) := by decide +kernel
theorem d_R_clause_24 : decode prog_11_method_78_code 24 = .ok (.ifCond .eq 5, 3) := by decide +kernel
theorem d_R_clause_27 : decode prog_11_method_78_code 27 = .ok (.iconst 4, 1) := by decide +kernel
theorem d_R_clause_28 : decode prog_11_method_78_code 28 = .ok (.ireturn, 1) := by decide +kernel
theorem d_R_clause_29 : decode prog_11_method_78_code 29 = .ok (.aload_n 0, 1) := by decide +kernel
theorem d_R_clause_30 : decode prog_11_method_78_code 30 = .ok (.getfield 28, 3) := by decide +kernel
theorem d_R_clause_33 : decode prog_11_method_78_code 33 = .ok (.aload_n 0, 1) := by decide +kernel
theorem d_R_clause_34 : decode prog_11_method_78_code 34 = .ok (.getfield 196, 3) := by decide +kernel
theorem d_R_clause_37 : decode prog_11_method_78_code 37 = .ok (.iaload, 1) := by decide +kernel
theorem d_R_clause_38 : decode prog_11_method_78_code 38 = .ok (.istore_n 2, 1) := by decide +kernel
theorem d_R_clause_39 : decode prog_11_method_78_code 39 = .ok (.iload_n 2, 1) := by decide +kernel
theorem d_R_clause_40 : decode prog_11_method_78_code 40 = .ok (.bipush 24, 2) := by decide +kernel
theorem d_R_clause_42 : decode prog_11_method_78_code 42 = .ok (.if_icmp .ne 6, 3) := by decide +kernel
theorem d_R_clause_45 : decode prog_11_method_78_code 45 = .ok (.bipush 6, 2) := by decide +kernel
theorem d_R_clause_47 : decode prog_11_method_78_code 47 = .ok (.ireturn, 1) := by decide +kernel
theorem d_R_clause_48 : decode prog_11_method_78_code 48 = .ok (.iload_n 1, 1) := by decide +kernel
theorem d_R_clause_49 : decode prog_11_method_78_code 49 = .ok (.iconst 1, 1) := by decide +kernel
theorem d_R_clause_50 : decode prog_11_method_78_code 50 = .ok (.if_icmp .gt 15, 3) := by decide +kernel
theorem d_R_clause_53 : decode prog_11_method_78_code 53 = .ok (.aload_n 0, 1) := by decide +kernel
theorem d_R_clause_54 : decode prog_11_method_78_code 54 = .ok (.dup, 1) := by decide +kernel
theorem d_R_clause_55 : decode prog_11_method_78_code 55 = .ok (.getfield 318, 3) := by decide +kernel
theorem d_R_clause_58 : decode prog_11_method_78_code 58 = .ok (.iconst 1, 1) := by decide +kernel
theorem d_R_clause_59 : decode prog_11_method_78_code 59 = .ok (.iload_n 1, 1) := by decide +kernel
theorem d_R_clause_60 : decode prog_11_method_78_code 60 = .ok (.ishl, 1) := by decide +kernel
theorem d_R_clause_61 : decode prog_11_method_78_code 61 = .ok (.ior, 1) := by decide +kernel
theorem d_R_clause_62 : decode prog_11_method_78_code 62 = .ok (.putfield 318, 3) := by decide +kernel
theorem d_R_clause_65 : decode prog_11_method_78_code 65 = .ok (.aload_n 0, 1) := by decide +kernel
theorem d_R_clause_66 : decode prog_11_method_78_code 66 = .ok (.iload_n 1, 1) := by decide +kernel
theorem d_R_clause_67 : decode prog_11_method_78_code 67 = .ok (.putfield 210, 3) := by decide +kernel
theorem d_R_clause_70 : decode prog_11_method_78_code 70 = .ok (.aload_n 0, 1) := by decide +kernel
theorem d_R_clause_71 : decode prog_11_method_78_code 71 = .ok (.invokevirtual 233, 3) := by decide +kernel
theorem d_R_clause_74 : decode prog_11_method_78_code 74 = .ok (.aload_n 0, 1) := by decide +kernel
theorem d_R_clause_75 : decode prog_11_method_78_code 75 = .ok (.getfield 196, 3) := by decide +kernel
theorem d_R_clause_78 : decode prog_11_method_78_code 78 = .ok (.iconst 1, 1) := by decide +kernel
theorem d_R_clause_79 : decode prog_11_method_78_code 79 = .ok (.iadd, 1) := by decide +kernel
theorem d_R_clause_80 : decode prog_11_method_78_code 80 = .ok (.iconst 3, 1) := by decide +kernel
theorem d_R_clause_81 : decode prog_11_method_78_code 81 = .ok (.iload_n 2, 1) := by decide +kernel
theorem d_R_clause_82 : decode prog_11_method_78_code 82 = .ok (.imul, 1) := by decide +kernel
theorem d_R_clause_83 : decode prog_11_method_78_code 83 = .ok (.iadd, 1) := by decide +kernel
theorem d_R_clause_84 : decode prog_11_method_78_code 84 = .ok (.istore_n 3, 1) := by decide +kernel
theorem d_R_clause_85 : decode prog_11_method_78_code 85 = .ok (.aload_n 0, 1) := by decide +kernel
theorem d_R_clause_86 : decode prog_11_method_78_code 86 = .ok (.getfield 28, 3) := by decide +kernel
theorem d_R_clause_89 : decode prog_11_method_78_code 89 = .ok (.iload_n 3, 1) := by decide +kernel
theorem d_R_clause_90 : decode prog_11_method_78_code 90 = .ok (.iload_n 1, 1) := by decide +kernel
theorem d_R_clause_91 : decode prog_11_method_78_code 91 = .ok (.iastore, 1) := by decide +kernel
theorem d_R_clause_92 : decode prog_11_method_78_code 92 = .ok (.aload_n 0, 1) := by decide +kernel
theorem d_R_clause_93 : decode prog_11_method_78_code 93 = .ok (.iload_n 1, 1) := by decide +kernel
theorem d_R_clause_94 : decode prog_11_method_78_code 94 = .ok (.iload_n 3, 1) := by decide +kernel
theorem d_R_clause_95 : decode prog_11_method_78_code 95 = .ok (.invokevirtual 321, 3) := by decide +kernel
theorem d_R_clause_98 : decode prog_11_method_78_code 98 = .ok (.istore 4, 2) := by decide +kernel
theorem d_R_clause_100 : decode prog_11_method_78_code 100 = .ok (.iload 4, 2) := by decide +kernel
theorem d_R_clause_102 : decode prog_11_method_78_code 102 = .ok (.ifCond .eq 6, 3) := by decide +kernel
theorem d_R_clause_105 : decode prog_11_method_78_code 105 = .ok (.iload 4, 2) := by decide +kernel
theorem d_R_clause_107 : decode prog_11_method_78_code 107 = .ok (.ireturn, 1) := by decide +kernel
theorem d_R_clause_108 : decode prog_11_method_78_code 108 = .ok (.aload_n 0, 1) := by decide +kernel
theorem d_R_clause_109 : decode prog_11_method_78_code 109 = .ok (.getfield 28, 3) := by decide +kernel
theorem d_R_clause_112 : decode prog_11_method_78_code 112 = .ok (.aload_n 0, 1) := by decide +kernel
theorem d_R_clause_113 : decode prog_11_method_78_code 113 = .ok (.getfield 196, 3) := by decide +kernel
theorem d_R_clause_116 : decode prog_11_method_78_code 116 = .ok (.dup2, 1) := by decide +kernel
theorem d_R_clause_117 : decode prog_11_method_78_code 117 = .ok (.iaload, 1) := by decide +kernel
theorem d_R_clause_118 : decode prog_11_method_78_code 118 = .ok (.iconst 1, 1) := by decide +kernel
theorem d_R_clause_119 : decode prog_11_method_78_code 119 = .ok (.iadd, 1) := by decide +kernel
theorem d_R_clause_120 : decode prog_11_method_78_code 120 = .ok (.iastore, 1) := by decide +kernel
theorem d_R_clause_121 : decode prog_11_method_78_code 121 = .ok (.aload_n 0, 1) := by decide +kernel
theorem d_R_clause_122 : decode prog_11_method_78_code 122 = .ok (.getfield 158, 3) := by decide +kernel
theorem d_R_clause_125 : decode prog_11_method_78_code 125 = .ok (.bipush 59, 2) := by decide +kernel
theorem d_R_clause_127 : decode prog_11_method_78_code 127 = .ok (.if_icmp .eq 5, 3) := by decide +kernel
theorem d_R_clause_130 : decode prog_11_method_78_code 130 = .ok (.iconst 1, 1) := by decide +kernel
theorem d_R_clause_131 : decode prog_11_method_78_code 131 = .ok (.ireturn, 1) := by decide +kernel
theorem d_R_clause_132 : decode prog_11_method_78_code 132 = .ok (.aload_n 0, 1) := by decide +kernel
theorem d_R_clause_133 : decode prog_11_method_78_code 133 = .ok (.invokevirtual 233, 3) := by decide +kernel
theorem d_R_clause_136 : decode prog_11_method_78_code 136 = .ok (.iconst 0, 1) := by decide +kernel
theorem d_R_clause_137 : decode prog_11_method_78_code 137 = .ok (.ireturn, 1) := by decide +kernel
theorem d_R_sortOf_0 : decode prog_11_method_77_code 0 = .ok (.aload_n 0, 1) := by decide +kernel
theorem d_R_sortOf_1 : decode prog_11_method_77_code 1 = .ok (.bipush 119, 2) := by decide +kernel
theorem d_R_sortOf_3 : decode prog_11_method_77_code 3 = .ok (.bipush 101, 2) := by decide +kernel
theorem d_R_sortOf_5 : decode prog_11_method_77_code 5 = .ok (.bipush 97, 2) := by decide +kernel
theorem d_R_sortOf_7 : decode prog_11_method_77_code 7 = .ok (.bipush 114, 2) := by decide +kernel
theorem d_R_sortOf_9 : decode prog_11_method_77_code 9 = .ok (.bipush 115, 2) := by decide +kernel
theorem d_R_sortOf_11 : decode prog_11_method_77_code 11 = .ok (.invokestatic 192, 3) := by decide +kernel
theorem d_R_sortOf_14 : decode prog_11_method_77_code 14 = .ok (.invokevirtual 251, 3) := by decide +kernel
theorem d_R_sortOf_17 : decode prog_11_method_77_code 17 = .ok (.ifCond .eq 5, 3) := by decide +kernel
theorem d_R_sortOf_20 : decode prog_11_method_77_code 20 = .ok (.iconst 0, 1) := by decide +kernel
theorem d_R_sortOf_21 : decode prog_11_method_77_code 21 = .ok (.ireturn, 1) := by decide +kernel
theorem d_R_sortOf_22 : decode prog_11_method_77_code 22 = .ok (.aload_n 0, 1) := by decide +kernel
theorem d_R_sortOf_23 : decode prog_11_method_77_code 23 = .ok (.bipush 102, 2) := by decide +kernel
theorem d_R_sortOf_25 : decode prog_11_method_77_code 25 = .ok (.bipush 101, 2) := by decide +kernel
theorem d_R_sortOf_27 : decode prog_11_method_77_code 27 = .ok (.bipush 101, 2) := by decide +kernel
theorem d_R_sortOf_29 : decode prog_11_method_77_code 29 = .ok (.invokestatic 184, 3) := by decide +kernel
theorem d_R_sortOf_32 : decode prog_11_method_77_code 32 = .ok (.invokevirtual 251, 3) := by decide +kernel
theorem d_R_sortOf_35 : decode prog_11_method_77_code 35 = .ok (.ifCond .eq 5, 3) := by decide +kernel
theorem d_R_sortOf_38 : decode prog_11_method_77_code 38 = .ok (.iconst 1, 1) := by decide +kernel
theorem d_R_sortOf_39 : decode prog_11_method_77_code 39 = .ok (.ireturn, 1) := by decide +kernel
theorem d_R_sortOf_40 : decode prog_11_method_77_code 40 = .ok (.aload_n 0, 1) := by decide +kernel
theorem d_R_sortOf_41 : decode prog_11_method_77_code 41 = .ok (.bipush 100, 2) := by decide +kernel
theorem d_R_sortOf_43 : decode prog_11_method_77_code 43 = .ok (.bipush 114, 2) := by decide +kernel
theorem d_R_sortOf_45 : decode prog_11_method_77_code 45 = .ok (.bipush 97, 2) := by decide +kernel
theorem d_R_sortOf_47 : decode prog_11_method_77_code 47 = .ok (.bipush 119, 2) := by decide +kernel
theorem d_R_sortOf_49 : decode prog_11_method_77_code 49 = .ok (.invokestatic 188, 3) := by decide +kernel
theorem d_R_sortOf_52 : decode prog_11_method_77_code 52 = .ok (.invokevirtual 251, 3) := by decide +kernel
theorem d_R_sortOf_55 : decode prog_11_method_77_code 55 = .ok (.ifCond .eq 5, 3) := by decide +kernel
theorem d_R_sortOf_58 : decode prog_11_method_77_code 58 = .ok (.iconst 2, 1) := by decide +kernel
theorem d_R_sortOf_59 : decode prog_11_method_77_code 59 = .ok (.ireturn, 1) := by decide +kernel
theorem d_R_sortOf_60 : decode prog_11_method_77_code 60 = .ok (.aload_n 0, 1) := by decide +kernel
theorem d_R_sortOf_61 : decode prog_11_method_77_code 61 = .ok (.bipush 97, 2) := by decide +kernel
theorem d_R_sortOf_63 : decode prog_11_method_77_code 63 = .ok (.bipush 100, 2) := by decide +kernel
theorem d_R_sortOf_65 : decode prog_11_method_77_code 65 = .ok (.bipush 100, 2) := by decide +kernel
theorem d_R_sortOf_67 : decode prog_11_method_77_code 67 = .ok (.invokestatic 184, 3) := by decide +kernel
theorem d_R_sortOf_70 : decode prog_11_method_77_code 70 = .ok (.invokevirtual 251, 3) := by decide +kernel
theorem d_R_sortOf_73 : decode prog_11_method_77_code 73 = .ok (.ifCond .eq 5, 3) := by decide +kernel
theorem d_R_sortOf_76 : decode prog_11_method_77_code 76 = .ok (.iconst 3, 1) := by decide +kernel
theorem d_R_sortOf_77 : decode prog_11_method_77_code 77 = .ok (.ireturn, 1) := by decide +kernel
theorem d_R_sortOf_78 : decode prog_11_method_77_code 78 = .ok (.aload_n 0, 1) := by decide +kernel
theorem d_R_sortOf_79 : decode prog_11_method_77_code 79 = .ok (.bipush 114, 2) := by decide +kernel
theorem d_R_sortOf_81 : decode prog_11_method_77_code 81 = .ok (.bipush 117, 2) := by decide +kernel
theorem d_R_sortOf_83 : decode prog_11_method_77_code 83 = .ok (.bipush 98, 2) := by decide +kernel
theorem d_R_sortOf_85 : decode prog_11_method_77_code 85 = .ok (.invokestatic 184, 3) := by decide +kernel
theorem d_R_sortOf_88 : decode prog_11_method_77_code 88 = .ok (.invokevirtual 251, 3) := by decide +kernel
theorem d_R_sortOf_91 : decode prog_11_method_77_code 91 = .ok (.ifCond .eq 5, 3) := by decide +kernel
theorem d_R_sortOf_94 : decode prog_11_method_77_code 94 = .ok (.iconst 4, 1) := by decide +kernel
theorem d_R_sortOf_95 : decode prog_11_method_77_code 95 = .ok (.ireturn, 1) := by decide +kernel
theorem d_R_sortOf_96 : decode prog_11_method_77_code 96 = .ok (.aload_n 0, 1) := by decide +kernel
theorem d_R_sortOf_97 : decode prog_11_method_77_code 97 = .ok (.bipush 114, 2) := by decide +kernel
theorem d_R_sortOf_99 : decode prog_11_method_77_code 99 = .ok (.bipush 101, 2) := by decide +kernel
theorem d_R_sortOf_101 : decode prog_11_method_77_code 101 = .ok (.bipush 110, 2) := by decide +kernel
theorem d_R_sortOf_103 : decode prog_11_method_77_code 103 = .ok (.bipush 101, 2) := by decide +kernel
theorem d_R_sortOf_105 : decode prog_11_method_77_code 105 = .ok (.bipush 119, 2) := by decide +kernel
theorem d_R_sortOf_107 : decode prog_11_method_77_code 107 = .ok (.invokestatic 192, 3) := by decide +kernel
theorem d_R_sortOf_110 : decode prog_11_method_77_code 110 = .ok (.invokevirtual 251, 3) := by decide +kernel
theorem d_R_sortOf_113 : decode prog_11_method_77_code 113 = .ok (.ifCond .eq 7, 3) := by decide +kernel
theorem d_R_sortOf_116 : decode prog_11_method_77_code 116 = .ok (.iconst 5, 1) := by decide +kernel
theorem d_R_sortOf_117 : decode prog_11_method_77_code 117 = .ok (.goto 27, 3) := by decide +kernel
theorem d_R_sortOf_120 : decode prog_11_method_77_code 120 = .ok (.aload_n 0, 1) := by decide +kernel
theorem d_R_sortOf_121 : decode prog_11_method_77_code 121 = .ok (.bipush 121, 2) := by decide +kernel
theorem d_R_sortOf_123 : decode prog_11_method_77_code 123 = .ok (.bipush 101, 2) := by decide +kernel
theorem d_R_sortOf_125 : decode prog_11_method_77_code 125 = .ok (.bipush 97, 2) := by decide +kernel
theorem d_R_sortOf_127 : decode prog_11_method_77_code 127 = .ok (.bipush 114, 2) := by decide +kernel
theorem d_R_sortOf_129 : decode prog_11_method_77_code 129 = .ok (.invokestatic 188, 3) := by decide +kernel
theorem d_R_sortOf_132 : decode prog_11_method_77_code 132 = .ok (.invokevirtual 251, 3) := by decide +kernel
theorem d_R_sortOf_135 : decode prog_11_method_77_code 135 = .ok (.ifCond .eq 8, 3) := by decide +kernel
theorem d_R_sortOf_138 : decode prog_11_method_77_code 138 = .ok (.bipush 6, 2) := by decide +kernel
theorem d_R_sortOf_140 : decode prog_11_method_77_code 140 = .ok (.goto 4, 3) := by decide +kernel
theorem d_R_sortOf_143 : decode prog_11_method_77_code 143 = .ok (.iconst (-1), 1) := by decide +kernel
theorem d_R_sortOf_144 : decode prog_11_method_77_code 144 = .ok (.ireturn, 1) := by decide +kernel
theorem d_R_w5_0 : decode prog_11_method_46_code 0 = .ok (.iload_n 0, 1) := by decide +kernel
theorem d_R_w5_1 : decode prog_11_method_46_code 1 = .ok (.iload_n 1, 1) := by decide +kernel
theorem d_R_w5_2 : decode prog_11_method_46_code 2 = .ok (.iload_n 2, 1) := by decide +kernel
theorem d_R_w5_3 : decode prog_11_method_46_code 3 = .ok (.iload_n 3, 1) := by decide +kernel
theorem d_R_w5_4 : decode prog_11_method_46_code 4 = .ok (.invokestatic 188, 3) := by decide +kernel
theorem d_R_w5_7 : decode prog_11_method_46_code 7 = .ok (.bipush 8, 2) := by decide +kernel
theorem d_R_w5_9 : decode prog_11_method_46_code 9 = .ok (.lshl, 1) := by decide +kernel
theorem d_R_w5_10 : decode prog_11_method_46_code 10 = .ok (.iload 4, 2) := by decide +kernel
theorem d_R_w5_12 : decode prog_11_method_46_code 12 = .ok (.i2l, 1) := by decide +kernel
theorem d_R_w5_13 : decode prog_11_method_46_code 13 = .ok (.lor, 1) := by decide +kernel
theorem d_R_w5_14 : decode prog_11_method_46_code 14 = .ok (.lreturn, 1) := by decide +kernel
theorem d_R_w4_0 : decode prog_11_method_45_code 0 = .ok (.iload_n 0, 1) := by decide +kernel
theorem d_R_w4_1 : decode prog_11_method_45_code 1 = .ok (.iload_n 1, 1) := by decide +kernel
theorem d_R_w4_2 : decode prog_11_method_45_code 2 = .ok (.iload_n 2, 1) := by decide +kernel
theorem d_R_w4_3 : decode prog_11_method_45_code 3 = .ok (.invokestatic 184, 3) := by decide +kernel
theorem d_R_w4_6 : decode prog_11_method_45_code 6 = .ok (.bipush 8, 2) := by decide +kernel
theorem d_R_w4_8 : decode prog_11_method_45_code 8 = .ok (.lshl, 1) := by decide +kernel
theorem d_R_w4_9 : decode prog_11_method_45_code 9 = .ok (.iload_n 3, 1) := by decide +kernel
theorem d_R_w4_10 : decode prog_11_method_45_code 10 = .ok (.i2l, 1) := by decide +kernel
theorem d_R_w4_11 : decode prog_11_method_45_code 11 = .ok (.lor, 1) := by decide +kernel
theorem d_R_w4_12 : decode prog_11_method_45_code 12 = .ok (.lreturn, 1) := by decide +kernel
theorem d_R_w3_0 : decode prog_11_method_44_code 0 = .ok (.iload_n 0, 1) := by decide +kernel
theorem d_R_w3_1 : decode prog_11_method_44_code 1 = .ok (.iload_n 1, 1) := by decide +kernel
theorem d_R_w3_2 : decode prog_11_method_44_code 2 = .ok (.invokestatic 180, 3) := by decide +kernel
theorem d_R_w3_5 : decode prog_11_method_44_code 5 = .ok (.bipush 8, 2) := by decide +kernel
theorem d_R_w3_7 : decode prog_11_method_44_code 7 = .ok (.lshl, 1) := by decide +kernel
theorem d_R_w3_8 : decode prog_11_method_44_code 8 = .ok (.iload_n 2, 1) := by decide +kernel
theorem d_R_w3_9 : decode prog_11_method_44_code 9 = .ok (.i2l, 1) := by decide +kernel
theorem d_R_w3_10 : decode prog_11_method_44_code 10 = .ok (.lor, 1) := by decide +kernel
theorem d_R_w3_11 : decode prog_11_method_44_code 11 = .ok (.lreturn, 1) := by decide +kernel
theorem d_R_w2_0 : decode prog_11_method_43_code 0 = .ok (.iload_n 0, 1) := by decide +kernel
theorem d_R_w2_1 : decode prog_11_method_43_code 1 = .ok (.i2l, 1) := by decide +kernel
theorem d_R_w2_2 : decode prog_11_method_43_code 2 = .ok (.bipush 8, 2) := by decide +kernel
theorem d_R_w2_4 : decode prog_11_method_43_code 4 = .ok (.lshl, 1) := by decide +kernel
theorem d_R_w2_5 : decode prog_11_method_43_code 5 = .ok (.iload_n 1, 1) := by decide +kernel
theorem d_R_w2_6 : decode prog_11_method_43_code 6 = .ok (.i2l, 1) := by decide +kernel
theorem d_R_w2_7 : decode prog_11_method_43_code 7 = .ok (.lor, 1) := by decide +kernel
theorem d_R_w2_8 : decode prog_11_method_43_code 8 = .ok (.lreturn, 1) := by decide +kernel
theorem d_R_isWord_0 : decode prog_11_method_48_code 0 = .ok (.aload_n 0, 1) := by decide +kernel
theorem d_R_isWord_1 : decode prog_11_method_48_code 1 = .ok (.getfield 158, 3) := by decide +kernel
theorem d_R_isWord_4 : decode prog_11_method_48_code 4 = .ok (.iconst 2, 1) := by decide +kernel
theorem d_R_isWord_5 : decode prog_11_method_48_code 5 = .ok (.if_icmp .ne 16, 3) := by decide +kernel
theorem d_R_isWord_8 : decode prog_11_method_48_code 8 = .ok (.aload_n 0, 1) := by decide +kernel
theorem d_R_isWord_9 : decode prog_11_method_48_code 9 = .ok (.getfield 171, 3) := by decide +kernel
theorem d_R_isWord_12 : decode prog_11_method_48_code 12 = .ok (.lload_n 1, 1) := by decide +kernel
theorem d_R_isWord_13 : decode prog_11_method_48_code 13 = .ok (.lcmp, 1) := by decide +kernel
theorem d_R_isWord_14 : decode prog_11_method_48_code 14 = .ok (.ifCond .ne 7, 3) := by decide +kernel
theorem d_R_isWord_17 : decode prog_11_method_48_code 17 = .ok (.iconst 1, 1) := by decide +kernel
theorem d_R_isWord_18 : decode prog_11_method_48_code 18 = .ok (.goto 4, 3) := by decide +kernel
theorem d_R_isWord_21 : decode prog_11_method_48_code 21 = .ok (.iconst 0, 1) := by decide +kernel
theorem d_R_isWord_22 : decode prog_11_method_48_code 22 = .ok (.ireturn, 1) := by decide +kernel
theorem d_R_body_0 : decode prog_11_method_76_code 0 = .ok (.iload_n 1, 1) := by decide +kernel
theorem d_R_body_1 : decode prog_11_method_76_code 1 = .ok (.tableswitch 89 2 6 #[35, 41, 54, 67, 78], 35) := by decide +kernel
theorem d_R_body_36 : decode prog_11_method_76_code 36 = .ok (.aload_n 0, 1) := by decide +kernel
theorem d_R_body_37 : decode prog_11_method_76_code 37 = .ok (.iload_n 2, 1) := by decide +kernel
theorem d_R_body_38 : decode prog_11_method_76_code 38 = .ok (.invokevirtual 305, 3) := by decide +kernel
theorem d_R_body_41 : decode prog_11_method_76_code 41 = .ok (.ireturn, 1) := by decide +kernel
theorem d_R_body_42 : decode prog_11_method_76_code 42 = .ok (.aload_n 0, 1) := by decide +kernel
theorem d_R_body_43 : decode prog_11_method_76_code 43 = .ok (.iload_n 2, 1) := by decide +kernel
theorem d_R_body_44 : decode prog_11_method_76_code 44 = .ok (.bipush 116, 2) := by decide +kernel
theorem d_R_body_46 : decode prog_11_method_76_code 46 = .ok (.bipush 111, 2) := by decide +kernel
theorem d_R_body_48 : decode prog_11_method_76_code 48 = .ok (.invokestatic 180, 3) := by decide +kernel
theorem d_R_body_51 : decode prog_11_method_76_code 51 = .ok (.invokevirtual 308, 3) := by decide +kernel
theorem d_R_body_54 : decode prog_11_method_76_code 54 = .ok (.ireturn, 1) := by decide +kernel
theorem d_R_body_55 : decode prog_11_method_76_code 55 = .ok (.aload_n 0, 1) := by decide +kernel
theorem d_R_body_56 : decode prog_11_method_76_code 56 = .ok (.iload_n 2, 1) := by decide +kernel
theorem d_R_body_57 : decode prog_11_method_76_code 57 = .ok (.bipush 111, 2) := by decide +kernel
theorem d_R_body_59 : decode prog_11_method_76_code 59 = .ok (.bipush 102, 2) := by decide +kernel
theorem d_R_body_61 : decode prog_11_method_76_code 61 = .ok (.invokestatic 180, 3) := by decide +kernel
theorem d_R_body_64 : decode prog_11_method_76_code 64 = .ok (.invokevirtual 308, 3) := by decide +kernel
theorem d_R_body_67 : decode prog_11_method_76_code 67 = .ok (.ireturn, 1) := by decide +kernel
theorem d_R_body_68 : decode prog_11_method_76_code 68 = .ok (.aload_n 0, 1) := by decide +kernel
theorem d_R_body_69 : decode prog_11_method_76_code 69 = .ok (.iload_n 2, 1) := by decide +kernel
theorem d_R_body_70 : decode prog_11_method_76_code 70 = .ok (.iconst 1, 1) := by decide +kernel
theorem d_R_body_71 : decode prog_11_method_76_code 71 = .ok (.iadd, 1) := by decide +kernel
theorem d_R_body_72 : decode prog_11_method_76_code 72 = .ok (.iconst 0, 1) := by decide +kernel
theorem d_R_body_73 : decode prog_11_method_76_code 73 = .ok (.bipush 7, 2) := by decide +kernel
theorem d_R_body_75 : decode prog_11_method_76_code 75 = .ok (.invokevirtual 301, 3) := by decide +kernel
theorem d_R_body_78 : decode prog_11_method_76_code 78 = .ok (.ireturn, 1) := by decide +kernel
theorem d_R_body_79 : decode prog_11_method_76_code 79 = .ok (.aload_n 0, 1) := by decide +kernel
theorem d_R_body_80 : decode prog_11_method_76_code 80 = .ok (.iload_n 2, 1) := by decide +kernel
theorem d_R_body_81 : decode prog_11_method_76_code 81 = .ok (.iconst 1, 1) := by decide +kernel
theorem d_R_body_82 : decode prog_11_method_76_code 82 = .ok (.iadd, 1) := by decide +kernel
theorem d_R_body_83 : decode prog_11_method_76_code 83 = .ok (.iconst 1, 1) := by decide +kernel
theorem d_R_body_84 : decode prog_11_method_76_code 84 = .ok (.bipush 60, 2) := by decide +kernel
theorem d_R_body_86 : decode prog_11_method_76_code 86 = .ok (.invokevirtual 301, 3) := by decide +kernel
theorem d_R_body_89 : decode prog_11_method_76_code 89 = .ok (.ireturn, 1) := by decide +kernel
theorem d_R_body_90 : decode prog_11_method_76_code 90 = .ok (.aload_n 0, 1) := by decide +kernel
theorem d_R_body_91 : decode prog_11_method_76_code 91 = .ok (.iload_n 2, 1) := by decide +kernel
theorem d_R_body_92 : decode prog_11_method_76_code 92 = .ok (.invokevirtual 312, 3) := by decide +kernel
theorem d_R_body_95 : decode prog_11_method_76_code 95 = .ok (.ireturn, 1) := by decide +kernel
theorem d_R_drawClause_0 : decode prog_11_method_74_code 0 = .ok (.aload_n 0, 1) := by decide +kernel
theorem d_R_drawClause_1 : decode prog_11_method_74_code 1 = .ok (.invokevirtual 298, 3) := by decide +kernel
theorem d_R_drawClause_4 : decode prog_11_method_74_code 4 = .ok (.istore_n 2, 1) := by decide +kernel
theorem d_R_drawClause_5 : decode prog_11_method_74_code 5 = .ok (.aload_n 0, 1) := by decide +kernel
theorem d_R_drawClause_6 : decode prog_11_method_74_code 6 = .ok (.getfield 28, 3) := by decide +kernel
theorem d_R_drawClause_9 : decode prog_11_method_74_code 9 = .ok (.iload_n 1, 1) := by decide +kernel
theorem d_R_drawClause_10 : decode prog_11_method_74_code 10 = .ok (.iconst 1, 1) := by decide +kernel
theorem d_R_drawClause_11 : decode prog_11_method_74_code 11 = .ok (.iadd, 1) := by decide +kernel
theorem d_R_drawClause_12 : decode prog_11_method_74_code 12 = .ok (.aload_n 0, 1) := by decide +kernel
theorem d_R_drawClause_13 : decode prog_11_method_74_code 13 = .ok (.getfield 276, 3) := by decide +kernel
theorem d_R_drawClause_16 : decode prog_11_method_74_code 16 = .ok (.iastore, 1) := by decide +kernel
theorem d_R_drawClause_17 : decode prog_11_method_74_code 17 = .ok (.iload_n 2, 1) := by decide +kernel
theorem d_R_drawClause_18 : decode prog_11_method_74_code 18 = .ok (.ireturn, 1) := by decide +kernel
theorem d_R_shaped_0 : decode prog_11_method_71_code 0 = .ok (.aload_n 0, 1) := by decide +kernel
theorem d_R_shaped_1 : decode prog_11_method_71_code 1 = .ok (.iconst 0, 1) := by decide +kernel
theorem d_R_shaped_2 : decode prog_11_method_71_code 2 = .ok (.putfield 213, 3) := by decide +kernel
theorem d_R_shaped_5 : decode prog_11_method_71_code 5 = .ok (.aload_n 0, 1) := by decide +kernel
theorem d_R_shaped_6 : decode prog_11_method_71_code 6 = .ok (.iconst 0, 1) := by decide +kernel
theorem d_R_shaped_7 : decode prog_11_method_71_code 7 = .ok (.putfield 223, 3) := by decide +kernel
theorem d_R_shaped_10 : decode prog_11_method_71_code 10 = .ok (.aload_n 0, 1) := by decide +kernel
theorem d_R_shaped_11 : decode prog_11_method_71_code 11 = .ok (.iconst 0, 1) := by decide +kernel
theorem d_R_shaped_12 : decode prog_11_method_71_code 12 = .ok (.putfield 242, 3) := by decide +kernel
theorem d_R_shaped_15 : decode prog_11_method_71_code 15 = .ok (.aload_n 0, 1) := by decide +kernel
theorem d_R_shaped_16 : decode prog_11_method_71_code 16 = .ok (.getfield 242, 3) := by decide +kernel
theorem d_R_shaped_19 : decode prog_11_method_71_code 19 = .ok (.ifCond .eq 26, 3) := by decide +kernel
theorem d_R_shaped_22 : decode prog_11_method_71_code 22 = .ok (.aload_n 0, 1) := by decide +kernel
theorem d_R_shaped_23 : decode prog_11_method_71_code 23 = .ok (.invokevirtual 289, 3) := by decide +kernel
theorem d_R_shaped_26 : decode prog_11_method_71_code 26 = .ok (.ifCond .eq 6, 3) := by decide +kernel
theorem d_R_shaped_29 : decode prog_11_method_71_code 29 = .ok (.goto (-14), 3) := by decide +kernel
theorem d_R_shaped_32 : decode prog_11_method_71_code 32 = .ok (.aload_n 0, 1) := by decide +kernel
theorem d_R_shaped_33 : decode prog_11_method_71_code 33 = .ok (.getfield 213, 3) := by decide +kernel
theorem d_R_shaped_36 : decode prog_11_method_71_code 36 = .ok (.ifCond .le 7, 3) := by decide +kernel
theorem d_R_shaped_39 : decode prog_11_method_71_code 39 = .ok (.iconst 1, 1) := by decide +kernel
theorem d_R_shaped_40 : decode prog_11_method_71_code 40 = .ok (.goto 4, 3) := by decide +kernel
theorem d_R_shaped_43 : decode prog_11_method_71_code 43 = .ok (.iconst 0, 1) := by decide +kernel
theorem d_R_shaped_44 : decode prog_11_method_71_code 44 = .ok (.ireturn, 1) := by decide +kernel
theorem d_R_shaped_45 : decode prog_11_method_71_code 45 = .ok (.aload_n 0, 1) := by decide +kernel
theorem d_R_shaped_46 : decode prog_11_method_71_code 46 = .ok (.invokevirtual 292, 3) := by decide +kernel
theorem d_R_shaped_49 : decode prog_11_method_71_code 49 = .ok (.istore_n 1, 1) := by decide +kernel
theorem d_R_shaped_50 : decode prog_11_method_71_code 50 = .ok (.iload_n 1, 1) := by decide +kernel
theorem d_R_shaped_51 : decode prog_11_method_71_code 51 = .ok (.ifCond .eq 5, 3) := by decide +kernel
theorem d_R_shaped_54 : decode prog_11_method_71_code 54 = .ok (.iload_n 1, 1) := by decide +kernel
theorem d_R_shaped_55 : decode prog_11_method_71_code 55 = .ok (.ireturn, 1) := by decide +kernel
theorem d_R_shaped_56 : decode prog_11_method_71_code 56 = .ok (.goto (-41), 3) := by decide +kernel
theorem d_R_behindPart_0 : decode prog_11_method_70_code 0 = .ok (.aload_n 0, 1) := by decide +kernel
theorem d_R_behindPart_1 : decode prog_11_method_70_code 1 = .ok (.bipush 119, 2) := by decide +kernel
theorem d_R_behindPart_3 : decode prog_11_method_70_code 3 = .ok (.bipush 105, 2) := by decide +kernel
theorem d_R_behindPart_5 : decode prog_11_method_70_code 5 = .ok (.bipush 116, 2) := by decide +kernel
theorem d_R_behindPart_7 : decode prog_11_method_70_code 7 = .ok (.bipush 104, 2) := by decide +kernel
theorem d_R_behindPart_9 : decode prog_11_method_70_code 9 = .ok (.invokestatic 188, 3) := by decide +kernel
theorem d_R_behindPart_12 : decode prog_11_method_70_code 12 = .ok (.invokevirtual 251, 3) := by decide +kernel
theorem d_R_behindPart_15 : decode prog_11_method_70_code 15 = .ok (.istore_n 1, 1) := by decide +kernel
theorem d_R_behindPart_16 : decode prog_11_method_70_code 16 = .ok (.iload_n 1, 1) := by decide +kernel
theorem d_R_behindPart_17 : decode prog_11_method_70_code 17 = .ok (.ifCond .ne 21, 3) := by decide +kernel
theorem d_R_behindPart_20 : decode prog_11_method_70_code 20 = .ok (.aload_n 0, 1) := by decide +kernel
theorem d_R_behindPart_21 : decode prog_11_method_70_code 21 = .ok (.bipush 108, 2) := by decide +kernel
theorem d_R_behindPart_23 : decode prog_11_method_70_code 23 = .ok (.bipush 101, 2) := by decide +kernel
theorem d_R_behindPart_25 : decode prog_11_method_70_code 25 = .ok (.bipush 115, 2) := by decide +kernel
theorem d_R_behindPart_27 : decode prog_11_method_70_code 27 = .ok (.bipush 115, 2) := by decide +kernel
theorem d_R_behindPart_29 : decode prog_11_method_70_code 29 = .ok (.invokestatic 188, 3) := by decide +kernel
theorem d_R_behindPart_32 : decode prog_11_method_70_code 32 = .ok (.invokevirtual 251, 3) := by decide +kernel
theorem d_R_behindPart_35 : decode prog_11_method_70_code 35 = .ok (.ifCond .eq 57, 3) := by decide +kernel
theorem d_R_behindPart_38 : decode prog_11_method_70_code 38 = .ok (.aload_n 0, 1) := by decide +kernel
theorem d_R_behindPart_39 : decode prog_11_method_70_code 39 = .ok (.getfield 44, 3) := by decide +kernel
theorem d_R_behindPart_42 : decode prog_11_method_70_code 42 = .ok (.aload_n 0, 1) := by decide +kernel
theorem d_R_behindPart_43 : decode prog_11_method_70_code 43 = .ok (.getfield 213, 3) := by decide +kernel
theorem d_R_behindPart_46 : decode prog_11_method_70_code 46 = .ok (.iload_n 1, 1) := by decide +kernel
theorem d_R_behindPart_47 : decode prog_11_method_70_code 47 = .ok (.ifCond .eq 8, 3) := by decide +kernel
theorem d_R_behindPart_50 : decode prog_11_method_70_code 50 = .ok (.bipush 52, 2) := by decide +kernel
theorem d_R_behindPart_52 : decode prog_11_method_70_code 52 = .ok (.goto 5, 3) := by decide +kernel
theorem d_R_behindPart_55 : decode prog_11_method_70_code 55 = .ok (.bipush 53, 2) := by decide +kernel
theorem d_R_behindPart_57 : decode prog_11_method_70_code 57 = .ok (.iastore, 1) := by decide +kernel
theorem d_R_behindPart_58 : decode prog_11_method_70_code 58 = .ok (.aload_n 0, 1) := by decide +kernel
theorem d_R_behindPart_59 : decode prog_11_method_70_code 59 = .ok (.getfield 47, 3) := by decide +kernel
theorem d_R_behindPart_62 : decode prog_11_method_70_code 62 = .ok (.aload_n 0, 1) := by decide +kernel
theorem d_R_behindPart_63 : decode prog_11_method_70_code 63 = .ok (.getfield 213, 3) := by decide +kernel
theorem d_R_behindPart_66 : decode prog_11_method_70_code 66 = .ok (.aload_n 0, 1) := by decide +kernel
theorem d_R_behindPart_67 : decode prog_11_method_70_code 67 = .ok (.getfield 276, 3) := by decide +kernel
theorem d_R_behindPart_70 : decode prog_11_method_70_code 70 = .ok (.iastore, 1) := by decide +kernel
theorem d_R_behindPart_71 : decode prog_11_method_70_code 71 = .ok (.aload_n 0, 1) := by decide +kernel
theorem d_R_behindPart_72 : decode prog_11_method_70_code 72 = .ok (.dup, 1) := by decide +kernel
theorem d_R_behindPart_73 : decode prog_11_method_70_code 73 = .ok (.getfield 213, 3) := by decide +kernel
theorem d_R_behindPart_76 : decode prog_11_method_70_code 76 = .ok (.iconst 1, 1) := by decide +kernel
theorem d_R_behindPart_77 : decode prog_11_method_70_code 77 = .ok (.iadd, 1) := by decide +kernel
theorem d_R_behindPart_78 : decode prog_11_method_70_code 78 = .ok (.putfield 213, 3) := by decide +kernel
theorem d_R_behindPart_81 : decode prog_11_method_70_code 81 = .ok (.aload_n 0, 1) := by decide +kernel
theorem d_R_behindPart_82 : decode prog_11_method_70_code 82 = .ok (.iconst 0, 1) := by decide +kernel
theorem d_R_behindPart_83 : decode prog_11_method_70_code 83 = .ok (.putfield 242, 3) := by decide +kernel
theorem d_R_behindPart_86 : decode prog_11_method_70_code 86 = .ok (.aload_n 0, 1) := by decide +kernel
theorem d_R_behindPart_87 : decode prog_11_method_70_code 87 = .ok (.invokevirtual 233, 3) := by decide +kernel
theorem d_R_behindPart_90 : decode prog_11_method_70_code 90 = .ok (.iconst 1, 1) := by decide +kernel
theorem d_R_behindPart_91 : decode prog_11_method_70_code 91 = .ok (.ireturn, 1) := by decide +kernel
theorem d_R_behindPart_92 : decode prog_11_method_70_code 92 = .ok (.aload_n 0, 1) := by decide +kernel
theorem d_R_behindPart_93 : decode prog_11_method_70_code 93 = .ok (.getfield 158, 3) := by decide +kernel
theorem d_R_behindPart_96 : decode prog_11_method_70_code 96 = .ok (.bipush 41, 2) := by decide +kernel
theorem d_R_behindPart_98 : decode prog_11_method_70_code 98 = .ok (.if_icmp .ne 10, 3) := by decide +kernel
theorem d_R_behindPart_101 : decode prog_11_method_70_code 101 = .ok (.aload_n 0, 1) := by decide +kernel
theorem d_R_behindPart_102 : decode prog_11_method_70_code 102 = .ok (.getfield 213, 3) := by decide +kernel
theorem d_R_behindPart_105 : decode prog_11_method_70_code 105 = .ok (.ifCond .ne 5, 3) := by decide +kernel
theorem d_R_behindPart_108 : decode prog_11_method_70_code 108 = .ok (.iconst 0, 1) := by decide +kernel
theorem d_R_behindPart_109 : decode prog_11_method_70_code 109 = .ok (.ireturn, 1) := by decide +kernel
theorem d_R_behindPart_110 : decode prog_11_method_70_code 110 = .ok (.aload_n 0, 1) := by decide +kernel
theorem d_R_behindPart_111 : decode prog_11_method_70_code 111 = .ok (.dup, 1) := by decide +kernel
theorem d_R_behindPart_112 : decode prog_11_method_70_code 112 = .ok (.getfield 213, 3) := by decide +kernel
theorem d_R_behindPart_115 : decode prog_11_method_70_code 115 = .ok (.iconst 1, 1) := by decide +kernel
theorem d_R_behindPart_116 : decode prog_11_method_70_code 116 = .ok (.isub, 1) := by decide +kernel
theorem d_R_behindPart_117 : decode prog_11_method_70_code 117 = .ok (.putfield 213, 3) := by decide +kernel
theorem d_R_behindPart_120 : decode prog_11_method_70_code 120 = .ok (.aload_n 0, 1) := by decide +kernel
theorem d_R_behindPart_121 : decode prog_11_method_70_code 121 = .ok (.dup, 1) := by decide +kernel
theorem d_R_behindPart_122 : decode prog_11_method_70_code 122 = .ok (.getfield 223, 3) := by decide +kernel
theorem d_R_behindPart_125 : decode prog_11_method_70_code 125 = .ok (.iconst 1, 1) := by decide +kernel
theorem d_R_behindPart_126 : decode prog_11_method_70_code 126 = .ok (.isub, 1) := by decide +kernel
theorem d_R_behindPart_127 : decode prog_11_method_70_code 127 = .ok (.putfield 223, 3) := by decide +kernel
theorem d_R_behindPart_130 : decode prog_11_method_70_code 130 = .ok (.aload_n 0, 1) := by decide +kernel
theorem d_R_behindPart_131 : decode prog_11_method_70_code 131 = .ok (.invokevirtual 233, 3) := by decide +kernel
theorem d_R_behindPart_134 : decode prog_11_method_70_code 134 = .ok (.aload_n 0, 1) := by decide +kernel
theorem d_R_behindPart_135 : decode prog_11_method_70_code 135 = .ok (.aload_n 0, 1) := by decide +kernel
theorem d_R_behindPart_136 : decode prog_11_method_70_code 136 = .ok (.getfield 276, 3) := by decide +kernel
theorem d_R_behindPart_139 : decode prog_11_method_70_code 139 = .ok (.invokevirtual 282, 3) := by decide +kernel
theorem d_R_behindPart_142 : decode prog_11_method_70_code 142 = .ok (.iconst 1, 1) := by decide +kernel
theorem d_R_behindPart_143 : decode prog_11_method_70_code 143 = .ok (.ireturn, 1) := by decide +kernel
theorem d_R_endPart_0 : decode prog_11_method_67_code 0 = .ok (.aload_n 0, 1) := by decide +kernel
theorem d_R_endPart_1 : decode prog_11_method_67_code 1 = .ok (.iload_n 1, 1) := by decide +kernel
theorem d_R_endPart_2 : decode prog_11_method_67_code 2 = .ok (.putfield 276, 3) := by decide +kernel
theorem d_R_endPart_5 : decode prog_11_method_67_code 5 = .ok (.aload_n 0, 1) := by decide +kernel
theorem d_R_endPart_6 : decode prog_11_method_67_code 6 = .ok (.iconst 1, 1) := by decide +kernel
theorem d_R_endPart_7 : decode prog_11_method_67_code 7 = .ok (.putfield 242, 3) := by decide +kernel
theorem d_R_endPart_10 : decode prog_11_method_67_code 10 = .ok (.aload_n 0, 1) := by decide +kernel
theorem d_R_endPart_11 : decode prog_11_method_67_code 11 = .ok (.getfield 213, 3) := by decide +kernel
theorem d_R_endPart_14 : decode prog_11_method_67_code 14 = .ok (.ifCond .le 133, 3) := by decide +kernel
theorem d_R_endPart_17 : decode prog_11_method_67_code 17 = .ok (.aload_n 0, 1) := by decide +kernel
theorem d_R_endPart_18 : decode prog_11_method_67_code 18 = .ok (.getfield 44, 3) := by decide +kernel
theorem d_R_endPart_21 : decode prog_11_method_67_code 21 = .ok (.aload_n 0, 1) := by decide +kernel
theorem d_R_endPart_22 : decode prog_11_method_67_code 22 = .ok (.getfield 213, 3) := by decide +kernel
theorem d_R_endPart_25 : decode prog_11_method_67_code 25 = .ok (.iconst 1, 1) := by decide +kernel
theorem d_R_endPart_26 : decode prog_11_method_67_code 26 = .ok (.isub, 1) := by decide +kernel
theorem d_R_endPart_27 : decode prog_11_method_67_code 27 = .ok (.iaload, 1) := by decide +kernel
theorem d_R_endPart_28 : decode prog_11_method_67_code 28 = .ok (.bipush 40, 2) := by decide +kernel
theorem d_R_endPart_30 : decode prog_11_method_67_code 30 = .ok (.if_icmp .eq 117, 3) := by decide +kernel
theorem d_R_endPart_33 : decode prog_11_method_67_code 33 = .ok (.aload_n 0, 1) := by decide +kernel
theorem d_R_endPart_34 : decode prog_11_method_67_code 34 = .ok (.dup, 1) := by decide +kernel
theorem d_R_endPart_35 : decode prog_11_method_67_code 35 = .ok (.getfield 213, 3) := by decide +kernel
theorem d_R_endPart_38 : decode prog_11_method_67_code 38 = .ok (.iconst 1, 1) := by decide +kernel
theorem d_R_endPart_39 : decode prog_11_method_67_code 39 = .ok (.isub, 1) := by decide +kernel
theorem d_R_endPart_40 : decode prog_11_method_67_code 40 = .ok (.putfield 213, 3) := by decide +kernel
theorem d_R_endPart_43 : decode prog_11_method_67_code 43 = .ok (.aload_n 0, 1) := by decide +kernel
theorem d_R_endPart_44 : decode prog_11_method_67_code 44 = .ok (.getfield 44, 3) := by decide +kernel
theorem d_R_endPart_47 : decode prog_11_method_67_code 47 = .ok (.aload_n 0, 1) := by decide +kernel
theorem d_R_endPart_48 : decode prog_11_method_67_code 48 = .ok (.getfield 213, 3) := by decide +kernel
theorem d_R_endPart_51 : decode prog_11_method_67_code 51 = .ok (.iaload, 1) := by decide +kernel
theorem d_R_endPart_52 : decode prog_11_method_67_code 52 = .ok (.istore_n 2, 1) := by decide +kernel
theorem d_R_endPart_53 : decode prog_11_method_67_code 53 = .ok (.iload_n 2, 1) := by decide +kernel
theorem d_R_endPart_54 : decode prog_11_method_67_code 54 = .ok (.bipush 50, 2) := by decide +kernel
theorem d_R_endPart_56 : decode prog_11_method_67_code 56 = .ok (.if_icmp .eq 9, 3) := by decide +kernel
theorem d_R_endPart_59 : decode prog_11_method_67_code 59 = .ok (.iload_n 2, 1) := by decide +kernel
theorem d_R_endPart_60 : decode prog_11_method_67_code 60 = .ok (.bipush 51, 2) := by decide +kernel
theorem d_R_endPart_62 : decode prog_11_method_67_code 62 = .ok (.if_icmp .ne 39, 3) := by decide +kernel
theorem d_R_endPart_65 : decode prog_11_method_67_code 65 = .ok (.aload_n 0, 1) := by decide +kernel
theorem d_R_endPart_66 : decode prog_11_method_67_code 66 = .ok (.aload_n 0, 1) := by decide +kernel
theorem d_R_endPart_67 : decode prog_11_method_67_code 67 = .ok (.aload_n 0, 1) := by decide +kernel
theorem d_R_endPart_68 : decode prog_11_method_67_code 68 = .ok (.getfield 276, 3) := by decide +kernel
theorem d_R_endPart_71 : decode prog_11_method_67_code 71 = .ok (.iload_n 2, 1) := by decide +kernel
theorem d_R_endPart_72 : decode prog_11_method_67_code 72 = .ok (.bipush 50, 2) := by decide +kernel
theorem d_R_endPart_74 : decode prog_11_method_67_code 74 = .ok (.if_icmp .ne 7, 3) := by decide +kernel
theorem d_R_endPart_77 : decode prog_11_method_67_code 77 = .ok (.iconst 1, 1) := by decide +kernel
theorem d_R_endPart_78 : decode prog_11_method_67_code 78 = .ok (.goto 4, 3) := by decide +kernel
theorem d_R_endPart_81 : decode prog_11_method_67_code 81 = .ok (.iconst 4, 1) := by decide +kernel
theorem d_R_endPart_82 : decode prog_11_method_67_code 82 = .ok (.invokevirtual 105, 3) := by decide +kernel
theorem d_R_endPart_85 : decode prog_11_method_67_code 85 = .ok (.putfield 276, 3) := by decide +kernel
theorem d_R_endPart_88 : decode prog_11_method_67_code 88 = .ok (.aload_n 0, 1) := by decide +kernel
theorem d_R_endPart_89 : decode prog_11_method_67_code 89 = .ok (.dup, 1) := by decide +kernel
theorem d_R_endPart_90 : decode prog_11_method_67_code 90 = .ok (.getfield 223, 3) := by decide +kernel
theorem d_R_endPart_93 : decode prog_11_method_67_code 93 = .ok (.iconst 1, 1) := by decide +kernel
theorem d_R_endPart_94 : decode prog_11_method_67_code 94 = .ok (.isub, 1) := by decide +kernel
theorem d_R_endPart_95 : decode prog_11_method_67_code 95 = .ok (.putfield 223, 3) := by decide +kernel
theorem d_R_endPart_98 : decode prog_11_method_67_code 98 = .ok (.goto 46, 3) := by decide +kernel
theorem d_R_endPart_101 : decode prog_11_method_67_code 101 = .ok (.aload_n 0, 1) := by decide +kernel
theorem d_R_endPart_102 : decode prog_11_method_67_code 102 = .ok (.iload_n 2, 1) := by decide +kernel
theorem d_R_endPart_103 : decode prog_11_method_67_code 103 = .ok (.bipush 52, 2) := by decide +kernel
theorem d_R_endPart_105 : decode prog_11_method_67_code 105 = .ok (.if_icmp .ne 20, 3) := by decide +kernel
theorem d_R_endPart_108 : decode prog_11_method_67_code 108 = .ok (.aload_n 0, 1) := by decide +kernel
theorem d_R_endPart_109 : decode prog_11_method_67_code 109 = .ok (.getfield 47, 3) := by decide +kernel
theorem d_R_endPart_112 : decode prog_11_method_67_code 112 = .ok (.aload_n 0, 1) := by decide +kernel
theorem d_R_endPart_113 : decode prog_11_method_67_code 113 = .ok (.getfield 213, 3) := by decide +kernel
theorem d_R_endPart_116 : decode prog_11_method_67_code 116 = .ok (.iaload, 1) := by decide +kernel
theorem d_R_endPart_117 : decode prog_11_method_67_code 117 = .ok (.aload_n 0, 1) := by decide +kernel
theorem d_R_endPart_118 : decode prog_11_method_67_code 118 = .ok (.getfield 276, 3) := by decide +kernel
theorem d_R_endPart_121 : decode prog_11_method_67_code 121 = .ok (.ior, 1) := by decide +kernel
theorem d_R_endPart_122 : decode prog_11_method_67_code 122 = .ok (.goto 19, 3) := by decide +kernel
theorem d_R_endPart_125 : decode prog_11_method_67_code 125 = .ok (.aload_n 0, 1) := by decide +kernel
theorem d_R_endPart_126 : decode prog_11_method_67_code 126 = .ok (.getfield 47, 3) := by decide +kernel
theorem d_R_endPart_129 : decode prog_11_method_67_code 129 = .ok (.aload_n 0, 1) := by decide +kernel
theorem d_R_endPart_130 : decode prog_11_method_67_code 130 = .ok (.getfield 213, 3) := by decide +kernel
theorem d_R_endPart_133 : decode prog_11_method_67_code 133 = .ok (.iaload, 1) := by decide +kernel
theorem d_R_endPart_134 : decode prog_11_method_67_code 134 = .ok (.aload_n 0, 1) := by decide +kernel
theorem d_R_endPart_135 : decode prog_11_method_67_code 135 = .ok (.getfield 276, 3) := by decide +kernel
theorem d_R_endPart_138 : decode prog_11_method_67_code 138 = .ok (.iconst (-1), 1) := by decide +kernel
theorem d_R_endPart_139 : decode prog_11_method_67_code 139 = .ok (.ixor, 1) := by decide +kernel
theorem d_R_endPart_140 : decode prog_11_method_67_code 140 = .ok (.iand, 1) := by decide +kernel
theorem d_R_endPart_141 : decode prog_11_method_67_code 141 = .ok (.putfield 276, 3) := by decide +kernel
theorem d_R_endPart_144 : decode prog_11_method_67_code 144 = .ok (.goto (-134), 3) := by decide +kernel
theorem d_R_endPart_147 : decode prog_11_method_67_code 147 = .ok (.return_, 1) := by decide +kernel
theorem d_R_beginPart_0 : decode prog_11_method_69_code 0 = .ok (.aload_n 0, 1) := by decide +kernel
theorem d_R_beginPart_1 : decode prog_11_method_69_code 1 = .ok (.bipush 115, 2) := by decide +kernel
theorem d_R_beginPart_3 : decode prog_11_method_69_code 3 = .ok (.bipush 116, 2) := by decide +kernel
theorem d_R_beginPart_5 : decode prog_11_method_69_code 5 = .ok (.bipush 114, 2) := by decide +kernel
theorem d_R_beginPart_7 : decode prog_11_method_69_code 7 = .ok (.bipush 111, 2) := by decide +kernel
theorem d_R_beginPart_9 : decode prog_11_method_69_code 9 = .ok (.bipush 107, 2) := by decide +kernel
theorem d_R_beginPart_11 : decode prog_11_method_69_code 11 = .ok (.bipush 101, 2) := by decide +kernel
theorem d_R_beginPart_13 : decode prog_11_method_69_code 13 = .ok (.invokestatic 202, 3) := by decide +kernel
theorem d_R_beginPart_16 : decode prog_11_method_69_code 16 = .ok (.invokevirtual 251, 3) := by decide +kernel
theorem d_R_beginPart_19 : decode prog_11_method_69_code 19 = .ok (.ifCond .eq 12, 3) := by decide +kernel
theorem d_R_beginPart_22 : decode prog_11_method_69_code 22 = .ok (.aload_n 0, 1) := by decide +kernel
theorem d_R_beginPart_23 : decode prog_11_method_69_code 23 = .ok (.bipush 19, 2) := by decide +kernel
theorem d_R_beginPart_25 : decode prog_11_method_69_code 25 = .ok (.iconst 0, 1) := by decide +kernel
theorem d_R_beginPart_26 : decode prog_11_method_69_code 26 = .ok (.iconst 0, 1) := by decide +kernel
theorem d_R_beginPart_27 : decode prog_11_method_69_code 27 = .ok (.invokevirtual 285, 3) := by decide +kernel
theorem d_R_beginPart_30 : decode prog_11_method_69_code 30 = .ok (.ireturn, 1) := by decide +kernel
theorem d_R_beginPart_31 : decode prog_11_method_69_code 31 = .ok (.aload_n 0, 1) := by decide +kernel
theorem d_R_beginPart_32 : decode prog_11_method_69_code 32 = .ok (.bipush 98, 2) := by decide +kernel
theorem d_R_beginPart_34 : decode prog_11_method_69_code 34 = .ok (.bipush 97, 2) := by decide +kernel
theorem d_R_beginPart_36 : decode prog_11_method_69_code 36 = .ok (.bipush 114, 2) := by decide +kernel
theorem d_R_beginPart_38 : decode prog_11_method_69_code 38 = .ok (.invokestatic 184, 3) := by decide +kernel
theorem d_R_beginPart_41 : decode prog_11_method_69_code 41 = .ok (.invokevirtual 251, 3) := by decide +kernel
theorem d_R_beginPart_44 : decode prog_11_method_69_code 44 = .ok (.ifCond .eq 11, 3) := by decide +kernel
theorem d_R_beginPart_47 : decode prog_11_method_69_code 47 = .ok (.aload_n 0, 1) := by decide +kernel
theorem d_R_beginPart_48 : decode prog_11_method_69_code 48 = .ok (.iconst 2, 1) := by decide +kernel
theorem d_R_beginPart_49 : decode prog_11_method_69_code 49 = .ok (.iconst 1, 1) := by decide +kernel
theorem d_R_beginPart_50 : decode prog_11_method_69_code 50 = .ok (.iconst 0, 1) := by decide +kernel
theorem d_R_beginPart_51 : decode prog_11_method_69_code 51 = .ok (.invokevirtual 285, 3) := by decide +kernel
theorem d_R_beginPart_54 : decode prog_11_method_69_code 54 = .ok (.ireturn, 1) := by decide +kernel
theorem d_R_beginPart_55 : decode prog_11_method_69_code 55 = .ok (.aload_n 0, 1) := by decide +kernel
theorem d_R_beginPart_56 : decode prog_11_method_69_code 56 = .ok (.bipush 112, 2) := by decide +kernel
theorem d_R_beginPart_58 : decode prog_11_method_69_code 58 = .ok (.bipush 111, 2) := by decide +kernel
theorem d_R_beginPart_60 : decode prog_11_method_69_code 60 = .ok (.bipush 115, 2) := by decide +kernel
theorem d_R_beginPart_62 : decode prog_11_method_69_code 62 = .ok (.bipush 116, 2) := by decide +kernel
theorem d_R_beginPart_64 : decode prog_11_method_69_code 64 = .ok (.invokestatic 188, 3) := by decide +kernel
theorem d_R_beginPart_67 : decode prog_11_method_69_code 67 = .ok (.invokevirtual 251, 3) := by decide +kernel
theorem d_R_beginPart_70 : decode prog_11_method_69_code 70 = .ok (.ifCond .eq 11, 3) := by decide +kernel
theorem d_R_beginPart_73 : decode prog_11_method_69_code 73 = .ok (.aload_n 0, 1) := by decide +kernel
theorem d_R_beginPart_74 : decode prog_11_method_69_code 74 = .ok (.iconst 2, 1) := by decide +kernel
theorem d_R_beginPart_75 : decode prog_11_method_69_code 75 = .ok (.iconst 0, 1) := by decide +kernel
theorem d_R_beginPart_76 : decode prog_11_method_69_code 76 = .ok (.iconst 1, 1) := by decide +kernel
theorem d_R_beginPart_77 : decode prog_11_method_69_code 77 = .ok (.invokevirtual 285, 3) := by decide +kernel
theorem d_R_beginPart_80 : decode prog_11_method_69_code 80 = .ok (.ireturn, 1) := by decide +kernel
theorem d_R_beginPart_81 : decode prog_11_method_69_code 81 = .ok (.aload_n 0, 1) := by decide +kernel
theorem d_R_beginPart_82 : decode prog_11_method_69_code 82 = .ok (.getfield 158, 3) := by decide +kernel
theorem d_R_beginPart_85 : decode prog_11_method_69_code 85 = .ok (.bipush 40, 2) := by decide +kernel
theorem d_R_beginPart_87 : decode prog_11_method_69_code 87 = .ok (.if_icmp .ne 10, 3) := by decide +kernel
theorem d_R_beginPart_90 : decode prog_11_method_69_code 90 = .ok (.aload_n 0, 1) := by decide +kernel
theorem d_R_beginPart_91 : decode prog_11_method_69_code 91 = .ok (.bipush 40, 2) := by decide +kernel
theorem d_R_beginPart_93 : decode prog_11_method_69_code 93 = .ok (.invokevirtual 248, 3) := by decide +kernel
theorem d_R_beginPart_96 : decode prog_11_method_69_code 96 = .ok (.ireturn, 1) := by decide +kernel
theorem d_R_beginPart_97 : decode prog_11_method_69_code 97 = .ok (.aload_n 0, 1) := by decide +kernel
theorem d_R_beginPart_98 : decode prog_11_method_69_code 98 = .ok (.bipush 116, 2) := by decide +kernel
theorem d_R_beginPart_100 : decode prog_11_method_69_code 100 = .ok (.bipush 117, 2) := by decide +kernel
theorem d_R_beginPart_102 : decode prog_11_method_69_code 102 = .ok (.bipush 114, 2) := by decide +kernel
theorem d_R_beginPart_104 : decode prog_11_method_69_code 104 = .ok (.bipush 110, 2) := by decide +kernel
theorem d_R_beginPart_106 : decode prog_11_method_69_code 106 = .ok (.invokestatic 188, 3) := by decide +kernel
theorem d_R_beginPart_109 : decode prog_11_method_69_code 109 = .ok (.invokevirtual 251, 3) := by decide +kernel
theorem d_R_beginPart_112 : decode prog_11_method_69_code 112 = .ok (.ifCond .eq 10, 3) := by decide +kernel
theorem d_R_beginPart_115 : decode prog_11_method_69_code 115 = .ok (.aload_n 0, 1) := by decide +kernel
theorem d_R_beginPart_116 : decode prog_11_method_69_code 116 = .ok (.bipush 50, 2) := by decide +kernel
theorem d_R_beginPart_118 : decode prog_11_method_69_code 118 = .ok (.invokevirtual 248, 3) := by decide +kernel
theorem d_R_beginPart_121 : decode prog_11_method_69_code 121 = .ok (.ireturn, 1) := by decide +kernel
theorem d_R_beginPart_122 : decode prog_11_method_69_code 122 = .ok (.aload_n 0, 1) := by decide +kernel
theorem d_R_beginPart_123 : decode prog_11_method_69_code 123 = .ok (.bipush 116, 2) := by decide +kernel
theorem d_R_beginPart_125 : decode prog_11_method_69_code 125 = .ok (.bipush 105, 2) := by decide +kernel
theorem d_R_beginPart_127 : decode prog_11_method_69_code 127 = .ok (.bipush 112, 2) := by decide +kernel
theorem d_R_beginPart_129 : decode prog_11_method_69_code 129 = .ok (.invokestatic 184, 3) := by decide +kernel
theorem d_R_beginPart_132 : decode prog_11_method_69_code 132 = .ok (.invokevirtual 251, 3) := by decide +kernel
theorem d_R_beginPart_135 : decode prog_11_method_69_code 135 = .ok (.ifCond .eq 10, 3) := by decide +kernel
theorem d_R_beginPart_138 : decode prog_11_method_69_code 138 = .ok (.aload_n 0, 1) := by decide +kernel
theorem d_R_beginPart_139 : decode prog_11_method_69_code 139 = .ok (.bipush 51, 2) := by decide +kernel
theorem d_R_beginPart_141 : decode prog_11_method_69_code 141 = .ok (.invokevirtual 248, 3) := by decide +kernel
theorem d_R_beginPart_144 : decode prog_11_method_69_code 144 = .ok (.ireturn, 1) := by decide +kernel
theorem d_R_beginPart_145 : decode prog_11_method_69_code 145 = .ok (.aload_n 0, 1) := by decide +kernel
theorem d_R_beginPart_146 : decode prog_11_method_69_code 146 = .ok (.bipush 102, 2) := by decide +kernel
theorem d_R_beginPart_148 : decode prog_11_method_69_code 148 = .ok (.bipush 114, 2) := by decide +kernel
theorem d_R_beginPart_150 : decode prog_11_method_69_code 150 = .ok (.bipush 97, 2) := by decide +kernel
theorem d_R_beginPart_152 : decode prog_11_method_69_code 152 = .ok (.bipush 109, 2) := by decide +kernel
theorem d_R_beginPart_154 : decode prog_11_method_69_code 154 = .ok (.bipush 101, 2) := by decide +kernel
theorem d_R_beginPart_156 : decode prog_11_method_69_code 156 = .ok (.invokestatic 192, 3) := by decide +kernel
theorem d_R_beginPart_159 : decode prog_11_method_69_code 159 = .ok (.invokevirtual 251, 3) := by decide +kernel
theorem d_R_beginPart_162 : decode prog_11_method_69_code 162 = .ok (.ifCond .ne 5, 3) := by decide +kernel
theorem d_R_beginPart_165 : decode prog_11_method_69_code 165 = .ok (.iconst 1, 1) := by decide +kernel
theorem d_R_beginPart_166 : decode prog_11_method_69_code 166 = .ok (.ireturn, 1) := by decide +kernel
theorem d_R_beginPart_167 : decode prog_11_method_69_code 167 = .ok (.aload_n 0, 1) := by decide +kernel
theorem d_R_beginPart_168 : decode prog_11_method_69_code 168 = .ok (.invokevirtual 233, 3) := by decide +kernel
theorem d_R_beginPart_171 : decode prog_11_method_69_code 171 = .ok (.aload_n 0, 1) := by decide +kernel
theorem d_R_beginPart_172 : decode prog_11_method_69_code 172 = .ok (.sipush 2931, 3) := by decide +kernel
theorem d_R_beginPart_175 : decode prog_11_method_69_code 175 = .ok (.invokevirtual 282, 3) := by decide +kernel
theorem d_R_beginPart_178 : decode prog_11_method_69_code 178 = .ok (.iconst 0, 1) := by decide +kernel
theorem d_R_beginPart_179 : decode prog_11_method_69_code 179 = .ok (.ireturn, 1) := by decide +kernel
theorem d_R_w6_0 : decode prog_11_method_47_code 0 = .ok (.iload_n 0, 1) := by decide +kernel
theorem d_R_w6_1 : decode prog_11_method_47_code 1 = .ok (.iload_n 1, 1) := by decide +kernel
theorem d_R_w6_2 : decode prog_11_method_47_code 2 = .ok (.iload_n 2, 1) := by decide +kernel
theorem d_R_w6_3 : decode prog_11_method_47_code 3 = .ok (.iload_n 3, 1) := by decide +kernel
theorem d_R_w6_4 : decode prog_11_method_47_code 4 = .ok (.iload 4, 2) := by decide +kernel
theorem d_R_w6_6 : decode prog_11_method_47_code 6 = .ok (.invokestatic 192, 3) := by decide +kernel
theorem d_R_w6_9 : decode prog_11_method_47_code 9 = .ok (.bipush 8, 2) := by decide +kernel
theorem d_R_w6_11 : decode prog_11_method_47_code 11 = .ok (.lshl, 1) := by decide +kernel
theorem d_R_w6_12 : decode prog_11_method_47_code 12 = .ok (.iload 5, 2) := by decide +kernel
theorem d_R_w6_14 : decode prog_11_method_47_code 14 = .ok (.i2l, 1) := by decide +kernel
theorem d_R_w6_15 : decode prog_11_method_47_code 15 = .ok (.lor, 1) := by decide +kernel
theorem d_R_w6_16 : decode prog_11_method_47_code 16 = .ok (.lreturn, 1) := by decide +kernel
theorem d_R_numberedPart_0 : decode prog_11_method_68_code 0 = .ok (.aload_n 0, 1) := by decide +kernel
theorem d_R_numberedPart_1 : decode prog_11_method_68_code 1 = .ok (.iload_n 1, 1) := by decide +kernel
theorem d_R_numberedPart_2 : decode prog_11_method_68_code 2 = .ok (.invokevirtual 279, 3) := by decide +kernel
theorem d_R_numberedPart_5 : decode prog_11_method_68_code 5 = .ok (.istore 4, 2) := by decide +kernel
theorem d_R_numberedPart_7 : decode prog_11_method_68_code 7 = .ok (.iload 4, 2) := by decide +kernel
theorem d_R_numberedPart_9 : decode prog_11_method_68_code 9 = .ok (.ifCond .eq 6, 3) := by decide +kernel
theorem d_R_numberedPart_12 : decode prog_11_method_68_code 12 = .ok (.iload 4, 2) := by decide +kernel
theorem d_R_numberedPart_14 : decode prog_11_method_68_code 14 = .ok (.ireturn, 1) := by decide +kernel
theorem d_R_numberedPart_15 : decode prog_11_method_68_code 15 = .ok (.iload_n 2, 1) := by decide +kernel
theorem d_R_numberedPart_16 : decode prog_11_method_68_code 16 = .ok (.ifCond .eq 14, 3) := by decide +kernel
theorem d_R_numberedPart_19 : decode prog_11_method_68_code 19 = .ok (.iconst 3, 1) := by decide +kernel
theorem d_R_numberedPart_20 : decode prog_11_method_68_code 20 = .ok (.iconst 2, 1) := by decide +kernel
theorem d_R_numberedPart_21 : decode prog_11_method_68_code 21 = .ok (.aload_n 0, 1) := by decide +kernel
theorem d_R_numberedPart_22 : decode prog_11_method_68_code 22 = .ok (.getfield 164, 3) := by decide +kernel
theorem d_R_numberedPart_25 : decode prog_11_method_68_code 25 = .ok (.imul, 1) := by decide +kernel
theorem d_R_numberedPart_26 : decode prog_11_method_68_code 26 = .ok (.ishl, 1) := by decide +kernel
theorem d_R_numberedPart_27 : decode prog_11_method_68_code 27 = .ok (.goto 24, 3) := by decide +kernel
theorem d_R_numberedPart_30 : decode prog_11_method_68_code 30 = .ok (.iload_n 3, 1) := by decide +kernel
theorem d_R_numberedPart_31 : decode prog_11_method_68_code 31 = .ok (.ifCond .eq 14, 3) := by decide +kernel
theorem d_R_numberedPart_34 : decode prog_11_method_68_code 34 = .ok (.sipush 576, 3) := by decide +kernel
theorem d_R_numberedPart_37 : decode prog_11_method_68_code 37 = .ok (.aload_n 0, 1) := by decide +kernel
theorem d_R_numberedPart_38 : decode prog_11_method_68_code 38 = .ok (.getfield 164, 3) := by decide +kernel
theorem d_R_numberedPart_41 : decode prog_11_method_68_code 41 = .ok (.ishl, 1) := by decide +kernel
theorem d_R_numberedPart_42 : decode prog_11_method_68_code 42 = .ok (.goto 9, 3) := by decide +kernel
theorem d_R_numberedPart_45 : decode prog_11_method_68_code 45 = .ok (.iconst 1, 1) := by decide +kernel
theorem d_R_numberedPart_46 : decode prog_11_method_68_code 46 = .ok (.aload_n 0, 1) := by decide +kernel
theorem d_R_numberedPart_47 : decode prog_11_method_68_code 47 = .ok (.getfield 164, 3) := by decide +kernel
theorem d_R_numberedPart_50 : decode prog_11_method_68_code 50 = .ok (.ishl, 1) := by decide +kernel
theorem d_R_numberedPart_51 : decode prog_11_method_68_code 51 = .ok (.istore 5, 2) := by decide +kernel
theorem d_R_numberedPart_53 : decode prog_11_method_68_code 53 = .ok (.aload_n 0, 1) := by decide +kernel
theorem d_R_numberedPart_54 : decode prog_11_method_68_code 54 = .ok (.invokevirtual 233, 3) := by decide +kernel
theorem d_R_numberedPart_57 : decode prog_11_method_68_code 57 = .ok (.aload_n 0, 1) := by decide +kernel
theorem d_R_numberedPart_58 : decode prog_11_method_68_code 58 = .ok (.iload 5, 2) := by decide +kernel
theorem d_R_numberedPart_60 : decode prog_11_method_68_code 60 = .ok (.invokevirtual 282, 3) := by decide +kernel
theorem d_R_numberedPart_63 : decode prog_11_method_68_code 63 = .ok (.iconst 0, 1) := by decide +kernel
theorem d_R_numberedPart_64 : decode prog_11_method_68_code 64 = .ok (.ireturn, 1) := by decide +kernel
theorem d_R_numbered_0 : decode prog_11_method_66_code 0 = .ok (.aload_n 0, 1) := by decide +kernel
theorem d_R_numbered_1 : decode prog_11_method_66_code 1 = .ok (.invokevirtual 233, 3) := by decide +kernel
theorem d_R_numbered_4 : decode prog_11_method_66_code 4 = .ok (.aload_n 0, 1) := by decide +kernel
theorem d_R_numbered_5 : decode prog_11_method_66_code 5 = .ok (.getfield 158, 3) := by decide +kernel
theorem d_R_numbered_8 : decode prog_11_method_66_code 8 = .ok (.iconst 1, 1) := by decide +kernel
theorem d_R_numbered_9 : decode prog_11_method_66_code 9 = .ok (.if_icmp .eq 5, 3) := by decide +kernel
theorem d_R_numbered_12 : decode prog_11_method_66_code 12 = .ok (.iconst 1, 1) := by decide +kernel
theorem d_R_numbered_13 : decode prog_11_method_66_code 13 = .ok (.ireturn, 1) := by decide +kernel
theorem d_R_numbered_14 : decode prog_11_method_66_code 14 = .ok (.aload_n 0, 1) := by decide +kernel
theorem d_R_numbered_15 : decode prog_11_method_66_code 15 = .ok (.getfield 164, 3) := by decide +kernel
theorem d_R_numbered_18 : decode prog_11_method_66_code 18 = .ok (.iconst 0, 1) := by decide +kernel
theorem d_R_numbered_19 : decode prog_11_method_66_code 19 = .ok (.iload_n 1, 1) := by decide +kernel
theorem d_R_numbered_20 : decode prog_11_method_66_code 20 = .ok (.invokestatic 89, 3) := by decide +kernel
theorem d_R_numbered_23 : decode prog_11_method_66_code 23 = .ok (.ifCond .eq 7, 3) := by decide +kernel
theorem d_R_numbered_26 : decode prog_11_method_66_code 26 = .ok (.iconst 0, 1) := by decide +kernel
theorem d_R_numbered_27 : decode prog_11_method_66_code 27 = .ok (.goto 4, 3) := by decide +kernel
theorem d_R_numbered_30 : decode prog_11_method_66_code 30 = .ok (.iconst 2, 1) := by decide +kernel
theorem d_R_numbered_31 : decode prog_11_method_66_code 31 = .ok (.ireturn, 1) := by decide +kernel
theorem d_R_opened_0 : decode prog_11_method_59_code 0 = .ok (.aload_n 0, 1) := by decide +kernel
theorem d_R_opened_1 : decode prog_11_method_59_code 1 = .ok (.getfield 223, 3) := by decide +kernel
theorem d_R_opened_4 : decode prog_11_method_59_code 4 = .ok (.bipush 8, 2) := by decide +kernel
theorem d_R_opened_6 : decode prog_11_method_59_code 6 = .ok (.if_icmp .ne 5, 3) := by decide +kernel
theorem d_R_opened_9 : decode prog_11_method_59_code 9 = .ok (.iconst 3, 1) := by decide +kernel
theorem d_R_opened_10 : decode prog_11_method_59_code 10 = .ok (.ireturn, 1) := by decide +kernel
theorem d_R_opened_11 : decode prog_11_method_59_code 11 = .ok (.aload_n 0, 1) := by decide +kernel
theorem d_R_opened_12 : decode prog_11_method_59_code 12 = .ok (.dup, 1) := by decide +kernel
theorem d_R_opened_13 : decode prog_11_method_59_code 13 = .ok (.getfield 223, 3) := by decide +kernel
theorem d_R_opened_16 : decode prog_11_method_59_code 16 = .ok (.iconst 1, 1) := by decide +kernel
theorem d_R_opened_17 : decode prog_11_method_59_code 17 = .ok (.iadd, 1) := by decide +kernel
theorem d_R_opened_18 : decode prog_11_method_59_code 18 = .ok (.putfield 223, 3) := by decide +kernel
theorem d_R_opened_21 : decode prog_11_method_59_code 21 = .ok (.aload_n 0, 1) := by decide +kernel
theorem d_R_opened_22 : decode prog_11_method_59_code 22 = .ok (.getfield 44, 3) := by decide +kernel
theorem d_R_opened_25 : decode prog_11_method_59_code 25 = .ok (.aload_n 0, 1) := by decide +kernel
theorem d_R_opened_26 : decode prog_11_method_59_code 26 = .ok (.getfield 213, 3) := by decide +kernel
theorem d_R_opened_29 : decode prog_11_method_59_code 29 = .ok (.iload_n 1, 1) := by decide +kernel
theorem d_R_opened_30 : decode prog_11_method_59_code 30 = .ok (.iastore, 1) := by decide +kernel
theorem d_R_opened_31 : decode prog_11_method_59_code 31 = .ok (.aload_n 0, 1) := by decide +kernel
theorem d_R_opened_32 : decode prog_11_method_59_code 32 = .ok (.dup, 1) := by decide +kernel
theorem d_R_opened_33 : decode prog_11_method_59_code 33 = .ok (.getfield 213, 3) := by decide +kernel
theorem d_R_opened_36 : decode prog_11_method_59_code 36 = .ok (.iconst 1, 1) := by decide +kernel
theorem d_R_opened_37 : decode prog_11_method_59_code 37 = .ok (.iadd, 1) := by decide +kernel
theorem d_R_opened_38 : decode prog_11_method_59_code 38 = .ok (.putfield 213, 3) := by decide +kernel
theorem d_R_opened_41 : decode prog_11_method_59_code 41 = .ok (.aload_n 0, 1) := by decide +kernel
theorem d_R_opened_42 : decode prog_11_method_59_code 42 = .ok (.invokevirtual 233, 3) := by decide +kernel
theorem d_R_opened_45 : decode prog_11_method_59_code 45 = .ok (.iconst 0, 1) := by decide +kernel
theorem d_R_opened_46 : decode prog_11_method_59_code 46 = .ok (.ireturn, 1) := by decide +kernel
theorem d_R_pair_0 : decode prog_11_method_75_code 0 = .ok (.aload_n 0, 1) := by decide +kernel
theorem d_R_pair_1 : decode prog_11_method_75_code 1 = .ok (.iload_n 1, 1) := by decide +kernel
theorem d_R_pair_2 : decode prog_11_method_75_code 2 = .ok (.iconst 1, 1) := by decide +kernel
theorem d_R_pair_3 : decode prog_11_method_75_code 3 = .ok (.iadd, 1) := by decide +kernel
theorem d_R_pair_4 : decode prog_11_method_75_code 4 = .ok (.iconst 0, 1) := by decide +kernel
theorem d_R_pair_5 : decode prog_11_method_75_code 5 = .ok (.bipush 19, 2) := by decide +kernel
theorem d_R_pair_7 : decode prog_11_method_75_code 7 = .ok (.invokevirtual 301, 3) := by decide +kernel
theorem d_R_pair_10 : decode prog_11_method_75_code 10 = .ok (.istore 4, 2) := by decide +kernel
theorem d_R_pair_12 : decode prog_11_method_75_code 12 = .ok (.iload 4, 2) := by decide +kernel
theorem d_R_pair_14 : decode prog_11_method_75_code 14 = .ok (.ifCond .eq 6, 3) := by decide +kernel
theorem d_R_pair_17 : decode prog_11_method_75_code 17 = .ok (.iload 4, 2) := by decide +kernel
theorem d_R_pair_19 : decode prog_11_method_75_code 19 = .ok (.ireturn, 1) := by decide +kernel
theorem d_R_pair_20 : decode prog_11_method_75_code 20 = .ok (.aload_n 0, 1) := by decide +kernel
theorem d_R_pair_21 : decode prog_11_method_75_code 21 = .ok (.lload_n 2, 1) := by decide +kernel
theorem d_R_pair_22 : decode prog_11_method_75_code 22 = .ok (.invokevirtual 251, 3) := by decide +kernel
theorem d_R_pair_25 : decode prog_11_method_75_code 25 = .ok (.ifCond .ne 5, 3) := by decide +kernel
theorem d_R_pair_28 : decode prog_11_method_75_code 28 = .ok (.iconst 1, 1) := by decide +kernel
theorem d_R_pair_29 : decode prog_11_method_75_code 29 = .ok (.ireturn, 1) := by decide +kernel
theorem d_R_pair_30 : decode prog_11_method_75_code 30 = .ok (.aload_n 0, 1) := by decide +kernel
theorem d_R_pair_31 : decode prog_11_method_75_code 31 = .ok (.invokevirtual 233, 3) := by decide +kernel
theorem d_R_pair_34 : decode prog_11_method_75_code 34 = .ok (.aload_n 0, 1) := by decide +kernel
theorem d_R_pair_35 : decode prog_11_method_75_code 35 = .ok (.iload_n 1, 1) := by decide +kernel
theorem d_R_pair_36 : decode prog_11_method_75_code 36 = .ok (.iconst 2, 1) := by decide +kernel
theorem d_R_pair_37 : decode prog_11_method_75_code 37 = .ok (.iadd, 1) := by decide +kernel
theorem d_R_pair_38 : decode prog_11_method_75_code 38 = .ok (.iconst 0, 1) := by decide +kernel
theorem d_R_pair_39 : decode prog_11_method_75_code 39 = .ok (.bipush 7, 2) := by decide +kernel
theorem d_R_pair_41 : decode prog_11_method_75_code 41 = .ok (.invokevirtual 301, 3) := by decide +kernel
theorem d_R_pair_44 : decode prog_11_method_75_code 44 = .ok (.ireturn, 1) := by decide +kernel
theorem d_R_figure_0 : decode prog_11_method_72_code 0 = .ok (.aload_n 0, 1) := by decide +kernel
theorem d_R_figure_1 : decode prog_11_method_72_code 1 = .ok (.getfield 158, 3) := by decide +kernel
theorem d_R_figure_4 : decode prog_11_method_72_code 4 = .ok (.iconst 1, 1) := by decide +kernel
theorem d_R_figure_5 : decode prog_11_method_72_code 5 = .ok (.if_icmp .eq 5, 3) := by decide +kernel
theorem d_R_figure_8 : decode prog_11_method_72_code 8 = .ok (.iconst 1, 1) := by decide +kernel
theorem d_R_figure_9 : decode prog_11_method_72_code 9 = .ok (.ireturn, 1) := by decide +kernel
theorem d_R_figure_10 : decode prog_11_method_72_code 10 = .ok (.aload_n 0, 1) := by decide +kernel
theorem d_R_figure_11 : decode prog_11_method_72_code 11 = .ok (.getfield 164, 3) := by decide +kernel
theorem d_R_figure_14 : decode prog_11_method_72_code 14 = .ok (.iload_n 2, 1) := by decide +kernel
theorem d_R_figure_15 : decode prog_11_method_72_code 15 = .ok (.iload_n 3, 1) := by decide +kernel
theorem d_R_figure_16 : decode prog_11_method_72_code 16 = .ok (.invokestatic 89, 3) := by decide +kernel
theorem d_R_figure_19 : decode prog_11_method_72_code 19 = .ok (.ifCond .ne 5, 3) := by decide +kernel
theorem d_R_figure_22 : decode prog_11_method_72_code 22 = .ok (.iconst 2, 1) := by decide +kernel
theorem d_R_figure_23 : decode prog_11_method_72_code 23 = .ok (.ireturn, 1) := by decide +kernel
theorem d_R_figure_24 : decode prog_11_method_72_code 24 = .ok (.aload_n 0, 1) := by decide +kernel
theorem d_R_figure_25 : decode prog_11_method_72_code 25 = .ok (.getfield 28, 3) := by decide +kernel
theorem d_R_figure_28 : decode prog_11_method_72_code 28 = .ok (.iload_n 1, 1) := by decide +kernel
theorem d_R_figure_29 : decode prog_11_method_72_code 29 = .ok (.aload_n 0, 1) := by decide +kernel
theorem d_R_figure_30 : decode prog_11_method_72_code 30 = .ok (.getfield 164, 3) := by decide +kernel
theorem d_R_figure_33 : decode prog_11_method_72_code 33 = .ok (.iastore, 1) := by decide +kernel
theorem d_R_figure_34 : decode prog_11_method_72_code 34 = .ok (.aload_n 0, 1) := by decide +kernel
theorem d_R_figure_35 : decode prog_11_method_72_code 35 = .ok (.invokevirtual 233, 3) := by decide +kernel
theorem d_R_figure_38 : decode prog_11_method_72_code 38 = .ok (.iconst 0, 1) := by decide +kernel
theorem d_R_figure_39 : decode prog_11_method_72_code 39 = .ok (.ireturn, 1) := by decide +kernel
theorem d_R_lawClause_0 : decode prog_11_method_73_code 0 = .ok (.aload_n 0, 1) := by decide +kernel
theorem d_R_lawClause_1 : decode prog_11_method_73_code 1 = .ok (.getfield 28, 3) := by decide +kernel
theorem d_R_lawClause_4 : decode prog_11_method_73_code 4 = .ok (.iload_n 1, 1) := by decide +kernel
theorem d_R_lawClause_5 : decode prog_11_method_73_code 5 = .ok (.iconst 1, 1) := by decide +kernel
theorem d_R_lawClause_6 : decode prog_11_method_73_code 6 = .ok (.iadd, 1) := by decide +kernel
theorem d_R_lawClause_7 : decode prog_11_method_73_code 7 = .ok (.aload_n 0, 1) := by decide +kernel
theorem d_R_lawClause_8 : decode prog_11_method_73_code 8 = .ok (.getfield 199, 3) := by decide +kernel
theorem d_R_lawClause_11 : decode prog_11_method_73_code 11 = .ok (.iastore, 1) := by decide +kernel
theorem d_R_lawClause_12 : decode prog_11_method_73_code 12 = .ok (.aload_n 0, 1) := by decide +kernel
theorem d_R_lawClause_13 : decode prog_11_method_73_code 13 = .ok (.invokevirtual 295, 3) := by decide +kernel
theorem d_R_lawClause_16 : decode prog_11_method_73_code 16 = .ok (.istore_n 2, 1) := by decide +kernel
theorem d_R_lawClause_17 : decode prog_11_method_73_code 17 = .ok (.aload_n 0, 1) := by decide +kernel
theorem d_R_lawClause_18 : decode prog_11_method_73_code 18 = .ok (.getfield 28, 3) := by decide +kernel
theorem d_R_lawClause_21 : decode prog_11_method_73_code 21 = .ok (.iload_n 1, 1) := by decide +kernel
theorem d_R_lawClause_22 : decode prog_11_method_73_code 22 = .ok (.iconst 2, 1) := by decide +kernel
theorem d_R_lawClause_23 : decode prog_11_method_73_code 23 = .ok (.iadd, 1) := by decide +kernel
theorem d_R_lawClause_24 : decode prog_11_method_73_code 24 = .ok (.aload_n 0, 1) := by decide +kernel
theorem d_R_lawClause_25 : decode prog_11_method_73_code 25 = .ok (.getfield 199, 3) := by decide +kernel
theorem d_R_lawClause_28 : decode prog_11_method_73_code 28 = .ok (.iastore, 1) := by decide +kernel
theorem d_R_lawClause_29 : decode prog_11_method_73_code 29 = .ok (.iload_n 2, 1) := by decide +kernel
theorem d_R_lawClause_30 : decode prog_11_method_73_code 30 = .ok (.ireturn, 1) := by decide +kernel
theorem d_R_summed_0 : decode prog_11_method_65_code 0 = .ok (.aload_n 0, 1) := by decide +kernel
theorem d_R_summed_1 : decode prog_11_method_65_code 1 = .ok (.iconst 0, 1) := by decide +kernel
theorem d_R_summed_2 : decode prog_11_method_65_code 2 = .ok (.putfield 213, 3) := by decide +kernel
theorem d_R_summed_5 : decode prog_11_method_65_code 5 = .ok (.aload_n 0, 1) := by decide +kernel
theorem d_R_summed_6 : decode prog_11_method_65_code 6 = .ok (.iconst 0, 1) := by decide +kernel
theorem d_R_summed_7 : decode prog_11_method_65_code 7 = .ok (.putfield 223, 3) := by decide +kernel
theorem d_R_summed_10 : decode prog_11_method_65_code 10 = .ok (.aload_n 0, 1) := by decide +kernel
theorem d_R_summed_11 : decode prog_11_method_65_code 11 = .ok (.iconst 0, 1) := by decide +kernel
theorem d_R_summed_12 : decode prog_11_method_65_code 12 = .ok (.putfield 242, 3) := by decide +kernel
theorem d_R_summed_15 : decode prog_11_method_65_code 15 = .ok (.aload_n 0, 1) := by decide +kernel
theorem d_R_summed_16 : decode prog_11_method_65_code 16 = .ok (.getfield 242, 3) := by decide +kernel
theorem d_R_summed_19 : decode prog_11_method_65_code 19 = .ok (.ifCond .eq 29, 3) := by decide +kernel
theorem d_R_summed_22 : decode prog_11_method_65_code 22 = .ok (.aload_n 0, 1) := by decide +kernel
theorem d_R_summed_23 : decode prog_11_method_65_code 23 = .ok (.invokevirtual 270, 3) := by decide +kernel
theorem d_R_summed_26 : decode prog_11_method_65_code 26 = .ok (.ifCond .eq 6, 3) := by decide +kernel
theorem d_R_summed_29 : decode prog_11_method_65_code 29 = .ok (.goto (-14), 3) := by decide +kernel
theorem d_R_summed_32 : decode prog_11_method_65_code 32 = .ok (.aload_n 0, 1) := by decide +kernel
theorem d_R_summed_33 : decode prog_11_method_65_code 33 = .ok (.invokevirtual 230, 3) := by decide +kernel
theorem d_R_summed_36 : decode prog_11_method_65_code 36 = .ok (.ifCond .lt 5, 3) := by decide +kernel
theorem d_R_summed_39 : decode prog_11_method_65_code 39 = .ok (.iconst 1, 1) := by decide +kernel
theorem d_R_summed_40 : decode prog_11_method_65_code 40 = .ok (.ireturn, 1) := by decide +kernel
theorem d_R_summed_41 : decode prog_11_method_65_code 41 = .ok (.aload_n 0, 1) := by decide +kernel
theorem d_R_summed_42 : decode prog_11_method_65_code 42 = .ok (.iconst 1, 1) := by decide +kernel
theorem d_R_summed_43 : decode prog_11_method_65_code 43 = .ok (.invokevirtual 245, 3) := by decide +kernel
theorem d_R_summed_46 : decode prog_11_method_65_code 46 = .ok (.iconst 0, 1) := by decide +kernel
theorem d_R_summed_47 : decode prog_11_method_65_code 47 = .ok (.ireturn, 1) := by decide +kernel
theorem d_R_summed_48 : decode prog_11_method_65_code 48 = .ok (.aload_n 0, 1) := by decide +kernel
theorem d_R_summed_49 : decode prog_11_method_65_code 49 = .ok (.invokevirtual 273, 3) := by decide +kernel
theorem d_R_summed_52 : decode prog_11_method_65_code 52 = .ok (.istore_n 1, 1) := by decide +kernel
theorem d_R_summed_53 : decode prog_11_method_65_code 53 = .ok (.iload_n 1, 1) := by decide +kernel
theorem d_R_summed_54 : decode prog_11_method_65_code 54 = .ok (.ifCond .eq 5, 3) := by decide +kernel
theorem d_R_summed_57 : decode prog_11_method_65_code 57 = .ok (.iload_n 1, 1) := by decide +kernel
theorem d_R_summed_58 : decode prog_11_method_65_code 58 = .ok (.ireturn, 1) := by decide +kernel
theorem d_R_summed_59 : decode prog_11_method_65_code 59 = .ok (.goto (-44), 3) := by decide +kernel
theorem d_R_behindOne_0 : decode prog_11_method_64_code 0 = .ok (.aload_n 0, 1) := by decide +kernel
theorem d_R_behindOne_1 : decode prog_11_method_64_code 1 = .ok (.invokevirtual 264, 3) := by decide +kernel
theorem d_R_behindOne_4 : decode prog_11_method_64_code 4 = .ok (.istore_n 1, 1) := by decide +kernel
theorem d_R_behindOne_5 : decode prog_11_method_64_code 5 = .ok (.iload_n 1, 1) := by decide +kernel
theorem d_R_behindOne_6 : decode prog_11_method_64_code 6 = .ok (.ifCond .lt 54, 3) := by decide +kernel
theorem d_R_behindOne_9 : decode prog_11_method_64_code 9 = .ok (.aload_n 0, 1) := by decide +kernel
theorem d_R_behindOne_10 : decode prog_11_method_64_code 10 = .ok (.iload_n 1, 1) := by decide +kernel
theorem d_R_behindOne_11 : decode prog_11_method_64_code 11 = .ok (.invokestatic 216, 3) := by decide +kernel
theorem d_R_behindOne_14 : decode prog_11_method_64_code 14 = .ok (.iconst 4, 1) := by decide +kernel
theorem d_R_behindOne_15 : decode prog_11_method_64_code 15 = .ok (.if_icmp .ne 7, 3) := by decide +kernel
theorem d_R_behindOne_18 : decode prog_11_method_64_code 18 = .ok (.iconst 5, 1) := by decide +kernel
theorem d_R_behindOne_19 : decode prog_11_method_64_code 19 = .ok (.goto 7, 3) := by decide +kernel
theorem d_R_behindOne_22 : decode prog_11_method_64_code 22 = .ok (.iload_n 1, 1) := by decide +kernel
theorem d_R_behindOne_23 : decode prog_11_method_64_code 23 = .ok (.invokestatic 216, 3) := by decide +kernel
theorem d_R_behindOne_26 : decode prog_11_method_64_code 26 = .ok (.invokevirtual 245, 3) := by decide +kernel
theorem d_R_behindOne_29 : decode prog_11_method_64_code 29 = .ok (.aload_n 0, 1) := by decide +kernel
theorem d_R_behindOne_30 : decode prog_11_method_64_code 30 = .ok (.getfield 44, 3) := by decide +kernel
theorem d_R_behindOne_33 : decode prog_11_method_64_code 33 = .ok (.aload_n 0, 1) := by decide +kernel
theorem d_R_behindOne_34 : decode prog_11_method_64_code 34 = .ok (.getfield 213, 3) := by decide +kernel
theorem d_R_behindOne_37 : decode prog_11_method_64_code 37 = .ok (.iload_n 1, 1) := by decide +kernel
theorem d_R_behindOne_38 : decode prog_11_method_64_code 38 = .ok (.iastore, 1) := by decide +kernel
theorem d_R_behindOne_39 : decode prog_11_method_64_code 39 = .ok (.aload_n 0, 1) := by decide +kernel
theorem d_R_behindOne_40 : decode prog_11_method_64_code 40 = .ok (.dup, 1) := by decide +kernel
theorem d_R_behindOne_41 : decode prog_11_method_64_code 41 = .ok (.getfield 213, 3) := by decide +kernel
theorem d_R_behindOne_44 : decode prog_11_method_64_code 44 = .ok (.iconst 1, 1) := by decide +kernel
theorem d_R_behindOne_45 : decode prog_11_method_64_code 45 = .ok (.iadd, 1) := by decide +kernel
theorem d_R_behindOne_46 : decode prog_11_method_64_code 46 = .ok (.putfield 213, 3) := by decide +kernel
theorem d_R_behindOne_49 : decode prog_11_method_64_code 49 = .ok (.aload_n 0, 1) := by decide +kernel
theorem d_R_behindOne_50 : decode prog_11_method_64_code 50 = .ok (.iconst 0, 1) := by decide +kernel
theorem d_R_behindOne_51 : decode prog_11_method_64_code 51 = .ok (.putfield 242, 3) := by decide +kernel
theorem d_R_behindOne_54 : decode prog_11_method_64_code 54 = .ok (.aload_n 0, 1) := by decide +kernel
theorem d_R_behindOne_55 : decode prog_11_method_64_code 55 = .ok (.invokevirtual 233, 3) := by decide +kernel
theorem d_R_behindOne_58 : decode prog_11_method_64_code 58 = .ok (.iconst 1, 1) := by decide +kernel
theorem d_R_behindOne_59 : decode prog_11_method_64_code 59 = .ok (.ireturn, 1) := by decide +kernel
theorem d_R_behindOne_60 : decode prog_11_method_64_code 60 = .ok (.aload_n 0, 1) := by decide +kernel
theorem d_R_behindOne_61 : decode prog_11_method_64_code 61 = .ok (.invokevirtual 230, 3) := by decide +kernel
theorem d_R_behindOne_64 : decode prog_11_method_64_code 64 = .ok (.istore_n 2, 1) := by decide +kernel
theorem d_R_behindOne_65 : decode prog_11_method_64_code 65 = .ok (.aload_n 0, 1) := by decide +kernel
theorem d_R_behindOne_66 : decode prog_11_method_64_code 66 = .ok (.iload_n 2, 1) := by decide +kernel
theorem d_R_behindOne_67 : decode prog_11_method_64_code 67 = .ok (.invokevirtual 267, 3) := by decide +kernel
theorem d_R_behindOne_70 : decode prog_11_method_64_code 70 = .ok (.istore_n 3, 1) := by decide +kernel
theorem d_R_behindOne_71 : decode prog_11_method_64_code 71 = .ok (.iload_n 3, 1) := by decide +kernel
theorem d_R_behindOne_72 : decode prog_11_method_64_code 72 = .ok (.ifCond .ge 5, 3) := by decide +kernel
theorem d_R_behindOne_75 : decode prog_11_method_64_code 75 = .ok (.iconst 0, 1) := by decide +kernel
theorem d_R_behindOne_76 : decode prog_11_method_64_code 76 = .ok (.ireturn, 1) := by decide +kernel
theorem d_R_behindOne_77 : decode prog_11_method_64_code 77 = .ok (.aload_n 0, 1) := by decide +kernel
theorem d_R_behindOne_78 : decode prog_11_method_64_code 78 = .ok (.iconst 1, 1) := by decide +kernel
theorem d_R_behindOne_79 : decode prog_11_method_64_code 79 = .ok (.invokevirtual 245, 3) := by decide +kernel
theorem d_R_behindOne_82 : decode prog_11_method_64_code 82 = .ok (.aload_n 0, 1) := by decide +kernel
theorem d_R_behindOne_83 : decode prog_11_method_64_code 83 = .ok (.invokevirtual 233, 3) := by decide +kernel
theorem d_R_behindOne_86 : decode prog_11_method_64_code 86 = .ok (.iload_n 3, 1) := by decide +kernel
theorem d_R_behindOne_87 : decode prog_11_method_64_code 87 = .ok (.ifCond .le 20, 3) := by decide +kernel
theorem d_R_behindOne_90 : decode prog_11_method_64_code 90 = .ok (.aload_n 0, 1) := by decide +kernel
theorem d_R_behindOne_91 : decode prog_11_method_64_code 91 = .ok (.getfield 44, 3) := by decide +kernel
theorem d_R_behindOne_94 : decode prog_11_method_64_code 94 = .ok (.aload_n 0, 1) := by decide +kernel
theorem d_R_behindOne_95 : decode prog_11_method_64_code 95 = .ok (.invokevirtual 226, 3) := by decide +kernel
theorem d_R_behindOne_98 : decode prog_11_method_64_code 98 = .ok (.iload_n 3, 1) := by decide +kernel
theorem d_R_behindOne_99 : decode prog_11_method_64_code 99 = .ok (.iastore, 1) := by decide +kernel
theorem d_R_behindOne_100 : decode prog_11_method_64_code 100 = .ok (.aload_n 0, 1) := by decide +kernel
theorem d_R_behindOne_101 : decode prog_11_method_64_code 101 = .ok (.iconst 0, 1) := by decide +kernel
theorem d_R_behindOne_102 : decode prog_11_method_64_code 102 = .ok (.putfield 242, 3) := by decide +kernel
theorem d_R_behindOne_105 : decode prog_11_method_64_code 105 = .ok (.iconst 1, 1) := by decide +kernel
theorem d_R_behindOne_106 : decode prog_11_method_64_code 106 = .ok (.ireturn, 1) := by decide +kernel
theorem d_R_behindOne_107 : decode prog_11_method_64_code 107 = .ok (.aload_n 0, 1) := by decide +kernel
theorem d_R_behindOne_108 : decode prog_11_method_64_code 108 = .ok (.dup, 1) := by decide +kernel
theorem d_R_behindOne_109 : decode prog_11_method_64_code 109 = .ok (.getfield 223, 3) := by decide +kernel
theorem d_R_behindOne_112 : decode prog_11_method_64_code 112 = .ok (.iconst 1, 1) := by decide +kernel
theorem d_R_behindOne_113 : decode prog_11_method_64_code 113 = .ok (.isub, 1) := by decide +kernel
theorem d_R_behindOne_114 : decode prog_11_method_64_code 114 = .ok (.putfield 223, 3) := by decide +kernel
theorem d_R_behindOne_117 : decode prog_11_method_64_code 117 = .ok (.aload_n 0, 1) := by decide +kernel
theorem d_R_behindOne_118 : decode prog_11_method_64_code 118 = .ok (.dup, 1) := by decide +kernel
theorem d_R_behindOne_119 : decode prog_11_method_64_code 119 = .ok (.getfield 213, 3) := by decide +kernel
theorem d_R_behindOne_122 : decode prog_11_method_64_code 122 = .ok (.iconst 1, 1) := by decide +kernel
theorem d_R_behindOne_123 : decode prog_11_method_64_code 123 = .ok (.isub, 1) := by decide +kernel
theorem d_R_behindOne_124 : decode prog_11_method_64_code 124 = .ok (.putfield 213, 3) := by decide +kernel
theorem d_R_behindOne_127 : decode prog_11_method_64_code 127 = .ok (.iload_n 2, 1) := by decide +kernel
theorem d_R_behindOne_128 : decode prog_11_method_64_code 128 = .ok (.bipush 43, 2) := by decide +kernel
theorem d_R_behindOne_130 : decode prog_11_method_64_code 130 = .ok (.if_icmp .ne 9, 3) := by decide +kernel
theorem d_R_behindOne_133 : decode prog_11_method_64_code 133 = .ok (.aload_n 0, 1) := by decide +kernel
theorem d_R_behindOne_134 : decode prog_11_method_64_code 134 = .ok (.iconst 3, 1) := by decide +kernel
theorem d_R_behindOne_135 : decode prog_11_method_64_code 135 = .ok (.iconst 0, 1) := by decide +kernel
theorem d_R_behindOne_136 : decode prog_11_method_64_code 136 = .ok (.invokevirtual 219, 3) := by decide +kernel
theorem d_R_behindOne_139 : decode prog_11_method_64_code 139 = .ok (.aload_n 0, 1) := by decide +kernel
theorem d_R_behindOne_140 : decode prog_11_method_64_code 140 = .ok (.bipush 7, 2) := by decide +kernel
theorem d_R_behindOne_142 : decode prog_11_method_64_code 142 = .ok (.invokevirtual 245, 3) := by decide +kernel
theorem d_R_behindOne_145 : decode prog_11_method_64_code 145 = .ok (.iconst 1, 1) := by decide +kernel
theorem d_R_behindOne_146 : decode prog_11_method_64_code 146 = .ok (.ireturn, 1) := by decide +kernel
theorem d_R_betweenOf_0 : decode prog_11_method_62_code 0 = .ok (.aload_n 0, 1) := by decide +kernel
theorem d_R_betweenOf_1 : decode prog_11_method_62_code 1 = .ok (.getfield 158, 3) := by decide +kernel
theorem d_R_betweenOf_4 : decode prog_11_method_62_code 4 = .ok (.bipush 43, 2) := by decide +kernel
theorem d_R_betweenOf_6 : decode prog_11_method_62_code 6 = .ok (.if_icmp .ne 6, 3) := by decide +kernel
theorem d_R_betweenOf_9 : decode prog_11_method_62_code 9 = .ok (.bipush 6, 2) := by decide +kernel
theorem d_R_betweenOf_11 : decode prog_11_method_62_code 11 = .ok (.ireturn, 1) := by decide +kernel
theorem d_R_betweenOf_12 : decode prog_11_method_62_code 12 = .ok (.aload_n 0, 1) := by decide +kernel
theorem d_R_betweenOf_13 : decode prog_11_method_62_code 13 = .ok (.getfield 158, 3) := by decide +kernel
theorem d_R_betweenOf_16 : decode prog_11_method_62_code 16 = .ok (.bipush 45, 2) := by decide +kernel
theorem d_R_betweenOf_18 : decode prog_11_method_62_code 18 = .ok (.if_icmp .ne 6, 3) := by decide +kernel
theorem d_R_betweenOf_21 : decode prog_11_method_62_code 21 = .ok (.bipush 7, 2) := by decide +kernel
theorem d_R_betweenOf_23 : decode prog_11_method_62_code 23 = .ok (.ireturn, 1) := by decide +kernel
theorem d_R_betweenOf_24 : decode prog_11_method_62_code 24 = .ok (.aload_n 0, 1) := by decide +kernel
theorem d_R_betweenOf_25 : decode prog_11_method_62_code 25 = .ok (.getfield 158, 3) := by decide +kernel
theorem d_R_betweenOf_28 : decode prog_11_method_62_code 28 = .ok (.bipush 42, 2) := by decide +kernel
theorem d_R_betweenOf_30 : decode prog_11_method_62_code 30 = .ok (.if_icmp .ne 6, 3) := by decide +kernel
theorem d_R_betweenOf_33 : decode prog_11_method_62_code 33 = .ok (.bipush 8, 2) := by decide +kernel
theorem d_R_betweenOf_35 : decode prog_11_method_62_code 35 = .ok (.ireturn, 1) := by decide +kernel
theorem d_R_betweenOf_36 : decode prog_11_method_62_code 36 = .ok (.aload_n 0, 1) := by decide +kernel
theorem d_R_betweenOf_37 : decode prog_11_method_62_code 37 = .ok (.getfield 158, 3) := by decide +kernel
theorem d_R_betweenOf_40 : decode prog_11_method_62_code 40 = .ok (.bipush 47, 2) := by decide +kernel
theorem d_R_betweenOf_42 : decode prog_11_method_62_code 42 = .ok (.if_icmp .ne 6, 3) := by decide +kernel
theorem d_R_betweenOf_45 : decode prog_11_method_62_code 45 = .ok (.bipush 9, 2) := by decide +kernel
theorem d_R_betweenOf_47 : decode prog_11_method_62_code 47 = .ok (.ireturn, 1) := by decide +kernel
theorem d_R_betweenOf_48 : decode prog_11_method_62_code 48 = .ok (.aload_n 0, 1) := by decide +kernel
theorem d_R_betweenOf_49 : decode prog_11_method_62_code 49 = .ok (.invokevirtual 230, 3) := by decide +kernel
theorem d_R_betweenOf_52 : decode prog_11_method_62_code 52 = .ok (.bipush 41, 2) := by decide +kernel
theorem d_R_betweenOf_54 : decode prog_11_method_62_code 54 = .ok (.if_icmp .eq 5, 3) := by decide +kernel
theorem d_R_betweenOf_57 : decode prog_11_method_62_code 57 = .ok (.iconst (-1), 1) := by decide +kernel
theorem d_R_betweenOf_58 : decode prog_11_method_62_code 58 = .ok (.ireturn, 1) := by decide +kernel
theorem d_R_betweenOf_59 : decode prog_11_method_62_code 59 = .ok (.aload_n 0, 1) := by decide +kernel
theorem d_R_betweenOf_60 : decode prog_11_method_62_code 60 = .ok (.invokevirtual 258, 3) := by decide +kernel
theorem d_R_betweenOf_63 : decode prog_11_method_62_code 63 = .ok (.ifCond .ne 8, 3) := by decide +kernel
theorem d_R_betweenOf_66 : decode prog_11_method_62_code 66 = .ok (.aload_n 0, 1) := by decide +kernel
theorem d_R_betweenOf_67 : decode prog_11_method_62_code 67 = .ok (.invokevirtual 261, 3) := by decide +kernel
theorem d_R_betweenOf_70 : decode prog_11_method_62_code 70 = .ok (.ireturn, 1) := by decide +kernel
theorem d_R_betweenOf_71 : decode prog_11_method_62_code 71 = .ok (.aload_n 0, 1) := by decide +kernel
theorem d_R_betweenOf_72 : decode prog_11_method_62_code 72 = .ok (.bipush 97, 2) := by decide +kernel
theorem d_R_betweenOf_74 : decode prog_11_method_62_code 74 = .ok (.bipush 110, 2) := by decide +kernel
theorem d_R_betweenOf_76 : decode prog_11_method_62_code 76 = .ok (.bipush 100, 2) := by decide +kernel
theorem d_R_betweenOf_78 : decode prog_11_method_62_code 78 = .ok (.invokestatic 184, 3) := by decide +kernel
theorem d_R_betweenOf_81 : decode prog_11_method_62_code 81 = .ok (.invokevirtual 251, 3) := by decide +kernel
theorem d_R_betweenOf_84 : decode prog_11_method_62_code 84 = .ok (.ifCond .eq 8, 3) := by decide +kernel
theorem d_R_betweenOf_87 : decode prog_11_method_62_code 87 = .ok (.bipush 21, 2) := by decide +kernel
theorem d_R_betweenOf_89 : decode prog_11_method_62_code 89 = .ok (.goto 23, 3) := by decide +kernel
theorem d_R_betweenOf_92 : decode prog_11_method_62_code 92 = .ok (.aload_n 0, 1) := by decide +kernel
theorem d_R_betweenOf_93 : decode prog_11_method_62_code 93 = .ok (.bipush 111, 2) := by decide +kernel
theorem d_R_betweenOf_95 : decode prog_11_method_62_code 95 = .ok (.bipush 114, 2) := by decide +kernel
theorem d_R_betweenOf_97 : decode prog_11_method_62_code 97 = .ok (.invokestatic 180, 3) := by decide +kernel
theorem d_R_betweenOf_100 : decode prog_11_method_62_code 100 = .ok (.invokevirtual 251, 3) := by decide +kernel
theorem d_R_betweenOf_103 : decode prog_11_method_62_code 103 = .ok (.ifCond .eq 8, 3) := by decide +kernel
theorem d_R_betweenOf_106 : decode prog_11_method_62_code 106 = .ok (.bipush 22, 2) := by decide +kernel
theorem d_R_betweenOf_108 : decode prog_11_method_62_code 108 = .ok (.goto 4, 3) := by decide +kernel
theorem d_R_betweenOf_111 : decode prog_11_method_62_code 111 = .ok (.iconst (-1), 1) := by decide +kernel
theorem d_R_betweenOf_112 : decode prog_11_method_62_code 112 = .ok (.ireturn, 1) := by decide +kernel
theorem d_R_openNow_0 : decode prog_11_method_56_code 0 = .ok (.aload_n 0, 1) := by decide +kernel
theorem d_R_openNow_1 : decode prog_11_method_56_code 1 = .ok (.invokevirtual 226, 3) := by decide +kernel
theorem d_R_openNow_4 : decode prog_11_method_56_code 4 = .ok (.ifCond .ge 7, 3) := by decide +kernel
theorem d_R_openNow_7 : decode prog_11_method_56_code 7 = .ok (.iconst (-1), 1) := by decide +kernel
theorem d_R_openNow_8 : decode prog_11_method_56_code 8 = .ok (.goto 12, 3) := by decide +kernel
theorem d_R_openNow_11 : decode prog_11_method_56_code 11 = .ok (.aload_n 0, 1) := by decide +kernel
theorem d_R_openNow_12 : decode prog_11_method_56_code 12 = .ok (.getfield 44, 3) := by decide +kernel
theorem d_R_openNow_15 : decode prog_11_method_56_code 15 = .ok (.aload_n 0, 1) := by decide +kernel
theorem d_R_openNow_16 : decode prog_11_method_56_code 16 = .ok (.invokevirtual 226, 3) := by decide +kernel
theorem d_R_openNow_19 : decode prog_11_method_56_code 19 = .ok (.iaload, 1) := by decide +kernel
theorem d_R_openNow_20 : decode prog_11_method_56_code 20 = .ok (.ireturn, 1) := by decide +kernel
theorem d_R_openAt_0 : decode prog_11_method_55_code 0 = .ok (.aload_n 0, 1) := by decide +kernel
theorem d_R_openAt_1 : decode prog_11_method_55_code 1 = .ok (.getfield 213, 3) := by decide +kernel
theorem d_R_openAt_4 : decode prog_11_method_55_code 4 = .ok (.iconst 1, 1) := by decide +kernel
theorem d_R_openAt_5 : decode prog_11_method_55_code 5 = .ok (.isub, 1) := by decide +kernel
theorem d_R_openAt_6 : decode prog_11_method_55_code 6 = .ok (.istore_n 1, 1) := by decide +kernel
theorem d_R_openAt_7 : decode prog_11_method_55_code 7 = .ok (.iload_n 1, 1) := by decide +kernel
theorem d_R_openAt_8 : decode prog_11_method_55_code 8 = .ok (.ifCond .lt 20, 3) := by decide +kernel
theorem d_R_openAt_11 : decode prog_11_method_55_code 11 = .ok (.aload_n 0, 1) := by decide +kernel
theorem d_R_openAt_12 : decode prog_11_method_55_code 12 = .ok (.getfield 44, 3) := by decide +kernel
theorem d_R_openAt_15 : decode prog_11_method_55_code 15 = .ok (.iload_n 1, 1) := by decide +kernel
theorem d_R_openAt_16 : decode prog_11_method_55_code 16 = .ok (.iaload, 1) := by decide +kernel
theorem d_R_openAt_17 : decode prog_11_method_55_code 17 = .ok (.bipush 40, 2) := by decide +kernel
theorem d_R_openAt_19 : decode prog_11_method_55_code 19 = .ok (.if_icmp .ge 9, 3) := by decide +kernel
theorem d_R_openAt_22 : decode prog_11_method_55_code 22 = .ok (.iinc 1 (-1), 3) := by decide +kernel
theorem d_R_openAt_25 : decode prog_11_method_55_code 25 = .ok (.goto (-18), 3) := by decide +kernel
theorem d_R_openAt_28 : decode prog_11_method_55_code 28 = .ok (.iload_n 1, 1) := by decide +kernel
theorem d_R_openAt_29 : decode prog_11_method_55_code 29 = .ok (.ireturn, 1) := by decide +kernel
theorem d_R_isCompared_0 : decode prog_11_method_57_code 0 = .ok (.aload_n 0, 1) := by decide +kernel
theorem d_R_isCompared_1 : decode prog_11_method_57_code 1 = .ok (.getfield 213, 3) := by decide +kernel
theorem d_R_isCompared_4 : decode prog_11_method_57_code 4 = .ok (.iconst 1, 1) := by decide +kernel
theorem d_R_isCompared_5 : decode prog_11_method_57_code 5 = .ok (.isub, 1) := by decide +kernel
theorem d_R_isCompared_6 : decode prog_11_method_57_code 6 = .ok (.istore_n 1, 1) := by decide +kernel
theorem d_R_isCompared_7 : decode prog_11_method_57_code 7 = .ok (.iload_n 1, 1) := by decide +kernel
theorem d_R_isCompared_8 : decode prog_11_method_57_code 8 = .ok (.ifCond .lt 22, 3) := by decide +kernel
theorem d_R_isCompared_11 : decode prog_11_method_57_code 11 = .ok (.aload_n 0, 1) := by decide +kernel
theorem d_R_isCompared_12 : decode prog_11_method_57_code 12 = .ok (.getfield 44, 3) := by decide +kernel
theorem d_R_isCompared_15 : decode prog_11_method_57_code 15 = .ok (.iload_n 1, 1) := by decide +kernel
theorem d_R_isCompared_16 : decode prog_11_method_57_code 16 = .ok (.iaload, 1) := by decide +kernel
theorem d_R_isCompared_17 : decode prog_11_method_57_code 17 = .ok (.invokestatic 216, 3) := by decide +kernel
theorem d_R_isCompared_20 : decode prog_11_method_57_code 20 = .ok (.iconst 4, 1) := by decide +kernel
theorem d_R_isCompared_21 : decode prog_11_method_57_code 21 = .ok (.if_icmp .le 9, 3) := by decide +kernel
theorem d_R_isCompared_24 : decode prog_11_method_57_code 24 = .ok (.iinc 1 (-1), 3) := by decide +kernel
theorem d_R_isCompared_27 : decode prog_11_method_57_code 27 = .ok (.goto (-20), 3) := by decide +kernel
theorem d_R_isCompared_30 : decode prog_11_method_57_code 30 = .ok (.iload_n 1, 1) := by decide +kernel
theorem d_R_isCompared_31 : decode prog_11_method_57_code 31 = .ok (.ifCond .lt 20, 3) := by decide +kernel
theorem d_R_isCompared_34 : decode prog_11_method_57_code 34 = .ok (.aload_n 0, 1) := by decide +kernel
theorem d_R_isCompared_35 : decode prog_11_method_57_code 35 = .ok (.getfield 44, 3) := by decide +kernel
theorem d_R_isCompared_38 : decode prog_11_method_57_code 38 = .ok (.iload_n 1, 1) := by decide +kernel
theorem d_R_isCompared_39 : decode prog_11_method_57_code 39 = .ok (.iaload, 1) := by decide +kernel
theorem d_R_isCompared_40 : decode prog_11_method_57_code 40 = .ok (.invokestatic 216, 3) := by decide +kernel
theorem d_R_isCompared_43 : decode prog_11_method_57_code 43 = .ok (.iconst 4, 1) := by decide +kernel
theorem d_R_isCompared_44 : decode prog_11_method_57_code 44 = .ok (.if_icmp .ne 7, 3) := by decide +kernel
theorem d_R_isCompared_47 : decode prog_11_method_57_code 47 = .ok (.iconst 1, 1) := by decide +kernel
theorem d_R_isCompared_48 : decode prog_11_method_57_code 48 = .ok (.goto 4, 3) := by decide +kernel
theorem d_R_isCompared_51 : decode prog_11_method_57_code 51 = .ok (.iconst 0, 1) := by decide +kernel
theorem d_R_isCompared_52 : decode prog_11_method_57_code 52 = .ok (.ireturn, 1) := by decide +kernel
theorem d_R_rank_0 : decode prog_11_method_53_code 0 = .ok (.iload_n 0, 1) := by decide +kernel
theorem d_R_rank_1 : decode prog_11_method_53_code 1 = .ok (.bipush 40, 2) := by decide +kernel
theorem d_R_rank_3 : decode prog_11_method_53_code 3 = .ok (.if_icmp .lt 7, 3) := by decide +kernel
theorem d_R_rank_6 : decode prog_11_method_53_code 6 = .ok (.iconst 0, 1) := by decide +kernel
theorem d_R_rank_7 : decode prog_11_method_53_code 7 = .ok (.goto 66, 3) := by decide +kernel
theorem d_R_rank_10 : decode prog_11_method_53_code 10 = .ok (.iload_n 0, 1) := by decide +kernel
theorem d_R_rank_11 : decode prog_11_method_53_code 11 = .ok (.bipush 22, 2) := by decide +kernel
theorem d_R_rank_13 : decode prog_11_method_53_code 13 = .ok (.if_icmp .ne 7, 3) := by decide +kernel
theorem d_R_rank_16 : decode prog_11_method_53_code 16 = .ok (.iconst 1, 1) := by decide +kernel
theorem d_R_rank_17 : decode prog_11_method_53_code 17 = .ok (.goto 56, 3) := by decide +kernel
theorem d_R_rank_20 : decode prog_11_method_53_code 20 = .ok (.iload_n 0, 1) := by decide +kernel
theorem d_R_rank_21 : decode prog_11_method_53_code 21 = .ok (.bipush 21, 2) := by decide +kernel
theorem d_R_rank_23 : decode prog_11_method_53_code 23 = .ok (.if_icmp .ne 7, 3) := by decide +kernel
theorem d_R_rank_26 : decode prog_11_method_53_code 26 = .ok (.iconst 2, 1) := by decide +kernel
theorem d_R_rank_27 : decode prog_11_method_53_code 27 = .ok (.goto 46, 3) := by decide +kernel
theorem d_R_rank_30 : decode prog_11_method_53_code 30 = .ok (.iload_n 0, 1) := by decide +kernel
theorem d_R_rank_31 : decode prog_11_method_53_code 31 = .ok (.bipush 20, 2) := by decide +kernel
theorem d_R_rank_33 : decode prog_11_method_53_code 33 = .ok (.if_icmp .ne 7, 3) := by decide +kernel
theorem d_R_rank_36 : decode prog_11_method_53_code 36 = .ok (.iconst 3, 1) := by decide +kernel
theorem d_R_rank_37 : decode prog_11_method_53_code 37 = .ok (.goto 36, 3) := by decide +kernel
theorem d_R_rank_40 : decode prog_11_method_53_code 40 = .ok (.iload_n 0, 1) := by decide +kernel
theorem d_R_rank_41 : decode prog_11_method_53_code 41 = .ok (.bipush 10, 2) := by decide +kernel
theorem d_R_rank_43 : decode prog_11_method_53_code 43 = .ok (.if_icmp .lt 7, 3) := by decide +kernel
theorem d_R_rank_46 : decode prog_11_method_53_code 46 = .ok (.iconst 4, 1) := by decide +kernel
theorem d_R_rank_47 : decode prog_11_method_53_code 47 = .ok (.goto 26, 3) := by decide +kernel
theorem d_R_rank_50 : decode prog_11_method_53_code 50 = .ok (.iload_n 0, 1) := by decide +kernel
theorem d_R_rank_51 : decode prog_11_method_53_code 51 = .ok (.bipush 8, 2) := by decide +kernel
theorem d_R_rank_53 : decode prog_11_method_53_code 53 = .ok (.if_icmp .lt 8, 3) := by decide +kernel
theorem d_R_rank_56 : decode prog_11_method_53_code 56 = .ok (.bipush 6, 2) := by decide +kernel
theorem d_R_rank_58 : decode prog_11_method_53_code 58 = .ok (.goto 15, 3) := by decide +kernel
theorem d_R_rank_61 : decode prog_11_method_53_code 61 = .ok (.iload_n 0, 1) := by decide +kernel
theorem d_R_rank_62 : decode prog_11_method_53_code 62 = .ok (.bipush 6, 2) := by decide +kernel
theorem d_R_rank_64 : decode prog_11_method_53_code 64 = .ok (.if_icmp .lt 7, 3) := by decide +kernel
theorem d_R_rank_67 : decode prog_11_method_53_code 67 = .ok (.iconst 5, 1) := by decide +kernel
theorem d_R_rank_68 : decode prog_11_method_53_code 68 = .ok (.goto 5, 3) := by decide +kernel
theorem d_R_rank_71 : decode prog_11_method_53_code 71 = .ok (.bipush 7, 2) := by decide +kernel
theorem d_R_rank_73 : decode prog_11_method_53_code 73 = .ok (.ireturn, 1) := by decide +kernel
theorem d_R_compareOf_0 : decode prog_11_method_61_code 0 = .ok (.aload_n 0, 1) := by decide +kernel
theorem d_R_compareOf_1 : decode prog_11_method_61_code 1 = .ok (.getfield 158, 3) := by decide +kernel
theorem d_R_compareOf_4 : decode prog_11_method_61_code 4 = .ok (.bipush 60, 2) := by decide +kernel
theorem d_R_compareOf_6 : decode prog_11_method_61_code 6 = .ok (.if_icmp .ne 8, 3) := by decide +kernel
theorem d_R_compareOf_9 : decode prog_11_method_61_code 9 = .ok (.bipush 10, 2) := by decide +kernel
theorem d_R_compareOf_11 : decode prog_11_method_61_code 11 = .ok (.goto 72, 3) := by decide +kernel
theorem d_R_compareOf_14 : decode prog_11_method_61_code 14 = .ok (.aload_n 0, 1) := by decide +kernel
theorem d_R_compareOf_15 : decode prog_11_method_61_code 15 = .ok (.getfield 158, 3) := by decide +kernel
theorem d_R_compareOf_18 : decode prog_11_method_61_code 18 = .ok (.iconst 4, 1) := by decide +kernel
theorem d_R_compareOf_19 : decode prog_11_method_61_code 19 = .ok (.if_icmp .ne 8, 3) := by decide +kernel
theorem d_R_compareOf_22 : decode prog_11_method_61_code 22 = .ok (.bipush 11, 2) := by decide +kernel
theorem d_R_compareOf_24 : decode prog_11_method_61_code 24 = .ok (.goto 59, 3) := by decide +kernel
theorem d_R_compareOf_27 : decode prog_11_method_61_code 27 = .ok (.aload_n 0, 1) := by decide +kernel
theorem d_R_compareOf_28 : decode prog_11_method_61_code 28 = .ok (.getfield 158, 3) := by decide +kernel
theorem d_R_compareOf_31 : decode prog_11_method_61_code 31 = .ok (.bipush 62, 2) := by decide +kernel
theorem d_R_compareOf_33 : decode prog_11_method_61_code 33 = .ok (.if_icmp .ne 8, 3) := by decide +kernel
theorem d_R_compareOf_36 : decode prog_11_method_61_code 36 = .ok (.bipush 12, 2) := by decide +kernel
theorem d_R_compareOf_38 : decode prog_11_method_61_code 38 = .ok (.goto 45, 3) := by decide +kernel
theorem d_R_compareOf_41 : decode prog_11_method_61_code 41 = .ok (.aload_n 0, 1) := by decide +kernel
theorem d_R_compareOf_42 : decode prog_11_method_61_code 42 = .ok (.getfield 158, 3) := by decide +kernel
theorem d_R_compareOf_45 : decode prog_11_method_61_code 45 = .ok (.iconst 5, 1) := by decide +kernel
theorem d_R_compareOf_46 : decode prog_11_method_61_code 46 = .ok (.if_icmp .ne 8, 3) := by decide +kernel
theorem d_R_compareOf_49 : decode prog_11_method_61_code 49 = .ok (.bipush 13, 2) := by decide +kernel
theorem d_R_compareOf_51 : decode prog_11_method_61_code 51 = .ok (.goto 32, 3) := by decide +kernel
theorem d_R_compareOf_54 : decode prog_11_method_61_code 54 = .ok (.aload_n 0, 1) := by decide +kernel
theorem d_R_compareOf_55 : decode prog_11_method_61_code 55 = .ok (.getfield 158, 3) := by decide +kernel
theorem d_R_compareOf_58 : decode prog_11_method_61_code 58 = .ok (.bipush 61, 2) := by decide +kernel
theorem d_R_compareOf_60 : decode prog_11_method_61_code 60 = .ok (.if_icmp .ne 8, 3) := by decide +kernel
theorem d_R_compareOf_63 : decode prog_11_method_61_code 63 = .ok (.bipush 14, 2) := by decide +kernel
theorem d_R_compareOf_65 : decode prog_11_method_61_code 65 = .ok (.goto 18, 3) := by decide +kernel
theorem d_R_compareOf_68 : decode prog_11_method_61_code 68 = .ok (.aload_n 0, 1) := by decide +kernel
theorem d_R_compareOf_69 : decode prog_11_method_61_code 69 = .ok (.getfield 158, 3) := by decide +kernel
theorem d_R_compareOf_72 : decode prog_11_method_61_code 72 = .ok (.bipush 35, 2) := by decide +kernel
theorem d_R_compareOf_74 : decode prog_11_method_61_code 74 = .ok (.if_icmp .ne 8, 3) := by decide +kernel
theorem d_R_compareOf_77 : decode prog_11_method_61_code 77 = .ok (.bipush 15, 2) := by decide +kernel
theorem d_R_compareOf_79 : decode prog_11_method_61_code 79 = .ok (.goto 4, 3) := by decide +kernel
theorem d_R_compareOf_82 : decode prog_11_method_61_code 82 = .ok (.iconst (-1), 1) := by decide +kernel
theorem d_R_compareOf_83 : decode prog_11_method_61_code 83 = .ok (.ireturn, 1) := by decide +kernel
theorem d_R_settle_0 : decode prog_11_method_54_code 0 = .ok (.aload_n 0, 1) := by decide +kernel
theorem d_R_settle_1 : decode prog_11_method_54_code 1 = .ok (.getfield 213, 3) := by decide +kernel
theorem d_R_settle_4 : decode prog_11_method_54_code 4 = .ok (.ifCond .le 89, 3) := by decide +kernel
theorem d_R_settle_7 : decode prog_11_method_54_code 7 = .ok (.aload_n 0, 1) := by decide +kernel
theorem d_R_settle_8 : decode prog_11_method_54_code 8 = .ok (.getfield 44, 3) := by decide +kernel
theorem d_R_settle_11 : decode prog_11_method_54_code 11 = .ok (.aload_n 0, 1) := by decide +kernel
theorem d_R_settle_12 : decode prog_11_method_54_code 12 = .ok (.getfield 213, 3) := by decide +kernel
theorem d_R_settle_15 : decode prog_11_method_54_code 15 = .ok (.iconst 1, 1) := by decide +kernel
theorem d_R_settle_16 : decode prog_11_method_54_code 16 = .ok (.isub, 1) := by decide +kernel
theorem d_R_settle_17 : decode prog_11_method_54_code 17 = .ok (.iaload, 1) := by decide +kernel
theorem d_R_settle_18 : decode prog_11_method_54_code 18 = .ok (.invokestatic 216, 3) := by decide +kernel
theorem d_R_settle_21 : decode prog_11_method_54_code 21 = .ok (.iload_n 1, 1) := by decide +kernel
theorem d_R_settle_22 : decode prog_11_method_54_code 22 = .ok (.if_icmp .lt 71, 3) := by decide +kernel
theorem d_R_settle_25 : decode prog_11_method_54_code 25 = .ok (.aload_n 0, 1) := by decide +kernel
theorem d_R_settle_26 : decode prog_11_method_54_code 26 = .ok (.dup, 1) := by decide +kernel
theorem d_R_settle_27 : decode prog_11_method_54_code 27 = .ok (.getfield 213, 3) := by decide +kernel
theorem d_R_settle_30 : decode prog_11_method_54_code 30 = .ok (.iconst 1, 1) := by decide +kernel
theorem d_R_settle_31 : decode prog_11_method_54_code 31 = .ok (.isub, 1) := by decide +kernel
theorem d_R_settle_32 : decode prog_11_method_54_code 32 = .ok (.putfield 213, 3) := by decide +kernel
theorem d_R_settle_35 : decode prog_11_method_54_code 35 = .ok (.aload_n 0, 1) := by decide +kernel
theorem d_R_settle_36 : decode prog_11_method_54_code 36 = .ok (.aload_n 0, 1) := by decide +kernel
theorem d_R_settle_37 : decode prog_11_method_54_code 37 = .ok (.getfield 44, 3) := by decide +kernel
theorem d_R_settle_40 : decode prog_11_method_54_code 40 = .ok (.aload_n 0, 1) := by decide +kernel
theorem d_R_settle_41 : decode prog_11_method_54_code 41 = .ok (.getfield 213, 3) := by decide +kernel
theorem d_R_settle_44 : decode prog_11_method_54_code 44 = .ok (.iaload, 1) := by decide +kernel
theorem d_R_settle_45 : decode prog_11_method_54_code 45 = .ok (.iconst 0, 1) := by decide +kernel
theorem d_R_settle_46 : decode prog_11_method_54_code 46 = .ok (.invokevirtual 219, 3) := by decide +kernel
theorem d_R_settle_49 : decode prog_11_method_54_code 49 = .ok (.aload_n 0, 1) := by decide +kernel
theorem d_R_settle_50 : decode prog_11_method_54_code 50 = .ok (.getfield 44, 3) := by decide +kernel
theorem d_R_settle_53 : decode prog_11_method_54_code 53 = .ok (.aload_n 0, 1) := by decide +kernel
theorem d_R_settle_54 : decode prog_11_method_54_code 54 = .ok (.getfield 213, 3) := by decide +kernel
theorem d_R_settle_57 : decode prog_11_method_54_code 57 = .ok (.iaload, 1) := by decide +kernel
theorem d_R_settle_58 : decode prog_11_method_54_code 58 = .ok (.invokestatic 216, 3) := by decide +kernel
theorem d_R_settle_61 : decode prog_11_method_54_code 61 = .ok (.bipush 7, 2) := by decide +kernel
theorem d_R_settle_63 : decode prog_11_method_54_code 63 = .ok (.if_icmp .eq 17, 3) := by decide +kernel
theorem d_R_settle_66 : decode prog_11_method_54_code 66 = .ok (.aload_n 0, 1) := by decide +kernel
theorem d_R_settle_67 : decode prog_11_method_54_code 67 = .ok (.getfield 44, 3) := by decide +kernel
theorem d_R_settle_70 : decode prog_11_method_54_code 70 = .ok (.aload_n 0, 1) := by decide +kernel
theorem d_R_settle_71 : decode prog_11_method_54_code 71 = .ok (.getfield 213, 3) := by decide +kernel
theorem d_R_settle_74 : decode prog_11_method_54_code 74 = .ok (.iaload, 1) := by decide +kernel
theorem d_R_settle_75 : decode prog_11_method_54_code 75 = .ok (.bipush 20, 2) := by decide +kernel
theorem d_R_settle_77 : decode prog_11_method_54_code 77 = .ok (.if_icmp .ne (-77), 3) := by decide +kernel
theorem d_R_settle_80 : decode prog_11_method_54_code 80 = .ok (.aload_n 0, 1) := by decide +kernel
theorem d_R_settle_81 : decode prog_11_method_54_code 81 = .ok (.dup, 1) := by decide +kernel
theorem d_R_settle_82 : decode prog_11_method_54_code 82 = .ok (.getfield 223, 3) := by decide +kernel
theorem d_R_settle_85 : decode prog_11_method_54_code 85 = .ok (.iconst 1, 1) := by decide +kernel
theorem d_R_settle_86 : decode prog_11_method_54_code 86 = .ok (.isub, 1) := by decide +kernel
theorem d_R_settle_87 : decode prog_11_method_54_code 87 = .ok (.putfield 223, 3) := by decide +kernel
theorem d_R_settle_90 : decode prog_11_method_54_code 90 = .ok (.goto (-90), 3) := by decide +kernel
theorem d_R_settle_93 : decode prog_11_method_54_code 93 = .ok (.return_, 1) := by decide +kernel
theorem d_R_emit_0 : decode prog_11_method_49_code 0 = .ok (.aload_n 0, 1) := by decide +kernel
theorem d_R_emit_1 : decode prog_11_method_49_code 1 = .ok (.getfield 28, 3) := by decide +kernel
theorem d_R_emit_4 : decode prog_11_method_49_code 4 = .ok (.aload_n 0, 1) := by decide +kernel
theorem d_R_emit_5 : decode prog_11_method_49_code 5 = .ok (.getfield 196, 3) := by decide +kernel
theorem d_R_emit_8 : decode prog_11_method_49_code 8 = .ok (.bipush 73, 2) := by decide +kernel
theorem d_R_emit_10 : decode prog_11_method_49_code 10 = .ok (.iadd, 1) := by decide +kernel
theorem d_R_emit_11 : decode prog_11_method_49_code 11 = .ok (.iconst 2, 1) := by decide +kernel
theorem d_R_emit_12 : decode prog_11_method_49_code 12 = .ok (.aload_n 0, 1) := by decide +kernel
theorem d_R_emit_13 : decode prog_11_method_49_code 13 = .ok (.getfield 199, 3) := by decide +kernel
theorem d_R_emit_16 : decode prog_11_method_49_code 16 = .ok (.imul, 1) := by decide +kernel
theorem d_R_emit_17 : decode prog_11_method_49_code 17 = .ok (.iadd, 1) := by decide +kernel
theorem d_R_emit_18 : decode prog_11_method_49_code 18 = .ok (.iload_n 1, 1) := by decide +kernel
theorem d_R_emit_19 : decode prog_11_method_49_code 19 = .ok (.iastore, 1) := by decide +kernel
theorem d_R_emit_20 : decode prog_11_method_49_code 20 = .ok (.aload_n 0, 1) := by decide +kernel
theorem d_R_emit_21 : decode prog_11_method_49_code 21 = .ok (.getfield 28, 3) := by decide +kernel
theorem d_R_emit_24 : decode prog_11_method_49_code 24 = .ok (.aload_n 0, 1) := by decide +kernel
theorem d_R_emit_25 : decode prog_11_method_49_code 25 = .ok (.getfield 196, 3) := by decide +kernel
theorem d_R_emit_28 : decode prog_11_method_49_code 28 = .ok (.bipush 73, 2) := by decide +kernel
theorem d_R_emit_30 : decode prog_11_method_49_code 30 = .ok (.iadd, 1) := by decide +kernel
theorem d_R_emit_31 : decode prog_11_method_49_code 31 = .ok (.iconst 2, 1) := by decide +kernel
theorem d_R_emit_32 : decode prog_11_method_49_code 32 = .ok (.aload_n 0, 1) := by decide +kernel
theorem d_R_emit_33 : decode prog_11_method_49_code 33 = .ok (.getfield 199, 3) := by decide +kernel
theorem d_R_emit_36 : decode prog_11_method_49_code 36 = .ok (.imul, 1) := by decide +kernel
theorem d_R_emit_37 : decode prog_11_method_49_code 37 = .ok (.iadd, 1) := by decide +kernel
theorem d_R_emit_38 : decode prog_11_method_49_code 38 = .ok (.iconst 1, 1) := by decide +kernel
theorem d_R_emit_39 : decode prog_11_method_49_code 39 = .ok (.iadd, 1) := by decide +kernel
theorem d_R_emit_40 : decode prog_11_method_49_code 40 = .ok (.iload_n 2, 1) := by decide +kernel
theorem d_R_emit_41 : decode prog_11_method_49_code 41 = .ok (.iastore, 1) := by decide +kernel
theorem d_R_emit_42 : decode prog_11_method_49_code 42 = .ok (.aload_n 0, 1) := by decide +kernel
theorem d_R_emit_43 : decode prog_11_method_49_code 43 = .ok (.dup, 1) := by decide +kernel
theorem d_R_emit_44 : decode prog_11_method_49_code 44 = .ok (.getfield 199, 3) := by decide +kernel
theorem d_R_emit_47 : decode prog_11_method_49_code 47 = .ok (.iconst 1, 1) := by decide +kernel
theorem d_R_emit_48 : decode prog_11_method_49_code 48 = .ok (.iadd, 1) := by decide +kernel
theorem d_R_emit_49 : decode prog_11_method_49_code 49 = .ok (.putfield 199, 3) := by decide +kernel
theorem d_R_emit_52 : decode prog_11_method_49_code 52 = .ok (.return_, 1) := by decide +kernel
theorem d_R_partOf_0 : decode prog_11_method_63_code 0 = .ok (.iload_n 1, 1) := by decide +kernel
theorem d_R_partOf_1 : decode prog_11_method_63_code 1 = .ok (.tableswitch 125 40 43 #[31, 46, 78, 103], 31) := by decide +kernel
theorem d_R_partOf_32 : decode prog_11_method_63_code 32 = .ok (.aload_n 0, 1) := by decide +kernel
theorem d_R_partOf_33 : decode prog_11_method_63_code 33 = .ok (.getfield 158, 3) := by decide +kernel
theorem d_R_partOf_36 : decode prog_11_method_63_code 36 = .ok (.bipush 41, 2) := by decide +kernel
theorem d_R_partOf_38 : decode prog_11_method_63_code 38 = .ok (.if_icmp .ne 7, 3) := by decide +kernel
theorem d_R_partOf_41 : decode prog_11_method_63_code 41 = .ok (.iconst 0, 1) := by decide +kernel
theorem d_R_partOf_42 : decode prog_11_method_63_code 42 = .ok (.goto 4, 3) := by decide +kernel
theorem d_R_partOf_45 : decode prog_11_method_63_code 45 = .ok (.iconst (-1), 1) := by decide +kernel
theorem d_R_partOf_46 : decode prog_11_method_63_code 46 = .ok (.ireturn, 1) := by decide +kernel
theorem d_R_partOf_47 : decode prog_11_method_63_code 47 = .ok (.aload_n 0, 1) := by decide +kernel
theorem d_R_partOf_48 : decode prog_11_method_63_code 48 = .ok (.bipush 116, 2) := by decide +kernel
theorem d_R_partOf_50 : decode prog_11_method_63_code 50 = .ok (.bipush 104, 2) := by decide +kernel
theorem d_R_partOf_52 : decode prog_11_method_63_code 52 = .ok (.bipush 101, 2) := by decide +kernel
theorem d_R_partOf_54 : decode prog_11_method_63_code 54 = .ok (.bipush 110, 2) := by decide +kernel
theorem d_R_partOf_56 : decode prog_11_method_63_code 56 = .ok (.invokestatic 188, 3) := by decide +kernel
theorem d_R_partOf_59 : decode prog_11_method_63_code 59 = .ok (.invokevirtual 251, 3) := by decide +kernel
theorem d_R_partOf_62 : decode prog_11_method_63_code 62 = .ok (.ifCond .eq 15, 3) := by decide +kernel
theorem d_R_partOf_65 : decode prog_11_method_63_code 65 = .ok (.aload_n 0, 1) := by decide +kernel
theorem d_R_partOf_66 : decode prog_11_method_63_code 66 = .ok (.invokevirtual 258, 3) := by decide +kernel
theorem d_R_partOf_69 : decode prog_11_method_63_code 69 = .ok (.ifCond .eq 8, 3) := by decide +kernel
theorem d_R_partOf_72 : decode prog_11_method_63_code 72 = .ok (.bipush 42, 2) := by decide +kernel
theorem d_R_partOf_74 : decode prog_11_method_63_code 74 = .ok (.goto 4, 3) := by decide +kernel
theorem d_R_partOf_77 : decode prog_11_method_63_code 77 = .ok (.iconst (-1), 1) := by decide +kernel
theorem d_R_partOf_78 : decode prog_11_method_63_code 78 = .ok (.ireturn, 1) := by decide +kernel
theorem d_R_partOf_79 : decode prog_11_method_63_code 79 = .ok (.aload_n 0, 1) := by decide +kernel
theorem d_R_partOf_80 : decode prog_11_method_63_code 80 = .ok (.bipush 101, 2) := by decide +kernel
theorem d_R_partOf_82 : decode prog_11_method_63_code 82 = .ok (.bipush 108, 2) := by decide +kernel
theorem d_R_partOf_84 : decode prog_11_method_63_code 84 = .ok (.bipush 115, 2) := by decide +kernel
theorem d_R_partOf_86 : decode prog_11_method_63_code 86 = .ok (.bipush 101, 2) := by decide +kernel
theorem d_R_partOf_88 : decode prog_11_method_63_code 88 = .ok (.invokestatic 188, 3) := by decide +kernel
theorem d_R_partOf_91 : decode prog_11_method_63_code 91 = .ok (.invokevirtual 251, 3) := by decide +kernel
theorem d_R_partOf_94 : decode prog_11_method_63_code 94 = .ok (.ifCond .eq 8, 3) := by decide +kernel
theorem d_R_partOf_97 : decode prog_11_method_63_code 97 = .ok (.bipush 43, 2) := by decide +kernel
theorem d_R_partOf_99 : decode prog_11_method_63_code 99 = .ok (.goto 4, 3) := by decide +kernel
theorem d_R_partOf_102 : decode prog_11_method_63_code 102 = .ok (.iconst (-1), 1) := by decide +kernel
theorem d_R_partOf_103 : decode prog_11_method_63_code 103 = .ok (.ireturn, 1) := by decide +kernel
theorem d_R_partOf_104 : decode prog_11_method_63_code 104 = .ok (.aload_n 0, 1) := by decide +kernel
theorem d_R_partOf_105 : decode prog_11_method_63_code 105 = .ok (.bipush 101, 2) := by decide +kernel
theorem d_R_partOf_107 : decode prog_11_method_63_code 107 = .ok (.bipush 110, 2) := by decide +kernel
theorem d_R_partOf_109 : decode prog_11_method_63_code 109 = .ok (.bipush 100, 2) := by decide +kernel
theorem d_R_partOf_111 : decode prog_11_method_63_code 111 = .ok (.invokestatic 184, 3) := by decide +kernel
theorem d_R_partOf_114 : decode prog_11_method_63_code 114 = .ok (.invokevirtual 251, 3) := by decide +kernel
theorem d_R_partOf_117 : decode prog_11_method_63_code 117 = .ok (.ifCond .eq 7, 3) := by decide +kernel
theorem d_R_partOf_120 : decode prog_11_method_63_code 120 = .ok (.iconst 0, 1) := by decide +kernel
theorem d_R_partOf_121 : decode prog_11_method_63_code 121 = .ok (.goto 4, 3) := by decide +kernel
theorem d_R_partOf_124 : decode prog_11_method_63_code 124 = .ok (.iconst (-1), 1) := by decide +kernel
theorem d_R_partOf_125 : decode prog_11_method_63_code 125 = .ok (.ireturn, 1) := by decide +kernel
theorem d_R_partOf_126 : decode prog_11_method_63_code 126 = .ok (.iconst (-1), 1) := by decide +kernel
theorem d_R_partOf_127 : decode prog_11_method_63_code 127 = .ok (.ireturn, 1) := by decide +kernel
theorem d_R_beginOne_0 : decode prog_11_method_60_code 0 = .ok (.aload_n 0, 1) := by decide +kernel
theorem d_R_beginOne_1 : decode prog_11_method_60_code 1 = .ok (.getfield 158, 3) := by decide +kernel
theorem d_R_beginOne_4 : decode prog_11_method_60_code 4 = .ok (.iconst 1, 1) := by decide +kernel
theorem d_R_beginOne_5 : decode prog_11_method_60_code 5 = .ok (.if_icmp .ne 15, 3) := by decide +kernel
theorem d_R_beginOne_8 : decode prog_11_method_60_code 8 = .ok (.aload_n 0, 1) := by decide +kernel
theorem d_R_beginOne_9 : decode prog_11_method_60_code 9 = .ok (.getfield 164, 3) := by decide +kernel
theorem d_R_beginOne_12 : decode prog_11_method_60_code 12 = .ok (.sipush 9999, 3) := by decide +kernel
theorem d_R_beginOne_15 : decode prog_11_method_60_code 15 = .ok (.if_icmp .le 5, 3) := by decide +kernel
theorem d_R_beginOne_18 : decode prog_11_method_60_code 18 = .ok (.iconst 2, 1) := by decide +kernel
theorem d_R_beginOne_19 : decode prog_11_method_60_code 19 = .ok (.ireturn, 1) := by decide +kernel
theorem d_R_beginOne_20 : decode prog_11_method_60_code 20 = .ok (.aload_n 0, 1) := by decide +kernel
theorem d_R_beginOne_21 : decode prog_11_method_60_code 21 = .ok (.invokevirtual 236, 3) := by decide +kernel
theorem d_R_beginOne_24 : decode prog_11_method_60_code 24 = .ok (.istore_n 1, 1) := by decide +kernel
theorem d_R_beginOne_25 : decode prog_11_method_60_code 25 = .ok (.iload_n 1, 1) := by decide +kernel
theorem d_R_beginOne_26 : decode prog_11_method_60_code 26 = .ok (.ifCond .lt 13, 3) := by decide +kernel
theorem d_R_beginOne_29 : decode prog_11_method_60_code 29 = .ok (.aload_n 0, 1) := by decide +kernel
theorem d_R_beginOne_30 : decode prog_11_method_60_code 30 = .ok (.iload_n 1, 1) := by decide +kernel
theorem d_R_beginOne_31 : decode prog_11_method_60_code 31 = .ok (.invokevirtual 239, 3) := by decide +kernel
theorem d_R_beginOne_34 : decode prog_11_method_60_code 34 = .ok (.ifCond .ne 5, 3) := by decide +kernel
theorem d_R_beginOne_37 : decode prog_11_method_60_code 37 = .ok (.iconst 5, 1) := by decide +kernel
theorem d_R_beginOne_38 : decode prog_11_method_60_code 38 = .ok (.ireturn, 1) := by decide +kernel
theorem d_R_beginOne_39 : decode prog_11_method_60_code 39 = .ok (.aload_n 0, 1) := by decide +kernel
theorem d_R_beginOne_40 : decode prog_11_method_60_code 40 = .ok (.getfield 158, 3) := by decide +kernel
theorem d_R_beginOne_43 : decode prog_11_method_60_code 43 = .ok (.iconst 1, 1) := by decide +kernel
theorem d_R_beginOne_44 : decode prog_11_method_60_code 44 = .ok (.if_icmp .eq 7, 3) := by decide +kernel
theorem d_R_beginOne_47 : decode prog_11_method_60_code 47 = .ok (.iload_n 1, 1) := by decide +kernel
theorem d_R_beginOne_48 : decode prog_11_method_60_code 48 = .ok (.ifCond .lt 53, 3) := by decide +kernel
theorem d_R_beginOne_51 : decode prog_11_method_60_code 51 = .ok (.aload_n 0, 1) := by decide +kernel
theorem d_R_beginOne_52 : decode prog_11_method_60_code 52 = .ok (.aload_n 0, 1) := by decide +kernel
theorem d_R_beginOne_53 : decode prog_11_method_60_code 53 = .ok (.getfield 158, 3) := by decide +kernel
theorem d_R_beginOne_56 : decode prog_11_method_60_code 56 = .ok (.iconst 1, 1) := by decide +kernel
theorem d_R_beginOne_57 : decode prog_11_method_60_code 57 = .ok (.if_icmp .ne 7, 3) := by decide +kernel
theorem d_R_beginOne_60 : decode prog_11_method_60_code 60 = .ok (.iconst 0, 1) := by decide +kernel
theorem d_R_beginOne_61 : decode prog_11_method_60_code 61 = .ok (.goto 4, 3) := by decide +kernel
theorem d_R_beginOne_64 : decode prog_11_method_60_code 64 = .ok (.iconst 1, 1) := by decide +kernel
theorem d_R_beginOne_65 : decode prog_11_method_60_code 65 = .ok (.aload_n 0, 1) := by decide +kernel
theorem d_R_beginOne_66 : decode prog_11_method_60_code 66 = .ok (.getfield 158, 3) := by decide +kernel
theorem d_R_beginOne_69 : decode prog_11_method_60_code 69 = .ok (.iconst 1, 1) := by decide +kernel
theorem d_R_beginOne_70 : decode prog_11_method_60_code 70 = .ok (.if_icmp .ne 10, 3) := by decide +kernel
theorem d_R_beginOne_73 : decode prog_11_method_60_code 73 = .ok (.aload_n 0, 1) := by decide +kernel
theorem d_R_beginOne_74 : decode prog_11_method_60_code 74 = .ok (.getfield 164, 3) := by decide +kernel
theorem d_R_beginOne_77 : decode prog_11_method_60_code 77 = .ok (.goto 4, 3) := by decide +kernel
theorem d_R_beginOne_80 : decode prog_11_method_60_code 80 = .ok (.iload_n 1, 1) := by decide +kernel
theorem d_R_beginOne_81 : decode prog_11_method_60_code 81 = .ok (.invokevirtual 219, 3) := by decide +kernel
theorem d_R_beginOne_84 : decode prog_11_method_60_code 84 = .ok (.aload_n 0, 1) := by decide +kernel
theorem d_R_beginOne_85 : decode prog_11_method_60_code 85 = .ok (.invokevirtual 233, 3) := by decide +kernel
theorem d_R_beginOne_88 : decode prog_11_method_60_code 88 = .ok (.aload_n 0, 1) := by decide +kernel
theorem d_R_beginOne_89 : decode prog_11_method_60_code 89 = .ok (.iconst 1, 1) := by decide +kernel
theorem d_R_beginOne_90 : decode prog_11_method_60_code 90 = .ok (.putfield 242, 3) := by decide +kernel
theorem d_R_beginOne_93 : decode prog_11_method_60_code 93 = .ok (.aload_n 0, 1) := by decide +kernel
theorem d_R_beginOne_94 : decode prog_11_method_60_code 94 = .ok (.bipush 7, 2) := by decide +kernel
theorem d_R_beginOne_96 : decode prog_11_method_60_code 96 = .ok (.invokevirtual 245, 3) := by decide +kernel
theorem d_R_beginOne_99 : decode prog_11_method_60_code 99 = .ok (.iconst 0, 1) := by decide +kernel
theorem d_R_beginOne_100 : decode prog_11_method_60_code 100 = .ok (.ireturn, 1) := by decide +kernel
theorem d_R_beginOne_101 : decode prog_11_method_60_code 101 = .ok (.aload_n 0, 1) := by decide +kernel
theorem d_R_beginOne_102 : decode prog_11_method_60_code 102 = .ok (.getfield 158, 3) := by decide +kernel
theorem d_R_beginOne_105 : decode prog_11_method_60_code 105 = .ok (.bipush 40, 2) := by decide +kernel
theorem d_R_beginOne_107 : decode prog_11_method_60_code 107 = .ok (.if_icmp .ne 10, 3) := by decide +kernel
theorem d_R_beginOne_110 : decode prog_11_method_60_code 110 = .ok (.aload_n 0, 1) := by decide +kernel
theorem d_R_beginOne_111 : decode prog_11_method_60_code 111 = .ok (.bipush 40, 2) := by decide +kernel
theorem d_R_beginOne_113 : decode prog_11_method_60_code 113 = .ok (.invokevirtual 248, 3) := by decide +kernel
theorem d_R_beginOne_116 : decode prog_11_method_60_code 116 = .ok (.ireturn, 1) := by decide +kernel
theorem d_R_beginOne_117 : decode prog_11_method_60_code 117 = .ok (.aload_n 0, 1) := by decide +kernel
theorem d_R_beginOne_118 : decode prog_11_method_60_code 118 = .ok (.getfield 158, 3) := by decide +kernel
theorem d_R_beginOne_121 : decode prog_11_method_60_code 121 = .ok (.bipush 45, 2) := by decide +kernel
theorem d_R_beginOne_123 : decode prog_11_method_60_code 123 = .ok (.if_icmp .ne 9, 3) := by decide +kernel
theorem d_R_beginOne_126 : decode prog_11_method_60_code 126 = .ok (.aload_n 0, 1) := by decide +kernel
theorem d_R_beginOne_127 : decode prog_11_method_60_code 127 = .ok (.iconst 5, 1) := by decide +kernel
theorem d_R_beginOne_128 : decode prog_11_method_60_code 128 = .ok (.invokevirtual 248, 3) := by decide +kernel
theorem d_R_beginOne_131 : decode prog_11_method_60_code 131 = .ok (.ireturn, 1) := by decide +kernel
theorem d_R_beginOne_132 : decode prog_11_method_60_code 132 = .ok (.aload_n 0, 1) := by decide +kernel
theorem d_R_beginOne_133 : decode prog_11_method_60_code 133 = .ok (.bipush 115, 2) := by decide +kernel
theorem d_R_beginOne_135 : decode prog_11_method_60_code 135 = .ok (.bipush 105, 2) := by decide +kernel
theorem d_R_beginOne_137 : decode prog_11_method_60_code 137 = .ok (.bipush 122, 2) := by decide +kernel
theorem d_R_beginOne_139 : decode prog_11_method_60_code 139 = .ok (.bipush 101, 2) := by decide +kernel
theorem d_R_beginOne_141 : decode prog_11_method_60_code 141 = .ok (.invokestatic 188, 3) := by decide +kernel
theorem d_R_beginOne_144 : decode prog_11_method_60_code 144 = .ok (.invokevirtual 251, 3) := by decide +kernel
theorem d_R_beginOne_147 : decode prog_11_method_60_code 147 = .ok (.ifCond .eq 9, 3) := by decide +kernel
theorem d_R_beginOne_150 : decode prog_11_method_60_code 150 = .ok (.aload_n 0, 1) := by decide +kernel
theorem d_R_beginOne_151 : decode prog_11_method_60_code 151 = .ok (.iconst 4, 1) := by decide +kernel
theorem d_R_beginOne_152 : decode prog_11_method_60_code 152 = .ok (.invokevirtual 248, 3) := by decide +kernel
theorem d_R_beginOne_155 : decode prog_11_method_60_code 155 = .ok (.ireturn, 1) := by decide +kernel
theorem d_R_beginOne_156 : decode prog_11_method_60_code 156 = .ok (.aload_n 0, 1) := by decide +kernel
theorem d_R_beginOne_157 : decode prog_11_method_60_code 157 = .ok (.bipush 104, 2) := by decide +kernel
theorem d_R_beginOne_159 : decode prog_11_method_60_code 159 = .ok (.bipush 97, 2) := by decide +kernel
theorem d_R_beginOne_161 : decode prog_11_method_60_code 161 = .ok (.bipush 115, 2) := by decide +kernel
theorem d_R_beginOne_163 : decode prog_11_method_60_code 163 = .ok (.invokestatic 184, 3) := by decide +kernel
theorem d_R_beginOne_166 : decode prog_11_method_60_code 166 = .ok (.invokevirtual 251, 3) := by decide +kernel
theorem d_R_beginOne_169 : decode prog_11_method_60_code 169 = .ok (.ifCond .eq 9, 3) := by decide +kernel
theorem d_R_beginOne_172 : decode prog_11_method_60_code 172 = .ok (.aload_n 0, 1) := by decide +kernel
theorem d_R_beginOne_173 : decode prog_11_method_60_code 173 = .ok (.iconst 2, 1) := by decide +kernel
theorem d_R_beginOne_174 : decode prog_11_method_60_code 174 = .ok (.invokevirtual 248, 3) := by decide +kernel
theorem d_R_beginOne_177 : decode prog_11_method_60_code 177 = .ok (.ireturn, 1) := by decide +kernel
theorem d_R_beginOne_178 : decode prog_11_method_60_code 178 = .ok (.aload_n 0, 1) := by decide +kernel
theorem d_R_beginOne_179 : decode prog_11_method_60_code 179 = .ok (.bipush 105, 2) := by decide +kernel
theorem d_R_beginOne_181 : decode prog_11_method_60_code 181 = .ok (.bipush 102, 2) := by decide +kernel
theorem d_R_beginOne_183 : decode prog_11_method_60_code 183 = .ok (.invokestatic 180, 3) := by decide +kernel
theorem d_R_beginOne_186 : decode prog_11_method_60_code 186 = .ok (.invokevirtual 251, 3) := by decide +kernel
theorem d_R_beginOne_189 : decode prog_11_method_60_code 189 = .ok (.ifCond .eq 10, 3) := by decide +kernel
theorem d_R_beginOne_192 : decode prog_11_method_60_code 192 = .ok (.aload_n 0, 1) := by decide +kernel
theorem d_R_beginOne_193 : decode prog_11_method_60_code 193 = .ok (.bipush 41, 2) := by decide +kernel
theorem d_R_beginOne_195 : decode prog_11_method_60_code 195 = .ok (.invokevirtual 248, 3) := by decide +kernel
theorem d_R_beginOne_198 : decode prog_11_method_60_code 198 = .ok (.ireturn, 1) := by decide +kernel
theorem d_R_beginOne_199 : decode prog_11_method_60_code 199 = .ok (.aload_n 0, 1) := by decide +kernel
theorem d_R_beginOne_200 : decode prog_11_method_60_code 200 = .ok (.bipush 110, 2) := by decide +kernel
theorem d_R_beginOne_202 : decode prog_11_method_60_code 202 = .ok (.bipush 111, 2) := by decide +kernel
theorem d_R_beginOne_204 : decode prog_11_method_60_code 204 = .ok (.bipush 116, 2) := by decide +kernel
theorem d_R_beginOne_206 : decode prog_11_method_60_code 206 = .ok (.invokestatic 184, 3) := by decide +kernel
theorem d_R_beginOne_209 : decode prog_11_method_60_code 209 = .ok (.invokevirtual 251, 3) := by decide +kernel
theorem d_R_beginOne_212 : decode prog_11_method_60_code 212 = .ok (.ifCond .eq 19, 3) := by decide +kernel
theorem d_R_beginOne_215 : decode prog_11_method_60_code 215 = .ok (.aload_n 0, 1) := by decide +kernel
theorem d_R_beginOne_216 : decode prog_11_method_60_code 216 = .ok (.invokevirtual 255, 3) := by decide +kernel
theorem d_R_beginOne_219 : decode prog_11_method_60_code 219 = .ok (.ifCond .eq 12, 3) := by decide +kernel
theorem d_R_beginOne_222 : decode prog_11_method_60_code 222 = .ok (.aload_n 0, 1) := by decide +kernel
theorem d_R_beginOne_223 : decode prog_11_method_60_code 223 = .ok (.bipush 20, 2) := by decide +kernel
theorem d_R_beginOne_225 : decode prog_11_method_60_code 225 = .ok (.invokevirtual 248, 3) := by decide +kernel
theorem d_R_beginOne_228 : decode prog_11_method_60_code 228 = .ok (.goto 4, 3) := by decide +kernel
theorem d_R_beginOne_231 : decode prog_11_method_60_code 231 = .ok (.iconst 1, 1) := by decide +kernel
theorem d_R_beginOne_232 : decode prog_11_method_60_code 232 = .ok (.ireturn, 1) := by decide +kernel
theorem d_R_nameOf_0 : decode prog_11_method_51_code 0 = .ok (.aload_n 0, 1) := by decide +kernel
theorem d_R_nameOf_1 : decode prog_11_method_51_code 1 = .ok (.getfield 158, 3) := by decide +kernel
theorem d_R_nameOf_4 : decode prog_11_method_51_code 4 = .ok (.iconst 2, 1) := by decide +kernel
theorem d_R_nameOf_5 : decode prog_11_method_51_code 5 = .ok (.if_icmp .eq 5, 3) := by decide +kernel
theorem d_R_nameOf_8 : decode prog_11_method_51_code 8 = .ok (.iconst (-1), 1) := by decide +kernel
theorem d_R_nameOf_9 : decode prog_11_method_51_code 9 = .ok (.ireturn, 1) := by decide +kernel
theorem d_R_nameOf_10 : decode prog_11_method_51_code 10 = .ok (.aload_n 0, 1) := by decide +kernel
theorem d_R_nameOf_11 : decode prog_11_method_51_code 11 = .ok (.getfield 171, 3) := by decide +kernel
theorem d_R_nameOf_14 : decode prog_11_method_51_code 14 = .ok (.bipush 121, 2) := by decide +kernel
theorem d_R_nameOf_16 : decode prog_11_method_51_code 16 = .ok (.bipush 101, 2) := by decide +kernel
theorem d_R_nameOf_18 : decode prog_11_method_51_code 18 = .ok (.bipush 97, 2) := by decide +kernel
theorem d_R_nameOf_20 : decode prog_11_method_51_code 20 = .ok (.bipush 114, 2) := by decide +kernel
theorem d_R_nameOf_22 : decode prog_11_method_51_code 22 = .ok (.invokestatic 188, 3) := by decide +kernel
theorem d_R_nameOf_25 : decode prog_11_method_51_code 25 = .ok (.lcmp, 1) := by decide +kernel
theorem d_R_nameOf_26 : decode prog_11_method_51_code 26 = .ok (.ifCond .ne 5, 3) := by decide +kernel
theorem d_R_nameOf_29 : decode prog_11_method_51_code 29 = .ok (.iconst 0, 1) := by decide +kernel
theorem d_R_nameOf_30 : decode prog_11_method_51_code 30 = .ok (.ireturn, 1) := by decide +kernel
theorem d_R_nameOf_31 : decode prog_11_method_51_code 31 = .ok (.aload_n 0, 1) := by decide +kernel
theorem d_R_nameOf_32 : decode prog_11_method_51_code 32 = .ok (.getfield 171, 3) := by decide +kernel
theorem d_R_nameOf_35 : decode prog_11_method_51_code 35 = .ok (.bipush 110, 2) := by decide +kernel
theorem d_R_nameOf_37 : decode prog_11_method_51_code 37 = .ok (.bipush 117, 2) := by decide +kernel
theorem d_R_nameOf_39 : decode prog_11_method_51_code 39 = .ok (.bipush 109, 2) := by decide +kernel
theorem d_R_nameOf_41 : decode prog_11_method_51_code 41 = .ok (.bipush 98, 2) := by decide +kernel
theorem d_R_nameOf_43 : decode prog_11_method_51_code 43 = .ok (.bipush 101, 2) := by decide +kernel
theorem d_R_nameOf_45 : decode prog_11_method_51_code 45 = .ok (.bipush 114, 2) := by decide +kernel
theorem d_R_nameOf_47 : decode prog_11_method_51_code 47 = .ok (.invokestatic 202, 3) := by decide +kernel
theorem d_R_nameOf_50 : decode prog_11_method_51_code 50 = .ok (.lcmp, 1) := by decide +kernel
theorem d_R_nameOf_51 : decode prog_11_method_51_code 51 = .ok (.ifCond .ne 5, 3) := by decide +kernel
theorem d_R_nameOf_54 : decode prog_11_method_51_code 54 = .ok (.iconst 1, 1) := by decide +kernel
theorem d_R_nameOf_55 : decode prog_11_method_51_code 55 = .ok (.ireturn, 1) := by decide +kernel
theorem d_R_nameOf_56 : decode prog_11_method_51_code 56 = .ok (.aload_n 0, 1) := by decide +kernel
theorem d_R_nameOf_57 : decode prog_11_method_51_code 57 = .ok (.invokevirtual 206, 3) := by decide +kernel
theorem d_R_nameOf_60 : decode prog_11_method_51_code 60 = .ok (.ifCond .eq 5, 3) := by decide +kernel
theorem d_R_nameOf_63 : decode prog_11_method_51_code 63 = .ok (.iconst 2, 1) := by decide +kernel
theorem d_R_nameOf_64 : decode prog_11_method_51_code 64 = .ok (.ireturn, 1) := by decide +kernel
theorem d_R_nameOf_65 : decode prog_11_method_51_code 65 = .ok (.aload_n 0, 1) := by decide +kernel
theorem d_R_nameOf_66 : decode prog_11_method_51_code 66 = .ok (.getfield 171, 3) := by decide +kernel
theorem d_R_nameOf_69 : decode prog_11_method_51_code 69 = .ok (.bipush 101, 2) := by decide +kernel
theorem d_R_nameOf_71 : decode prog_11_method_51_code 71 = .ok (.bipush 110, 2) := by decide +kernel
theorem d_R_nameOf_73 : decode prog_11_method_51_code 73 = .ok (.bipush 100, 2) := by decide +kernel
theorem d_R_nameOf_75 : decode prog_11_method_51_code 75 = .ok (.bipush 115, 2) := by decide +kernel
theorem d_R_nameOf_77 : decode prog_11_method_51_code 77 = .ok (.invokestatic 188, 3) := by decide +kernel
theorem d_R_nameOf_80 : decode prog_11_method_51_code 80 = .ok (.lcmp, 1) := by decide +kernel
theorem d_R_nameOf_81 : decode prog_11_method_51_code 81 = .ok (.ifCond .ne 5, 3) := by decide +kernel
theorem d_R_nameOf_84 : decode prog_11_method_51_code 84 = .ok (.iconst 3, 1) := by decide +kernel
theorem d_R_nameOf_85 : decode prog_11_method_51_code 85 = .ok (.ireturn, 1) := by decide +kernel
theorem d_R_nameOf_86 : decode prog_11_method_51_code 86 = .ok (.aload_n 0, 1) := by decide +kernel
theorem d_R_nameOf_87 : decode prog_11_method_51_code 87 = .ok (.getfield 171, 3) := by decide +kernel
theorem d_R_nameOf_90 : decode prog_11_method_51_code 90 = .ok (.bipush 102, 2) := by decide +kernel
theorem d_R_nameOf_92 : decode prog_11_method_51_code 92 = .ok (.bipush 117, 2) := by decide +kernel
theorem d_R_nameOf_94 : decode prog_11_method_51_code 94 = .ok (.bipush 110, 2) := by decide +kernel
theorem d_R_nameOf_96 : decode prog_11_method_51_code 96 = .ok (.bipush 100, 2) := by decide +kernel
theorem d_R_nameOf_98 : decode prog_11_method_51_code 98 = .ok (.invokestatic 188, 3) := by decide +kernel
theorem d_R_nameOf_101 : decode prog_11_method_51_code 101 = .ok (.lcmp, 1) := by decide +kernel
theorem d_R_nameOf_102 : decode prog_11_method_51_code 102 = .ok (.ifCond .ne 5, 3) := by decide +kernel
theorem d_R_nameOf_105 : decode prog_11_method_51_code 105 = .ok (.iconst 4, 1) := by decide +kernel
theorem d_R_nameOf_106 : decode prog_11_method_51_code 106 = .ok (.ireturn, 1) := by decide +kernel
theorem d_R_nameOf_107 : decode prog_11_method_51_code 107 = .ok (.aload_n 0, 1) := by decide +kernel
theorem d_R_nameOf_108 : decode prog_11_method_51_code 108 = .ok (.getfield 171, 3) := by decide +kernel
theorem d_R_nameOf_111 : decode prog_11_method_51_code 111 = .ok (.bipush 119, 2) := by decide +kernel
theorem d_R_nameOf_113 : decode prog_11_method_51_code 113 = .ok (.bipush 104, 2) := by decide +kernel
theorem d_R_nameOf_115 : decode prog_11_method_51_code 115 = .ok (.bipush 105, 2) := by decide +kernel
theorem d_R_nameOf_117 : decode prog_11_method_51_code 117 = .ok (.bipush 99, 2) := by decide +kernel
theorem d_R_nameOf_119 : decode prog_11_method_51_code 119 = .ok (.bipush 104, 2) := by decide +kernel
theorem d_R_nameOf_121 : decode prog_11_method_51_code 121 = .ok (.invokestatic 192, 3) := by decide +kernel
theorem d_R_nameOf_124 : decode prog_11_method_51_code 124 = .ok (.lcmp, 1) := by decide +kernel
theorem d_R_nameOf_125 : decode prog_11_method_51_code 125 = .ok (.ifCond .ne 7, 3) := by decide +kernel
theorem d_R_nameOf_128 : decode prog_11_method_51_code 128 = .ok (.iconst 5, 1) := by decide +kernel
theorem d_R_nameOf_129 : decode prog_11_method_51_code 129 = .ok (.goto 32, 3) := by decide +kernel
theorem d_R_nameOf_132 : decode prog_11_method_51_code 132 = .ok (.aload_n 0, 1) := by decide +kernel
theorem d_R_nameOf_133 : decode prog_11_method_51_code 133 = .ok (.getfield 171, 3) := by decide +kernel
theorem d_R_nameOf_136 : decode prog_11_method_51_code 136 = .ok (.bipush 112, 2) := by decide +kernel
theorem d_R_nameOf_138 : decode prog_11_method_51_code 138 = .ok (.bipush 105, 2) := by decide +kernel
theorem d_R_nameOf_140 : decode prog_11_method_51_code 140 = .ok (.bipush 101, 2) := by decide +kernel
theorem d_R_nameOf_142 : decode prog_11_method_51_code 142 = .ok (.bipush 99, 2) := by decide +kernel
theorem d_R_nameOf_144 : decode prog_11_method_51_code 144 = .ok (.bipush 101, 2) := by decide +kernel
theorem d_R_nameOf_146 : decode prog_11_method_51_code 146 = .ok (.bipush 115, 2) := by decide +kernel
theorem d_R_nameOf_148 : decode prog_11_method_51_code 148 = .ok (.invokestatic 202, 3) := by decide +kernel
theorem d_R_nameOf_151 : decode prog_11_method_51_code 151 = .ok (.lcmp, 1) := by decide +kernel
theorem d_R_nameOf_152 : decode prog_11_method_51_code 152 = .ok (.ifCond .ne 8, 3) := by decide +kernel
theorem d_R_nameOf_155 : decode prog_11_method_51_code 155 = .ok (.bipush 6, 2) := by decide +kernel
theorem d_R_nameOf_157 : decode prog_11_method_51_code 157 = .ok (.goto 4, 3) := by decide +kernel
theorem d_R_nameOf_160 : decode prog_11_method_51_code 160 = .ok (.iconst (-1), 1) := by decide +kernel
theorem d_R_nameOf_161 : decode prog_11_method_51_code 161 = .ok (.ireturn, 1) := by decide +kernel
theorem d_R_isStrokesWord_0 : decode prog_11_method_50_code 0 = .ok (.aload_n 0, 1) := by decide +kernel
theorem d_R_isStrokesWord_1 : decode prog_11_method_50_code 1 = .ok (.getfield 158, 3) := by decide +kernel
theorem d_R_isStrokesWord_4 : decode prog_11_method_50_code 4 = .ok (.iconst 2, 1) := by decide +kernel
theorem d_R_isStrokesWord_5 : decode prog_11_method_50_code 5 = .ok (.if_icmp .ne 124, 3) := by decide +kernel
theorem d_R_isStrokesWord_8 : decode prog_11_method_50_code 8 = .ok (.aload_n 0, 1) := by decide +kernel
theorem d_R_isStrokesWord_9 : decode prog_11_method_50_code 9 = .ok (.getfield 149, 3) := by decide +kernel
theorem d_R_isStrokesWord_12 : decode prog_11_method_50_code 12 = .ok (.aload_n 0, 1) := by decide +kernel
theorem d_R_isStrokesWord_13 : decode prog_11_method_50_code 13 = .ok (.getfield 155, 3) := by decide +kernel
theorem d_R_isStrokesWord_16 : decode prog_11_method_50_code 16 = .ok (.isub, 1) := by decide +kernel
theorem d_R_isStrokesWord_17 : decode prog_11_method_50_code 17 = .ok (.bipush 7, 2) := by decide +kernel
theorem d_R_isStrokesWord_19 : decode prog_11_method_50_code 19 = .ok (.if_icmp .ne 110, 3) := by decide +kernel
theorem d_R_isStrokesWord_22 : decode prog_11_method_50_code 22 = .ok (.aload_n 0, 1) := by decide +kernel
theorem d_R_isStrokesWord_23 : decode prog_11_method_50_code 23 = .ok (.aload_n 0, 1) := by decide +kernel
theorem d_R_isStrokesWord_24 : decode prog_11_method_50_code 24 = .ok (.getfield 155, 3) := by decide +kernel
theorem d_R_isStrokesWord_27 : decode prog_11_method_50_code 27 = .ok (.invokevirtual 152, 3) := by decide +kernel
theorem d_R_isStrokesWord_30 : decode prog_11_method_50_code 30 = .ok (.aload_n 0, 1) := by decide +kernel
theorem d_R_isStrokesWord_31 : decode prog_11_method_50_code 31 = .ok (.aload_n 0, 1) := by decide +kernel
theorem d_R_isStrokesWord_32 : decode prog_11_method_50_code 32 = .ok (.getfield 155, 3) := by decide +kernel
theorem d_R_isStrokesWord_35 : decode prog_11_method_50_code 35 = .ok (.iconst 1, 1) := by decide +kernel
theorem d_R_isStrokesWord_36 : decode prog_11_method_50_code 36 = .ok (.iadd, 1) := by decide +kernel
theorem d_R_isStrokesWord_37 : decode prog_11_method_50_code 37 = .ok (.invokevirtual 152, 3) := by decide +kernel
theorem d_R_isStrokesWord_40 : decode prog_11_method_50_code 40 = .ok (.aload_n 0, 1) := by decide +kernel
theorem d_R_isStrokesWord_41 : decode prog_11_method_50_code 41 = .ok (.aload_n 0, 1) := by decide +kernel
theorem d_R_isStrokesWord_42 : decode prog_11_method_50_code 42 = .ok (.getfield 155, 3) := by decide +kernel
theorem d_R_isStrokesWord_45 : decode prog_11_method_50_code 45 = .ok (.iconst 2, 1) := by decide +kernel
theorem d_R_isStrokesWord_46 : decode prog_11_method_50_code 46 = .ok (.iadd, 1) := by decide +kernel
theorem d_R_isStrokesWord_47 : decode prog_11_method_50_code 47 = .ok (.invokevirtual 152, 3) := by decide +kernel
theorem d_R_isStrokesWord_50 : decode prog_11_method_50_code 50 = .ok (.aload_n 0, 1) := by decide +kernel
theorem d_R_isStrokesWord_51 : decode prog_11_method_50_code 51 = .ok (.aload_n 0, 1) := by decide +kernel
theorem d_R_isStrokesWord_52 : decode prog_11_method_50_code 52 = .ok (.getfield 155, 3) := by decide +kernel
theorem d_R_isStrokesWord_55 : decode prog_11_method_50_code 55 = .ok (.iconst 3, 1) := by decide +kernel
theorem d_R_isStrokesWord_56 : decode prog_11_method_50_code 56 = .ok (.iadd, 1) := by decide +kernel
theorem d_R_isStrokesWord_57 : decode prog_11_method_50_code 57 = .ok (.invokevirtual 152, 3) := by decide +kernel
theorem d_R_isStrokesWord_60 : decode prog_11_method_50_code 60 = .ok (.invokestatic 188, 3) := by decide +kernel
theorem d_R_isStrokesWord_63 : decode prog_11_method_50_code 63 = .ok (.bipush 115, 2) := by decide +kernel
theorem d_R_isStrokesWord_65 : decode prog_11_method_50_code 65 = .ok (.bipush 116, 2) := by decide +kernel
theorem d_R_isStrokesWord_67 : decode prog_11_method_50_code 67 = .ok (.bipush 114, 2) := by decide +kernel
theorem d_R_isStrokesWord_69 : decode prog_11_method_50_code 69 = .ok (.bipush 111, 2) := by decide +kernel
theorem d_R_isStrokesWord_71 : decode prog_11_method_50_code 71 = .ok (.invokestatic 188, 3) := by decide +kernel
theorem d_R_isStrokesWord_74 : decode prog_11_method_50_code 74 = .ok (.lcmp, 1) := by decide +kernel
theorem d_R_isStrokesWord_75 : decode prog_11_method_50_code 75 = .ok (.ifCond .ne 54, 3) := by decide +kernel
theorem d_R_isStrokesWord_78 : decode prog_11_method_50_code 78 = .ok (.aload_n 0, 1) := by decide +kernel
theorem d_R_isStrokesWord_79 : decode prog_11_method_50_code 79 = .ok (.aload_n 0, 1) := by decide +kernel
theorem d_R_isStrokesWord_80 : decode prog_11_method_50_code 80 = .ok (.getfield 155, 3) := by decide +kernel
theorem d_R_isStrokesWord_83 : decode prog_11_method_50_code 83 = .ok (.iconst 4, 1) := by decide +kernel
theorem d_R_isStrokesWord_84 : decode prog_11_method_50_code 84 = .ok (.iadd, 1) := by decide +kernel
theorem d_R_isStrokesWord_85 : decode prog_11_method_50_code 85 = .ok (.invokevirtual 152, 3) := by decide +kernel
theorem d_R_isStrokesWord_88 : decode prog_11_method_50_code 88 = .ok (.aload_n 0, 1) := by decide +kernel
theorem d_R_isStrokesWord_89 : decode prog_11_method_50_code 89 = .ok (.aload_n 0, 1) := by decide +kernel
theorem d_R_isStrokesWord_90 : decode prog_11_method_50_code 90 = .ok (.getfield 155, 3) := by decide +kernel
theorem d_R_isStrokesWord_93 : decode prog_11_method_50_code 93 = .ok (.iconst 5, 1) := by decide +kernel
theorem d_R_isStrokesWord_94 : decode prog_11_method_50_code 94 = .ok (.iadd, 1) := by decide +kernel
theorem d_R_isStrokesWord_95 : decode prog_11_method_50_code 95 = .ok (.invokevirtual 152, 3) := by decide +kernel
theorem d_R_isStrokesWord_98 : decode prog_11_method_50_code 98 = .ok (.aload_n 0, 1) := by decide +kernel
theorem d_R_isStrokesWord_99 : decode prog_11_method_50_code 99 = .ok (.aload_n 0, 1) := by decide +kernel
theorem d_R_isStrokesWord_100 : decode prog_11_method_50_code 100 = .ok (.getfield 155, 3) := by decide +kernel
theorem d_R_isStrokesWord_103 : decode prog_11_method_50_code 103 = .ok (.bipush 6, 2) := by decide +kernel
theorem d_R_isStrokesWord_105 : decode prog_11_method_50_code 105 = .ok (.iadd, 1) := by decide +kernel
theorem d_R_isStrokesWord_106 : decode prog_11_method_50_code 106 = .ok (.invokevirtual 152, 3) := by decide +kernel
theorem d_R_isStrokesWord_109 : decode prog_11_method_50_code 109 = .ok (.invokestatic 184, 3) := by decide +kernel
theorem d_R_isStrokesWord_112 : decode prog_11_method_50_code 112 = .ok (.bipush 107, 2) := by decide +kernel
theorem d_R_isStrokesWord_114 : decode prog_11_method_50_code 114 = .ok (.bipush 101, 2) := by decide +kernel
theorem d_R_isStrokesWord_116 : decode prog_11_method_50_code 116 = .ok (.bipush 115, 2) := by decide +kernel
theorem d_R_isStrokesWord_118 : decode prog_11_method_50_code 118 = .ok (.invokestatic 184, 3) := by decide +kernel
theorem d_R_isStrokesWord_121 : decode prog_11_method_50_code 121 = .ok (.lcmp, 1) := by decide +kernel
theorem d_R_isStrokesWord_122 : decode prog_11_method_50_code 122 = .ok (.ifCond .ne 7, 3) := by decide +kernel
theorem d_R_isStrokesWord_125 : decode prog_11_method_50_code 125 = .ok (.iconst 1, 1) := by decide +kernel
theorem d_R_isStrokesWord_126 : decode prog_11_method_50_code 126 = .ok (.goto 4, 3) := by decide +kernel
theorem d_R_isStrokesWord_129 : decode prog_11_method_50_code 129 = .ok (.iconst 0, 1) := by decide +kernel
theorem d_R_isStrokesWord_130 : decode prog_11_method_50_code 130 = .ok (.ireturn, 1) := by decide +kernel
theorem d_R_isOf_0 : decode prog_11_method_52_code 0 = .ok (.iload_n 1, 1) := by decide +kernel
theorem d_R_isOf_1 : decode prog_11_method_52_code 1 = .ok (.iconst 5, 1) := by decide +kernel
theorem d_R_isOf_2 : decode prog_11_method_52_code 2 = .ok (.if_icmp .lt 26, 3) := by decide +kernel
theorem d_R_isOf_5 : decode prog_11_method_52_code 5 = .ok (.iload_n 1, 1) := by decide +kernel
theorem d_R_isOf_6 : decode prog_11_method_52_code 6 = .ok (.iconst 5, 1) := by decide +kernel
theorem d_R_isOf_7 : decode prog_11_method_52_code 7 = .ok (.if_icmp .ne 13, 3) := by decide +kernel
theorem d_R_isOf_10 : decode prog_11_method_52_code 10 = .ok (.aload_n 0, 1) := by decide +kernel
theorem d_R_isOf_11 : decode prog_11_method_52_code 11 = .ok (.getfield 210, 3) := by decide +kernel
theorem d_R_isOf_14 : decode prog_11_method_52_code 14 = .ok (.ifCond .ne 18, 3) := by decide +kernel
theorem d_R_isOf_17 : decode prog_11_method_52_code 17 = .ok (.goto 11, 3) := by decide +kernel
theorem d_R_isOf_20 : decode prog_11_method_52_code 20 = .ok (.aload_n 0, 1) := by decide +kernel
theorem d_R_isOf_21 : decode prog_11_method_52_code 21 = .ok (.getfield 210, 3) := by decide +kernel
theorem d_R_isOf_24 : decode prog_11_method_52_code 24 = .ok (.iconst 1, 1) := by decide +kernel
theorem d_R_isOf_25 : decode prog_11_method_52_code 25 = .ok (.if_icmp .ne 7, 3) := by decide +kernel
theorem d_R_isOf_28 : decode prog_11_method_52_code 28 = .ok (.iconst 1, 1) := by decide +kernel
theorem d_R_isOf_29 : decode prog_11_method_52_code 29 = .ok (.goto 4, 3) := by decide +kernel
theorem d_R_isOf_32 : decode prog_11_method_52_code 32 = .ok (.iconst 0, 1) := by decide +kernel
theorem d_R_isOf_33 : decode prog_11_method_52_code 33 = .ok (.ireturn, 1) := by decide +kernel
theorem d_R_isAskAhead_0 : decode prog_11_method_58_code 0 = .ok (.aload_n 0, 1) := by decide +kernel
theorem d_R_isAskAhead_1 : decode prog_11_method_58_code 1 = .ok (.invokevirtual 230, 3) := by decide +kernel
theorem d_R_isAskAhead_4 : decode prog_11_method_58_code 4 = .ok (.bipush 41, 2) := by decide +kernel
theorem d_R_isAskAhead_6 : decode prog_11_method_58_code 6 = .ok (.if_icmp .ne 45, 3) := by decide +kernel
theorem d_R_isAskAhead_9 : decode prog_11_method_58_code 9 = .ok (.aload_n 0, 1) := by decide +kernel
theorem d_R_isAskAhead_10 : decode prog_11_method_58_code 10 = .ok (.getfield 44, 3) := by decide +kernel
theorem d_R_isAskAhead_13 : decode prog_11_method_58_code 13 = .ok (.aload_n 0, 1) := by decide +kernel
theorem d_R_isAskAhead_14 : decode prog_11_method_58_code 14 = .ok (.getfield 213, 3) := by decide +kernel
theorem d_R_isAskAhead_17 : decode prog_11_method_58_code 17 = .ok (.iconst 1, 1) := by decide +kernel
theorem d_R_isAskAhead_18 : decode prog_11_method_58_code 18 = .ok (.isub, 1) := by decide +kernel
theorem d_R_isAskAhead_19 : decode prog_11_method_58_code 19 = .ok (.iaload, 1) := by decide +kernel
theorem d_R_isAskAhead_20 : decode prog_11_method_58_code 20 = .ok (.bipush 40, 2) := by decide +kernel
theorem d_R_isAskAhead_22 : decode prog_11_method_58_code 22 = .ok (.if_icmp .ge 25, 3) := by decide +kernel
theorem d_R_isAskAhead_25 : decode prog_11_method_58_code 25 = .ok (.aload_n 0, 1) := by decide +kernel
theorem d_R_isAskAhead_26 : decode prog_11_method_58_code 26 = .ok (.getfield 44, 3) := by decide +kernel
theorem d_R_isAskAhead_29 : decode prog_11_method_58_code 29 = .ok (.aload_n 0, 1) := by decide +kernel
theorem d_R_isAskAhead_30 : decode prog_11_method_58_code 30 = .ok (.getfield 213, 3) := by decide +kernel
theorem d_R_isAskAhead_33 : decode prog_11_method_58_code 33 = .ok (.iconst 1, 1) := by decide +kernel
theorem d_R_isAskAhead_34 : decode prog_11_method_58_code 34 = .ok (.isub, 1) := by decide +kernel
theorem d_R_isAskAhead_35 : decode prog_11_method_58_code 35 = .ok (.iaload, 1) := by decide +kernel
theorem d_R_isAskAhead_36 : decode prog_11_method_58_code 36 = .ok (.invokestatic 216, 3) := by decide +kernel
theorem d_R_isAskAhead_39 : decode prog_11_method_58_code 39 = .ok (.iconst 1, 1) := by decide +kernel
theorem d_R_isAskAhead_40 : decode prog_11_method_58_code 40 = .ok (.iconst 3, 1) := by decide +kernel
theorem d_R_isAskAhead_41 : decode prog_11_method_58_code 41 = .ok (.invokestatic 89, 3) := by decide +kernel
theorem d_R_isAskAhead_44 : decode prog_11_method_58_code 44 = .ok (.ifCond .eq 7, 3) := by decide +kernel
theorem d_R_isAskAhead_47 : decode prog_11_method_58_code 47 = .ok (.iconst 1, 1) := by decide +kernel
theorem d_R_isAskAhead_48 : decode prog_11_method_58_code 48 = .ok (.goto 4, 3) := by decide +kernel
theorem d_R_isAskAhead_51 : decode prog_11_method_58_code 51 = .ok (.iconst 0, 1) := by decide +kernel
theorem d_R_isAskAhead_52 : decode prog_11_method_58_code 52 = .ok (.ireturn, 1) := by decide +kernel
theorem d_R_fault_0 : decode prog_11_method_81_code 0 = .ok (.iload_n 1, 1) := by decide +kernel
theorem d_R_fault_1 : decode prog_11_method_81_code 1 = .ok (.ifCond .ne 10, 3) := by decide +kernel
theorem d_R_fault_4 : decode prog_11_method_81_code 4 = .ok (.aload_n 0, 1) := by decide +kernel
theorem d_R_fault_5 : decode prog_11_method_81_code 5 = .ok (.getfield 37, 3) := by decide +kernel
theorem d_R_fault_8 : decode prog_11_method_81_code 8 = .ok (.goto 16, 3) := by decide +kernel
theorem d_R_fault_11 : decode prog_11_method_81_code 11 = .ok (.iload_n 1, 1) := by decide +kernel
theorem d_R_fault_12 : decode prog_11_method_81_code 12 = .ok (.iconst 1, 1) := by decide +kernel
theorem d_R_fault_13 : decode prog_11_method_81_code 13 = .ok (.if_icmp .ne 10, 3) := by decide +kernel
theorem d_R_fault_16 : decode prog_11_method_81_code 16 = .ok (.aload_n 0, 1) := by decide +kernel
theorem d_R_fault_17 : decode prog_11_method_81_code 17 = .ok (.getfield 41, 3) := by decide +kernel
theorem d_R_fault_20 : decode prog_11_method_81_code 20 = .ok (.goto 4, 3) := by decide +kernel
theorem d_R_fault_23 : decode prog_11_method_81_code 23 = .ok (.iconst (-1), 1) := by decide +kernel
theorem d_R_fault_24 : decode prog_11_method_81_code 24 = .ok (.ireturn, 1) := by decide +kernel
theorem d_R_by_0 : decode prog_11_method_82_code 0 = .ok (.iload_n 1, 1) := by decide +kernel
theorem d_R_by_1 : decode prog_11_method_82_code 1 = .ok (.iconst (-1), 1) := by decide +kernel
theorem d_R_by_2 : decode prog_11_method_82_code 2 = .ok (.aload_n 0, 1) := by decide +kernel
theorem d_R_by_3 : decode prog_11_method_82_code 3 = .ok (.getfield 7, 3) := by decide +kernel
theorem d_R_by_6 : decode prog_11_method_82_code 6 = .ok (.iconst 1, 1) := by decide +kernel
theorem d_R_by_7 : decode prog_11_method_82_code 7 = .ok (.iaload, 1) := by decide +kernel
theorem d_R_by_8 : decode prog_11_method_82_code 8 = .ok (.iconst 1, 1) := by decide +kernel
theorem d_R_by_9 : decode prog_11_method_82_code 9 = .ok (.isub, 1) := by decide +kernel
theorem d_R_by_10 : decode prog_11_method_82_code 10 = .ok (.invokestatic 89, 3) := by decide +kernel
theorem d_R_by_13 : decode prog_11_method_82_code 13 = .ok (.ifCond .ne 5, 3) := by decide +kernel
theorem d_R_by_16 : decode prog_11_method_82_code 16 = .ok (.iconst 0, 1) := by decide +kernel
theorem d_R_by_17 : decode prog_11_method_82_code 17 = .ok (.ireturn, 1) := by decide +kernel
theorem d_R_by_18 : decode prog_11_method_82_code 18 = .ok (.aload_n 0, 1) := by decide +kernel
theorem d_R_by_19 : decode prog_11_method_82_code 19 = .ok (.getfield 7, 3) := by decide +kernel
theorem d_R_by_22 : decode prog_11_method_82_code 22 = .ok (.iconst 2, 1) := by decide +kernel
theorem d_R_by_23 : decode prog_11_method_82_code 23 = .ok (.iload_n 1, 1) := by decide +kernel
theorem d_R_by_24 : decode prog_11_method_82_code 24 = .ok (.iastore, 1) := by decide +kernel
theorem d_R_by_25 : decode prog_11_method_82_code 25 = .ok (.iconst 1, 1) := by decide +kernel
theorem d_R_by_26 : decode prog_11_method_82_code 26 = .ok (.ireturn, 1) := by decide +kernel
theorem d_R_undo_0 : decode prog_11_method_104_code 0 = .ok (.aload_n 0, 1) := by decide +kernel
theorem d_R_undo_1 : decode prog_11_method_104_code 1 = .ok (.getfield 7, 3) := by decide +kernel
theorem d_R_undo_4 : decode prog_11_method_104_code 4 = .ok (.iconst 3, 1) := by decide +kernel
theorem d_R_undo_5 : decode prog_11_method_104_code 5 = .ok (.iaload, 1) := by decide +kernel
theorem d_R_undo_6 : decode prog_11_method_104_code 6 = .ok (.ifCond .ne 5, 3) := by decide +kernel
theorem d_R_undo_9 : decode prog_11_method_104_code 9 = .ok (.iconst (-1), 1) := by decide +kernel
theorem d_R_undo_10 : decode prog_11_method_104_code 10 = .ok (.ireturn, 1) := by decide +kernel
theorem d_R_undo_11 : decode prog_11_method_104_code 11 = .ok (.aload_n 0, 1) := by decide +kernel
theorem d_R_undo_12 : decode prog_11_method_104_code 12 = .ok (.getfield 7, 3) := by decide +kernel
theorem d_R_undo_15 : decode prog_11_method_104_code 15 = .ok (.iconst 3, 1) := by decide +kernel
theorem d_R_undo_16 : decode prog_11_method_104_code 16 = .ok (.dup2, 1) := by decide +kernel
theorem d_R_undo_17 : decode prog_11_method_104_code 17 = .ok (.iaload, 1) := by decide +kernel
theorem d_R_undo_18 : decode prog_11_method_104_code 18 = .ok (.iconst 1, 1) := by decide +kernel
theorem d_R_undo_19 : decode prog_11_method_104_code 19 = .ok (.isub, 1) := by decide +kernel
theorem d_R_undo_20 : decode prog_11_method_104_code 20 = .ok (.iastore, 1) := by decide +kernel
theorem d_R_undo_21 : decode prog_11_method_104_code 21 = .ok (.bipush 52, 2) := by decide +kernel
theorem d_R_undo_23 : decode prog_11_method_104_code 23 = .ok (.bipush 38, 2) := by decide +kernel
theorem d_R_undo_25 : decode prog_11_method_104_code 25 = .ok (.aload_n 0, 1) := by decide +kernel
theorem d_R_undo_26 : decode prog_11_method_104_code 26 = .ok (.getfield 7, 3) := by decide +kernel
theorem d_R_undo_29 : decode prog_11_method_104_code 29 = .ok (.iconst 3, 1) := by decide +kernel
theorem d_R_undo_30 : decode prog_11_method_104_code 30 = .ok (.iaload, 1) := by decide +kernel
theorem d_R_undo_31 : decode prog_11_method_104_code 31 = .ok (.imul, 1) := by decide +kernel
theorem d_R_undo_32 : decode prog_11_method_104_code 32 = .ok (.iadd, 1) := by decide +kernel
theorem d_R_undo_33 : decode prog_11_method_104_code 33 = .ok (.istore_n 1, 1) := by decide +kernel
theorem d_R_undo_34 : decode prog_11_method_104_code 34 = .ok (.iconst 0, 1) := by decide +kernel
theorem d_R_undo_35 : decode prog_11_method_104_code 35 = .ok (.istore_n 2, 1) := by decide +kernel
theorem d_R_undo_36 : decode prog_11_method_104_code 36 = .ok (.iload_n 2, 1) := by decide +kernel
theorem d_R_undo_37 : decode prog_11_method_104_code 37 = .ok (.bipush 12, 2) := by decide +kernel
theorem d_R_undo_39 : decode prog_11_method_104_code 39 = .ok (.if_icmp .ge 28, 3) := by decide +kernel
theorem d_R_undo_42 : decode prog_11_method_104_code 42 = .ok (.aload_n 0, 1) := by decide +kernel
theorem d_R_undo_43 : decode prog_11_method_104_code 43 = .ok (.getfield 7, 3) := by decide +kernel
theorem d_R_undo_46 : decode prog_11_method_104_code 46 = .ok (.bipush 6, 2) := by decide +kernel
theorem d_R_undo_48 : decode prog_11_method_104_code 48 = .ok (.iload_n 2, 1) := by decide +kernel
theorem d_R_undo_49 : decode prog_11_method_104_code 49 = .ok (.iadd, 1) := by decide +kernel
theorem d_R_undo_50 : decode prog_11_method_104_code 50 = .ok (.aload_n 0, 1) := by decide +kernel
theorem d_R_undo_51 : decode prog_11_method_104_code 51 = .ok (.getfield 7, 3) := by decide +kernel
theorem d_R_undo_54 : decode prog_11_method_104_code 54 = .ok (.iload_n 1, 1) := by decide +kernel
theorem d_R_undo_55 : decode prog_11_method_104_code 55 = .ok (.iconst 1, 1) := by decide +kernel
theorem d_R_undo_56 : decode prog_11_method_104_code 56 = .ok (.iadd, 1) := by decide +kernel
theorem d_R_undo_57 : decode prog_11_method_104_code 57 = .ok (.iload_n 2, 1) := by decide +kernel
theorem d_R_undo_58 : decode prog_11_method_104_code 58 = .ok (.iadd, 1) := by decide +kernel
theorem d_R_undo_59 : decode prog_11_method_104_code 59 = .ok (.iaload, 1) := by decide +kernel
theorem d_R_undo_60 : decode prog_11_method_104_code 60 = .ok (.iastore, 1) := by decide +kernel
theorem d_R_undo_61 : decode prog_11_method_104_code 61 = .ok (.iinc 2 1, 3) := by decide +kernel
theorem d_R_undo_64 : decode prog_11_method_104_code 64 = .ok (.goto (-28), 3) := by decide +kernel
theorem d_R_undo_67 : decode prog_11_method_104_code 67 = .ok (.aload_n 0, 1) := by decide +kernel
theorem d_R_undo_68 : decode prog_11_method_104_code 68 = .ok (.getfield 7, 3) := by decide +kernel
theorem d_R_undo_71 : decode prog_11_method_104_code 71 = .ok (.iload_n 1, 1) := by decide +kernel
theorem d_R_undo_72 : decode prog_11_method_104_code 72 = .ok (.iaload, 1) := by decide +kernel
theorem d_R_undo_73 : decode prog_11_method_104_code 73 = .ok (.istore_n 2, 1) := by decide +kernel
theorem d_R_undo_74 : decode prog_11_method_104_code 74 = .ok (.iload_n 2, 1) := by decide +kernel
theorem d_R_undo_75 : decode prog_11_method_104_code 75 = .ok (.aload_n 0, 1) := by decide +kernel
theorem d_R_undo_76 : decode prog_11_method_104_code 76 = .ok (.getfield 7, 3) := by decide +kernel
theorem d_R_undo_79 : decode prog_11_method_104_code 79 = .ok (.iconst 0, 1) := by decide +kernel
theorem d_R_undo_80 : decode prog_11_method_104_code 80 = .ok (.iaload, 1) := by decide +kernel
theorem d_R_undo_81 : decode prog_11_method_104_code 81 = .ok (.if_icmp .ge 27, 3) := by decide +kernel
theorem d_R_undo_84 : decode prog_11_method_104_code 84 = .ok (.aload_n 0, 1) := by decide +kernel
theorem d_R_undo_85 : decode prog_11_method_104_code 85 = .ok (.getfield 7, 3) := by decide +kernel
theorem d_R_undo_88 : decode prog_11_method_104_code 88 = .ok (.bipush 10, 2) := by decide +kernel
theorem d_R_undo_90 : decode prog_11_method_104_code 90 = .ok (.iload_n 2, 1) := by decide +kernel
theorem d_R_undo_91 : decode prog_11_method_104_code 91 = .ok (.iadd, 1) := by decide +kernel
theorem d_R_undo_92 : decode prog_11_method_104_code 92 = .ok (.aload_n 0, 1) := by decide +kernel
theorem d_R_undo_93 : decode prog_11_method_104_code 93 = .ok (.getfield 7, 3) := by decide +kernel
theorem d_R_undo_96 : decode prog_11_method_104_code 96 = .ok (.bipush 18, 2) := by decide +kernel
theorem d_R_undo_98 : decode prog_11_method_104_code 98 = .ok (.iload_n 2, 1) := by decide +kernel
theorem d_R_undo_99 : decode prog_11_method_104_code 99 = .ok (.iadd, 1) := by decide +kernel
theorem d_R_undo_100 : decode prog_11_method_104_code 100 = .ok (.iaload, 1) := by decide +kernel
theorem d_R_undo_101 : decode prog_11_method_104_code 101 = .ok (.iastore, 1) := by decide +kernel
theorem d_R_undo_102 : decode prog_11_method_104_code 102 = .ok (.iinc 2 1, 3) := by decide +kernel
theorem d_R_undo_105 : decode prog_11_method_104_code 105 = .ok (.goto (-31), 3) := by decide +kernel
theorem d_R_undo_108 : decode prog_11_method_104_code 108 = .ok (.iconst 0, 1) := by decide +kernel
theorem d_R_undo_109 : decode prog_11_method_104_code 109 = .ok (.istore_n 2, 1) := by decide +kernel
theorem d_R_undo_110 : decode prog_11_method_104_code 110 = .ok (.iload_n 2, 1) := by decide +kernel
theorem d_R_undo_111 : decode prog_11_method_104_code 111 = .ok (.bipush 25, 2) := by decide +kernel
theorem d_R_undo_113 : decode prog_11_method_104_code 113 = .ok (.if_icmp .ge 32, 3) := by decide +kernel
theorem d_R_undo_116 : decode prog_11_method_104_code 116 = .ok (.aload_n 0, 1) := by decide +kernel
theorem d_R_undo_117 : decode prog_11_method_104_code 117 = .ok (.getfield 7, 3) := by decide +kernel
theorem d_R_undo_120 : decode prog_11_method_104_code 120 = .ok (.sipush 1192, 3) := by decide +kernel
theorem d_R_undo_123 : decode prog_11_method_104_code 123 = .ok (.iload_n 2, 1) := by decide +kernel
theorem d_R_undo_124 : decode prog_11_method_104_code 124 = .ok (.iadd, 1) := by decide +kernel
theorem d_R_undo_125 : decode prog_11_method_104_code 125 = .ok (.aload_n 0, 1) := by decide +kernel
theorem d_R_undo_126 : decode prog_11_method_104_code 126 = .ok (.getfield 7, 3) := by decide +kernel
theorem d_R_undo_129 : decode prog_11_method_104_code 129 = .ok (.iload_n 1, 1) := by decide +kernel
theorem d_R_undo_130 : decode prog_11_method_104_code 130 = .ok (.iconst 1, 1) := by decide +kernel
theorem d_R_undo_131 : decode prog_11_method_104_code 131 = .ok (.iadd, 1) := by decide +kernel
theorem d_R_undo_132 : decode prog_11_method_104_code 132 = .ok (.bipush 12, 2) := by decide +kernel
theorem d_R_undo_134 : decode prog_11_method_104_code 134 = .ok (.iadd, 1) := by decide +kernel
theorem d_R_undo_135 : decode prog_11_method_104_code 135 = .ok (.iload_n 2, 1) := by decide +kernel
theorem d_R_undo_136 : decode prog_11_method_104_code 136 = .ok (.iadd, 1) := by decide +kernel
theorem d_R_undo_137 : decode prog_11_method_104_code 137 = .ok (.iaload, 1) := by decide +kernel
theorem d_R_undo_138 : decode prog_11_method_104_code 138 = .ok (.iastore, 1) := by decide +kernel
theorem d_R_undo_139 : decode prog_11_method_104_code 139 = .ok (.iinc 2 1, 3) := by decide +kernel
theorem d_R_undo_142 : decode prog_11_method_104_code 142 = .ok (.goto (-32), 3) := by decide +kernel
theorem d_R_undo_145 : decode prog_11_method_104_code 145 = .ok (.aload_n 0, 1) := by decide +kernel
theorem d_R_undo_146 : decode prog_11_method_104_code 146 = .ok (.getfield 7, 3) := by decide +kernel
theorem d_R_undo_149 : decode prog_11_method_104_code 149 = .ok (.iconst 3, 1) := by decide +kernel
theorem d_R_undo_150 : decode prog_11_method_104_code 150 = .ok (.iaload, 1) := by decide +kernel
theorem d_R_undo_151 : decode prog_11_method_104_code 151 = .ok (.ireturn, 1) := by decide +kernel
theorem d_R_add_0 : decode prog_11_method_105_code 0 = .ok (.aload_n 0, 1) := by decide +kernel
theorem d_R_add_1 : decode prog_11_method_105_code 1 = .ok (.iload_n 1, 1) := by decide +kernel
theorem d_R_add_2 : decode prog_11_method_105_code 2 = .ok (.iload_n 2, 1) := by decide +kernel
theorem d_R_add_3 : decode prog_11_method_105_code 3 = .ok (.invokevirtual 404, 3) := by decide +kernel
theorem d_R_add_6 : decode prog_11_method_105_code 6 = .ok (.ifCond .ne 5, 3) := by decide +kernel
theorem d_R_add_9 : decode prog_11_method_105_code 9 = .ok (.iconst 0, 1) := by decide +kernel
theorem d_R_add_10 : decode prog_11_method_105_code 10 = .ok (.ireturn, 1) := by decide +kernel
theorem d_R_add_11 : decode prog_11_method_105_code 11 = .ok (.aload_n 0, 1) := by decide +kernel
theorem d_R_add_12 : decode prog_11_method_105_code 12 = .ok (.invokevirtual 407, 3) := by decide +kernel
theorem d_R_add_15 : decode prog_11_method_105_code 15 = .ok (.aload_n 0, 1) := by decide +kernel
theorem d_R_add_16 : decode prog_11_method_105_code 16 = .ok (.iload_n 1, 1) := by decide +kernel
theorem d_R_add_17 : decode prog_11_method_105_code 17 = .ok (.iload_n 2, 1) := by decide +kernel
theorem d_R_add_18 : decode prog_11_method_105_code 18 = .ok (.invokevirtual 410, 3) := by decide +kernel
theorem d_R_add_21 : decode prog_11_method_105_code 21 = .ok (.iconst 1, 1) := by decide +kernel
theorem d_R_add_22 : decode prog_11_method_105_code 22 = .ok (.ireturn, 1) := by decide +kernel
