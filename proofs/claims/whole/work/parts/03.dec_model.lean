theorem dX12_init_0 : decode cX12_init 0 = .ok (.aload_n 0, 1) := by decide +kernel
theorem dX12_init_1 : decode cX12_init 1 = .ok (.invokespecial 1, 3) := by decide +kernel
theorem dX12_init_4 : decode cX12_init 4 = .ok (.aload_n 0, 1) := by decide +kernel
theorem dX12_init_5 : decode cX12_init 5 = .ok (.sipush 1600, 3) := by decide +kernel
theorem dX12_init_8 : decode cX12_init 8 = .ok (.newarray .int, 2) := by decide +kernel
theorem dX12_init_10 : decode cX12_init 10 = .ok (.putfield 7, 3) := by decide +kernel
theorem dX12_init_13 : decode cX12_init 13 = .ok (.aload_n 0, 1) := by decide +kernel
theorem dX12_init_14 : decode cX12_init 14 = .ok (.iconst (-1), 1) := by decide +kernel
theorem dX12_init_15 : decode cX12_init 15 = .ok (.putfield 13, 3) := by decide +kernel
theorem dX12_init_18 : decode cX12_init 18 = .ok (.aload_n 0, 1) := by decide +kernel
theorem dX12_init_19 : decode cX12_init 19 = .ok (.bipush 6, 2) := by decide +kernel
theorem dX12_init_21 : decode cX12_init 21 = .ok (.newarray .int, 2) := by decide +kernel
theorem dX12_init_23 : decode cX12_init 23 = .ok (.putfield 17, 3) := by decide +kernel
theorem dX12_init_26 : decode cX12_init 26 = .ok (.aload_n 0, 1) := by decide +kernel
theorem dX12_init_27 : decode cX12_init 27 = .ok (.iconst 4, 1) := by decide +kernel
theorem dX12_init_28 : decode cX12_init 28 = .ok (.newarray .char, 2) := by decide +kernel
theorem dX12_init_30 : decode cX12_init 30 = .ok (.dup, 1) := by decide +kernel
theorem dX12_init_31 : decode cX12_init 31 = .ok (.iconst 0, 1) := by decide +kernel
theorem dX12_init_32 : decode cX12_init 32 = .ok (.bipush 109, 2) := by decide +kernel
theorem dX12_init_34 : decode cX12_init 34 = .ok (.castore, 1) := by decide +kernel
theorem dX12_init_35 : decode cX12_init 35 = .ok (.dup, 1) := by decide +kernel
theorem dX12_init_36 : decode cX12_init 36 = .ok (.iconst 1, 1) := by decide +kernel
theorem dX12_init_37 : decode cX12_init 37 = .ok (.bipush 111, 2) := by decide +kernel
theorem dX12_init_39 : decode cX12_init 39 = .ok (.castore, 1) := by decide +kernel
theorem dX12_init_40 : decode cX12_init 40 = .ok (.dup, 1) := by decide +kernel
theorem dX12_init_41 : decode cX12_init 41 = .ok (.iconst 2, 1) := by decide +kernel
theorem dX12_init_42 : decode cX12_init 42 = .ok (.bipush 111, 2) := by decide +kernel
theorem dX12_init_44 : decode cX12_init 44 = .ok (.castore, 1) := by decide +kernel
theorem dX12_init_45 : decode cX12_init 45 = .ok (.dup, 1) := by decide +kernel
theorem dX12_init_46 : decode cX12_init 46 = .ok (.iconst 3, 1) := by decide +kernel
theorem dX12_init_47 : decode cX12_init 47 = .ok (.bipush 100, 2) := by decide +kernel
theorem dX12_init_49 : decode cX12_init 49 = .ok (.castore, 1) := by decide +kernel
theorem dX12_init_50 : decode cX12_init 50 = .ok (.putfield 20, 3) := by decide +kernel
theorem dX12_init_53 : decode cX12_init 53 = .ok (.aload_n 0, 1) := by decide +kernel
theorem dX12_init_54 : decode cX12_init 54 = .ok (.bipush 6, 2) := by decide +kernel
theorem dX12_init_56 : decode cX12_init 56 = .ok (.newarray .char, 2) := by decide +kernel
theorem dX12_init_58 : decode cX12_init 58 = .ok (.dup, 1) := by decide +kernel
theorem dX12_init_59 : decode cX12_init 59 = .ok (.iconst 0, 1) := by decide +kernel
theorem dX12_init_60 : decode cX12_init 60 = .ok (.bipush 112, 2) := by decide +kernel
theorem dX12_init_62 : decode cX12_init 62 = .ok (.castore, 1) := by decide +kernel
theorem dX12_init_63 : decode cX12_init 63 = .ok (.dup, 1) := by decide +kernel
theorem dX12_init_64 : decode cX12_init 64 = .ok (.iconst 1, 1) := by decide +kernel
theorem dX12_init_65 : decode cX12_init 65 = .ok (.bipush 101, 2) := by decide +kernel
theorem dX12_init_67 : decode cX12_init 67 = .ok (.castore, 1) := by decide +kernel
theorem dX12_init_68 : decode cX12_init 68 = .ok (.dup, 1) := by decide +kernel
theorem dX12_init_69 : decode cX12_init 69 = .ok (.iconst 2, 1) := by decide +kernel
theorem dX12_init_70 : decode cX12_init 70 = .ok (.bipush 114, 2) := by decide +kernel
theorem dX12_init_72 : decode cX12_init 72 = .ok (.castore, 1) := by decide +kernel
theorem dX12_init_73 : decode cX12_init 73 = .ok (.dup, 1) := by decide +kernel
theorem dX12_init_74 : decode cX12_init 74 = .ok (.iconst 3, 1) := by decide +kernel
theorem dX12_init_75 : decode cX12_init 75 = .ok (.bipush 115, 2) := by decide +kernel
theorem dX12_init_77 : decode cX12_init 77 = .ok (.castore, 1) := by decide +kernel
theorem dX12_init_78 : decode cX12_init 78 = .ok (.dup, 1) := by decide +kernel
theorem dX12_init_79 : decode cX12_init 79 = .ok (.iconst 4, 1) := by decide +kernel
theorem dX12_init_80 : decode cX12_init 80 = .ok (.bipush 111, 2) := by decide +kernel
theorem dX12_init_82 : decode cX12_init 82 = .ok (.castore, 1) := by decide +kernel
theorem dX12_init_83 : decode cX12_init 83 = .ok (.dup, 1) := by decide +kernel
theorem dX12_init_84 : decode cX12_init 84 = .ok (.iconst 5, 1) := by decide +kernel
theorem dX12_init_85 : decode cX12_init 85 = .ok (.bipush 110, 2) := by decide +kernel
theorem dX12_init_87 : decode cX12_init 87 = .ok (.castore, 1) := by decide +kernel
theorem dX12_init_88 : decode cX12_init 88 = .ok (.putfield 24, 3) := by decide +kernel
theorem dX12_init_91 : decode cX12_init 91 = .ok (.aload_n 0, 1) := by decide +kernel
theorem dX12_init_92 : decode cX12_init 92 = .ok (.iconst 2, 1) := by decide +kernel
theorem dX12_init_93 : decode cX12_init 93 = .ok (.newarray .char, 2) := by decide +kernel
theorem dX12_init_95 : decode cX12_init 95 = .ok (.dup, 1) := by decide +kernel
theorem dX12_init_96 : decode cX12_init 96 = .ok (.iconst 0, 1) := by decide +kernel
theorem dX12_init_97 : decode cX12_init 97 = .ok (.bipush 105, 2) := by decide +kernel
theorem dX12_init_99 : decode cX12_init 99 = .ok (.castore, 1) := by decide +kernel
theorem dX12_init_100 : decode cX12_init 100 = .ok (.dup, 1) := by decide +kernel
theorem dX12_init_101 : decode cX12_init 101 = .ok (.iconst 1, 1) := by decide +kernel
theorem dX12_init_102 : decode cX12_init 102 = .ok (.bipush 115, 2) := by decide +kernel
theorem dX12_init_104 : decode cX12_init 104 = .ok (.castore, 1) := by decide +kernel
theorem dX12_init_105 : decode cX12_init 105 = .ok (.putfield 27, 3) := by decide +kernel
theorem dX12_init_108 : decode cX12_init 108 = .ok (.aload_n 0, 1) := by decide +kernel
theorem dX12_init_109 : decode cX12_init 109 = .ok (.iconst 4, 1) := by decide +kernel
theorem dX12_init_110 : decode cX12_init 110 = .ok (.newarray .char, 2) := by decide +kernel
theorem dX12_init_112 : decode cX12_init 112 = .ok (.dup, 1) := by decide +kernel
theorem dX12_init_113 : decode cX12_init 113 = .ok (.iconst 0, 1) := by decide +kernel
theorem dX12_init_114 : decode cX12_init 114 = .ok (.bipush 108, 2) := by decide +kernel
theorem dX12_init_116 : decode cX12_init 116 = .ok (.castore, 1) := by decide +kernel
theorem dX12_init_117 : decode cX12_init 117 = .ok (.dup, 1) := by decide +kernel
theorem dX12_init_118 : decode cX12_init 118 = .ok (.iconst 1, 1) := by decide +kernel
theorem dX12_init_119 : decode cX12_init 119 = .ok (.bipush 111, 2) := by decide +kernel
theorem dX12_init_121 : decode cX12_init 121 = .ok (.castore, 1) := by decide +kernel
theorem dX12_init_122 : decode cX12_init 122 = .ok (.dup, 1) := by decide +kernel
theorem dX12_init_123 : decode cX12_init 123 = .ok (.iconst 2, 1) := by decide +kernel
theorem dX12_init_124 : decode cX12_init 124 = .ok (.bipush 97, 2) := by decide +kernel
theorem dX12_init_126 : decode cX12_init 126 = .ok (.castore, 1) := by decide +kernel
theorem dX12_init_127 : decode cX12_init 127 = .ok (.dup, 1) := by decide +kernel
theorem dX12_init_128 : decode cX12_init 128 = .ok (.iconst 3, 1) := by decide +kernel
theorem dX12_init_129 : decode cX12_init 129 = .ok (.bipush 102, 2) := by decide +kernel
theorem dX12_init_131 : decode cX12_init 131 = .ok (.castore, 1) := by decide +kernel
theorem dX12_init_132 : decode cX12_init 132 = .ok (.putfield 30, 3) := by decide +kernel
theorem dX12_init_135 : decode cX12_init 135 = .ok (.aload_n 0, 1) := by decide +kernel
theorem dX12_init_136 : decode cX12_init 136 = .ok (.bipush 6, 2) := by decide +kernel
theorem dX12_init_138 : decode cX12_init 138 = .ok (.newarray .char, 2) := by decide +kernel
theorem dX12_init_140 : decode cX12_init 140 = .ok (.dup, 1) := by decide +kernel
theorem dX12_init_141 : decode cX12_init 141 = .ok (.iconst 0, 1) := by decide +kernel
theorem dX12_init_142 : decode cX12_init 142 = .ok (.bipush 108, 2) := by decide +kernel
theorem dX12_init_144 : decode cX12_init 144 = .ok (.castore, 1) := by decide +kernel
theorem dX12_init_145 : decode cX12_init 145 = .ok (.dup, 1) := by decide +kernel
theorem dX12_init_146 : decode cX12_init 146 = .ok (.iconst 1, 1) := by decide +kernel
theorem dX12_init_147 : decode cX12_init 147 = .ok (.bipush 101, 2) := by decide +kernel
theorem dX12_init_149 : decode cX12_init 149 = .ok (.castore, 1) := by decide +kernel
theorem dX12_init_150 : decode cX12_init 150 = .ok (.dup, 1) := by decide +kernel
theorem dX12_init_151 : decode cX12_init 151 = .ok (.iconst 2, 1) := by decide +kernel
theorem dX12_init_152 : decode cX12_init 152 = .ok (.bipush 97, 2) := by decide +kernel
theorem dX12_init_154 : decode cX12_init 154 = .ok (.castore, 1) := by decide +kernel
theorem dX12_init_155 : decode cX12_init 155 = .ok (.dup, 1) := by decide +kernel
theorem dX12_init_156 : decode cX12_init 156 = .ok (.iconst 3, 1) := by decide +kernel
theorem dX12_init_157 : decode cX12_init 157 = .ok (.bipush 118, 2) := by decide +kernel
theorem dX12_init_159 : decode cX12_init 159 = .ok (.castore, 1) := by decide +kernel
theorem dX12_init_160 : decode cX12_init 160 = .ok (.dup, 1) := by decide +kernel
theorem dX12_init_161 : decode cX12_init 161 = .ok (.iconst 4, 1) := by decide +kernel
theorem dX12_init_162 : decode cX12_init 162 = .ok (.bipush 101, 2) := by decide +kernel
theorem dX12_init_164 : decode cX12_init 164 = .ok (.castore, 1) := by decide +kernel
theorem dX12_init_165 : decode cX12_init 165 = .ok (.dup, 1) := by decide +kernel
theorem dX12_init_166 : decode cX12_init 166 = .ok (.iconst 5, 1) := by decide +kernel
theorem dX12_init_167 : decode cX12_init 167 = .ok (.bipush 110, 2) := by decide +kernel
theorem dX12_init_169 : decode cX12_init 169 = .ok (.castore, 1) := by decide +kernel
theorem dX12_init_170 : decode cX12_init 170 = .ok (.putfield 33, 3) := by decide +kernel
theorem dX12_init_173 : decode cX12_init 173 = .ok (.aload_n 0, 1) := by decide +kernel
theorem dX12_init_174 : decode cX12_init 174 = .ok (.iconst 2, 1) := by decide +kernel
theorem dX12_init_175 : decode cX12_init 175 = .ok (.newarray .char, 2) := by decide +kernel
theorem dX12_init_177 : decode cX12_init 177 = .ok (.dup, 1) := by decide +kernel
theorem dX12_init_178 : decode cX12_init 178 = .ok (.iconst 0, 1) := by decide +kernel
theorem dX12_init_179 : decode cX12_init 179 = .ok (.bipush 98, 2) := by decide +kernel
theorem dX12_init_181 : decode cX12_init 181 = .ok (.castore, 1) := by decide +kernel
theorem dX12_init_182 : decode cX12_init 182 = .ok (.dup, 1) := by decide +kernel
theorem dX12_init_183 : decode cX12_init 183 = .ok (.iconst 1, 1) := by decide +kernel
theorem dX12_init_184 : decode cX12_init 184 = .ok (.bipush 121, 2) := by decide +kernel
theorem dX12_init_186 : decode cX12_init 186 = .ok (.castore, 1) := by decide +kernel
theorem dX12_init_187 : decode cX12_init 187 = .ok (.putfield 36, 3) := by decide +kernel
theorem dX12_init_190 : decode cX12_init 190 = .ok (.aload_n 0, 1) := by decide +kernel
theorem dX12_init_191 : decode cX12_init 191 = .ok (.iconst 4, 1) := by decide +kernel
theorem dX12_init_192 : decode cX12_init 192 = .ok (.newarray .char, 2) := by decide +kernel
theorem dX12_init_194 : decode cX12_init 194 = .ok (.dup, 1) := by decide +kernel
theorem dX12_init_195 : decode cX12_init 195 = .ok (.iconst 0, 1) := by decide +kernel
theorem dX12_init_196 : decode cX12_init 196 = .ok (.bipush 101, 2) := by decide +kernel
theorem dX12_init_198 : decode cX12_init 198 = .ok (.castore, 1) := by decide +kernel
theorem dX12_init_199 : decode cX12_init 199 = .ok (.dup, 1) := by decide +kernel
theorem dX12_init_200 : decode cX12_init 200 = .ok (.iconst 1, 1) := by decide +kernel
theorem dX12_init_201 : decode cX12_init 201 = .ok (.bipush 97, 2) := by decide +kernel
theorem dX12_init_203 : decode cX12_init 203 = .ok (.castore, 1) := by decide +kernel
theorem dX12_init_204 : decode cX12_init 204 = .ok (.dup, 1) := by decide +kernel
theorem dX12_init_205 : decode cX12_init 205 = .ok (.iconst 2, 1) := by decide +kernel
theorem dX12_init_206 : decode cX12_init 206 = .ok (.bipush 116, 2) := by decide +kernel
theorem dX12_init_208 : decode cX12_init 208 = .ok (.castore, 1) := by decide +kernel
theorem dX12_init_209 : decode cX12_init 209 = .ok (.dup, 1) := by decide +kernel
theorem dX12_init_210 : decode cX12_init 210 = .ok (.iconst 3, 1) := by decide +kernel
theorem dX12_init_211 : decode cX12_init 211 = .ok (.bipush 115, 2) := by decide +kernel
theorem dX12_init_213 : decode cX12_init 213 = .ok (.castore, 1) := by decide +kernel
theorem dX12_init_214 : decode cX12_init 214 = .ok (.putfield 39, 3) := by decide +kernel
theorem dX12_init_217 : decode cX12_init 217 = .ok (.aload_n 0, 1) := by decide +kernel
theorem dX12_init_218 : decode cX12_init 218 = .ok (.iconst 2, 1) := by decide +kernel
theorem dX12_init_219 : decode cX12_init 219 = .ok (.newarray .char, 2) := by decide +kernel
theorem dX12_init_221 : decode cX12_init 221 = .ok (.dup, 1) := by decide +kernel
theorem dX12_init_222 : decode cX12_init 222 = .ok (.iconst 0, 1) := by decide +kernel
theorem dX12_init_223 : decode cX12_init 223 = .ok (.bipush 97, 2) := by decide +kernel
theorem dX12_init_225 : decode cX12_init 225 = .ok (.castore, 1) := by decide +kernel
theorem dX12_init_226 : decode cX12_init 226 = .ok (.dup, 1) := by decide +kernel
theorem dX12_init_227 : decode cX12_init 227 = .ok (.iconst 1, 1) := by decide +kernel
theorem dX12_init_228 : decode cX12_init 228 = .ok (.bipush 116, 2) := by decide +kernel
theorem dX12_init_230 : decode cX12_init 230 = .ok (.castore, 1) := by decide +kernel
theorem dX12_init_231 : decode cX12_init 231 = .ok (.putfield 42, 3) := by decide +kernel
theorem dX12_init_234 : decode cX12_init 234 = .ok (.aload_n 0, 1) := by decide +kernel
theorem dX12_init_235 : decode cX12_init 235 = .ok (.iconst 4, 1) := by decide +kernel
theorem dX12_init_236 : decode cX12_init 236 = .ok (.newarray .char, 2) := by decide +kernel
theorem dX12_init_238 : decode cX12_init 238 = .ok (.dup, 1) := by decide +kernel
theorem dX12_init_239 : decode cX12_init 239 = .ok (.iconst 0, 1) := by decide +kernel
theorem dX12_init_240 : decode cX12_init 240 = .ok (.bipush 100, 2) := by decide +kernel
theorem dX12_init_242 : decode cX12_init 242 = .ok (.castore, 1) := by decide +kernel
theorem dX12_init_243 : decode cX12_init 243 = .ok (.dup, 1) := by decide +kernel
theorem dX12_init_244 : decode cX12_init 244 = .ok (.iconst 1, 1) := by decide +kernel
theorem dX12_init_245 : decode cX12_init 245 = .ok (.bipush 101, 2) := by decide +kernel
theorem dX12_init_247 : decode cX12_init 247 = .ok (.castore, 1) := by decide +kernel
theorem dX12_init_248 : decode cX12_init 248 = .ok (.dup, 1) := by decide +kernel
theorem dX12_init_249 : decode cX12_init 249 = .ok (.iconst 2, 1) := by decide +kernel
theorem dX12_init_250 : decode cX12_init 250 = .ok (.bipush 101, 2) := by decide +kernel
theorem dX12_init_252 : decode cX12_init 252 = .ok (.castore, 1) := by decide +kernel
theorem dX12_init_253 : decode cX12_init 253 = .ok (.dup, 1) := by decide +kernel
theorem dX12_init_254 : decode cX12_init 254 = .ok (.iconst 3, 1) := by decide +kernel
theorem dX12_init_255 : decode cX12_init 255 = .ok (.bipush 100, 2) := by decide +kernel
theorem dX12_init_257 : decode cX12_init 257 = .ok (.castore, 1) := by decide +kernel
theorem dX12_init_258 : decode cX12_init 258 = .ok (.putfield 45, 3) := by decide +kernel
theorem dX12_init_261 : decode cX12_init 261 = .ok (.aload_n 0, 1) := by decide +kernel
theorem dX12_init_262 : decode cX12_init 262 = .ok (.iconst 4, 1) := by decide +kernel
theorem dX12_init_263 : decode cX12_init 263 = .ok (.newarray .char, 2) := by decide +kernel
theorem dX12_init_265 : decode cX12_init 265 = .ok (.dup, 1) := by decide +kernel
theorem dX12_init_266 : decode cX12_init 266 = .ok (.iconst 0, 1) := by decide +kernel
theorem dX12_init_267 : decode cX12_init 267 = .ok (.bipush 119, 2) := by decide +kernel
theorem dX12_init_269 : decode cX12_init 269 = .ok (.castore, 1) := by decide +kernel
theorem dX12_init_270 : decode cX12_init 270 = .ok (.dup, 1) := by decide +kernel
theorem dX12_init_271 : decode cX12_init 271 = .ok (.iconst 1, 1) := by decide +kernel
theorem dX12_init_272 : decode cX12_init 272 = .ok (.bipush 104, 2) := by decide +kernel
theorem dX12_init_274 : decode cX12_init 274 = .ok (.castore, 1) := by decide +kernel
theorem dX12_init_275 : decode cX12_init 275 = .ok (.dup, 1) := by decide +kernel
theorem dX12_init_276 : decode cX12_init 276 = .ok (.iconst 2, 1) := by decide +kernel
theorem dX12_init_277 : decode cX12_init 277 = .ok (.bipush 101, 2) := by decide +kernel
theorem dX12_init_279 : decode cX12_init 279 = .ok (.castore, 1) := by decide +kernel
theorem dX12_init_280 : decode cX12_init 280 = .ok (.dup, 1) := by decide +kernel
theorem dX12_init_281 : decode cX12_init 281 = .ok (.iconst 3, 1) := by decide +kernel
theorem dX12_init_282 : decode cX12_init 282 = .ok (.bipush 110, 2) := by decide +kernel
theorem dX12_init_284 : decode cX12_init 284 = .ok (.castore, 1) := by decide +kernel
theorem dX12_init_285 : decode cX12_init 285 = .ok (.putfield 48, 3) := by decide +kernel
theorem dX12_init_288 : decode cX12_init 288 = .ok (.aload_n 0, 1) := by decide +kernel
theorem dX12_init_289 : decode cX12_init 289 = .ok (.iconst 4, 1) := by decide +kernel
theorem dX12_init_290 : decode cX12_init 290 = .ok (.newarray .char, 2) := by decide +kernel
theorem dX12_init_292 : decode cX12_init 292 = .ok (.dup, 1) := by decide +kernel
theorem dX12_init_293 : decode cX12_init 293 = .ok (.iconst 0, 1) := by decide +kernel
theorem dX12_init_294 : decode cX12_init 294 = .ok (.bipush 116, 2) := by decide +kernel
theorem dX12_init_296 : decode cX12_init 296 = .ok (.castore, 1) := by decide +kernel
theorem dX12_init_297 : decode cX12_init 297 = .ok (.dup, 1) := by decide +kernel
theorem dX12_init_298 : decode cX12_init 298 = .ok (.iconst 1, 1) := by decide +kernel
theorem dX12_init_299 : decode cX12_init 299 = .ok (.bipush 117, 2) := by decide +kernel
theorem dX12_init_301 : decode cX12_init 301 = .ok (.castore, 1) := by decide +kernel
theorem dX12_init_302 : decode cX12_init 302 = .ok (.dup, 1) := by decide +kernel
theorem dX12_init_303 : decode cX12_init 303 = .ok (.iconst 2, 1) := by decide +kernel
theorem dX12_init_304 : decode cX12_init 304 = .ok (.bipush 114, 2) := by decide +kernel
theorem dX12_init_306 : decode cX12_init 306 = .ok (.castore, 1) := by decide +kernel
theorem dX12_init_307 : decode cX12_init 307 = .ok (.dup, 1) := by decide +kernel
theorem dX12_init_308 : decode cX12_init 308 = .ok (.iconst 3, 1) := by decide +kernel
theorem dX12_init_309 : decode cX12_init 309 = .ok (.bipush 110, 2) := by decide +kernel
theorem dX12_init_311 : decode cX12_init 311 = .ok (.castore, 1) := by decide +kernel
theorem dX12_init_312 : decode cX12_init 312 = .ok (.putfield 51, 3) := by decide +kernel
theorem dX12_init_315 : decode cX12_init 315 = .ok (.aload_n 0, 1) := by decide +kernel
theorem dX12_init_316 : decode cX12_init 316 = .ok (.iconst 5, 1) := by decide +kernel
theorem dX12_init_317 : decode cX12_init 317 = .ok (.newarray .char, 2) := by decide +kernel
theorem dX12_init_319 : decode cX12_init 319 = .ok (.dup, 1) := by decide +kernel
theorem dX12_init_320 : decode cX12_init 320 = .ok (.iconst 0, 1) := by decide +kernel
theorem dX12_init_321 : decode cX12_init 321 = .ok (.bipush 110, 2) := by decide +kernel
theorem dX12_init_323 : decode cX12_init 323 = .ok (.castore, 1) := by decide +kernel
theorem dX12_init_324 : decode cX12_init 324 = .ok (.dup, 1) := by decide +kernel
theorem dX12_init_325 : decode cX12_init 325 = .ok (.iconst 1, 1) := by decide +kernel
theorem dX12_init_326 : decode cX12_init 326 = .ok (.bipush 105, 2) := by decide +kernel
theorem dX12_init_328 : decode cX12_init 328 = .ok (.castore, 1) := by decide +kernel
theorem dX12_init_329 : decode cX12_init 329 = .ok (.dup, 1) := by decide +kernel
theorem dX12_init_330 : decode cX12_init 330 = .ok (.iconst 2, 1) := by decide +kernel
theorem dX12_init_331 : decode cX12_init 331 = .ok (.bipush 103, 2) := by decide +kernel
theorem dX12_init_333 : decode cX12_init 333 = .ok (.castore, 1) := by decide +kernel
theorem dX12_init_334 : decode cX12_init 334 = .ok (.dup, 1) := by decide +kernel
theorem dX12_init_335 : decode cX12_init 335 = .ok (.iconst 3, 1) := by decide +kernel
theorem dX12_init_336 : decode cX12_init 336 = .ok (.bipush 104, 2) := by decide +kernel
theorem dX12_init_338 : decode cX12_init 338 = .ok (.castore, 1) := by decide +kernel
theorem dX12_init_339 : decode cX12_init 339 = .ok (.dup, 1) := by decide +kernel
theorem dX12_init_340 : decode cX12_init 340 = .ok (.iconst 4, 1) := by decide +kernel
theorem dX12_init_341 : decode cX12_init 341 = .ok (.bipush 116, 2) := by decide +kernel
theorem dX12_init_343 : decode cX12_init 343 = .ok (.castore, 1) := by decide +kernel
theorem dX12_init_344 : decode cX12_init 344 = .ok (.putfield 54, 3) := by decide +kernel
theorem dX12_init_347 : decode cX12_init 347 = .ok (.aload_n 0, 1) := by decide +kernel
theorem dX12_init_348 : decode cX12_init 348 = .ok (.iconst 4, 1) := by decide +kernel
theorem dX12_init_349 : decode cX12_init 349 = .ok (.newarray .char, 2) := by decide +kernel
theorem dX12_init_351 : decode cX12_init 351 = .ok (.dup, 1) := by decide +kernel
theorem dX12_init_352 : decode cX12_init 352 = .ok (.iconst 0, 1) := by decide +kernel
theorem dX12_init_353 : decode cX12_init 353 = .ok (.bipush 98, 2) := by decide +kernel
theorem dX12_init_355 : decode cX12_init 355 = .ok (.castore, 1) := by decide +kernel
theorem dX12_init_356 : decode cX12_init 356 = .ok (.dup, 1) := by decide +kernel
theorem dX12_init_357 : decode cX12_init 357 = .ok (.iconst 1, 1) := by decide +kernel
theorem dX12_init_358 : decode cX12_init 358 = .ok (.bipush 97, 2) := by decide +kernel
theorem dX12_init_360 : decode cX12_init 360 = .ok (.castore, 1) := by decide +kernel
theorem dX12_init_361 : decode cX12_init 361 = .ok (.dup, 1) := by decide +kernel
theorem dX12_init_362 : decode cX12_init 362 = .ok (.iconst 2, 1) := by decide +kernel
theorem dX12_init_363 : decode cX12_init 363 = .ok (.bipush 107, 2) := by decide +kernel
theorem dX12_init_365 : decode cX12_init 365 = .ok (.castore, 1) := by decide +kernel
theorem dX12_init_366 : decode cX12_init 366 = .ok (.dup, 1) := by decide +kernel
theorem dX12_init_367 : decode cX12_init 367 = .ok (.iconst 3, 1) := by decide +kernel
theorem dX12_init_368 : decode cX12_init 368 = .ok (.bipush 101, 2) := by decide +kernel
theorem dX12_init_370 : decode cX12_init 370 = .ok (.castore, 1) := by decide +kernel
theorem dX12_init_371 : decode cX12_init 371 = .ok (.putfield 57, 3) := by decide +kernel
theorem dX12_init_374 : decode cX12_init 374 = .ok (.aload_n 0, 1) := by decide +kernel
theorem dX12_init_375 : decode cX12_init 375 = .ok (.bipush 7, 2) := by decide +kernel
theorem dX12_init_377 : decode cX12_init 377 = .ok (.newarray .char, 2) := by decide +kernel
theorem dX12_init_379 : decode cX12_init 379 = .ok (.dup, 1) := by decide +kernel
theorem dX12_init_380 : decode cX12_init 380 = .ok (.iconst 0, 1) := by decide +kernel
theorem dX12_init_381 : decode cX12_init 381 = .ok (.bipush 101, 2) := by decide +kernel
theorem dX12_init_383 : decode cX12_init 383 = .ok (.castore, 1) := by decide +kernel
theorem dX12_init_384 : decode cX12_init 384 = .ok (.dup, 1) := by decide +kernel
theorem dX12_init_385 : decode cX12_init 385 = .ok (.iconst 1, 1) := by decide +kernel
theorem dX12_init_386 : decode cX12_init 386 = .ok (.bipush 118, 2) := by decide +kernel
theorem dX12_init_388 : decode cX12_init 388 = .ok (.castore, 1) := by decide +kernel
theorem dX12_init_389 : decode cX12_init 389 = .ok (.dup, 1) := by decide +kernel
theorem dX12_init_390 : decode cX12_init 390 = .ok (.iconst 2, 1) := by decide +kernel
theorem dX12_init_391 : decode cX12_init 391 = .ok (.bipush 101, 2) := by decide +kernel
theorem dX12_init_393 : decode cX12_init 393 = .ok (.castore, 1) := by decide +kernel
theorem dX12_init_394 : decode cX12_init 394 = .ok (.dup, 1) := by decide +kernel
theorem dX12_init_395 : decode cX12_init 395 = .ok (.iconst 3, 1) := by decide +kernel
theorem dX12_init_396 : decode cX12_init 396 = .ok (.bipush 110, 2) := by decide +kernel
theorem dX12_init_398 : decode cX12_init 398 = .ok (.castore, 1) := by decide +kernel
theorem dX12_init_399 : decode cX12_init 399 = .ok (.dup, 1) := by decide +kernel
theorem dX12_init_400 : decode cX12_init 400 = .ok (.iconst 4, 1) := by decide +kernel
theorem dX12_init_401 : decode cX12_init 401 = .ok (.bipush 105, 2) := by decide +kernel
theorem dX12_init_403 : decode cX12_init 403 = .ok (.castore, 1) := by decide +kernel
theorem dX12_init_404 : decode cX12_init 404 = .ok (.dup, 1) := by decide +kernel
theorem dX12_init_405 : decode cX12_init 405 = .ok (.iconst 5, 1) := by decide +kernel
theorem dX12_init_406 : decode cX12_init 406 = .ok (.bipush 110, 2) := by decide +kernel
theorem dX12_init_408 : decode cX12_init 408 = .ok (.castore, 1) := by decide +kernel
theorem dX12_init_409 : decode cX12_init 409 = .ok (.dup, 1) := by decide +kernel
theorem dX12_init_410 : decode cX12_init 410 = .ok (.bipush 6, 2) := by decide +kernel
theorem dX12_init_412 : decode cX12_init 412 = .ok (.bipush 103, 2) := by decide +kernel
theorem dX12_init_414 : decode cX12_init 414 = .ok (.castore, 1) := by decide +kernel
theorem dX12_init_415 : decode cX12_init 415 = .ok (.putfield 60, 3) := by decide +kernel
theorem dX12_init_418 : decode cX12_init 418 = .ok (.aload_n 0, 1) := by decide +kernel
theorem dX12_init_419 : decode cX12_init 419 = .ok (.iconst 4, 1) := by decide +kernel
theorem dX12_init_420 : decode cX12_init 420 = .ok (.newarray .char, 2) := by decide +kernel
theorem dX12_init_422 : decode cX12_init 422 = .ok (.dup, 1) := by decide +kernel
theorem dX12_init_423 : decode cX12_init 423 = .ok (.iconst 0, 1) := by decide +kernel
theorem dX12_init_424 : decode cX12_init 424 = .ok (.bipush 119, 2) := by decide +kernel
theorem dX12_init_426 : decode cX12_init 426 = .ok (.castore, 1) := by decide +kernel
theorem dX12_init_427 : decode cX12_init 427 = .ok (.dup, 1) := by decide +kernel
theorem dX12_init_428 : decode cX12_init 428 = .ok (.iconst 1, 1) := by decide +kernel
theorem dX12_init_429 : decode cX12_init 429 = .ok (.bipush 104, 2) := by decide +kernel
theorem dX12_init_431 : decode cX12_init 431 = .ok (.castore, 1) := by decide +kernel
theorem dX12_init_432 : decode cX12_init 432 = .ok (.dup, 1) := by decide +kernel
theorem dX12_init_433 : decode cX12_init 433 = .ok (.iconst 2, 1) := by decide +kernel
theorem dX12_init_434 : decode cX12_init 434 = .ok (.bipush 105, 2) := by decide +kernel
theorem dX12_init_436 : decode cX12_init 436 = .ok (.castore, 1) := by decide +kernel
theorem dX12_init_437 : decode cX12_init 437 = .ok (.dup, 1) := by decide +kernel
theorem dX12_init_438 : decode cX12_init 438 = .ok (.iconst 3, 1) := by decide +kernel
theorem dX12_init_439 : decode cX12_init 439 = .ok (.bipush 109, 2) := by decide +kernel
theorem dX12_init_441 : decode cX12_init 441 = .ok (.castore, 1) := by decide +kernel
theorem dX12_init_442 : decode cX12_init 442 = .ok (.putfield 63, 3) := by decide +kernel
theorem dX12_init_445 : decode cX12_init 445 = .ok (.aload_n 0, 1) := by decide +kernel
theorem dX12_init_446 : decode cX12_init 446 = .ok (.iconst 5, 1) := by decide +kernel
theorem dX12_init_447 : decode cX12_init 447 = .ok (.newarray .char, 2) := by decide +kernel
theorem dX12_init_449 : decode cX12_init 449 = .ok (.dup, 1) := by decide +kernel
theorem dX12_init_450 : decode cX12_init 450 = .ok (.iconst 0, 1) := by decide +kernel
theorem dX12_init_451 : decode cX12_init 451 = .ok (.bipush 99, 2) := by decide +kernel
theorem dX12_init_453 : decode cX12_init 453 = .ok (.castore, 1) := by decide +kernel
theorem dX12_init_454 : decode cX12_init 454 = .ok (.dup, 1) := by decide +kernel
theorem dX12_init_455 : decode cX12_init 455 = .ok (.iconst 1, 1) := by decide +kernel
theorem dX12_init_456 : decode cX12_init 456 = .ok (.bipush 108, 2) := by decide +kernel
theorem dX12_init_458 : decode cX12_init 458 = .ok (.castore, 1) := by decide +kernel
theorem dX12_init_459 : decode cX12_init 459 = .ok (.dup, 1) := by decide +kernel
theorem dX12_init_460 : decode cX12_init 460 = .ok (.iconst 2, 1) := by decide +kernel
theorem dX12_init_461 : decode cX12_init 461 = .ok (.bipush 111, 2) := by decide +kernel
theorem dX12_init_463 : decode cX12_init 463 = .ok (.castore, 1) := by decide +kernel
theorem dX12_init_464 : decode cX12_init 464 = .ok (.dup, 1) := by decide +kernel
theorem dX12_init_465 : decode cX12_init 465 = .ok (.iconst 3, 1) := by decide +kernel
theorem dX12_init_466 : decode cX12_init 466 = .ok (.bipush 99, 2) := by decide +kernel
theorem dX12_init_468 : decode cX12_init 468 = .ok (.castore, 1) := by decide +kernel
theorem dX12_init_469 : decode cX12_init 469 = .ok (.dup, 1) := by decide +kernel
theorem dX12_init_470 : decode cX12_init 470 = .ok (.iconst 4, 1) := by decide +kernel
theorem dX12_init_471 : decode cX12_init 471 = .ok (.bipush 107, 2) := by decide +kernel
theorem dX12_init_473 : decode cX12_init 473 = .ok (.castore, 1) := by decide +kernel
theorem dX12_init_474 : decode cX12_init 474 = .ok (.putfield 66, 3) := by decide +kernel
theorem dX12_init_477 : decode cX12_init 477 = .ok (.aload_n 0, 1) := by decide +kernel
theorem dX12_init_478 : decode cX12_init 478 = .ok (.iconst 3, 1) := by decide +kernel
theorem dX12_init_479 : decode cX12_init 479 = .ok (.newarray .char, 2) := by decide +kernel
theorem dX12_init_481 : decode cX12_init 481 = .ok (.dup, 1) := by decide +kernel
theorem dX12_init_482 : decode cX12_init 482 = .ok (.iconst 0, 1) := by decide +kernel
theorem dX12_init_483 : decode cX12_init 483 = .ok (.bipush 100, 2) := by decide +kernel
theorem dX12_init_485 : decode cX12_init 485 = .ok (.castore, 1) := by decide +kernel
theorem dX12_init_486 : decode cX12_init 486 = .ok (.dup, 1) := by decide +kernel
theorem dX12_init_487 : decode cX12_init 487 = .ok (.iconst 1, 1) := by decide +kernel
theorem dX12_init_488 : decode cX12_init 488 = .ok (.bipush 97, 2) := by decide +kernel
theorem dX12_init_490 : decode cX12_init 490 = .ok (.castore, 1) := by decide +kernel
theorem dX12_init_491 : decode cX12_init 491 = .ok (.dup, 1) := by decide +kernel
theorem dX12_init_492 : decode cX12_init 492 = .ok (.iconst 2, 1) := by decide +kernel
theorem dX12_init_493 : decode cX12_init 493 = .ok (.bipush 121, 2) := by decide +kernel
theorem dX12_init_495 : decode cX12_init 495 = .ok (.castore, 1) := by decide +kernel
theorem dX12_init_496 : decode cX12_init 496 = .ok (.putfield 69, 3) := by decide +kernel
theorem dX12_init_499 : decode cX12_init 499 = .ok (.aload_n 0, 1) := by decide +kernel
theorem dX12_init_500 : decode cX12_init 500 = .ok (.iconst 3, 1) := by decide +kernel
theorem dX12_init_501 : decode cX12_init 501 = .ok (.newarray .char, 2) := by decide +kernel
theorem dX12_init_503 : decode cX12_init 503 = .ok (.dup, 1) := by decide +kernel
theorem dX12_init_504 : decode cX12_init 504 = .ok (.iconst 0, 1) := by decide +kernel
theorem dX12_init_505 : decode cX12_init 505 = .ok (.bipush 111, 2) := by decide +kernel
theorem dX12_init_507 : decode cX12_init 507 = .ok (.castore, 1) := by decide +kernel
theorem dX12_init_508 : decode cX12_init 508 = .ok (.dup, 1) := by decide +kernel
theorem dX12_init_509 : decode cX12_init 509 = .ok (.iconst 1, 1) := by decide +kernel
theorem dX12_init_510 : decode cX12_init 510 = .ok (.bipush 119, 2) := by decide +kernel
theorem dX12_init_512 : decode cX12_init 512 = .ok (.castore, 1) := by decide +kernel
theorem dX12_init_513 : decode cX12_init 513 = .ok (.dup, 1) := by decide +kernel
theorem dX12_init_514 : decode cX12_init 514 = .ok (.iconst 2, 1) := by decide +kernel
theorem dX12_init_515 : decode cX12_init 515 = .ok (.bipush 110, 2) := by decide +kernel
theorem dX12_init_517 : decode cX12_init 517 = .ok (.castore, 1) := by decide +kernel
theorem dX12_init_518 : decode cX12_init 518 = .ok (.putfield 72, 3) := by decide +kernel
theorem dX12_init_521 : decode cX12_init 521 = .ok (.aload_n 0, 1) := by decide +kernel
theorem dX12_init_522 : decode cX12_init 522 = .ok (.iconst 3, 1) := by decide +kernel
theorem dX12_init_523 : decode cX12_init 523 = .ok (.newarray .char, 2) := by decide +kernel
theorem dX12_init_525 : decode cX12_init 525 = .ok (.dup, 1) := by decide +kernel
theorem dX12_init_526 : decode cX12_init 526 = .ok (.iconst 0, 1) := by decide +kernel
theorem dX12_init_527 : decode cX12_init 527 = .ok (.bipush 110, 2) := by decide +kernel
theorem dX12_init_529 : decode cX12_init 529 = .ok (.castore, 1) := by decide +kernel
theorem dX12_init_530 : decode cX12_init 530 = .ok (.dup, 1) := by decide +kernel
theorem dX12_init_531 : decode cX12_init 531 = .ok (.iconst 1, 1) := by decide +kernel
theorem dX12_init_532 : decode cX12_init 532 = .ok (.bipush 111, 2) := by decide +kernel
theorem dX12_init_534 : decode cX12_init 534 = .ok (.castore, 1) := by decide +kernel
theorem dX12_init_535 : decode cX12_init 535 = .ok (.dup, 1) := by decide +kernel
theorem dX12_init_536 : decode cX12_init 536 = .ok (.iconst 2, 1) := by decide +kernel
theorem dX12_init_537 : decode cX12_init 537 = .ok (.bipush 119, 2) := by decide +kernel
theorem dX12_init_539 : decode cX12_init 539 = .ok (.castore, 1) := by decide +kernel
theorem dX12_init_540 : decode cX12_init 540 = .ok (.putfield 75, 3) := by decide +kernel
theorem dX12_init_543 : decode cX12_init 543 = .ok (.aload_n 0, 1) := by decide +kernel
theorem dX12_init_544 : decode cX12_init 544 = .ok (.iconst 5, 1) := by decide +kernel
theorem dX12_init_545 : decode cX12_init 545 = .ok (.newarray .char, 2) := by decide +kernel
theorem dX12_init_547 : decode cX12_init 547 = .ok (.dup, 1) := by decide +kernel
theorem dX12_init_548 : decode cX12_init 548 = .ok (.iconst 0, 1) := by decide +kernel
theorem dX12_init_549 : decode cX12_init 549 = .ok (.bipush 98, 2) := by decide +kernel
theorem dX12_init_551 : decode cX12_init 551 = .ok (.castore, 1) := by decide +kernel
theorem dX12_init_552 : decode cX12_init 552 = .ok (.dup, 1) := by decide +kernel
theorem dX12_init_553 : decode cX12_init 553 = .ok (.iconst 1, 1) := by decide +kernel
theorem dX12_init_554 : decode cX12_init 554 = .ok (.bipush 114, 2) := by decide +kernel
theorem dX12_init_556 : decode cX12_init 556 = .ok (.castore, 1) := by decide +kernel
theorem dX12_init_557 : decode cX12_init 557 = .ok (.dup, 1) := by decide +kernel
theorem dX12_init_558 : decode cX12_init 558 = .ok (.iconst 2, 1) := by decide +kernel
theorem dX12_init_559 : decode cX12_init 559 = .ok (.bipush 101, 2) := by decide +kernel
theorem dX12_init_561 : decode cX12_init 561 = .ok (.castore, 1) := by decide +kernel
theorem dX12_init_562 : decode cX12_init 562 = .ok (.dup, 1) := by decide +kernel
theorem dX12_init_563 : decode cX12_init 563 = .ok (.iconst 3, 1) := by decide +kernel
theorem dX12_init_564 : decode cX12_init 564 = .ok (.bipush 97, 2) := by decide +kernel
theorem dX12_init_566 : decode cX12_init 566 = .ok (.castore, 1) := by decide +kernel
theorem dX12_init_567 : decode cX12_init 567 = .ok (.dup, 1) := by decide +kernel
theorem dX12_init_568 : decode cX12_init 568 = .ok (.iconst 4, 1) := by decide +kernel
theorem dX12_init_569 : decode cX12_init 569 = .ok (.bipush 100, 2) := by decide +kernel
theorem dX12_init_571 : decode cX12_init 571 = .ok (.castore, 1) := by decide +kernel
theorem dX12_init_572 : decode cX12_init 572 = .ok (.putfield 78, 3) := by decide +kernel
theorem dX12_init_575 : decode cX12_init 575 = .ok (.aload_n 0, 1) := by decide +kernel
theorem dX12_init_576 : decode cX12_init 576 = .ok (.iconst 5, 1) := by decide +kernel
theorem dX12_init_577 : decode cX12_init 577 = .ok (.newarray .char, 2) := by decide +kernel
theorem dX12_init_579 : decode cX12_init 579 = .ok (.dup, 1) := by decide +kernel
theorem dX12_init_580 : decode cX12_init 580 = .ok (.iconst 0, 1) := by decide +kernel
theorem dX12_init_581 : decode cX12_init 581 = .ok (.bipush 119, 2) := by decide +kernel
theorem dX12_init_583 : decode cX12_init 583 = .ok (.castore, 1) := by decide +kernel
theorem dX12_init_584 : decode cX12_init 584 = .ok (.dup, 1) := by decide +kernel
theorem dX12_init_585 : decode cX12_init 585 = .ok (.iconst 1, 1) := by decide +kernel
theorem dX12_init_586 : decode cX12_init 586 = .ok (.bipush 104, 2) := by decide +kernel
theorem dX12_init_588 : decode cX12_init 588 = .ok (.castore, 1) := by decide +kernel
theorem dX12_init_589 : decode cX12_init 589 = .ok (.dup, 1) := by decide +kernel
theorem dX12_init_590 : decode cX12_init 590 = .ok (.iconst 2, 1) := by decide +kernel
theorem dX12_init_591 : decode cX12_init 591 = .ok (.bipush 105, 2) := by decide +kernel
theorem dX12_init_593 : decode cX12_init 593 = .ok (.castore, 1) := by decide +kernel
theorem dX12_init_594 : decode cX12_init 594 = .ok (.dup, 1) := by decide +kernel
theorem dX12_init_595 : decode cX12_init 595 = .ok (.iconst 3, 1) := by decide +kernel
theorem dX12_init_596 : decode cX12_init 596 = .ok (.bipush 99, 2) := by decide +kernel
theorem dX12_init_598 : decode cX12_init 598 = .ok (.castore, 1) := by decide +kernel
theorem dX12_init_599 : decode cX12_init 599 = .ok (.dup, 1) := by decide +kernel
theorem dX12_init_600 : decode cX12_init 600 = .ok (.iconst 4, 1) := by decide +kernel
theorem dX12_init_601 : decode cX12_init 601 = .ok (.bipush 104, 2) := by decide +kernel
theorem dX12_init_603 : decode cX12_init 603 = .ok (.castore, 1) := by decide +kernel
theorem dX12_init_604 : decode cX12_init 604 = .ok (.putfield 81, 3) := by decide +kernel
theorem dX12_init_607 : decode cX12_init 607 = .ok (.aload_n 0, 1) := by decide +kernel
theorem dX12_init_608 : decode cX12_init 608 = .ok (.iconst 4, 1) := by decide +kernel
theorem dX12_init_609 : decode cX12_init 609 = .ok (.newarray .char, 2) := by decide +kernel
theorem dX12_init_611 : decode cX12_init 611 = .ok (.dup, 1) := by decide +kernel
theorem dX12_init_612 : decode cX12_init 612 = .ok (.iconst 0, 1) := by decide +kernel
theorem dX12_init_613 : decode cX12_init 613 = .ok (.bipush 102, 2) := by decide +kernel
theorem dX12_init_615 : decode cX12_init 615 = .ok (.castore, 1) := by decide +kernel
theorem dX12_init_616 : decode cX12_init 616 = .ok (.dup, 1) := by decide +kernel
theorem dX12_init_617 : decode cX12_init 617 = .ok (.iconst 1, 1) := by decide +kernel
theorem dX12_init_618 : decode cX12_init 618 = .ok (.bipush 101, 2) := by decide +kernel
theorem dX12_init_620 : decode cX12_init 620 = .ok (.castore, 1) := by decide +kernel
theorem dX12_init_621 : decode cX12_init 621 = .ok (.dup, 1) := by decide +kernel
theorem dX12_init_622 : decode cX12_init 622 = .ok (.iconst 2, 1) := by decide +kernel
theorem dX12_init_623 : decode cX12_init 623 = .ok (.bipush 101, 2) := by decide +kernel
theorem dX12_init_625 : decode cX12_init 625 = .ok (.castore, 1) := by decide +kernel
theorem dX12_init_626 : decode cX12_init 626 = .ok (.dup, 1) := by decide +kernel
theorem dX12_init_627 : decode cX12_init 627 = .ok (.iconst 3, 1) := by decide +kernel
theorem dX12_init_628 : decode cX12_init 628 = .ok (.bipush 108, 2) := by decide +kernel
theorem dX12_init_630 : decode cX12_init 630 = .ok (.castore, 1) := by decide +kernel
theorem dX12_init_631 : decode cX12_init 631 = .ok (.putfield 84, 3) := by decide +kernel
theorem dX12_init_634 : decode cX12_init 634 = .ok (.aload_n 0, 1) := by decide +kernel
theorem dX12_init_635 : decode cX12_init 635 = .ok (.bipush 6, 2) := by decide +kernel
theorem dX12_init_637 : decode cX12_init 637 = .ok (.newarray .char, 2) := by decide +kernel
theorem dX12_init_639 : decode cX12_init 639 = .ok (.dup, 1) := by decide +kernel
theorem dX12_init_640 : decode cX12_init 640 = .ok (.iconst 0, 1) := by decide +kernel
theorem dX12_init_641 : decode cX12_init 641 = .ok (.bipush 110, 2) := by decide +kernel
theorem dX12_init_643 : decode cX12_init 643 = .ok (.castore, 1) := by decide +kernel
theorem dX12_init_644 : decode cX12_init 644 = .ok (.dup, 1) := by decide +kernel
theorem dX12_init_645 : decode cX12_init 645 = .ok (.iconst 1, 1) := by decide +kernel
theorem dX12_init_646 : decode cX12_init 646 = .ok (.bipush 97, 2) := by decide +kernel
theorem dX12_init_648 : decode cX12_init 648 = .ok (.castore, 1) := by decide +kernel
theorem dX12_init_649 : decode cX12_init 649 = .ok (.dup, 1) := by decide +kernel
theorem dX12_init_650 : decode cX12_init 650 = .ok (.iconst 2, 1) := by decide +kernel
theorem dX12_init_651 : decode cX12_init 651 = .ok (.bipush 116, 2) := by decide +kernel
theorem dX12_init_653 : decode cX12_init 653 = .ok (.castore, 1) := by decide +kernel
theorem dX12_init_654 : decode cX12_init 654 = .ok (.dup, 1) := by decide +kernel
theorem dX12_init_655 : decode cX12_init 655 = .ok (.iconst 3, 1) := by decide +kernel
theorem dX12_init_656 : decode cX12_init 656 = .ok (.bipush 117, 2) := by decide +kernel
theorem dX12_init_658 : decode cX12_init 658 = .ok (.castore, 1) := by decide +kernel
theorem dX12_init_659 : decode cX12_init 659 = .ok (.dup, 1) := by decide +kernel
theorem dX12_init_660 : decode cX12_init 660 = .ok (.iconst 4, 1) := by decide +kernel
theorem dX12_init_661 : decode cX12_init 661 = .ok (.bipush 114, 2) := by decide +kernel
theorem dX12_init_663 : decode cX12_init 663 = .ok (.castore, 1) := by decide +kernel
theorem dX12_init_664 : decode cX12_init 664 = .ok (.dup, 1) := by decide +kernel
theorem dX12_init_665 : decode cX12_init 665 = .ok (.iconst 5, 1) := by decide +kernel
theorem dX12_init_666 : decode cX12_init 666 = .ok (.bipush 101, 2) := by decide +kernel
theorem dX12_init_668 : decode cX12_init 668 = .ok (.castore, 1) := by decide +kernel
theorem dX12_init_669 : decode cX12_init 669 = .ok (.putfield 87, 3) := by decide +kernel
theorem dX12_init_672 : decode cX12_init 672 = .ok (.aload_n 0, 1) := by decide +kernel
theorem dX12_init_673 : decode cX12_init 673 = .ok (.iconst 2, 1) := by decide +kernel
theorem dX12_init_674 : decode cX12_init 674 = .ok (.newarray .char, 2) := by decide +kernel
theorem dX12_init_676 : decode cX12_init 676 = .ok (.dup, 1) := by decide +kernel
theorem dX12_init_677 : decode cX12_init 677 = .ok (.iconst 0, 1) := by decide +kernel
theorem dX12_init_678 : decode cX12_init 678 = .ok (.bipush 111, 2) := by decide +kernel
theorem dX12_init_680 : decode cX12_init 680 = .ok (.castore, 1) := by decide +kernel
theorem dX12_init_681 : decode cX12_init 681 = .ok (.dup, 1) := by decide +kernel
theorem dX12_init_682 : decode cX12_init 682 = .ok (.iconst 1, 1) := by decide +kernel
theorem dX12_init_683 : decode cX12_init 683 = .ok (.bipush 114, 2) := by decide +kernel
theorem dX12_init_685 : decode cX12_init 685 = .ok (.castore, 1) := by decide +kernel
theorem dX12_init_686 : decode cX12_init 686 = .ok (.putfield 90, 3) := by decide +kernel
theorem dX12_init_689 : decode cX12_init 689 = .ok (.aload_n 0, 1) := by decide +kernel
theorem dX12_init_690 : decode cX12_init 690 = .ok (.iconst 3, 1) := by decide +kernel
theorem dX12_init_691 : decode cX12_init 691 = .ok (.newarray .char, 2) := by decide +kernel
theorem dX12_init_693 : decode cX12_init 693 = .ok (.dup, 1) := by decide +kernel
theorem dX12_init_694 : decode cX12_init 694 = .ok (.iconst 0, 1) := by decide +kernel
theorem dX12_init_695 : decode cX12_init 695 = .ok (.bipush 97, 2) := by decide +kernel
theorem dX12_init_697 : decode cX12_init 697 = .ok (.castore, 1) := by decide +kernel
theorem dX12_init_698 : decode cX12_init 698 = .ok (.dup, 1) := by decide +kernel
theorem dX12_init_699 : decode cX12_init 699 = .ok (.iconst 1, 1) := by decide +kernel
theorem dX12_init_700 : decode cX12_init 700 = .ok (.bipush 110, 2) := by decide +kernel
theorem dX12_init_702 : decode cX12_init 702 = .ok (.castore, 1) := by decide +kernel
theorem dX12_init_703 : decode cX12_init 703 = .ok (.dup, 1) := by decide +kernel
theorem dX12_init_704 : decode cX12_init 704 = .ok (.iconst 2, 1) := by decide +kernel
theorem dX12_init_705 : decode cX12_init 705 = .ok (.bipush 100, 2) := by decide +kernel
theorem dX12_init_707 : decode cX12_init 707 = .ok (.castore, 1) := by decide +kernel
theorem dX12_init_708 : decode cX12_init 708 = .ok (.putfield 93, 3) := by decide +kernel
theorem dX12_init_711 : decode cX12_init 711 = .ok (.aload_n 0, 1) := by decide +kernel
theorem dX12_init_712 : decode cX12_init 712 = .ok (.iconst 3, 1) := by decide +kernel
theorem dX12_init_713 : decode cX12_init 713 = .ok (.newarray .char, 2) := by decide +kernel
theorem dX12_init_715 : decode cX12_init 715 = .ok (.dup, 1) := by decide +kernel
theorem dX12_init_716 : decode cX12_init 716 = .ok (.iconst 0, 1) := by decide +kernel
theorem dX12_init_717 : decode cX12_init 717 = .ok (.bipush 110, 2) := by decide +kernel
theorem dX12_init_719 : decode cX12_init 719 = .ok (.castore, 1) := by decide +kernel
theorem dX12_init_720 : decode cX12_init 720 = .ok (.dup, 1) := by decide +kernel
theorem dX12_init_721 : decode cX12_init 721 = .ok (.iconst 1, 1) := by decide +kernel
theorem dX12_init_722 : decode cX12_init 722 = .ok (.bipush 111, 2) := by decide +kernel
theorem dX12_init_724 : decode cX12_init 724 = .ok (.castore, 1) := by decide +kernel
theorem dX12_init_725 : decode cX12_init 725 = .ok (.dup, 1) := by decide +kernel
theorem dX12_init_726 : decode cX12_init 726 = .ok (.iconst 2, 1) := by decide +kernel
theorem dX12_init_727 : decode cX12_init 727 = .ok (.bipush 116, 2) := by decide +kernel
theorem dX12_init_729 : decode cX12_init 729 = .ok (.castore, 1) := by decide +kernel
theorem dX12_init_730 : decode cX12_init 730 = .ok (.putfield 96, 3) := by decide +kernel
theorem dX12_init_733 : decode cX12_init 733 = .ok (.aload_n 0, 1) := by decide +kernel
theorem dX12_init_734 : decode cX12_init 734 = .ok (.iconst 3, 1) := by decide +kernel
theorem dX12_init_735 : decode cX12_init 735 = .ok (.newarray .char, 2) := by decide +kernel
theorem dX12_init_737 : decode cX12_init 737 = .ok (.dup, 1) := by decide +kernel
theorem dX12_init_738 : decode cX12_init 738 = .ok (.iconst 0, 1) := by decide +kernel
theorem dX12_init_739 : decode cX12_init 739 = .ok (.bipush 97, 2) := by decide +kernel
theorem dX12_init_741 : decode cX12_init 741 = .ok (.castore, 1) := by decide +kernel
theorem dX12_init_742 : decode cX12_init 742 = .ok (.dup, 1) := by decide +kernel
theorem dX12_init_743 : decode cX12_init 743 = .ok (.iconst 1, 1) := by decide +kernel
theorem dX12_init_744 : decode cX12_init 744 = .ok (.bipush 108, 2) := by decide +kernel
theorem dX12_init_746 : decode cX12_init 746 = .ok (.castore, 1) := by decide +kernel
theorem dX12_init_747 : decode cX12_init 747 = .ok (.dup, 1) := by decide +kernel
theorem dX12_init_748 : decode cX12_init 748 = .ok (.iconst 2, 1) := by decide +kernel
theorem dX12_init_749 : decode cX12_init 749 = .ok (.bipush 108, 2) := by decide +kernel
theorem dX12_init_751 : decode cX12_init 751 = .ok (.castore, 1) := by decide +kernel
theorem dX12_init_752 : decode cX12_init 752 = .ok (.putfield 99, 3) := by decide +kernel
theorem dX12_init_755 : decode cX12_init 755 = .ok (.aload_n 0, 1) := by decide +kernel
theorem dX12_init_756 : decode cX12_init 756 = .ok (.iconst 3, 1) := by decide +kernel
theorem dX12_init_757 : decode cX12_init 757 = .ok (.newarray .char, 2) := by decide +kernel
theorem dX12_init_759 : decode cX12_init 759 = .ok (.dup, 1) := by decide +kernel
theorem dX12_init_760 : decode cX12_init 760 = .ok (.iconst 0, 1) := by decide +kernel
theorem dX12_init_761 : decode cX12_init 761 = .ok (.bipush 109, 2) := by decide +kernel
theorem dX12_init_763 : decode cX12_init 763 = .ok (.castore, 1) := by decide +kernel
theorem dX12_init_764 : decode cX12_init 764 = .ok (.dup, 1) := by decide +kernel
theorem dX12_init_765 : decode cX12_init 765 = .ok (.iconst 1, 1) := by decide +kernel
theorem dX12_init_766 : decode cX12_init 766 = .ok (.bipush 105, 2) := by decide +kernel
theorem dX12_init_768 : decode cX12_init 768 = .ok (.castore, 1) := by decide +kernel
theorem dX12_init_769 : decode cX12_init 769 = .ok (.dup, 1) := by decide +kernel
theorem dX12_init_770 : decode cX12_init 770 = .ok (.iconst 2, 1) := by decide +kernel
theorem dX12_init_771 : decode cX12_init 771 = .ok (.bipush 110, 2) := by decide +kernel
theorem dX12_init_773 : decode cX12_init 773 = .ok (.castore, 1) := by decide +kernel
theorem dX12_init_774 : decode cX12_init 774 = .ok (.putfield 102, 3) := by decide +kernel
theorem dX12_init_777 : decode cX12_init 777 = .ok (.aload_n 0, 1) := by decide +kernel
theorem dX12_init_778 : decode cX12_init 778 = .ok (.iconst 3, 1) := by decide +kernel
theorem dX12_init_779 : decode cX12_init 779 = .ok (.newarray .char, 2) := by decide +kernel
theorem dX12_init_781 : decode cX12_init 781 = .ok (.dup, 1) := by decide +kernel
theorem dX12_init_782 : decode cX12_init 782 = .ok (.iconst 0, 1) := by decide +kernel
theorem dX12_init_783 : decode cX12_init 783 = .ok (.bipush 109, 2) := by decide +kernel
theorem dX12_init_785 : decode cX12_init 785 = .ok (.castore, 1) := by decide +kernel
theorem dX12_init_786 : decode cX12_init 786 = .ok (.dup, 1) := by decide +kernel
theorem dX12_init_787 : decode cX12_init 787 = .ok (.iconst 1, 1) := by decide +kernel
theorem dX12_init_788 : decode cX12_init 788 = .ok (.bipush 97, 2) := by decide +kernel
theorem dX12_init_790 : decode cX12_init 790 = .ok (.castore, 1) := by decide +kernel
theorem dX12_init_791 : decode cX12_init 791 = .ok (.dup, 1) := by decide +kernel
theorem dX12_init_792 : decode cX12_init 792 = .ok (.iconst 2, 1) := by decide +kernel
theorem dX12_init_793 : decode cX12_init 793 = .ok (.bipush 120, 2) := by decide +kernel
theorem dX12_init_795 : decode cX12_init 795 = .ok (.castore, 1) := by decide +kernel
theorem dX12_init_796 : decode cX12_init 796 = .ok (.putfield 105, 3) := by decide +kernel
theorem dX12_init_799 : decode cX12_init 799 = .ok (.aload_n 0, 1) := by decide +kernel
theorem dX12_init_800 : decode cX12_init 800 = .ok (.bipush 10, 2) := by decide +kernel
theorem dX12_init_802 : decode cX12_init 802 = .ok (.newarray .int, 2) := by decide +kernel
theorem dX12_init_804 : decode cX12_init 804 = .ok (.putfield 108, 3) := by decide +kernel
theorem dX12_init_807 : decode cX12_init 807 = .ok (.aload_n 0, 1) := by decide +kernel
theorem dX12_init_808 : decode cX12_init 808 = .ok (.bipush 64, 2) := by decide +kernel
theorem dX12_init_810 : decode cX12_init 810 = .ok (.newarray .long, 2) := by decide +kernel
theorem dX12_init_812 : decode cX12_init 812 = .ok (.putfield 111, 3) := by decide +kernel
theorem dX12_init_815 : decode cX12_init 815 = .ok (.aload_n 0, 1) := by decide +kernel
theorem dX12_init_816 : decode cX12_init 816 = .ok (.bipush 64, 2) := by decide +kernel
theorem dX12_init_818 : decode cX12_init 818 = .ok (.newarray .int, 2) := by decide +kernel
theorem dX12_init_820 : decode cX12_init 820 = .ok (.putfield 115, 3) := by decide +kernel
theorem dX12_init_823 : decode cX12_init 823 = .ok (.aload_n 0, 1) := by decide +kernel
theorem dX12_init_824 : decode cX12_init 824 = .ok (.bipush 24, 2) := by decide +kernel
theorem dX12_init_826 : decode cX12_init 826 = .ok (.newarray .int, 2) := by decide +kernel
theorem dX12_init_828 : decode cX12_init 828 = .ok (.putfield 118, 3) := by decide +kernel
theorem dX12_init_831 : decode cX12_init 831 = .ok (.aload_n 0, 1) := by decide +kernel
theorem dX12_init_832 : decode cX12_init 832 = .ok (.bipush 96, 2) := by decide +kernel
theorem dX12_init_834 : decode cX12_init 834 = .ok (.newarray .int, 2) := by decide +kernel
theorem dX12_init_836 : decode cX12_init 836 = .ok (.putfield 121, 3) := by decide +kernel
theorem dX12_init_839 : decode cX12_init 839 = .ok (.aload_n 0, 1) := by decide +kernel
theorem dX12_init_840 : decode cX12_init 840 = .ok (.bipush 6, 2) := by decide +kernel
theorem dX12_init_842 : decode cX12_init 842 = .ok (.newarray .int, 2) := by decide +kernel
theorem dX12_init_844 : decode cX12_init 844 = .ok (.dup, 1) := by decide +kernel
theorem dX12_init_845 : decode cX12_init 845 = .ok (.iconst 0, 1) := by decide +kernel
theorem dX12_init_846 : decode cX12_init 846 = .ok (.iconst 5, 1) := by decide +kernel
theorem dX12_init_847 : decode cX12_init 847 = .ok (.iastore, 1) := by decide +kernel
theorem dX12_init_848 : decode cX12_init 848 = .ok (.dup, 1) := by decide +kernel
theorem dX12_init_849 : decode cX12_init 849 = .ok (.iconst 1, 1) := by decide +kernel
theorem dX12_init_850 : decode cX12_init 850 = .ok (.bipush 18, 2) := by decide +kernel
theorem dX12_init_852 : decode cX12_init 852 = .ok (.iastore, 1) := by decide +kernel
theorem dX12_init_853 : decode cX12_init 853 = .ok (.dup, 1) := by decide +kernel
theorem dX12_init_854 : decode cX12_init 854 = .ok (.iconst 2, 1) := by decide +kernel
theorem dX12_init_855 : decode cX12_init 855 = .ok (.iconst 0, 1) := by decide +kernel
theorem dX12_init_856 : decode cX12_init 856 = .ok (.iastore, 1) := by decide +kernel
theorem dX12_init_857 : decode cX12_init 857 = .ok (.dup, 1) := by decide +kernel
theorem dX12_init_858 : decode cX12_init 858 = .ok (.iconst 3, 1) := by decide +kernel
theorem dX12_init_859 : decode cX12_init 859 = .ok (.iconst 5, 1) := by decide +kernel
theorem dX12_init_860 : decode cX12_init 860 = .ok (.iastore, 1) := by decide +kernel
theorem dX12_init_861 : decode cX12_init 861 = .ok (.dup, 1) := by decide +kernel
theorem dX12_init_862 : decode cX12_init 862 = .ok (.iconst 4, 1) := by decide +kernel
theorem dX12_init_863 : decode cX12_init 863 = .ok (.bipush 18, 2) := by decide +kernel
theorem dX12_init_865 : decode cX12_init 865 = .ok (.iastore, 1) := by decide +kernel
theorem dX12_init_866 : decode cX12_init 866 = .ok (.dup, 1) := by decide +kernel
theorem dX12_init_867 : decode cX12_init 867 = .ok (.iconst 5, 1) := by decide +kernel
theorem dX12_init_868 : decode cX12_init 868 = .ok (.iconst 0, 1) := by decide +kernel
theorem dX12_init_869 : decode cX12_init 869 = .ok (.iastore, 1) := by decide +kernel
theorem dX12_init_870 : decode cX12_init 870 = .ok (.putfield 124, 3) := by decide +kernel
theorem dX12_init_873 : decode cX12_init 873 = .ok (.aload_n 0, 1) := by decide +kernel
theorem dX12_init_874 : decode cX12_init 874 = .ok (.bipush 16, 2) := by decide +kernel
theorem dX12_init_876 : decode cX12_init 876 = .ok (.newarray .int, 2) := by decide +kernel
theorem dX12_init_878 : decode cX12_init 878 = .ok (.putfield 127, 3) := by decide +kernel
theorem dX12_init_881 : decode cX12_init 881 = .ok (.aload_n 0, 1) := by decide +kernel
theorem dX12_init_882 : decode cX12_init 882 = .ok (.bipush 16, 2) := by decide +kernel
theorem dX12_init_884 : decode cX12_init 884 = .ok (.newarray .int, 2) := by decide +kernel
theorem dX12_init_886 : decode cX12_init 886 = .ok (.putfield 130, 3) := by decide +kernel
theorem dX12_init_889 : decode cX12_init 889 = .ok (.aload_n 0, 1) := by decide +kernel
theorem dX12_init_890 : decode cX12_init 890 = .ok (.sipush 3200, 3) := by decide +kernel
theorem dX12_init_893 : decode cX12_init 893 = .ok (.newarray .int, 2) := by decide +kernel
theorem dX12_init_895 : decode cX12_init 895 = .ok (.putfield 133, 3) := by decide +kernel
theorem dX12_init_898 : decode cX12_init 898 = .ok (.aload_n 0, 1) := by decide +kernel
theorem dX12_init_899 : decode cX12_init 899 = .ok (.bipush 95, 2) := by decide +kernel
theorem dX12_init_901 : decode cX12_init 901 = .ok (.newarray .int, 2) := by decide +kernel
theorem dX12_init_903 : decode cX12_init 903 = .ok (.putfield 136, 3) := by decide +kernel
theorem dX12_init_906 : decode cX12_init 906 = .ok (.aload_n 0, 1) := by decide +kernel
theorem dX12_init_907 : decode cX12_init 907 = .ok (.bipush 95, 2) := by decide +kernel
theorem dX12_init_909 : decode cX12_init 909 = .ok (.newarray .int, 2) := by decide +kernel
theorem dX12_init_911 : decode cX12_init 911 = .ok (.putfield 139, 3) := by decide +kernel
theorem dX12_init_914 : decode cX12_init 914 = .ok (.aload_n 0, 1) := by decide +kernel
theorem dX12_init_915 : decode cX12_init 915 = .ok (.iconst 4, 1) := by decide +kernel
theorem dX12_init_916 : decode cX12_init 916 = .ok (.newarray .int, 2) := by decide +kernel
theorem dX12_init_918 : decode cX12_init 918 = .ok (.putfield 142, 3) := by decide +kernel
theorem dX12_init_921 : decode cX12_init 921 = .ok (.aload_n 0, 1) := by decide +kernel
theorem dX12_init_922 : decode cX12_init 922 = .ok (.sipush 855, 3) := by decide +kernel
theorem dX12_init_925 : decode cX12_init 925 = .ok (.newarray .int, 2) := by decide +kernel
theorem dX12_init_927 : decode cX12_init 927 = .ok (.putfield 145, 3) := by decide +kernel
theorem dX12_init_930 : decode cX12_init 930 = .ok (.aload_n 0, 1) := by decide +kernel
theorem dX12_init_931 : decode cX12_init 931 = .ok (.sipush 1900, 3) := by decide +kernel
theorem dX12_init_934 : decode cX12_init 934 = .ok (.newarray .int, 2) := by decide +kernel
theorem dX12_init_936 : decode cX12_init 936 = .ok (.putfield 148, 3) := by decide +kernel
theorem dX12_init_939 : decode cX12_init 939 = .ok (.aload_n 0, 1) := by decide +kernel
theorem dX12_init_940 : decode cX12_init 940 = .ok (.lconst 1, 1) := by decide +kernel
theorem dX12_init_941 : decode cX12_init 941 = .ok (.putfield 151, 3) := by decide +kernel
theorem dX12_init_944 : decode cX12_init 944 = .ok (.aload_n 0, 1) := by decide +kernel
theorem dX12_init_945 : decode cX12_init 945 = .ok (.bipush 80, 2) := by decide +kernel
theorem dX12_init_947 : decode cX12_init 947 = .ok (.newarray .int, 2) := by decide +kernel
theorem dX12_init_949 : decode cX12_init 949 = .ok (.putfield 155, 3) := by decide +kernel
theorem dX12_init_952 : decode cX12_init 952 = .ok (.aload_n 0, 1) := by decide +kernel
theorem dX12_init_953 : decode cX12_init 953 = .ok (.sipush 3200, 3) := by decide +kernel
theorem dX12_init_956 : decode cX12_init 956 = .ok (.newarray .int, 2) := by decide +kernel
theorem dX12_init_958 : decode cX12_init 958 = .ok (.putfield 158, 3) := by decide +kernel
theorem dX12_init_961 : decode cX12_init 961 = .ok (.aload_n 0, 1) := by decide +kernel
theorem dX12_init_962 : decode cX12_init 962 = .ok (.iconst 5, 1) := by decide +kernel
theorem dX12_init_963 : decode cX12_init 963 = .ok (.newarray .char, 2) := by decide +kernel
theorem dX12_init_965 : decode cX12_init 965 = .ok (.dup, 1) := by decide +kernel
theorem dX12_init_966 : decode cX12_init 966 = .ok (.iconst 0, 1) := by decide +kernel
theorem dX12_init_967 : decode cX12_init 967 = .ok (.bipush 102, 2) := by decide +kernel
theorem dX12_init_969 : decode cX12_init 969 = .ok (.castore, 1) := by decide +kernel
theorem dX12_init_970 : decode cX12_init 970 = .ok (.dup, 1) := by decide +kernel
theorem dX12_init_971 : decode cX12_init 971 = .ok (.iconst 1, 1) := by decide +kernel
theorem dX12_init_972 : decode cX12_init 972 = .ok (.bipush 105, 2) := by decide +kernel
theorem dX12_init_974 : decode cX12_init 974 = .ok (.castore, 1) := by decide +kernel
theorem dX12_init_975 : decode cX12_init 975 = .ok (.dup, 1) := by decide +kernel
theorem dX12_init_976 : decode cX12_init 976 = .ok (.iconst 2, 1) := by decide +kernel
theorem dX12_init_977 : decode cX12_init 977 = .ok (.bipush 114, 2) := by decide +kernel
theorem dX12_init_979 : decode cX12_init 979 = .ok (.castore, 1) := by decide +kernel
theorem dX12_init_980 : decode cX12_init 980 = .ok (.dup, 1) := by decide +kernel
theorem dX12_init_981 : decode cX12_init 981 = .ok (.iconst 3, 1) := by decide +kernel
theorem dX12_init_982 : decode cX12_init 982 = .ok (.bipush 115, 2) := by decide +kernel
theorem dX12_init_984 : decode cX12_init 984 = .ok (.castore, 1) := by decide +kernel
theorem dX12_init_985 : decode cX12_init 985 = .ok (.dup, 1) := by decide +kernel
theorem dX12_init_986 : decode cX12_init 986 = .ok (.iconst 4, 1) := by decide +kernel
theorem dX12_init_987 : decode cX12_init 987 = .ok (.bipush 116, 2) := by decide +kernel
theorem dX12_init_989 : decode cX12_init 989 = .ok (.castore, 1) := by decide +kernel
theorem dX12_init_990 : decode cX12_init 990 = .ok (.putfield 161, 3) := by decide +kernel
theorem dX12_init_993 : decode cX12_init 993 = .ok (.aload_n 0, 1) := by decide +kernel
theorem dX12_init_994 : decode cX12_init 994 = .ok (.iconst 4, 1) := by decide +kernel
theorem dX12_init_995 : decode cX12_init 995 = .ok (.newarray .char, 2) := by decide +kernel
theorem dX12_init_997 : decode cX12_init 997 = .ok (.dup, 1) := by decide +kernel
theorem dX12_init_998 : decode cX12_init 998 = .ok (.iconst 0, 1) := by decide +kernel
theorem dX12_init_999 : decode cX12_init 999 = .ok (.bipush 108, 2) := by decide +kernel
theorem dX12_init_1001 : decode cX12_init 1001 = .ok (.castore, 1) := by decide +kernel
theorem dX12_init_1002 : decode cX12_init 1002 = .ok (.dup, 1) := by decide +kernel
theorem dX12_init_1003 : decode cX12_init 1003 = .ok (.iconst 1, 1) := by decide +kernel
theorem dX12_init_1004 : decode cX12_init 1004 = .ok (.bipush 97, 2) := by decide +kernel
theorem dX12_init_1006 : decode cX12_init 1006 = .ok (.castore, 1) := by decide +kernel
theorem dX12_init_1007 : decode cX12_init 1007 = .ok (.dup, 1) := by decide +kernel
theorem dX12_init_1008 : decode cX12_init 1008 = .ok (.iconst 2, 1) := by decide +kernel
theorem dX12_init_1009 : decode cX12_init 1009 = .ok (.bipush 115, 2) := by decide +kernel
theorem dX12_init_1011 : decode cX12_init 1011 = .ok (.castore, 1) := by decide +kernel
theorem dX12_init_1012 : decode cX12_init 1012 = .ok (.dup, 1) := by decide +kernel
theorem dX12_init_1013 : decode cX12_init 1013 = .ok (.iconst 3, 1) := by decide +kernel
theorem dX12_init_1014 : decode cX12_init 1014 = .ok (.bipush 116, 2) := by decide +kernel
theorem dX12_init_1016 : decode cX12_init 1016 = .ok (.castore, 1) := by decide +kernel
theorem dX12_init_1017 : decode cX12_init 1017 = .ok (.putfield 164, 3) := by decide +kernel
theorem dX12_init_1020 : decode cX12_init 1020 = .ok (.aload_n 0, 1) := by decide +kernel
theorem dX12_init_1021 : decode cX12_init 1021 = .ok (.iconst 5, 1) := by decide +kernel
theorem dX12_init_1022 : decode cX12_init 1022 = .ok (.newarray .char, 2) := by decide +kernel
theorem dX12_init_1024 : decode cX12_init 1024 = .ok (.dup, 1) := by decide +kernel
theorem dX12_init_1025 : decode cX12_init 1025 = .ok (.iconst 0, 1) := by decide +kernel
theorem dX12_init_1026 : decode cX12_init 1026 = .ok (.bipush 111, 2) := by decide +kernel
theorem dX12_init_1028 : decode cX12_init 1028 = .ok (.castore, 1) := by decide +kernel
theorem dX12_init_1029 : decode cX12_init 1029 = .ok (.dup, 1) := by decide +kernel
theorem dX12_init_1030 : decode cX12_init 1030 = .ok (.iconst 1, 1) := by decide +kernel
theorem dX12_init_1031 : decode cX12_init 1031 = .ok (.bipush 102, 2) := by decide +kernel
theorem dX12_init_1033 : decode cX12_init 1033 = .ok (.castore, 1) := by decide +kernel
theorem dX12_init_1034 : decode cX12_init 1034 = .ok (.dup, 1) := by decide +kernel
theorem dX12_init_1035 : decode cX12_init 1035 = .ok (.iconst 2, 1) := by decide +kernel
theorem dX12_init_1036 : decode cX12_init 1036 = .ok (.bipush 116, 2) := by decide +kernel
theorem dX12_init_1038 : decode cX12_init 1038 = .ok (.castore, 1) := by decide +kernel
theorem dX12_init_1039 : decode cX12_init 1039 = .ok (.dup, 1) := by decide +kernel
theorem dX12_init_1040 : decode cX12_init 1040 = .ok (.iconst 3, 1) := by decide +kernel
theorem dX12_init_1041 : decode cX12_init 1041 = .ok (.bipush 101, 2) := by decide +kernel
theorem dX12_init_1043 : decode cX12_init 1043 = .ok (.castore, 1) := by decide +kernel
theorem dX12_init_1044 : decode cX12_init 1044 = .ok (.dup, 1) := by decide +kernel
theorem dX12_init_1045 : decode cX12_init 1045 = .ok (.iconst 4, 1) := by decide +kernel
theorem dX12_init_1046 : decode cX12_init 1046 = .ok (.bipush 110, 2) := by decide +kernel
theorem dX12_init_1048 : decode cX12_init 1048 = .ok (.castore, 1) := by decide +kernel
theorem dX12_init_1049 : decode cX12_init 1049 = .ok (.putfield 167, 3) := by decide +kernel
theorem dX12_init_1052 : decode cX12_init 1052 = .ok (.aload_n 0, 1) := by decide +kernel
theorem dX12_init_1053 : decode cX12_init 1053 = .ok (.iconst 5, 1) := by decide +kernel
theorem dX12_init_1054 : decode cX12_init 1054 = .ok (.newarray .char, 2) := by decide +kernel
theorem dX12_init_1056 : decode cX12_init 1056 = .ok (.dup, 1) := by decide +kernel
theorem dX12_init_1057 : decode cX12_init 1057 = .ok (.iconst 0, 1) := by decide +kernel
theorem dX12_init_1058 : decode cX12_init 1058 = .ok (.bipush 116, 2) := by decide +kernel
theorem dX12_init_1060 : decode cX12_init 1060 = .ok (.castore, 1) := by decide +kernel
theorem dX12_init_1061 : decode cX12_init 1061 = .ok (.dup, 1) := by decide +kernel
theorem dX12_init_1062 : decode cX12_init 1062 = .ok (.iconst 1, 1) := by decide +kernel
theorem dX12_init_1063 : decode cX12_init 1063 = .ok (.bipush 111, 2) := by decide +kernel
theorem dX12_init_1065 : decode cX12_init 1065 = .ok (.castore, 1) := by decide +kernel
theorem dX12_init_1066 : decode cX12_init 1066 = .ok (.dup, 1) := by decide +kernel
theorem dX12_init_1067 : decode cX12_init 1067 = .ok (.iconst 2, 1) := by decide +kernel
theorem dX12_init_1068 : decode cX12_init 1068 = .ok (.bipush 116, 2) := by decide +kernel
theorem dX12_init_1070 : decode cX12_init 1070 = .ok (.castore, 1) := by decide +kernel
theorem dX12_init_1071 : decode cX12_init 1071 = .ok (.dup, 1) := by decide +kernel
theorem dX12_init_1072 : decode cX12_init 1072 = .ok (.iconst 3, 1) := by decide +kernel
theorem dX12_init_1073 : decode cX12_init 1073 = .ok (.bipush 97, 2) := by decide +kernel
theorem dX12_init_1075 : decode cX12_init 1075 = .ok (.castore, 1) := by decide +kernel
theorem dX12_init_1076 : decode cX12_init 1076 = .ok (.dup, 1) := by decide +kernel
theorem dX12_init_1077 : decode cX12_init 1077 = .ok (.iconst 4, 1) := by decide +kernel
theorem dX12_init_1078 : decode cX12_init 1078 = .ok (.bipush 108, 2) := by decide +kernel
theorem dX12_init_1080 : decode cX12_init 1080 = .ok (.castore, 1) := by decide +kernel
theorem dX12_init_1081 : decode cX12_init 1081 = .ok (.putfield 170, 3) := by decide +kernel
theorem dX12_init_1084 : decode cX12_init 1084 = .ok (.aload_n 0, 1) := by decide +kernel
theorem dX12_init_1085 : decode cX12_init 1085 = .ok (.iconst 4, 1) := by decide +kernel
theorem dX12_init_1086 : decode cX12_init 1086 = .ok (.newarray .char, 2) := by decide +kernel
theorem dX12_init_1088 : decode cX12_init 1088 = .ok (.dup, 1) := by decide +kernel
theorem dX12_init_1089 : decode cX12_init 1089 = .ok (.iconst 0, 1) := by decide +kernel
theorem dX12_init_1090 : decode cX12_init 1090 = .ok (.bipush 109, 2) := by decide +kernel
theorem dX12_init_1092 : decode cX12_init 1092 = .ok (.castore, 1) := by decide +kernel
theorem dX12_init_1093 : decode cX12_init 1093 = .ok (.dup, 1) := by decide +kernel
theorem dX12_init_1094 : decode cX12_init 1094 = .ok (.iconst 1, 1) := by decide +kernel
theorem dX12_init_1095 : decode cX12_init 1095 = .ok (.bipush 111, 2) := by decide +kernel
theorem dX12_init_1097 : decode cX12_init 1097 = .ok (.castore, 1) := by decide +kernel
theorem dX12_init_1098 : decode cX12_init 1098 = .ok (.dup, 1) := by decide +kernel
theorem dX12_init_1099 : decode cX12_init 1099 = .ok (.iconst 2, 1) := by decide +kernel
theorem dX12_init_1100 : decode cX12_init 1100 = .ok (.bipush 115, 2) := by decide +kernel
theorem dX12_init_1102 : decode cX12_init 1102 = .ok (.castore, 1) := by decide +kernel
theorem dX12_init_1103 : decode cX12_init 1103 = .ok (.dup, 1) := by decide +kernel
theorem dX12_init_1104 : decode cX12_init 1104 = .ok (.iconst 3, 1) := by decide +kernel
theorem dX12_init_1105 : decode cX12_init 1105 = .ok (.bipush 116, 2) := by decide +kernel
theorem dX12_init_1107 : decode cX12_init 1107 = .ok (.castore, 1) := by decide +kernel
theorem dX12_init_1108 : decode cX12_init 1108 = .ok (.putfield 173, 3) := by decide +kernel
theorem dX12_init_1111 : decode cX12_init 1111 = .ok (.aload_n 0, 1) := by decide +kernel
theorem dX12_init_1112 : decode cX12_init 1112 = .ok (.iconst 5, 1) := by decide +kernel
theorem dX12_init_1113 : decode cX12_init 1113 = .ok (.newarray .char, 2) := by decide +kernel
theorem dX12_init_1115 : decode cX12_init 1115 = .ok (.dup, 1) := by decide +kernel
theorem dX12_init_1116 : decode cX12_init 1116 = .ok (.iconst 0, 1) := by decide +kernel
theorem dX12_init_1117 : decode cX12_init 1117 = .ok (.bipush 108, 2) := by decide +kernel
theorem dX12_init_1119 : decode cX12_init 1119 = .ok (.castore, 1) := by decide +kernel
theorem dX12_init_1120 : decode cX12_init 1120 = .ok (.dup, 1) := by decide +kernel
theorem dX12_init_1121 : decode cX12_init 1121 = .ok (.iconst 1, 1) := by decide +kernel
theorem dX12_init_1122 : decode cX12_init 1122 = .ok (.bipush 101, 2) := by decide +kernel
theorem dX12_init_1124 : decode cX12_init 1124 = .ok (.castore, 1) := by decide +kernel
theorem dX12_init_1125 : decode cX12_init 1125 = .ok (.dup, 1) := by decide +kernel
theorem dX12_init_1126 : decode cX12_init 1126 = .ok (.iconst 2, 1) := by decide +kernel
theorem dX12_init_1127 : decode cX12_init 1127 = .ok (.bipush 97, 2) := by decide +kernel
theorem dX12_init_1129 : decode cX12_init 1129 = .ok (.castore, 1) := by decide +kernel
theorem dX12_init_1130 : decode cX12_init 1130 = .ok (.dup, 1) := by decide +kernel
theorem dX12_init_1131 : decode cX12_init 1131 = .ok (.iconst 3, 1) := by decide +kernel
theorem dX12_init_1132 : decode cX12_init 1132 = .ok (.bipush 115, 2) := by decide +kernel
theorem dX12_init_1134 : decode cX12_init 1134 = .ok (.castore, 1) := by decide +kernel
theorem dX12_init_1135 : decode cX12_init 1135 = .ok (.dup, 1) := by decide +kernel
theorem dX12_init_1136 : decode cX12_init 1136 = .ok (.iconst 4, 1) := by decide +kernel
theorem dX12_init_1137 : decode cX12_init 1137 = .ok (.bipush 116, 2) := by decide +kernel
theorem dX12_init_1139 : decode cX12_init 1139 = .ok (.castore, 1) := by decide +kernel
theorem dX12_init_1140 : decode cX12_init 1140 = .ok (.putfield 176, 3) := by decide +kernel
theorem dX12_init_1143 : decode cX12_init 1143 = .ok (.aload_n 0, 1) := by decide +kernel
theorem dX12_init_1144 : decode cX12_init 1144 = .ok (.iconst 3, 1) := by decide +kernel
theorem dX12_init_1145 : decode cX12_init 1145 = .ok (.newarray .char, 2) := by decide +kernel
theorem dX12_init_1147 : decode cX12_init 1147 = .ok (.dup, 1) := by decide +kernel
theorem dX12_init_1148 : decode cX12_init 1148 = .ok (.iconst 0, 1) := by decide +kernel
theorem dX12_init_1149 : decode cX12_init 1149 = .ok (.bipush 110, 2) := by decide +kernel
theorem dX12_init_1151 : decode cX12_init 1151 = .ok (.castore, 1) := by decide +kernel
theorem dX12_init_1152 : decode cX12_init 1152 = .ok (.dup, 1) := by decide +kernel
theorem dX12_init_1153 : decode cX12_init 1153 = .ok (.iconst 1, 1) := by decide +kernel
theorem dX12_init_1154 : decode cX12_init 1154 = .ok (.bipush 111, 2) := by decide +kernel
theorem dX12_init_1156 : decode cX12_init 1156 = .ok (.castore, 1) := by decide +kernel
theorem dX12_init_1157 : decode cX12_init 1157 = .ok (.dup, 1) := by decide +kernel
theorem dX12_init_1158 : decode cX12_init 1158 = .ok (.iconst 2, 1) := by decide +kernel
theorem dX12_init_1159 : decode cX12_init 1159 = .ok (.bipush 116, 2) := by decide +kernel
theorem dX12_init_1161 : decode cX12_init 1161 = .ok (.castore, 1) := by decide +kernel
theorem dX12_init_1162 : decode cX12_init 1162 = .ok (.putfield 179, 3) := by decide +kernel
theorem dX12_init_1165 : decode cX12_init 1165 = .ok (.aload_n 0, 1) := by decide +kernel
theorem dX12_init_1166 : decode cX12_init 1166 = .ok (.iconst 3, 1) := by decide +kernel
theorem dX12_init_1167 : decode cX12_init 1167 = .ok (.newarray .char, 2) := by decide +kernel
theorem dX12_init_1169 : decode cX12_init 1169 = .ok (.dup, 1) := by decide +kernel
theorem dX12_init_1170 : decode cX12_init 1170 = .ok (.iconst 0, 1) := by decide +kernel
theorem dX12_init_1171 : decode cX12_init 1171 = .ok (.bipush 97, 2) := by decide +kernel
theorem dX12_init_1173 : decode cX12_init 1173 = .ok (.castore, 1) := by decide +kernel
theorem dX12_init_1174 : decode cX12_init 1174 = .ok (.dup, 1) := by decide +kernel
theorem dX12_init_1175 : decode cX12_init 1175 = .ok (.iconst 1, 1) := by decide +kernel
theorem dX12_init_1176 : decode cX12_init 1176 = .ok (.bipush 110, 2) := by decide +kernel
theorem dX12_init_1178 : decode cX12_init 1178 = .ok (.castore, 1) := by decide +kernel
theorem dX12_init_1179 : decode cX12_init 1179 = .ok (.dup, 1) := by decide +kernel
theorem dX12_init_1180 : decode cX12_init 1180 = .ok (.iconst 2, 1) := by decide +kernel
theorem dX12_init_1181 : decode cX12_init 1181 = .ok (.bipush 100, 2) := by decide +kernel
theorem dX12_init_1183 : decode cX12_init 1183 = .ok (.castore, 1) := by decide +kernel
theorem dX12_init_1184 : decode cX12_init 1184 = .ok (.putfield 182, 3) := by decide +kernel
theorem dX12_init_1187 : decode cX12_init 1187 = .ok (.aload_n 0, 1) := by decide +kernel
theorem dX12_init_1188 : decode cX12_init 1188 = .ok (.iconst 2, 1) := by decide +kernel
theorem dX12_init_1189 : decode cX12_init 1189 = .ok (.newarray .char, 2) := by decide +kernel
theorem dX12_init_1191 : decode cX12_init 1191 = .ok (.dup, 1) := by decide +kernel
theorem dX12_init_1192 : decode cX12_init 1192 = .ok (.iconst 0, 1) := by decide +kernel
theorem dX12_init_1193 : decode cX12_init 1193 = .ok (.bipush 111, 2) := by decide +kernel
theorem dX12_init_1195 : decode cX12_init 1195 = .ok (.castore, 1) := by decide +kernel
theorem dX12_init_1196 : decode cX12_init 1196 = .ok (.dup, 1) := by decide +kernel
theorem dX12_init_1197 : decode cX12_init 1197 = .ok (.iconst 1, 1) := by decide +kernel
theorem dX12_init_1198 : decode cX12_init 1198 = .ok (.bipush 114, 2) := by decide +kernel
theorem dX12_init_1200 : decode cX12_init 1200 = .ok (.castore, 1) := by decide +kernel
theorem dX12_init_1201 : decode cX12_init 1201 = .ok (.putfield 185, 3) := by decide +kernel
theorem dX12_init_1204 : decode cX12_init 1204 = .ok (.aload_n 0, 1) := by decide +kernel
theorem dX12_init_1205 : decode cX12_init 1205 = .ok (.iconst 3, 1) := by decide +kernel
theorem dX12_init_1206 : decode cX12_init 1206 = .ok (.newarray .char, 2) := by decide +kernel
theorem dX12_init_1208 : decode cX12_init 1208 = .ok (.dup, 1) := by decide +kernel
theorem dX12_init_1209 : decode cX12_init 1209 = .ok (.iconst 0, 1) := by decide +kernel
theorem dX12_init_1210 : decode cX12_init 1210 = .ok (.bipush 97, 2) := by decide +kernel
theorem dX12_init_1212 : decode cX12_init 1212 = .ok (.castore, 1) := by decide +kernel
theorem dX12_init_1213 : decode cX12_init 1213 = .ok (.dup, 1) := by decide +kernel
theorem dX12_init_1214 : decode cX12_init 1214 = .ok (.iconst 1, 1) := by decide +kernel
theorem dX12_init_1215 : decode cX12_init 1215 = .ok (.bipush 108, 2) := by decide +kernel
theorem dX12_init_1217 : decode cX12_init 1217 = .ok (.castore, 1) := by decide +kernel
theorem dX12_init_1218 : decode cX12_init 1218 = .ok (.dup, 1) := by decide +kernel
theorem dX12_init_1219 : decode cX12_init 1219 = .ok (.iconst 2, 1) := by decide +kernel
theorem dX12_init_1220 : decode cX12_init 1220 = .ok (.bipush 108, 2) := by decide +kernel
theorem dX12_init_1222 : decode cX12_init 1222 = .ok (.castore, 1) := by decide +kernel
theorem dX12_init_1223 : decode cX12_init 1223 = .ok (.putfield 188, 3) := by decide +kernel
theorem dX12_init_1226 : decode cX12_init 1226 = .ok (.aload_n 0, 1) := by decide +kernel
theorem dX12_init_1227 : decode cX12_init 1227 = .ok (.iconst 3, 1) := by decide +kernel
theorem dX12_init_1228 : decode cX12_init 1228 = .ok (.newarray .char, 2) := by decide +kernel
theorem dX12_init_1230 : decode cX12_init 1230 = .ok (.dup, 1) := by decide +kernel
theorem dX12_init_1231 : decode cX12_init 1231 = .ok (.iconst 0, 1) := by decide +kernel
theorem dX12_init_1232 : decode cX12_init 1232 = .ok (.bipush 109, 2) := by decide +kernel
theorem dX12_init_1234 : decode cX12_init 1234 = .ok (.castore, 1) := by decide +kernel
theorem dX12_init_1235 : decode cX12_init 1235 = .ok (.dup, 1) := by decide +kernel
theorem dX12_init_1236 : decode cX12_init 1236 = .ok (.iconst 1, 1) := by decide +kernel
theorem dX12_init_1237 : decode cX12_init 1237 = .ok (.bipush 105, 2) := by decide +kernel
theorem dX12_init_1239 : decode cX12_init 1239 = .ok (.castore, 1) := by decide +kernel
theorem dX12_init_1240 : decode cX12_init 1240 = .ok (.dup, 1) := by decide +kernel
theorem dX12_init_1241 : decode cX12_init 1241 = .ok (.iconst 2, 1) := by decide +kernel
theorem dX12_init_1242 : decode cX12_init 1242 = .ok (.bipush 110, 2) := by decide +kernel
theorem dX12_init_1244 : decode cX12_init 1244 = .ok (.castore, 1) := by decide +kernel
theorem dX12_init_1245 : decode cX12_init 1245 = .ok (.putfield 191, 3) := by decide +kernel
theorem dX12_init_1248 : decode cX12_init 1248 = .ok (.aload_n 0, 1) := by decide +kernel
theorem dX12_init_1249 : decode cX12_init 1249 = .ok (.iconst 3, 1) := by decide +kernel
theorem dX12_init_1250 : decode cX12_init 1250 = .ok (.newarray .char, 2) := by decide +kernel
theorem dX12_init_1252 : decode cX12_init 1252 = .ok (.dup, 1) := by decide +kernel
theorem dX12_init_1253 : decode cX12_init 1253 = .ok (.iconst 0, 1) := by decide +kernel
theorem dX12_init_1254 : decode cX12_init 1254 = .ok (.bipush 109, 2) := by decide +kernel
theorem dX12_init_1256 : decode cX12_init 1256 = .ok (.castore, 1) := by decide +kernel
theorem dX12_init_1257 : decode cX12_init 1257 = .ok (.dup, 1) := by decide +kernel
theorem dX12_init_1258 : decode cX12_init 1258 = .ok (.iconst 1, 1) := by decide +kernel
theorem dX12_init_1259 : decode cX12_init 1259 = .ok (.bipush 97, 2) := by decide +kernel
theorem dX12_init_1261 : decode cX12_init 1261 = .ok (.castore, 1) := by decide +kernel
theorem dX12_init_1262 : decode cX12_init 1262 = .ok (.dup, 1) := by decide +kernel
theorem dX12_init_1263 : decode cX12_init 1263 = .ok (.iconst 2, 1) := by decide +kernel
theorem dX12_init_1264 : decode cX12_init 1264 = .ok (.bipush 120, 2) := by decide +kernel
theorem dX12_init_1266 : decode cX12_init 1266 = .ok (.castore, 1) := by decide +kernel
theorem dX12_init_1267 : decode cX12_init 1267 = .ok (.putfield 194, 3) := by decide +kernel
theorem dX12_init_1270 : decode cX12_init 1270 = .ok (.aload_n 0, 1) := by decide +kernel
theorem dX12_init_1271 : decode cX12_init 1271 = .ok (.iconst 5, 1) := by decide +kernel
theorem dX12_init_1272 : decode cX12_init 1272 = .ok (.newarray .char, 2) := by decide +kernel
theorem dX12_init_1274 : decode cX12_init 1274 = .ok (.dup, 1) := by decide +kernel
theorem dX12_init_1275 : decode cX12_init 1275 = .ok (.iconst 0, 1) := by decide +kernel
theorem dX12_init_1276 : decode cX12_init 1276 = .ok (.bipush 99, 2) := by decide +kernel
theorem dX12_init_1278 : decode cX12_init 1278 = .ok (.castore, 1) := by decide +kernel
theorem dX12_init_1279 : decode cX12_init 1279 = .ok (.dup, 1) := by decide +kernel
theorem dX12_init_1280 : decode cX12_init 1280 = .ok (.iconst 1, 1) := by decide +kernel
theorem dX12_init_1281 : decode cX12_init 1281 = .ok (.bipush 108, 2) := by decide +kernel
theorem dX12_init_1283 : decode cX12_init 1283 = .ok (.castore, 1) := by decide +kernel
theorem dX12_init_1284 : decode cX12_init 1284 = .ok (.dup, 1) := by decide +kernel
theorem dX12_init_1285 : decode cX12_init 1285 = .ok (.iconst 2, 1) := by decide +kernel
theorem dX12_init_1286 : decode cX12_init 1286 = .ok (.bipush 111, 2) := by decide +kernel
theorem dX12_init_1288 : decode cX12_init 1288 = .ok (.castore, 1) := by decide +kernel
theorem dX12_init_1289 : decode cX12_init 1289 = .ok (.dup, 1) := by decide +kernel
theorem dX12_init_1290 : decode cX12_init 1290 = .ok (.iconst 3, 1) := by decide +kernel
theorem dX12_init_1291 : decode cX12_init 1291 = .ok (.bipush 99, 2) := by decide +kernel
theorem dX12_init_1293 : decode cX12_init 1293 = .ok (.castore, 1) := by decide +kernel
theorem dX12_init_1294 : decode cX12_init 1294 = .ok (.dup, 1) := by decide +kernel
theorem dX12_init_1295 : decode cX12_init 1295 = .ok (.iconst 4, 1) := by decide +kernel
theorem dX12_init_1296 : decode cX12_init 1296 = .ok (.bipush 107, 2) := by decide +kernel
theorem dX12_init_1298 : decode cX12_init 1298 = .ok (.castore, 1) := by decide +kernel
theorem dX12_init_1299 : decode cX12_init 1299 = .ok (.putfield 197, 3) := by decide +kernel
theorem dX12_init_1302 : decode cX12_init 1302 = .ok (.aload_n 0, 1) := by decide +kernel
theorem dX12_init_1303 : decode cX12_init 1303 = .ok (.iconst 3, 1) := by decide +kernel
theorem dX12_init_1304 : decode cX12_init 1304 = .ok (.newarray .char, 2) := by decide +kernel
theorem dX12_init_1306 : decode cX12_init 1306 = .ok (.dup, 1) := by decide +kernel
theorem dX12_init_1307 : decode cX12_init 1307 = .ok (.iconst 0, 1) := by decide +kernel
theorem dX12_init_1308 : decode cX12_init 1308 = .ok (.bipush 100, 2) := by decide +kernel
theorem dX12_init_1310 : decode cX12_init 1310 = .ok (.castore, 1) := by decide +kernel
theorem dX12_init_1311 : decode cX12_init 1311 = .ok (.dup, 1) := by decide +kernel
theorem dX12_init_1312 : decode cX12_init 1312 = .ok (.iconst 1, 1) := by decide +kernel
theorem dX12_init_1313 : decode cX12_init 1313 = .ok (.bipush 97, 2) := by decide +kernel
theorem dX12_init_1315 : decode cX12_init 1315 = .ok (.castore, 1) := by decide +kernel
theorem dX12_init_1316 : decode cX12_init 1316 = .ok (.dup, 1) := by decide +kernel
theorem dX12_init_1317 : decode cX12_init 1317 = .ok (.iconst 2, 1) := by decide +kernel
theorem dX12_init_1318 : decode cX12_init 1318 = .ok (.bipush 121, 2) := by decide +kernel
theorem dX12_init_1320 : decode cX12_init 1320 = .ok (.castore, 1) := by decide +kernel
theorem dX12_init_1321 : decode cX12_init 1321 = .ok (.putfield 200, 3) := by decide +kernel
theorem dX12_init_1324 : decode cX12_init 1324 = .ok (.aload_n 0, 1) := by decide +kernel
theorem dX12_init_1325 : decode cX12_init 1325 = .ok (.iconst 3, 1) := by decide +kernel
theorem dX12_init_1326 : decode cX12_init 1326 = .ok (.newarray .char, 2) := by decide +kernel
theorem dX12_init_1328 : decode cX12_init 1328 = .ok (.dup, 1) := by decide +kernel
theorem dX12_init_1329 : decode cX12_init 1329 = .ok (.iconst 0, 1) := by decide +kernel
theorem dX12_init_1330 : decode cX12_init 1330 = .ok (.bipush 111, 2) := by decide +kernel
theorem dX12_init_1332 : decode cX12_init 1332 = .ok (.castore, 1) := by decide +kernel
theorem dX12_init_1333 : decode cX12_init 1333 = .ok (.dup, 1) := by decide +kernel
theorem dX12_init_1334 : decode cX12_init 1334 = .ok (.iconst 1, 1) := by decide +kernel
theorem dX12_init_1335 : decode cX12_init 1335 = .ok (.bipush 119, 2) := by decide +kernel
theorem dX12_init_1337 : decode cX12_init 1337 = .ok (.castore, 1) := by decide +kernel
theorem dX12_init_1338 : decode cX12_init 1338 = .ok (.dup, 1) := by decide +kernel
theorem dX12_init_1339 : decode cX12_init 1339 = .ok (.iconst 2, 1) := by decide +kernel
theorem dX12_init_1340 : decode cX12_init 1340 = .ok (.bipush 110, 2) := by decide +kernel
theorem dX12_init_1342 : decode cX12_init 1342 = .ok (.castore, 1) := by decide +kernel
theorem dX12_init_1343 : decode cX12_init 1343 = .ok (.putfield 203, 3) := by decide +kernel
theorem dX12_init_1346 : decode cX12_init 1346 = .ok (.aload_n 0, 1) := by decide +kernel
theorem dX12_init_1347 : decode cX12_init 1347 = .ok (.iconst 3, 1) := by decide +kernel
theorem dX12_init_1348 : decode cX12_init 1348 = .ok (.newarray .char, 2) := by decide +kernel
theorem dX12_init_1350 : decode cX12_init 1350 = .ok (.dup, 1) := by decide +kernel
theorem dX12_init_1351 : decode cX12_init 1351 = .ok (.iconst 0, 1) := by decide +kernel
theorem dX12_init_1352 : decode cX12_init 1352 = .ok (.bipush 110, 2) := by decide +kernel
theorem dX12_init_1354 : decode cX12_init 1354 = .ok (.castore, 1) := by decide +kernel
theorem dX12_init_1355 : decode cX12_init 1355 = .ok (.dup, 1) := by decide +kernel
theorem dX12_init_1356 : decode cX12_init 1356 = .ok (.iconst 1, 1) := by decide +kernel
theorem dX12_init_1357 : decode cX12_init 1357 = .ok (.bipush 111, 2) := by decide +kernel
theorem dX12_init_1359 : decode cX12_init 1359 = .ok (.castore, 1) := by decide +kernel
theorem dX12_init_1360 : decode cX12_init 1360 = .ok (.dup, 1) := by decide +kernel
theorem dX12_init_1361 : decode cX12_init 1361 = .ok (.iconst 2, 1) := by decide +kernel
theorem dX12_init_1362 : decode cX12_init 1362 = .ok (.bipush 119, 2) := by decide +kernel
theorem dX12_init_1364 : decode cX12_init 1364 = .ok (.castore, 1) := by decide +kernel
theorem dX12_init_1365 : decode cX12_init 1365 = .ok (.putfield 206, 3) := by decide +kernel
theorem dX12_init_1368 : decode cX12_init 1368 = .ok (.aload_n 0, 1) := by decide +kernel
theorem dX12_init_1369 : decode cX12_init 1369 = .ok (.iconst 5, 1) := by decide +kernel
theorem dX12_init_1370 : decode cX12_init 1370 = .ok (.newarray .char, 2) := by decide +kernel
theorem dX12_init_1372 : decode cX12_init 1372 = .ok (.dup, 1) := by decide +kernel
theorem dX12_init_1373 : decode cX12_init 1373 = .ok (.iconst 0, 1) := by decide +kernel
theorem dX12_init_1374 : decode cX12_init 1374 = .ok (.bipush 98, 2) := by decide +kernel
theorem dX12_init_1376 : decode cX12_init 1376 = .ok (.castore, 1) := by decide +kernel
theorem dX12_init_1377 : decode cX12_init 1377 = .ok (.dup, 1) := by decide +kernel
theorem dX12_init_1378 : decode cX12_init 1378 = .ok (.iconst 1, 1) := by decide +kernel
theorem dX12_init_1379 : decode cX12_init 1379 = .ok (.bipush 114, 2) := by decide +kernel
theorem dX12_init_1381 : decode cX12_init 1381 = .ok (.castore, 1) := by decide +kernel
theorem dX12_init_1382 : decode cX12_init 1382 = .ok (.dup, 1) := by decide +kernel
theorem dX12_init_1383 : decode cX12_init 1383 = .ok (.iconst 2, 1) := by decide +kernel
theorem dX12_init_1384 : decode cX12_init 1384 = .ok (.bipush 101, 2) := by decide +kernel
theorem dX12_init_1386 : decode cX12_init 1386 = .ok (.castore, 1) := by decide +kernel
theorem dX12_init_1387 : decode cX12_init 1387 = .ok (.dup, 1) := by decide +kernel
theorem dX12_init_1388 : decode cX12_init 1388 = .ok (.iconst 3, 1) := by decide +kernel
theorem dX12_init_1389 : decode cX12_init 1389 = .ok (.bipush 97, 2) := by decide +kernel
theorem dX12_init_1391 : decode cX12_init 1391 = .ok (.castore, 1) := by decide +kernel
theorem dX12_init_1392 : decode cX12_init 1392 = .ok (.dup, 1) := by decide +kernel
theorem dX12_init_1393 : decode cX12_init 1393 = .ok (.iconst 4, 1) := by decide +kernel
theorem dX12_init_1394 : decode cX12_init 1394 = .ok (.bipush 100, 2) := by decide +kernel
theorem dX12_init_1396 : decode cX12_init 1396 = .ok (.castore, 1) := by decide +kernel
theorem dX12_init_1397 : decode cX12_init 1397 = .ok (.putfield 209, 3) := by decide +kernel
theorem dX12_init_1400 : decode cX12_init 1400 = .ok (.aload_n 0, 1) := by decide +kernel
theorem dX12_init_1401 : decode cX12_init 1401 = .ok (.iconst 5, 1) := by decide +kernel
theorem dX12_init_1402 : decode cX12_init 1402 = .ok (.newarray .char, 2) := by decide +kernel
theorem dX12_init_1404 : decode cX12_init 1404 = .ok (.dup, 1) := by decide +kernel
theorem dX12_init_1405 : decode cX12_init 1405 = .ok (.iconst 0, 1) := by decide +kernel
theorem dX12_init_1406 : decode cX12_init 1406 = .ok (.bipush 119, 2) := by decide +kernel
theorem dX12_init_1408 : decode cX12_init 1408 = .ok (.castore, 1) := by decide +kernel
theorem dX12_init_1409 : decode cX12_init 1409 = .ok (.dup, 1) := by decide +kernel
theorem dX12_init_1410 : decode cX12_init 1410 = .ok (.iconst 1, 1) := by decide +kernel
theorem dX12_init_1411 : decode cX12_init 1411 = .ok (.bipush 104, 2) := by decide +kernel
theorem dX12_init_1413 : decode cX12_init 1413 = .ok (.castore, 1) := by decide +kernel
theorem dX12_init_1414 : decode cX12_init 1414 = .ok (.dup, 1) := by decide +kernel
theorem dX12_init_1415 : decode cX12_init 1415 = .ok (.iconst 2, 1) := by decide +kernel
theorem dX12_init_1416 : decode cX12_init 1416 = .ok (.bipush 105, 2) := by decide +kernel
theorem dX12_init_1418 : decode cX12_init 1418 = .ok (.castore, 1) := by decide +kernel
theorem dX12_init_1419 : decode cX12_init 1419 = .ok (.dup, 1) := by decide +kernel
theorem dX12_init_1420 : decode cX12_init 1420 = .ok (.iconst 3, 1) := by decide +kernel
theorem dX12_init_1421 : decode cX12_init 1421 = .ok (.bipush 99, 2) := by decide +kernel
theorem dX12_init_1423 : decode cX12_init 1423 = .ok (.castore, 1) := by decide +kernel
theorem dX12_init_1424 : decode cX12_init 1424 = .ok (.dup, 1) := by decide +kernel
theorem dX12_init_1425 : decode cX12_init 1425 = .ok (.iconst 4, 1) := by decide +kernel
theorem dX12_init_1426 : decode cX12_init 1426 = .ok (.bipush 104, 2) := by decide +kernel
theorem dX12_init_1428 : decode cX12_init 1428 = .ok (.castore, 1) := by decide +kernel
theorem dX12_init_1429 : decode cX12_init 1429 = .ok (.putfield 212, 3) := by decide +kernel
theorem dX12_init_1432 : decode cX12_init 1432 = .ok (.aload_n 0, 1) := by decide +kernel
theorem dX12_init_1433 : decode cX12_init 1433 = .ok (.iconst 4, 1) := by decide +kernel
theorem dX12_init_1434 : decode cX12_init 1434 = .ok (.newarray .char, 2) := by decide +kernel
theorem dX12_init_1436 : decode cX12_init 1436 = .ok (.dup, 1) := by decide +kernel
theorem dX12_init_1437 : decode cX12_init 1437 = .ok (.iconst 0, 1) := by decide +kernel
theorem dX12_init_1438 : decode cX12_init 1438 = .ok (.bipush 104, 2) := by decide +kernel
theorem dX12_init_1440 : decode cX12_init 1440 = .ok (.castore, 1) := by decide +kernel
theorem dX12_init_1441 : decode cX12_init 1441 = .ok (.dup, 1) := by decide +kernel
theorem dX12_init_1442 : decode cX12_init 1442 = .ok (.iconst 1, 1) := by decide +kernel
theorem dX12_init_1443 : decode cX12_init 1443 = .ok (.bipush 111, 2) := by decide +kernel
theorem dX12_init_1445 : decode cX12_init 1445 = .ok (.castore, 1) := by decide +kernel
theorem dX12_init_1446 : decode cX12_init 1446 = .ok (.dup, 1) := by decide +kernel
theorem dX12_init_1447 : decode cX12_init 1447 = .ok (.iconst 2, 1) := by decide +kernel
theorem dX12_init_1448 : decode cX12_init 1448 = .ok (.bipush 117, 2) := by decide +kernel
theorem dX12_init_1450 : decode cX12_init 1450 = .ok (.castore, 1) := by decide +kernel
theorem dX12_init_1451 : decode cX12_init 1451 = .ok (.dup, 1) := by decide +kernel
theorem dX12_init_1452 : decode cX12_init 1452 = .ok (.iconst 3, 1) := by decide +kernel
theorem dX12_init_1453 : decode cX12_init 1453 = .ok (.bipush 114, 2) := by decide +kernel
theorem dX12_init_1455 : decode cX12_init 1455 = .ok (.castore, 1) := by decide +kernel
theorem dX12_init_1456 : decode cX12_init 1456 = .ok (.putfield 215, 3) := by decide +kernel
theorem dX12_init_1459 : decode cX12_init 1459 = .ok (.aload_n 0, 1) := by decide +kernel
theorem dX12_init_1460 : decode cX12_init 1460 = .ok (.iconst 4, 1) := by decide +kernel
theorem dX12_init_1461 : decode cX12_init 1461 = .ok (.newarray .char, 2) := by decide +kernel
theorem dX12_init_1463 : decode cX12_init 1463 = .ok (.dup, 1) := by decide +kernel
theorem dX12_init_1464 : decode cX12_init 1464 = .ok (.iconst 0, 1) := by decide +kernel
theorem dX12_init_1465 : decode cX12_init 1465 = .ok (.bipush 102, 2) := by decide +kernel
theorem dX12_init_1467 : decode cX12_init 1467 = .ok (.castore, 1) := by decide +kernel
theorem dX12_init_1468 : decode cX12_init 1468 = .ok (.dup, 1) := by decide +kernel
theorem dX12_init_1469 : decode cX12_init 1469 = .ok (.iconst 1, 1) := by decide +kernel
theorem dX12_init_1470 : decode cX12_init 1470 = .ok (.bipush 101, 2) := by decide +kernel
theorem dX12_init_1472 : decode cX12_init 1472 = .ok (.castore, 1) := by decide +kernel
theorem dX12_init_1473 : decode cX12_init 1473 = .ok (.dup, 1) := by decide +kernel
theorem dX12_init_1474 : decode cX12_init 1474 = .ok (.iconst 2, 1) := by decide +kernel
theorem dX12_init_1475 : decode cX12_init 1475 = .ok (.bipush 101, 2) := by decide +kernel
theorem dX12_init_1477 : decode cX12_init 1477 = .ok (.castore, 1) := by decide +kernel
theorem dX12_init_1478 : decode cX12_init 1478 = .ok (.dup, 1) := by decide +kernel
theorem dX12_init_1479 : decode cX12_init 1479 = .ok (.iconst 3, 1) := by decide +kernel
theorem dX12_init_1480 : decode cX12_init 1480 = .ok (.bipush 108, 2) := by decide +kernel
theorem dX12_init_1482 : decode cX12_init 1482 = .ok (.castore, 1) := by decide +kernel
theorem dX12_init_1483 : decode cX12_init 1483 = .ok (.putfield 218, 3) := by decide +kernel
theorem dX12_init_1486 : decode cX12_init 1486 = .ok (.aload_n 0, 1) := by decide +kernel
theorem dX12_init_1487 : decode cX12_init 1487 = .ok (.bipush 6, 2) := by decide +kernel
theorem dX12_init_1489 : decode cX12_init 1489 = .ok (.newarray .char, 2) := by decide +kernel
theorem dX12_init_1491 : decode cX12_init 1491 = .ok (.dup, 1) := by decide +kernel
theorem dX12_init_1492 : decode cX12_init 1492 = .ok (.iconst 0, 1) := by decide +kernel
theorem dX12_init_1493 : decode cX12_init 1493 = .ok (.bipush 110, 2) := by decide +kernel
theorem dX12_init_1495 : decode cX12_init 1495 = .ok (.castore, 1) := by decide +kernel
theorem dX12_init_1496 : decode cX12_init 1496 = .ok (.dup, 1) := by decide +kernel
theorem dX12_init_1497 : decode cX12_init 1497 = .ok (.iconst 1, 1) := by decide +kernel
theorem dX12_init_1498 : decode cX12_init 1498 = .ok (.bipush 97, 2) := by decide +kernel
theorem dX12_init_1500 : decode cX12_init 1500 = .ok (.castore, 1) := by decide +kernel
theorem dX12_init_1501 : decode cX12_init 1501 = .ok (.dup, 1) := by decide +kernel
theorem dX12_init_1502 : decode cX12_init 1502 = .ok (.iconst 2, 1) := by decide +kernel
theorem dX12_init_1503 : decode cX12_init 1503 = .ok (.bipush 116, 2) := by decide +kernel
theorem dX12_init_1505 : decode cX12_init 1505 = .ok (.castore, 1) := by decide +kernel
theorem dX12_init_1506 : decode cX12_init 1506 = .ok (.dup, 1) := by decide +kernel
theorem dX12_init_1507 : decode cX12_init 1507 = .ok (.iconst 3, 1) := by decide +kernel
theorem dX12_init_1508 : decode cX12_init 1508 = .ok (.bipush 117, 2) := by decide +kernel
theorem dX12_init_1510 : decode cX12_init 1510 = .ok (.castore, 1) := by decide +kernel
theorem dX12_init_1511 : decode cX12_init 1511 = .ok (.dup, 1) := by decide +kernel
theorem dX12_init_1512 : decode cX12_init 1512 = .ok (.iconst 4, 1) := by decide +kernel
theorem dX12_init_1513 : decode cX12_init 1513 = .ok (.bipush 114, 2) := by decide +kernel
theorem dX12_init_1515 : decode cX12_init 1515 = .ok (.castore, 1) := by decide +kernel
theorem dX12_init_1516 : decode cX12_init 1516 = .ok (.dup, 1) := by decide +kernel
theorem dX12_init_1517 : decode cX12_init 1517 = .ok (.iconst 5, 1) := by decide +kernel
theorem dX12_init_1518 : decode cX12_init 1518 = .ok (.bipush 101, 2) := by decide +kernel
theorem dX12_init_1520 : decode cX12_init 1520 = .ok (.castore, 1) := by decide +kernel
theorem dX12_init_1521 : decode cX12_init 1521 = .ok (.putfield 221, 3) := by decide +kernel
theorem dX12_init_1524 : decode cX12_init 1524 = .ok (.aload_n 0, 1) := by decide +kernel
theorem dX12_init_1525 : decode cX12_init 1525 = .ok (.iconst 4, 1) := by decide +kernel
theorem dX12_init_1526 : decode cX12_init 1526 = .ok (.newarray .char, 2) := by decide +kernel
theorem dX12_init_1528 : decode cX12_init 1528 = .ok (.dup, 1) := by decide +kernel
theorem dX12_init_1529 : decode cX12_init 1529 = .ok (.iconst 0, 1) := by decide +kernel
theorem dX12_init_1530 : decode cX12_init 1530 = .ok (.bipush 100, 2) := by decide +kernel
theorem dX12_init_1532 : decode cX12_init 1532 = .ok (.castore, 1) := by decide +kernel
theorem dX12_init_1533 : decode cX12_init 1533 = .ok (.dup, 1) := by decide +kernel
theorem dX12_init_1534 : decode cX12_init 1534 = .ok (.iconst 1, 1) := by decide +kernel
theorem dX12_init_1535 : decode cX12_init 1535 = .ok (.bipush 111, 2) := by decide +kernel
theorem dX12_init_1537 : decode cX12_init 1537 = .ok (.castore, 1) := by decide +kernel
theorem dX12_init_1538 : decode cX12_init 1538 = .ok (.dup, 1) := by decide +kernel
theorem dX12_init_1539 : decode cX12_init 1539 = .ok (.iconst 2, 1) := by decide +kernel
theorem dX12_init_1540 : decode cX12_init 1540 = .ok (.bipush 101, 2) := by decide +kernel
theorem dX12_init_1542 : decode cX12_init 1542 = .ok (.castore, 1) := by decide +kernel
theorem dX12_init_1543 : decode cX12_init 1543 = .ok (.dup, 1) := by decide +kernel
theorem dX12_init_1544 : decode cX12_init 1544 = .ok (.iconst 3, 1) := by decide +kernel
theorem dX12_init_1545 : decode cX12_init 1545 = .ok (.bipush 115, 2) := by decide +kernel
theorem dX12_init_1547 : decode cX12_init 1547 = .ok (.castore, 1) := by decide +kernel
theorem dX12_init_1548 : decode cX12_init 1548 = .ok (.putfield 224, 3) := by decide +kernel
theorem dX12_init_1551 : decode cX12_init 1551 = .ok (.aload_n 0, 1) := by decide +kernel
theorem dX12_init_1552 : decode cX12_init 1552 = .ok (.sipush 1700, 3) := by decide +kernel
theorem dX12_init_1555 : decode cX12_init 1555 = .ok (.newarray .int, 2) := by decide +kernel
theorem dX12_init_1557 : decode cX12_init 1557 = .ok (.putfield 227, 3) := by decide +kernel
theorem dX12_init_1560 : decode cX12_init 1560 = .ok (.aload_n 0, 1) := by decide +kernel
theorem dX12_init_1561 : decode cX12_init 1561 = .ok (.sipush 1700, 3) := by decide +kernel
theorem dX12_init_1564 : decode cX12_init 1564 = .ok (.newarray .int, 2) := by decide +kernel
theorem dX12_init_1566 : decode cX12_init 1566 = .ok (.putfield 230, 3) := by decide +kernel
theorem dX12_init_1569 : decode cX12_init 1569 = .ok (.aload_n 0, 1) := by decide +kernel
theorem dX12_init_1570 : decode cX12_init 1570 = .ok (.sipush 1700, 3) := by decide +kernel
theorem dX12_init_1573 : decode cX12_init 1573 = .ok (.newarray .long, 2) := by decide +kernel
theorem dX12_init_1575 : decode cX12_init 1575 = .ok (.putfield 233, 3) := by decide +kernel
theorem dX12_init_1578 : decode cX12_init 1578 = .ok (.aload_n 0, 1) := by decide +kernel
theorem dX12_init_1579 : decode cX12_init 1579 = .ok (.bipush 97, 2) := by decide +kernel
theorem dX12_init_1581 : decode cX12_init 1581 = .ok (.newarray .int, 2) := by decide +kernel
theorem dX12_init_1583 : decode cX12_init 1583 = .ok (.putfield 236, 3) := by decide +kernel
theorem dX12_init_1586 : decode cX12_init 1586 = .ok (.return_, 1) := by decide +kernel
theorem dX12_isIn_0 : decode cX12_isIn 0 = .ok (.lload_n 0, 1) := by decide +kernel
theorem dX12_isIn_1 : decode cX12_isIn 1 = .ok (.lload_n 2, 1) := by decide +kernel
theorem dX12_isIn_2 : decode cX12_isIn 2 = .ok (.lcmp, 1) := by decide +kernel
theorem dX12_isIn_3 : decode cX12_isIn 3 = .ok (.ifCond .lt 14, 3) := by decide +kernel
theorem dX12_isIn_6 : decode cX12_isIn 6 = .ok (.lload_n 0, 1) := by decide +kernel
theorem dX12_isIn_7 : decode cX12_isIn 7 = .ok (.lload 4, 2) := by decide +kernel
theorem dX12_isIn_9 : decode cX12_isIn 9 = .ok (.lcmp, 1) := by decide +kernel
theorem dX12_isIn_10 : decode cX12_isIn 10 = .ok (.ifCond .gt 7, 3) := by decide +kernel
theorem dX12_isIn_13 : decode cX12_isIn 13 = .ok (.iconst 1, 1) := by decide +kernel
theorem dX12_isIn_14 : decode cX12_isIn 14 = .ok (.goto 4, 3) := by decide +kernel
theorem dX12_isIn_17 : decode cX12_isIn 17 = .ok (.iconst 0, 1) := by decide +kernel
theorem dX12_isIn_18 : decode cX12_isIn 18 = .ok (.ireturn, 1) := by decide +kernel
theorem dX12_feed_0 : decode cX12_feed 0 = .ok (.aload_n 0, 1) := by decide +kernel
theorem dX12_feed_1 : decode cX12_feed 1 = .ok (.getfield 239, 3) := by decide +kernel
theorem dX12_feed_4 : decode cX12_feed 4 = .ok (.bipush 20, 2) := by decide +kernel
theorem dX12_feed_6 : decode cX12_feed 6 = .ok (.iadd, 1) := by decide +kernel
theorem dX12_feed_7 : decode cX12_feed 7 = .ok (.sipush 1600, 3) := by decide +kernel
theorem dX12_feed_10 : decode cX12_feed 10 = .ok (.if_icmp .le 15, 3) := by decide +kernel
theorem dX12_feed_13 : decode cX12_feed 13 = .ok (.aload_n 0, 1) := by decide +kernel
theorem dX12_feed_14 : decode cX12_feed 14 = .ok (.getfield 17, 3) := by decide +kernel
theorem dX12_feed_17 : decode cX12_feed 17 = .ok (.iconst 0, 1) := by decide +kernel
theorem dX12_feed_18 : decode cX12_feed 18 = .ok (.dup2, 1) := by decide +kernel
theorem dX12_feed_19 : decode cX12_feed 19 = .ok (.iaload, 1) := by decide +kernel
theorem dX12_feed_20 : decode cX12_feed 20 = .ok (.iconst 1, 1) := by decide +kernel
theorem dX12_feed_21 : decode cX12_feed 21 = .ok (.iadd, 1) := by decide +kernel
theorem dX12_feed_22 : decode cX12_feed 22 = .ok (.iastore, 1) := by decide +kernel
theorem dX12_feed_23 : decode cX12_feed 23 = .ok (.iconst (-1), 1) := by decide +kernel
theorem dX12_feed_24 : decode cX12_feed 24 = .ok (.ireturn, 1) := by decide +kernel
theorem dX12_feed_25 : decode cX12_feed 25 = .ok (.iconst 0, 1) := by decide +kernel
theorem dX12_feed_26 : decode cX12_feed 26 = .ok (.istore 6, 2) := by decide +kernel
theorem dX12_feed_28 : decode cX12_feed 28 = .ok (.iload 6, 2) := by decide +kernel
theorem dX12_feed_30 : decode cX12_feed 30 = .ok (.bipush 20, 2) := by decide +kernel
theorem dX12_feed_32 : decode cX12_feed 32 = .ok (.if_icmp .ge 92, 3) := by decide +kernel
theorem dX12_feed_35 : decode cX12_feed 35 = .ok (.iload 6, 2) := by decide +kernel
theorem dX12_feed_37 : decode cX12_feed 37 = .ok (.iconst 4, 1) := by decide +kernel
theorem dX12_feed_38 : decode cX12_feed 38 = .ok (.if_icmp .ge 7, 3) := by decide +kernel
theorem dX12_feed_41 : decode cX12_feed 41 = .ok (.iload_n 1, 1) := by decide +kernel
theorem dX12_feed_42 : decode cX12_feed 42 = .ok (.goto 39, 3) := by decide +kernel
theorem dX12_feed_45 : decode cX12_feed 45 = .ok (.iload 6, 2) := by decide +kernel
theorem dX12_feed_47 : decode cX12_feed 47 = .ok (.bipush 8, 2) := by decide +kernel
theorem dX12_feed_49 : decode cX12_feed 49 = .ok (.if_icmp .ge 7, 3) := by decide +kernel
theorem dX12_feed_52 : decode cX12_feed 52 = .ok (.iload_n 2, 1) := by decide +kernel
theorem dX12_feed_53 : decode cX12_feed 53 = .ok (.goto 28, 3) := by decide +kernel
theorem dX12_feed_56 : decode cX12_feed 56 = .ok (.iload 6, 2) := by decide +kernel
theorem dX12_feed_58 : decode cX12_feed 58 = .ok (.bipush 12, 2) := by decide +kernel
theorem dX12_feed_60 : decode cX12_feed 60 = .ok (.if_icmp .ge 7, 3) := by decide +kernel
theorem dX12_feed_63 : decode cX12_feed 63 = .ok (.iload_n 3, 1) := by decide +kernel
theorem dX12_feed_64 : decode cX12_feed 64 = .ok (.goto 17, 3) := by decide +kernel
theorem dX12_feed_67 : decode cX12_feed 67 = .ok (.iload 6, 2) := by decide +kernel
theorem dX12_feed_69 : decode cX12_feed 69 = .ok (.bipush 16, 2) := by decide +kernel
theorem dX12_feed_71 : decode cX12_feed 71 = .ok (.if_icmp .ge 8, 3) := by decide +kernel
theorem dX12_feed_74 : decode cX12_feed 74 = .ok (.iload 4, 2) := by decide +kernel
theorem dX12_feed_76 : decode cX12_feed 76 = .ok (.goto 5, 3) := by decide +kernel
theorem dX12_feed_79 : decode cX12_feed 79 = .ok (.iload 5, 2) := by decide +kernel
theorem dX12_feed_81 : decode cX12_feed 81 = .ok (.istore 7, 2) := by decide +kernel
theorem dX12_feed_83 : decode cX12_feed 83 = .ok (.aload_n 0, 1) := by decide +kernel
theorem dX12_feed_84 : decode cX12_feed 84 = .ok (.getfield 7, 3) := by decide +kernel
theorem dX12_feed_87 : decode cX12_feed 87 = .ok (.aload_n 0, 1) := by decide +kernel
theorem dX12_feed_88 : decode cX12_feed 88 = .ok (.getfield 239, 3) := by decide +kernel
theorem dX12_feed_91 : decode cX12_feed 91 = .ok (.iload 7, 2) := by decide +kernel
theorem dX12_feed_93 : decode cX12_feed 93 = .ok (.bipush 8, 2) := by decide +kernel
theorem dX12_feed_95 : decode cX12_feed 95 = .ok (.iconst 3, 1) := by decide +kernel
theorem dX12_feed_96 : decode cX12_feed 96 = .ok (.iload 6, 2) := by decide +kernel
theorem dX12_feed_98 : decode cX12_feed 98 = .ok (.iconst 4, 1) := by decide +kernel
theorem dX12_feed_99 : decode cX12_feed 99 = .ok (.irem, 1) := by decide +kernel
theorem dX12_feed_100 : decode cX12_feed 100 = .ok (.isub, 1) := by decide +kernel
theorem dX12_feed_101 : decode cX12_feed 101 = .ok (.imul, 1) := by decide +kernel
theorem dX12_feed_102 : decode cX12_feed 102 = .ok (.ishr, 1) := by decide +kernel
theorem dX12_feed_103 : decode cX12_feed 103 = .ok (.sipush 255, 3) := by decide +kernel
theorem dX12_feed_106 : decode cX12_feed 106 = .ok (.iand, 1) := by decide +kernel
theorem dX12_feed_107 : decode cX12_feed 107 = .ok (.iastore, 1) := by decide +kernel
theorem dX12_feed_108 : decode cX12_feed 108 = .ok (.aload_n 0, 1) := by decide +kernel
theorem dX12_feed_109 : decode cX12_feed 109 = .ok (.dup, 1) := by decide +kernel
theorem dX12_feed_110 : decode cX12_feed 110 = .ok (.getfield 239, 3) := by decide +kernel
theorem dX12_feed_113 : decode cX12_feed 113 = .ok (.iconst 1, 1) := by decide +kernel
theorem dX12_feed_114 : decode cX12_feed 114 = .ok (.iadd, 1) := by decide +kernel
theorem dX12_feed_115 : decode cX12_feed 115 = .ok (.putfield 239, 3) := by decide +kernel
theorem dX12_feed_118 : decode cX12_feed 118 = .ok (.iinc 6 1, 3) := by decide +kernel
theorem dX12_feed_121 : decode cX12_feed 121 = .ok (.goto (-93), 3) := by decide +kernel
theorem dX12_feed_124 : decode cX12_feed 124 = .ok (.aload_n 0, 1) := by decide +kernel
theorem dX12_feed_125 : decode cX12_feed 125 = .ok (.getfield 239, 3) := by decide +kernel
theorem dX12_feed_128 : decode cX12_feed 128 = .ok (.ireturn, 1) := by decide +kernel
theorem dX12_end_0 : decode cX12_end 0 = .ok (.iload_n 1, 1) := by decide +kernel
theorem dX12_end_1 : decode cX12_end 1 = .ok (.ifCond .lt 11, 3) := by decide +kernel
theorem dX12_end_4 : decode cX12_end 4 = .ok (.iload_n 1, 1) := by decide +kernel
theorem dX12_end_5 : decode cX12_end 5 = .ok (.aload_n 0, 1) := by decide +kernel
theorem dX12_end_6 : decode cX12_end 6 = .ok (.getfield 239, 3) := by decide +kernel
theorem dX12_end_9 : decode cX12_end 9 = .ok (.if_icmp .le 15, 3) := by decide +kernel
theorem dX12_end_12 : decode cX12_end 12 = .ok (.aload_n 0, 1) := by decide +kernel
theorem dX12_end_13 : decode cX12_end 13 = .ok (.getfield 17, 3) := by decide +kernel
theorem dX12_end_16 : decode cX12_end 16 = .ok (.iconst 0, 1) := by decide +kernel
theorem dX12_end_17 : decode cX12_end 17 = .ok (.dup2, 1) := by decide +kernel
theorem dX12_end_18 : decode cX12_end 18 = .ok (.iaload, 1) := by decide +kernel
theorem dX12_end_19 : decode cX12_end 19 = .ok (.iconst 1, 1) := by decide +kernel
theorem dX12_end_20 : decode cX12_end 20 = .ok (.iadd, 1) := by decide +kernel
theorem dX12_end_21 : decode cX12_end 21 = .ok (.iastore, 1) := by decide +kernel
theorem dX12_end_22 : decode cX12_end 22 = .ok (.iconst 0, 1) := by decide +kernel
theorem dX12_end_23 : decode cX12_end 23 = .ok (.ireturn, 1) := by decide +kernel
theorem dX12_end_24 : decode cX12_end 24 = .ok (.aload_n 0, 1) := by decide +kernel
theorem dX12_end_25 : decode cX12_end 25 = .ok (.iload_n 1, 1) := by decide +kernel
theorem dX12_end_26 : decode cX12_end 26 = .ok (.putfield 239, 3) := by decide +kernel
theorem dX12_end_29 : decode cX12_end 29 = .ok (.iconst 1, 1) := by decide +kernel
theorem dX12_end_30 : decode cX12_end 30 = .ok (.ireturn, 1) := by decide +kernel
theorem dX12_fail_0 : decode cX12_fail 0 = .ok (.aload_n 0, 1) := by decide +kernel
theorem dX12_fail_1 : decode cX12_fail 1 = .ok (.getfield 242, 3) := by decide +kernel
theorem dX12_fail_4 : decode cX12_fail 4 = .ok (.ifCond .eq 4, 3) := by decide +kernel
theorem dX12_fail_7 : decode cX12_fail 7 = .ok (.return_, 1) := by decide +kernel
theorem dX12_fail_8 : decode cX12_fail 8 = .ok (.aload_n 0, 1) := by decide +kernel
theorem dX12_fail_9 : decode cX12_fail 9 = .ok (.iload_n 1, 1) := by decide +kernel
theorem dX12_fail_10 : decode cX12_fail 10 = .ok (.putfield 242, 3) := by decide +kernel
theorem dX12_fail_13 : decode cX12_fail 13 = .ok (.aload_n 0, 1) := by decide +kernel
theorem dX12_fail_14 : decode cX12_fail 14 = .ok (.iload_n 2, 1) := by decide +kernel
theorem dX12_fail_15 : decode cX12_fail 15 = .ok (.putfield 245, 3) := by decide +kernel
theorem dX12_fail_18 : decode cX12_fail 18 = .ok (.return_, 1) := by decide +kernel
theorem dX12_isLetter_0 : decode cX12_isLetter 0 = .ok (.iload_n 0, 1) := by decide +kernel
theorem dX12_isLetter_1 : decode cX12_isLetter 1 = .ok (.bipush 97, 2) := by decide +kernel
theorem dX12_isLetter_3 : decode cX12_isLetter 3 = .ok (.if_icmp .lt 13, 3) := by decide +kernel
theorem dX12_isLetter_6 : decode cX12_isLetter 6 = .ok (.iload_n 0, 1) := by decide +kernel
theorem dX12_isLetter_7 : decode cX12_isLetter 7 = .ok (.bipush 122, 2) := by decide +kernel
theorem dX12_isLetter_9 : decode cX12_isLetter 9 = .ok (.if_icmp .gt 7, 3) := by decide +kernel
theorem dX12_isLetter_12 : decode cX12_isLetter 12 = .ok (.iconst 1, 1) := by decide +kernel
theorem dX12_isLetter_13 : decode cX12_isLetter 13 = .ok (.goto 4, 3) := by decide +kernel
theorem dX12_isLetter_16 : decode cX12_isLetter 16 = .ok (.iconst 0, 1) := by decide +kernel
theorem dX12_isLetter_17 : decode cX12_isLetter 17 = .ok (.ireturn, 1) := by decide +kernel
theorem dX12_isDigit_0 : decode cX12_isDigit 0 = .ok (.iload_n 0, 1) := by decide +kernel
theorem dX12_isDigit_1 : decode cX12_isDigit 1 = .ok (.bipush 48, 2) := by decide +kernel
theorem dX12_isDigit_3 : decode cX12_isDigit 3 = .ok (.if_icmp .lt 13, 3) := by decide +kernel
theorem dX12_isDigit_6 : decode cX12_isDigit 6 = .ok (.iload_n 0, 1) := by decide +kernel
theorem dX12_isDigit_7 : decode cX12_isDigit 7 = .ok (.bipush 57, 2) := by decide +kernel
theorem dX12_isDigit_9 : decode cX12_isDigit 9 = .ok (.if_icmp .gt 7, 3) := by decide +kernel
theorem dX12_isDigit_12 : decode cX12_isDigit 12 = .ok (.iconst 1, 1) := by decide +kernel
theorem dX12_isDigit_13 : decode cX12_isDigit 13 = .ok (.goto 4, 3) := by decide +kernel
theorem dX12_isDigit_16 : decode cX12_isDigit 16 = .ok (.iconst 0, 1) := by decide +kernel
theorem dX12_isDigit_17 : decode cX12_isDigit 17 = .ok (.ireturn, 1) := by decide +kernel
theorem dX12_peeks_0 : decode cX12_peeks 0 = .ok (.aload_n 0, 1) := by decide +kernel
theorem dX12_peeks_1 : decode cX12_peeks 1 = .ok (.getfield 248, 3) := by decide +kernel
theorem dX12_peeks_4 : decode cX12_peeks 4 = .ok (.aload_n 0, 1) := by decide +kernel
theorem dX12_peeks_5 : decode cX12_peeks 5 = .ok (.getfield 251, 3) := by decide +kernel
theorem dX12_peeks_8 : decode cX12_peeks 8 = .ok (.if_icmp .ge 44, 3) := by decide +kernel
theorem dX12_peeks_11 : decode cX12_peeks 11 = .ok (.aload_n 0, 1) := by decide +kernel
theorem dX12_peeks_12 : decode cX12_peeks 12 = .ok (.getfield 7, 3) := by decide +kernel
theorem dX12_peeks_15 : decode cX12_peeks 15 = .ok (.aload_n 0, 1) := by decide +kernel
theorem dX12_peeks_16 : decode cX12_peeks 16 = .ok (.getfield 248, 3) := by decide +kernel
theorem dX12_peeks_19 : decode cX12_peeks 19 = .ok (.iaload, 1) := by decide +kernel
theorem dX12_peeks_20 : decode cX12_peeks 20 = .ok (.bipush 10, 2) := by decide +kernel
theorem dX12_peeks_22 : decode cX12_peeks 22 = .ok (.if_icmp .eq 17, 3) := by decide +kernel
theorem dX12_peeks_25 : decode cX12_peeks 25 = .ok (.aload_n 0, 1) := by decide +kernel
theorem dX12_peeks_26 : decode cX12_peeks 26 = .ok (.getfield 7, 3) := by decide +kernel
theorem dX12_peeks_29 : decode cX12_peeks 29 = .ok (.aload_n 0, 1) := by decide +kernel
theorem dX12_peeks_30 : decode cX12_peeks 30 = .ok (.getfield 248, 3) := by decide +kernel
theorem dX12_peeks_33 : decode cX12_peeks 33 = .ok (.iaload, 1) := by decide +kernel
theorem dX12_peeks_34 : decode cX12_peeks 34 = .ok (.bipush 32, 2) := by decide +kernel
theorem dX12_peeks_36 : decode cX12_peeks 36 = .ok (.if_icmp .ne 16, 3) := by decide +kernel
theorem dX12_peeks_39 : decode cX12_peeks 39 = .ok (.aload_n 0, 1) := by decide +kernel
theorem dX12_peeks_40 : decode cX12_peeks 40 = .ok (.dup, 1) := by decide +kernel
theorem dX12_peeks_41 : decode cX12_peeks 41 = .ok (.getfield 248, 3) := by decide +kernel
theorem dX12_peeks_44 : decode cX12_peeks 44 = .ok (.iconst 1, 1) := by decide +kernel
theorem dX12_peeks_45 : decode cX12_peeks 45 = .ok (.iadd, 1) := by decide +kernel
theorem dX12_peeks_46 : decode cX12_peeks 46 = .ok (.putfield 248, 3) := by decide +kernel
theorem dX12_peeks_49 : decode cX12_peeks 49 = .ok (.goto (-49), 3) := by decide +kernel
theorem dX12_peeks_52 : decode cX12_peeks 52 = .ok (.aload_n 0, 1) := by decide +kernel
theorem dX12_peeks_53 : decode cX12_peeks 53 = .ok (.getfield 248, 3) := by decide +kernel
theorem dX12_peeks_56 : decode cX12_peeks 56 = .ok (.aload_n 0, 1) := by decide +kernel
theorem dX12_peeks_57 : decode cX12_peeks 57 = .ok (.getfield 251, 3) := by decide +kernel
theorem dX12_peeks_60 : decode cX12_peeks 60 = .ok (.if_icmp .ge 15, 3) := by decide +kernel
theorem dX12_peeks_63 : decode cX12_peeks 63 = .ok (.aload_n 0, 1) := by decide +kernel
theorem dX12_peeks_64 : decode cX12_peeks 64 = .ok (.getfield 7, 3) := by decide +kernel
theorem dX12_peeks_67 : decode cX12_peeks 67 = .ok (.aload_n 0, 1) := by decide +kernel
theorem dX12_peeks_68 : decode cX12_peeks 68 = .ok (.getfield 248, 3) := by decide +kernel
theorem dX12_peeks_71 : decode cX12_peeks 71 = .ok (.iaload, 1) := by decide +kernel
theorem dX12_peeks_72 : decode cX12_peeks 72 = .ok (.goto 4, 3) := by decide +kernel
theorem dX12_peeks_75 : decode cX12_peeks 75 = .ok (.iconst (-1), 1) := by decide +kernel
theorem dX12_peeks_76 : decode cX12_peeks 76 = .ok (.ireturn, 1) := by decide +kernel
theorem dX12_isHere_0 : decode cX12_isHere 0 = .ok (.aload_n 0, 1) := by decide +kernel
theorem dX12_isHere_1 : decode cX12_isHere 1 = .ok (.getfield 242, 3) := by decide +kernel
theorem dX12_isHere_4 : decode cX12_isHere 4 = .ok (.ifCond .ne 24, 3) := by decide +kernel
theorem dX12_isHere_7 : decode cX12_isHere 7 = .ok (.aload_n 0, 1) := by decide +kernel
theorem dX12_isHere_8 : decode cX12_isHere 8 = .ok (.invokevirtual 254, 3) := by decide +kernel
theorem dX12_isHere_11 : decode cX12_isHere 11 = .ok (.invokestatic 258, 3) := by decide +kernel
theorem dX12_isHere_14 : decode cX12_isHere 14 = .ok (.ifCond .eq 14, 3) := by decide +kernel
theorem dX12_isHere_17 : decode cX12_isHere 17 = .ok (.aload_n 0, 1) := by decide +kernel
theorem dX12_isHere_18 : decode cX12_isHere 18 = .ok (.getfield 248, 3) := by decide +kernel
theorem dX12_isHere_21 : decode cX12_isHere 21 = .ok (.aload_n 0, 1) := by decide +kernel
theorem dX12_isHere_22 : decode cX12_isHere 22 = .ok (.getfield 262, 3) := by decide +kernel
theorem dX12_isHere_25 : decode cX12_isHere 25 = .ok (.if_icmp .ne 5, 3) := by decide +kernel
theorem dX12_isHere_28 : decode cX12_isHere 28 = .ok (.iconst 0, 1) := by decide +kernel
theorem dX12_isHere_29 : decode cX12_isHere 29 = .ok (.ireturn, 1) := by decide +kernel
theorem dX12_isHere_30 : decode cX12_isHere 30 = .ok (.aload_n 0, 1) := by decide +kernel
theorem dX12_isHere_31 : decode cX12_isHere 31 = .ok (.getfield 248, 3) := by decide +kernel
theorem dX12_isHere_34 : decode cX12_isHere 34 = .ok (.istore_n 2, 1) := by decide +kernel
theorem dX12_isHere_35 : decode cX12_isHere 35 = .ok (.iload_n 2, 1) := by decide +kernel
theorem dX12_isHere_36 : decode cX12_isHere 36 = .ok (.aload_n 0, 1) := by decide +kernel
theorem dX12_isHere_37 : decode cX12_isHere 37 = .ok (.getfield 251, 3) := by decide +kernel
theorem dX12_isHere_40 : decode cX12_isHere 40 = .ok (.if_icmp .ge 21, 3) := by decide +kernel
theorem dX12_isHere_43 : decode cX12_isHere 43 = .ok (.aload_n 0, 1) := by decide +kernel
theorem dX12_isHere_44 : decode cX12_isHere 44 = .ok (.getfield 7, 3) := by decide +kernel
theorem dX12_isHere_47 : decode cX12_isHere 47 = .ok (.iload_n 2, 1) := by decide +kernel
theorem dX12_isHere_48 : decode cX12_isHere 48 = .ok (.iaload, 1) := by decide +kernel
theorem dX12_isHere_49 : decode cX12_isHere 49 = .ok (.invokestatic 258, 3) := by decide +kernel
theorem dX12_isHere_52 : decode cX12_isHere 52 = .ok (.ifCond .eq 9, 3) := by decide +kernel
theorem dX12_isHere_55 : decode cX12_isHere 55 = .ok (.iinc 2 1, 3) := by decide +kernel
theorem dX12_isHere_58 : decode cX12_isHere 58 = .ok (.goto (-23), 3) := by decide +kernel
theorem dX12_isHere_61 : decode cX12_isHere 61 = .ok (.iload_n 2, 1) := by decide +kernel
theorem dX12_isHere_62 : decode cX12_isHere 62 = .ok (.aload_n 0, 1) := by decide +kernel
theorem dX12_isHere_63 : decode cX12_isHere 63 = .ok (.getfield 248, 3) := by decide +kernel
theorem dX12_isHere_66 : decode cX12_isHere 66 = .ok (.isub, 1) := by decide +kernel
theorem dX12_isHere_67 : decode cX12_isHere 67 = .ok (.aload_n 1, 1) := by decide +kernel
theorem dX12_isHere_68 : decode cX12_isHere 68 = .ok (.arraylength, 1) := by decide +kernel
theorem dX12_isHere_69 : decode cX12_isHere 69 = .ok (.if_icmp .eq 5, 3) := by decide +kernel
theorem dX12_isHere_72 : decode cX12_isHere 72 = .ok (.iconst 0, 1) := by decide +kernel
theorem dX12_isHere_73 : decode cX12_isHere 73 = .ok (.ireturn, 1) := by decide +kernel
theorem dX12_isHere_74 : decode cX12_isHere 74 = .ok (.iconst 0, 1) := by decide +kernel
theorem dX12_isHere_75 : decode cX12_isHere 75 = .ok (.istore_n 3, 1) := by decide +kernel
theorem dX12_isHere_76 : decode cX12_isHere 76 = .ok (.iload_n 3, 1) := by decide +kernel
theorem dX12_isHere_77 : decode cX12_isHere 77 = .ok (.aload_n 1, 1) := by decide +kernel
theorem dX12_isHere_78 : decode cX12_isHere 78 = .ok (.arraylength, 1) := by decide +kernel
theorem dX12_isHere_79 : decode cX12_isHere 79 = .ok (.if_icmp .ge 28, 3) := by decide +kernel
theorem dX12_isHere_82 : decode cX12_isHere 82 = .ok (.aload_n 0, 1) := by decide +kernel
theorem dX12_isHere_83 : decode cX12_isHere 83 = .ok (.getfield 7, 3) := by decide +kernel
theorem dX12_isHere_86 : decode cX12_isHere 86 = .ok (.aload_n 0, 1) := by decide +kernel
theorem dX12_isHere_87 : decode cX12_isHere 87 = .ok (.getfield 248, 3) := by decide +kernel
theorem dX12_isHere_90 : decode cX12_isHere 90 = .ok (.iload_n 3, 1) := by decide +kernel
theorem dX12_isHere_91 : decode cX12_isHere 91 = .ok (.iadd, 1) := by decide +kernel
theorem dX12_isHere_92 : decode cX12_isHere 92 = .ok (.iaload, 1) := by decide +kernel
theorem dX12_isHere_93 : decode cX12_isHere 93 = .ok (.aload_n 1, 1) := by decide +kernel
theorem dX12_isHere_94 : decode cX12_isHere 94 = .ok (.iload_n 3, 1) := by decide +kernel
theorem dX12_isHere_95 : decode cX12_isHere 95 = .ok (.caload, 1) := by decide +kernel
theorem dX12_isHere_96 : decode cX12_isHere 96 = .ok (.if_icmp .eq 5, 3) := by decide +kernel
theorem dX12_isHere_99 : decode cX12_isHere 99 = .ok (.iconst 0, 1) := by decide +kernel
theorem dX12_isHere_100 : decode cX12_isHere 100 = .ok (.ireturn, 1) := by decide +kernel
theorem dX12_isHere_101 : decode cX12_isHere 101 = .ok (.iinc 3 1, 3) := by decide +kernel
theorem dX12_isHere_104 : decode cX12_isHere 104 = .ok (.goto (-28), 3) := by decide +kernel
theorem dX12_isHere_107 : decode cX12_isHere 107 = .ok (.iconst 1, 1) := by decide +kernel
theorem dX12_isHere_108 : decode cX12_isHere 108 = .ok (.ireturn, 1) := by decide +kernel
theorem dX12_takes_0 : decode cX12_takes 0 = .ok (.aload_n 0, 1) := by decide +kernel
theorem dX12_takes_1 : decode cX12_takes 1 = .ok (.aload_n 1, 1) := by decide +kernel
theorem dX12_takes_2 : decode cX12_takes 2 = .ok (.invokevirtual 265, 3) := by decide +kernel
theorem dX12_takes_5 : decode cX12_takes 5 = .ok (.ifCond .ne 5, 3) := by decide +kernel
theorem dX12_takes_8 : decode cX12_takes 8 = .ok (.iconst 0, 1) := by decide +kernel
theorem dX12_takes_9 : decode cX12_takes 9 = .ok (.ireturn, 1) := by decide +kernel
theorem dX12_takes_10 : decode cX12_takes 10 = .ok (.aload_n 0, 1) := by decide +kernel
theorem dX12_takes_11 : decode cX12_takes 11 = .ok (.dup, 1) := by decide +kernel
theorem dX12_takes_12 : decode cX12_takes 12 = .ok (.getfield 248, 3) := by decide +kernel
theorem dX12_takes_15 : decode cX12_takes 15 = .ok (.aload_n 1, 1) := by decide +kernel
theorem dX12_takes_16 : decode cX12_takes 16 = .ok (.arraylength, 1) := by decide +kernel
theorem dX12_takes_17 : decode cX12_takes 17 = .ok (.iadd, 1) := by decide +kernel
theorem dX12_takes_18 : decode cX12_takes 18 = .ok (.putfield 248, 3) := by decide +kernel
theorem dX12_takes_21 : decode cX12_takes 21 = .ok (.aload_n 0, 1) := by decide +kernel
theorem dX12_takes_22 : decode cX12_takes 22 = .ok (.aload_n 0, 1) := by decide +kernel
theorem dX12_takes_23 : decode cX12_takes 23 = .ok (.getfield 248, 3) := by decide +kernel
theorem dX12_takes_26 : decode cX12_takes 26 = .ok (.putfield 262, 3) := by decide +kernel
theorem dX12_takes_29 : decode cX12_takes 29 = .ok (.iconst 1, 1) := by decide +kernel
theorem dX12_takes_30 : decode cX12_takes 30 = .ok (.ireturn, 1) := by decide +kernel
theorem dX12_asks_0 : decode cX12_asks 0 = .ok (.aload_n 0, 1) := by decide +kernel
theorem dX12_asks_1 : decode cX12_asks 1 = .ok (.getfield 242, 3) := by decide +kernel
theorem dX12_asks_4 : decode cX12_asks 4 = .ok (.ifCond .ne 20, 3) := by decide +kernel
theorem dX12_asks_7 : decode cX12_asks 7 = .ok (.aload_n 0, 1) := by decide +kernel
theorem dX12_asks_8 : decode cX12_asks 8 = .ok (.aload_n 1, 1) := by decide +kernel
theorem dX12_asks_9 : decode cX12_asks 9 = .ok (.invokevirtual 269, 3) := by decide +kernel
theorem dX12_asks_12 : decode cX12_asks 12 = .ok (.ifCond .ne 12, 3) := by decide +kernel
theorem dX12_asks_15 : decode cX12_asks 15 = .ok (.aload_n 0, 1) := by decide +kernel
theorem dX12_asks_16 : decode cX12_asks 16 = .ok (.iconst 1, 1) := by decide +kernel
theorem dX12_asks_17 : decode cX12_asks 17 = .ok (.aload_n 0, 1) := by decide +kernel
theorem dX12_asks_18 : decode cX12_asks 18 = .ok (.getfield 248, 3) := by decide +kernel
theorem dX12_asks_21 : decode cX12_asks 21 = .ok (.invokevirtual 272, 3) := by decide +kernel
theorem dX12_asks_24 : decode cX12_asks 24 = .ok (.return_, 1) := by decide +kernel
theorem dX12_takesSign_0 : decode cX12_takesSign 0 = .ok (.aload_n 0, 1) := by decide +kernel
theorem dX12_takesSign_1 : decode cX12_takesSign 1 = .ok (.getfield 242, 3) := by decide +kernel
theorem dX12_takesSign_4 : decode cX12_takesSign 4 = .ok (.ifCond .ne 11, 3) := by decide +kernel
theorem dX12_takesSign_7 : decode cX12_takesSign 7 = .ok (.aload_n 0, 1) := by decide +kernel
theorem dX12_takesSign_8 : decode cX12_takesSign 8 = .ok (.invokevirtual 254, 3) := by decide +kernel
theorem dX12_takesSign_11 : decode cX12_takesSign 11 = .ok (.iload_n 1, 1) := by decide +kernel
theorem dX12_takesSign_12 : decode cX12_takesSign 12 = .ok (.if_icmp .eq 5, 3) := by decide +kernel
theorem dX12_takesSign_15 : decode cX12_takesSign 15 = .ok (.iconst 0, 1) := by decide +kernel
theorem dX12_takesSign_16 : decode cX12_takesSign 16 = .ok (.ireturn, 1) := by decide +kernel
theorem dX12_takesSign_17 : decode cX12_takesSign 17 = .ok (.aload_n 0, 1) := by decide +kernel
theorem dX12_takesSign_18 : decode cX12_takesSign 18 = .ok (.dup, 1) := by decide +kernel
theorem dX12_takesSign_19 : decode cX12_takesSign 19 = .ok (.getfield 248, 3) := by decide +kernel
theorem dX12_takesSign_22 : decode cX12_takesSign 22 = .ok (.iconst 1, 1) := by decide +kernel
theorem dX12_takesSign_23 : decode cX12_takesSign 23 = .ok (.iadd, 1) := by decide +kernel
theorem dX12_takesSign_24 : decode cX12_takesSign 24 = .ok (.putfield 248, 3) := by decide +kernel
theorem dX12_takesSign_27 : decode cX12_takesSign 27 = .ok (.iconst 1, 1) := by decide +kernel
theorem dX12_takesSign_28 : decode cX12_takesSign 28 = .ok (.ireturn, 1) := by decide +kernel
theorem dX12_asksSign_0 : decode cX12_asksSign 0 = .ok (.aload_n 0, 1) := by decide +kernel
theorem dX12_asksSign_1 : decode cX12_asksSign 1 = .ok (.getfield 242, 3) := by decide +kernel
theorem dX12_asksSign_4 : decode cX12_asksSign 4 = .ok (.ifCond .ne 20, 3) := by decide +kernel
theorem dX12_asksSign_7 : decode cX12_asksSign 7 = .ok (.aload_n 0, 1) := by decide +kernel
theorem dX12_asksSign_8 : decode cX12_asksSign 8 = .ok (.iload_n 1, 1) := by decide +kernel
theorem dX12_asksSign_9 : decode cX12_asksSign 9 = .ok (.invokevirtual 276, 3) := by decide +kernel
theorem dX12_asksSign_12 : decode cX12_asksSign 12 = .ok (.ifCond .ne 12, 3) := by decide +kernel
theorem dX12_asksSign_15 : decode cX12_asksSign 15 = .ok (.aload_n 0, 1) := by decide +kernel
theorem dX12_asksSign_16 : decode cX12_asksSign 16 = .ok (.iconst 1, 1) := by decide +kernel
theorem dX12_asksSign_17 : decode cX12_asksSign 17 = .ok (.aload_n 0, 1) := by decide +kernel
theorem dX12_asksSign_18 : decode cX12_asksSign 18 = .ok (.getfield 248, 3) := by decide +kernel
theorem dX12_asksSign_21 : decode cX12_asksSign 21 = .ok (.invokevirtual 272, 3) := by decide +kernel
theorem dX12_asksSign_24 : decode cX12_asksSign 24 = .ok (.return_, 1) := by decide +kernel
theorem dX12_number_0 : decode cX12_number 0 = .ok (.aload_n 0, 1) := by decide +kernel
theorem dX12_number_1 : decode cX12_number 1 = .ok (.getfield 242, 3) := by decide +kernel
theorem dX12_number_4 : decode cX12_number 4 = .ok (.ifCond .eq 5, 3) := by decide +kernel
theorem dX12_number_7 : decode cX12_number 7 = .ok (.iconst 0, 1) := by decide +kernel
theorem dX12_number_8 : decode cX12_number 8 = .ok (.ireturn, 1) := by decide +kernel
theorem dX12_number_9 : decode cX12_number 9 = .ok (.aload_n 0, 1) := by decide +kernel
theorem dX12_number_10 : decode cX12_number 10 = .ok (.invokevirtual 254, 3) := by decide +kernel
theorem dX12_number_13 : decode cX12_number 13 = .ok (.invokestatic 279, 3) := by decide +kernel
theorem dX12_number_16 : decode cX12_number 16 = .ok (.ifCond .eq 14, 3) := by decide +kernel
theorem dX12_number_19 : decode cX12_number 19 = .ok (.aload_n 0, 1) := by decide +kernel
theorem dX12_number_20 : decode cX12_number 20 = .ok (.getfield 248, 3) := by decide +kernel
theorem dX12_number_23 : decode cX12_number 23 = .ok (.aload_n 0, 1) := by decide +kernel
theorem dX12_number_24 : decode cX12_number 24 = .ok (.getfield 262, 3) := by decide +kernel
theorem dX12_number_27 : decode cX12_number 27 = .ok (.if_icmp .ne 14, 3) := by decide +kernel
theorem dX12_number_30 : decode cX12_number 30 = .ok (.aload_n 0, 1) := by decide +kernel
theorem dX12_number_31 : decode cX12_number 31 = .ok (.iconst 1, 1) := by decide +kernel
theorem dX12_number_32 : decode cX12_number 32 = .ok (.aload_n 0, 1) := by decide +kernel
theorem dX12_number_33 : decode cX12_number 33 = .ok (.getfield 248, 3) := by decide +kernel
theorem dX12_number_36 : decode cX12_number 36 = .ok (.invokevirtual 272, 3) := by decide +kernel
theorem dX12_number_39 : decode cX12_number 39 = .ok (.iconst 0, 1) := by decide +kernel
theorem dX12_number_40 : decode cX12_number 40 = .ok (.ireturn, 1) := by decide +kernel
theorem dX12_number_41 : decode cX12_number 41 = .ok (.aload_n 0, 1) := by decide +kernel
theorem dX12_number_42 : decode cX12_number 42 = .ok (.getfield 248, 3) := by decide +kernel
theorem dX12_number_45 : decode cX12_number 45 = .ok (.istore_n 3, 1) := by decide +kernel
theorem dX12_number_46 : decode cX12_number 46 = .ok (.iconst 0, 1) := by decide +kernel
theorem dX12_number_47 : decode cX12_number 47 = .ok (.istore 4, 2) := by decide +kernel
theorem dX12_number_49 : decode cX12_number 49 = .ok (.aload_n 0, 1) := by decide +kernel
theorem dX12_number_50 : decode cX12_number 50 = .ok (.getfield 248, 3) := by decide +kernel
theorem dX12_number_53 : decode cX12_number 53 = .ok (.aload_n 0, 1) := by decide +kernel
theorem dX12_number_54 : decode cX12_number 54 = .ok (.getfield 251, 3) := by decide +kernel
theorem dX12_number_57 : decode cX12_number 57 = .ok (.if_icmp .ge 72, 3) := by decide +kernel
theorem dX12_number_60 : decode cX12_number 60 = .ok (.aload_n 0, 1) := by decide +kernel
theorem dX12_number_61 : decode cX12_number 61 = .ok (.getfield 7, 3) := by decide +kernel
theorem dX12_number_64 : decode cX12_number 64 = .ok (.aload_n 0, 1) := by decide +kernel
theorem dX12_number_65 : decode cX12_number 65 = .ok (.getfield 248, 3) := by decide +kernel
theorem dX12_number_68 : decode cX12_number 68 = .ok (.iaload, 1) := by decide +kernel
theorem dX12_number_69 : decode cX12_number 69 = .ok (.invokestatic 279, 3) := by decide +kernel
theorem dX12_number_72 : decode cX12_number 72 = .ok (.ifCond .eq 57, 3) := by decide +kernel
theorem dX12_number_75 : decode cX12_number 75 = .ok (.aload_n 0, 1) := by decide +kernel
theorem dX12_number_76 : decode cX12_number 76 = .ok (.getfield 248, 3) := by decide +kernel
theorem dX12_number_79 : decode cX12_number 79 = .ok (.iload_n 3, 1) := by decide +kernel
theorem dX12_number_80 : decode cX12_number 80 = .ok (.isub, 1) := by decide +kernel
theorem dX12_number_81 : decode cX12_number 81 = .ok (.iconst 4, 1) := by decide +kernel
theorem dX12_number_82 : decode cX12_number 82 = .ok (.if_icmp .ne 14, 3) := by decide +kernel
theorem dX12_number_85 : decode cX12_number 85 = .ok (.aload_n 0, 1) := by decide +kernel
theorem dX12_number_86 : decode cX12_number 86 = .ok (.iconst 1, 1) := by decide +kernel
theorem dX12_number_87 : decode cX12_number 87 = .ok (.aload_n 0, 1) := by decide +kernel
theorem dX12_number_88 : decode cX12_number 88 = .ok (.getfield 248, 3) := by decide +kernel
theorem dX12_number_91 : decode cX12_number 91 = .ok (.invokevirtual 272, 3) := by decide +kernel
theorem dX12_number_94 : decode cX12_number 94 = .ok (.iconst 0, 1) := by decide +kernel
theorem dX12_number_95 : decode cX12_number 95 = .ok (.ireturn, 1) := by decide +kernel
theorem dX12_number_96 : decode cX12_number 96 = .ok (.bipush 10, 2) := by decide +kernel
theorem dX12_number_98 : decode cX12_number 98 = .ok (.iload 4, 2) := by decide +kernel
theorem dX12_number_100 : decode cX12_number 100 = .ok (.imul, 1) := by decide +kernel
theorem dX12_number_101 : decode cX12_number 101 = .ok (.aload_n 0, 1) := by decide +kernel
theorem dX12_number_102 : decode cX12_number 102 = .ok (.getfield 7, 3) := by decide +kernel
theorem dX12_number_105 : decode cX12_number 105 = .ok (.aload_n 0, 1) := by decide +kernel
theorem dX12_number_106 : decode cX12_number 106 = .ok (.getfield 248, 3) := by decide +kernel
theorem dX12_number_109 : decode cX12_number 109 = .ok (.iaload, 1) := by decide +kernel
theorem dX12_number_110 : decode cX12_number 110 = .ok (.iadd, 1) := by decide +kernel
theorem dX12_number_111 : decode cX12_number 111 = .ok (.bipush 48, 2) := by decide +kernel
theorem dX12_number_113 : decode cX12_number 113 = .ok (.isub, 1) := by decide +kernel
theorem dX12_number_114 : decode cX12_number 114 = .ok (.istore 4, 2) := by decide +kernel
theorem dX12_number_116 : decode cX12_number 116 = .ok (.aload_n 0, 1) := by decide +kernel
theorem dX12_number_117 : decode cX12_number 117 = .ok (.dup, 1) := by decide +kernel
theorem dX12_number_118 : decode cX12_number 118 = .ok (.getfield 248, 3) := by decide +kernel
theorem dX12_number_121 : decode cX12_number 121 = .ok (.iconst 1, 1) := by decide +kernel
theorem dX12_number_122 : decode cX12_number 122 = .ok (.iadd, 1) := by decide +kernel
theorem dX12_number_123 : decode cX12_number 123 = .ok (.putfield 248, 3) := by decide +kernel
theorem dX12_number_126 : decode cX12_number 126 = .ok (.goto (-77), 3) := by decide +kernel
theorem dX12_number_129 : decode cX12_number 129 = .ok (.aload_n 0, 1) := by decide +kernel
theorem dX12_number_130 : decode cX12_number 130 = .ok (.aload_n 0, 1) := by decide +kernel
theorem dX12_number_131 : decode cX12_number 131 = .ok (.getfield 248, 3) := by decide +kernel
theorem dX12_number_134 : decode cX12_number 134 = .ok (.putfield 262, 3) := by decide +kernel
theorem dX12_number_137 : decode cX12_number 137 = .ok (.iload 4, 2) := by decide +kernel
theorem dX12_number_139 : decode cX12_number 139 = .ok (.i2l, 1) := by decide +kernel
theorem dX12_number_140 : decode cX12_number 140 = .ok (.iload_n 1, 1) := by decide +kernel
theorem dX12_number_141 : decode cX12_number 141 = .ok (.i2l, 1) := by decide +kernel
theorem dX12_number_142 : decode cX12_number 142 = .ok (.iload_n 2, 1) := by decide +kernel
theorem dX12_number_143 : decode cX12_number 143 = .ok (.i2l, 1) := by decide +kernel
theorem dX12_number_144 : decode cX12_number 144 = .ok (.invokestatic 282, 3) := by decide +kernel
theorem dX12_number_147 : decode cX12_number 147 = .ok (.ifCond .ne 9, 3) := by decide +kernel
theorem dX12_number_150 : decode cX12_number 150 = .ok (.aload_n 0, 1) := by decide +kernel
theorem dX12_number_151 : decode cX12_number 151 = .ok (.iconst 2, 1) := by decide +kernel
theorem dX12_number_152 : decode cX12_number 152 = .ok (.iload_n 3, 1) := by decide +kernel
theorem dX12_number_153 : decode cX12_number 153 = .ok (.invokevirtual 272, 3) := by decide +kernel
theorem dX12_number_156 : decode cX12_number 156 = .ok (.iload 4, 2) := by decide +kernel
theorem dX12_number_158 : decode cX12_number 158 = .ok (.ireturn, 1) := by decide +kernel
theorem dX12_isOwnHere_0 : decode cX12_isOwnHere 0 = .ok (.aload_n 0, 1) := by decide +kernel
theorem dX12_isOwnHere_1 : decode cX12_isOwnHere 1 = .ok (.aload_n 0, 1) := by decide +kernel
theorem dX12_isOwnHere_2 : decode cX12_isOwnHere 2 = .ok (.getfield 20, 3) := by decide +kernel
theorem dX12_isOwnHere_5 : decode cX12_isOwnHere 5 = .ok (.invokevirtual 265, 3) := by decide +kernel
theorem dX12_isOwnHere_8 : decode cX12_isOwnHere 8 = .ok (.ifCond .ne 58, 3) := by decide +kernel
theorem dX12_isOwnHere_11 : decode cX12_isOwnHere 11 = .ok (.aload_n 0, 1) := by decide +kernel
theorem dX12_isOwnHere_12 : decode cX12_isOwnHere 12 = .ok (.aload_n 0, 1) := by decide +kernel
theorem dX12_isOwnHere_13 : decode cX12_isOwnHere 13 = .ok (.getfield 24, 3) := by decide +kernel
theorem dX12_isOwnHere_16 : decode cX12_isOwnHere 16 = .ok (.invokevirtual 265, 3) := by decide +kernel
theorem dX12_isOwnHere_19 : decode cX12_isOwnHere 19 = .ok (.ifCond .ne 47, 3) := by decide +kernel
theorem dX12_isOwnHere_22 : decode cX12_isOwnHere 22 = .ok (.aload_n 0, 1) := by decide +kernel
theorem dX12_isOwnHere_23 : decode cX12_isOwnHere 23 = .ok (.aload_n 0, 1) := by decide +kernel
theorem dX12_isOwnHere_24 : decode cX12_isOwnHere 24 = .ok (.getfield 27, 3) := by decide +kernel
theorem dX12_isOwnHere_27 : decode cX12_isOwnHere 27 = .ok (.invokevirtual 265, 3) := by decide +kernel
theorem dX12_isOwnHere_30 : decode cX12_isOwnHere 30 = .ok (.ifCond .ne 36, 3) := by decide +kernel
theorem dX12_isOwnHere_33 : decode cX12_isOwnHere 33 = .ok (.aload_n 0, 1) := by decide +kernel
theorem dX12_isOwnHere_34 : decode cX12_isOwnHere 34 = .ok (.aload_n 0, 1) := by decide +kernel
theorem dX12_isOwnHere_35 : decode cX12_isOwnHere 35 = .ok (.getfield 30, 3) := by decide +kernel
theorem dX12_isOwnHere_38 : decode cX12_isOwnHere 38 = .ok (.invokevirtual 265, 3) := by decide +kernel
theorem dX12_isOwnHere_41 : decode cX12_isOwnHere 41 = .ok (.ifCond .ne 25, 3) := by decide +kernel
theorem dX12_isOwnHere_44 : decode cX12_isOwnHere 44 = .ok (.aload_n 0, 1) := by decide +kernel
theorem dX12_isOwnHere_45 : decode cX12_isOwnHere 45 = .ok (.aload_n 0, 1) := by decide +kernel
theorem dX12_isOwnHere_46 : decode cX12_isOwnHere 46 = .ok (.getfield 33, 3) := by decide +kernel
theorem dX12_isOwnHere_49 : decode cX12_isOwnHere 49 = .ok (.invokevirtual 265, 3) := by decide +kernel
theorem dX12_isOwnHere_52 : decode cX12_isOwnHere 52 = .ok (.ifCond .ne 14, 3) := by decide +kernel
theorem dX12_isOwnHere_55 : decode cX12_isOwnHere 55 = .ok (.aload_n 0, 1) := by decide +kernel
theorem dX12_isOwnHere_56 : decode cX12_isOwnHere 56 = .ok (.aload_n 0, 1) := by decide +kernel
theorem dX12_isOwnHere_57 : decode cX12_isOwnHere 57 = .ok (.getfield 36, 3) := by decide +kernel
theorem dX12_isOwnHere_60 : decode cX12_isOwnHere 60 = .ok (.invokevirtual 265, 3) := by decide +kernel
theorem dX12_isOwnHere_63 : decode cX12_isOwnHere 63 = .ok (.ifCond .eq 7, 3) := by decide +kernel
theorem dX12_isOwnHere_66 : decode cX12_isOwnHere 66 = .ok (.iconst 1, 1) := by decide +kernel
theorem dX12_isOwnHere_67 : decode cX12_isOwnHere 67 = .ok (.goto 4, 3) := by decide +kernel
theorem dX12_isOwnHere_70 : decode cX12_isOwnHere 70 = .ok (.iconst 0, 1) := by decide +kernel
theorem dX12_isOwnHere_71 : decode cX12_isOwnHere 71 = .ok (.istore_n 1, 1) := by decide +kernel
theorem dX12_isOwnHere_72 : decode cX12_isOwnHere 72 = .ok (.iload_n 1, 1) := by decide +kernel
theorem dX12_isOwnHere_73 : decode cX12_isOwnHere 73 = .ok (.ifCond .ne 69, 3) := by decide +kernel
theorem dX12_isOwnHere_76 : decode cX12_isOwnHere 76 = .ok (.aload_n 0, 1) := by decide +kernel
theorem dX12_isOwnHere_77 : decode cX12_isOwnHere 77 = .ok (.aload_n 0, 1) := by decide +kernel
theorem dX12_isOwnHere_78 : decode cX12_isOwnHere 78 = .ok (.getfield 39, 3) := by decide +kernel
theorem dX12_isOwnHere_81 : decode cX12_isOwnHere 81 = .ok (.invokevirtual 265, 3) := by decide +kernel
theorem dX12_isOwnHere_84 : decode cX12_isOwnHere 84 = .ok (.ifCond .ne 58, 3) := by decide +kernel
theorem dX12_isOwnHere_87 : decode cX12_isOwnHere 87 = .ok (.aload_n 0, 1) := by decide +kernel
theorem dX12_isOwnHere_88 : decode cX12_isOwnHere 88 = .ok (.aload_n 0, 1) := by decide +kernel
theorem dX12_isOwnHere_89 : decode cX12_isOwnHere 89 = .ok (.getfield 42, 3) := by decide +kernel
theorem dX12_isOwnHere_92 : decode cX12_isOwnHere 92 = .ok (.invokevirtual 265, 3) := by decide +kernel
theorem dX12_isOwnHere_95 : decode cX12_isOwnHere 95 = .ok (.ifCond .ne 47, 3) := by decide +kernel
theorem dX12_isOwnHere_98 : decode cX12_isOwnHere 98 = .ok (.aload_n 0, 1) := by decide +kernel
theorem dX12_isOwnHere_99 : decode cX12_isOwnHere 99 = .ok (.aload_n 0, 1) := by decide +kernel
theorem dX12_isOwnHere_100 : decode cX12_isOwnHere 100 = .ok (.getfield 45, 3) := by decide +kernel
theorem dX12_isOwnHere_103 : decode cX12_isOwnHere 103 = .ok (.invokevirtual 265, 3) := by decide +kernel
theorem dX12_isOwnHere_106 : decode cX12_isOwnHere 106 = .ok (.ifCond .ne 36, 3) := by decide +kernel
theorem dX12_isOwnHere_109 : decode cX12_isOwnHere 109 = .ok (.aload_n 0, 1) := by decide +kernel
theorem dX12_isOwnHere_110 : decode cX12_isOwnHere 110 = .ok (.aload_n 0, 1) := by decide +kernel
theorem dX12_isOwnHere_111 : decode cX12_isOwnHere 111 = .ok (.getfield 48, 3) := by decide +kernel
theorem dX12_isOwnHere_114 : decode cX12_isOwnHere 114 = .ok (.invokevirtual 265, 3) := by decide +kernel
theorem dX12_isOwnHere_117 : decode cX12_isOwnHere 117 = .ok (.ifCond .ne 25, 3) := by decide +kernel
theorem dX12_isOwnHere_120 : decode cX12_isOwnHere 120 = .ok (.aload_n 0, 1) := by decide +kernel
theorem dX12_isOwnHere_121 : decode cX12_isOwnHere 121 = .ok (.aload_n 0, 1) := by decide +kernel
theorem dX12_isOwnHere_122 : decode cX12_isOwnHere 122 = .ok (.getfield 51, 3) := by decide +kernel
theorem dX12_isOwnHere_125 : decode cX12_isOwnHere 125 = .ok (.invokevirtual 265, 3) := by decide +kernel
theorem dX12_isOwnHere_128 : decode cX12_isOwnHere 128 = .ok (.ifCond .ne 14, 3) := by decide +kernel
theorem dX12_isOwnHere_131 : decode cX12_isOwnHere 131 = .ok (.aload_n 0, 1) := by decide +kernel
theorem dX12_isOwnHere_132 : decode cX12_isOwnHere 132 = .ok (.aload_n 0, 1) := by decide +kernel
theorem dX12_isOwnHere_133 : decode cX12_isOwnHere 133 = .ok (.getfield 54, 3) := by decide +kernel
theorem dX12_isOwnHere_136 : decode cX12_isOwnHere 136 = .ok (.invokevirtual 265, 3) := by decide +kernel
theorem dX12_isOwnHere_139 : decode cX12_isOwnHere 139 = .ok (.ifCond .eq 7, 3) := by decide +kernel
theorem dX12_isOwnHere_142 : decode cX12_isOwnHere 142 = .ok (.iconst 1, 1) := by decide +kernel
theorem dX12_isOwnHere_143 : decode cX12_isOwnHere 143 = .ok (.goto 4, 3) := by decide +kernel
theorem dX12_isOwnHere_146 : decode cX12_isOwnHere 146 = .ok (.iconst 0, 1) := by decide +kernel
theorem dX12_isOwnHere_147 : decode cX12_isOwnHere 147 = .ok (.istore_n 1, 1) := by decide +kernel
theorem dX12_isOwnHere_148 : decode cX12_isOwnHere 148 = .ok (.iload_n 1, 1) := by decide +kernel
theorem dX12_isOwnHere_149 : decode cX12_isOwnHere 149 = .ok (.ifCond .ne 69, 3) := by decide +kernel
theorem dX12_isOwnHere_152 : decode cX12_isOwnHere 152 = .ok (.aload_n 0, 1) := by decide +kernel
theorem dX12_isOwnHere_153 : decode cX12_isOwnHere 153 = .ok (.aload_n 0, 1) := by decide +kernel
theorem dX12_isOwnHere_154 : decode cX12_isOwnHere 154 = .ok (.getfield 57, 3) := by decide +kernel
theorem dX12_isOwnHere_157 : decode cX12_isOwnHere 157 = .ok (.invokevirtual 265, 3) := by decide +kernel
theorem dX12_isOwnHere_160 : decode cX12_isOwnHere 160 = .ok (.ifCond .ne 58, 3) := by decide +kernel
theorem dX12_isOwnHere_163 : decode cX12_isOwnHere 163 = .ok (.aload_n 0, 1) := by decide +kernel
theorem dX12_isOwnHere_164 : decode cX12_isOwnHere 164 = .ok (.aload_n 0, 1) := by decide +kernel
theorem dX12_isOwnHere_165 : decode cX12_isOwnHere 165 = .ok (.getfield 60, 3) := by decide +kernel
theorem dX12_isOwnHere_168 : decode cX12_isOwnHere 168 = .ok (.invokevirtual 265, 3) := by decide +kernel
theorem dX12_isOwnHere_171 : decode cX12_isOwnHere 171 = .ok (.ifCond .ne 47, 3) := by decide +kernel
theorem dX12_isOwnHere_174 : decode cX12_isOwnHere 174 = .ok (.aload_n 0, 1) := by decide +kernel
theorem dX12_isOwnHere_175 : decode cX12_isOwnHere 175 = .ok (.aload_n 0, 1) := by decide +kernel
theorem dX12_isOwnHere_176 : decode cX12_isOwnHere 176 = .ok (.getfield 63, 3) := by decide +kernel
theorem dX12_isOwnHere_179 : decode cX12_isOwnHere 179 = .ok (.invokevirtual 265, 3) := by decide +kernel
theorem dX12_isOwnHere_182 : decode cX12_isOwnHere 182 = .ok (.ifCond .ne 36, 3) := by decide +kernel
theorem dX12_isOwnHere_185 : decode cX12_isOwnHere 185 = .ok (.aload_n 0, 1) := by decide +kernel
theorem dX12_isOwnHere_186 : decode cX12_isOwnHere 186 = .ok (.aload_n 0, 1) := by decide +kernel
theorem dX12_isOwnHere_187 : decode cX12_isOwnHere 187 = .ok (.getfield 66, 3) := by decide +kernel
theorem dX12_isOwnHere_190 : decode cX12_isOwnHere 190 = .ok (.invokevirtual 265, 3) := by decide +kernel
theorem dX12_isOwnHere_193 : decode cX12_isOwnHere 193 = .ok (.ifCond .ne 25, 3) := by decide +kernel
theorem dX12_isOwnHere_196 : decode cX12_isOwnHere 196 = .ok (.aload_n 0, 1) := by decide +kernel
theorem dX12_isOwnHere_197 : decode cX12_isOwnHere 197 = .ok (.aload_n 0, 1) := by decide +kernel
theorem dX12_isOwnHere_198 : decode cX12_isOwnHere 198 = .ok (.getfield 69, 3) := by decide +kernel
theorem dX12_isOwnHere_201 : decode cX12_isOwnHere 201 = .ok (.invokevirtual 265, 3) := by decide +kernel
theorem dX12_isOwnHere_204 : decode cX12_isOwnHere 204 = .ok (.ifCond .ne 14, 3) := by decide +kernel
theorem dX12_isOwnHere_207 : decode cX12_isOwnHere 207 = .ok (.aload_n 0, 1) := by decide +kernel
theorem dX12_isOwnHere_208 : decode cX12_isOwnHere 208 = .ok (.aload_n 0, 1) := by decide +kernel
theorem dX12_isOwnHere_209 : decode cX12_isOwnHere 209 = .ok (.getfield 72, 3) := by decide +kernel
theorem dX12_isOwnHere_212 : decode cX12_isOwnHere 212 = .ok (.invokevirtual 265, 3) := by decide +kernel
theorem dX12_isOwnHere_215 : decode cX12_isOwnHere 215 = .ok (.ifCond .eq 7, 3) := by decide +kernel
theorem dX12_isOwnHere_218 : decode cX12_isOwnHere 218 = .ok (.iconst 1, 1) := by decide +kernel
theorem dX12_isOwnHere_219 : decode cX12_isOwnHere 219 = .ok (.goto 4, 3) := by decide +kernel
theorem dX12_isOwnHere_222 : decode cX12_isOwnHere 222 = .ok (.iconst 0, 1) := by decide +kernel
theorem dX12_isOwnHere_223 : decode cX12_isOwnHere 223 = .ok (.istore_n 1, 1) := by decide +kernel
theorem dX12_isOwnHere_224 : decode cX12_isOwnHere 224 = .ok (.iload_n 1, 1) := by decide +kernel
theorem dX12_isOwnHere_225 : decode cX12_isOwnHere 225 = .ok (.ifCond .ne 69, 3) := by decide +kernel
theorem dX12_isOwnHere_228 : decode cX12_isOwnHere 228 = .ok (.aload_n 0, 1) := by decide +kernel
theorem dX12_isOwnHere_229 : decode cX12_isOwnHere 229 = .ok (.aload_n 0, 1) := by decide +kernel
theorem dX12_isOwnHere_230 : decode cX12_isOwnHere 230 = .ok (.getfield 75, 3) := by decide +kernel
theorem dX12_isOwnHere_233 : decode cX12_isOwnHere 233 = .ok (.invokevirtual 265, 3) := by decide +kernel
theorem dX12_isOwnHere_236 : decode cX12_isOwnHere 236 = .ok (.ifCond .ne 58, 3) := by decide +kernel
theorem dX12_isOwnHere_239 : decode cX12_isOwnHere 239 = .ok (.aload_n 0, 1) := by decide +kernel
theorem dX12_isOwnHere_240 : decode cX12_isOwnHere 240 = .ok (.aload_n 0, 1) := by decide +kernel
theorem dX12_isOwnHere_241 : decode cX12_isOwnHere 241 = .ok (.getfield 78, 3) := by decide +kernel
theorem dX12_isOwnHere_244 : decode cX12_isOwnHere 244 = .ok (.invokevirtual 265, 3) := by decide +kernel
theorem dX12_isOwnHere_247 : decode cX12_isOwnHere 247 = .ok (.ifCond .ne 47, 3) := by decide +kernel
theorem dX12_isOwnHere_250 : decode cX12_isOwnHere 250 = .ok (.aload_n 0, 1) := by decide +kernel
theorem dX12_isOwnHere_251 : decode cX12_isOwnHere 251 = .ok (.aload_n 0, 1) := by decide +kernel
theorem dX12_isOwnHere_252 : decode cX12_isOwnHere 252 = .ok (.getfield 81, 3) := by decide +kernel
theorem dX12_isOwnHere_255 : decode cX12_isOwnHere 255 = .ok (.invokevirtual 265, 3) := by decide +kernel
theorem dX12_isOwnHere_258 : decode cX12_isOwnHere 258 = .ok (.ifCond .ne 36, 3) := by decide +kernel
theorem dX12_isOwnHere_261 : decode cX12_isOwnHere 261 = .ok (.aload_n 0, 1) := by decide +kernel
theorem dX12_isOwnHere_262 : decode cX12_isOwnHere 262 = .ok (.aload_n 0, 1) := by decide +kernel
theorem dX12_isOwnHere_263 : decode cX12_isOwnHere 263 = .ok (.getfield 84, 3) := by decide +kernel
theorem dX12_isOwnHere_266 : decode cX12_isOwnHere 266 = .ok (.invokevirtual 265, 3) := by decide +kernel
theorem dX12_isOwnHere_269 : decode cX12_isOwnHere 269 = .ok (.ifCond .ne 25, 3) := by decide +kernel
theorem dX12_isOwnHere_272 : decode cX12_isOwnHere 272 = .ok (.aload_n 0, 1) := by decide +kernel
theorem dX12_isOwnHere_273 : decode cX12_isOwnHere 273 = .ok (.aload_n 0, 1) := by decide +kernel
theorem dX12_isOwnHere_274 : decode cX12_isOwnHere 274 = .ok (.getfield 87, 3) := by decide +kernel
theorem dX12_isOwnHere_277 : decode cX12_isOwnHere 277 = .ok (.invokevirtual 265, 3) := by decide +kernel
theorem dX12_isOwnHere_280 : decode cX12_isOwnHere 280 = .ok (.ifCond .ne 14, 3) := by decide +kernel
theorem dX12_isOwnHere_283 : decode cX12_isOwnHere 283 = .ok (.aload_n 0, 1) := by decide +kernel
theorem dX12_isOwnHere_284 : decode cX12_isOwnHere 284 = .ok (.aload_n 0, 1) := by decide +kernel
theorem dX12_isOwnHere_285 : decode cX12_isOwnHere 285 = .ok (.getfield 90, 3) := by decide +kernel
theorem dX12_isOwnHere_288 : decode cX12_isOwnHere 288 = .ok (.invokevirtual 265, 3) := by decide +kernel
theorem dX12_isOwnHere_291 : decode cX12_isOwnHere 291 = .ok (.ifCond .eq 7, 3) := by decide +kernel
theorem dX12_isOwnHere_294 : decode cX12_isOwnHere 294 = .ok (.iconst 1, 1) := by decide +kernel
theorem dX12_isOwnHere_295 : decode cX12_isOwnHere 295 = .ok (.goto 4, 3) := by decide +kernel
theorem dX12_isOwnHere_298 : decode cX12_isOwnHere 298 = .ok (.iconst 0, 1) := by decide +kernel
theorem dX12_isOwnHere_299 : decode cX12_isOwnHere 299 = .ok (.istore_n 1, 1) := by decide +kernel
theorem dX12_isOwnHere_300 : decode cX12_isOwnHere 300 = .ok (.iload_n 1, 1) := by decide +kernel
theorem dX12_isOwnHere_301 : decode cX12_isOwnHere 301 = .ok (.ifCond .ne 58, 3) := by decide +kernel
theorem dX12_isOwnHere_304 : decode cX12_isOwnHere 304 = .ok (.aload_n 0, 1) := by decide +kernel
theorem dX12_isOwnHere_305 : decode cX12_isOwnHere 305 = .ok (.aload_n 0, 1) := by decide +kernel
theorem dX12_isOwnHere_306 : decode cX12_isOwnHere 306 = .ok (.getfield 93, 3) := by decide +kernel
theorem dX12_isOwnHere_309 : decode cX12_isOwnHere 309 = .ok (.invokevirtual 265, 3) := by decide +kernel
theorem dX12_isOwnHere_312 : decode cX12_isOwnHere 312 = .ok (.ifCond .ne 47, 3) := by decide +kernel
theorem dX12_isOwnHere_315 : decode cX12_isOwnHere 315 = .ok (.aload_n 0, 1) := by decide +kernel
theorem dX12_isOwnHere_316 : decode cX12_isOwnHere 316 = .ok (.aload_n 0, 1) := by decide +kernel
theorem dX12_isOwnHere_317 : decode cX12_isOwnHere 317 = .ok (.getfield 96, 3) := by decide +kernel
theorem dX12_isOwnHere_320 : decode cX12_isOwnHere 320 = .ok (.invokevirtual 265, 3) := by decide +kernel
theorem dX12_isOwnHere_323 : decode cX12_isOwnHere 323 = .ok (.ifCond .ne 36, 3) := by decide +kernel
theorem dX12_isOwnHere_326 : decode cX12_isOwnHere 326 = .ok (.aload_n 0, 1) := by decide +kernel
theorem dX12_isOwnHere_327 : decode cX12_isOwnHere 327 = .ok (.aload_n 0, 1) := by decide +kernel
theorem dX12_isOwnHere_328 : decode cX12_isOwnHere 328 = .ok (.getfield 99, 3) := by decide +kernel
theorem dX12_isOwnHere_331 : decode cX12_isOwnHere 331 = .ok (.invokevirtual 265, 3) := by decide +kernel
theorem dX12_isOwnHere_334 : decode cX12_isOwnHere 334 = .ok (.ifCond .ne 25, 3) := by decide +kernel
theorem dX12_isOwnHere_337 : decode cX12_isOwnHere 337 = .ok (.aload_n 0, 1) := by decide +kernel
theorem dX12_isOwnHere_338 : decode cX12_isOwnHere 338 = .ok (.aload_n 0, 1) := by decide +kernel
theorem dX12_isOwnHere_339 : decode cX12_isOwnHere 339 = .ok (.getfield 102, 3) := by decide +kernel
theorem dX12_isOwnHere_342 : decode cX12_isOwnHere 342 = .ok (.invokevirtual 265, 3) := by decide +kernel
theorem dX12_isOwnHere_345 : decode cX12_isOwnHere 345 = .ok (.ifCond .ne 14, 3) := by decide +kernel
theorem dX12_isOwnHere_348 : decode cX12_isOwnHere 348 = .ok (.aload_n 0, 1) := by decide +kernel
theorem dX12_isOwnHere_349 : decode cX12_isOwnHere 349 = .ok (.aload_n 0, 1) := by decide +kernel
theorem dX12_isOwnHere_350 : decode cX12_isOwnHere 350 = .ok (.getfield 105, 3) := by decide +kernel
theorem dX12_isOwnHere_353 : decode cX12_isOwnHere 353 = .ok (.invokevirtual 265, 3) := by decide +kernel
theorem dX12_isOwnHere_356 : decode cX12_isOwnHere 356 = .ok (.ifCond .eq 7, 3) := by decide +kernel
theorem dX12_isOwnHere_359 : decode cX12_isOwnHere 359 = .ok (.iconst 1, 1) := by decide +kernel
theorem dX12_isOwnHere_360 : decode cX12_isOwnHere 360 = .ok (.goto 4, 3) := by decide +kernel
theorem dX12_isOwnHere_363 : decode cX12_isOwnHere 363 = .ok (.iconst 0, 1) := by decide +kernel
theorem dX12_isOwnHere_364 : decode cX12_isOwnHere 364 = .ok (.istore_n 1, 1) := by decide +kernel
theorem dX12_isOwnHere_365 : decode cX12_isOwnHere 365 = .ok (.iload_n 1, 1) := by decide +kernel
theorem dX12_isOwnHere_366 : decode cX12_isOwnHere 366 = .ok (.ireturn, 1) := by decide +kernel
theorem dX12_name_0 : decode cX12_name 0 = .ok (.aload_n 0, 1) := by decide +kernel
theorem dX12_name_1 : decode cX12_name 1 = .ok (.getfield 242, 3) := by decide +kernel
theorem dX12_name_4 : decode cX12_name 4 = .ok (.ifCond .eq 5, 3) := by decide +kernel
theorem dX12_name_7 : decode cX12_name 7 = .ok (.lconst 0, 1) := by decide +kernel
theorem dX12_name_8 : decode cX12_name 8 = .ok (.lreturn, 1) := by decide +kernel
theorem dX12_name_9 : decode cX12_name 9 = .ok (.aload_n 0, 1) := by decide +kernel
theorem dX12_name_10 : decode cX12_name 10 = .ok (.invokevirtual 254, 3) := by decide +kernel
theorem dX12_name_13 : decode cX12_name 13 = .ok (.invokestatic 258, 3) := by decide +kernel
theorem dX12_name_16 : decode cX12_name 16 = .ok (.ifCond .eq 21, 3) := by decide +kernel
theorem dX12_name_19 : decode cX12_name 19 = .ok (.aload_n 0, 1) := by decide +kernel
theorem dX12_name_20 : decode cX12_name 20 = .ok (.getfield 248, 3) := by decide +kernel
theorem dX12_name_23 : decode cX12_name 23 = .ok (.aload_n 0, 1) := by decide +kernel
theorem dX12_name_24 : decode cX12_name 24 = .ok (.getfield 262, 3) := by decide +kernel
theorem dX12_name_27 : decode cX12_name 27 = .ok (.if_icmp .eq 10, 3) := by decide +kernel
theorem dX12_name_30 : decode cX12_name 30 = .ok (.aload_n 0, 1) := by decide +kernel
theorem dX12_name_31 : decode cX12_name 31 = .ok (.invokevirtual 286, 3) := by decide +kernel
theorem dX12_name_34 : decode cX12_name 34 = .ok (.ifCond .eq 14, 3) := by decide +kernel
theorem dX12_name_37 : decode cX12_name 37 = .ok (.aload_n 0, 1) := by decide +kernel
theorem dX12_name_38 : decode cX12_name 38 = .ok (.iconst 1, 1) := by decide +kernel
theorem dX12_name_39 : decode cX12_name 39 = .ok (.aload_n 0, 1) := by decide +kernel
theorem dX12_name_40 : decode cX12_name 40 = .ok (.getfield 248, 3) := by decide +kernel
theorem dX12_name_43 : decode cX12_name 43 = .ok (.invokevirtual 272, 3) := by decide +kernel
theorem dX12_name_46 : decode cX12_name 46 = .ok (.lconst 0, 1) := by decide +kernel
theorem dX12_name_47 : decode cX12_name 47 = .ok (.lreturn, 1) := by decide +kernel
theorem dX12_name_48 : decode cX12_name 48 = .ok (.aload_n 0, 1) := by decide +kernel
theorem dX12_name_49 : decode cX12_name 49 = .ok (.aload_n 0, 1) := by decide +kernel
theorem dX12_name_50 : decode cX12_name 50 = .ok (.getfield 248, 3) := by decide +kernel
theorem dX12_name_53 : decode cX12_name 53 = .ok (.putfield 290, 3) := by decide +kernel
theorem dX12_name_56 : decode cX12_name 56 = .ok (.lconst 0, 1) := by decide +kernel
theorem dX12_name_57 : decode cX12_name 57 = .ok (.lstore_n 1, 1) := by decide +kernel
theorem dX12_name_58 : decode cX12_name 58 = .ok (.aload_n 0, 1) := by decide +kernel
theorem dX12_name_59 : decode cX12_name 59 = .ok (.getfield 248, 3) := by decide +kernel
theorem dX12_name_62 : decode cX12_name 62 = .ok (.aload_n 0, 1) := by decide +kernel
theorem dX12_name_63 : decode cX12_name 63 = .ok (.getfield 251, 3) := by decide +kernel
theorem dX12_name_66 : decode cX12_name 66 = .ok (.if_icmp .ge 79, 3) := by decide +kernel
theorem dX12_name_69 : decode cX12_name 69 = .ok (.aload_n 0, 1) := by decide +kernel
theorem dX12_name_70 : decode cX12_name 70 = .ok (.getfield 7, 3) := by decide +kernel
theorem dX12_name_73 : decode cX12_name 73 = .ok (.aload_n 0, 1) := by decide +kernel
theorem dX12_name_74 : decode cX12_name 74 = .ok (.getfield 248, 3) := by decide +kernel
theorem dX12_name_77 : decode cX12_name 77 = .ok (.iaload, 1) := by decide +kernel
theorem dX12_name_78 : decode cX12_name 78 = .ok (.invokestatic 258, 3) := by decide +kernel
theorem dX12_name_81 : decode cX12_name 81 = .ok (.ifCond .eq 64, 3) := by decide +kernel
theorem dX12_name_84 : decode cX12_name 84 = .ok (.aload_n 0, 1) := by decide +kernel
theorem dX12_name_85 : decode cX12_name 85 = .ok (.getfield 248, 3) := by decide +kernel
theorem dX12_name_88 : decode cX12_name 88 = .ok (.aload_n 0, 1) := by decide +kernel
theorem dX12_name_89 : decode cX12_name 89 = .ok (.getfield 290, 3) := by decide +kernel
theorem dX12_name_92 : decode cX12_name 92 = .ok (.isub, 1) := by decide +kernel
theorem dX12_name_93 : decode cX12_name 93 = .ok (.bipush 6, 2) := by decide +kernel
theorem dX12_name_95 : decode cX12_name 95 = .ok (.if_icmp .ne 14, 3) := by decide +kernel
theorem dX12_name_98 : decode cX12_name 98 = .ok (.aload_n 0, 1) := by decide +kernel
theorem dX12_name_99 : decode cX12_name 99 = .ok (.iconst 1, 1) := by decide +kernel
theorem dX12_name_100 : decode cX12_name 100 = .ok (.aload_n 0, 1) := by decide +kernel
theorem dX12_name_101 : decode cX12_name 101 = .ok (.getfield 248, 3) := by decide +kernel
theorem dX12_name_104 : decode cX12_name 104 = .ok (.invokevirtual 272, 3) := by decide +kernel
theorem dX12_name_107 : decode cX12_name 107 = .ok (.lconst 0, 1) := by decide +kernel
theorem dX12_name_108 : decode cX12_name 108 = .ok (.lreturn, 1) := by decide +kernel
theorem dX12_name_109 : decode cX12_name 109 = .ok (.ldc2_w 293, 3) := by decide +kernel
theorem dX12_name_112 : decode cX12_name 112 = .ok (.lload_n 1, 1) := by decide +kernel
theorem dX12_name_113 : decode cX12_name 113 = .ok (.lmul, 1) := by decide +kernel
theorem dX12_name_114 : decode cX12_name 114 = .ok (.aload_n 0, 1) := by decide +kernel
theorem dX12_name_115 : decode cX12_name 115 = .ok (.getfield 7, 3) := by decide +kernel
theorem dX12_name_118 : decode cX12_name 118 = .ok (.aload_n 0, 1) := by decide +kernel
theorem dX12_name_119 : decode cX12_name 119 = .ok (.getfield 248, 3) := by decide +kernel
theorem dX12_name_122 : decode cX12_name 122 = .ok (.iaload, 1) := by decide +kernel
theorem dX12_name_123 : decode cX12_name 123 = .ok (.i2l, 1) := by decide +kernel
theorem dX12_name_124 : decode cX12_name 124 = .ok (.ladd, 1) := by decide +kernel
theorem dX12_name_125 : decode cX12_name 125 = .ok (.ldc2_w 295, 3) := by decide +kernel
theorem dX12_name_128 : decode cX12_name 128 = .ok (.lsub, 1) := by decide +kernel
theorem dX12_name_129 : decode cX12_name 129 = .ok (.lconst 1, 1) := by decide +kernel
theorem dX12_name_130 : decode cX12_name 130 = .ok (.ladd, 1) := by decide +kernel
theorem dX12_name_131 : decode cX12_name 131 = .ok (.lstore_n 1, 1) := by decide +kernel
theorem dX12_name_132 : decode cX12_name 132 = .ok (.aload_n 0, 1) := by decide +kernel
theorem dX12_name_133 : decode cX12_name 133 = .ok (.dup, 1) := by decide +kernel
theorem dX12_name_134 : decode cX12_name 134 = .ok (.getfield 248, 3) := by decide +kernel
theorem dX12_name_137 : decode cX12_name 137 = .ok (.iconst 1, 1) := by decide +kernel
theorem dX12_name_138 : decode cX12_name 138 = .ok (.iadd, 1) := by decide +kernel
theorem dX12_name_139 : decode cX12_name 139 = .ok (.putfield 248, 3) := by decide +kernel
theorem dX12_name_142 : decode cX12_name 142 = .ok (.goto (-84), 3) := by decide +kernel
theorem dX12_name_145 : decode cX12_name 145 = .ok (.aload_n 0, 1) := by decide +kernel
theorem dX12_name_146 : decode cX12_name 146 = .ok (.aload_n 0, 1) := by decide +kernel
theorem dX12_name_147 : decode cX12_name 147 = .ok (.getfield 248, 3) := by decide +kernel
theorem dX12_name_150 : decode cX12_name 150 = .ok (.putfield 262, 3) := by decide +kernel
theorem dX12_name_153 : decode cX12_name 153 = .ok (.lload_n 1, 1) := by decide +kernel
theorem dX12_name_154 : decode cX12_name 154 = .ok (.lreturn, 1) := by decide +kernel
theorem dX12_isAllowed_0 : decode cX12_isAllowed 0 = .ok (.aload_n 0, 1) := by decide +kernel
theorem dX12_isAllowed_1 : decode cX12_isAllowed 1 = .ok (.getfield 297, 3) := by decide +kernel
theorem dX12_isAllowed_4 : decode cX12_isAllowed 4 = .ok (.ifCond .ne 16, 3) := by decide +kernel
theorem dX12_isAllowed_7 : decode cX12_isAllowed 7 = .ok (.iload_n 1, 1) := by decide +kernel
theorem dX12_isAllowed_8 : decode cX12_isAllowed 8 = .ok (.iconst 5, 1) := by decide +kernel
theorem dX12_isAllowed_9 : decode cX12_isAllowed 9 = .ok (.if_icmp .gt 7, 3) := by decide +kernel
theorem dX12_isAllowed_12 : decode cX12_isAllowed 12 = .ok (.iconst 1, 1) := by decide +kernel
theorem dX12_isAllowed_13 : decode cX12_isAllowed 13 = .ok (.goto 55, 3) := by decide +kernel
theorem dX12_isAllowed_16 : decode cX12_isAllowed 16 = .ok (.iconst 0, 1) := by decide +kernel
theorem dX12_isAllowed_17 : decode cX12_isAllowed 17 = .ok (.goto 51, 3) := by decide +kernel
theorem dX12_isAllowed_20 : decode cX12_isAllowed 20 = .ok (.aload_n 0, 1) := by decide +kernel
theorem dX12_isAllowed_21 : decode cX12_isAllowed 21 = .ok (.getfield 297, 3) := by decide +kernel
theorem dX12_isAllowed_24 : decode cX12_isAllowed 24 = .ok (.iconst 1, 1) := by decide +kernel
theorem dX12_isAllowed_25 : decode cX12_isAllowed 25 = .ok (.if_icmp .ne 28, 3) := by decide +kernel
theorem dX12_isAllowed_28 : decode cX12_isAllowed 28 = .ok (.iload_n 1, 1) := by decide +kernel
theorem dX12_isAllowed_29 : decode cX12_isAllowed 29 = .ok (.iconst 2, 1) := by decide +kernel
theorem dX12_isAllowed_30 : decode cX12_isAllowed 30 = .ok (.if_icmp .lt 15, 3) := by decide +kernel
theorem dX12_isAllowed_33 : decode cX12_isAllowed 33 = .ok (.iload_n 1, 1) := by decide +kernel
theorem dX12_isAllowed_34 : decode cX12_isAllowed 34 = .ok (.bipush 7, 2) := by decide +kernel
theorem dX12_isAllowed_36 : decode cX12_isAllowed 36 = .ok (.if_icmp .eq 9, 3) := by decide +kernel
theorem dX12_isAllowed_39 : decode cX12_isAllowed 39 = .ok (.iload_n 1, 1) := by decide +kernel
theorem dX12_isAllowed_40 : decode cX12_isAllowed 40 = .ok (.bipush 8, 2) := by decide +kernel
theorem dX12_isAllowed_42 : decode cX12_isAllowed 42 = .ok (.if_icmp .ne 7, 3) := by decide +kernel
theorem dX12_isAllowed_45 : decode cX12_isAllowed 45 = .ok (.iconst 1, 1) := by decide +kernel
theorem dX12_isAllowed_46 : decode cX12_isAllowed 46 = .ok (.goto 22, 3) := by decide +kernel
theorem dX12_isAllowed_49 : decode cX12_isAllowed 49 = .ok (.iconst 0, 1) := by decide +kernel
theorem dX12_isAllowed_50 : decode cX12_isAllowed 50 = .ok (.goto 18, 3) := by decide +kernel
theorem dX12_isAllowed_53 : decode cX12_isAllowed 53 = .ok (.iload_n 1, 1) := by decide +kernel
theorem dX12_isAllowed_54 : decode cX12_isAllowed 54 = .ok (.iconst 2, 1) := by decide +kernel
theorem dX12_isAllowed_55 : decode cX12_isAllowed 55 = .ok (.if_icmp .lt 8, 3) := by decide +kernel
theorem dX12_isAllowed_58 : decode cX12_isAllowed 58 = .ok (.iload_n 1, 1) := by decide +kernel
theorem dX12_isAllowed_59 : decode cX12_isAllowed 59 = .ok (.iconst 5, 1) := by decide +kernel
theorem dX12_isAllowed_60 : decode cX12_isAllowed 60 = .ok (.if_icmp .le 7, 3) := by decide +kernel
theorem dX12_isAllowed_63 : decode cX12_isAllowed 63 = .ok (.iconst 1, 1) := by decide +kernel
theorem dX12_isAllowed_64 : decode cX12_isAllowed 64 = .ok (.goto 4, 3) := by decide +kernel
theorem dX12_isAllowed_67 : decode cX12_isAllowed 67 = .ok (.iconst 0, 1) := by decide +kernel
theorem dX12_isAllowed_68 : decode cX12_isAllowed 68 = .ok (.ireturn, 1) := by decide +kernel
theorem dX12_isFull_0 : decode cX12_isFull 0 = .ok (.aload_n 0, 1) := by decide +kernel
theorem dX12_isFull_1 : decode cX12_isFull 1 = .ok (.getfield 242, 3) := by decide +kernel
theorem dX12_isFull_4 : decode cX12_isFull 4 = .ok (.ifCond .ne 19, 3) := by decide +kernel
theorem dX12_isFull_7 : decode cX12_isFull 7 = .ok (.aload_n 0, 1) := by decide +kernel
theorem dX12_isFull_8 : decode cX12_isFull 8 = .ok (.getfield 108, 3) := by decide +kernel
theorem dX12_isFull_11 : decode cX12_isFull 11 = .ok (.iload_n 1, 1) := by decide +kernel
theorem dX12_isFull_12 : decode cX12_isFull 12 = .ok (.iaload, 1) := by decide +kernel
theorem dX12_isFull_13 : decode cX12_isFull 13 = .ok (.iload_n 2, 1) := by decide +kernel
theorem dX12_isFull_14 : decode cX12_isFull 14 = .ok (.if_icmp .ne 9, 3) := by decide +kernel
theorem dX12_isFull_17 : decode cX12_isFull 17 = .ok (.aload_n 0, 1) := by decide +kernel
theorem dX12_isFull_18 : decode cX12_isFull 18 = .ok (.iconst 5, 1) := by decide +kernel
theorem dX12_isFull_19 : decode cX12_isFull 19 = .ok (.iload_n 3, 1) := by decide +kernel
theorem dX12_isFull_20 : decode cX12_isFull 20 = .ok (.invokevirtual 272, 3) := by decide +kernel
theorem dX12_isFull_23 : decode cX12_isFull 23 = .ok (.aload_n 0, 1) := by decide +kernel
theorem dX12_isFull_24 : decode cX12_isFull 24 = .ok (.getfield 242, 3) := by decide +kernel
theorem dX12_isFull_27 : decode cX12_isFull 27 = .ok (.ifCond .eq 7, 3) := by decide +kernel
theorem dX12_isFull_30 : decode cX12_isFull 30 = .ok (.iconst 1, 1) := by decide +kernel
theorem dX12_isFull_31 : decode cX12_isFull 31 = .ok (.goto 4, 3) := by decide +kernel
theorem dX12_isFull_34 : decode cX12_isFull 34 = .ok (.iconst 0, 1) := by decide +kernel
theorem dX12_isFull_35 : decode cX12_isFull 35 = .ok (.ireturn, 1) := by decide +kernel
theorem dX12_nameOf_0 : decode cX12_nameOf 0 = .ok (.iconst 0, 1) := by decide +kernel
theorem dX12_nameOf_1 : decode cX12_nameOf 1 = .ok (.istore 4, 2) := by decide +kernel
theorem dX12_nameOf_3 : decode cX12_nameOf 3 = .ok (.iload 4, 2) := by decide +kernel
theorem dX12_nameOf_5 : decode cX12_nameOf 5 = .ok (.aload_n 0, 1) := by decide +kernel
theorem dX12_nameOf_6 : decode cX12_nameOf 6 = .ok (.getfield 108, 3) := by decide +kernel
theorem dX12_nameOf_9 : decode cX12_nameOf 9 = .ok (.iload_n 1, 1) := by decide +kernel
theorem dX12_nameOf_10 : decode cX12_nameOf 10 = .ok (.iaload, 1) := by decide +kernel
theorem dX12_nameOf_11 : decode cX12_nameOf 11 = .ok (.if_icmp .ge 29, 3) := by decide +kernel
theorem dX12_nameOf_14 : decode cX12_nameOf 14 = .ok (.aload_n 0, 1) := by decide +kernel
theorem dX12_nameOf_15 : decode cX12_nameOf 15 = .ok (.getfield 111, 3) := by decide +kernel
theorem dX12_nameOf_18 : decode cX12_nameOf 18 = .ok (.bipush 8, 2) := by decide +kernel
theorem dX12_nameOf_20 : decode cX12_nameOf 20 = .ok (.iload_n 1, 1) := by decide +kernel
theorem dX12_nameOf_21 : decode cX12_nameOf 21 = .ok (.imul, 1) := by decide +kernel
theorem dX12_nameOf_22 : decode cX12_nameOf 22 = .ok (.iload 4, 2) := by decide +kernel
theorem dX12_nameOf_24 : decode cX12_nameOf 24 = .ok (.iadd, 1) := by decide +kernel
theorem dX12_nameOf_25 : decode cX12_nameOf 25 = .ok (.laload, 1) := by decide +kernel
theorem dX12_nameOf_26 : decode cX12_nameOf 26 = .ok (.lload_n 2, 1) := by decide +kernel
theorem dX12_nameOf_27 : decode cX12_nameOf 27 = .ok (.lcmp, 1) := by decide +kernel
theorem dX12_nameOf_28 : decode cX12_nameOf 28 = .ok (.ifCond .ne 6, 3) := by decide +kernel
theorem dX12_nameOf_31 : decode cX12_nameOf 31 = .ok (.iload 4, 2) := by decide +kernel
theorem dX12_nameOf_33 : decode cX12_nameOf 33 = .ok (.ireturn, 1) := by decide +kernel
theorem dX12_nameOf_34 : decode cX12_nameOf 34 = .ok (.iinc 4 1, 3) := by decide +kernel
theorem dX12_nameOf_37 : decode cX12_nameOf 37 = .ok (.goto (-34), 3) := by decide +kernel
theorem dX12_nameOf_40 : decode cX12_nameOf 40 = .ok (.iconst (-1), 1) := by decide +kernel
theorem dX12_nameOf_41 : decode cX12_nameOf 41 = .ok (.ireturn, 1) := by decide +kernel
theorem dX12_newName_0 : decode cX12_newName 0 = .ok (.aload_n 0, 1) := by decide +kernel
theorem dX12_newName_1 : decode cX12_newName 1 = .ok (.invokevirtual 300, 3) := by decide +kernel
theorem dX12_newName_4 : decode cX12_newName 4 = .ok (.lstore_n 1, 1) := by decide +kernel
theorem dX12_newName_5 : decode cX12_newName 5 = .ok (.iconst 0, 1) := by decide +kernel
theorem dX12_newName_6 : decode cX12_newName 6 = .ok (.istore_n 3, 1) := by decide +kernel
theorem dX12_newName_7 : decode cX12_newName 7 = .ok (.iload_n 3, 1) := by decide +kernel
theorem dX12_newName_8 : decode cX12_newName 8 = .ok (.iconst 4, 1) := by decide +kernel
theorem dX12_newName_9 : decode cX12_newName 9 = .ok (.if_icmp .ge 35, 3) := by decide +kernel
theorem dX12_newName_12 : decode cX12_newName 12 = .ok (.aload_n 0, 1) := by decide +kernel
theorem dX12_newName_13 : decode cX12_newName 13 = .ok (.getfield 242, 3) := by decide +kernel
theorem dX12_newName_16 : decode cX12_newName 16 = .ok (.ifCond .ne 22, 3) := by decide +kernel
theorem dX12_newName_19 : decode cX12_newName 19 = .ok (.aload_n 0, 1) := by decide +kernel
theorem dX12_newName_20 : decode cX12_newName 20 = .ok (.iload_n 3, 1) := by decide +kernel
theorem dX12_newName_21 : decode cX12_newName 21 = .ok (.lload_n 1, 1) := by decide +kernel
theorem dX12_newName_22 : decode cX12_newName 22 = .ok (.invokevirtual 304, 3) := by decide +kernel
theorem dX12_newName_25 : decode cX12_newName 25 = .ok (.iconst (-1), 1) := by decide +kernel
theorem dX12_newName_26 : decode cX12_newName 26 = .ok (.if_icmp .eq 12, 3) := by decide +kernel
theorem dX12_newName_29 : decode cX12_newName 29 = .ok (.aload_n 0, 1) := by decide +kernel
theorem dX12_newName_30 : decode cX12_newName 30 = .ok (.iconst 3, 1) := by decide +kernel
theorem dX12_newName_31 : decode cX12_newName 31 = .ok (.aload_n 0, 1) := by decide +kernel
theorem dX12_newName_32 : decode cX12_newName 32 = .ok (.getfield 290, 3) := by decide +kernel
theorem dX12_newName_35 : decode cX12_newName 35 = .ok (.invokevirtual 272, 3) := by decide +kernel
theorem dX12_newName_38 : decode cX12_newName 38 = .ok (.iinc 3 1, 3) := by decide +kernel
theorem dX12_newName_41 : decode cX12_newName 41 = .ok (.goto (-34), 3) := by decide +kernel
theorem dX12_newName_44 : decode cX12_newName 44 = .ok (.lload_n 1, 1) := by decide +kernel
theorem dX12_newName_45 : decode cX12_newName 45 = .ok (.lreturn, 1) := by decide +kernel
theorem dX12_oneOf_0 : decode cX12_oneOf 0 = .ok (.aload_n 0, 1) := by decide +kernel
theorem dX12_oneOf_1 : decode cX12_oneOf 1 = .ok (.invokevirtual 300, 3) := by decide +kernel
theorem dX12_oneOf_4 : decode cX12_oneOf 4 = .ok (.lstore_n 2, 1) := by decide +kernel
theorem dX12_oneOf_5 : decode cX12_oneOf 5 = .ok (.aload_n 0, 1) := by decide +kernel
theorem dX12_oneOf_6 : decode cX12_oneOf 6 = .ok (.iload_n 1, 1) := by decide +kernel
theorem dX12_oneOf_7 : decode cX12_oneOf 7 = .ok (.lload_n 2, 1) := by decide +kernel
theorem dX12_oneOf_8 : decode cX12_oneOf 8 = .ok (.invokevirtual 304, 3) := by decide +kernel
theorem dX12_oneOf_11 : decode cX12_oneOf 11 = .ok (.istore 4, 2) := by decide +kernel
theorem dX12_oneOf_13 : decode cX12_oneOf 13 = .ok (.aload_n 0, 1) := by decide +kernel
theorem dX12_oneOf_14 : decode cX12_oneOf 14 = .ok (.getfield 242, 3) := by decide +kernel
theorem dX12_oneOf_17 : decode cX12_oneOf 17 = .ok (.ifCond .ne 18, 3) := by decide +kernel
theorem dX12_oneOf_20 : decode cX12_oneOf 20 = .ok (.iload 4, 2) := by decide +kernel
theorem dX12_oneOf_22 : decode cX12_oneOf 22 = .ok (.iconst (-1), 1) := by decide +kernel
theorem dX12_oneOf_23 : decode cX12_oneOf 23 = .ok (.if_icmp .ne 12, 3) := by decide +kernel
theorem dX12_oneOf_26 : decode cX12_oneOf 26 = .ok (.aload_n 0, 1) := by decide +kernel
theorem dX12_oneOf_27 : decode cX12_oneOf 27 = .ok (.iconst 3, 1) := by decide +kernel
theorem dX12_oneOf_28 : decode cX12_oneOf 28 = .ok (.aload_n 0, 1) := by decide +kernel
theorem dX12_oneOf_29 : decode cX12_oneOf 29 = .ok (.getfield 290, 3) := by decide +kernel
theorem dX12_oneOf_32 : decode cX12_oneOf 32 = .ok (.invokevirtual 272, 3) := by decide +kernel
theorem dX12_oneOf_35 : decode cX12_oneOf 35 = .ok (.aload_n 0, 1) := by decide +kernel
theorem dX12_oneOf_36 : decode cX12_oneOf 36 = .ok (.getfield 242, 3) := by decide +kernel
theorem dX12_oneOf_39 : decode cX12_oneOf 39 = .ok (.ifCond .ne 8, 3) := by decide +kernel
theorem dX12_oneOf_42 : decode cX12_oneOf 42 = .ok (.iload 4, 2) := by decide +kernel
theorem dX12_oneOf_44 : decode cX12_oneOf 44 = .ok (.goto 4, 3) := by decide +kernel
theorem dX12_oneOf_47 : decode cX12_oneOf 47 = .ok (.iconst 0, 1) := by decide +kernel
theorem dX12_oneOf_48 : decode cX12_oneOf 48 = .ok (.ireturn, 1) := by decide +kernel
theorem dX12_isNamed_0 : decode cX12_isNamed 0 = .ok (.aload_n 0, 1) := by decide +kernel
theorem dX12_isNamed_1 : decode cX12_isNamed 1 = .ok (.getfield 242, 3) := by decide +kernel
theorem dX12_isNamed_4 : decode cX12_isNamed 4 = .ok (.ifCond .eq 4, 3) := by decide +kernel
theorem dX12_isNamed_7 : decode cX12_isNamed 7 = .ok (.return_, 1) := by decide +kernel
theorem dX12_isNamed_8 : decode cX12_isNamed 8 = .ok (.aload_n 0, 1) := by decide +kernel
theorem dX12_isNamed_9 : decode cX12_isNamed 9 = .ok (.getfield 111, 3) := by decide +kernel
theorem dX12_isNamed_12 : decode cX12_isNamed 12 = .ok (.bipush 8, 2) := by decide +kernel
theorem dX12_isNamed_14 : decode cX12_isNamed 14 = .ok (.iload_n 1, 1) := by decide +kernel
theorem dX12_isNamed_15 : decode cX12_isNamed 15 = .ok (.imul, 1) := by decide +kernel
theorem dX12_isNamed_16 : decode cX12_isNamed 16 = .ok (.aload_n 0, 1) := by decide +kernel
theorem dX12_isNamed_17 : decode cX12_isNamed 17 = .ok (.getfield 108, 3) := by decide +kernel
theorem dX12_isNamed_20 : decode cX12_isNamed 20 = .ok (.iload_n 1, 1) := by decide +kernel
theorem dX12_isNamed_21 : decode cX12_isNamed 21 = .ok (.iaload, 1) := by decide +kernel
theorem dX12_isNamed_22 : decode cX12_isNamed 22 = .ok (.iadd, 1) := by decide +kernel
theorem dX12_isNamed_23 : decode cX12_isNamed 23 = .ok (.lload_n 2, 1) := by decide +kernel
theorem dX12_isNamed_24 : decode cX12_isNamed 24 = .ok (.lastore, 1) := by decide +kernel
theorem dX12_isNamed_25 : decode cX12_isNamed 25 = .ok (.aload_n 0, 1) := by decide +kernel
theorem dX12_isNamed_26 : decode cX12_isNamed 26 = .ok (.getfield 108, 3) := by decide +kernel
theorem dX12_isNamed_29 : decode cX12_isNamed 29 = .ok (.iload_n 1, 1) := by decide +kernel
theorem dX12_isNamed_30 : decode cX12_isNamed 30 = .ok (.dup2, 1) := by decide +kernel
theorem dX12_isNamed_31 : decode cX12_isNamed 31 = .ok (.iaload, 1) := by decide +kernel
theorem dX12_isNamed_32 : decode cX12_isNamed 32 = .ok (.iconst 1, 1) := by decide +kernel
theorem dX12_isNamed_33 : decode cX12_isNamed 33 = .ok (.iadd, 1) := by decide +kernel
theorem dX12_isNamed_34 : decode cX12_isNamed 34 = .ok (.iastore, 1) := by decide +kernel
theorem dX12_isNamed_35 : decode cX12_isNamed 35 = .ok (.return_, 1) := by decide +kernel
theorem dX12_moodTold_0 : decode cX12_moodTold 0 = .ok (.aload_n 0, 1) := by decide +kernel
theorem dX12_moodTold_1 : decode cX12_moodTold 1 = .ok (.getfield 242, 3) := by decide +kernel
theorem dX12_moodTold_4 : decode cX12_moodTold 4 = .ok (.ifCond .ne 18, 3) := by decide +kernel
theorem dX12_moodTold_7 : decode cX12_moodTold 7 = .ok (.aload_n 0, 1) := by decide +kernel
theorem dX12_moodTold_8 : decode cX12_moodTold 8 = .ok (.getfield 108, 3) := by decide +kernel
theorem dX12_moodTold_11 : decode cX12_moodTold 11 = .ok (.iconst 1, 1) := by decide +kernel
theorem dX12_moodTold_12 : decode cX12_moodTold 12 = .ok (.iaload, 1) := by decide +kernel
theorem dX12_moodTold_13 : decode cX12_moodTold 13 = .ok (.ifCond .le 9, 3) := by decide +kernel
theorem dX12_moodTold_16 : decode cX12_moodTold 16 = .ok (.aload_n 0, 1) := by decide +kernel
theorem dX12_moodTold_17 : decode cX12_moodTold 17 = .ok (.iconst 5, 1) := by decide +kernel
theorem dX12_moodTold_18 : decode cX12_moodTold 18 = .ok (.iload_n 1, 1) := by decide +kernel
theorem dX12_moodTold_19 : decode cX12_moodTold 19 = .ok (.invokevirtual 272, 3) := by decide +kernel
theorem dX12_moodTold_22 : decode cX12_moodTold 22 = .ok (.aload_n 0, 1) := by decide +kernel
theorem dX12_moodTold_23 : decode cX12_moodTold 23 = .ok (.iconst 0, 1) := by decide +kernel
theorem dX12_moodTold_24 : decode cX12_moodTold 24 = .ok (.iconst 4, 1) := by decide +kernel
theorem dX12_moodTold_25 : decode cX12_moodTold 25 = .ok (.iload_n 1, 1) := by decide +kernel
theorem dX12_moodTold_26 : decode cX12_moodTold 26 = .ok (.invokevirtual 308, 3) := by decide +kernel
theorem dX12_moodTold_29 : decode cX12_moodTold 29 = .ok (.ifCond .eq 4, 3) := by decide +kernel
theorem dX12_moodTold_32 : decode cX12_moodTold 32 = .ok (.return_, 1) := by decide +kernel
theorem dX12_moodTold_33 : decode cX12_moodTold 33 = .ok (.aload_n 0, 1) := by decide +kernel
theorem dX12_moodTold_34 : decode cX12_moodTold 34 = .ok (.iconst 0, 1) := by decide +kernel
theorem dX12_moodTold_35 : decode cX12_moodTold 35 = .ok (.aload_n 0, 1) := by decide +kernel
theorem dX12_moodTold_36 : decode cX12_moodTold 36 = .ok (.invokevirtual 312, 3) := by decide +kernel
theorem dX12_moodTold_39 : decode cX12_moodTold 39 = .ok (.invokevirtual 315, 3) := by decide +kernel
theorem dX12_moodTold_42 : decode cX12_moodTold 42 = .ok (.return_, 1) := by decide +kernel
theorem dX12_personTold_0 : decode cX12_personTold 0 = .ok (.aload_n 0, 1) := by decide +kernel
theorem dX12_personTold_1 : decode cX12_personTold 1 = .ok (.iconst 1, 1) := by decide +kernel
theorem dX12_personTold_2 : decode cX12_personTold 2 = .ok (.bipush 8, 2) := by decide +kernel
theorem dX12_personTold_4 : decode cX12_personTold 4 = .ok (.iload_n 1, 1) := by decide +kernel
theorem dX12_personTold_5 : decode cX12_personTold 5 = .ok (.invokevirtual 308, 3) := by decide +kernel
theorem dX12_personTold_8 : decode cX12_personTold 8 = .ok (.ifCond .eq 4, 3) := by decide +kernel
theorem dX12_personTold_11 : decode cX12_personTold 11 = .ok (.return_, 1) := by decide +kernel
theorem dX12_personTold_12 : decode cX12_personTold 12 = .ok (.aload_n 0, 1) := by decide +kernel
theorem dX12_personTold_13 : decode cX12_personTold 13 = .ok (.invokevirtual 312, 3) := by decide +kernel
theorem dX12_personTold_16 : decode cX12_personTold 16 = .ok (.lstore_n 2, 1) := by decide +kernel
theorem dX12_personTold_17 : decode cX12_personTold 17 = .ok (.aload_n 0, 1) := by decide +kernel
theorem dX12_personTold_18 : decode cX12_personTold 18 = .ok (.aload_n 0, 1) := by decide +kernel
theorem dX12_personTold_19 : decode cX12_personTold 19 = .ok (.getfield 27, 3) := by decide +kernel
theorem dX12_personTold_22 : decode cX12_personTold 22 = .ok (.invokevirtual 319, 3) := by decide +kernel
theorem dX12_personTold_25 : decode cX12_personTold 25 = .ok (.iconst 0, 1) := by decide +kernel
theorem dX12_personTold_26 : decode cX12_personTold 26 = .ok (.istore 4, 2) := by decide +kernel
theorem dX12_personTold_28 : decode cX12_personTold 28 = .ok (.iload 4, 2) := by decide +kernel
theorem dX12_personTold_30 : decode cX12_personTold 30 = .ok (.aload_n 0, 1) := by decide +kernel
theorem dX12_personTold_31 : decode cX12_personTold 31 = .ok (.getfield 108, 3) := by decide +kernel
theorem dX12_personTold_34 : decode cX12_personTold 34 = .ok (.iconst 0, 1) := by decide +kernel
theorem dX12_personTold_35 : decode cX12_personTold 35 = .ok (.iaload, 1) := by decide +kernel
theorem dX12_personTold_36 : decode cX12_personTold 36 = .ok (.if_icmp .ge 32, 3) := by decide +kernel
theorem dX12_personTold_39 : decode cX12_personTold 39 = .ok (.aload_n 0, 1) := by decide +kernel
theorem dX12_personTold_40 : decode cX12_personTold 40 = .ok (.getfield 115, 3) := by decide +kernel
theorem dX12_personTold_43 : decode cX12_personTold 43 = .ok (.iconst 4, 1) := by decide +kernel
theorem dX12_personTold_44 : decode cX12_personTold 44 = .ok (.aload_n 0, 1) := by decide +kernel
theorem dX12_personTold_45 : decode cX12_personTold 45 = .ok (.getfield 108, 3) := by decide +kernel
theorem dX12_personTold_48 : decode cX12_personTold 48 = .ok (.iconst 1, 1) := by decide +kernel
theorem dX12_personTold_49 : decode cX12_personTold 49 = .ok (.iaload, 1) := by decide +kernel
theorem dX12_personTold_50 : decode cX12_personTold 50 = .ok (.imul, 1) := by decide +kernel
theorem dX12_personTold_51 : decode cX12_personTold 51 = .ok (.iload 4, 2) := by decide +kernel
theorem dX12_personTold_53 : decode cX12_personTold 53 = .ok (.iadd, 1) := by decide +kernel
theorem dX12_personTold_54 : decode cX12_personTold 54 = .ok (.aload_n 0, 1) := by decide +kernel
theorem dX12_personTold_55 : decode cX12_personTold 55 = .ok (.iconst 0, 1) := by decide +kernel
theorem dX12_personTold_56 : decode cX12_personTold 56 = .ok (.bipush 99, 2) := by decide +kernel
theorem dX12_personTold_58 : decode cX12_personTold 58 = .ok (.invokevirtual 323, 3) := by decide +kernel
theorem dX12_personTold_61 : decode cX12_personTold 61 = .ok (.iastore, 1) := by decide +kernel
theorem dX12_personTold_62 : decode cX12_personTold 62 = .ok (.iinc 4 1, 3) := by decide +kernel
theorem dX12_personTold_65 : decode cX12_personTold 65 = .ok (.goto (-37), 3) := by decide +kernel
theorem dX12_personTold_68 : decode cX12_personTold 68 = .ok (.aload_n 0, 1) := by decide +kernel
theorem dX12_personTold_69 : decode cX12_personTold 69 = .ok (.iconst 1, 1) := by decide +kernel
theorem dX12_personTold_70 : decode cX12_personTold 70 = .ok (.lload_n 2, 1) := by decide +kernel
theorem dX12_personTold_71 : decode cX12_personTold 71 = .ok (.invokevirtual 315, 3) := by decide +kernel
theorem dX12_personTold_74 : decode cX12_personTold 74 = .ok (.return_, 1) := by decide +kernel
theorem dX12_kneaderTold_0 : decode cX12_kneaderTold 0 = .ok (.aload_n 0, 1) := by decide +kernel
theorem dX12_kneaderTold_1 : decode cX12_kneaderTold 1 = .ok (.invokevirtual 254, 3) := by decide +kernel
theorem dX12_kneaderTold_4 : decode cX12_kneaderTold 4 = .ok (.invokestatic 258, 3) := by decide +kernel
theorem dX12_kneaderTold_7 : decode cX12_kneaderTold 7 = .ok (.ifCond .eq 28, 3) := by decide +kernel
theorem dX12_kneaderTold_10 : decode cX12_kneaderTold 10 = .ok (.aload_n 0, 1) := by decide +kernel
theorem dX12_kneaderTold_11 : decode cX12_kneaderTold 11 = .ok (.getfield 118, 3) := by decide +kernel
theorem dX12_kneaderTold_14 : decode cX12_kneaderTold 14 = .ok (.iload_n 1, 1) := by decide +kernel
theorem dX12_kneaderTold_15 : decode cX12_kneaderTold 15 = .ok (.iconst 1, 1) := by decide +kernel
theorem dX12_kneaderTold_16 : decode cX12_kneaderTold 16 = .ok (.iadd, 1) := by decide +kernel
theorem dX12_kneaderTold_17 : decode cX12_kneaderTold 17 = .ok (.iaload, 1) := by decide +kernel
theorem dX12_kneaderTold_18 : decode cX12_kneaderTold 18 = .ok (.invokestatic 327, 3) := by decide +kernel
theorem dX12_kneaderTold_21 : decode cX12_kneaderTold 21 = .ok (.iconst 3, 1) := by decide +kernel
theorem dX12_kneaderTold_22 : decode cX12_kneaderTold 22 = .ok (.if_icmp .ne 13, 3) := by decide +kernel
theorem dX12_kneaderTold_25 : decode cX12_kneaderTold 25 = .ok (.aload_n 0, 1) := by decide +kernel
theorem dX12_kneaderTold_26 : decode cX12_kneaderTold 26 = .ok (.iconst 5, 1) := by decide +kernel
theorem dX12_kneaderTold_27 : decode cX12_kneaderTold 27 = .ok (.aload_n 0, 1) := by decide +kernel
theorem dX12_kneaderTold_28 : decode cX12_kneaderTold 28 = .ok (.getfield 248, 3) := by decide +kernel
theorem dX12_kneaderTold_31 : decode cX12_kneaderTold 31 = .ok (.invokevirtual 272, 3) := by decide +kernel
theorem dX12_kneaderTold_34 : decode cX12_kneaderTold 34 = .ok (.return_, 1) := by decide +kernel
theorem dX12_kneaderTold_35 : decode cX12_kneaderTold 35 = .ok (.aload_n 0, 1) := by decide +kernel
theorem dX12_kneaderTold_36 : decode cX12_kneaderTold 36 = .ok (.iconst 1, 1) := by decide +kernel
theorem dX12_kneaderTold_37 : decode cX12_kneaderTold 37 = .ok (.invokevirtual 331, 3) := by decide +kernel
theorem dX12_kneaderTold_40 : decode cX12_kneaderTold 40 = .ok (.istore_n 2, 1) := by decide +kernel
theorem dX12_kneaderTold_41 : decode cX12_kneaderTold 41 = .ok (.aload_n 0, 1) := by decide +kernel
theorem dX12_kneaderTold_42 : decode cX12_kneaderTold 42 = .ok (.getfield 242, 3) := by decide +kernel
theorem dX12_kneaderTold_45 : decode cX12_kneaderTold 45 = .ok (.ifCond .ne 28, 3) := by decide +kernel
theorem dX12_kneaderTold_48 : decode cX12_kneaderTold 48 = .ok (.aload_n 0, 1) := by decide +kernel
theorem dX12_kneaderTold_49 : decode cX12_kneaderTold 49 = .ok (.getfield 118, 3) := by decide +kernel
theorem dX12_kneaderTold_52 : decode cX12_kneaderTold 52 = .ok (.iload_n 1, 1) := by decide +kernel
theorem dX12_kneaderTold_53 : decode cX12_kneaderTold 53 = .ok (.iconst 1, 1) := by decide +kernel
theorem dX12_kneaderTold_54 : decode cX12_kneaderTold 54 = .ok (.iadd, 1) := by decide +kernel
theorem dX12_kneaderTold_55 : decode cX12_kneaderTold 55 = .ok (.iaload, 1) := by decide +kernel
theorem dX12_kneaderTold_56 : decode cX12_kneaderTold 56 = .ok (.iload_n 2, 1) := by decide +kernel
theorem dX12_kneaderTold_57 : decode cX12_kneaderTold 57 = .ok (.ishr, 1) := by decide +kernel
theorem dX12_kneaderTold_58 : decode cX12_kneaderTold 58 = .ok (.iconst 1, 1) := by decide +kernel
theorem dX12_kneaderTold_59 : decode cX12_kneaderTold 59 = .ok (.iand, 1) := by decide +kernel
theorem dX12_kneaderTold_60 : decode cX12_kneaderTold 60 = .ok (.iconst 1, 1) := by decide +kernel
theorem dX12_kneaderTold_61 : decode cX12_kneaderTold 61 = .ok (.if_icmp .ne 12, 3) := by decide +kernel
theorem dX12_kneaderTold_64 : decode cX12_kneaderTold 64 = .ok (.aload_n 0, 1) := by decide +kernel
theorem dX12_kneaderTold_65 : decode cX12_kneaderTold 65 = .ok (.iconst 3, 1) := by decide +kernel
theorem dX12_kneaderTold_66 : decode cX12_kneaderTold 66 = .ok (.aload_n 0, 1) := by decide +kernel
theorem dX12_kneaderTold_67 : decode cX12_kneaderTold 67 = .ok (.getfield 290, 3) := by decide +kernel
theorem dX12_kneaderTold_70 : decode cX12_kneaderTold 70 = .ok (.invokevirtual 272, 3) := by decide +kernel
theorem dX12_kneaderTold_73 : decode cX12_kneaderTold 73 = .ok (.aload_n 0, 1) := by decide +kernel
theorem dX12_kneaderTold_74 : decode cX12_kneaderTold 74 = .ok (.getfield 242, 3) := by decide +kernel
theorem dX12_kneaderTold_77 : decode cX12_kneaderTold 77 = .ok (.ifCond .ne 17, 3) := by decide +kernel
theorem dX12_kneaderTold_80 : decode cX12_kneaderTold 80 = .ok (.aload_n 0, 1) := by decide +kernel
theorem dX12_kneaderTold_81 : decode cX12_kneaderTold 81 = .ok (.getfield 118, 3) := by decide +kernel
theorem dX12_kneaderTold_84 : decode cX12_kneaderTold 84 = .ok (.iload_n 1, 1) := by decide +kernel
theorem dX12_kneaderTold_85 : decode cX12_kneaderTold 85 = .ok (.iconst 1, 1) := by decide +kernel
theorem dX12_kneaderTold_86 : decode cX12_kneaderTold 86 = .ok (.iadd, 1) := by decide +kernel
theorem dX12_kneaderTold_87 : decode cX12_kneaderTold 87 = .ok (.dup2, 1) := by decide +kernel
theorem dX12_kneaderTold_88 : decode cX12_kneaderTold 88 = .ok (.iaload, 1) := by decide +kernel
theorem dX12_kneaderTold_89 : decode cX12_kneaderTold 89 = .ok (.iconst 1, 1) := by decide +kernel
theorem dX12_kneaderTold_90 : decode cX12_kneaderTold 90 = .ok (.iload_n 2, 1) := by decide +kernel
theorem dX12_kneaderTold_91 : decode cX12_kneaderTold 91 = .ok (.ishl, 1) := by decide +kernel
theorem dX12_kneaderTold_92 : decode cX12_kneaderTold 92 = .ok (.ior, 1) := by decide +kernel
theorem dX12_kneaderTold_93 : decode cX12_kneaderTold 93 = .ok (.iastore, 1) := by decide +kernel
theorem dX12_kneaderTold_94 : decode cX12_kneaderTold 94 = .ok (.return_, 1) := by decide +kernel
theorem dX12_loafTold_0 : decode cX12_loafTold 0 = .ok (.aload_n 0, 1) := by decide +kernel
theorem dX12_loafTold_1 : decode cX12_loafTold 1 = .ok (.iconst 2, 1) := by decide +kernel
theorem dX12_loafTold_2 : decode cX12_loafTold 2 = .ok (.bipush 6, 2) := by decide +kernel
theorem dX12_loafTold_4 : decode cX12_loafTold 4 = .ok (.iload_n 1, 1) := by decide +kernel
theorem dX12_loafTold_5 : decode cX12_loafTold 5 = .ok (.invokevirtual 308, 3) := by decide +kernel
theorem dX12_loafTold_8 : decode cX12_loafTold 8 = .ok (.ifCond .eq 4, 3) := by decide +kernel
theorem dX12_loafTold_11 : decode cX12_loafTold 11 = .ok (.return_, 1) := by decide +kernel
theorem dX12_loafTold_12 : decode cX12_loafTold 12 = .ok (.iconst 2, 1) := by decide +kernel
theorem dX12_loafTold_13 : decode cX12_loafTold 13 = .ok (.aload_n 0, 1) := by decide +kernel
theorem dX12_loafTold_14 : decode cX12_loafTold 14 = .ok (.getfield 108, 3) := by decide +kernel
theorem dX12_loafTold_17 : decode cX12_loafTold 17 = .ok (.iconst 2, 1) := by decide +kernel
theorem dX12_loafTold_18 : decode cX12_loafTold 18 = .ok (.iaload, 1) := by decide +kernel
theorem dX12_loafTold_19 : decode cX12_loafTold 19 = .ok (.imul, 1) := by decide +kernel
theorem dX12_loafTold_20 : decode cX12_loafTold 20 = .ok (.istore_n 2, 1) := by decide +kernel
theorem dX12_loafTold_21 : decode cX12_loafTold 21 = .ok (.aload_n 0, 1) := by decide +kernel
theorem dX12_loafTold_22 : decode cX12_loafTold 22 = .ok (.invokevirtual 312, 3) := by decide +kernel
theorem dX12_loafTold_25 : decode cX12_loafTold 25 = .ok (.lstore_n 3, 1) := by decide +kernel
theorem dX12_loafTold_26 : decode cX12_loafTold 26 = .ok (.aload_n 0, 1) := by decide +kernel
theorem dX12_loafTold_27 : decode cX12_loafTold 27 = .ok (.aload_n 0, 1) := by decide +kernel
theorem dX12_loafTold_28 : decode cX12_loafTold 28 = .ok (.getfield 33, 3) := by decide +kernel
theorem dX12_loafTold_31 : decode cX12_loafTold 31 = .ok (.invokevirtual 319, 3) := by decide +kernel
theorem dX12_loafTold_34 : decode cX12_loafTold 34 = .ok (.aload_n 0, 1) := by decide +kernel
theorem dX12_loafTold_35 : decode cX12_loafTold 35 = .ok (.getfield 118, 3) := by decide +kernel
theorem dX12_loafTold_38 : decode cX12_loafTold 38 = .ok (.iload_n 2, 1) := by decide +kernel
theorem dX12_loafTold_39 : decode cX12_loafTold 39 = .ok (.aload_n 0, 1) := by decide +kernel
theorem dX12_loafTold_40 : decode cX12_loafTold 40 = .ok (.iconst 0, 1) := by decide +kernel
theorem dX12_loafTold_41 : decode cX12_loafTold 41 = .ok (.bipush 100, 2) := by decide +kernel
theorem dX12_loafTold_43 : decode cX12_loafTold 43 = .ok (.invokevirtual 323, 3) := by decide +kernel
theorem dX12_loafTold_46 : decode cX12_loafTold 46 = .ok (.iastore, 1) := by decide +kernel
theorem dX12_loafTold_47 : decode cX12_loafTold 47 = .ok (.aload_n 0, 1) := by decide +kernel
theorem dX12_loafTold_48 : decode cX12_loafTold 48 = .ok (.aload_n 0, 1) := by decide +kernel
theorem dX12_loafTold_49 : decode cX12_loafTold 49 = .ok (.getfield 36, 3) := by decide +kernel
theorem dX12_loafTold_52 : decode cX12_loafTold 52 = .ok (.invokevirtual 319, 3) := by decide +kernel
theorem dX12_loafTold_55 : decode cX12_loafTold 55 = .ok (.aload_n 0, 1) := by decide +kernel
theorem dX12_loafTold_56 : decode cX12_loafTold 56 = .ok (.getfield 118, 3) := by decide +kernel
theorem dX12_loafTold_59 : decode cX12_loafTold 59 = .ok (.iload_n 2, 1) := by decide +kernel
theorem dX12_loafTold_60 : decode cX12_loafTold 60 = .ok (.iconst 1, 1) := by decide +kernel
theorem dX12_loafTold_61 : decode cX12_loafTold 61 = .ok (.iadd, 1) := by decide +kernel
theorem dX12_loafTold_62 : decode cX12_loafTold 62 = .ok (.iconst 0, 1) := by decide +kernel
theorem dX12_loafTold_63 : decode cX12_loafTold 63 = .ok (.iastore, 1) := by decide +kernel
theorem dX12_loafTold_64 : decode cX12_loafTold 64 = .ok (.aload_n 0, 1) := by decide +kernel
theorem dX12_loafTold_65 : decode cX12_loafTold 65 = .ok (.getfield 242, 3) := by decide +kernel
theorem dX12_loafTold_68 : decode cX12_loafTold 68 = .ok (.ifCond .ne 25, 3) := by decide +kernel
theorem dX12_loafTold_71 : decode cX12_loafTold 71 = .ok (.aload_n 0, 1) := by decide +kernel
theorem dX12_loafTold_72 : decode cX12_loafTold 72 = .ok (.iload_n 2, 1) := by decide +kernel
theorem dX12_loafTold_73 : decode cX12_loafTold 73 = .ok (.invokevirtual 334, 3) := by decide +kernel
theorem dX12_loafTold_76 : decode cX12_loafTold 76 = .ok (.aload_n 0, 1) := by decide +kernel
theorem dX12_loafTold_77 : decode cX12_loafTold 77 = .ok (.getfield 242, 3) := by decide +kernel
theorem dX12_loafTold_80 : decode cX12_loafTold 80 = .ok (.ifCond .ne 13, 3) := by decide +kernel
theorem dX12_loafTold_83 : decode cX12_loafTold 83 = .ok (.aload_n 0, 1) := by decide +kernel
theorem dX12_loafTold_84 : decode cX12_loafTold 84 = .ok (.invokevirtual 254, 3) := by decide +kernel
theorem dX12_loafTold_87 : decode cX12_loafTold 87 = .ok (.invokestatic 258, 3) := by decide +kernel
theorem dX12_loafTold_90 : decode cX12_loafTold 90 = .ok (.ifCond .ne (-19), 3) := by decide +kernel
theorem dX12_loafTold_93 : decode cX12_loafTold 93 = .ok (.aload_n 0, 1) := by decide +kernel
theorem dX12_loafTold_94 : decode cX12_loafTold 94 = .ok (.iconst 2, 1) := by decide +kernel
theorem dX12_loafTold_95 : decode cX12_loafTold 95 = .ok (.lload_n 3, 1) := by decide +kernel
theorem dX12_loafTold_96 : decode cX12_loafTold 96 = .ok (.invokevirtual 315, 3) := by decide +kernel
theorem dX12_loafTold_99 : decode cX12_loafTold 99 = .ok (.return_, 1) := by decide +kernel
theorem dX12_mealTold_0 : decode cX12_mealTold 0 = .ok (.aload_n 0, 1) := by decide +kernel
theorem dX12_mealTold_1 : decode cX12_mealTold 1 = .ok (.iconst 4, 1) := by decide +kernel
theorem dX12_mealTold_2 : decode cX12_mealTold 2 = .ok (.bipush 16, 2) := by decide +kernel
theorem dX12_mealTold_4 : decode cX12_mealTold 4 = .ok (.iload_n 1, 1) := by decide +kernel
theorem dX12_mealTold_5 : decode cX12_mealTold 5 = .ok (.invokevirtual 308, 3) := by decide +kernel
theorem dX12_mealTold_8 : decode cX12_mealTold 8 = .ok (.ifCond .eq 4, 3) := by decide +kernel
theorem dX12_mealTold_11 : decode cX12_mealTold 11 = .ok (.return_, 1) := by decide +kernel
theorem dX12_mealTold_12 : decode cX12_mealTold 12 = .ok (.aload_n 0, 1) := by decide +kernel
theorem dX12_mealTold_13 : decode cX12_mealTold 13 = .ok (.iconst 1, 1) := by decide +kernel
theorem dX12_mealTold_14 : decode cX12_mealTold 14 = .ok (.invokevirtual 331, 3) := by decide +kernel
theorem dX12_mealTold_17 : decode cX12_mealTold 17 = .ok (.istore_n 2, 1) := by decide +kernel
theorem dX12_mealTold_18 : decode cX12_mealTold 18 = .ok (.aload_n 0, 1) := by decide +kernel
theorem dX12_mealTold_19 : decode cX12_mealTold 19 = .ok (.iconst 2, 1) := by decide +kernel
theorem dX12_mealTold_20 : decode cX12_mealTold 20 = .ok (.invokevirtual 331, 3) := by decide +kernel
theorem dX12_mealTold_23 : decode cX12_mealTold 23 = .ok (.istore_n 3, 1) := by decide +kernel
theorem dX12_mealTold_24 : decode cX12_mealTold 24 = .ok (.aload_n 0, 1) := by decide +kernel
theorem dX12_mealTold_25 : decode cX12_mealTold 25 = .ok (.aload_n 0, 1) := by decide +kernel
theorem dX12_mealTold_26 : decode cX12_mealTold 26 = .ok (.getfield 42, 3) := by decide +kernel
theorem dX12_mealTold_29 : decode cX12_mealTold 29 = .ok (.invokevirtual 319, 3) := by decide +kernel
theorem dX12_mealTold_32 : decode cX12_mealTold 32 = .ok (.aload_n 0, 1) := by decide +kernel
theorem dX12_mealTold_33 : decode cX12_mealTold 33 = .ok (.iconst 0, 1) := by decide +kernel
theorem dX12_mealTold_34 : decode cX12_mealTold 34 = .ok (.bipush 23, 2) := by decide +kernel
theorem dX12_mealTold_36 : decode cX12_mealTold 36 = .ok (.invokevirtual 323, 3) := by decide +kernel
theorem dX12_mealTold_39 : decode cX12_mealTold 39 = .ok (.istore 4, 2) := by decide +kernel
theorem dX12_mealTold_41 : decode cX12_mealTold 41 = .ok (.aload_n 0, 1) := by decide +kernel
theorem dX12_mealTold_42 : decode cX12_mealTold 42 = .ok (.getfield 242, 3) := by decide +kernel
theorem dX12_mealTold_45 : decode cX12_mealTold 45 = .ok (.ifCond .eq 4, 3) := by decide +kernel
theorem dX12_mealTold_48 : decode cX12_mealTold 48 = .ok (.return_, 1) := by decide +kernel
theorem dX12_mealTold_49 : decode cX12_mealTold 49 = .ok (.iconst 3, 1) := by decide +kernel
theorem dX12_mealTold_50 : decode cX12_mealTold 50 = .ok (.aload_n 0, 1) := by decide +kernel
theorem dX12_mealTold_51 : decode cX12_mealTold 51 = .ok (.getfield 108, 3) := by decide +kernel
theorem dX12_mealTold_54 : decode cX12_mealTold 54 = .ok (.iconst 4, 1) := by decide +kernel
theorem dX12_mealTold_55 : decode cX12_mealTold 55 = .ok (.iaload, 1) := by decide +kernel
theorem dX12_mealTold_56 : decode cX12_mealTold 56 = .ok (.imul, 1) := by decide +kernel
theorem dX12_mealTold_57 : decode cX12_mealTold 57 = .ok (.istore 5, 2) := by decide +kernel
theorem dX12_mealTold_59 : decode cX12_mealTold 59 = .ok (.aload_n 0, 1) := by decide +kernel
theorem dX12_mealTold_60 : decode cX12_mealTold 60 = .ok (.getfield 121, 3) := by decide +kernel
theorem dX12_mealTold_63 : decode cX12_mealTold 63 = .ok (.iload 5, 2) := by decide +kernel
theorem dX12_mealTold_65 : decode cX12_mealTold 65 = .ok (.iload_n 2, 1) := by decide +kernel
theorem dX12_mealTold_66 : decode cX12_mealTold 66 = .ok (.iastore, 1) := by decide +kernel
theorem dX12_mealTold_67 : decode cX12_mealTold 67 = .ok (.aload_n 0, 1) := by decide +kernel
theorem dX12_mealTold_68 : decode cX12_mealTold 68 = .ok (.getfield 121, 3) := by decide +kernel
theorem dX12_mealTold_71 : decode cX12_mealTold 71 = .ok (.iload 5, 2) := by decide +kernel
theorem dX12_mealTold_73 : decode cX12_mealTold 73 = .ok (.iconst 1, 1) := by decide +kernel
theorem dX12_mealTold_74 : decode cX12_mealTold 74 = .ok (.iadd, 1) := by decide +kernel
theorem dX12_mealTold_75 : decode cX12_mealTold 75 = .ok (.iload_n 3, 1) := by decide +kernel
theorem dX12_mealTold_76 : decode cX12_mealTold 76 = .ok (.iastore, 1) := by decide +kernel
theorem dX12_mealTold_77 : decode cX12_mealTold 77 = .ok (.aload_n 0, 1) := by decide +kernel
theorem dX12_mealTold_78 : decode cX12_mealTold 78 = .ok (.getfield 121, 3) := by decide +kernel
theorem dX12_mealTold_81 : decode cX12_mealTold 81 = .ok (.iload 5, 2) := by decide +kernel
theorem dX12_mealTold_83 : decode cX12_mealTold 83 = .ok (.iconst 2, 1) := by decide +kernel
theorem dX12_mealTold_84 : decode cX12_mealTold 84 = .ok (.iadd, 1) := by decide +kernel
theorem dX12_mealTold_85 : decode cX12_mealTold 85 = .ok (.iload 4, 2) := by decide +kernel
theorem dX12_mealTold_87 : decode cX12_mealTold 87 = .ok (.iastore, 1) := by decide +kernel
theorem dX12_mealTold_88 : decode cX12_mealTold 88 = .ok (.aload_n 0, 1) := by decide +kernel
theorem dX12_mealTold_89 : decode cX12_mealTold 89 = .ok (.getfield 108, 3) := by decide +kernel
theorem dX12_mealTold_92 : decode cX12_mealTold 92 = .ok (.iconst 4, 1) := by decide +kernel
theorem dX12_mealTold_93 : decode cX12_mealTold 93 = .ok (.dup2, 1) := by decide +kernel
theorem dX12_mealTold_94 : decode cX12_mealTold 94 = .ok (.iaload, 1) := by decide +kernel
theorem dX12_mealTold_95 : decode cX12_mealTold 95 = .ok (.iconst 1, 1) := by decide +kernel
theorem dX12_mealTold_96 : decode cX12_mealTold 96 = .ok (.iadd, 1) := by decide +kernel
theorem dX12_mealTold_97 : decode cX12_mealTold 97 = .ok (.iastore, 1) := by decide +kernel
theorem dX12_mealTold_98 : decode cX12_mealTold 98 = .ok (.return_, 1) := by decide +kernel
theorem dX12_keepsCodes_0 : decode cX12_keepsCodes 0 = .ok (.aload_n 0, 1) := by decide +kernel
theorem dX12_keepsCodes_1 : decode cX12_keepsCodes 1 = .ok (.getfield 242, 3) := by decide +kernel
theorem dX12_keepsCodes_4 : decode cX12_keepsCodes 4 = .ok (.ifCond .eq 4, 3) := by decide +kernel
theorem dX12_keepsCodes_7 : decode cX12_keepsCodes 7 = .ok (.return_, 1) := by decide +kernel
theorem dX12_keepsCodes_8 : decode cX12_keepsCodes 8 = .ok (.aload_n 0, 1) := by decide +kernel
theorem dX12_keepsCodes_9 : decode cX12_keepsCodes 9 = .ok (.getfield 127, 3) := by decide +kernel
theorem dX12_keepsCodes_12 : decode cX12_keepsCodes 12 = .ok (.iload_n 1, 1) := by decide +kernel
theorem dX12_keepsCodes_13 : decode cX12_keepsCodes 13 = .ok (.aload_n 0, 1) := by decide +kernel
theorem dX12_keepsCodes_14 : decode cX12_keepsCodes 14 = .ok (.getfield 338, 3) := by decide +kernel
theorem dX12_keepsCodes_17 : decode cX12_keepsCodes 17 = .ok (.iastore, 1) := by decide +kernel
theorem dX12_keepsCodes_18 : decode cX12_keepsCodes 18 = .ok (.iconst 0, 1) := by decide +kernel
theorem dX12_keepsCodes_19 : decode cX12_keepsCodes 19 = .ok (.istore_n 2, 1) := by decide +kernel
theorem dX12_keepsCodes_20 : decode cX12_keepsCodes 20 = .ok (.iload_n 2, 1) := by decide +kernel
theorem dX12_keepsCodes_21 : decode cX12_keepsCodes 21 = .ok (.aload_n 0, 1) := by decide +kernel
theorem dX12_keepsCodes_22 : decode cX12_keepsCodes 22 = .ok (.getfield 341, 3) := by decide +kernel
theorem dX12_keepsCodes_25 : decode cX12_keepsCodes 25 = .ok (.if_icmp .ge 34, 3) := by decide +kernel
theorem dX12_keepsCodes_28 : decode cX12_keepsCodes 28 = .ok (.aload_n 0, 1) := by decide +kernel
theorem dX12_keepsCodes_29 : decode cX12_keepsCodes 29 = .ok (.getfield 133, 3) := by decide +kernel
theorem dX12_keepsCodes_32 : decode cX12_keepsCodes 32 = .ok (.aload_n 0, 1) := by decide +kernel
theorem dX12_keepsCodes_33 : decode cX12_keepsCodes 33 = .ok (.getfield 338, 3) := by decide +kernel
theorem dX12_keepsCodes_36 : decode cX12_keepsCodes 36 = .ok (.aload_n 0, 1) := by decide +kernel
theorem dX12_keepsCodes_37 : decode cX12_keepsCodes 37 = .ok (.getfield 227, 3) := by decide +kernel
theorem dX12_keepsCodes_40 : decode cX12_keepsCodes 40 = .ok (.iload_n 2, 1) := by decide +kernel
theorem dX12_keepsCodes_41 : decode cX12_keepsCodes 41 = .ok (.iaload, 1) := by decide +kernel
theorem dX12_keepsCodes_42 : decode cX12_keepsCodes 42 = .ok (.iastore, 1) := by decide +kernel
theorem dX12_keepsCodes_43 : decode cX12_keepsCodes 43 = .ok (.aload_n 0, 1) := by decide +kernel
theorem dX12_keepsCodes_44 : decode cX12_keepsCodes 44 = .ok (.dup, 1) := by decide +kernel
theorem dX12_keepsCodes_45 : decode cX12_keepsCodes 45 = .ok (.getfield 338, 3) := by decide +kernel
theorem dX12_keepsCodes_48 : decode cX12_keepsCodes 48 = .ok (.iconst 1, 1) := by decide +kernel
theorem dX12_keepsCodes_49 : decode cX12_keepsCodes 49 = .ok (.iadd, 1) := by decide +kernel
theorem dX12_keepsCodes_50 : decode cX12_keepsCodes 50 = .ok (.putfield 338, 3) := by decide +kernel
theorem dX12_keepsCodes_53 : decode cX12_keepsCodes 53 = .ok (.iinc 2 1, 3) := by decide +kernel
theorem dX12_keepsCodes_56 : decode cX12_keepsCodes 56 = .ok (.goto (-36), 3) := by decide +kernel
theorem dX12_keepsCodes_59 : decode cX12_keepsCodes 59 = .ok (.aload_n 0, 1) := by decide +kernel
theorem dX12_keepsCodes_60 : decode cX12_keepsCodes 60 = .ok (.getfield 130, 3) := by decide +kernel
theorem dX12_keepsCodes_63 : decode cX12_keepsCodes 63 = .ok (.iload_n 1, 1) := by decide +kernel
theorem dX12_keepsCodes_64 : decode cX12_keepsCodes 64 = .ok (.aload_n 0, 1) := by decide +kernel
theorem dX12_keepsCodes_65 : decode cX12_keepsCodes 65 = .ok (.getfield 338, 3) := by decide +kernel
theorem dX12_keepsCodes_68 : decode cX12_keepsCodes 68 = .ok (.iastore, 1) := by decide +kernel
theorem dX12_keepsCodes_69 : decode cX12_keepsCodes 69 = .ok (.return_, 1) := by decide +kernel
theorem dX12_begins_0 : decode cX12_begins 0 = .ok (.aload_n 0, 1) := by decide +kernel
theorem dX12_begins_1 : decode cX12_begins 1 = .ok (.iload_n 1, 1) := by decide +kernel
theorem dX12_begins_2 : decode cX12_begins 2 = .ok (.putfield 297, 3) := by decide +kernel
theorem dX12_begins_5 : decode cX12_begins 5 = .ok (.aload_n 0, 1) := by decide +kernel
theorem dX12_begins_6 : decode cX12_begins 6 = .ok (.iconst 0, 1) := by decide +kernel
theorem dX12_begins_7 : decode cX12_begins 7 = .ok (.putfield 341, 3) := by decide +kernel
theorem dX12_begins_10 : decode cX12_begins 10 = .ok (.aload_n 0, 1) := by decide +kernel
theorem dX12_begins_11 : decode cX12_begins 11 = .ok (.iconst 0, 1) := by decide +kernel
theorem dX12_begins_12 : decode cX12_begins 12 = .ok (.putfield 344, 3) := by decide +kernel
theorem dX12_begins_15 : decode cX12_begins 15 = .ok (.aload_n 0, 1) := by decide +kernel
theorem dX12_begins_16 : decode cX12_begins 16 = .ok (.iconst 0, 1) := by decide +kernel
theorem dX12_begins_17 : decode cX12_begins 17 = .ok (.putfield 347, 3) := by decide +kernel
theorem dX12_begins_20 : decode cX12_begins 20 = .ok (.aload_n 0, 1) := by decide +kernel
theorem dX12_begins_21 : decode cX12_begins 21 = .ok (.iconst 0, 1) := by decide +kernel
theorem dX12_begins_22 : decode cX12_begins 22 = .ok (.putfield 350, 3) := by decide +kernel
theorem dX12_begins_25 : decode cX12_begins 25 = .ok (.return_, 1) := by decide +kernel
theorem dX12_sumIsTold_0 : decode cX12_sumIsTold 0 = .ok (.aload_n 0, 1) := by decide +kernel
theorem dX12_sumIsTold_1 : decode cX12_sumIsTold 1 = .ok (.getfield 242, 3) := by decide +kernel
theorem dX12_sumIsTold_4 : decode cX12_sumIsTold 4 = .ok (.ifCond .ne 19, 3) := by decide +kernel
theorem dX12_sumIsTold_7 : decode cX12_sumIsTold 7 = .ok (.aload_n 0, 1) := by decide +kernel
theorem dX12_sumIsTold_8 : decode cX12_sumIsTold 8 = .ok (.getfield 127, 3) := by decide +kernel
theorem dX12_sumIsTold_11 : decode cX12_sumIsTold 11 = .ok (.iload_n 1, 1) := by decide +kernel
theorem dX12_sumIsTold_12 : decode cX12_sumIsTold 12 = .ok (.iaload, 1) := by decide +kernel
theorem dX12_sumIsTold_13 : decode cX12_sumIsTold 13 = .ok (.iconst (-1), 1) := by decide +kernel
theorem dX12_sumIsTold_14 : decode cX12_sumIsTold 14 = .ok (.if_icmp .eq 9, 3) := by decide +kernel
theorem dX12_sumIsTold_17 : decode cX12_sumIsTold 17 = .ok (.aload_n 0, 1) := by decide +kernel
theorem dX12_sumIsTold_18 : decode cX12_sumIsTold 18 = .ok (.iconst 5, 1) := by decide +kernel
theorem dX12_sumIsTold_19 : decode cX12_sumIsTold 19 = .ok (.iload_n 2, 1) := by decide +kernel
theorem dX12_sumIsTold_20 : decode cX12_sumIsTold 20 = .ok (.invokevirtual 272, 3) := by decide +kernel
theorem dX12_sumIsTold_23 : decode cX12_sumIsTold 23 = .ok (.aload_n 0, 1) := by decide +kernel
theorem dX12_sumIsTold_24 : decode cX12_sumIsTold 24 = .ok (.getfield 242, 3) := by decide +kernel
theorem dX12_sumIsTold_27 : decode cX12_sumIsTold 27 = .ok (.ifCond .eq 4, 3) := by decide +kernel
theorem dX12_sumIsTold_30 : decode cX12_sumIsTold 30 = .ok (.return_, 1) := by decide +kernel
theorem dX12_sumIsTold_31 : decode cX12_sumIsTold 31 = .ok (.aload_n 0, 1) := by decide +kernel
theorem dX12_sumIsTold_32 : decode cX12_sumIsTold 32 = .ok (.iconst 0, 1) := by decide +kernel
theorem dX12_sumIsTold_33 : decode cX12_sumIsTold 33 = .ok (.invokevirtual 353, 3) := by decide +kernel
theorem dX12_sumIsTold_36 : decode cX12_sumIsTold 36 = .ok (.aload_n 0, 1) := by decide +kernel
theorem dX12_sumIsTold_37 : decode cX12_sumIsTold 37 = .ok (.invokevirtual 356, 3) := by decide +kernel
theorem dX12_sumIsTold_40 : decode cX12_sumIsTold 40 = .ok (.aload_n 0, 1) := by decide +kernel
theorem dX12_sumIsTold_41 : decode cX12_sumIsTold 41 = .ok (.iload_n 1, 1) := by decide +kernel
theorem dX12_sumIsTold_42 : decode cX12_sumIsTold 42 = .ok (.invokevirtual 359, 3) := by decide +kernel
theorem dX12_sumIsTold_45 : decode cX12_sumIsTold 45 = .ok (.return_, 1) := by decide +kernel
theorem dX12_deedTold_0 : decode cX12_deedTold 0 = .ok (.aload_n 0, 1) := by decide +kernel
theorem dX12_deedTold_1 : decode cX12_deedTold 1 = .ok (.iconst 3, 1) := by decide +kernel
theorem dX12_deedTold_2 : decode cX12_deedTold 2 = .ok (.bipush 6, 2) := by decide +kernel
theorem dX12_deedTold_4 : decode cX12_deedTold 4 = .ok (.iload_n 1, 1) := by decide +kernel
theorem dX12_deedTold_5 : decode cX12_deedTold 5 = .ok (.invokevirtual 308, 3) := by decide +kernel
theorem dX12_deedTold_8 : decode cX12_deedTold 8 = .ok (.ifCond .eq 4, 3) := by decide +kernel
theorem dX12_deedTold_11 : decode cX12_deedTold 11 = .ok (.return_, 1) := by decide +kernel
theorem dX12_deedTold_12 : decode cX12_deedTold 12 = .ok (.aload_n 0, 1) := by decide +kernel
theorem dX12_deedTold_13 : decode cX12_deedTold 13 = .ok (.invokevirtual 312, 3) := by decide +kernel
theorem dX12_deedTold_16 : decode cX12_deedTold 16 = .ok (.lstore_n 2, 1) := by decide +kernel
theorem dX12_deedTold_17 : decode cX12_deedTold 17 = .ok (.aload_n 0, 1) := by decide +kernel
theorem dX12_deedTold_18 : decode cX12_deedTold 18 = .ok (.aload_n 0, 1) := by decide +kernel
theorem dX12_deedTold_19 : decode cX12_deedTold 19 = .ok (.getfield 48, 3) := by decide +kernel
theorem dX12_deedTold_22 : decode cX12_deedTold 22 = .ok (.invokevirtual 319, 3) := by decide +kernel
theorem dX12_deedTold_25 : decode cX12_deedTold 25 = .ok (.aload_n 0, 1) := by decide +kernel
theorem dX12_deedTold_26 : decode cX12_deedTold 26 = .ok (.getfield 242, 3) := by decide +kernel
theorem dX12_deedTold_29 : decode cX12_deedTold 29 = .ok (.ifCond .eq 4, 3) := by decide +kernel
theorem dX12_deedTold_32 : decode cX12_deedTold 32 = .ok (.return_, 1) := by decide +kernel
theorem dX12_deedTold_33 : decode cX12_deedTold 33 = .ok (.aload_n 0, 1) := by decide +kernel
theorem dX12_deedTold_34 : decode cX12_deedTold 34 = .ok (.iconst 1, 1) := by decide +kernel
theorem dX12_deedTold_35 : decode cX12_deedTold 35 = .ok (.invokevirtual 353, 3) := by decide +kernel
theorem dX12_deedTold_38 : decode cX12_deedTold 38 = .ok (.aload_n 0, 1) := by decide +kernel
theorem dX12_deedTold_39 : decode cX12_deedTold 39 = .ok (.invokevirtual 362, 3) := by decide +kernel
theorem dX12_deedTold_42 : decode cX12_deedTold 42 = .ok (.aload_n 0, 1) := by decide +kernel
theorem dX12_deedTold_43 : decode cX12_deedTold 43 = .ok (.iconst 2, 1) := by decide +kernel
theorem dX12_deedTold_44 : decode cX12_deedTold 44 = .ok (.aload_n 0, 1) := by decide +kernel
theorem dX12_deedTold_45 : decode cX12_deedTold 45 = .ok (.getfield 108, 3) := by decide +kernel
theorem dX12_deedTold_48 : decode cX12_deedTold 48 = .ok (.iconst 3, 1) := by decide +kernel
theorem dX12_deedTold_49 : decode cX12_deedTold 49 = .ok (.iaload, 1) := by decide +kernel
theorem dX12_deedTold_50 : decode cX12_deedTold 50 = .ok (.iadd, 1) := by decide +kernel
theorem dX12_deedTold_51 : decode cX12_deedTold 51 = .ok (.invokevirtual 359, 3) := by decide +kernel
theorem dX12_deedTold_54 : decode cX12_deedTold 54 = .ok (.aload_n 0, 1) := by decide +kernel
theorem dX12_deedTold_55 : decode cX12_deedTold 55 = .ok (.iconst 3, 1) := by decide +kernel
theorem dX12_deedTold_56 : decode cX12_deedTold 56 = .ok (.lload_n 2, 1) := by decide +kernel
theorem dX12_deedTold_57 : decode cX12_deedTold 57 = .ok (.invokevirtual 315, 3) := by decide +kernel
theorem dX12_deedTold_60 : decode cX12_deedTold 60 = .ok (.return_, 1) := by decide +kernel
theorem dX12_statementTold_0 : decode cX12_statementTold 0 = .ok (.aload_n 0, 1) := by decide +kernel
theorem dX12_statementTold_1 : decode cX12_statementTold 1 = .ok (.getfield 248, 3) := by decide +kernel
theorem dX12_statementTold_4 : decode cX12_statementTold 4 = .ok (.istore_n 1, 1) := by decide +kernel
theorem dX12_statementTold_5 : decode cX12_statementTold 5 = .ok (.aload_n 0, 1) := by decide +kernel
theorem dX12_statementTold_6 : decode cX12_statementTold 6 = .ok (.getfield 365, 3) := by decide +kernel
theorem dX12_statementTold_9 : decode cX12_statementTold 9 = .ok (.bipush 60, 2) := by decide +kernel
theorem dX12_statementTold_11 : decode cX12_statementTold 11 = .ok (.if_icmp .ne 10, 3) := by decide +kernel
theorem dX12_statementTold_14 : decode cX12_statementTold 14 = .ok (.aload_n 0, 1) := by decide +kernel
theorem dX12_statementTold_15 : decode cX12_statementTold 15 = .ok (.iconst 5, 1) := by decide +kernel
theorem dX12_statementTold_16 : decode cX12_statementTold 16 = .ok (.iload_n 1, 1) := by decide +kernel
theorem dX12_statementTold_17 : decode cX12_statementTold 17 = .ok (.invokevirtual 272, 3) := by decide +kernel
theorem dX12_statementTold_20 : decode cX12_statementTold 20 = .ok (.return_, 1) := by decide +kernel
theorem dX12_statementTold_21 : decode cX12_statementTold 21 = .ok (.aload_n 0, 1) := by decide +kernel
theorem dX12_statementTold_22 : decode cX12_statementTold 22 = .ok (.aload_n 0, 1) := by decide +kernel
theorem dX12_statementTold_23 : decode cX12_statementTold 23 = .ok (.getfield 20, 3) := by decide +kernel
theorem dX12_statementTold_26 : decode cX12_statementTold 26 = .ok (.invokevirtual 269, 3) := by decide +kernel
theorem dX12_statementTold_29 : decode cX12_statementTold 29 = .ok (.ifCond .eq 11, 3) := by decide +kernel
theorem dX12_statementTold_32 : decode cX12_statementTold 32 = .ok (.aload_n 0, 1) := by decide +kernel
theorem dX12_statementTold_33 : decode cX12_statementTold 33 = .ok (.iload_n 1, 1) := by decide +kernel
theorem dX12_statementTold_34 : decode cX12_statementTold 34 = .ok (.invokevirtual 368, 3) := by decide +kernel
theorem dX12_statementTold_37 : decode cX12_statementTold 37 = .ok (.goto 194, 3) := by decide +kernel
theorem dX12_statementTold_40 : decode cX12_statementTold 40 = .ok (.aload_n 0, 1) := by decide +kernel
theorem dX12_statementTold_41 : decode cX12_statementTold 41 = .ok (.aload_n 0, 1) := by decide +kernel
theorem dX12_statementTold_42 : decode cX12_statementTold 42 = .ok (.getfield 24, 3) := by decide +kernel
theorem dX12_statementTold_45 : decode cX12_statementTold 45 = .ok (.invokevirtual 269, 3) := by decide +kernel
theorem dX12_statementTold_48 : decode cX12_statementTold 48 = .ok (.ifCond .eq 11, 3) := by decide +kernel
theorem dX12_statementTold_51 : decode cX12_statementTold 51 = .ok (.aload_n 0, 1) := by decide +kernel
theorem dX12_statementTold_52 : decode cX12_statementTold 52 = .ok (.iload_n 1, 1) := by decide +kernel
theorem dX12_statementTold_53 : decode cX12_statementTold 53 = .ok (.invokevirtual 371, 3) := by decide +kernel
theorem dX12_statementTold_56 : decode cX12_statementTold 56 = .ok (.goto 175, 3) := by decide +kernel
theorem dX12_statementTold_59 : decode cX12_statementTold 59 = .ok (.aload_n 0, 1) := by decide +kernel
theorem dX12_statementTold_60 : decode cX12_statementTold 60 = .ok (.aload_n 0, 1) := by decide +kernel
theorem dX12_statementTold_61 : decode cX12_statementTold 61 = .ok (.getfield 30, 3) := by decide +kernel
theorem dX12_statementTold_64 : decode cX12_statementTold 64 = .ok (.invokevirtual 269, 3) := by decide +kernel
theorem dX12_statementTold_67 : decode cX12_statementTold 67 = .ok (.ifCond .eq 11, 3) := by decide +kernel
theorem dX12_statementTold_70 : decode cX12_statementTold 70 = .ok (.aload_n 0, 1) := by decide +kernel
theorem dX12_statementTold_71 : decode cX12_statementTold 71 = .ok (.iload_n 1, 1) := by decide +kernel
theorem dX12_statementTold_72 : decode cX12_statementTold 72 = .ok (.invokevirtual 374, 3) := by decide +kernel
theorem dX12_statementTold_75 : decode cX12_statementTold 75 = .ok (.goto 156, 3) := by decide +kernel
theorem dX12_statementTold_78 : decode cX12_statementTold 78 = .ok (.aload_n 0, 1) := by decide +kernel
theorem dX12_statementTold_79 : decode cX12_statementTold 79 = .ok (.aload_n 0, 1) := by decide +kernel
theorem dX12_statementTold_80 : decode cX12_statementTold 80 = .ok (.getfield 39, 3) := by decide +kernel
theorem dX12_statementTold_83 : decode cX12_statementTold 83 = .ok (.invokevirtual 269, 3) := by decide +kernel
theorem dX12_statementTold_86 : decode cX12_statementTold 86 = .ok (.ifCond .eq 11, 3) := by decide +kernel
theorem dX12_statementTold_89 : decode cX12_statementTold 89 = .ok (.aload_n 0, 1) := by decide +kernel
theorem dX12_statementTold_90 : decode cX12_statementTold 90 = .ok (.iload_n 1, 1) := by decide +kernel
theorem dX12_statementTold_91 : decode cX12_statementTold 91 = .ok (.invokevirtual 377, 3) := by decide +kernel
theorem dX12_statementTold_94 : decode cX12_statementTold 94 = .ok (.goto 137, 3) := by decide +kernel
theorem dX12_statementTold_97 : decode cX12_statementTold 97 = .ok (.aload_n 0, 1) := by decide +kernel
theorem dX12_statementTold_98 : decode cX12_statementTold 98 = .ok (.aload_n 0, 1) := by decide +kernel
theorem dX12_statementTold_99 : decode cX12_statementTold 99 = .ok (.getfield 45, 3) := by decide +kernel
theorem dX12_statementTold_102 : decode cX12_statementTold 102 = .ok (.invokevirtual 269, 3) := by decide +kernel
theorem dX12_statementTold_105 : decode cX12_statementTold 105 = .ok (.ifCond .eq 11, 3) := by decide +kernel
theorem dX12_statementTold_108 : decode cX12_statementTold 108 = .ok (.aload_n 0, 1) := by decide +kernel
theorem dX12_statementTold_109 : decode cX12_statementTold 109 = .ok (.iload_n 1, 1) := by decide +kernel
theorem dX12_statementTold_110 : decode cX12_statementTold 110 = .ok (.invokevirtual 380, 3) := by decide +kernel
theorem dX12_statementTold_113 : decode cX12_statementTold 113 = .ok (.goto 118, 3) := by decide +kernel
theorem dX12_statementTold_116 : decode cX12_statementTold 116 = .ok (.aload_n 0, 1) := by decide +kernel
theorem dX12_statementTold_117 : decode cX12_statementTold 117 = .ok (.aload_n 0, 1) := by decide +kernel
theorem dX12_statementTold_118 : decode cX12_statementTold 118 = .ok (.getfield 51, 3) := by decide +kernel
theorem dX12_statementTold_121 : decode cX12_statementTold 121 = .ok (.invokevirtual 269, 3) := by decide +kernel
theorem dX12_statementTold_124 : decode cX12_statementTold 124 = .ok (.ifCond .eq 12, 3) := by decide +kernel
theorem dX12_statementTold_127 : decode cX12_statementTold 127 = .ok (.aload_n 0, 1) := by decide +kernel
theorem dX12_statementTold_128 : decode cX12_statementTold 128 = .ok (.iconst 0, 1) := by decide +kernel
theorem dX12_statementTold_129 : decode cX12_statementTold 129 = .ok (.iload_n 1, 1) := by decide +kernel
theorem dX12_statementTold_130 : decode cX12_statementTold 130 = .ok (.invokevirtual 383, 3) := by decide +kernel
theorem dX12_statementTold_133 : decode cX12_statementTold 133 = .ok (.goto 98, 3) := by decide +kernel
theorem dX12_statementTold_136 : decode cX12_statementTold 136 = .ok (.aload_n 0, 1) := by decide +kernel
theorem dX12_statementTold_137 : decode cX12_statementTold 137 = .ok (.aload_n 0, 1) := by decide +kernel
theorem dX12_statementTold_138 : decode cX12_statementTold 138 = .ok (.getfield 54, 3) := by decide +kernel
theorem dX12_statementTold_141 : decode cX12_statementTold 141 = .ok (.invokevirtual 269, 3) := by decide +kernel
theorem dX12_statementTold_144 : decode cX12_statementTold 144 = .ok (.ifCond .eq 12, 3) := by decide +kernel
theorem dX12_statementTold_147 : decode cX12_statementTold 147 = .ok (.aload_n 0, 1) := by decide +kernel
theorem dX12_statementTold_148 : decode cX12_statementTold 148 = .ok (.iconst 1, 1) := by decide +kernel
theorem dX12_statementTold_149 : decode cX12_statementTold 149 = .ok (.iload_n 1, 1) := by decide +kernel
theorem dX12_statementTold_150 : decode cX12_statementTold 150 = .ok (.invokevirtual 383, 3) := by decide +kernel
theorem dX12_statementTold_153 : decode cX12_statementTold 153 = .ok (.goto 78, 3) := by decide +kernel
theorem dX12_statementTold_156 : decode cX12_statementTold 156 = .ok (.aload_n 0, 1) := by decide +kernel
theorem dX12_statementTold_157 : decode cX12_statementTold 157 = .ok (.aload_n 0, 1) := by decide +kernel
theorem dX12_statementTold_158 : decode cX12_statementTold 158 = .ok (.getfield 57, 3) := by decide +kernel
theorem dX12_statementTold_161 : decode cX12_statementTold 161 = .ok (.invokevirtual 269, 3) := by decide +kernel
theorem dX12_statementTold_164 : decode cX12_statementTold 164 = .ok (.ifCond .eq 19, 3) := by decide +kernel
theorem dX12_statementTold_167 : decode cX12_statementTold 167 = .ok (.aload_n 0, 1) := by decide +kernel
theorem dX12_statementTold_168 : decode cX12_statementTold 168 = .ok (.getfield 124, 3) := by decide +kernel
theorem dX12_statementTold_171 : decode cX12_statementTold 171 = .ok (.iconst 0, 1) := by decide +kernel
theorem dX12_statementTold_172 : decode cX12_statementTold 172 = .ok (.aload_n 0, 1) := by decide +kernel
theorem dX12_statementTold_173 : decode cX12_statementTold 173 = .ok (.iconst 0, 1) := by decide +kernel
theorem dX12_statementTold_174 : decode cX12_statementTold 174 = .ok (.bipush 23, 2) := by decide +kernel
theorem dX12_statementTold_176 : decode cX12_statementTold 176 = .ok (.invokevirtual 323, 3) := by decide +kernel
theorem dX12_statementTold_179 : decode cX12_statementTold 179 = .ok (.iastore, 1) := by decide +kernel
theorem dX12_statementTold_180 : decode cX12_statementTold 180 = .ok (.goto 51, 3) := by decide +kernel
theorem dX12_statementTold_183 : decode cX12_statementTold 183 = .ok (.aload_n 0, 1) := by decide +kernel
theorem dX12_statementTold_184 : decode cX12_statementTold 184 = .ok (.aload_n 0, 1) := by decide +kernel
theorem dX12_statementTold_185 : decode cX12_statementTold 185 = .ok (.getfield 60, 3) := by decide +kernel
theorem dX12_statementTold_188 : decode cX12_statementTold 188 = .ok (.invokevirtual 269, 3) := by decide +kernel
theorem dX12_statementTold_191 : decode cX12_statementTold 191 = .ok (.ifCond .eq 19, 3) := by decide +kernel
theorem dX12_statementTold_194 : decode cX12_statementTold 194 = .ok (.aload_n 0, 1) := by decide +kernel
theorem dX12_statementTold_195 : decode cX12_statementTold 195 = .ok (.getfield 124, 3) := by decide +kernel
theorem dX12_statementTold_198 : decode cX12_statementTold 198 = .ok (.iconst 1, 1) := by decide +kernel
theorem dX12_statementTold_199 : decode cX12_statementTold 199 = .ok (.aload_n 0, 1) := by decide +kernel
theorem dX12_statementTold_200 : decode cX12_statementTold 200 = .ok (.iconst 0, 1) := by decide +kernel
theorem dX12_statementTold_201 : decode cX12_statementTold 201 = .ok (.bipush 23, 2) := by decide +kernel
theorem dX12_statementTold_203 : decode cX12_statementTold 203 = .ok (.invokevirtual 323, 3) := by decide +kernel
theorem dX12_statementTold_206 : decode cX12_statementTold 206 = .ok (.iastore, 1) := by decide +kernel
theorem dX12_statementTold_207 : decode cX12_statementTold 207 = .ok (.goto 24, 3) := by decide +kernel
theorem dX12_statementTold_210 : decode cX12_statementTold 210 = .ok (.aload_n 0, 1) := by decide +kernel
theorem dX12_statementTold_211 : decode cX12_statementTold 211 = .ok (.aload_n 0, 1) := by decide +kernel
theorem dX12_statementTold_212 : decode cX12_statementTold 212 = .ok (.getfield 63, 3) := by decide +kernel
theorem dX12_statementTold_215 : decode cX12_statementTold 215 = .ok (.invokevirtual 319, 3) := by decide +kernel
theorem dX12_statementTold_218 : decode cX12_statementTold 218 = .ok (.aload_n 0, 1) := by decide +kernel
theorem dX12_statementTold_219 : decode cX12_statementTold 219 = .ok (.getfield 124, 3) := by decide +kernel
theorem dX12_statementTold_222 : decode cX12_statementTold 222 = .ok (.iconst 2, 1) := by decide +kernel
theorem dX12_statementTold_223 : decode cX12_statementTold 223 = .ok (.aload_n 0, 1) := by decide +kernel
theorem dX12_statementTold_224 : decode cX12_statementTold 224 = .ok (.iconst 0, 1) := by decide +kernel
theorem dX12_statementTold_225 : decode cX12_statementTold 225 = .ok (.bipush 99, 2) := by decide +kernel
theorem dX12_statementTold_227 : decode cX12_statementTold 227 = .ok (.invokevirtual 323, 3) := by decide +kernel
theorem dX12_statementTold_230 : decode cX12_statementTold 230 = .ok (.iastore, 1) := by decide +kernel
theorem dX12_statementTold_231 : decode cX12_statementTold 231 = .ok (.aload_n 0, 1) := by decide +kernel
theorem dX12_statementTold_232 : decode cX12_statementTold 232 = .ok (.bipush 59, 2) := by decide +kernel
theorem dX12_statementTold_234 : decode cX12_statementTold 234 = .ok (.invokevirtual 386, 3) := by decide +kernel
theorem dX12_statementTold_237 : decode cX12_statementTold 237 = .ok (.aload_n 0, 1) := by decide +kernel
theorem dX12_statementTold_238 : decode cX12_statementTold 238 = .ok (.dup, 1) := by decide +kernel
theorem dX12_statementTold_239 : decode cX12_statementTold 239 = .ok (.getfield 365, 3) := by decide +kernel
theorem dX12_statementTold_242 : decode cX12_statementTold 242 = .ok (.iconst 1, 1) := by decide +kernel
theorem dX12_statementTold_243 : decode cX12_statementTold 243 = .ok (.iadd, 1) := by decide +kernel
theorem dX12_statementTold_244 : decode cX12_statementTold 244 = .ok (.putfield 365, 3) := by decide +kernel
theorem dX12_statementTold_247 : decode cX12_statementTold 247 = .ok (.return_, 1) := by decide +kernel
theorem dX12_town_0 : decode cX12_town 0 = .ok (.aload_n 0, 1) := by decide +kernel
theorem dX12_town_1 : decode cX12_town 1 = .ok (.aload_n 0, 1) := by decide +kernel
theorem dX12_town_2 : decode cX12_town 2 = .ok (.getfield 239, 3) := by decide +kernel
theorem dX12_town_5 : decode cX12_town 5 = .ok (.putfield 251, 3) := by decide +kernel
theorem dX12_town_8 : decode cX12_town 8 = .ok (.aload_n 0, 1) := by decide +kernel
theorem dX12_town_9 : decode cX12_town 9 = .ok (.iconst 0, 1) := by decide +kernel
theorem dX12_town_10 : decode cX12_town 10 = .ok (.putfield 239, 3) := by decide +kernel
theorem dX12_town_13 : decode cX12_town 13 = .ok (.aload_n 0, 1) := by decide +kernel
theorem dX12_town_14 : decode cX12_town 14 = .ok (.iconst 0, 1) := by decide +kernel
theorem dX12_town_15 : decode cX12_town 15 = .ok (.putfield 248, 3) := by decide +kernel
theorem dX12_town_18 : decode cX12_town 18 = .ok (.aload_n 0, 1) := by decide +kernel
theorem dX12_town_19 : decode cX12_town 19 = .ok (.iconst (-1), 1) := by decide +kernel
theorem dX12_town_20 : decode cX12_town 20 = .ok (.putfield 262, 3) := by decide +kernel
theorem dX12_town_23 : decode cX12_town 23 = .ok (.aload_n 0, 1) := by decide +kernel
theorem dX12_town_24 : decode cX12_town 24 = .ok (.iconst 0, 1) := by decide +kernel
theorem dX12_town_25 : decode cX12_town 25 = .ok (.putfield 242, 3) := by decide +kernel
theorem dX12_town_28 : decode cX12_town 28 = .ok (.aload_n 0, 1) := by decide +kernel
theorem dX12_town_29 : decode cX12_town 29 = .ok (.iconst (-1), 1) := by decide +kernel
theorem dX12_town_30 : decode cX12_town 30 = .ok (.putfield 245, 3) := by decide +kernel
theorem dX12_town_33 : decode cX12_town 33 = .ok (.aload_n 0, 1) := by decide +kernel
theorem dX12_town_34 : decode cX12_town 34 = .ok (.iconst 0, 1) := by decide +kernel
theorem dX12_town_35 : decode cX12_town 35 = .ok (.putfield 365, 3) := by decide +kernel
theorem dX12_town_38 : decode cX12_town 38 = .ok (.aload_n 0, 1) := by decide +kernel
theorem dX12_town_39 : decode cX12_town 39 = .ok (.iconst 0, 1) := by decide +kernel
theorem dX12_town_40 : decode cX12_town 40 = .ok (.putfield 338, 3) := by decide +kernel
theorem dX12_town_43 : decode cX12_town 43 = .ok (.iconst 0, 1) := by decide +kernel
theorem dX12_town_44 : decode cX12_town 44 = .ok (.istore_n 1, 1) := by decide +kernel
theorem dX12_town_45 : decode cX12_town 45 = .ok (.iload_n 1, 1) := by decide +kernel
theorem dX12_town_46 : decode cX12_town 46 = .ok (.iconst 5, 1) := by decide +kernel
theorem dX12_town_47 : decode cX12_town 47 = .ok (.if_icmp .ge 16, 3) := by decide +kernel
theorem dX12_town_50 : decode cX12_town 50 = .ok (.aload_n 0, 1) := by decide +kernel
theorem dX12_town_51 : decode cX12_town 51 = .ok (.getfield 108, 3) := by decide +kernel
theorem dX12_town_54 : decode cX12_town 54 = .ok (.iload_n 1, 1) := by decide +kernel
theorem dX12_town_55 : decode cX12_town 55 = .ok (.iconst 0, 1) := by decide +kernel
theorem dX12_town_56 : decode cX12_town 56 = .ok (.iastore, 1) := by decide +kernel
theorem dX12_town_57 : decode cX12_town 57 = .ok (.iinc 1 1, 3) := by decide +kernel
theorem dX12_town_60 : decode cX12_town 60 = .ok (.goto (-15), 3) := by decide +kernel
theorem dX12_town_63 : decode cX12_town 63 = .ok (.aload_n 0, 1) := by decide +kernel
theorem dX12_town_64 : decode cX12_town 64 = .ok (.getfield 124, 3) := by decide +kernel
theorem dX12_town_67 : decode cX12_town 67 = .ok (.iconst 0, 1) := by decide +kernel
theorem dX12_town_68 : decode cX12_town 68 = .ok (.iconst 5, 1) := by decide +kernel
theorem dX12_town_69 : decode cX12_town 69 = .ok (.iastore, 1) := by decide +kernel
theorem dX12_town_70 : decode cX12_town 70 = .ok (.aload_n 0, 1) := by decide +kernel
theorem dX12_town_71 : decode cX12_town 71 = .ok (.getfield 124, 3) := by decide +kernel
theorem dX12_town_74 : decode cX12_town 74 = .ok (.iconst 1, 1) := by decide +kernel
theorem dX12_town_75 : decode cX12_town 75 = .ok (.bipush 18, 2) := by decide +kernel
theorem dX12_town_77 : decode cX12_town 77 = .ok (.iastore, 1) := by decide +kernel
theorem dX12_town_78 : decode cX12_town 78 = .ok (.aload_n 0, 1) := by decide +kernel
theorem dX12_town_79 : decode cX12_town 79 = .ok (.getfield 124, 3) := by decide +kernel
theorem dX12_town_82 : decode cX12_town 82 = .ok (.iconst 2, 1) := by decide +kernel
theorem dX12_town_83 : decode cX12_town 83 = .ok (.iconst 0, 1) := by decide +kernel
theorem dX12_town_84 : decode cX12_town 84 = .ok (.iastore, 1) := by decide +kernel
theorem dX12_town_85 : decode cX12_town 85 = .ok (.aload_n 0, 1) := by decide +kernel
theorem dX12_town_86 : decode cX12_town 86 = .ok (.getfield 127, 3) := by decide +kernel
theorem dX12_town_89 : decode cX12_town 89 = .ok (.iconst 0, 1) := by decide +kernel
theorem dX12_town_90 : decode cX12_town 90 = .ok (.iconst (-1), 1) := by decide +kernel
theorem dX12_town_91 : decode cX12_town 91 = .ok (.iastore, 1) := by decide +kernel
theorem dX12_town_92 : decode cX12_town 92 = .ok (.aload_n 0, 1) := by decide +kernel
theorem dX12_town_93 : decode cX12_town 93 = .ok (.getfield 127, 3) := by decide +kernel
theorem dX12_town_96 : decode cX12_town 96 = .ok (.iconst 1, 1) := by decide +kernel
theorem dX12_town_97 : decode cX12_town 97 = .ok (.iconst (-1), 1) := by decide +kernel
theorem dX12_town_98 : decode cX12_town 98 = .ok (.iastore, 1) := by decide +kernel
theorem dX12_town_99 : decode cX12_town 99 = .ok (.aload_n 0, 1) := by decide +kernel
theorem dX12_town_100 : decode cX12_town 100 = .ok (.getfield 242, 3) := by decide +kernel
theorem dX12_town_103 : decode cX12_town 103 = .ok (.ifCond .ne 18, 3) := by decide +kernel
theorem dX12_town_106 : decode cX12_town 106 = .ok (.aload_n 0, 1) := by decide +kernel
theorem dX12_town_107 : decode cX12_town 107 = .ok (.invokevirtual 254, 3) := by decide +kernel
theorem dX12_town_110 : decode cX12_town 110 = .ok (.iconst (-1), 1) := by decide +kernel
theorem dX12_town_111 : decode cX12_town 111 = .ok (.if_icmp .eq 10, 3) := by decide +kernel
theorem dX12_town_114 : decode cX12_town 114 = .ok (.aload_n 0, 1) := by decide +kernel
theorem dX12_town_115 : decode cX12_town 115 = .ok (.invokevirtual 389, 3) := by decide +kernel
theorem dX12_town_118 : decode cX12_town 118 = .ok (.goto (-19), 3) := by decide +kernel
theorem dX12_town_121 : decode cX12_town 121 = .ok (.aload_n 0, 1) := by decide +kernel
theorem dX12_town_122 : decode cX12_town 122 = .ok (.aload_n 0, 1) := by decide +kernel
theorem dX12_town_123 : decode cX12_town 123 = .ok (.getfield 242, 3) := by decide +kernel
theorem dX12_town_126 : decode cX12_town 126 = .ok (.putfield 392, 3) := by decide +kernel
theorem dX12_town_129 : decode cX12_town 129 = .ok (.aload_n 0, 1) := by decide +kernel
theorem dX12_town_130 : decode cX12_town 130 = .ok (.aload_n 0, 1) := by decide +kernel
theorem dX12_town_131 : decode cX12_town 131 = .ok (.getfield 245, 3) := by decide +kernel
theorem dX12_town_134 : decode cX12_town 134 = .ok (.putfield 13, 3) := by decide +kernel
theorem dX12_town_137 : decode cX12_town 137 = .ok (.aload_n 0, 1) := by decide +kernel
theorem dX12_town_138 : decode cX12_town 138 = .ok (.getfield 242, 3) := by decide +kernel
theorem dX12_town_141 : decode cX12_town 141 = .ok (.ifCond .eq 15, 3) := by decide +kernel
theorem dX12_town_144 : decode cX12_town 144 = .ok (.aload_n 0, 1) := by decide +kernel
theorem dX12_town_145 : decode cX12_town 145 = .ok (.getfield 17, 3) := by decide +kernel
theorem dX12_town_148 : decode cX12_town 148 = .ok (.iconst 1, 1) := by decide +kernel
theorem dX12_town_149 : decode cX12_town 149 = .ok (.dup2, 1) := by decide +kernel
theorem dX12_town_150 : decode cX12_town 150 = .ok (.iaload, 1) := by decide +kernel
theorem dX12_town_151 : decode cX12_town 151 = .ok (.iconst 1, 1) := by decide +kernel
theorem dX12_town_152 : decode cX12_town 152 = .ok (.iadd, 1) := by decide +kernel
theorem dX12_town_153 : decode cX12_town 153 = .ok (.iastore, 1) := by decide +kernel
theorem dX12_town_154 : decode cX12_town 154 = .ok (.iconst (-1), 1) := by decide +kernel
theorem dX12_town_155 : decode cX12_town 155 = .ok (.ireturn, 1) := by decide +kernel
theorem dX12_town_156 : decode cX12_town 156 = .ok (.aload_n 0, 1) := by decide +kernel
theorem dX12_town_157 : decode cX12_town 157 = .ok (.invokevirtual 395, 3) := by decide +kernel
theorem dX12_town_160 : decode cX12_town 160 = .ok (.aload_n 0, 1) := by decide +kernel
theorem dX12_town_161 : decode cX12_town 161 = .ok (.getfield 365, 3) := by decide +kernel
theorem dX12_town_164 : decode cX12_town 164 = .ok (.ireturn, 1) := by decide +kernel
theorem dX12_stands_0 : decode cX12_stands 0 = .ok (.iconst 0, 1) := by decide +kernel
theorem dX12_stands_1 : decode cX12_stands 1 = .ok (.istore_n 1, 1) := by decide +kernel
theorem dX12_stands_2 : decode cX12_stands 2 = .ok (.iload_n 1, 1) := by decide +kernel
theorem dX12_stands_3 : decode cX12_stands 3 = .ok (.iconst 5, 1) := by decide +kernel
theorem dX12_stands_4 : decode cX12_stands 4 = .ok (.if_icmp .ge 23, 3) := by decide +kernel
theorem dX12_stands_7 : decode cX12_stands 7 = .ok (.aload_n 0, 1) := by decide +kernel
theorem dX12_stands_8 : decode cX12_stands 8 = .ok (.getfield 108, 3) := by decide +kernel
theorem dX12_stands_11 : decode cX12_stands 11 = .ok (.iconst 5, 1) := by decide +kernel
theorem dX12_stands_12 : decode cX12_stands 12 = .ok (.iload_n 1, 1) := by decide +kernel
theorem dX12_stands_13 : decode cX12_stands 13 = .ok (.iadd, 1) := by decide +kernel
theorem dX12_stands_14 : decode cX12_stands 14 = .ok (.aload_n 0, 1) := by decide +kernel
theorem dX12_stands_15 : decode cX12_stands 15 = .ok (.getfield 108, 3) := by decide +kernel
theorem dX12_stands_18 : decode cX12_stands 18 = .ok (.iload_n 1, 1) := by decide +kernel
theorem dX12_stands_19 : decode cX12_stands 19 = .ok (.iaload, 1) := by decide +kernel
theorem dX12_stands_20 : decode cX12_stands 20 = .ok (.iastore, 1) := by decide +kernel
theorem dX12_stands_21 : decode cX12_stands 21 = .ok (.iinc 1 1, 3) := by decide +kernel
theorem dX12_stands_24 : decode cX12_stands 24 = .ok (.goto (-22), 3) := by decide +kernel
theorem dX12_stands_27 : decode cX12_stands 27 = .ok (.iconst 0, 1) := by decide +kernel
theorem dX12_stands_28 : decode cX12_stands 28 = .ok (.istore_n 1, 1) := by decide +kernel
theorem dX12_stands_29 : decode cX12_stands 29 = .ok (.iload_n 1, 1) := by decide +kernel
theorem dX12_stands_30 : decode cX12_stands 30 = .ok (.bipush 32, 2) := by decide +kernel
theorem dX12_stands_32 : decode cX12_stands 32 = .ok (.if_icmp .ge 39, 3) := by decide +kernel
theorem dX12_stands_35 : decode cX12_stands 35 = .ok (.aload_n 0, 1) := by decide +kernel
theorem dX12_stands_36 : decode cX12_stands 36 = .ok (.getfield 111, 3) := by decide +kernel
theorem dX12_stands_39 : decode cX12_stands 39 = .ok (.bipush 32, 2) := by decide +kernel
theorem dX12_stands_41 : decode cX12_stands 41 = .ok (.iload_n 1, 1) := by decide +kernel
theorem dX12_stands_42 : decode cX12_stands 42 = .ok (.iadd, 1) := by decide +kernel
theorem dX12_stands_43 : decode cX12_stands 43 = .ok (.aload_n 0, 1) := by decide +kernel
theorem dX12_stands_44 : decode cX12_stands 44 = .ok (.getfield 111, 3) := by decide +kernel
theorem dX12_stands_47 : decode cX12_stands 47 = .ok (.iload_n 1, 1) := by decide +kernel
theorem dX12_stands_48 : decode cX12_stands 48 = .ok (.laload, 1) := by decide +kernel
theorem dX12_stands_49 : decode cX12_stands 49 = .ok (.lastore, 1) := by decide +kernel
theorem dX12_stands_50 : decode cX12_stands 50 = .ok (.aload_n 0, 1) := by decide +kernel
theorem dX12_stands_51 : decode cX12_stands 51 = .ok (.getfield 115, 3) := by decide +kernel
theorem dX12_stands_54 : decode cX12_stands 54 = .ok (.bipush 32, 2) := by decide +kernel
theorem dX12_stands_56 : decode cX12_stands 56 = .ok (.iload_n 1, 1) := by decide +kernel
theorem dX12_stands_57 : decode cX12_stands 57 = .ok (.iadd, 1) := by decide +kernel
theorem dX12_stands_58 : decode cX12_stands 58 = .ok (.aload_n 0, 1) := by decide +kernel
theorem dX12_stands_59 : decode cX12_stands 59 = .ok (.getfield 115, 3) := by decide +kernel
theorem dX12_stands_62 : decode cX12_stands 62 = .ok (.iload_n 1, 1) := by decide +kernel
theorem dX12_stands_63 : decode cX12_stands 63 = .ok (.iaload, 1) := by decide +kernel
theorem dX12_stands_64 : decode cX12_stands 64 = .ok (.iastore, 1) := by decide +kernel
theorem dX12_stands_65 : decode cX12_stands 65 = .ok (.iinc 1 1, 3) := by decide +kernel
theorem dX12_stands_68 : decode cX12_stands 68 = .ok (.goto (-39), 3) := by decide +kernel
theorem dX12_stands_71 : decode cX12_stands 71 = .ok (.iconst 0, 1) := by decide +kernel
theorem dX12_stands_72 : decode cX12_stands 72 = .ok (.istore_n 1, 1) := by decide +kernel
theorem dX12_stands_73 : decode cX12_stands 73 = .ok (.iload_n 1, 1) := by decide +kernel
theorem dX12_stands_74 : decode cX12_stands 74 = .ok (.bipush 12, 2) := by decide +kernel
theorem dX12_stands_76 : decode cX12_stands 76 = .ok (.if_icmp .ge 24, 3) := by decide +kernel
theorem dX12_stands_79 : decode cX12_stands 79 = .ok (.aload_n 0, 1) := by decide +kernel
theorem dX12_stands_80 : decode cX12_stands 80 = .ok (.getfield 118, 3) := by decide +kernel
theorem dX12_stands_83 : decode cX12_stands 83 = .ok (.bipush 12, 2) := by decide +kernel
theorem dX12_stands_85 : decode cX12_stands 85 = .ok (.iload_n 1, 1) := by decide +kernel
theorem dX12_stands_86 : decode cX12_stands 86 = .ok (.iadd, 1) := by decide +kernel
theorem dX12_stands_87 : decode cX12_stands 87 = .ok (.aload_n 0, 1) := by decide +kernel
theorem dX12_stands_88 : decode cX12_stands 88 = .ok (.getfield 118, 3) := by decide +kernel
theorem dX12_stands_91 : decode cX12_stands 91 = .ok (.iload_n 1, 1) := by decide +kernel
theorem dX12_stands_92 : decode cX12_stands 92 = .ok (.iaload, 1) := by decide +kernel
theorem dX12_stands_93 : decode cX12_stands 93 = .ok (.iastore, 1) := by decide +kernel
theorem dX12_stands_94 : decode cX12_stands 94 = .ok (.iinc 1 1, 3) := by decide +kernel
theorem dX12_stands_97 : decode cX12_stands 97 = .ok (.goto (-24), 3) := by decide +kernel
theorem dX12_stands_100 : decode cX12_stands 100 = .ok (.iconst 0, 1) := by decide +kernel
theorem dX12_stands_101 : decode cX12_stands 101 = .ok (.istore_n 1, 1) := by decide +kernel
theorem dX12_stands_102 : decode cX12_stands 102 = .ok (.iload_n 1, 1) := by decide +kernel
theorem dX12_stands_103 : decode cX12_stands 103 = .ok (.bipush 48, 2) := by decide +kernel
theorem dX12_stands_105 : decode cX12_stands 105 = .ok (.if_icmp .ge 24, 3) := by decide +kernel
theorem dX12_stands_108 : decode cX12_stands 108 = .ok (.aload_n 0, 1) := by decide +kernel
theorem dX12_stands_109 : decode cX12_stands 109 = .ok (.getfield 121, 3) := by decide +kernel
theorem dX12_stands_112 : decode cX12_stands 112 = .ok (.bipush 48, 2) := by decide +kernel
theorem dX12_stands_114 : decode cX12_stands 114 = .ok (.iload_n 1, 1) := by decide +kernel
theorem dX12_stands_115 : decode cX12_stands 115 = .ok (.iadd, 1) := by decide +kernel
theorem dX12_stands_116 : decode cX12_stands 116 = .ok (.aload_n 0, 1) := by decide +kernel
theorem dX12_stands_117 : decode cX12_stands 117 = .ok (.getfield 121, 3) := by decide +kernel
theorem dX12_stands_120 : decode cX12_stands 120 = .ok (.iload_n 1, 1) := by decide +kernel
theorem dX12_stands_121 : decode cX12_stands 121 = .ok (.iaload, 1) := by decide +kernel
theorem dX12_stands_122 : decode cX12_stands 122 = .ok (.iastore, 1) := by decide +kernel
theorem dX12_stands_123 : decode cX12_stands 123 = .ok (.iinc 1 1, 3) := by decide +kernel
theorem dX12_stands_126 : decode cX12_stands 126 = .ok (.goto (-24), 3) := by decide +kernel
theorem dX12_stands_129 : decode cX12_stands 129 = .ok (.iconst 0, 1) := by decide +kernel
theorem dX12_stands_130 : decode cX12_stands 130 = .ok (.istore_n 1, 1) := by decide +kernel
theorem dX12_stands_131 : decode cX12_stands 131 = .ok (.iload_n 1, 1) := by decide +kernel
theorem dX12_stands_132 : decode cX12_stands 132 = .ok (.iconst 3, 1) := by decide +kernel
theorem dX12_stands_133 : decode cX12_stands 133 = .ok (.if_icmp .ge 23, 3) := by decide +kernel
theorem dX12_stands_136 : decode cX12_stands 136 = .ok (.aload_n 0, 1) := by decide +kernel
theorem dX12_stands_137 : decode cX12_stands 137 = .ok (.getfield 124, 3) := by decide +kernel
theorem dX12_stands_140 : decode cX12_stands 140 = .ok (.iconst 3, 1) := by decide +kernel
theorem dX12_stands_141 : decode cX12_stands 141 = .ok (.iload_n 1, 1) := by decide +kernel
theorem dX12_stands_142 : decode cX12_stands 142 = .ok (.iadd, 1) := by decide +kernel
theorem dX12_stands_143 : decode cX12_stands 143 = .ok (.aload_n 0, 1) := by decide +kernel
theorem dX12_stands_144 : decode cX12_stands 144 = .ok (.getfield 124, 3) := by decide +kernel
theorem dX12_stands_147 : decode cX12_stands 147 = .ok (.iload_n 1, 1) := by decide +kernel
theorem dX12_stands_148 : decode cX12_stands 148 = .ok (.iaload, 1) := by decide +kernel
theorem dX12_stands_149 : decode cX12_stands 149 = .ok (.iastore, 1) := by decide +kernel
theorem dX12_stands_150 : decode cX12_stands 150 = .ok (.iinc 1 1, 3) := by decide +kernel
theorem dX12_stands_153 : decode cX12_stands 153 = .ok (.goto (-22), 3) := by decide +kernel
theorem dX12_stands_156 : decode cX12_stands 156 = .ok (.iconst 0, 1) := by decide +kernel
theorem dX12_stands_157 : decode cX12_stands 157 = .ok (.istore_n 1, 1) := by decide +kernel
theorem dX12_stands_158 : decode cX12_stands 158 = .ok (.iload_n 1, 1) := by decide +kernel
theorem dX12_stands_159 : decode cX12_stands 159 = .ok (.bipush 8, 2) := by decide +kernel
theorem dX12_stands_161 : decode cX12_stands 161 = .ok (.if_icmp .ge 39, 3) := by decide +kernel
theorem dX12_stands_164 : decode cX12_stands 164 = .ok (.aload_n 0, 1) := by decide +kernel
theorem dX12_stands_165 : decode cX12_stands 165 = .ok (.getfield 127, 3) := by decide +kernel
theorem dX12_stands_168 : decode cX12_stands 168 = .ok (.bipush 8, 2) := by decide +kernel
theorem dX12_stands_170 : decode cX12_stands 170 = .ok (.iload_n 1, 1) := by decide +kernel
theorem dX12_stands_171 : decode cX12_stands 171 = .ok (.iadd, 1) := by decide +kernel
theorem dX12_stands_172 : decode cX12_stands 172 = .ok (.aload_n 0, 1) := by decide +kernel
theorem dX12_stands_173 : decode cX12_stands 173 = .ok (.getfield 127, 3) := by decide +kernel
theorem dX12_stands_176 : decode cX12_stands 176 = .ok (.iload_n 1, 1) := by decide +kernel
theorem dX12_stands_177 : decode cX12_stands 177 = .ok (.iaload, 1) := by decide +kernel
theorem dX12_stands_178 : decode cX12_stands 178 = .ok (.iastore, 1) := by decide +kernel
theorem dX12_stands_179 : decode cX12_stands 179 = .ok (.aload_n 0, 1) := by decide +kernel
theorem dX12_stands_180 : decode cX12_stands 180 = .ok (.getfield 130, 3) := by decide +kernel
theorem dX12_stands_183 : decode cX12_stands 183 = .ok (.bipush 8, 2) := by decide +kernel
theorem dX12_stands_185 : decode cX12_stands 185 = .ok (.iload_n 1, 1) := by decide +kernel
theorem dX12_stands_186 : decode cX12_stands 186 = .ok (.iadd, 1) := by decide +kernel
theorem dX12_stands_187 : decode cX12_stands 187 = .ok (.aload_n 0, 1) := by decide +kernel
theorem dX12_stands_188 : decode cX12_stands 188 = .ok (.getfield 130, 3) := by decide +kernel
theorem dX12_stands_191 : decode cX12_stands 191 = .ok (.iload_n 1, 1) := by decide +kernel
theorem dX12_stands_192 : decode cX12_stands 192 = .ok (.iaload, 1) := by decide +kernel
theorem dX12_stands_193 : decode cX12_stands 193 = .ok (.iastore, 1) := by decide +kernel
theorem dX12_stands_194 : decode cX12_stands 194 = .ok (.iinc 1 1, 3) := by decide +kernel
theorem dX12_stands_197 : decode cX12_stands 197 = .ok (.goto (-39), 3) := by decide +kernel
theorem dX12_stands_200 : decode cX12_stands 200 = .ok (.iconst 0, 1) := by decide +kernel
theorem dX12_stands_201 : decode cX12_stands 201 = .ok (.istore_n 1, 1) := by decide +kernel
theorem dX12_stands_202 : decode cX12_stands 202 = .ok (.iload_n 1, 1) := by decide +kernel
theorem dX12_stands_203 : decode cX12_stands 203 = .ok (.aload_n 0, 1) := by decide +kernel
theorem dX12_stands_204 : decode cX12_stands 204 = .ok (.getfield 338, 3) := by decide +kernel
theorem dX12_stands_207 : decode cX12_stands 207 = .ok (.if_icmp .ge 25, 3) := by decide +kernel
theorem dX12_stands_210 : decode cX12_stands 210 = .ok (.aload_n 0, 1) := by decide +kernel
theorem dX12_stands_211 : decode cX12_stands 211 = .ok (.getfield 133, 3) := by decide +kernel
theorem dX12_stands_214 : decode cX12_stands 214 = .ok (.sipush 1600, 3) := by decide +kernel
theorem dX12_stands_217 : decode cX12_stands 217 = .ok (.iload_n 1, 1) := by decide +kernel
theorem dX12_stands_218 : decode cX12_stands 218 = .ok (.iadd, 1) := by decide +kernel
theorem dX12_stands_219 : decode cX12_stands 219 = .ok (.aload_n 0, 1) := by decide +kernel
theorem dX12_stands_220 : decode cX12_stands 220 = .ok (.getfield 133, 3) := by decide +kernel
theorem dX12_stands_223 : decode cX12_stands 223 = .ok (.iload_n 1, 1) := by decide +kernel
theorem dX12_stands_224 : decode cX12_stands 224 = .ok (.iaload, 1) := by decide +kernel
theorem dX12_stands_225 : decode cX12_stands 225 = .ok (.iastore, 1) := by decide +kernel
theorem dX12_stands_226 : decode cX12_stands 226 = .ok (.iinc 1 1, 3) := by decide +kernel
theorem dX12_stands_229 : decode cX12_stands 229 = .ok (.goto (-27), 3) := by decide +kernel
theorem dX12_stands_232 : decode cX12_stands 232 = .ok (.iconst 0, 1) := by decide +kernel
theorem dX12_stands_233 : decode cX12_stands 233 = .ok (.istore_n 1, 1) := by decide +kernel
theorem dX12_stands_234 : decode cX12_stands 234 = .ok (.iload_n 1, 1) := by decide +kernel
theorem dX12_stands_235 : decode cX12_stands 235 = .ok (.bipush 95, 2) := by decide +kernel
theorem dX12_stands_237 : decode cX12_stands 237 = .ok (.if_icmp .ge 16, 3) := by decide +kernel
theorem dX12_stands_240 : decode cX12_stands 240 = .ok (.aload_n 0, 1) := by decide +kernel
theorem dX12_stands_241 : decode cX12_stands 241 = .ok (.getfield 136, 3) := by decide +kernel
theorem dX12_stands_244 : decode cX12_stands 244 = .ok (.iload_n 1, 1) := by decide +kernel
theorem dX12_stands_245 : decode cX12_stands 245 = .ok (.iconst 0, 1) := by decide +kernel
theorem dX12_stands_246 : decode cX12_stands 246 = .ok (.iastore, 1) := by decide +kernel
theorem dX12_stands_247 : decode cX12_stands 247 = .ok (.iinc 1 1, 3) := by decide +kernel
theorem dX12_stands_250 : decode cX12_stands 250 = .ok (.goto (-16), 3) := by decide +kernel
theorem dX12_stands_253 : decode cX12_stands 253 = .ok (.iconst 0, 1) := by decide +kernel
theorem dX12_stands_254 : decode cX12_stands 254 = .ok (.istore_n 1, 1) := by decide +kernel
theorem dX12_stands_255 : decode cX12_stands 255 = .ok (.iload_n 1, 1) := by decide +kernel
theorem dX12_stands_256 : decode cX12_stands 256 = .ok (.aload_n 0, 1) := by decide +kernel
theorem dX12_stands_257 : decode cX12_stands 257 = .ok (.getfield 108, 3) := by decide +kernel
theorem dX12_stands_260 : decode cX12_stands 260 = .ok (.iconst 1, 1) := by decide +kernel
theorem dX12_stands_261 : decode cX12_stands 261 = .ok (.iaload, 1) := by decide +kernel
theorem dX12_stands_262 : decode cX12_stands 262 = .ok (.if_icmp .ge 75, 3) := by decide +kernel
theorem dX12_stands_265 : decode cX12_stands 265 = .ok (.iconst 0, 1) := by decide +kernel
theorem dX12_stands_266 : decode cX12_stands 266 = .ok (.istore_n 2, 1) := by decide +kernel
theorem dX12_stands_267 : decode cX12_stands 267 = .ok (.iload_n 2, 1) := by decide +kernel
theorem dX12_stands_268 : decode cX12_stands 268 = .ok (.aload_n 0, 1) := by decide +kernel
theorem dX12_stands_269 : decode cX12_stands 269 = .ok (.getfield 108, 3) := by decide +kernel
theorem dX12_stands_272 : decode cX12_stands 272 = .ok (.iconst 0, 1) := by decide +kernel
theorem dX12_stands_273 : decode cX12_stands 273 = .ok (.iaload, 1) := by decide +kernel
theorem dX12_stands_274 : decode cX12_stands 274 = .ok (.if_icmp .ge 57, 3) := by decide +kernel
theorem dX12_stands_277 : decode cX12_stands 277 = .ok (.aload_n 0, 1) := by decide +kernel
theorem dX12_stands_278 : decode cX12_stands 278 = .ok (.getfield 136, 3) := by decide +kernel
theorem dX12_stands_281 : decode cX12_stands 281 = .ok (.iconst 1, 1) := by decide +kernel
theorem dX12_stands_282 : decode cX12_stands 282 = .ok (.bipush 8, 2) := by decide +kernel
theorem dX12_stands_284 : decode cX12_stands 284 = .ok (.iload_n 1, 1) := by decide +kernel
theorem dX12_stands_285 : decode cX12_stands 285 = .ok (.imul, 1) := by decide +kernel
theorem dX12_stands_286 : decode cX12_stands 286 = .ok (.iadd, 1) := by decide +kernel
theorem dX12_stands_287 : decode cX12_stands 287 = .ok (.iload_n 2, 1) := by decide +kernel
theorem dX12_stands_288 : decode cX12_stands 288 = .ok (.iadd, 1) := by decide +kernel
theorem dX12_stands_289 : decode cX12_stands 289 = .ok (.aload_n 0, 1) := by decide +kernel
theorem dX12_stands_290 : decode cX12_stands 290 = .ok (.getfield 115, 3) := by decide +kernel
theorem dX12_stands_293 : decode cX12_stands 293 = .ok (.iconst 4, 1) := by decide +kernel
theorem dX12_stands_294 : decode cX12_stands 294 = .ok (.iload_n 1, 1) := by decide +kernel
theorem dX12_stands_295 : decode cX12_stands 295 = .ok (.imul, 1) := by decide +kernel
theorem dX12_stands_296 : decode cX12_stands 296 = .ok (.iload_n 2, 1) := by decide +kernel
theorem dX12_stands_297 : decode cX12_stands 297 = .ok (.iadd, 1) := by decide +kernel
theorem dX12_stands_298 : decode cX12_stands 298 = .ok (.iaload, 1) := by decide +kernel
theorem dX12_stands_299 : decode cX12_stands 299 = .ok (.iastore, 1) := by decide +kernel
theorem dX12_stands_300 : decode cX12_stands 300 = .ok (.aload_n 0, 1) := by decide +kernel
theorem dX12_stands_301 : decode cX12_stands 301 = .ok (.getfield 136, 3) := by decide +kernel
theorem dX12_stands_304 : decode cX12_stands 304 = .ok (.iconst 1, 1) := by decide +kernel
theorem dX12_stands_305 : decode cX12_stands 305 = .ok (.bipush 8, 2) := by decide +kernel
theorem dX12_stands_307 : decode cX12_stands 307 = .ok (.iload_n 1, 1) := by decide +kernel
theorem dX12_stands_308 : decode cX12_stands 308 = .ok (.imul, 1) := by decide +kernel
theorem dX12_stands_309 : decode cX12_stands 309 = .ok (.iadd, 1) := by decide +kernel
theorem dX12_stands_310 : decode cX12_stands 310 = .ok (.iconst 4, 1) := by decide +kernel
theorem dX12_stands_311 : decode cX12_stands 311 = .ok (.iadd, 1) := by decide +kernel
theorem dX12_stands_312 : decode cX12_stands 312 = .ok (.iload_n 2, 1) := by decide +kernel
theorem dX12_stands_313 : decode cX12_stands 313 = .ok (.iadd, 1) := by decide +kernel
theorem dX12_stands_314 : decode cX12_stands 314 = .ok (.aload_n 0, 1) := by decide +kernel
theorem dX12_stands_315 : decode cX12_stands 315 = .ok (.getfield 115, 3) := by decide +kernel
theorem dX12_stands_318 : decode cX12_stands 318 = .ok (.iconst 4, 1) := by decide +kernel
theorem dX12_stands_319 : decode cX12_stands 319 = .ok (.iload_n 1, 1) := by decide +kernel
theorem dX12_stands_320 : decode cX12_stands 320 = .ok (.imul, 1) := by decide +kernel
theorem dX12_stands_321 : decode cX12_stands 321 = .ok (.iload_n 2, 1) := by decide +kernel
theorem dX12_stands_322 : decode cX12_stands 322 = .ok (.iadd, 1) := by decide +kernel
theorem dX12_stands_323 : decode cX12_stands 323 = .ok (.iaload, 1) := by decide +kernel
theorem dX12_stands_324 : decode cX12_stands 324 = .ok (.iastore, 1) := by decide +kernel
theorem dX12_stands_325 : decode cX12_stands 325 = .ok (.iinc 2 1, 3) := by decide +kernel
theorem dX12_stands_328 : decode cX12_stands 328 = .ok (.goto (-61), 3) := by decide +kernel
theorem dX12_stands_331 : decode cX12_stands 331 = .ok (.iinc 1 1, 3) := by decide +kernel
theorem dX12_stands_334 : decode cX12_stands 334 = .ok (.goto (-79), 3) := by decide +kernel
theorem dX12_stands_337 : decode cX12_stands 337 = .ok (.iconst 0, 1) := by decide +kernel
theorem dX12_stands_338 : decode cX12_stands 338 = .ok (.istore_n 1, 1) := by decide +kernel
theorem dX12_stands_339 : decode cX12_stands 339 = .ok (.iload_n 1, 1) := by decide +kernel
theorem dX12_stands_340 : decode cX12_stands 340 = .ok (.aload_n 0, 1) := by decide +kernel
theorem dX12_stands_341 : decode cX12_stands 341 = .ok (.getfield 108, 3) := by decide +kernel
theorem dX12_stands_344 : decode cX12_stands 344 = .ok (.iconst 2, 1) := by decide +kernel
theorem dX12_stands_345 : decode cX12_stands 345 = .ok (.iaload, 1) := by decide +kernel
theorem dX12_stands_346 : decode cX12_stands 346 = .ok (.if_icmp .ge 30, 3) := by decide +kernel
theorem dX12_stands_349 : decode cX12_stands 349 = .ok (.aload_n 0, 1) := by decide +kernel
theorem dX12_stands_350 : decode cX12_stands 350 = .ok (.getfield 136, 3) := by decide +kernel
theorem dX12_stands_353 : decode cX12_stands 353 = .ok (.bipush 65, 2) := by decide +kernel
theorem dX12_stands_355 : decode cX12_stands 355 = .ok (.iconst 5, 1) := by decide +kernel
theorem dX12_stands_356 : decode cX12_stands 356 = .ok (.iload_n 1, 1) := by decide +kernel
theorem dX12_stands_357 : decode cX12_stands 357 = .ok (.imul, 1) := by decide +kernel
theorem dX12_stands_358 : decode cX12_stands 358 = .ok (.iadd, 1) := by decide +kernel
theorem dX12_stands_359 : decode cX12_stands 359 = .ok (.aload_n 0, 1) := by decide +kernel
theorem dX12_stands_360 : decode cX12_stands 360 = .ok (.getfield 118, 3) := by decide +kernel
theorem dX12_stands_363 : decode cX12_stands 363 = .ok (.iconst 2, 1) := by decide +kernel
theorem dX12_stands_364 : decode cX12_stands 364 = .ok (.iload_n 1, 1) := by decide +kernel
theorem dX12_stands_365 : decode cX12_stands 365 = .ok (.imul, 1) := by decide +kernel
theorem dX12_stands_366 : decode cX12_stands 366 = .ok (.iconst 1, 1) := by decide +kernel
theorem dX12_stands_367 : decode cX12_stands 367 = .ok (.iadd, 1) := by decide +kernel
theorem dX12_stands_368 : decode cX12_stands 368 = .ok (.iaload, 1) := by decide +kernel
theorem dX12_stands_369 : decode cX12_stands 369 = .ok (.iastore, 1) := by decide +kernel
theorem dX12_stands_370 : decode cX12_stands 370 = .ok (.iinc 1 1, 3) := by decide +kernel
theorem dX12_stands_373 : decode cX12_stands 373 = .ok (.goto (-34), 3) := by decide +kernel
theorem dX12_stands_376 : decode cX12_stands 376 = .ok (.aload_n 0, 1) := by decide +kernel
theorem dX12_stands_377 : decode cX12_stands 377 = .ok (.iconst 0, 1) := by decide +kernel
theorem dX12_stands_378 : decode cX12_stands 378 = .ok (.putfield 398, 3) := by decide +kernel
theorem dX12_stands_381 : decode cX12_stands 381 = .ok (.aload_n 0, 1) := by decide +kernel
theorem dX12_stands_382 : decode cX12_stands 382 = .ok (.iconst 0, 1) := by decide +kernel
theorem dX12_stands_383 : decode cX12_stands 383 = .ok (.putfield 401, 3) := by decide +kernel
theorem dX12_stands_386 : decode cX12_stands 386 = .ok (.return_, 1) := by decide +kernel
theorem dX12_fault_0 : decode cX12_fault 0 = .ok (.iload_n 1, 1) := by decide +kernel
theorem dX12_fault_1 : decode cX12_fault 1 = .ok (.ifCond .ne 10, 3) := by decide +kernel
theorem dX12_fault_4 : decode cX12_fault 4 = .ok (.aload_n 0, 1) := by decide +kernel
theorem dX12_fault_5 : decode cX12_fault 5 = .ok (.getfield 392, 3) := by decide +kernel
theorem dX12_fault_8 : decode cX12_fault 8 = .ok (.goto 16, 3) := by decide +kernel
theorem dX12_fault_11 : decode cX12_fault 11 = .ok (.iload_n 1, 1) := by decide +kernel
theorem dX12_fault_12 : decode cX12_fault 12 = .ok (.iconst 1, 1) := by decide +kernel
theorem dX12_fault_13 : decode cX12_fault 13 = .ok (.if_icmp .ne 10, 3) := by decide +kernel
theorem dX12_fault_16 : decode cX12_fault 16 = .ok (.aload_n 0, 1) := by decide +kernel
theorem dX12_fault_17 : decode cX12_fault 17 = .ok (.getfield 13, 3) := by decide +kernel
theorem dX12_fault_20 : decode cX12_fault 20 = .ok (.goto 4, 3) := by decide +kernel
theorem dX12_fault_23 : decode cX12_fault 23 = .ok (.iconst (-1), 1) := by decide +kernel
theorem dX12_fault_24 : decode cX12_fault 24 = .ok (.ireturn, 1) := by decide +kernel
theorem dX12_hourNow_0 : decode cX12_hourNow 0 = .ok (.aload_n 0, 1) := by decide +kernel
theorem dX12_hourNow_1 : decode cX12_hourNow 1 = .ok (.getfield 136, 3) := by decide +kernel
theorem dX12_hourNow_4 : decode cX12_hourNow 4 = .ok (.iconst 0, 1) := by decide +kernel
theorem dX12_hourNow_5 : decode cX12_hourNow 5 = .ok (.iaload, 1) := by decide +kernel
theorem dX12_hourNow_6 : decode cX12_hourNow 6 = .ok (.ireturn, 1) := by decide +kernel
theorem dX12_moodMany_0 : decode cX12_moodMany 0 = .ok (.aload_n 0, 1) := by decide +kernel
theorem dX12_moodMany_1 : decode cX12_moodMany 1 = .ok (.getfield 108, 3) := by decide +kernel
theorem dX12_moodMany_4 : decode cX12_moodMany 4 = .ok (.iconst 5, 1) := by decide +kernel
theorem dX12_moodMany_5 : decode cX12_moodMany 5 = .ok (.iaload, 1) := by decide +kernel
theorem dX12_moodMany_6 : decode cX12_moodMany 6 = .ok (.ireturn, 1) := by decide +kernel
theorem dX12_peopleMany_0 : decode cX12_peopleMany 0 = .ok (.aload_n 0, 1) := by decide +kernel
theorem dX12_peopleMany_1 : decode cX12_peopleMany 1 = .ok (.getfield 108, 3) := by decide +kernel
theorem dX12_peopleMany_4 : decode cX12_peopleMany 4 = .ok (.bipush 6, 2) := by decide +kernel
theorem dX12_peopleMany_6 : decode cX12_peopleMany 6 = .ok (.iaload, 1) := by decide +kernel
theorem dX12_peopleMany_7 : decode cX12_peopleMany 7 = .ok (.ireturn, 1) := by decide +kernel
theorem dX12_loafMany_0 : decode cX12_loafMany 0 = .ok (.aload_n 0, 1) := by decide +kernel
theorem dX12_loafMany_1 : decode cX12_loafMany 1 = .ok (.getfield 108, 3) := by decide +kernel
theorem dX12_loafMany_4 : decode cX12_loafMany 4 = .ok (.bipush 7, 2) := by decide +kernel
theorem dX12_loafMany_6 : decode cX12_loafMany 6 = .ok (.iaload, 1) := by decide +kernel
theorem dX12_loafMany_7 : decode cX12_loafMany 7 = .ok (.ireturn, 1) := by decide +kernel
theorem dX12_deedMany_0 : decode cX12_deedMany 0 = .ok (.aload_n 0, 1) := by decide +kernel
theorem dX12_deedMany_1 : decode cX12_deedMany 1 = .ok (.getfield 108, 3) := by decide +kernel
theorem dX12_deedMany_4 : decode cX12_deedMany 4 = .ok (.bipush 8, 2) := by decide +kernel
theorem dX12_deedMany_6 : decode cX12_deedMany 6 = .ok (.iaload, 1) := by decide +kernel
theorem dX12_deedMany_7 : decode cX12_deedMany 7 = .ok (.ireturn, 1) := by decide +kernel
theorem dX12_isMood_0 : decode cX12_isMood 0 = .ok (.iload_n 1, 1) := by decide +kernel
theorem dX12_isMood_1 : decode cX12_isMood 1 = .ok (.i2l, 1) := by decide +kernel
theorem dX12_isMood_2 : decode cX12_isMood 2 = .ok (.lconst 0, 1) := by decide +kernel
theorem dX12_isMood_3 : decode cX12_isMood 3 = .ok (.aload_n 0, 1) := by decide +kernel
theorem dX12_isMood_4 : decode cX12_isMood 4 = .ok (.invokevirtual 404, 3) := by decide +kernel
theorem dX12_isMood_7 : decode cX12_isMood 7 = .ok (.iconst 1, 1) := by decide +kernel
theorem dX12_isMood_8 : decode cX12_isMood 8 = .ok (.isub, 1) := by decide +kernel
theorem dX12_isMood_9 : decode cX12_isMood 9 = .ok (.i2l, 1) := by decide +kernel
theorem dX12_isMood_10 : decode cX12_isMood 10 = .ok (.invokestatic 282, 3) := by decide +kernel
theorem dX12_isMood_13 : decode cX12_isMood 13 = .ok (.ireturn, 1) := by decide +kernel
theorem dX12_isPerson_0 : decode cX12_isPerson 0 = .ok (.iload_n 1, 1) := by decide +kernel
theorem dX12_isPerson_1 : decode cX12_isPerson 1 = .ok (.i2l, 1) := by decide +kernel
theorem dX12_isPerson_2 : decode cX12_isPerson 2 = .ok (.lconst 0, 1) := by decide +kernel
theorem dX12_isPerson_3 : decode cX12_isPerson 3 = .ok (.aload_n 0, 1) := by decide +kernel
theorem dX12_isPerson_4 : decode cX12_isPerson 4 = .ok (.invokevirtual 407, 3) := by decide +kernel
theorem dX12_isPerson_7 : decode cX12_isPerson 7 = .ok (.iconst 1, 1) := by decide +kernel
theorem dX12_isPerson_8 : decode cX12_isPerson 8 = .ok (.isub, 1) := by decide +kernel
theorem dX12_isPerson_9 : decode cX12_isPerson 9 = .ok (.i2l, 1) := by decide +kernel
theorem dX12_isPerson_10 : decode cX12_isPerson 10 = .ok (.invokestatic 282, 3) := by decide +kernel
theorem dX12_isPerson_13 : decode cX12_isPerson 13 = .ok (.ireturn, 1) := by decide +kernel
theorem dX12_isLoaf_0 : decode cX12_isLoaf 0 = .ok (.iload_n 1, 1) := by decide +kernel
theorem dX12_isLoaf_1 : decode cX12_isLoaf 1 = .ok (.i2l, 1) := by decide +kernel
theorem dX12_isLoaf_2 : decode cX12_isLoaf 2 = .ok (.lconst 0, 1) := by decide +kernel
theorem dX12_isLoaf_3 : decode cX12_isLoaf 3 = .ok (.aload_n 0, 1) := by decide +kernel
theorem dX12_isLoaf_4 : decode cX12_isLoaf 4 = .ok (.invokevirtual 410, 3) := by decide +kernel
theorem dX12_isLoaf_7 : decode cX12_isLoaf 7 = .ok (.iconst 1, 1) := by decide +kernel
theorem dX12_isLoaf_8 : decode cX12_isLoaf 8 = .ok (.isub, 1) := by decide +kernel
theorem dX12_isLoaf_9 : decode cX12_isLoaf 9 = .ok (.i2l, 1) := by decide +kernel
theorem dX12_isLoaf_10 : decode cX12_isLoaf 10 = .ok (.invokestatic 282, 3) := by decide +kernel
theorem dX12_isLoaf_13 : decode cX12_isLoaf 13 = .ok (.ireturn, 1) := by decide +kernel
theorem dX12_isDeed_0 : decode cX12_isDeed 0 = .ok (.iload_n 1, 1) := by decide +kernel
theorem dX12_isDeed_1 : decode cX12_isDeed 1 = .ok (.i2l, 1) := by decide +kernel
theorem dX12_isDeed_2 : decode cX12_isDeed 2 = .ok (.lconst 0, 1) := by decide +kernel
theorem dX12_isDeed_3 : decode cX12_isDeed 3 = .ok (.aload_n 0, 1) := by decide +kernel
theorem dX12_isDeed_4 : decode cX12_isDeed 4 = .ok (.invokevirtual 413, 3) := by decide +kernel
theorem dX12_isDeed_7 : decode cX12_isDeed 7 = .ok (.iconst 1, 1) := by decide +kernel
theorem dX12_isDeed_8 : decode cX12_isDeed 8 = .ok (.isub, 1) := by decide +kernel
theorem dX12_isDeed_9 : decode cX12_isDeed 9 = .ok (.i2l, 1) := by decide +kernel
theorem dX12_isDeed_10 : decode cX12_isDeed 10 = .ok (.invokestatic 282, 3) := by decide +kernel
theorem dX12_isDeed_13 : decode cX12_isDeed 13 = .ok (.ireturn, 1) := by decide +kernel
theorem dX12_natureOf_0 : decode cX12_natureOf 0 = .ok (.aload_n 0, 1) := by decide +kernel
theorem dX12_natureOf_1 : decode cX12_natureOf 1 = .ok (.getfield 136, 3) := by decide +kernel
theorem dX12_natureOf_4 : decode cX12_natureOf 4 = .ok (.iconst 1, 1) := by decide +kernel
theorem dX12_natureOf_5 : decode cX12_natureOf 5 = .ok (.bipush 8, 2) := by decide +kernel
theorem dX12_natureOf_7 : decode cX12_natureOf 7 = .ok (.iload_n 1, 1) := by decide +kernel
theorem dX12_natureOf_8 : decode cX12_natureOf 8 = .ok (.imul, 1) := by decide +kernel
theorem dX12_natureOf_9 : decode cX12_natureOf 9 = .ok (.iadd, 1) := by decide +kernel
theorem dX12_natureOf_10 : decode cX12_natureOf 10 = .ok (.iload_n 2, 1) := by decide +kernel
theorem dX12_natureOf_11 : decode cX12_natureOf 11 = .ok (.iadd, 1) := by decide +kernel
theorem dX12_natureOf_12 : decode cX12_natureOf 12 = .ok (.iaload, 1) := by decide +kernel
theorem dX12_natureOf_13 : decode cX12_natureOf 13 = .ok (.ireturn, 1) := by decide +kernel
theorem dX12_nowOf_0 : decode cX12_nowOf 0 = .ok (.aload_n 0, 1) := by decide +kernel
theorem dX12_nowOf_1 : decode cX12_nowOf 1 = .ok (.getfield 136, 3) := by decide +kernel
theorem dX12_nowOf_4 : decode cX12_nowOf 4 = .ok (.iconst 1, 1) := by decide +kernel
theorem dX12_nowOf_5 : decode cX12_nowOf 5 = .ok (.bipush 8, 2) := by decide +kernel
theorem dX12_nowOf_7 : decode cX12_nowOf 7 = .ok (.iload_n 1, 1) := by decide +kernel
theorem dX12_nowOf_8 : decode cX12_nowOf 8 = .ok (.imul, 1) := by decide +kernel
theorem dX12_nowOf_9 : decode cX12_nowOf 9 = .ok (.iadd, 1) := by decide +kernel
theorem dX12_nowOf_10 : decode cX12_nowOf 10 = .ok (.iconst 4, 1) := by decide +kernel
theorem dX12_nowOf_11 : decode cX12_nowOf 11 = .ok (.iadd, 1) := by decide +kernel
theorem dX12_nowOf_12 : decode cX12_nowOf 12 = .ok (.iload_n 2, 1) := by decide +kernel
theorem dX12_nowOf_13 : decode cX12_nowOf 13 = .ok (.iadd, 1) := by decide +kernel
theorem dX12_nowOf_14 : decode cX12_nowOf 14 = .ok (.iaload, 1) := by decide +kernel
theorem dX12_nowOf_15 : decode cX12_nowOf 15 = .ok (.ireturn, 1) := by decide +kernel
theorem dX12_whoKnead_0 : decode cX12_whoKnead 0 = .ok (.aload_n 0, 1) := by decide +kernel
theorem dX12_whoKnead_1 : decode cX12_whoKnead 1 = .ok (.getfield 136, 3) := by decide +kernel
theorem dX12_whoKnead_4 : decode cX12_whoKnead 4 = .ok (.bipush 65, 2) := by decide +kernel
theorem dX12_whoKnead_6 : decode cX12_whoKnead 6 = .ok (.iconst 5, 1) := by decide +kernel
theorem dX12_whoKnead_7 : decode cX12_whoKnead 7 = .ok (.iload_n 1, 1) := by decide +kernel
theorem dX12_whoKnead_8 : decode cX12_whoKnead 8 = .ok (.imul, 1) := by decide +kernel
theorem dX12_whoKnead_9 : decode cX12_whoKnead 9 = .ok (.iadd, 1) := by decide +kernel
theorem dX12_whoKnead_10 : decode cX12_whoKnead 10 = .ok (.iaload, 1) := by decide +kernel
theorem dX12_whoKnead_11 : decode cX12_whoKnead 11 = .ok (.ireturn, 1) := by decide +kernel
theorem dX12_loafIs_0 : decode cX12_loafIs 0 = .ok (.aload_n 0, 1) := by decide +kernel
theorem dX12_loafIs_1 : decode cX12_loafIs 1 = .ok (.getfield 136, 3) := by decide +kernel
theorem dX12_loafIs_4 : decode cX12_loafIs 4 = .ok (.bipush 65, 2) := by decide +kernel
theorem dX12_loafIs_6 : decode cX12_loafIs 6 = .ok (.iconst 5, 1) := by decide +kernel
theorem dX12_loafIs_7 : decode cX12_loafIs 7 = .ok (.iload_n 1, 1) := by decide +kernel
theorem dX12_loafIs_8 : decode cX12_loafIs 8 = .ok (.imul, 1) := by decide +kernel
theorem dX12_loafIs_9 : decode cX12_loafIs 9 = .ok (.iadd, 1) := by decide +kernel
theorem dX12_loafIs_10 : decode cX12_loafIs 10 = .ok (.iconst 1, 1) := by decide +kernel
theorem dX12_loafIs_11 : decode cX12_loafIs 11 = .ok (.iadd, 1) := by decide +kernel
theorem dX12_loafIs_12 : decode cX12_loafIs 12 = .ok (.iload_n 2, 1) := by decide +kernel
theorem dX12_loafIs_13 : decode cX12_loafIs 13 = .ok (.iadd, 1) := by decide +kernel
theorem dX12_loafIs_14 : decode cX12_loafIs 14 = .ok (.iaload, 1) := by decide +kernel
theorem dX12_loafIs_15 : decode cX12_loafIs 15 = .ok (.ireturn, 1) := by decide +kernel
theorem dX12_leavenOf_0 : decode cX12_leavenOf 0 = .ok (.aload_n 0, 1) := by decide +kernel
theorem dX12_leavenOf_1 : decode cX12_leavenOf 1 = .ok (.getfield 118, 3) := by decide +kernel
theorem dX12_leavenOf_4 : decode cX12_leavenOf 4 = .ok (.bipush 12, 2) := by decide +kernel
theorem dX12_leavenOf_6 : decode cX12_leavenOf 6 = .ok (.iconst 2, 1) := by decide +kernel
theorem dX12_leavenOf_7 : decode cX12_leavenOf 7 = .ok (.iload_n 1, 1) := by decide +kernel
theorem dX12_leavenOf_8 : decode cX12_leavenOf 8 = .ok (.imul, 1) := by decide +kernel
theorem dX12_leavenOf_9 : decode cX12_leavenOf 9 = .ok (.iadd, 1) := by decide +kernel
theorem dX12_leavenOf_10 : decode cX12_leavenOf 10 = .ok (.iaload, 1) := by decide +kernel
theorem dX12_leavenOf_11 : decode cX12_leavenOf 11 = .ok (.ireturn, 1) := by decide +kernel
theorem dX12_putsAside_0 : decode cX12_putsAside 0 = .ok (.iconst 0, 1) := by decide +kernel
theorem dX12_putsAside_1 : decode cX12_putsAside 1 = .ok (.istore_n 1, 1) := by decide +kernel
theorem dX12_putsAside_2 : decode cX12_putsAside 2 = .ok (.iload_n 1, 1) := by decide +kernel
theorem dX12_putsAside_3 : decode cX12_putsAside 3 = .ok (.bipush 95, 2) := by decide +kernel
theorem dX12_putsAside_5 : decode cX12_putsAside 5 = .ok (.if_icmp .ge 21, 3) := by decide +kernel
theorem dX12_putsAside_8 : decode cX12_putsAside 8 = .ok (.aload_n 0, 1) := by decide +kernel
theorem dX12_putsAside_9 : decode cX12_putsAside 9 = .ok (.getfield 139, 3) := by decide +kernel
theorem dX12_putsAside_12 : decode cX12_putsAside 12 = .ok (.iload_n 1, 1) := by decide +kernel
theorem dX12_putsAside_13 : decode cX12_putsAside 13 = .ok (.aload_n 0, 1) := by decide +kernel
theorem dX12_putsAside_14 : decode cX12_putsAside 14 = .ok (.getfield 136, 3) := by decide +kernel
theorem dX12_putsAside_17 : decode cX12_putsAside 17 = .ok (.iload_n 1, 1) := by decide +kernel
theorem dX12_putsAside_18 : decode cX12_putsAside 18 = .ok (.iaload, 1) := by decide +kernel
theorem dX12_putsAside_19 : decode cX12_putsAside 19 = .ok (.iastore, 1) := by decide +kernel
theorem dX12_putsAside_20 : decode cX12_putsAside 20 = .ok (.iinc 1 1, 3) := by decide +kernel
theorem dX12_putsAside_23 : decode cX12_putsAside 23 = .ok (.goto (-21), 3) := by decide +kernel
theorem dX12_putsAside_26 : decode cX12_putsAside 26 = .ok (.return_, 1) := by decide +kernel
theorem dX12_takesBack_0 : decode cX12_takesBack 0 = .ok (.iconst 0, 1) := by decide +kernel
theorem dX12_takesBack_1 : decode cX12_takesBack 1 = .ok (.istore_n 1, 1) := by decide +kernel
theorem dX12_takesBack_2 : decode cX12_takesBack 2 = .ok (.iload_n 1, 1) := by decide +kernel
theorem dX12_takesBack_3 : decode cX12_takesBack 3 = .ok (.bipush 95, 2) := by decide +kernel
theorem dX12_takesBack_5 : decode cX12_takesBack 5 = .ok (.if_icmp .ge 21, 3) := by decide +kernel
theorem dX12_takesBack_8 : decode cX12_takesBack 8 = .ok (.aload_n 0, 1) := by decide +kernel
theorem dX12_takesBack_9 : decode cX12_takesBack 9 = .ok (.getfield 136, 3) := by decide +kernel
theorem dX12_takesBack_12 : decode cX12_takesBack 12 = .ok (.iload_n 1, 1) := by decide +kernel
theorem dX12_takesBack_13 : decode cX12_takesBack 13 = .ok (.aload_n 0, 1) := by decide +kernel
theorem dX12_takesBack_14 : decode cX12_takesBack 14 = .ok (.getfield 139, 3) := by decide +kernel
theorem dX12_takesBack_17 : decode cX12_takesBack 17 = .ok (.iload_n 1, 1) := by decide +kernel
theorem dX12_takesBack_18 : decode cX12_takesBack 18 = .ok (.iaload, 1) := by decide +kernel
theorem dX12_takesBack_19 : decode cX12_takesBack 19 = .ok (.iastore, 1) := by decide +kernel
theorem dX12_takesBack_20 : decode cX12_takesBack 20 = .ok (.iinc 1 1, 3) := by decide +kernel
theorem dX12_takesBack_23 : decode cX12_takesBack 23 = .ok (.goto (-21), 3) := by decide +kernel
theorem dX12_takesBack_26 : decode cX12_takesBack 26 = .ok (.return_, 1) := by decide +kernel
theorem dX12_bits_0 : decode cX12_bits 0 = .ok (.iconst 0, 1) := by decide +kernel
theorem dX12_bits_1 : decode cX12_bits 1 = .ok (.istore_n 1, 1) := by decide +kernel
theorem dX12_bits_2 : decode cX12_bits 2 = .ok (.iload_n 0, 1) := by decide +kernel
theorem dX12_bits_3 : decode cX12_bits 3 = .ok (.istore_n 2, 1) := by decide +kernel
theorem dX12_bits_4 : decode cX12_bits 4 = .ok (.iload_n 2, 1) := by decide +kernel
theorem dX12_bits_5 : decode cX12_bits 5 = .ok (.ifCond .eq 15, 3) := by decide +kernel
theorem dX12_bits_8 : decode cX12_bits 8 = .ok (.iinc 1 1, 3) := by decide +kernel
theorem dX12_bits_11 : decode cX12_bits 11 = .ok (.iload_n 2, 1) := by decide +kernel
theorem dX12_bits_12 : decode cX12_bits 12 = .ok (.iload_n 2, 1) := by decide +kernel
theorem dX12_bits_13 : decode cX12_bits 13 = .ok (.iconst 1, 1) := by decide +kernel
theorem dX12_bits_14 : decode cX12_bits 14 = .ok (.isub, 1) := by decide +kernel
theorem dX12_bits_15 : decode cX12_bits 15 = .ok (.iand, 1) := by decide +kernel
theorem dX12_bits_16 : decode cX12_bits 16 = .ok (.istore_n 2, 1) := by decide +kernel
theorem dX12_bits_17 : decode cX12_bits 17 = .ok (.goto (-13), 3) := by decide +kernel
theorem dX12_bits_20 : decode cX12_bits 20 = .ok (.iload_n 1, 1) := by decide +kernel
theorem dX12_bits_21 : decode cX12_bits 21 = .ok (.ireturn, 1) := by decide +kernel
theorem dX12_codesTell_0 : decode cX12_codesTell 0 = .ok (.aload_n 0, 1) := by decide +kernel
theorem dX12_codesTell_1 : decode cX12_codesTell 1 = .ok (.iconst 0, 1) := by decide +kernel
theorem dX12_codesTell_2 : decode cX12_codesTell 2 = .ok (.putfield 416, 3) := by decide +kernel
theorem dX12_codesTell_5 : decode cX12_codesTell 5 = .ok (.aload_n 0, 1) := by decide +kernel
theorem dX12_codesTell_6 : decode cX12_codesTell 6 = .ok (.getfield 127, 3) := by decide +kernel
theorem dX12_codesTell_9 : decode cX12_codesTell 9 = .ok (.bipush 8, 2) := by decide +kernel
theorem dX12_codesTell_11 : decode cX12_codesTell 11 = .ok (.iload_n 1, 1) := by decide +kernel
theorem dX12_codesTell_12 : decode cX12_codesTell 12 = .ok (.iadd, 1) := by decide +kernel
theorem dX12_codesTell_13 : decode cX12_codesTell 13 = .ok (.iaload, 1) := by decide +kernel
theorem dX12_codesTell_14 : decode cX12_codesTell 14 = .ok (.istore_n 2, 1) := by decide +kernel
theorem dX12_codesTell_15 : decode cX12_codesTell 15 = .ok (.iload_n 2, 1) := by decide +kernel
theorem dX12_codesTell_16 : decode cX12_codesTell 16 = .ok (.aload_n 0, 1) := by decide +kernel
theorem dX12_codesTell_17 : decode cX12_codesTell 17 = .ok (.getfield 130, 3) := by decide +kernel
theorem dX12_codesTell_20 : decode cX12_codesTell 20 = .ok (.bipush 8, 2) := by decide +kernel
theorem dX12_codesTell_22 : decode cX12_codesTell 22 = .ok (.iload_n 1, 1) := by decide +kernel
theorem dX12_codesTell_23 : decode cX12_codesTell 23 = .ok (.iadd, 1) := by decide +kernel
theorem dX12_codesTell_24 : decode cX12_codesTell 24 = .ok (.iaload, 1) := by decide +kernel
theorem dX12_codesTell_25 : decode cX12_codesTell 25 = .ok (.if_icmp .ge 154, 3) := by decide +kernel
theorem dX12_codesTell_28 : decode cX12_codesTell 28 = .ok (.aload_n 0, 1) := by decide +kernel
theorem dX12_codesTell_29 : decode cX12_codesTell 29 = .ok (.getfield 133, 3) := by decide +kernel
theorem dX12_codesTell_32 : decode cX12_codesTell 32 = .ok (.sipush 1600, 3) := by decide +kernel
theorem dX12_codesTell_35 : decode cX12_codesTell 35 = .ok (.iload_n 2, 1) := by decide +kernel
theorem dX12_codesTell_36 : decode cX12_codesTell 36 = .ok (.iadd, 1) := by decide +kernel
theorem dX12_codesTell_37 : decode cX12_codesTell 37 = .ok (.iaload, 1) := by decide +kernel
theorem dX12_codesTell_38 : decode cX12_codesTell 38 = .ok (.istore_n 3, 1) := by decide +kernel
theorem dX12_codesTell_39 : decode cX12_codesTell 39 = .ok (.iload_n 3, 1) := by decide +kernel
theorem dX12_codesTell_40 : decode cX12_codesTell 40 = .ok (.sipush 1000, 3) := by decide +kernel
theorem dX12_codesTell_43 : decode cX12_codesTell 43 = .ok (.if_icmp .lt 16, 3) := by decide +kernel
theorem dX12_codesTell_46 : decode cX12_codesTell 46 = .ok (.aload_n 0, 1) := by decide +kernel
theorem dX12_codesTell_47 : decode cX12_codesTell 47 = .ok (.iload_n 3, 1) := by decide +kernel
theorem dX12_codesTell_48 : decode cX12_codesTell 48 = .ok (.sipush 1000, 3) := by decide +kernel
theorem dX12_codesTell_51 : decode cX12_codesTell 51 = .ok (.isub, 1) := by decide +kernel
theorem dX12_codesTell_52 : decode cX12_codesTell 52 = .ok (.i2l, 1) := by decide +kernel
theorem dX12_codesTell_53 : decode cX12_codesTell 53 = .ok (.invokevirtual 419, 3) := by decide +kernel
theorem dX12_codesTell_56 : decode cX12_codesTell 56 = .ok (.goto 117, 3) := by decide +kernel
theorem dX12_codesTell_59 : decode cX12_codesTell 59 = .ok (.iload_n 3, 1) := by decide +kernel
theorem dX12_codesTell_60 : decode cX12_codesTell 60 = .ok (.bipush 60, 2) := by decide +kernel
theorem dX12_codesTell_62 : decode cX12_codesTell 62 = .ok (.if_icmp .lt 37, 3) := by decide +kernel
theorem dX12_codesTell_65 : decode cX12_codesTell 65 = .ok (.aload_n 0, 1) := by decide +kernel
theorem dX12_codesTell_66 : decode cX12_codesTell 66 = .ok (.getfield 233, 3) := by decide +kernel
theorem dX12_codesTell_69 : decode cX12_codesTell 69 = .ok (.aload_n 0, 1) := by decide +kernel
theorem dX12_codesTell_70 : decode cX12_codesTell 70 = .ok (.getfield 416, 3) := by decide +kernel
theorem dX12_codesTell_73 : decode cX12_codesTell 73 = .ok (.iconst 1, 1) := by decide +kernel
theorem dX12_codesTell_74 : decode cX12_codesTell 74 = .ok (.isub, 1) := by decide +kernel
theorem dX12_codesTell_75 : decode cX12_codesTell 75 = .ok (.aload_n 0, 1) := by decide +kernel
theorem dX12_codesTell_76 : decode cX12_codesTell 76 = .ok (.iload_n 3, 1) := by decide +kernel
theorem dX12_codesTell_77 : decode cX12_codesTell 77 = .ok (.bipush 60, 2) := by decide +kernel
theorem dX12_codesTell_79 : decode cX12_codesTell 79 = .ok (.isub, 1) := by decide +kernel
theorem dX12_codesTell_80 : decode cX12_codesTell 80 = .ok (.aload_n 0, 1) := by decide +kernel
theorem dX12_codesTell_81 : decode cX12_codesTell 81 = .ok (.getfield 233, 3) := by decide +kernel
theorem dX12_codesTell_84 : decode cX12_codesTell 84 = .ok (.aload_n 0, 1) := by decide +kernel
theorem dX12_codesTell_85 : decode cX12_codesTell 85 = .ok (.getfield 416, 3) := by decide +kernel
theorem dX12_codesTell_88 : decode cX12_codesTell 88 = .ok (.iconst 1, 1) := by decide +kernel
theorem dX12_codesTell_89 : decode cX12_codesTell 89 = .ok (.isub, 1) := by decide +kernel
theorem dX12_codesTell_90 : decode cX12_codesTell 90 = .ok (.laload, 1) := by decide +kernel
theorem dX12_codesTell_91 : decode cX12_codesTell 91 = .ok (.iconst 0, 1) := by decide +kernel
theorem dX12_codesTell_92 : decode cX12_codesTell 92 = .ok (.invokevirtual 423, 3) := by decide +kernel
theorem dX12_codesTell_95 : decode cX12_codesTell 95 = .ok (.lastore, 1) := by decide +kernel
theorem dX12_codesTell_96 : decode cX12_codesTell 96 = .ok (.goto 77, 3) := by decide +kernel
theorem dX12_codesTell_99 : decode cX12_codesTell 99 = .ok (.iload_n 3, 1) := by decide +kernel
theorem dX12_codesTell_100 : decode cX12_codesTell 100 = .ok (.bipush 40, 2) := by decide +kernel
theorem dX12_codesTell_102 : decode cX12_codesTell 102 = .ok (.if_icmp .lt 19, 3) := by decide +kernel
theorem dX12_codesTell_105 : decode cX12_codesTell 105 = .ok (.aload_n 0, 1) := by decide +kernel
theorem dX12_codesTell_106 : decode cX12_codesTell 106 = .ok (.aload_n 0, 1) := by decide +kernel
theorem dX12_codesTell_107 : decode cX12_codesTell 107 = .ok (.iload_n 3, 1) := by decide +kernel
theorem dX12_codesTell_108 : decode cX12_codesTell 108 = .ok (.bipush 40, 2) := by decide +kernel
theorem dX12_codesTell_110 : decode cX12_codesTell 110 = .ok (.isub, 1) := by decide +kernel
theorem dX12_codesTell_111 : decode cX12_codesTell 111 = .ok (.iconst 0, 1) := by decide +kernel
theorem dX12_codesTell_112 : decode cX12_codesTell 112 = .ok (.invokevirtual 427, 3) := by decide +kernel
theorem dX12_codesTell_115 : decode cX12_codesTell 115 = .ok (.invokevirtual 419, 3) := by decide +kernel
theorem dX12_codesTell_118 : decode cX12_codesTell 118 = .ok (.goto 55, 3) := by decide +kernel
theorem dX12_codesTell_121 : decode cX12_codesTell 121 = .ok (.iload_n 3, 1) := by decide +kernel
theorem dX12_codesTell_122 : decode cX12_codesTell 122 = .ok (.bipush 13, 2) := by decide +kernel
theorem dX12_codesTell_124 : decode cX12_codesTell 124 = .ok (.if_icmp .ne 11, 3) := by decide +kernel
theorem dX12_codesTell_127 : decode cX12_codesTell 127 = .ok (.aload_n 0, 1) := by decide +kernel
theorem dX12_codesTell_128 : decode cX12_codesTell 128 = .ok (.lconst 1, 1) := by decide +kernel
theorem dX12_codesTell_129 : decode cX12_codesTell 129 = .ok (.invokevirtual 419, 3) := by decide +kernel
theorem dX12_codesTell_132 : decode cX12_codesTell 132 = .ok (.goto 41, 3) := by decide +kernel
theorem dX12_codesTell_135 : decode cX12_codesTell 135 = .ok (.iload_n 3, 1) := by decide +kernel
theorem dX12_codesTell_136 : decode cX12_codesTell 136 = .ok (.bipush 12, 2) := by decide +kernel
theorem dX12_codesTell_138 : decode cX12_codesTell 138 = .ok (.if_icmp .ne 30, 3) := by decide +kernel
theorem dX12_codesTell_141 : decode cX12_codesTell 141 = .ok (.aload_n 0, 1) := by decide +kernel
theorem dX12_codesTell_142 : decode cX12_codesTell 142 = .ok (.getfield 233, 3) := by decide +kernel
theorem dX12_codesTell_145 : decode cX12_codesTell 145 = .ok (.aload_n 0, 1) := by decide +kernel
theorem dX12_codesTell_146 : decode cX12_codesTell 146 = .ok (.getfield 416, 3) := by decide +kernel
theorem dX12_codesTell_149 : decode cX12_codesTell 149 = .ok (.iconst 1, 1) := by decide +kernel
theorem dX12_codesTell_150 : decode cX12_codesTell 150 = .ok (.isub, 1) := by decide +kernel
theorem dX12_codesTell_151 : decode cX12_codesTell 151 = .ok (.lconst 1, 1) := by decide +kernel
theorem dX12_codesTell_152 : decode cX12_codesTell 152 = .ok (.aload_n 0, 1) := by decide +kernel
theorem dX12_codesTell_153 : decode cX12_codesTell 153 = .ok (.getfield 233, 3) := by decide +kernel
theorem dX12_codesTell_156 : decode cX12_codesTell 156 = .ok (.aload_n 0, 1) := by decide +kernel
theorem dX12_codesTell_157 : decode cX12_codesTell 157 = .ok (.getfield 416, 3) := by decide +kernel
theorem dX12_codesTell_160 : decode cX12_codesTell 160 = .ok (.iconst 1, 1) := by decide +kernel
theorem dX12_codesTell_161 : decode cX12_codesTell 161 = .ok (.isub, 1) := by decide +kernel
theorem dX12_codesTell_162 : decode cX12_codesTell 162 = .ok (.laload, 1) := by decide +kernel
theorem dX12_codesTell_163 : decode cX12_codesTell 163 = .ok (.lsub, 1) := by decide +kernel
theorem dX12_codesTell_164 : decode cX12_codesTell 164 = .ok (.lastore, 1) := by decide +kernel
theorem dX12_codesTell_165 : decode cX12_codesTell 165 = .ok (.goto 8, 3) := by decide +kernel
theorem dX12_codesTell_168 : decode cX12_codesTell 168 = .ok (.aload_n 0, 1) := by decide +kernel
theorem dX12_codesTell_169 : decode cX12_codesTell 169 = .ok (.iload_n 3, 1) := by decide +kernel
theorem dX12_codesTell_170 : decode cX12_codesTell 170 = .ok (.invokevirtual 431, 3) := by decide +kernel
theorem dX12_codesTell_173 : decode cX12_codesTell 173 = .ok (.iinc 2 1, 3) := by decide +kernel
theorem dX12_codesTell_176 : decode cX12_codesTell 176 = .ok (.goto (-161), 3) := by decide +kernel
theorem dX12_codesTell_179 : decode cX12_codesTell 179 = .ok (.aload_n 0, 1) := by decide +kernel
theorem dX12_codesTell_180 : decode cX12_codesTell 180 = .ok (.getfield 233, 3) := by decide +kernel
theorem dX12_codesTell_183 : decode cX12_codesTell 183 = .ok (.iconst 0, 1) := by decide +kernel
theorem dX12_codesTell_184 : decode cX12_codesTell 184 = .ok (.laload, 1) := by decide +kernel
theorem dX12_codesTell_185 : decode cX12_codesTell 185 = .ok (.lreturn, 1) := by decide +kernel
theorem dX12_made_0 : decode cX12_made 0 = .ok (.aload_n 0, 1) := by decide +kernel
theorem dX12_made_1 : decode cX12_made 1 = .ok (.getfield 127, 3) := by decide +kernel
theorem dX12_made_4 : decode cX12_made 4 = .ok (.bipush 8, 2) := by decide +kernel
theorem dX12_made_6 : decode cX12_made 6 = .ok (.iload_n 1, 1) := by decide +kernel
theorem dX12_made_7 : decode cX12_made 7 = .ok (.iadd, 1) := by decide +kernel
theorem dX12_made_8 : decode cX12_made 8 = .ok (.iaload, 1) := by decide +kernel
theorem dX12_made_9 : decode cX12_made 9 = .ok (.iconst (-1), 1) := by decide +kernel
theorem dX12_made_10 : decode cX12_made 10 = .ok (.if_icmp .ne 6, 3) := by decide +kernel
theorem dX12_made_13 : decode cX12_made 13 = .ok (.iload 5, 2) := by decide +kernel
theorem dX12_made_15 : decode cX12_made 15 = .ok (.ireturn, 1) := by decide +kernel
theorem dX12_made_16 : decode cX12_made 16 = .ok (.aload_n 0, 1) := by decide +kernel
theorem dX12_made_17 : decode cX12_made 17 = .ok (.aload_n 0, 1) := by decide +kernel
theorem dX12_made_18 : decode cX12_made 18 = .ok (.iload_n 2, 1) := by decide +kernel
theorem dX12_made_19 : decode cX12_made 19 = .ok (.iload_n 3, 1) := by decide +kernel
theorem dX12_made_20 : decode cX12_made 20 = .ok (.invokevirtual 434, 3) := by decide +kernel
theorem dX12_made_23 : decode cX12_made 23 = .ok (.i2l, 1) := by decide +kernel
theorem dX12_made_24 : decode cX12_made 24 = .ok (.putfield 437, 3) := by decide +kernel
theorem dX12_made_27 : decode cX12_made 27 = .ok (.aload_n 0, 1) := by decide +kernel
theorem dX12_made_28 : decode cX12_made 28 = .ok (.aload_n 0, 1) := by decide +kernel
theorem dX12_made_29 : decode cX12_made 29 = .ok (.iload_n 2, 1) := by decide +kernel
theorem dX12_made_30 : decode cX12_made 30 = .ok (.iload_n 3, 1) := by decide +kernel
theorem dX12_made_31 : decode cX12_made 31 = .ok (.invokevirtual 440, 3) := by decide +kernel
theorem dX12_made_34 : decode cX12_made 34 = .ok (.i2l, 1) := by decide +kernel
theorem dX12_made_35 : decode cX12_made 35 = .ok (.putfield 443, 3) := by decide +kernel
theorem dX12_made_38 : decode cX12_made 38 = .ok (.aload_n 0, 1) := by decide +kernel
theorem dX12_made_39 : decode cX12_made 39 = .ok (.iload 4, 2) := by decide +kernel
theorem dX12_made_41 : decode cX12_made 41 = .ok (.i2l, 1) := by decide +kernel
theorem dX12_made_42 : decode cX12_made 42 = .ok (.putfield 446, 3) := by decide +kernel
theorem dX12_made_45 : decode cX12_made 45 = .ok (.aload_n 0, 1) := by decide +kernel
theorem dX12_made_46 : decode cX12_made 46 = .ok (.iload_n 3, 1) := by decide +kernel
theorem dX12_made_47 : decode cX12_made 47 = .ok (.i2l, 1) := by decide +kernel
theorem dX12_made_48 : decode cX12_made 48 = .ok (.putfield 449, 3) := by decide +kernel
theorem dX12_made_51 : decode cX12_made 51 = .ok (.aload_n 0, 1) := by decide +kernel
theorem dX12_made_52 : decode cX12_made 52 = .ok (.iload_n 1, 1) := by decide +kernel
theorem dX12_made_53 : decode cX12_made 53 = .ok (.invokevirtual 452, 3) := by decide +kernel
theorem dX12_made_56 : decode cX12_made 56 = .ok (.lstore 6, 2) := by decide +kernel
theorem dX12_made_58 : decode cX12_made 58 = .ok (.lload 6, 2) := by decide +kernel
theorem dX12_made_60 : decode cX12_made 60 = .ok (.lconst 0, 1) := by decide +kernel
theorem dX12_made_61 : decode cX12_made 61 = .ok (.lcmp, 1) := by decide +kernel
theorem dX12_made_62 : decode cX12_made 62 = .ok (.ifCond .ge 7, 3) := by decide +kernel
theorem dX12_made_65 : decode cX12_made 65 = .ok (.iconst 0, 1) := by decide +kernel
theorem dX12_made_66 : decode cX12_made 66 = .ok (.goto 20, 3) := by decide +kernel
theorem dX12_made_69 : decode cX12_made 69 = .ok (.lload 6, 2) := by decide +kernel
theorem dX12_made_71 : decode cX12_made 71 = .ok (.ldc2_w 456, 3) := by decide +kernel
theorem dX12_made_74 : decode cX12_made 74 = .ok (.lcmp, 1) := by decide +kernel
theorem dX12_made_75 : decode cX12_made 75 = .ok (.ifCond .le 8, 3) := by decide +kernel
theorem dX12_made_78 : decode cX12_made 78 = .ok (.bipush 99, 2) := by decide +kernel
theorem dX12_made_80 : decode cX12_made 80 = .ok (.goto 6, 3) := by decide +kernel
theorem dX12_made_83 : decode cX12_made 83 = .ok (.lload 6, 2) := by decide +kernel
theorem dX12_made_85 : decode cX12_made 85 = .ok (.l2i, 1) := by decide +kernel
theorem dX12_made_86 : decode cX12_made 86 = .ok (.ireturn, 1) := by decide +kernel
theorem dX12_isDone_0 : decode cX12_isDone 0 = .ok (.aload_n 0, 1) := by decide +kernel
theorem dX12_isDone_1 : decode cX12_isDone 1 = .ok (.iload_n 1, 1) := by decide +kernel
theorem dX12_isDone_2 : decode cX12_isDone 2 = .ok (.putfield 458, 3) := by decide +kernel
theorem dX12_isDone_5 : decode cX12_isDone 5 = .ok (.aload_n 0, 1) := by decide +kernel
theorem dX12_isDone_6 : decode cX12_isDone 6 = .ok (.iconst 2, 1) := by decide +kernel
theorem dX12_isDone_7 : decode cX12_isDone 7 = .ok (.iload_n 2, 1) := by decide +kernel
theorem dX12_isDone_8 : decode cX12_isDone 8 = .ok (.iadd, 1) := by decide +kernel
theorem dX12_isDone_9 : decode cX12_isDone 9 = .ok (.invokevirtual 452, 3) := by decide +kernel
theorem dX12_isDone_12 : decode cX12_isDone 12 = .ok (.lconst 1, 1) := by decide +kernel
theorem dX12_isDone_13 : decode cX12_isDone 13 = .ok (.lcmp, 1) := by decide +kernel
theorem dX12_isDone_14 : decode cX12_isDone 14 = .ok (.ifCond .ne 7, 3) := by decide +kernel
theorem dX12_isDone_17 : decode cX12_isDone 17 = .ok (.iconst 1, 1) := by decide +kernel
theorem dX12_isDone_18 : decode cX12_isDone 18 = .ok (.goto 4, 3) := by decide +kernel
theorem dX12_isDone_21 : decode cX12_isDone 21 = .ok (.iconst 0, 1) := by decide +kernel
theorem dX12_isDone_22 : decode cX12_isDone 22 = .ok (.ireturn, 1) := by decide +kernel
theorem dX12_doneBy_0 : decode cX12_doneBy 0 = .ok (.iconst 0, 1) := by decide +kernel
theorem dX12_doneBy_1 : decode cX12_doneBy 1 = .ok (.istore_n 2, 1) := by decide +kernel
theorem dX12_doneBy_2 : decode cX12_doneBy 2 = .ok (.iconst 0, 1) := by decide +kernel
theorem dX12_doneBy_3 : decode cX12_doneBy 3 = .ok (.istore_n 3, 1) := by decide +kernel
theorem dX12_doneBy_4 : decode cX12_doneBy 4 = .ok (.iload_n 3, 1) := by decide +kernel
theorem dX12_doneBy_5 : decode cX12_doneBy 5 = .ok (.aload_n 0, 1) := by decide +kernel
theorem dX12_doneBy_6 : decode cX12_doneBy 6 = .ok (.invokevirtual 413, 3) := by decide +kernel
theorem dX12_doneBy_9 : decode cX12_doneBy 9 = .ok (.if_icmp .ge 24, 3) := by decide +kernel
theorem dX12_doneBy_12 : decode cX12_doneBy 12 = .ok (.aload_n 0, 1) := by decide +kernel
theorem dX12_doneBy_13 : decode cX12_doneBy 13 = .ok (.iload_n 1, 1) := by decide +kernel
theorem dX12_doneBy_14 : decode cX12_doneBy 14 = .ok (.iload_n 3, 1) := by decide +kernel
theorem dX12_doneBy_15 : decode cX12_doneBy 15 = .ok (.invokevirtual 461, 3) := by decide +kernel
theorem dX12_doneBy_18 : decode cX12_doneBy 18 = .ok (.ifCond .eq 9, 3) := by decide +kernel
theorem dX12_doneBy_21 : decode cX12_doneBy 21 = .ok (.iload_n 2, 1) := by decide +kernel
theorem dX12_doneBy_22 : decode cX12_doneBy 22 = .ok (.iconst 1, 1) := by decide +kernel
theorem dX12_doneBy_23 : decode cX12_doneBy 23 = .ok (.iload_n 3, 1) := by decide +kernel
theorem dX12_doneBy_24 : decode cX12_doneBy 24 = .ok (.ishl, 1) := by decide +kernel
theorem dX12_doneBy_25 : decode cX12_doneBy 25 = .ok (.ior, 1) := by decide +kernel
theorem dX12_doneBy_26 : decode cX12_doneBy 26 = .ok (.istore_n 2, 1) := by decide +kernel
theorem dX12_doneBy_27 : decode cX12_doneBy 27 = .ok (.iinc 3 1, 3) := by decide +kernel
theorem dX12_doneBy_30 : decode cX12_doneBy 30 = .ok (.goto (-26), 3) := by decide +kernel
theorem dX12_doneBy_33 : decode cX12_doneBy 33 = .ok (.iload_n 2, 1) := by decide +kernel
theorem dX12_doneBy_34 : decode cX12_doneBy 34 = .ok (.ireturn, 1) := by decide +kernel
theorem dX12_bakes_0 : decode cX12_bakes 0 = .ok (.aload_n 0, 1) := by decide +kernel
theorem dX12_bakes_1 : decode cX12_bakes 1 = .ok (.iload_n 1, 1) := by decide +kernel
theorem dX12_bakes_2 : decode cX12_bakes 2 = .ok (.invokevirtual 465, 3) := by decide +kernel
theorem dX12_bakes_5 : decode cX12_bakes 5 = .ok (.istore_n 2, 1) := by decide +kernel
theorem dX12_bakes_6 : decode cX12_bakes 6 = .ok (.iload_n 2, 1) := by decide +kernel
theorem dX12_bakes_7 : decode cX12_bakes 7 = .ok (.invokestatic 327, 3) := by decide +kernel
theorem dX12_bakes_10 : decode cX12_bakes 10 = .ok (.istore_n 3, 1) := by decide +kernel
theorem dX12_bakes_11 : decode cX12_bakes 11 = .ok (.iconst 0, 1) := by decide +kernel
theorem dX12_bakes_12 : decode cX12_bakes 12 = .ok (.istore 4, 2) := by decide +kernel
theorem dX12_bakes_14 : decode cX12_bakes 14 = .ok (.iload 4, 2) := by decide +kernel
theorem dX12_bakes_16 : decode cX12_bakes 16 = .ok (.aload_n 0, 1) := by decide +kernel
theorem dX12_bakes_17 : decode cX12_bakes 17 = .ok (.invokevirtual 404, 3) := by decide +kernel
theorem dX12_bakes_20 : decode cX12_bakes 20 = .ok (.if_icmp .ge 101, 3) := by decide +kernel
theorem dX12_bakes_23 : decode cX12_bakes 23 = .ok (.iconst 0, 1) := by decide +kernel
theorem dX12_bakes_24 : decode cX12_bakes 24 = .ok (.istore 5, 2) := by decide +kernel
theorem dX12_bakes_26 : decode cX12_bakes 26 = .ok (.iconst 0, 1) := by decide +kernel
theorem dX12_bakes_27 : decode cX12_bakes 27 = .ok (.istore 6, 2) := by decide +kernel
theorem dX12_bakes_29 : decode cX12_bakes 29 = .ok (.iload 6, 2) := by decide +kernel
theorem dX12_bakes_31 : decode cX12_bakes 31 = .ok (.aload_n 0, 1) := by decide +kernel
theorem dX12_bakes_32 : decode cX12_bakes 32 = .ok (.invokevirtual 407, 3) := by decide +kernel
theorem dX12_bakes_35 : decode cX12_bakes 35 = .ok (.if_icmp .ge 32, 3) := by decide +kernel
theorem dX12_bakes_38 : decode cX12_bakes 38 = .ok (.iload_n 2, 1) := by decide +kernel
theorem dX12_bakes_39 : decode cX12_bakes 39 = .ok (.iload 6, 2) := by decide +kernel
theorem dX12_bakes_41 : decode cX12_bakes 41 = .ok (.ishr, 1) := by decide +kernel
theorem dX12_bakes_42 : decode cX12_bakes 42 = .ok (.iconst 1, 1) := by decide +kernel
theorem dX12_bakes_43 : decode cX12_bakes 43 = .ok (.iand, 1) := by decide +kernel
theorem dX12_bakes_44 : decode cX12_bakes 44 = .ok (.iconst 1, 1) := by decide +kernel
theorem dX12_bakes_45 : decode cX12_bakes 45 = .ok (.if_icmp .ne 16, 3) := by decide +kernel
theorem dX12_bakes_48 : decode cX12_bakes 48 = .ok (.iload 5, 2) := by decide +kernel
theorem dX12_bakes_50 : decode cX12_bakes 50 = .ok (.aload_n 0, 1) := by decide +kernel
theorem dX12_bakes_51 : decode cX12_bakes 51 = .ok (.iload 6, 2) := by decide +kernel
theorem dX12_bakes_53 : decode cX12_bakes 53 = .ok (.iload 4, 2) := by decide +kernel
theorem dX12_bakes_55 : decode cX12_bakes 55 = .ok (.invokevirtual 440, 3) := by decide +kernel
theorem dX12_bakes_58 : decode cX12_bakes 58 = .ok (.iadd, 1) := by decide +kernel
theorem dX12_bakes_59 : decode cX12_bakes 59 = .ok (.istore 5, 2) := by decide +kernel
theorem dX12_bakes_61 : decode cX12_bakes 61 = .ok (.iinc 6 1, 3) := by decide +kernel
theorem dX12_bakes_64 : decode cX12_bakes 64 = .ok (.goto (-35), 3) := by decide +kernel
theorem dX12_bakes_67 : decode cX12_bakes 67 = .ok (.aload_n 0, 1) := by decide +kernel
theorem dX12_bakes_68 : decode cX12_bakes 68 = .ok (.getfield 136, 3) := by decide +kernel
theorem dX12_bakes_71 : decode cX12_bakes 71 = .ok (.bipush 65, 2) := by decide +kernel
theorem dX12_bakes_73 : decode cX12_bakes 73 = .ok (.iconst 5, 1) := by decide +kernel
theorem dX12_bakes_74 : decode cX12_bakes 74 = .ok (.iload_n 1, 1) := by decide +kernel
theorem dX12_bakes_75 : decode cX12_bakes 75 = .ok (.imul, 1) := by decide +kernel
theorem dX12_bakes_76 : decode cX12_bakes 76 = .ok (.iadd, 1) := by decide +kernel
theorem dX12_bakes_77 : decode cX12_bakes 77 = .ok (.iconst 1, 1) := by decide +kernel
theorem dX12_bakes_78 : decode cX12_bakes 78 = .ok (.iadd, 1) := by decide +kernel
theorem dX12_bakes_79 : decode cX12_bakes 79 = .ok (.iload 4, 2) := by decide +kernel
theorem dX12_bakes_81 : decode cX12_bakes 81 = .ok (.iadd, 1) := by decide +kernel
theorem dX12_bakes_82 : decode cX12_bakes 82 = .ok (.bipush 100, 2) := by decide +kernel
theorem dX12_bakes_84 : decode cX12_bakes 84 = .ok (.aload_n 0, 1) := by decide +kernel
theorem dX12_bakes_85 : decode cX12_bakes 85 = .ok (.iload_n 1, 1) := by decide +kernel
theorem dX12_bakes_86 : decode cX12_bakes 86 = .ok (.invokevirtual 468, 3) := by decide +kernel
theorem dX12_bakes_89 : decode cX12_bakes 89 = .ok (.isub, 1) := by decide +kernel
theorem dX12_bakes_90 : decode cX12_bakes 90 = .ok (.iload 5, 2) := by decide +kernel
theorem dX12_bakes_92 : decode cX12_bakes 92 = .ok (.imul, 1) := by decide +kernel
theorem dX12_bakes_93 : decode cX12_bakes 93 = .ok (.aload_n 0, 1) := by decide +kernel
theorem dX12_bakes_94 : decode cX12_bakes 94 = .ok (.iload_n 1, 1) := by decide +kernel
theorem dX12_bakes_95 : decode cX12_bakes 95 = .ok (.invokevirtual 468, 3) := by decide +kernel
theorem dX12_bakes_98 : decode cX12_bakes 98 = .ok (.iload_n 3, 1) := by decide +kernel
theorem dX12_bakes_99 : decode cX12_bakes 99 = .ok (.imul, 1) := by decide +kernel
theorem dX12_bakes_100 : decode cX12_bakes 100 = .ok (.aload_n 0, 1) := by decide +kernel
theorem dX12_bakes_101 : decode cX12_bakes 101 = .ok (.iload_n 1, 1) := by decide +kernel
theorem dX12_bakes_102 : decode cX12_bakes 102 = .ok (.iload 4, 2) := by decide +kernel
theorem dX12_bakes_104 : decode cX12_bakes 104 = .ok (.invokevirtual 471, 3) := by decide +kernel
theorem dX12_bakes_107 : decode cX12_bakes 107 = .ok (.imul, 1) := by decide +kernel
theorem dX12_bakes_108 : decode cX12_bakes 108 = .ok (.iadd, 1) := by decide +kernel
theorem dX12_bakes_109 : decode cX12_bakes 109 = .ok (.bipush 100, 2) := by decide +kernel
theorem dX12_bakes_111 : decode cX12_bakes 111 = .ok (.iload_n 3, 1) := by decide +kernel
theorem dX12_bakes_112 : decode cX12_bakes 112 = .ok (.imul, 1) := by decide +kernel
theorem dX12_bakes_113 : decode cX12_bakes 113 = .ok (.idiv, 1) := by decide +kernel
theorem dX12_bakes_114 : decode cX12_bakes 114 = .ok (.iastore, 1) := by decide +kernel
theorem dX12_bakes_115 : decode cX12_bakes 115 = .ok (.iinc 4 1, 3) := by decide +kernel
theorem dX12_bakes_118 : decode cX12_bakes 118 = .ok (.goto (-104), 3) := by decide +kernel
theorem dX12_bakes_121 : decode cX12_bakes 121 = .ok (.return_, 1) := by decide +kernel
theorem dX12_eats_0 : decode cX12_eats 0 = .ok (.iconst 0, 1) := by decide +kernel
theorem dX12_eats_1 : decode cX12_eats 1 = .ok (.istore_n 3, 1) := by decide +kernel
theorem dX12_eats_2 : decode cX12_eats 2 = .ok (.iload_n 3, 1) := by decide +kernel
theorem dX12_eats_3 : decode cX12_eats 3 = .ok (.aload_n 0, 1) := by decide +kernel
theorem dX12_eats_4 : decode cX12_eats 4 = .ok (.invokevirtual 404, 3) := by decide +kernel
theorem dX12_eats_7 : decode cX12_eats 7 = .ok (.if_icmp .ge 34, 3) := by decide +kernel
theorem dX12_eats_10 : decode cX12_eats 10 = .ok (.aload_n 0, 1) := by decide +kernel
theorem dX12_eats_11 : decode cX12_eats 11 = .ok (.getfield 142, 3) := by decide +kernel
theorem dX12_eats_14 : decode cX12_eats 14 = .ok (.iload_n 3, 1) := by decide +kernel
theorem dX12_eats_15 : decode cX12_eats 15 = .ok (.aload_n 0, 1) := by decide +kernel
theorem dX12_eats_16 : decode cX12_eats 16 = .ok (.iconst 0, 1) := by decide +kernel
theorem dX12_eats_17 : decode cX12_eats 17 = .ok (.iload_n 1, 1) := by decide +kernel
theorem dX12_eats_18 : decode cX12_eats 18 = .ok (.iload_n 3, 1) := by decide +kernel
theorem dX12_eats_19 : decode cX12_eats 19 = .ok (.aload_n 0, 1) := by decide +kernel
theorem dX12_eats_20 : decode cX12_eats 20 = .ok (.iload_n 2, 1) := by decide +kernel
theorem dX12_eats_21 : decode cX12_eats 21 = .ok (.iload_n 3, 1) := by decide +kernel
theorem dX12_eats_22 : decode cX12_eats 22 = .ok (.invokevirtual 471, 3) := by decide +kernel
theorem dX12_eats_25 : decode cX12_eats 25 = .ok (.aload_n 0, 1) := by decide +kernel
theorem dX12_eats_26 : decode cX12_eats 26 = .ok (.iload_n 2, 1) := by decide +kernel
theorem dX12_eats_27 : decode cX12_eats 27 = .ok (.iload_n 3, 1) := by decide +kernel
theorem dX12_eats_28 : decode cX12_eats 28 = .ok (.invokevirtual 471, 3) := by decide +kernel
theorem dX12_eats_31 : decode cX12_eats 31 = .ok (.invokevirtual 474, 3) := by decide +kernel
theorem dX12_eats_34 : decode cX12_eats 34 = .ok (.iastore, 1) := by decide +kernel
theorem dX12_eats_35 : decode cX12_eats 35 = .ok (.iinc 3 1, 3) := by decide +kernel
theorem dX12_eats_38 : decode cX12_eats 38 = .ok (.goto (-36), 3) := by decide +kernel
theorem dX12_eats_41 : decode cX12_eats 41 = .ok (.iconst 0, 1) := by decide +kernel
theorem dX12_eats_42 : decode cX12_eats 42 = .ok (.istore_n 3, 1) := by decide +kernel
theorem dX12_eats_43 : decode cX12_eats 43 = .ok (.iload_n 3, 1) := by decide +kernel
theorem dX12_eats_44 : decode cX12_eats 44 = .ok (.aload_n 0, 1) := by decide +kernel
theorem dX12_eats_45 : decode cX12_eats 45 = .ok (.invokevirtual 404, 3) := by decide +kernel
theorem dX12_eats_48 : decode cX12_eats 48 = .ok (.if_icmp .ge 30, 3) := by decide +kernel
theorem dX12_eats_51 : decode cX12_eats 51 = .ok (.aload_n 0, 1) := by decide +kernel
theorem dX12_eats_52 : decode cX12_eats 52 = .ok (.getfield 136, 3) := by decide +kernel
theorem dX12_eats_55 : decode cX12_eats 55 = .ok (.iconst 1, 1) := by decide +kernel
theorem dX12_eats_56 : decode cX12_eats 56 = .ok (.bipush 8, 2) := by decide +kernel
theorem dX12_eats_58 : decode cX12_eats 58 = .ok (.iload_n 1, 1) := by decide +kernel
theorem dX12_eats_59 : decode cX12_eats 59 = .ok (.imul, 1) := by decide +kernel
theorem dX12_eats_60 : decode cX12_eats 60 = .ok (.iadd, 1) := by decide +kernel
theorem dX12_eats_61 : decode cX12_eats 61 = .ok (.iconst 4, 1) := by decide +kernel
theorem dX12_eats_62 : decode cX12_eats 62 = .ok (.iadd, 1) := by decide +kernel
theorem dX12_eats_63 : decode cX12_eats 63 = .ok (.iload_n 3, 1) := by decide +kernel
theorem dX12_eats_64 : decode cX12_eats 64 = .ok (.iadd, 1) := by decide +kernel
theorem dX12_eats_65 : decode cX12_eats 65 = .ok (.aload_n 0, 1) := by decide +kernel
theorem dX12_eats_66 : decode cX12_eats 66 = .ok (.getfield 142, 3) := by decide +kernel
theorem dX12_eats_69 : decode cX12_eats 69 = .ok (.iload_n 3, 1) := by decide +kernel
theorem dX12_eats_70 : decode cX12_eats 70 = .ok (.iaload, 1) := by decide +kernel
theorem dX12_eats_71 : decode cX12_eats 71 = .ok (.iastore, 1) := by decide +kernel
theorem dX12_eats_72 : decode cX12_eats 72 = .ok (.iinc 3 1, 3) := by decide +kernel
theorem dX12_eats_75 : decode cX12_eats 75 = .ok (.goto (-32), 3) := by decide +kernel
theorem dX12_eats_78 : decode cX12_eats 78 = .ok (.return_, 1) := by decide +kernel
theorem dX12_sleeps_0 : decode cX12_sleeps 0 = .ok (.iconst 0, 1) := by decide +kernel
theorem dX12_sleeps_1 : decode cX12_sleeps 1 = .ok (.istore_n 2, 1) := by decide +kernel
theorem dX12_sleeps_2 : decode cX12_sleeps 2 = .ok (.iload_n 2, 1) := by decide +kernel
theorem dX12_sleeps_3 : decode cX12_sleeps 3 = .ok (.aload_n 0, 1) := by decide +kernel
theorem dX12_sleeps_4 : decode cX12_sleeps 4 = .ok (.invokevirtual 404, 3) := by decide +kernel
theorem dX12_sleeps_7 : decode cX12_sleeps 7 = .ok (.if_icmp .ge 29, 3) := by decide +kernel
theorem dX12_sleeps_10 : decode cX12_sleeps 10 = .ok (.aload_n 0, 1) := by decide +kernel
theorem dX12_sleeps_11 : decode cX12_sleeps 11 = .ok (.getfield 142, 3) := by decide +kernel
theorem dX12_sleeps_14 : decode cX12_sleeps 14 = .ok (.iload_n 2, 1) := by decide +kernel
theorem dX12_sleeps_15 : decode cX12_sleeps 15 = .ok (.aload_n 0, 1) := by decide +kernel
theorem dX12_sleeps_16 : decode cX12_sleeps 16 = .ok (.iconst 1, 1) := by decide +kernel
theorem dX12_sleeps_17 : decode cX12_sleeps 17 = .ok (.iload_n 1, 1) := by decide +kernel
theorem dX12_sleeps_18 : decode cX12_sleeps 18 = .ok (.iload_n 2, 1) := by decide +kernel
theorem dX12_sleeps_19 : decode cX12_sleeps 19 = .ok (.iconst 0, 1) := by decide +kernel
theorem dX12_sleeps_20 : decode cX12_sleeps 20 = .ok (.aload_n 0, 1) := by decide +kernel
theorem dX12_sleeps_21 : decode cX12_sleeps 21 = .ok (.iload_n 1, 1) := by decide +kernel
theorem dX12_sleeps_22 : decode cX12_sleeps 22 = .ok (.iload_n 2, 1) := by decide +kernel
theorem dX12_sleeps_23 : decode cX12_sleeps 23 = .ok (.invokevirtual 434, 3) := by decide +kernel
theorem dX12_sleeps_26 : decode cX12_sleeps 26 = .ok (.invokevirtual 474, 3) := by decide +kernel
theorem dX12_sleeps_29 : decode cX12_sleeps 29 = .ok (.iastore, 1) := by decide +kernel
theorem dX12_sleeps_30 : decode cX12_sleeps 30 = .ok (.iinc 2 1, 3) := by decide +kernel
theorem dX12_sleeps_33 : decode cX12_sleeps 33 = .ok (.goto (-31), 3) := by decide +kernel
theorem dX12_sleeps_36 : decode cX12_sleeps 36 = .ok (.iconst 0, 1) := by decide +kernel
theorem dX12_sleeps_37 : decode cX12_sleeps 37 = .ok (.istore_n 2, 1) := by decide +kernel
theorem dX12_sleeps_38 : decode cX12_sleeps 38 = .ok (.iload_n 2, 1) := by decide +kernel
theorem dX12_sleeps_39 : decode cX12_sleeps 39 = .ok (.aload_n 0, 1) := by decide +kernel
theorem dX12_sleeps_40 : decode cX12_sleeps 40 = .ok (.invokevirtual 404, 3) := by decide +kernel
theorem dX12_sleeps_43 : decode cX12_sleeps 43 = .ok (.if_icmp .ge 49, 3) := by decide +kernel
theorem dX12_sleeps_46 : decode cX12_sleeps 46 = .ok (.aload_n 0, 1) := by decide +kernel
theorem dX12_sleeps_47 : decode cX12_sleeps 47 = .ok (.getfield 136, 3) := by decide +kernel
theorem dX12_sleeps_50 : decode cX12_sleeps 50 = .ok (.iconst 1, 1) := by decide +kernel
theorem dX12_sleeps_51 : decode cX12_sleeps 51 = .ok (.bipush 8, 2) := by decide +kernel
theorem dX12_sleeps_53 : decode cX12_sleeps 53 = .ok (.iload_n 1, 1) := by decide +kernel
theorem dX12_sleeps_54 : decode cX12_sleeps 54 = .ok (.imul, 1) := by decide +kernel
theorem dX12_sleeps_55 : decode cX12_sleeps 55 = .ok (.iadd, 1) := by decide +kernel
theorem dX12_sleeps_56 : decode cX12_sleeps 56 = .ok (.iload_n 2, 1) := by decide +kernel
theorem dX12_sleeps_57 : decode cX12_sleeps 57 = .ok (.iadd, 1) := by decide +kernel
theorem dX12_sleeps_58 : decode cX12_sleeps 58 = .ok (.aload_n 0, 1) := by decide +kernel
theorem dX12_sleeps_59 : decode cX12_sleeps 59 = .ok (.getfield 142, 3) := by decide +kernel
theorem dX12_sleeps_62 : decode cX12_sleeps 62 = .ok (.iload_n 2, 1) := by decide +kernel
theorem dX12_sleeps_63 : decode cX12_sleeps 63 = .ok (.iaload, 1) := by decide +kernel
theorem dX12_sleeps_64 : decode cX12_sleeps 64 = .ok (.iastore, 1) := by decide +kernel
theorem dX12_sleeps_65 : decode cX12_sleeps 65 = .ok (.aload_n 0, 1) := by decide +kernel
theorem dX12_sleeps_66 : decode cX12_sleeps 66 = .ok (.getfield 136, 3) := by decide +kernel
theorem dX12_sleeps_69 : decode cX12_sleeps 69 = .ok (.iconst 1, 1) := by decide +kernel
theorem dX12_sleeps_70 : decode cX12_sleeps 70 = .ok (.bipush 8, 2) := by decide +kernel
theorem dX12_sleeps_72 : decode cX12_sleeps 72 = .ok (.iload_n 1, 1) := by decide +kernel
theorem dX12_sleeps_73 : decode cX12_sleeps 73 = .ok (.imul, 1) := by decide +kernel
theorem dX12_sleeps_74 : decode cX12_sleeps 74 = .ok (.iadd, 1) := by decide +kernel
theorem dX12_sleeps_75 : decode cX12_sleeps 75 = .ok (.iconst 4, 1) := by decide +kernel
theorem dX12_sleeps_76 : decode cX12_sleeps 76 = .ok (.iadd, 1) := by decide +kernel
theorem dX12_sleeps_77 : decode cX12_sleeps 77 = .ok (.iload_n 2, 1) := by decide +kernel
theorem dX12_sleeps_78 : decode cX12_sleeps 78 = .ok (.iadd, 1) := by decide +kernel
theorem dX12_sleeps_79 : decode cX12_sleeps 79 = .ok (.aload_n 0, 1) := by decide +kernel
theorem dX12_sleeps_80 : decode cX12_sleeps 80 = .ok (.getfield 142, 3) := by decide +kernel
theorem dX12_sleeps_83 : decode cX12_sleeps 83 = .ok (.iload_n 2, 1) := by decide +kernel
theorem dX12_sleeps_84 : decode cX12_sleeps 84 = .ok (.iaload, 1) := by decide +kernel
theorem dX12_sleeps_85 : decode cX12_sleeps 85 = .ok (.iastore, 1) := by decide +kernel
theorem dX12_sleeps_86 : decode cX12_sleeps 86 = .ok (.iinc 2 1, 3) := by decide +kernel
theorem dX12_sleeps_89 : decode cX12_sleeps 89 = .ok (.goto (-51), 3) := by decide +kernel
theorem dX12_sleeps_92 : decode cX12_sleeps 92 = .ok (.return_, 1) := by decide +kernel
theorem dX12_hourComes_0 : decode cX12_hourComes 0 = .ok (.aload_n 0, 1) := by decide +kernel
theorem dX12_hourComes_1 : decode cX12_hourComes 1 = .ok (.getfield 136, 3) := by decide +kernel
theorem dX12_hourComes_4 : decode cX12_hourComes 4 = .ok (.iconst 0, 1) := by decide +kernel
theorem dX12_hourComes_5 : decode cX12_hourComes 5 = .ok (.dup2, 1) := by decide +kernel
theorem dX12_hourComes_6 : decode cX12_hourComes 6 = .ok (.iaload, 1) := by decide +kernel
theorem dX12_hourComes_7 : decode cX12_hourComes 7 = .ok (.iconst 1, 1) := by decide +kernel
theorem dX12_hourComes_8 : decode cX12_hourComes 8 = .ok (.iadd, 1) := by decide +kernel
theorem dX12_hourComes_9 : decode cX12_hourComes 9 = .ok (.iastore, 1) := by decide +kernel
theorem dX12_hourComes_10 : decode cX12_hourComes 10 = .ok (.aload_n 0, 1) := by decide +kernel
theorem dX12_hourComes_11 : decode cX12_hourComes 11 = .ok (.getfield 136, 3) := by decide +kernel
theorem dX12_hourComes_14 : decode cX12_hourComes 14 = .ok (.iconst 0, 1) := by decide +kernel
theorem dX12_hourComes_15 : decode cX12_hourComes 15 = .ok (.iaload, 1) := by decide +kernel
theorem dX12_hourComes_16 : decode cX12_hourComes 16 = .ok (.bipush 24, 2) := by decide +kernel
theorem dX12_hourComes_18 : decode cX12_hourComes 18 = .ok (.irem, 1) := by decide +kernel
theorem dX12_hourComes_19 : decode cX12_hourComes 19 = .ok (.istore_n 1, 1) := by decide +kernel
theorem dX12_hourComes_20 : decode cX12_hourComes 20 = .ok (.iload_n 1, 1) := by decide +kernel
theorem dX12_hourComes_21 : decode cX12_hourComes 21 = .ok (.aload_n 0, 1) := by decide +kernel
theorem dX12_hourComes_22 : decode cX12_hourComes 22 = .ok (.getfield 124, 3) := by decide +kernel
theorem dX12_hourComes_25 : decode cX12_hourComes 25 = .ok (.iconst 3, 1) := by decide +kernel
theorem dX12_hourComes_26 : decode cX12_hourComes 26 = .ok (.iaload, 1) := by decide +kernel
theorem dX12_hourComes_27 : decode cX12_hourComes 27 = .ok (.if_icmp .ne 24, 3) := by decide +kernel
theorem dX12_hourComes_30 : decode cX12_hourComes 30 = .ok (.iconst 0, 1) := by decide +kernel
theorem dX12_hourComes_31 : decode cX12_hourComes 31 = .ok (.istore_n 2, 1) := by decide +kernel
theorem dX12_hourComes_32 : decode cX12_hourComes 32 = .ok (.iload_n 2, 1) := by decide +kernel
theorem dX12_hourComes_33 : decode cX12_hourComes 33 = .ok (.aload_n 0, 1) := by decide +kernel
theorem dX12_hourComes_34 : decode cX12_hourComes 34 = .ok (.invokevirtual 410, 3) := by decide +kernel
theorem dX12_hourComes_37 : decode cX12_hourComes 37 = .ok (.if_icmp .ge 14, 3) := by decide +kernel
theorem dX12_hourComes_40 : decode cX12_hourComes 40 = .ok (.aload_n 0, 1) := by decide +kernel
theorem dX12_hourComes_41 : decode cX12_hourComes 41 = .ok (.iload_n 2, 1) := by decide +kernel
theorem dX12_hourComes_42 : decode cX12_hourComes 42 = .ok (.invokevirtual 478, 3) := by decide +kernel
theorem dX12_hourComes_45 : decode cX12_hourComes 45 = .ok (.iinc 2 1, 3) := by decide +kernel
theorem dX12_hourComes_48 : decode cX12_hourComes 48 = .ok (.goto (-16), 3) := by decide +kernel
theorem dX12_hourComes_51 : decode cX12_hourComes 51 = .ok (.iconst 0, 1) := by decide +kernel
theorem dX12_hourComes_52 : decode cX12_hourComes 52 = .ok (.istore_n 2, 1) := by decide +kernel
theorem dX12_hourComes_53 : decode cX12_hourComes 53 = .ok (.iload_n 2, 1) := by decide +kernel
theorem dX12_hourComes_54 : decode cX12_hourComes 54 = .ok (.aload_n 0, 1) := by decide +kernel
theorem dX12_hourComes_55 : decode cX12_hourComes 55 = .ok (.getfield 108, 3) := by decide +kernel
theorem dX12_hourComes_58 : decode cX12_hourComes 58 = .ok (.bipush 9, 2) := by decide +kernel
theorem dX12_hourComes_60 : decode cX12_hourComes 60 = .ok (.iaload, 1) := by decide +kernel
theorem dX12_hourComes_61 : decode cX12_hourComes 61 = .ok (.if_icmp .ge 54, 3) := by decide +kernel
theorem dX12_hourComes_64 : decode cX12_hourComes 64 = .ok (.aload_n 0, 1) := by decide +kernel
theorem dX12_hourComes_65 : decode cX12_hourComes 65 = .ok (.getfield 121, 3) := by decide +kernel
theorem dX12_hourComes_68 : decode cX12_hourComes 68 = .ok (.bipush 48, 2) := by decide +kernel
theorem dX12_hourComes_70 : decode cX12_hourComes 70 = .ok (.iconst 3, 1) := by decide +kernel
theorem dX12_hourComes_71 : decode cX12_hourComes 71 = .ok (.iload_n 2, 1) := by decide +kernel
theorem dX12_hourComes_72 : decode cX12_hourComes 72 = .ok (.imul, 1) := by decide +kernel
theorem dX12_hourComes_73 : decode cX12_hourComes 73 = .ok (.iadd, 1) := by decide +kernel
theorem dX12_hourComes_74 : decode cX12_hourComes 74 = .ok (.iconst 2, 1) := by decide +kernel
theorem dX12_hourComes_75 : decode cX12_hourComes 75 = .ok (.iadd, 1) := by decide +kernel
theorem dX12_hourComes_76 : decode cX12_hourComes 76 = .ok (.iaload, 1) := by decide +kernel
theorem dX12_hourComes_77 : decode cX12_hourComes 77 = .ok (.iload_n 1, 1) := by decide +kernel
theorem dX12_hourComes_78 : decode cX12_hourComes 78 = .ok (.if_icmp .ne 31, 3) := by decide +kernel
theorem dX12_hourComes_81 : decode cX12_hourComes 81 = .ok (.aload_n 0, 1) := by decide +kernel
theorem dX12_hourComes_82 : decode cX12_hourComes 82 = .ok (.aload_n 0, 1) := by decide +kernel
theorem dX12_hourComes_83 : decode cX12_hourComes 83 = .ok (.getfield 121, 3) := by decide +kernel
theorem dX12_hourComes_86 : decode cX12_hourComes 86 = .ok (.bipush 48, 2) := by decide +kernel
theorem dX12_hourComes_88 : decode cX12_hourComes 88 = .ok (.iconst 3, 1) := by decide +kernel
theorem dX12_hourComes_89 : decode cX12_hourComes 89 = .ok (.iload_n 2, 1) := by decide +kernel
theorem dX12_hourComes_90 : decode cX12_hourComes 90 = .ok (.imul, 1) := by decide +kernel
theorem dX12_hourComes_91 : decode cX12_hourComes 91 = .ok (.iadd, 1) := by decide +kernel
theorem dX12_hourComes_92 : decode cX12_hourComes 92 = .ok (.iaload, 1) := by decide +kernel
theorem dX12_hourComes_93 : decode cX12_hourComes 93 = .ok (.aload_n 0, 1) := by decide +kernel
theorem dX12_hourComes_94 : decode cX12_hourComes 94 = .ok (.getfield 121, 3) := by decide +kernel
theorem dX12_hourComes_97 : decode cX12_hourComes 97 = .ok (.bipush 48, 2) := by decide +kernel
theorem dX12_hourComes_99 : decode cX12_hourComes 99 = .ok (.iconst 3, 1) := by decide +kernel
theorem dX12_hourComes_100 : decode cX12_hourComes 100 = .ok (.iload_n 2, 1) := by decide +kernel
theorem dX12_hourComes_101 : decode cX12_hourComes 101 = .ok (.imul, 1) := by decide +kernel
theorem dX12_hourComes_102 : decode cX12_hourComes 102 = .ok (.iadd, 1) := by decide +kernel
theorem dX12_hourComes_103 : decode cX12_hourComes 103 = .ok (.iconst 1, 1) := by decide +kernel
theorem dX12_hourComes_104 : decode cX12_hourComes 104 = .ok (.iadd, 1) := by decide +kernel
theorem dX12_hourComes_105 : decode cX12_hourComes 105 = .ok (.iaload, 1) := by decide +kernel
theorem dX12_hourComes_106 : decode cX12_hourComes 106 = .ok (.invokevirtual 481, 3) := by decide +kernel
theorem dX12_hourComes_109 : decode cX12_hourComes 109 = .ok (.iinc 2 1, 3) := by decide +kernel
theorem dX12_hourComes_112 : decode cX12_hourComes 112 = .ok (.goto (-59), 3) := by decide +kernel
theorem dX12_hourComes_115 : decode cX12_hourComes 115 = .ok (.iload_n 1, 1) := by decide +kernel
theorem dX12_hourComes_116 : decode cX12_hourComes 116 = .ok (.aload_n 0, 1) := by decide +kernel
theorem dX12_hourComes_117 : decode cX12_hourComes 117 = .ok (.getfield 124, 3) := by decide +kernel
theorem dX12_hourComes_120 : decode cX12_hourComes 120 = .ok (.iconst 4, 1) := by decide +kernel
theorem dX12_hourComes_121 : decode cX12_hourComes 121 = .ok (.iaload, 1) := by decide +kernel
theorem dX12_hourComes_122 : decode cX12_hourComes 122 = .ok (.if_icmp .ne 24, 3) := by decide +kernel
theorem dX12_hourComes_125 : decode cX12_hourComes 125 = .ok (.iconst 0, 1) := by decide +kernel
theorem dX12_hourComes_126 : decode cX12_hourComes 126 = .ok (.istore_n 2, 1) := by decide +kernel
theorem dX12_hourComes_127 : decode cX12_hourComes 127 = .ok (.iload_n 2, 1) := by decide +kernel
theorem dX12_hourComes_128 : decode cX12_hourComes 128 = .ok (.aload_n 0, 1) := by decide +kernel
theorem dX12_hourComes_129 : decode cX12_hourComes 129 = .ok (.invokevirtual 407, 3) := by decide +kernel
theorem dX12_hourComes_132 : decode cX12_hourComes 132 = .ok (.if_icmp .ge 14, 3) := by decide +kernel
theorem dX12_hourComes_135 : decode cX12_hourComes 135 = .ok (.aload_n 0, 1) := by decide +kernel
theorem dX12_hourComes_136 : decode cX12_hourComes 136 = .ok (.iload_n 2, 1) := by decide +kernel
theorem dX12_hourComes_137 : decode cX12_hourComes 137 = .ok (.invokevirtual 484, 3) := by decide +kernel
theorem dX12_hourComes_140 : decode cX12_hourComes 140 = .ok (.iinc 2 1, 3) := by decide +kernel
theorem dX12_hourComes_143 : decode cX12_hourComes 143 = .ok (.goto (-16), 3) := by decide +kernel
theorem dX12_hourComes_146 : decode cX12_hourComes 146 = .ok (.return_, 1) := by decide +kernel
theorem dX12_hoursCome_0 : decode cX12_hoursCome 0 = .ok (.iconst 0, 1) := by decide +kernel
theorem dX12_hoursCome_1 : decode cX12_hoursCome 1 = .ok (.istore_n 2, 1) := by decide +kernel
theorem dX12_hoursCome_2 : decode cX12_hoursCome 2 = .ok (.iload_n 2, 1) := by decide +kernel
theorem dX12_hoursCome_3 : decode cX12_hoursCome 3 = .ok (.iload_n 1, 1) := by decide +kernel
theorem dX12_hoursCome_4 : decode cX12_hoursCome 4 = .ok (.if_icmp .ge 13, 3) := by decide +kernel
theorem dX12_hoursCome_7 : decode cX12_hoursCome 7 = .ok (.aload_n 0, 1) := by decide +kernel
theorem dX12_hoursCome_8 : decode cX12_hoursCome 8 = .ok (.invokevirtual 487, 3) := by decide +kernel
theorem dX12_hoursCome_11 : decode cX12_hoursCome 11 = .ok (.iinc 2 1, 3) := by decide +kernel
theorem dX12_hoursCome_14 : decode cX12_hoursCome 14 = .ok (.goto (-12), 3) := by decide +kernel
theorem dX12_hoursCome_17 : decode cX12_hoursCome 17 = .ok (.return_, 1) := by decide +kernel
theorem dX12_deedsNow_0 : decode cX12_deedsNow 0 = .ok (.iconst 0, 1) := by decide +kernel
theorem dX12_deedsNow_1 : decode cX12_deedsNow 1 = .ok (.istore_n 1, 1) := by decide +kernel
theorem dX12_deedsNow_2 : decode cX12_deedsNow 2 = .ok (.iconst 0, 1) := by decide +kernel
theorem dX12_deedsNow_3 : decode cX12_deedsNow 3 = .ok (.istore_n 2, 1) := by decide +kernel
theorem dX12_deedsNow_4 : decode cX12_deedsNow 4 = .ok (.iload_n 2, 1) := by decide +kernel
theorem dX12_deedsNow_5 : decode cX12_deedsNow 5 = .ok (.aload_n 0, 1) := by decide +kernel
theorem dX12_deedsNow_6 : decode cX12_deedsNow 6 = .ok (.invokevirtual 407, 3) := by decide +kernel
theorem dX12_deedsNow_9 : decode cX12_deedsNow 9 = .ok (.if_icmp .ge 20, 3) := by decide +kernel
theorem dX12_deedsNow_12 : decode cX12_deedsNow 12 = .ok (.iload_n 1, 1) := by decide +kernel
theorem dX12_deedsNow_13 : decode cX12_deedsNow 13 = .ok (.aload_n 0, 1) := by decide +kernel
theorem dX12_deedsNow_14 : decode cX12_deedsNow 14 = .ok (.iload_n 2, 1) := by decide +kernel
theorem dX12_deedsNow_15 : decode cX12_deedsNow 15 = .ok (.invokevirtual 490, 3) := by decide +kernel
theorem dX12_deedsNow_18 : decode cX12_deedsNow 18 = .ok (.invokestatic 327, 3) := by decide +kernel
theorem dX12_deedsNow_21 : decode cX12_deedsNow 21 = .ok (.iadd, 1) := by decide +kernel
theorem dX12_deedsNow_22 : decode cX12_deedsNow 22 = .ok (.istore_n 1, 1) := by decide +kernel
theorem dX12_deedsNow_23 : decode cX12_deedsNow 23 = .ok (.iinc 2 1, 3) := by decide +kernel
theorem dX12_deedsNow_26 : decode cX12_deedsNow 26 = .ok (.goto (-22), 3) := by decide +kernel
theorem dX12_deedsNow_29 : decode cX12_deedsNow 29 = .ok (.iload_n 1, 1) := by decide +kernel
theorem dX12_deedsNow_30 : decode cX12_deedsNow 30 = .ok (.ireturn, 1) := by decide +kernel
theorem dX12_has_0 : decode cX12_has 0 = .ok (.iload_n 1, 1) := by decide +kernel
theorem dX12_has_1 : decode cX12_has 1 = .ok (.tableswitch 99 0 8 #[51, 56, 61, 66, 74, 79, 84, 89, 94], 51) := by decide +kernel
theorem dX12_has_52 : decode cX12_has 52 = .ok (.aload_n 0, 1) := by decide +kernel
theorem dX12_has_53 : decode cX12_has 53 = .ok (.invokevirtual 404, 3) := by decide +kernel
theorem dX12_has_56 : decode cX12_has 56 = .ok (.ireturn, 1) := by decide +kernel
theorem dX12_has_57 : decode cX12_has 57 = .ok (.aload_n 0, 1) := by decide +kernel
theorem dX12_has_58 : decode cX12_has 58 = .ok (.invokevirtual 407, 3) := by decide +kernel
theorem dX12_has_61 : decode cX12_has 61 = .ok (.ireturn, 1) := by decide +kernel
theorem dX12_has_62 : decode cX12_has 62 = .ok (.aload_n 0, 1) := by decide +kernel
theorem dX12_has_63 : decode cX12_has 63 = .ok (.invokevirtual 410, 3) := by decide +kernel
theorem dX12_has_66 : decode cX12_has 66 = .ok (.ireturn, 1) := by decide +kernel
theorem dX12_has_67 : decode cX12_has 67 = .ok (.aload_n 0, 1) := by decide +kernel
theorem dX12_has_68 : decode cX12_has 68 = .ok (.getfield 108, 3) := by decide +kernel
theorem dX12_has_71 : decode cX12_has 71 = .ok (.bipush 9, 2) := by decide +kernel
theorem dX12_has_73 : decode cX12_has 73 = .ok (.iaload, 1) := by decide +kernel
theorem dX12_has_74 : decode cX12_has 74 = .ok (.ireturn, 1) := by decide +kernel
theorem dX12_has_75 : decode cX12_has 75 = .ok (.aload_n 0, 1) := by decide +kernel
theorem dX12_has_76 : decode cX12_has 76 = .ok (.invokevirtual 413, 3) := by decide +kernel
theorem dX12_has_79 : decode cX12_has 79 = .ok (.ireturn, 1) := by decide +kernel
theorem dX12_has_80 : decode cX12_has 80 = .ok (.aload_n 0, 1) := by decide +kernel
theorem dX12_has_81 : decode cX12_has 81 = .ok (.invokevirtual 493, 3) := by decide +kernel
theorem dX12_has_84 : decode cX12_has 84 = .ok (.ireturn, 1) := by decide +kernel
theorem dX12_has_85 : decode cX12_has 85 = .ok (.aload_n 0, 1) := by decide +kernel
theorem dX12_has_86 : decode cX12_has 86 = .ok (.invokevirtual 496, 3) := by decide +kernel
theorem dX12_has_89 : decode cX12_has 89 = .ok (.ireturn, 1) := by decide +kernel
theorem dX12_has_90 : decode cX12_has 90 = .ok (.aload_n 0, 1) := by decide +kernel
theorem dX12_has_91 : decode cX12_has 91 = .ok (.getfield 401, 3) := by decide +kernel
theorem dX12_has_94 : decode cX12_has 94 = .ok (.ireturn, 1) := by decide +kernel
theorem dX12_has_95 : decode cX12_has 95 = .ok (.aload_n 0, 1) := by decide +kernel
theorem dX12_has_96 : decode cX12_has 96 = .ok (.getfield 398, 3) := by decide +kernel
theorem dX12_has_99 : decode cX12_has 99 = .ok (.ireturn, 1) := by decide +kernel
theorem dX12_has_100 : decode cX12_has 100 = .ok (.iconst (-1), 1) := by decide +kernel
theorem dX12_has_101 : decode cX12_has 101 = .ok (.ireturn, 1) := by decide +kernel
theorem dX12_letter_0 : decode cX12_letter 0 = .ok (.iload_n 1, 1) := by decide +kernel
theorem dX12_letter_1 : decode cX12_letter 1 = .ok (.i2l, 1) := by decide +kernel
theorem dX12_letter_2 : decode cX12_letter 2 = .ok (.lconst 0, 1) := by decide +kernel
theorem dX12_letter_3 : decode cX12_letter 3 = .ok (.ldc2_w 499, 3) := by decide +kernel
theorem dX12_letter_6 : decode cX12_letter 6 = .ok (.invokestatic 282, 3) := by decide +kernel
theorem dX12_letter_9 : decode cX12_letter 9 = .ok (.ifCond .eq 35, 3) := by decide +kernel
theorem dX12_letter_12 : decode cX12_letter 12 = .ok (.iload_n 2, 1) := by decide +kernel
theorem dX12_letter_13 : decode cX12_letter 13 = .ok (.i2l, 1) := by decide +kernel
theorem dX12_letter_14 : decode cX12_letter 14 = .ok (.lconst 0, 1) := by decide +kernel
theorem dX12_letter_15 : decode cX12_letter 15 = .ok (.aload_n 0, 1) := by decide +kernel
theorem dX12_letter_16 : decode cX12_letter 16 = .ok (.getfield 108, 3) := by decide +kernel
theorem dX12_letter_19 : decode cX12_letter 19 = .ok (.iconst 5, 1) := by decide +kernel
theorem dX12_letter_20 : decode cX12_letter 20 = .ok (.iload_n 1, 1) := by decide +kernel
theorem dX12_letter_21 : decode cX12_letter 21 = .ok (.iadd, 1) := by decide +kernel
theorem dX12_letter_22 : decode cX12_letter 22 = .ok (.iaload, 1) := by decide +kernel
theorem dX12_letter_23 : decode cX12_letter 23 = .ok (.iconst 1, 1) := by decide +kernel
theorem dX12_letter_24 : decode cX12_letter 24 = .ok (.isub, 1) := by decide +kernel
theorem dX12_letter_25 : decode cX12_letter 25 = .ok (.i2l, 1) := by decide +kernel
theorem dX12_letter_26 : decode cX12_letter 26 = .ok (.invokestatic 282, 3) := by decide +kernel
theorem dX12_letter_29 : decode cX12_letter 29 = .ok (.ifCond .eq 15, 3) := by decide +kernel
theorem dX12_letter_32 : decode cX12_letter 32 = .ok (.iload_n 3, 1) := by decide +kernel
theorem dX12_letter_33 : decode cX12_letter 33 = .ok (.i2l, 1) := by decide +kernel
theorem dX12_letter_34 : decode cX12_letter 34 = .ok (.lconst 0, 1) := by decide +kernel
theorem dX12_letter_35 : decode cX12_letter 35 = .ok (.ldc2_w 501, 3) := by decide +kernel
theorem dX12_letter_38 : decode cX12_letter 38 = .ok (.invokestatic 282, 3) := by decide +kernel
theorem dX12_letter_41 : decode cX12_letter 41 = .ok (.ifCond .ne 5, 3) := by decide +kernel
theorem dX12_letter_44 : decode cX12_letter 44 = .ok (.iconst (-1), 1) := by decide +kernel
theorem dX12_letter_45 : decode cX12_letter 45 = .ok (.ireturn, 1) := by decide +kernel
theorem dX12_letter_46 : decode cX12_letter 46 = .ok (.aload_n 0, 1) := by decide +kernel
theorem dX12_letter_47 : decode cX12_letter 47 = .ok (.getfield 111, 3) := by decide +kernel
theorem dX12_letter_50 : decode cX12_letter 50 = .ok (.bipush 32, 2) := by decide +kernel
theorem dX12_letter_52 : decode cX12_letter 52 = .ok (.bipush 8, 2) := by decide +kernel
theorem dX12_letter_54 : decode cX12_letter 54 = .ok (.iload_n 1, 1) := by decide +kernel
theorem dX12_letter_55 : decode cX12_letter 55 = .ok (.imul, 1) := by decide +kernel
theorem dX12_letter_56 : decode cX12_letter 56 = .ok (.iadd, 1) := by decide +kernel
theorem dX12_letter_57 : decode cX12_letter 57 = .ok (.iload_n 2, 1) := by decide +kernel
theorem dX12_letter_58 : decode cX12_letter 58 = .ok (.iadd, 1) := by decide +kernel
theorem dX12_letter_59 : decode cX12_letter 59 = .ok (.laload, 1) := by decide +kernel
theorem dX12_letter_60 : decode cX12_letter 60 = .ok (.lstore 4, 2) := by decide +kernel
theorem dX12_letter_62 : decode cX12_letter 62 = .ok (.iconst 0, 1) := by decide +kernel
theorem dX12_letter_63 : decode cX12_letter 63 = .ok (.istore 6, 2) := by decide +kernel
theorem dX12_letter_65 : decode cX12_letter 65 = .ok (.lload 4, 2) := by decide +kernel
theorem dX12_letter_67 : decode cX12_letter 67 = .ok (.lstore 7, 2) := by decide +kernel
theorem dX12_letter_69 : decode cX12_letter 69 = .ok (.lload 7, 2) := by decide +kernel
theorem dX12_letter_71 : decode cX12_letter 71 = .ok (.lconst 0, 1) := by decide +kernel
theorem dX12_letter_72 : decode cX12_letter 72 = .ok (.lcmp, 1) := by decide +kernel
theorem dX12_letter_73 : decode cX12_letter 73 = .ok (.ifCond .le 17, 3) := by decide +kernel
theorem dX12_letter_76 : decode cX12_letter 76 = .ok (.iinc 6 1, 3) := by decide +kernel
theorem dX12_letter_79 : decode cX12_letter 79 = .ok (.lload 7, 2) := by decide +kernel
theorem dX12_letter_81 : decode cX12_letter 81 = .ok (.ldc2_w 293, 3) := by decide +kernel
theorem dX12_letter_84 : decode cX12_letter 84 = .ok (.ldiv, 1) := by decide +kernel
theorem dX12_letter_85 : decode cX12_letter 85 = .ok (.lstore 7, 2) := by decide +kernel
theorem dX12_letter_87 : decode cX12_letter 87 = .ok (.goto (-18), 3) := by decide +kernel
theorem dX12_letter_90 : decode cX12_letter 90 = .ok (.iload_n 3, 1) := by decide +kernel
theorem dX12_letter_91 : decode cX12_letter 91 = .ok (.iload 6, 2) := by decide +kernel
theorem dX12_letter_93 : decode cX12_letter 93 = .ok (.if_icmp .lt 5, 3) := by decide +kernel
theorem dX12_letter_96 : decode cX12_letter 96 = .ok (.iconst 0, 1) := by decide +kernel
theorem dX12_letter_97 : decode cX12_letter 97 = .ok (.ireturn, 1) := by decide +kernel
theorem dX12_letter_98 : decode cX12_letter 98 = .ok (.iload 6, 2) := by decide +kernel
theorem dX12_letter_100 : decode cX12_letter 100 = .ok (.iconst 1, 1) := by decide +kernel
theorem dX12_letter_101 : decode cX12_letter 101 = .ok (.isub, 1) := by decide +kernel
theorem dX12_letter_102 : decode cX12_letter 102 = .ok (.istore 7, 2) := by decide +kernel
theorem dX12_letter_104 : decode cX12_letter 104 = .ok (.iload 7, 2) := by decide +kernel
theorem dX12_letter_106 : decode cX12_letter 106 = .ok (.iload_n 3, 1) := by decide +kernel
theorem dX12_letter_107 : decode cX12_letter 107 = .ok (.if_icmp .le 17, 3) := by decide +kernel
theorem dX12_letter_110 : decode cX12_letter 110 = .ok (.lload 4, 2) := by decide +kernel
theorem dX12_letter_112 : decode cX12_letter 112 = .ok (.ldc2_w 293, 3) := by decide +kernel
theorem dX12_letter_115 : decode cX12_letter 115 = .ok (.ldiv, 1) := by decide +kernel
theorem dX12_letter_116 : decode cX12_letter 116 = .ok (.lstore 4, 2) := by decide +kernel
theorem dX12_letter_118 : decode cX12_letter 118 = .ok (.iinc 7 (-1), 3) := by decide +kernel
theorem dX12_letter_121 : decode cX12_letter 121 = .ok (.goto (-17), 3) := by decide +kernel
theorem dX12_letter_124 : decode cX12_letter 124 = .ok (.lload 4, 2) := by decide +kernel
theorem dX12_letter_126 : decode cX12_letter 126 = .ok (.ldc2_w 293, 3) := by decide +kernel
theorem dX12_letter_129 : decode cX12_letter 129 = .ok (.lrem, 1) := by decide +kernel
theorem dX12_letter_130 : decode cX12_letter 130 = .ok (.l2i, 1) := by decide +kernel
theorem dX12_letter_131 : decode cX12_letter 131 = .ok (.ireturn, 1) := by decide +kernel
theorem dX12_feels_0 : decode cX12_feels 0 = .ok (.aload_n 0, 1) := by decide +kernel
theorem dX12_feels_1 : decode cX12_feels 1 = .ok (.iload_n 1, 1) := by decide +kernel
theorem dX12_feels_2 : decode cX12_feels 2 = .ok (.invokevirtual 503, 3) := by decide +kernel
theorem dX12_feels_5 : decode cX12_feels 5 = .ok (.ifCond .eq 11, 3) := by decide +kernel
theorem dX12_feels_8 : decode cX12_feels 8 = .ok (.aload_n 0, 1) := by decide +kernel
theorem dX12_feels_9 : decode cX12_feels 9 = .ok (.iload_n 2, 1) := by decide +kernel
theorem dX12_feels_10 : decode cX12_feels 10 = .ok (.invokevirtual 506, 3) := by decide +kernel
theorem dX12_feels_13 : decode cX12_feels 13 = .ok (.ifCond .ne 5, 3) := by decide +kernel
theorem dX12_feels_16 : decode cX12_feels 16 = .ok (.iconst (-1), 1) := by decide +kernel
theorem dX12_feels_17 : decode cX12_feels 17 = .ok (.ireturn, 1) := by decide +kernel
theorem dX12_feels_18 : decode cX12_feels 18 = .ok (.iload_n 3, 1) := by decide +kernel
theorem dX12_feels_19 : decode cX12_feels 19 = .ok (.ifCond .ne 12, 3) := by decide +kernel
theorem dX12_feels_22 : decode cX12_feels 22 = .ok (.aload_n 0, 1) := by decide +kernel
theorem dX12_feels_23 : decode cX12_feels 23 = .ok (.iload_n 1, 1) := by decide +kernel
theorem dX12_feels_24 : decode cX12_feels 24 = .ok (.iload_n 2, 1) := by decide +kernel
theorem dX12_feels_25 : decode cX12_feels 25 = .ok (.invokevirtual 440, 3) := by decide +kernel
theorem dX12_feels_28 : decode cX12_feels 28 = .ok (.goto 18, 3) := by decide +kernel
theorem dX12_feels_31 : decode cX12_feels 31 = .ok (.iload_n 3, 1) := by decide +kernel
theorem dX12_feels_32 : decode cX12_feels 32 = .ok (.iconst 1, 1) := by decide +kernel
theorem dX12_feels_33 : decode cX12_feels 33 = .ok (.if_icmp .ne 12, 3) := by decide +kernel
theorem dX12_feels_36 : decode cX12_feels 36 = .ok (.aload_n 0, 1) := by decide +kernel
theorem dX12_feels_37 : decode cX12_feels 37 = .ok (.iload_n 1, 1) := by decide +kernel
theorem dX12_feels_38 : decode cX12_feels 38 = .ok (.iload_n 2, 1) := by decide +kernel
theorem dX12_feels_39 : decode cX12_feels 39 = .ok (.invokevirtual 434, 3) := by decide +kernel
theorem dX12_feels_42 : decode cX12_feels 42 = .ok (.goto 4, 3) := by decide +kernel
theorem dX12_feels_45 : decode cX12_feels 45 = .ok (.iconst (-1), 1) := by decide +kernel
theorem dX12_feels_46 : decode cX12_feels 46 = .ok (.ireturn, 1) := by decide +kernel
theorem dX12_bread_0 : decode cX12_bread 0 = .ok (.aload_n 0, 1) := by decide +kernel
theorem dX12_bread_1 : decode cX12_bread 1 = .ok (.iload_n 1, 1) := by decide +kernel
theorem dX12_bread_2 : decode cX12_bread 2 = .ok (.invokevirtual 509, 3) := by decide +kernel
theorem dX12_bread_5 : decode cX12_bread 5 = .ok (.ifCond .eq 20, 3) := by decide +kernel
theorem dX12_bread_8 : decode cX12_bread 8 = .ok (.aload_n 0, 1) := by decide +kernel
theorem dX12_bread_9 : decode cX12_bread 9 = .ok (.iload_n 2, 1) := by decide +kernel
theorem dX12_bread_10 : decode cX12_bread 10 = .ok (.invokevirtual 506, 3) := by decide +kernel
theorem dX12_bread_13 : decode cX12_bread 13 = .ok (.ifCond .eq 12, 3) := by decide +kernel
theorem dX12_bread_16 : decode cX12_bread 16 = .ok (.aload_n 0, 1) := by decide +kernel
theorem dX12_bread_17 : decode cX12_bread 17 = .ok (.iload_n 1, 1) := by decide +kernel
theorem dX12_bread_18 : decode cX12_bread 18 = .ok (.iload_n 2, 1) := by decide +kernel
theorem dX12_bread_19 : decode cX12_bread 19 = .ok (.invokevirtual 471, 3) := by decide +kernel
theorem dX12_bread_22 : decode cX12_bread 22 = .ok (.goto 4, 3) := by decide +kernel
theorem dX12_bread_25 : decode cX12_bread 25 = .ok (.iconst (-1), 1) := by decide +kernel
theorem dX12_bread_26 : decode cX12_bread 26 = .ok (.ireturn, 1) := by decide +kernel
theorem dX12_mealsOf_0 : decode cX12_mealsOf 0 = .ok (.iconst 0, 1) := by decide +kernel
theorem dX12_mealsOf_1 : decode cX12_mealsOf 1 = .ok (.istore_n 2, 1) := by decide +kernel
theorem dX12_mealsOf_2 : decode cX12_mealsOf 2 = .ok (.iconst 0, 1) := by decide +kernel
theorem dX12_mealsOf_3 : decode cX12_mealsOf 3 = .ok (.istore_n 3, 1) := by decide +kernel
theorem dX12_mealsOf_4 : decode cX12_mealsOf 4 = .ok (.iload_n 3, 1) := by decide +kernel
theorem dX12_mealsOf_5 : decode cX12_mealsOf 5 = .ok (.aload_n 0, 1) := by decide +kernel
theorem dX12_mealsOf_6 : decode cX12_mealsOf 6 = .ok (.getfield 108, 3) := by decide +kernel
theorem dX12_mealsOf_9 : decode cX12_mealsOf 9 = .ok (.bipush 9, 2) := by decide +kernel
theorem dX12_mealsOf_11 : decode cX12_mealsOf 11 = .ok (.iaload, 1) := by decide +kernel
theorem dX12_mealsOf_12 : decode cX12_mealsOf 12 = .ok (.if_icmp .ge 29, 3) := by decide +kernel
theorem dX12_mealsOf_15 : decode cX12_mealsOf 15 = .ok (.aload_n 0, 1) := by decide +kernel
theorem dX12_mealsOf_16 : decode cX12_mealsOf 16 = .ok (.getfield 121, 3) := by decide +kernel
theorem dX12_mealsOf_19 : decode cX12_mealsOf 19 = .ok (.bipush 48, 2) := by decide +kernel
theorem dX12_mealsOf_21 : decode cX12_mealsOf 21 = .ok (.iconst 3, 1) := by decide +kernel
theorem dX12_mealsOf_22 : decode cX12_mealsOf 22 = .ok (.iload_n 3, 1) := by decide +kernel
theorem dX12_mealsOf_23 : decode cX12_mealsOf 23 = .ok (.imul, 1) := by decide +kernel
theorem dX12_mealsOf_24 : decode cX12_mealsOf 24 = .ok (.iadd, 1) := by decide +kernel
theorem dX12_mealsOf_25 : decode cX12_mealsOf 25 = .ok (.iconst 1, 1) := by decide +kernel
theorem dX12_mealsOf_26 : decode cX12_mealsOf 26 = .ok (.iadd, 1) := by decide +kernel
theorem dX12_mealsOf_27 : decode cX12_mealsOf 27 = .ok (.iaload, 1) := by decide +kernel
theorem dX12_mealsOf_28 : decode cX12_mealsOf 28 = .ok (.iload_n 1, 1) := by decide +kernel
theorem dX12_mealsOf_29 : decode cX12_mealsOf 29 = .ok (.if_icmp .ne 6, 3) := by decide +kernel
theorem dX12_mealsOf_32 : decode cX12_mealsOf 32 = .ok (.iinc 2 1, 3) := by decide +kernel
theorem dX12_mealsOf_35 : decode cX12_mealsOf 35 = .ok (.iinc 3 1, 3) := by decide +kernel
theorem dX12_mealsOf_38 : decode cX12_mealsOf 38 = .ok (.goto (-34), 3) := by decide +kernel
theorem dX12_mealsOf_41 : decode cX12_mealsOf 41 = .ok (.iload_n 2, 1) := by decide +kernel
theorem dX12_mealsOf_42 : decode cX12_mealsOf 42 = .ok (.ireturn, 1) := by decide +kernel
theorem dX12_loaf_0 : decode cX12_loaf 0 = .ok (.aload_n 0, 1) := by decide +kernel
theorem dX12_loaf_1 : decode cX12_loaf 1 = .ok (.iload_n 1, 1) := by decide +kernel
theorem dX12_loaf_2 : decode cX12_loaf 2 = .ok (.invokevirtual 509, 3) := by decide +kernel
theorem dX12_loaf_5 : decode cX12_loaf 5 = .ok (.ifCond .ne 5, 3) := by decide +kernel
theorem dX12_loaf_8 : decode cX12_loaf 8 = .ok (.iconst (-1), 1) := by decide +kernel
theorem dX12_loaf_9 : decode cX12_loaf 9 = .ok (.ireturn, 1) := by decide +kernel
theorem dX12_loaf_10 : decode cX12_loaf 10 = .ok (.iload_n 2, 1) := by decide +kernel
theorem dX12_loaf_11 : decode cX12_loaf 11 = .ok (.ifCond .ne 11, 3) := by decide +kernel
theorem dX12_loaf_14 : decode cX12_loaf 14 = .ok (.aload_n 0, 1) := by decide +kernel
theorem dX12_loaf_15 : decode cX12_loaf 15 = .ok (.iload_n 1, 1) := by decide +kernel
theorem dX12_loaf_16 : decode cX12_loaf 16 = .ok (.invokevirtual 468, 3) := by decide +kernel
theorem dX12_loaf_19 : decode cX12_loaf 19 = .ok (.goto 30, 3) := by decide +kernel
theorem dX12_loaf_22 : decode cX12_loaf 22 = .ok (.iload_n 2, 1) := by decide +kernel
theorem dX12_loaf_23 : decode cX12_loaf 23 = .ok (.iconst 1, 1) := by decide +kernel
theorem dX12_loaf_24 : decode cX12_loaf 24 = .ok (.if_icmp .ne 11, 3) := by decide +kernel
theorem dX12_loaf_27 : decode cX12_loaf 27 = .ok (.aload_n 0, 1) := by decide +kernel
theorem dX12_loaf_28 : decode cX12_loaf 28 = .ok (.iload_n 1, 1) := by decide +kernel
theorem dX12_loaf_29 : decode cX12_loaf 29 = .ok (.invokevirtual 465, 3) := by decide +kernel
theorem dX12_loaf_32 : decode cX12_loaf 32 = .ok (.goto 17, 3) := by decide +kernel
theorem dX12_loaf_35 : decode cX12_loaf 35 = .ok (.iload_n 2, 1) := by decide +kernel
theorem dX12_loaf_36 : decode cX12_loaf 36 = .ok (.iconst 2, 1) := by decide +kernel
theorem dX12_loaf_37 : decode cX12_loaf 37 = .ok (.if_icmp .ne 11, 3) := by decide +kernel
theorem dX12_loaf_40 : decode cX12_loaf 40 = .ok (.aload_n 0, 1) := by decide +kernel
theorem dX12_loaf_41 : decode cX12_loaf 41 = .ok (.iload_n 1, 1) := by decide +kernel
theorem dX12_loaf_42 : decode cX12_loaf 42 = .ok (.invokevirtual 512, 3) := by decide +kernel
theorem dX12_loaf_45 : decode cX12_loaf 45 = .ok (.goto 4, 3) := by decide +kernel
theorem dX12_loaf_48 : decode cX12_loaf 48 = .ok (.iconst (-1), 1) := by decide +kernel
theorem dX12_loaf_49 : decode cX12_loaf 49 = .ok (.ireturn, 1) := by decide +kernel
theorem dX12_does_0 : decode cX12_does 0 = .ok (.aload_n 0, 1) := by decide +kernel
theorem dX12_does_1 : decode cX12_does 1 = .ok (.iload_n 1, 1) := by decide +kernel
theorem dX12_does_2 : decode cX12_does 2 = .ok (.invokevirtual 503, 3) := by decide +kernel
theorem dX12_does_5 : decode cX12_does 5 = .ok (.ifCond .eq 28, 3) := by decide +kernel
theorem dX12_does_8 : decode cX12_does 8 = .ok (.aload_n 0, 1) := by decide +kernel
theorem dX12_does_9 : decode cX12_does 9 = .ok (.iload_n 2, 1) := by decide +kernel
theorem dX12_does_10 : decode cX12_does 10 = .ok (.invokevirtual 515, 3) := by decide +kernel
theorem dX12_does_13 : decode cX12_does 13 = .ok (.ifCond .eq 20, 3) := by decide +kernel
theorem dX12_does_16 : decode cX12_does 16 = .ok (.aload_n 0, 1) := by decide +kernel
theorem dX12_does_17 : decode cX12_does 17 = .ok (.iload_n 1, 1) := by decide +kernel
theorem dX12_does_18 : decode cX12_does 18 = .ok (.iload_n 2, 1) := by decide +kernel
theorem dX12_does_19 : decode cX12_does 19 = .ok (.invokevirtual 461, 3) := by decide +kernel
theorem dX12_does_22 : decode cX12_does 22 = .ok (.ifCond .eq 7, 3) := by decide +kernel
theorem dX12_does_25 : decode cX12_does 25 = .ok (.iconst 1, 1) := by decide +kernel
theorem dX12_does_26 : decode cX12_does 26 = .ok (.goto 8, 3) := by decide +kernel
theorem dX12_does_29 : decode cX12_does 29 = .ok (.iconst 0, 1) := by decide +kernel
theorem dX12_does_30 : decode cX12_does 30 = .ok (.goto 4, 3) := by decide +kernel
theorem dX12_does_33 : decode cX12_does 33 = .ok (.iconst (-1), 1) := by decide +kernel
theorem dX12_does_34 : decode cX12_does 34 = .ok (.ireturn, 1) := by decide +kernel
theorem dX12_isAhead_0 : decode cX12_isAhead 0 = .ok (.iload_n 1, 1) := by decide +kernel
theorem dX12_isAhead_1 : decode cX12_isAhead 1 = .ok (.i2l, 1) := by decide +kernel
theorem dX12_isAhead_2 : decode cX12_isAhead 2 = .ok (.lconst 0, 1) := by decide +kernel
theorem dX12_isAhead_3 : decode cX12_isAhead 3 = .ok (.ldc2_w 518, 3) := by decide +kernel
theorem dX12_isAhead_6 : decode cX12_isAhead 6 = .ok (.invokestatic 282, 3) := by decide +kernel
theorem dX12_isAhead_9 : decode cX12_isAhead 9 = .ok (.ifCond .eq 19, 3) := by decide +kernel
theorem dX12_isAhead_12 : decode cX12_isAhead 12 = .ok (.aload_n 0, 1) := by decide +kernel
theorem dX12_isAhead_13 : decode cX12_isAhead 13 = .ok (.invokevirtual 493, 3) := by decide +kernel
theorem dX12_isAhead_16 : decode cX12_isAhead 16 = .ok (.iload_n 1, 1) := by decide +kernel
theorem dX12_isAhead_17 : decode cX12_isAhead 17 = .ok (.iadd, 1) := by decide +kernel
theorem dX12_isAhead_18 : decode cX12_isAhead 18 = .ok (.sipush 9999, 3) := by decide +kernel
theorem dX12_isAhead_21 : decode cX12_isAhead 21 = .ok (.if_icmp .gt 7, 3) := by decide +kernel
theorem dX12_isAhead_24 : decode cX12_isAhead 24 = .ok (.iconst 1, 1) := by decide +kernel
theorem dX12_isAhead_25 : decode cX12_isAhead 25 = .ok (.goto 4, 3) := by decide +kernel
theorem dX12_isAhead_28 : decode cX12_isAhead 28 = .ok (.iconst 0, 1) := by decide +kernel
theorem dX12_isAhead_29 : decode cX12_isAhead 29 = .ok (.ireturn, 1) := by decide +kernel
theorem dX12_later_0 : decode cX12_later 0 = .ok (.aload_n 0, 1) := by decide +kernel
theorem dX12_later_1 : decode cX12_later 1 = .ok (.iload_n 1, 1) := by decide +kernel
theorem dX12_later_2 : decode cX12_later 2 = .ok (.invokevirtual 503, 3) := by decide +kernel
theorem dX12_later_5 : decode cX12_later 5 = .ok (.ifCond .eq 19, 3) := by decide +kernel
theorem dX12_later_8 : decode cX12_later 8 = .ok (.aload_n 0, 1) := by decide +kernel
theorem dX12_later_9 : decode cX12_later 9 = .ok (.iload_n 2, 1) := by decide +kernel
theorem dX12_later_10 : decode cX12_later 10 = .ok (.invokevirtual 506, 3) := by decide +kernel
theorem dX12_later_13 : decode cX12_later 13 = .ok (.ifCond .eq 11, 3) := by decide +kernel
theorem dX12_later_16 : decode cX12_later 16 = .ok (.aload_n 0, 1) := by decide +kernel
theorem dX12_later_17 : decode cX12_later 17 = .ok (.iload_n 3, 1) := by decide +kernel
theorem dX12_later_18 : decode cX12_later 18 = .ok (.invokevirtual 520, 3) := by decide +kernel
theorem dX12_later_21 : decode cX12_later 21 = .ok (.ifCond .ne 5, 3) := by decide +kernel
theorem dX12_later_24 : decode cX12_later 24 = .ok (.iconst (-1), 1) := by decide +kernel
theorem dX12_later_25 : decode cX12_later 25 = .ok (.ireturn, 1) := by decide +kernel
theorem dX12_later_26 : decode cX12_later 26 = .ok (.aload_n 0, 1) := by decide +kernel
theorem dX12_later_27 : decode cX12_later 27 = .ok (.invokevirtual 523, 3) := by decide +kernel
theorem dX12_later_30 : decode cX12_later 30 = .ok (.aload_n 0, 1) := by decide +kernel
theorem dX12_later_31 : decode cX12_later 31 = .ok (.iload_n 3, 1) := by decide +kernel
theorem dX12_later_32 : decode cX12_later 32 = .ok (.invokevirtual 526, 3) := by decide +kernel
theorem dX12_later_35 : decode cX12_later 35 = .ok (.aload_n 0, 1) := by decide +kernel
theorem dX12_later_36 : decode cX12_later 36 = .ok (.iload_n 1, 1) := by decide +kernel
theorem dX12_later_37 : decode cX12_later 37 = .ok (.iload_n 2, 1) := by decide +kernel
theorem dX12_later_38 : decode cX12_later 38 = .ok (.invokevirtual 440, 3) := by decide +kernel
theorem dX12_later_41 : decode cX12_later 41 = .ok (.istore 4, 2) := by decide +kernel
theorem dX12_later_43 : decode cX12_later 43 = .ok (.aload_n 0, 1) := by decide +kernel
theorem dX12_later_44 : decode cX12_later 44 = .ok (.invokevirtual 529, 3) := by decide +kernel
theorem dX12_later_47 : decode cX12_later 47 = .ok (.iload 4, 2) := by decide +kernel
theorem dX12_later_49 : decode cX12_later 49 = .ok (.ireturn, 1) := by decide +kernel
theorem dX12_firstDoer_0 : decode cX12_firstDoer 0 = .ok (.iconst 0, 1) := by decide +kernel
theorem dX12_firstDoer_1 : decode cX12_firstDoer 1 = .ok (.istore_n 1, 1) := by decide +kernel
theorem dX12_firstDoer_2 : decode cX12_firstDoer 2 = .ok (.iload_n 1, 1) := by decide +kernel
theorem dX12_firstDoer_3 : decode cX12_firstDoer 3 = .ok (.aload_n 0, 1) := by decide +kernel
theorem dX12_firstDoer_4 : decode cX12_firstDoer 4 = .ok (.invokevirtual 407, 3) := by decide +kernel
theorem dX12_firstDoer_7 : decode cX12_firstDoer 7 = .ok (.if_icmp .ge 41, 3) := by decide +kernel
theorem dX12_firstDoer_10 : decode cX12_firstDoer 10 = .ok (.iconst 0, 1) := by decide +kernel
theorem dX12_firstDoer_11 : decode cX12_firstDoer 11 = .ok (.istore_n 2, 1) := by decide +kernel
theorem dX12_firstDoer_12 : decode cX12_firstDoer 12 = .ok (.iload_n 2, 1) := by decide +kernel
theorem dX12_firstDoer_13 : decode cX12_firstDoer 13 = .ok (.aload_n 0, 1) := by decide +kernel
theorem dX12_firstDoer_14 : decode cX12_firstDoer 14 = .ok (.invokevirtual 413, 3) := by decide +kernel
theorem dX12_firstDoer_17 : decode cX12_firstDoer 17 = .ok (.if_icmp .ge 25, 3) := by decide +kernel
theorem dX12_firstDoer_20 : decode cX12_firstDoer 20 = .ok (.aload_n 0, 1) := by decide +kernel
theorem dX12_firstDoer_21 : decode cX12_firstDoer 21 = .ok (.iload_n 1, 1) := by decide +kernel
theorem dX12_firstDoer_22 : decode cX12_firstDoer 22 = .ok (.iload_n 2, 1) := by decide +kernel
theorem dX12_firstDoer_23 : decode cX12_firstDoer 23 = .ok (.invokevirtual 461, 3) := by decide +kernel
theorem dX12_firstDoer_26 : decode cX12_firstDoer 26 = .ok (.ifCond .eq 10, 3) := by decide +kernel
theorem dX12_firstDoer_29 : decode cX12_firstDoer 29 = .ok (.bipush 6, 2) := by decide +kernel
theorem dX12_firstDoer_31 : decode cX12_firstDoer 31 = .ok (.iload_n 1, 1) := by decide +kernel
theorem dX12_firstDoer_32 : decode cX12_firstDoer 32 = .ok (.imul, 1) := by decide +kernel
theorem dX12_firstDoer_33 : decode cX12_firstDoer 33 = .ok (.iload_n 2, 1) := by decide +kernel
theorem dX12_firstDoer_34 : decode cX12_firstDoer 34 = .ok (.iadd, 1) := by decide +kernel
theorem dX12_firstDoer_35 : decode cX12_firstDoer 35 = .ok (.ireturn, 1) := by decide +kernel
theorem dX12_firstDoer_36 : decode cX12_firstDoer 36 = .ok (.iinc 2 1, 3) := by decide +kernel
theorem dX12_firstDoer_39 : decode cX12_firstDoer 39 = .ok (.goto (-27), 3) := by decide +kernel
theorem dX12_firstDoer_42 : decode cX12_firstDoer 42 = .ok (.iinc 1 1, 3) := by decide +kernel
theorem dX12_firstDoer_45 : decode cX12_firstDoer 45 = .ok (.goto (-43), 3) := by decide +kernel
theorem dX12_firstDoer_48 : decode cX12_firstDoer 48 = .ok (.iconst (-1), 1) := by decide +kernel
theorem dX12_firstDoer_49 : decode cX12_firstDoer 49 = .ok (.ireturn, 1) := by decide +kernel
theorem dX12_first_0 : decode cX12_first 0 = .ok (.iload_n 1, 1) := by decide +kernel
theorem dX12_first_1 : decode cX12_first 1 = .ok (.i2l, 1) := by decide +kernel
theorem dX12_first_2 : decode cX12_first 2 = .ok (.lconst 0, 1) := by decide +kernel
theorem dX12_first_3 : decode cX12_first 3 = .ok (.ldc2_w 532, 3) := by decide +kernel
theorem dX12_first_6 : decode cX12_first 6 = .ok (.invokestatic 282, 3) := by decide +kernel
theorem dX12_first_9 : decode cX12_first 9 = .ok (.ifCond .ne 5, 3) := by decide +kernel
theorem dX12_first_12 : decode cX12_first 12 = .ok (.iconst (-1), 1) := by decide +kernel
theorem dX12_first_13 : decode cX12_first 13 = .ok (.ireturn, 1) := by decide +kernel
theorem dX12_first_14 : decode cX12_first 14 = .ok (.aload_n 0, 1) := by decide +kernel
theorem dX12_first_15 : decode cX12_first 15 = .ok (.invokevirtual 523, 3) := by decide +kernel
theorem dX12_first_18 : decode cX12_first 18 = .ok (.iconst 0, 1) := by decide +kernel
theorem dX12_first_19 : decode cX12_first 19 = .ok (.istore_n 2, 1) := by decide +kernel
theorem dX12_first_20 : decode cX12_first 20 = .ok (.aload_n 0, 1) := by decide +kernel
theorem dX12_first_21 : decode cX12_first 21 = .ok (.invokevirtual 534, 3) := by decide +kernel
theorem dX12_first_24 : decode cX12_first 24 = .ok (.istore_n 3, 1) := by decide +kernel
theorem dX12_first_25 : decode cX12_first 25 = .ok (.iload_n 3, 1) := by decide +kernel
theorem dX12_first_26 : decode cX12_first 26 = .ok (.iconst (-1), 1) := by decide +kernel
theorem dX12_first_27 : decode cX12_first 27 = .ok (.if_icmp .ne 35, 3) := by decide +kernel
theorem dX12_first_30 : decode cX12_first 30 = .ok (.iload_n 2, 1) := by decide +kernel
theorem dX12_first_31 : decode cX12_first 31 = .ok (.sipush 200, 3) := by decide +kernel
theorem dX12_first_34 : decode cX12_first 34 = .ok (.if_icmp .ge 28, 3) := by decide +kernel
theorem dX12_first_37 : decode cX12_first 37 = .ok (.aload_n 0, 1) := by decide +kernel
theorem dX12_first_38 : decode cX12_first 38 = .ok (.invokevirtual 493, 3) := by decide +kernel
theorem dX12_first_41 : decode cX12_first 41 = .ok (.sipush 9999, 3) := by decide +kernel
theorem dX12_first_44 : decode cX12_first 44 = .ok (.if_icmp .ge 18, 3) := by decide +kernel
theorem dX12_first_47 : decode cX12_first 47 = .ok (.aload_n 0, 1) := by decide +kernel
theorem dX12_first_48 : decode cX12_first 48 = .ok (.invokevirtual 487, 3) := by decide +kernel
theorem dX12_first_51 : decode cX12_first 51 = .ok (.iinc 2 1, 3) := by decide +kernel
theorem dX12_first_54 : decode cX12_first 54 = .ok (.aload_n 0, 1) := by decide +kernel
theorem dX12_first_55 : decode cX12_first 55 = .ok (.invokevirtual 534, 3) := by decide +kernel
theorem dX12_first_58 : decode cX12_first 58 = .ok (.istore_n 3, 1) := by decide +kernel
theorem dX12_first_59 : decode cX12_first 59 = .ok (.goto (-34), 3) := by decide +kernel
theorem dX12_first_62 : decode cX12_first 62 = .ok (.aload_n 0, 1) := by decide +kernel
theorem dX12_first_63 : decode cX12_first 63 = .ok (.invokevirtual 529, 3) := by decide +kernel
theorem dX12_first_66 : decode cX12_first 66 = .ok (.iload_n 3, 1) := by decide +kernel
theorem dX12_first_67 : decode cX12_first 67 = .ok (.iconst (-1), 1) := by decide +kernel
theorem dX12_first_68 : decode cX12_first 68 = .ok (.if_icmp .ne 7, 3) := by decide +kernel
theorem dX12_first_71 : decode cX12_first 71 = .ok (.iconst (-1), 1) := by decide +kernel
theorem dX12_first_72 : decode cX12_first 72 = .ok (.goto 27, 3) := by decide +kernel
theorem dX12_first_75 : decode cX12_first 75 = .ok (.iload_n 1, 1) := by decide +kernel
theorem dX12_first_76 : decode cX12_first 76 = .ok (.ifCond .ne 7, 3) := by decide +kernel
theorem dX12_first_79 : decode cX12_first 79 = .ok (.iload_n 2, 1) := by decide +kernel
theorem dX12_first_80 : decode cX12_first 80 = .ok (.goto 19, 3) := by decide +kernel
theorem dX12_first_83 : decode cX12_first 83 = .ok (.iload_n 1, 1) := by decide +kernel
theorem dX12_first_84 : decode cX12_first 84 = .ok (.iconst 1, 1) := by decide +kernel
theorem dX12_first_85 : decode cX12_first 85 = .ok (.if_icmp .ne 10, 3) := by decide +kernel
theorem dX12_first_88 : decode cX12_first 88 = .ok (.iload_n 3, 1) := by decide +kernel
theorem dX12_first_89 : decode cX12_first 89 = .ok (.bipush 6, 2) := by decide +kernel
theorem dX12_first_91 : decode cX12_first 91 = .ok (.idiv, 1) := by decide +kernel
theorem dX12_first_92 : decode cX12_first 92 = .ok (.goto 7, 3) := by decide +kernel
theorem dX12_first_95 : decode cX12_first 95 = .ok (.iload_n 3, 1) := by decide +kernel
theorem dX12_first_96 : decode cX12_first 96 = .ok (.bipush 6, 2) := by decide +kernel
theorem dX12_first_98 : decode cX12_first 98 = .ok (.irem, 1) := by decide +kernel
theorem dX12_first_99 : decode cX12_first 99 = .ok (.ireturn, 1) := by decide +kernel
theorem dX12_often_0 : decode cX12_often 0 = .ok (.aload_n 0, 1) := by decide +kernel
theorem dX12_often_1 : decode cX12_often 1 = .ok (.iload_n 1, 1) := by decide +kernel
theorem dX12_often_2 : decode cX12_often 2 = .ok (.invokevirtual 503, 3) := by decide +kernel
theorem dX12_often_5 : decode cX12_often 5 = .ok (.ifCond .eq 23, 3) := by decide +kernel
theorem dX12_often_8 : decode cX12_often 8 = .ok (.aload_n 0, 1) := by decide +kernel
theorem dX12_often_9 : decode cX12_often 9 = .ok (.iload_n 2, 1) := by decide +kernel
theorem dX12_often_10 : decode cX12_often 10 = .ok (.invokevirtual 515, 3) := by decide +kernel
theorem dX12_often_13 : decode cX12_often 13 = .ok (.ifCond .eq 15, 3) := by decide +kernel
theorem dX12_often_16 : decode cX12_often 16 = .ok (.iload_n 3, 1) := by decide +kernel
theorem dX12_often_17 : decode cX12_often 17 = .ok (.i2l, 1) := by decide +kernel
theorem dX12_often_18 : decode cX12_often 18 = .ok (.lconst 1, 1) := by decide +kernel
theorem dX12_often_19 : decode cX12_often 19 = .ok (.ldc2_w 518, 3) := by decide +kernel
theorem dX12_often_22 : decode cX12_often 22 = .ok (.invokestatic 282, 3) := by decide +kernel
theorem dX12_often_25 : decode cX12_often 25 = .ok (.ifCond .ne 5, 3) := by decide +kernel
theorem dX12_often_28 : decode cX12_often 28 = .ok (.iconst (-1), 1) := by decide +kernel
theorem dX12_often_29 : decode cX12_often 29 = .ok (.ireturn, 1) := by decide +kernel
theorem dX12_often_30 : decode cX12_often 30 = .ok (.aload_n 0, 1) := by decide +kernel
theorem dX12_often_31 : decode cX12_often 31 = .ok (.invokevirtual 523, 3) := by decide +kernel
theorem dX12_often_34 : decode cX12_often 34 = .ok (.iconst 0, 1) := by decide +kernel
theorem dX12_often_35 : decode cX12_often 35 = .ok (.istore 4, 2) := by decide +kernel
theorem dX12_often_37 : decode cX12_often 37 = .ok (.iconst 0, 1) := by decide +kernel
theorem dX12_often_38 : decode cX12_often 38 = .ok (.istore 5, 2) := by decide +kernel
theorem dX12_often_40 : decode cX12_often 40 = .ok (.iload 5, 2) := by decide +kernel
theorem dX12_often_42 : decode cX12_often 42 = .ok (.iload_n 3, 1) := by decide +kernel
theorem dX12_often_43 : decode cX12_often 43 = .ok (.if_icmp .ge 45, 3) := by decide +kernel
theorem dX12_often_46 : decode cX12_often 46 = .ok (.aload_n 0, 1) := by decide +kernel
theorem dX12_often_47 : decode cX12_often 47 = .ok (.getfield 139, 3) := by decide +kernel
theorem dX12_often_50 : decode cX12_often 50 = .ok (.iconst 0, 1) := by decide +kernel
theorem dX12_often_51 : decode cX12_often 51 = .ok (.iaload, 1) := by decide +kernel
theorem dX12_often_52 : decode cX12_often 52 = .ok (.iload 5, 2) := by decide +kernel
theorem dX12_often_54 : decode cX12_often 54 = .ok (.iadd, 1) := by decide +kernel
theorem dX12_often_55 : decode cX12_often 55 = .ok (.sipush 9999, 3) := by decide +kernel
theorem dX12_often_58 : decode cX12_often 58 = .ok (.if_icmp .gt 30, 3) := by decide +kernel
theorem dX12_often_61 : decode cX12_often 61 = .ok (.iload 5, 2) := by decide +kernel
theorem dX12_often_63 : decode cX12_often 63 = .ok (.ifCond .le 7, 3) := by decide +kernel
theorem dX12_often_66 : decode cX12_often 66 = .ok (.aload_n 0, 1) := by decide +kernel
theorem dX12_often_67 : decode cX12_often 67 = .ok (.invokevirtual 487, 3) := by decide +kernel
theorem dX12_often_70 : decode cX12_often 70 = .ok (.aload_n 0, 1) := by decide +kernel
theorem dX12_often_71 : decode cX12_often 71 = .ok (.iload_n 1, 1) := by decide +kernel
theorem dX12_often_72 : decode cX12_often 72 = .ok (.iload_n 2, 1) := by decide +kernel
theorem dX12_often_73 : decode cX12_often 73 = .ok (.invokevirtual 461, 3) := by decide +kernel
theorem dX12_often_76 : decode cX12_often 76 = .ok (.ifCond .eq 6, 3) := by decide +kernel
theorem dX12_often_79 : decode cX12_often 79 = .ok (.iinc 4 1, 3) := by decide +kernel
theorem dX12_often_82 : decode cX12_often 82 = .ok (.iinc 5 1, 3) := by decide +kernel
theorem dX12_often_85 : decode cX12_often 85 = .ok (.goto (-45), 3) := by decide +kernel
theorem dX12_often_88 : decode cX12_often 88 = .ok (.aload_n 0, 1) := by decide +kernel
theorem dX12_often_89 : decode cX12_often 89 = .ok (.invokevirtual 529, 3) := by decide +kernel
theorem dX12_often_92 : decode cX12_often 92 = .ok (.iload 4, 2) := by decide +kernel
theorem dX12_often_94 : decode cX12_often 94 = .ok (.ireturn, 1) := by decide +kernel
theorem dX12_areAlike_0 : decode cX12_areAlike 0 = .ok (.iconst 1, 1) := by decide +kernel
theorem dX12_areAlike_1 : decode cX12_areAlike 1 = .ok (.istore_n 3, 1) := by decide +kernel
theorem dX12_areAlike_2 : decode cX12_areAlike 2 = .ok (.iload_n 3, 1) := by decide +kernel
theorem dX12_areAlike_3 : decode cX12_areAlike 3 = .ok (.bipush 95, 2) := by decide +kernel
theorem dX12_areAlike_5 : decode cX12_areAlike 5 = .ok (.if_icmp .ge 36, 3) := by decide +kernel
theorem dX12_areAlike_8 : decode cX12_areAlike 8 = .ok (.aload_n 0, 1) := by decide +kernel
theorem dX12_areAlike_9 : decode cX12_areAlike 9 = .ok (.getfield 145, 3) := by decide +kernel
theorem dX12_areAlike_12 : decode cX12_areAlike 12 = .ok (.bipush 95, 2) := by decide +kernel
theorem dX12_areAlike_14 : decode cX12_areAlike 14 = .ok (.iload_n 1, 1) := by decide +kernel
theorem dX12_areAlike_15 : decode cX12_areAlike 15 = .ok (.imul, 1) := by decide +kernel
theorem dX12_areAlike_16 : decode cX12_areAlike 16 = .ok (.iload_n 3, 1) := by decide +kernel
theorem dX12_areAlike_17 : decode cX12_areAlike 17 = .ok (.iadd, 1) := by decide +kernel
theorem dX12_areAlike_18 : decode cX12_areAlike 18 = .ok (.iaload, 1) := by decide +kernel
theorem dX12_areAlike_19 : decode cX12_areAlike 19 = .ok (.aload_n 0, 1) := by decide +kernel
theorem dX12_areAlike_20 : decode cX12_areAlike 20 = .ok (.getfield 145, 3) := by decide +kernel
theorem dX12_areAlike_23 : decode cX12_areAlike 23 = .ok (.bipush 95, 2) := by decide +kernel
theorem dX12_areAlike_25 : decode cX12_areAlike 25 = .ok (.iload_n 2, 1) := by decide +kernel
theorem dX12_areAlike_26 : decode cX12_areAlike 26 = .ok (.imul, 1) := by decide +kernel
theorem dX12_areAlike_27 : decode cX12_areAlike 27 = .ok (.iload_n 3, 1) := by decide +kernel
theorem dX12_areAlike_28 : decode cX12_areAlike 28 = .ok (.iadd, 1) := by decide +kernel
theorem dX12_areAlike_29 : decode cX12_areAlike 29 = .ok (.iaload, 1) := by decide +kernel
theorem dX12_areAlike_30 : decode cX12_areAlike 30 = .ok (.if_icmp .eq 5, 3) := by decide +kernel
theorem dX12_areAlike_33 : decode cX12_areAlike 33 = .ok (.iconst 0, 1) := by decide +kernel
theorem dX12_areAlike_34 : decode cX12_areAlike 34 = .ok (.ireturn, 1) := by decide +kernel
theorem dX12_areAlike_35 : decode cX12_areAlike 35 = .ok (.iinc 3 1, 3) := by decide +kernel
theorem dX12_areAlike_38 : decode cX12_areAlike 38 = .ok (.goto (-36), 3) := by decide +kernel
theorem dX12_areAlike_41 : decode cX12_areAlike 41 = .ok (.iconst 1, 1) := by decide +kernel
theorem dX12_areAlike_42 : decode cX12_areAlike 42 = .ok (.ireturn, 1) := by decide +kernel
theorem dX12_again_0 : decode cX12_again 0 = .ok (.iload_n 1, 1) := by decide +kernel
theorem dX12_again_1 : decode cX12_again 1 = .ok (.i2l, 1) := by decide +kernel
theorem dX12_again_2 : decode cX12_again 2 = .ok (.lconst 0, 1) := by decide +kernel
theorem dX12_again_3 : decode cX12_again 3 = .ok (.lconst 1, 1) := by decide +kernel
theorem dX12_again_4 : decode cX12_again 4 = .ok (.invokestatic 282, 3) := by decide +kernel
theorem dX12_again_7 : decode cX12_again 7 = .ok (.ifCond .ne 5, 3) := by decide +kernel
theorem dX12_again_10 : decode cX12_again 10 = .ok (.iconst (-1), 1) := by decide +kernel
theorem dX12_again_11 : decode cX12_again 11 = .ok (.ireturn, 1) := by decide +kernel
theorem dX12_again_12 : decode cX12_again 12 = .ok (.aload_n 0, 1) := by decide +kernel
theorem dX12_again_13 : decode cX12_again 13 = .ok (.invokevirtual 523, 3) := by decide +kernel
theorem dX12_again_16 : decode cX12_again 16 = .ok (.iconst (-1), 1) := by decide +kernel
theorem dX12_again_17 : decode cX12_again 17 = .ok (.istore_n 2, 1) := by decide +kernel
theorem dX12_again_18 : decode cX12_again 18 = .ok (.iconst (-1), 1) := by decide +kernel
theorem dX12_again_19 : decode cX12_again 19 = .ok (.istore_n 3, 1) := by decide +kernel
theorem dX12_again_20 : decode cX12_again 20 = .ok (.iconst 0, 1) := by decide +kernel
theorem dX12_again_21 : decode cX12_again 21 = .ok (.istore 4, 2) := by decide +kernel
theorem dX12_again_23 : decode cX12_again 23 = .ok (.iload 4, 2) := by decide +kernel
theorem dX12_again_25 : decode cX12_again 25 = .ok (.bipush 8, 2) := by decide +kernel
theorem dX12_again_27 : decode cX12_again 27 = .ok (.if_icmp .gt 120, 3) := by decide +kernel
theorem dX12_again_30 : decode cX12_again 30 = .ok (.iload_n 2, 1) := by decide +kernel
theorem dX12_again_31 : decode cX12_again 31 = .ok (.iconst (-1), 1) := by decide +kernel
theorem dX12_again_32 : decode cX12_again 32 = .ok (.if_icmp .ne 115, 3) := by decide +kernel
theorem dX12_again_35 : decode cX12_again 35 = .ok (.aload_n 0, 1) := by decide +kernel
theorem dX12_again_36 : decode cX12_again 36 = .ok (.getfield 139, 3) := by decide +kernel
theorem dX12_again_39 : decode cX12_again 39 = .ok (.iconst 0, 1) := by decide +kernel
theorem dX12_again_40 : decode cX12_again 40 = .ok (.iaload, 1) := by decide +kernel
theorem dX12_again_41 : decode cX12_again 41 = .ok (.bipush 24, 2) := by decide +kernel
theorem dX12_again_43 : decode cX12_again 43 = .ok (.iload 4, 2) := by decide +kernel
theorem dX12_again_45 : decode cX12_again 45 = .ok (.imul, 1) := by decide +kernel
theorem dX12_again_46 : decode cX12_again 46 = .ok (.iadd, 1) := by decide +kernel
theorem dX12_again_47 : decode cX12_again 47 = .ok (.sipush 9999, 3) := by decide +kernel
theorem dX12_again_50 : decode cX12_again 50 = .ok (.if_icmp .gt 97, 3) := by decide +kernel
theorem dX12_again_53 : decode cX12_again 53 = .ok (.iload 4, 2) := by decide +kernel
theorem dX12_again_55 : decode cX12_again 55 = .ok (.ifCond .le 9, 3) := by decide +kernel
theorem dX12_again_58 : decode cX12_again 58 = .ok (.aload_n 0, 1) := by decide +kernel
theorem dX12_again_59 : decode cX12_again 59 = .ok (.bipush 24, 2) := by decide +kernel
theorem dX12_again_61 : decode cX12_again 61 = .ok (.invokevirtual 526, 3) := by decide +kernel
theorem dX12_again_64 : decode cX12_again 64 = .ok (.iconst 0, 1) := by decide +kernel
theorem dX12_again_65 : decode cX12_again 65 = .ok (.istore 5, 2) := by decide +kernel
theorem dX12_again_67 : decode cX12_again 67 = .ok (.iload 5, 2) := by decide +kernel
theorem dX12_again_69 : decode cX12_again 69 = .ok (.bipush 95, 2) := by decide +kernel
theorem dX12_again_71 : decode cX12_again 71 = .ok (.if_icmp .ge 29, 3) := by decide +kernel
theorem dX12_again_74 : decode cX12_again 74 = .ok (.aload_n 0, 1) := by decide +kernel
theorem dX12_again_75 : decode cX12_again 75 = .ok (.getfield 145, 3) := by decide +kernel
theorem dX12_again_78 : decode cX12_again 78 = .ok (.bipush 95, 2) := by decide +kernel
theorem dX12_again_80 : decode cX12_again 80 = .ok (.iload 4, 2) := by decide +kernel
theorem dX12_again_82 : decode cX12_again 82 = .ok (.imul, 1) := by decide +kernel
theorem dX12_again_83 : decode cX12_again 83 = .ok (.iload 5, 2) := by decide +kernel
theorem dX12_again_85 : decode cX12_again 85 = .ok (.iadd, 1) := by decide +kernel
theorem dX12_again_86 : decode cX12_again 86 = .ok (.aload_n 0, 1) := by decide +kernel
theorem dX12_again_87 : decode cX12_again 87 = .ok (.getfield 136, 3) := by decide +kernel
theorem dX12_again_90 : decode cX12_again 90 = .ok (.iload 5, 2) := by decide +kernel
theorem dX12_again_92 : decode cX12_again 92 = .ok (.iaload, 1) := by decide +kernel
theorem dX12_again_93 : decode cX12_again 93 = .ok (.iastore, 1) := by decide +kernel
theorem dX12_again_94 : decode cX12_again 94 = .ok (.iinc 5 1, 3) := by decide +kernel
theorem dX12_again_97 : decode cX12_again 97 = .ok (.goto (-30), 3) := by decide +kernel
theorem dX12_again_100 : decode cX12_again 100 = .ok (.iconst 0, 1) := by decide +kernel
theorem dX12_again_101 : decode cX12_again 101 = .ok (.istore 5, 2) := by decide +kernel
theorem dX12_again_103 : decode cX12_again 103 = .ok (.iload 5, 2) := by decide +kernel
theorem dX12_again_105 : decode cX12_again 105 = .ok (.iload 4, 2) := by decide +kernel
theorem dX12_again_107 : decode cX12_again 107 = .ok (.if_icmp .ge 34, 3) := by decide +kernel
theorem dX12_again_110 : decode cX12_again 110 = .ok (.iload_n 2, 1) := by decide +kernel
theorem dX12_again_111 : decode cX12_again 111 = .ok (.iconst (-1), 1) := by decide +kernel
theorem dX12_again_112 : decode cX12_again 112 = .ok (.if_icmp .ne 29, 3) := by decide +kernel
theorem dX12_again_115 : decode cX12_again 115 = .ok (.aload_n 0, 1) := by decide +kernel
theorem dX12_again_116 : decode cX12_again 116 = .ok (.iload 5, 2) := by decide +kernel
theorem dX12_again_118 : decode cX12_again 118 = .ok (.iload 4, 2) := by decide +kernel
theorem dX12_again_120 : decode cX12_again 120 = .ok (.invokevirtual 537, 3) := by decide +kernel
theorem dX12_again_123 : decode cX12_again 123 = .ok (.ifCond .eq 12, 3) := by decide +kernel
theorem dX12_again_126 : decode cX12_again 126 = .ok (.iload 4, 2) := by decide +kernel
theorem dX12_again_128 : decode cX12_again 128 = .ok (.istore_n 2, 1) := by decide +kernel
theorem dX12_again_129 : decode cX12_again 129 = .ok (.iload 4, 2) := by decide +kernel
theorem dX12_again_131 : decode cX12_again 131 = .ok (.iload 5, 2) := by decide +kernel
theorem dX12_again_133 : decode cX12_again 133 = .ok (.isub, 1) := by decide +kernel
theorem dX12_again_134 : decode cX12_again 134 = .ok (.istore_n 3, 1) := by decide +kernel
theorem dX12_again_135 : decode cX12_again 135 = .ok (.iinc 5 1, 3) := by decide +kernel
theorem dX12_again_138 : decode cX12_again 138 = .ok (.goto (-35), 3) := by decide +kernel
theorem dX12_again_141 : decode cX12_again 141 = .ok (.iinc 4 1, 3) := by decide +kernel
theorem dX12_again_144 : decode cX12_again 144 = .ok (.goto (-121), 3) := by decide +kernel
theorem dX12_again_147 : decode cX12_again 147 = .ok (.aload_n 0, 1) := by decide +kernel
theorem dX12_again_148 : decode cX12_again 148 = .ok (.invokevirtual 529, 3) := by decide +kernel
theorem dX12_again_151 : decode cX12_again 151 = .ok (.iload_n 1, 1) := by decide +kernel
theorem dX12_again_152 : decode cX12_again 152 = .ok (.ifCond .ne 7, 3) := by decide +kernel
theorem dX12_again_155 : decode cX12_again 155 = .ok (.iload_n 2, 1) := by decide +kernel
theorem dX12_again_156 : decode cX12_again 156 = .ok (.goto 4, 3) := by decide +kernel
theorem dX12_again_159 : decode cX12_again 159 = .ok (.iload_n 3, 1) := by decide +kernel
theorem dX12_again_160 : decode cX12_again 160 = .ok (.ireturn, 1) := by decide +kernel
theorem dX12_isHands_0 : decode cX12_isHands 0 = .ok (.iload_n 1, 1) := by decide +kernel
theorem dX12_isHands_1 : decode cX12_isHands 1 = .ok (.i2l, 1) := by decide +kernel
theorem dX12_isHands_2 : decode cX12_isHands 2 = .ok (.lconst 1, 1) := by decide +kernel
theorem dX12_isHands_3 : decode cX12_isHands 3 = .ok (.iconst 1, 1) := by decide +kernel
theorem dX12_isHands_4 : decode cX12_isHands 4 = .ok (.aload_n 0, 1) := by decide +kernel
theorem dX12_isHands_5 : decode cX12_isHands 5 = .ok (.invokevirtual 407, 3) := by decide +kernel
theorem dX12_isHands_8 : decode cX12_isHands 8 = .ok (.ishl, 1) := by decide +kernel
theorem dX12_isHands_9 : decode cX12_isHands 9 = .ok (.iconst 1, 1) := by decide +kernel
theorem dX12_isHands_10 : decode cX12_isHands 10 = .ok (.isub, 1) := by decide +kernel
theorem dX12_isHands_11 : decode cX12_isHands 11 = .ok (.i2l, 1) := by decide +kernel
theorem dX12_isHands_12 : decode cX12_isHands 12 = .ok (.invokestatic 282, 3) := by decide +kernel
theorem dX12_isHands_15 : decode cX12_isHands 15 = .ok (.ifCond .eq 15, 3) := by decide +kernel
theorem dX12_isHands_18 : decode cX12_isHands 18 = .ok (.iload_n 1, 1) := by decide +kernel
theorem dX12_isHands_19 : decode cX12_isHands 19 = .ok (.invokestatic 327, 3) := by decide +kernel
theorem dX12_isHands_22 : decode cX12_isHands 22 = .ok (.iconst 3, 1) := by decide +kernel
theorem dX12_isHands_23 : decode cX12_isHands 23 = .ok (.if_icmp .gt 7, 3) := by decide +kernel
theorem dX12_isHands_26 : decode cX12_isHands 26 = .ok (.iconst 1, 1) := by decide +kernel
theorem dX12_isHands_27 : decode cX12_isHands 27 = .ok (.goto 4, 3) := by decide +kernel
theorem dX12_isHands_30 : decode cX12_isHands 30 = .ok (.iconst 0, 1) := by decide +kernel
theorem dX12_isHands_31 : decode cX12_isHands 31 = .ok (.ireturn, 1) := by decide +kernel
theorem dX12_size_0 : decode cX12_size 0 = .ok (.iload_n 0, 1) := by decide +kernel
theorem dX12_size_1 : decode cX12_size 1 = .ok (.ifCond .ge 8, 3) := by decide +kernel
theorem dX12_size_4 : decode cX12_size 4 = .ok (.iload_n 0, 1) := by decide +kernel
theorem dX12_size_5 : decode cX12_size 5 = .ok (.ineg, 1) := by decide +kernel
theorem dX12_size_6 : decode cX12_size 6 = .ok (.goto 4, 3) := by decide +kernel
theorem dX12_size_9 : decode cX12_size 9 = .ok (.iload_n 0, 1) := by decide +kernel
theorem dX12_size_10 : decode cX12_size 10 = .ok (.ireturn, 1) := by decide +kernel
theorem dX12_least_0 : decode cX12_least 0 = .ok (.iload_n 0, 1) := by decide +kernel
theorem dX12_least_1 : decode cX12_least 1 = .ok (.iload_n 1, 1) := by decide +kernel
theorem dX12_least_2 : decode cX12_least 2 = .ok (.if_icmp .ge 7, 3) := by decide +kernel
theorem dX12_least_5 : decode cX12_least 5 = .ok (.iload_n 0, 1) := by decide +kernel
theorem dX12_least_6 : decode cX12_least 6 = .ok (.goto 4, 3) := by decide +kernel
theorem dX12_least_9 : decode cX12_least 9 = .ok (.iload_n 1, 1) := by decide +kernel
theorem dX12_least_10 : decode cX12_least 10 = .ok (.ireturn, 1) := by decide +kernel
theorem dX12_laterBy_0 : decode cX12_laterBy 0 = .ok (.aload_n 0, 1) := by decide +kernel
theorem dX12_laterBy_1 : decode cX12_laterBy 1 = .ok (.invokevirtual 523, 3) := by decide +kernel
theorem dX12_laterBy_4 : decode cX12_laterBy 4 = .ok (.aload_n 0, 1) := by decide +kernel
theorem dX12_laterBy_5 : decode cX12_laterBy 5 = .ok (.getfield 136, 3) := by decide +kernel
theorem dX12_laterBy_8 : decode cX12_laterBy 8 = .ok (.bipush 65, 2) := by decide +kernel
theorem dX12_laterBy_10 : decode cX12_laterBy 10 = .ok (.iconst 5, 1) := by decide +kernel
theorem dX12_laterBy_11 : decode cX12_laterBy 11 = .ok (.iload_n 1, 1) := by decide +kernel
theorem dX12_laterBy_12 : decode cX12_laterBy 12 = .ok (.imul, 1) := by decide +kernel
theorem dX12_laterBy_13 : decode cX12_laterBy 13 = .ok (.iadd, 1) := by decide +kernel
theorem dX12_laterBy_14 : decode cX12_laterBy 14 = .ok (.iload_n 2, 1) := by decide +kernel
theorem dX12_laterBy_15 : decode cX12_laterBy 15 = .ok (.iastore, 1) := by decide +kernel
theorem dX12_laterBy_16 : decode cX12_laterBy 16 = .ok (.aload_n 0, 1) := by decide +kernel
theorem dX12_laterBy_17 : decode cX12_laterBy 17 = .ok (.iload 5, 2) := by decide +kernel
theorem dX12_laterBy_19 : decode cX12_laterBy 19 = .ok (.invokevirtual 526, 3) := by decide +kernel
theorem dX12_laterBy_22 : decode cX12_laterBy 22 = .ok (.aload_n 0, 1) := by decide +kernel
theorem dX12_laterBy_23 : decode cX12_laterBy 23 = .ok (.iload_n 3, 1) := by decide +kernel
theorem dX12_laterBy_24 : decode cX12_laterBy 24 = .ok (.iload 4, 2) := by decide +kernel
theorem dX12_laterBy_26 : decode cX12_laterBy 26 = .ok (.invokevirtual 440, 3) := by decide +kernel
theorem dX12_laterBy_29 : decode cX12_laterBy 29 = .ok (.istore 6, 2) := by decide +kernel
theorem dX12_laterBy_31 : decode cX12_laterBy 31 = .ok (.aload_n 0, 1) := by decide +kernel
theorem dX12_laterBy_32 : decode cX12_laterBy 32 = .ok (.invokevirtual 529, 3) := by decide +kernel
theorem dX12_laterBy_35 : decode cX12_laterBy 35 = .ok (.iload 6, 2) := by decide +kernel
theorem dX12_laterBy_37 : decode cX12_laterBy 37 = .ok (.ireturn, 1) := by decide +kernel
theorem dX12_hands_0 : decode cX12_hands 0 = .ok (.aload_n 0, 1) := by decide +kernel
theorem dX12_hands_1 : decode cX12_hands 1 = .ok (.iload_n 1, 1) := by decide +kernel
theorem dX12_hands_2 : decode cX12_hands 2 = .ok (.invokevirtual 509, 3) := by decide +kernel
theorem dX12_hands_5 : decode cX12_hands 5 = .ok (.ifCond .eq 52, 3) := by decide +kernel
theorem dX12_hands_8 : decode cX12_hands 8 = .ok (.aload_n 0, 1) := by decide +kernel
theorem dX12_hands_9 : decode cX12_hands 9 = .ok (.iload_n 2, 1) := by decide +kernel
theorem dX12_hands_10 : decode cX12_hands 10 = .ok (.invokevirtual 503, 3) := by decide +kernel
theorem dX12_hands_13 : decode cX12_hands 13 = .ok (.ifCond .eq 44, 3) := by decide +kernel
theorem dX12_hands_16 : decode cX12_hands 16 = .ok (.aload_n 0, 1) := by decide +kernel
theorem dX12_hands_17 : decode cX12_hands 17 = .ok (.iload_n 3, 1) := by decide +kernel
theorem dX12_hands_18 : decode cX12_hands 18 = .ok (.invokevirtual 506, 3) := by decide +kernel
theorem dX12_hands_21 : decode cX12_hands 21 = .ok (.ifCond .eq 36, 3) := by decide +kernel
theorem dX12_hands_24 : decode cX12_hands 24 = .ok (.aload_n 0, 1) := by decide +kernel
theorem dX12_hands_25 : decode cX12_hands 25 = .ok (.iload 4, 2) := by decide +kernel
theorem dX12_hands_27 : decode cX12_hands 27 = .ok (.invokevirtual 520, 3) := by decide +kernel
theorem dX12_hands_30 : decode cX12_hands 30 = .ok (.ifCond .eq 27, 3) := by decide +kernel
theorem dX12_hands_33 : decode cX12_hands 33 = .ok (.iload 5, 2) := by decide +kernel
theorem dX12_hands_35 : decode cX12_hands 35 = .ok (.i2l, 1) := by decide +kernel
theorem dX12_hands_36 : decode cX12_hands 36 = .ok (.lconst 0, 1) := by decide +kernel
theorem dX12_hands_37 : decode cX12_hands 37 = .ok (.ldc2_w 456, 3) := by decide +kernel
theorem dX12_hands_40 : decode cX12_hands 40 = .ok (.invokestatic 282, 3) := by decide +kernel
theorem dX12_hands_43 : decode cX12_hands 43 = .ok (.ifCond .eq 14, 3) := by decide +kernel
theorem dX12_hands_46 : decode cX12_hands 46 = .ok (.iload 6, 2) := by decide +kernel
theorem dX12_hands_48 : decode cX12_hands 48 = .ok (.i2l, 1) := by decide +kernel
theorem dX12_hands_49 : decode cX12_hands 49 = .ok (.lconst 0, 1) := by decide +kernel
theorem dX12_hands_50 : decode cX12_hands 50 = .ok (.lconst 1, 1) := by decide +kernel
theorem dX12_hands_51 : decode cX12_hands 51 = .ok (.invokestatic 282, 3) := by decide +kernel
theorem dX12_hands_54 : decode cX12_hands 54 = .ok (.ifCond .ne 5, 3) := by decide +kernel
theorem dX12_hands_57 : decode cX12_hands 57 = .ok (.iconst (-1), 1) := by decide +kernel
theorem dX12_hands_58 : decode cX12_hands 58 = .ok (.ireturn, 1) := by decide +kernel
theorem dX12_hands_59 : decode cX12_hands 59 = .ok (.iconst (-1), 1) := by decide +kernel
theorem dX12_hands_60 : decode cX12_hands 60 = .ok (.istore 7, 2) := by decide +kernel
theorem dX12_hands_62 : decode cX12_hands 62 = .ok (.iconst 0, 1) := by decide +kernel
theorem dX12_hands_63 : decode cX12_hands 63 = .ok (.istore 8, 2) := by decide +kernel
theorem dX12_hands_65 : decode cX12_hands 65 = .ok (.iconst 1, 1) := by decide +kernel
theorem dX12_hands_66 : decode cX12_hands 66 = .ok (.istore 9, 2) := by decide +kernel
theorem dX12_hands_68 : decode cX12_hands 68 = .ok (.iload 9, 2) := by decide +kernel
theorem dX12_hands_70 : decode cX12_hands 70 = .ok (.iconst 1, 1) := by decide +kernel
theorem dX12_hands_71 : decode cX12_hands 71 = .ok (.aload_n 0, 1) := by decide +kernel
theorem dX12_hands_72 : decode cX12_hands 72 = .ok (.invokevirtual 407, 3) := by decide +kernel
theorem dX12_hands_75 : decode cX12_hands 75 = .ok (.ishl, 1) := by decide +kernel
theorem dX12_hands_76 : decode cX12_hands 76 = .ok (.if_icmp .ge 103, 3) := by decide +kernel
theorem dX12_hands_79 : decode cX12_hands 79 = .ok (.aload_n 0, 1) := by decide +kernel
theorem dX12_hands_80 : decode cX12_hands 80 = .ok (.iload 9, 2) := by decide +kernel
theorem dX12_hands_82 : decode cX12_hands 82 = .ok (.invokevirtual 540, 3) := by decide +kernel
theorem dX12_hands_85 : decode cX12_hands 85 = .ok (.ifCond .ne 6, 3) := by decide +kernel
theorem dX12_hands_88 : decode cX12_hands 88 = .ok (.goto 85, 3) := by decide +kernel
theorem dX12_hands_91 : decode cX12_hands 91 = .ok (.aload_n 0, 1) := by decide +kernel
theorem dX12_hands_92 : decode cX12_hands 92 = .ok (.iload_n 1, 1) := by decide +kernel
theorem dX12_hands_93 : decode cX12_hands 93 = .ok (.iload 9, 2) := by decide +kernel
theorem dX12_hands_95 : decode cX12_hands 95 = .ok (.iload_n 2, 1) := by decide +kernel
theorem dX12_hands_96 : decode cX12_hands 96 = .ok (.iload_n 3, 1) := by decide +kernel
theorem dX12_hands_97 : decode cX12_hands 97 = .ok (.iload 4, 2) := by decide +kernel
theorem dX12_hands_99 : decode cX12_hands 99 = .ok (.invokevirtual 543, 3) := by decide +kernel
theorem dX12_hands_102 : decode cX12_hands 102 = .ok (.istore 10, 2) := by decide +kernel
theorem dX12_hands_104 : decode cX12_hands 104 = .ok (.iload 10, 2) := by decide +kernel
theorem dX12_hands_106 : decode cX12_hands 106 = .ok (.iload 5, 2) := by decide +kernel
theorem dX12_hands_108 : decode cX12_hands 108 = .ok (.isub, 1) := by decide +kernel
theorem dX12_hands_109 : decode cX12_hands 109 = .ok (.invokestatic 546, 3) := by decide +kernel
theorem dX12_hands_112 : decode cX12_hands 112 = .ok (.iload 7, 2) := by decide +kernel
theorem dX12_hands_114 : decode cX12_hands 114 = .ok (.iconst (-1), 1) := by decide +kernel
theorem dX12_hands_115 : decode cX12_hands 115 = .ok (.if_icmp .ne 7, 3) := by decide +kernel
theorem dX12_hands_118 : decode cX12_hands 118 = .ok (.iconst 0, 1) := by decide +kernel
theorem dX12_hands_119 : decode cX12_hands 119 = .ok (.goto 11, 3) := by decide +kernel
theorem dX12_hands_122 : decode cX12_hands 122 = .ok (.iload 8, 2) := by decide +kernel
theorem dX12_hands_124 : decode cX12_hands 124 = .ok (.iload 5, 2) := by decide +kernel
theorem dX12_hands_126 : decode cX12_hands 126 = .ok (.isub, 1) := by decide +kernel
theorem dX12_hands_127 : decode cX12_hands 127 = .ok (.invokestatic 546, 3) := by decide +kernel
theorem dX12_hands_130 : decode cX12_hands 130 = .ok (.isub, 1) := by decide +kernel
theorem dX12_hands_131 : decode cX12_hands 131 = .ok (.istore 11, 2) := by decide +kernel
theorem dX12_hands_133 : decode cX12_hands 133 = .ok (.iload 7, 2) := by decide +kernel
theorem dX12_hands_135 : decode cX12_hands 135 = .ok (.iconst (-1), 1) := by decide +kernel
theorem dX12_hands_136 : decode cX12_hands 136 = .ok (.if_icmp .eq 29, 3) := by decide +kernel
theorem dX12_hands_139 : decode cX12_hands 139 = .ok (.iload 11, 2) := by decide +kernel
theorem dX12_hands_141 : decode cX12_hands 141 = .ok (.ifCond .gt 32, 3) := by decide +kernel
theorem dX12_hands_144 : decode cX12_hands 144 = .ok (.iload 11, 2) := by decide +kernel
theorem dX12_hands_146 : decode cX12_hands 146 = .ok (.ifCond .ne 19, 3) := by decide +kernel
theorem dX12_hands_149 : decode cX12_hands 149 = .ok (.iload 9, 2) := by decide +kernel
theorem dX12_hands_151 : decode cX12_hands 151 = .ok (.invokestatic 327, 3) := by decide +kernel
theorem dX12_hands_154 : decode cX12_hands 154 = .ok (.iload 7, 2) := by decide +kernel
theorem dX12_hands_156 : decode cX12_hands 156 = .ok (.invokestatic 327, 3) := by decide +kernel
theorem dX12_hands_159 : decode cX12_hands 159 = .ok (.if_icmp .lt 6, 3) := by decide +kernel
theorem dX12_hands_162 : decode cX12_hands 162 = .ok (.goto 11, 3) := by decide +kernel
theorem dX12_hands_165 : decode cX12_hands 165 = .ok (.iload 9, 2) := by decide +kernel
theorem dX12_hands_167 : decode cX12_hands 167 = .ok (.istore 7, 2) := by decide +kernel
theorem dX12_hands_169 : decode cX12_hands 169 = .ok (.iload 10, 2) := by decide +kernel
theorem dX12_hands_171 : decode cX12_hands 171 = .ok (.istore 8, 2) := by decide +kernel
theorem dX12_hands_173 : decode cX12_hands 173 = .ok (.iinc 9 1, 3) := by decide +kernel
theorem dX12_hands_176 : decode cX12_hands 176 = .ok (.goto (-108), 3) := by decide +kernel
theorem dX12_hands_179 : decode cX12_hands 179 = .ok (.iload 6, 2) := by decide +kernel
theorem dX12_hands_181 : decode cX12_hands 181 = .ok (.ifCond .ne 8, 3) := by decide +kernel
theorem dX12_hands_184 : decode cX12_hands 184 = .ok (.iload 7, 2) := by decide +kernel
theorem dX12_hands_186 : decode cX12_hands 186 = .ok (.goto 5, 3) := by decide +kernel
theorem dX12_hands_189 : decode cX12_hands 189 = .ok (.iload 8, 2) := by decide +kernel
theorem dX12_hands_191 : decode cX12_hands 191 = .ok (.ireturn, 1) := by decide +kernel
theorem dX12_blend_0 : decode cX12_blend 0 = .ok (.aload_n 0, 1) := by decide +kernel
theorem dX12_blend_1 : decode cX12_blend 1 = .ok (.iload_n 1, 1) := by decide +kernel
theorem dX12_blend_2 : decode cX12_blend 2 = .ok (.invokevirtual 509, 3) := by decide +kernel
theorem dX12_blend_5 : decode cX12_blend 5 = .ok (.ifCond .eq 48, 3) := by decide +kernel
theorem dX12_blend_8 : decode cX12_blend 8 = .ok (.aload_n 0, 1) := by decide +kernel
theorem dX12_blend_9 : decode cX12_blend 9 = .ok (.iload_n 2, 1) := by decide +kernel
theorem dX12_blend_10 : decode cX12_blend 10 = .ok (.invokevirtual 509, 3) := by decide +kernel
theorem dX12_blend_13 : decode cX12_blend 13 = .ok (.ifCond .eq 40, 3) := by decide +kernel
theorem dX12_blend_16 : decode cX12_blend 16 = .ok (.iload_n 1, 1) := by decide +kernel
theorem dX12_blend_17 : decode cX12_blend 17 = .ok (.iload_n 2, 1) := by decide +kernel
theorem dX12_blend_18 : decode cX12_blend 18 = .ok (.if_icmp .eq 35, 3) := by decide +kernel
theorem dX12_blend_21 : decode cX12_blend 21 = .ok (.aload_n 0, 1) := by decide +kernel
theorem dX12_blend_22 : decode cX12_blend 22 = .ok (.iload_n 3, 1) := by decide +kernel
theorem dX12_blend_23 : decode cX12_blend 23 = .ok (.invokevirtual 506, 3) := by decide +kernel
theorem dX12_blend_26 : decode cX12_blend 26 = .ok (.ifCond .eq 27, 3) := by decide +kernel
theorem dX12_blend_29 : decode cX12_blend 29 = .ok (.iload 4, 2) := by decide +kernel
theorem dX12_blend_31 : decode cX12_blend 31 = .ok (.i2l, 1) := by decide +kernel
theorem dX12_blend_32 : decode cX12_blend 32 = .ok (.lconst 0, 1) := by decide +kernel
theorem dX12_blend_33 : decode cX12_blend 33 = .ok (.ldc2_w 456, 3) := by decide +kernel
theorem dX12_blend_36 : decode cX12_blend 36 = .ok (.invokestatic 282, 3) := by decide +kernel
theorem dX12_blend_39 : decode cX12_blend 39 = .ok (.ifCond .eq 14, 3) := by decide +kernel
theorem dX12_blend_42 : decode cX12_blend 42 = .ok (.iload 5, 2) := by decide +kernel
theorem dX12_blend_44 : decode cX12_blend 44 = .ok (.i2l, 1) := by decide +kernel
theorem dX12_blend_45 : decode cX12_blend 45 = .ok (.lconst 0, 1) := by decide +kernel
theorem dX12_blend_46 : decode cX12_blend 46 = .ok (.lconst 1, 1) := by decide +kernel
theorem dX12_blend_47 : decode cX12_blend 47 = .ok (.invokestatic 282, 3) := by decide +kernel
theorem dX12_blend_50 : decode cX12_blend 50 = .ok (.ifCond .ne 5, 3) := by decide +kernel
theorem dX12_blend_53 : decode cX12_blend 53 = .ok (.iconst (-1), 1) := by decide +kernel
theorem dX12_blend_54 : decode cX12_blend 54 = .ok (.ireturn, 1) := by decide +kernel
theorem dX12_blend_55 : decode cX12_blend 55 = .ok (.aload_n 0, 1) := by decide +kernel
theorem dX12_blend_56 : decode cX12_blend 56 = .ok (.iload_n 1, 1) := by decide +kernel
theorem dX12_blend_57 : decode cX12_blend 57 = .ok (.iload_n 3, 1) := by decide +kernel
theorem dX12_blend_58 : decode cX12_blend 58 = .ok (.invokevirtual 471, 3) := by decide +kernel
theorem dX12_blend_61 : decode cX12_blend 61 = .ok (.istore 6, 2) := by decide +kernel
theorem dX12_blend_63 : decode cX12_blend 63 = .ok (.aload_n 0, 1) := by decide +kernel
theorem dX12_blend_64 : decode cX12_blend 64 = .ok (.iload_n 2, 1) := by decide +kernel
theorem dX12_blend_65 : decode cX12_blend 65 = .ok (.iload_n 3, 1) := by decide +kernel
theorem dX12_blend_66 : decode cX12_blend 66 = .ok (.invokevirtual 471, 3) := by decide +kernel
theorem dX12_blend_69 : decode cX12_blend 69 = .ok (.istore 7, 2) := by decide +kernel
theorem dX12_blend_71 : decode cX12_blend 71 = .ok (.iconst 0, 1) := by decide +kernel
theorem dX12_blend_72 : decode cX12_blend 72 = .ok (.istore 8, 2) := by decide +kernel
theorem dX12_blend_74 : decode cX12_blend 74 = .ok (.iconst 0, 1) := by decide +kernel
theorem dX12_blend_75 : decode cX12_blend 75 = .ok (.istore 9, 2) := by decide +kernel
theorem dX12_blend_77 : decode cX12_blend 77 = .ok (.iconst 1, 1) := by decide +kernel
theorem dX12_blend_78 : decode cX12_blend 78 = .ok (.istore 10, 2) := by decide +kernel
theorem dX12_blend_80 : decode cX12_blend 80 = .ok (.iconst 1, 1) := by decide +kernel
theorem dX12_blend_81 : decode cX12_blend 81 = .ok (.istore 11, 2) := by decide +kernel
theorem dX12_blend_83 : decode cX12_blend 83 = .ok (.iload 11, 2) := by decide +kernel
theorem dX12_blend_85 : decode cX12_blend 85 = .ok (.bipush 10, 2) := by decide +kernel
theorem dX12_blend_87 : decode cX12_blend 87 = .ok (.if_icmp .ge 95, 3) := by decide +kernel
theorem dX12_blend_90 : decode cX12_blend 90 = .ok (.iconst 1, 1) := by decide +kernel
theorem dX12_blend_91 : decode cX12_blend 91 = .ok (.istore 12, 2) := by decide +kernel
theorem dX12_blend_93 : decode cX12_blend 93 = .ok (.iload 12, 2) := by decide +kernel
theorem dX12_blend_95 : decode cX12_blend 95 = .ok (.bipush 10, 2) := by decide +kernel
theorem dX12_blend_97 : decode cX12_blend 97 = .ok (.if_icmp .ge 79, 3) := by decide +kernel
theorem dX12_blend_100 : decode cX12_blend 100 = .ok (.iload 11, 2) := by decide +kernel
theorem dX12_blend_102 : decode cX12_blend 102 = .ok (.iload 6, 2) := by decide +kernel
theorem dX12_blend_104 : decode cX12_blend 104 = .ok (.imul, 1) := by decide +kernel
theorem dX12_blend_105 : decode cX12_blend 105 = .ok (.iload 12, 2) := by decide +kernel
theorem dX12_blend_107 : decode cX12_blend 107 = .ok (.iload 7, 2) := by decide +kernel
theorem dX12_blend_109 : decode cX12_blend 109 = .ok (.imul, 1) := by decide +kernel
theorem dX12_blend_110 : decode cX12_blend 110 = .ok (.iadd, 1) := by decide +kernel
theorem dX12_blend_111 : decode cX12_blend 111 = .ok (.iload 4, 2) := by decide +kernel
theorem dX12_blend_113 : decode cX12_blend 113 = .ok (.iload 11, 2) := by decide +kernel
theorem dX12_blend_115 : decode cX12_blend 115 = .ok (.iload 12, 2) := by decide +kernel
theorem dX12_blend_117 : decode cX12_blend 117 = .ok (.iadd, 1) := by decide +kernel
theorem dX12_blend_118 : decode cX12_blend 118 = .ok (.imul, 1) := by decide +kernel
theorem dX12_blend_119 : decode cX12_blend 119 = .ok (.isub, 1) := by decide +kernel
theorem dX12_blend_120 : decode cX12_blend 120 = .ok (.invokestatic 546, 3) := by decide +kernel
theorem dX12_blend_123 : decode cX12_blend 123 = .ok (.istore 13, 2) := by decide +kernel
theorem dX12_blend_125 : decode cX12_blend 125 = .ok (.iload 8, 2) := by decide +kernel
theorem dX12_blend_127 : decode cX12_blend 127 = .ok (.ifCond .eq 22, 3) := by decide +kernel
theorem dX12_blend_130 : decode cX12_blend 130 = .ok (.iload 13, 2) := by decide +kernel
theorem dX12_blend_132 : decode cX12_blend 132 = .ok (.iload 10, 2) := by decide +kernel
theorem dX12_blend_134 : decode cX12_blend 134 = .ok (.imul, 1) := by decide +kernel
theorem dX12_blend_135 : decode cX12_blend 135 = .ok (.iload 9, 2) := by decide +kernel
theorem dX12_blend_137 : decode cX12_blend 137 = .ok (.iload 11, 2) := by decide +kernel
theorem dX12_blend_139 : decode cX12_blend 139 = .ok (.iload 12, 2) := by decide +kernel
theorem dX12_blend_141 : decode cX12_blend 141 = .ok (.iadd, 1) := by decide +kernel
theorem dX12_blend_142 : decode cX12_blend 142 = .ok (.imul, 1) := by decide +kernel
theorem dX12_blend_143 : decode cX12_blend 143 = .ok (.if_icmp .lt 6, 3) := by decide +kernel
theorem dX12_blend_146 : decode cX12_blend 146 = .ok (.goto 24, 3) := by decide +kernel
theorem dX12_blend_149 : decode cX12_blend 149 = .ok (.bipush 10, 2) := by decide +kernel
theorem dX12_blend_151 : decode cX12_blend 151 = .ok (.iload 11, 2) := by decide +kernel
theorem dX12_blend_153 : decode cX12_blend 153 = .ok (.imul, 1) := by decide +kernel
theorem dX12_blend_154 : decode cX12_blend 154 = .ok (.iload 12, 2) := by decide +kernel
theorem dX12_blend_156 : decode cX12_blend 156 = .ok (.iadd, 1) := by decide +kernel
theorem dX12_blend_157 : decode cX12_blend 157 = .ok (.istore 8, 2) := by decide +kernel
theorem dX12_blend_159 : decode cX12_blend 159 = .ok (.iload 13, 2) := by decide +kernel
theorem dX12_blend_161 : decode cX12_blend 161 = .ok (.istore 9, 2) := by decide +kernel
theorem dX12_blend_163 : decode cX12_blend 163 = .ok (.iload 11, 2) := by decide +kernel
theorem dX12_blend_165 : decode cX12_blend 165 = .ok (.iload 12, 2) := by decide +kernel
theorem dX12_blend_167 : decode cX12_blend 167 = .ok (.iadd, 1) := by decide +kernel
theorem dX12_blend_168 : decode cX12_blend 168 = .ok (.istore 10, 2) := by decide +kernel
theorem dX12_blend_170 : decode cX12_blend 170 = .ok (.iinc 12 1, 3) := by decide +kernel
theorem dX12_blend_173 : decode cX12_blend 173 = .ok (.goto (-80), 3) := by decide +kernel
theorem dX12_blend_176 : decode cX12_blend 176 = .ok (.iinc 11 1, 3) := by decide +kernel
theorem dX12_blend_179 : decode cX12_blend 179 = .ok (.goto (-96), 3) := by decide +kernel
theorem dX12_blend_182 : decode cX12_blend 182 = .ok (.iload 5, 2) := by decide +kernel
theorem dX12_blend_184 : decode cX12_blend 184 = .ok (.ifCond .ne 8, 3) := by decide +kernel
theorem dX12_blend_187 : decode cX12_blend 187 = .ok (.iload 8, 2) := by decide +kernel
theorem dX12_blend_189 : decode cX12_blend 189 = .ok (.goto 13, 3) := by decide +kernel
theorem dX12_blend_192 : decode cX12_blend 192 = .ok (.iload 9, 2) := by decide +kernel
theorem dX12_blend_194 : decode cX12_blend 194 = .ok (.ifCond .ne 7, 3) := by decide +kernel
theorem dX12_blend_197 : decode cX12_blend 197 = .ok (.iconst 1, 1) := by decide +kernel
theorem dX12_blend_198 : decode cX12_blend 198 = .ok (.goto 4, 3) := by decide +kernel
theorem dX12_blend_201 : decode cX12_blend 201 = .ok (.iconst 0, 1) := by decide +kernel
theorem dX12_blend_202 : decode cX12_blend 202 = .ok (.ireturn, 1) := by decide +kernel
theorem dX12_left_0 : decode cX12_left 0 = .ok (.aload_n 0, 1) := by decide +kernel
theorem dX12_left_1 : decode cX12_left 1 = .ok (.iload_n 1, 1) := by decide +kernel
theorem dX12_left_2 : decode cX12_left 2 = .ok (.invokevirtual 509, 3) := by decide +kernel
theorem dX12_left_5 : decode cX12_left 5 = .ok (.ifCond .eq 23, 3) := by decide +kernel
theorem dX12_left_8 : decode cX12_left 8 = .ok (.aload_n 0, 1) := by decide +kernel
theorem dX12_left_9 : decode cX12_left 9 = .ok (.iload_n 2, 1) := by decide +kernel
theorem dX12_left_10 : decode cX12_left 10 = .ok (.invokevirtual 503, 3) := by decide +kernel
theorem dX12_left_13 : decode cX12_left 13 = .ok (.ifCond .eq 15, 3) := by decide +kernel
theorem dX12_left_16 : decode cX12_left 16 = .ok (.iload_n 3, 1) := by decide +kernel
theorem dX12_left_17 : decode cX12_left 17 = .ok (.i2l, 1) := by decide +kernel
theorem dX12_left_18 : decode cX12_left 18 = .ok (.lconst 0, 1) := by decide +kernel
theorem dX12_left_19 : decode cX12_left 19 = .ok (.ldc2_w 549, 3) := by decide +kernel
theorem dX12_left_22 : decode cX12_left 22 = .ok (.invokestatic 282, 3) := by decide +kernel
theorem dX12_left_25 : decode cX12_left 25 = .ok (.ifCond .ne 5, 3) := by decide +kernel
theorem dX12_left_28 : decode cX12_left 28 = .ok (.iconst (-1), 1) := by decide +kernel
theorem dX12_left_29 : decode cX12_left 29 = .ok (.ireturn, 1) := by decide +kernel
theorem dX12_left_30 : decode cX12_left 30 = .ok (.aload_n 0, 1) := by decide +kernel
theorem dX12_left_31 : decode cX12_left 31 = .ok (.iload_n 1, 1) := by decide +kernel
theorem dX12_left_32 : decode cX12_left 32 = .ok (.invokevirtual 465, 3) := by decide +kernel
theorem dX12_left_35 : decode cX12_left 35 = .ok (.iload_n 2, 1) := by decide +kernel
theorem dX12_left_36 : decode cX12_left 36 = .ok (.ishr, 1) := by decide +kernel
theorem dX12_left_37 : decode cX12_left 37 = .ok (.iconst 1, 1) := by decide +kernel
theorem dX12_left_38 : decode cX12_left 38 = .ok (.iand, 1) := by decide +kernel
theorem dX12_left_39 : decode cX12_left 39 = .ok (.ifCond .ne 5, 3) := by decide +kernel
theorem dX12_left_42 : decode cX12_left 42 = .ok (.iconst 0, 1) := by decide +kernel
theorem dX12_left_43 : decode cX12_left 43 = .ok (.ireturn, 1) := by decide +kernel
theorem dX12_left_44 : decode cX12_left 44 = .ok (.lconst 1, 1) := by decide +kernel
theorem dX12_left_45 : decode cX12_left 45 = .ok (.lstore 4, 2) := by decide +kernel
theorem dX12_left_47 : decode cX12_left 47 = .ok (.lconst 1, 1) := by decide +kernel
theorem dX12_left_48 : decode cX12_left 48 = .ok (.lstore 6, 2) := by decide +kernel
theorem dX12_left_50 : decode cX12_left 50 = .ok (.iconst 0, 1) := by decide +kernel
theorem dX12_left_51 : decode cX12_left 51 = .ok (.istore 8, 2) := by decide +kernel
theorem dX12_left_53 : decode cX12_left 53 = .ok (.iload 8, 2) := by decide +kernel
theorem dX12_left_55 : decode cX12_left 55 = .ok (.iload_n 3, 1) := by decide +kernel
theorem dX12_left_56 : decode cX12_left 56 = .ok (.if_icmp .ge 28, 3) := by decide +kernel
theorem dX12_left_59 : decode cX12_left 59 = .ok (.lload 4, 2) := by decide +kernel
theorem dX12_left_61 : decode cX12_left 61 = .ok (.ldc2_w 551, 3) := by decide +kernel
theorem dX12_left_64 : decode cX12_left 64 = .ok (.lmul, 1) := by decide +kernel
theorem dX12_left_65 : decode cX12_left 65 = .ok (.lstore 4, 2) := by decide +kernel
theorem dX12_left_67 : decode cX12_left 67 = .ok (.lload 6, 2) := by decide +kernel
theorem dX12_left_69 : decode cX12_left 69 = .ok (.aload_n 0, 1) := by decide +kernel
theorem dX12_left_70 : decode cX12_left 70 = .ok (.iload_n 1, 1) := by decide +kernel
theorem dX12_left_71 : decode cX12_left 71 = .ok (.invokevirtual 468, 3) := by decide +kernel
theorem dX12_left_74 : decode cX12_left 74 = .ok (.i2l, 1) := by decide +kernel
theorem dX12_left_75 : decode cX12_left 75 = .ok (.lmul, 1) := by decide +kernel
theorem dX12_left_76 : decode cX12_left 76 = .ok (.lstore 6, 2) := by decide +kernel
theorem dX12_left_78 : decode cX12_left 78 = .ok (.iinc 8 1, 3) := by decide +kernel
theorem dX12_left_81 : decode cX12_left 81 = .ok (.goto (-28), 3) := by decide +kernel
theorem dX12_left_84 : decode cX12_left 84 = .ok (.ldc2_w 553, 3) := by decide +kernel
theorem dX12_left_87 : decode cX12_left 87 = .ok (.lload 4, 2) := by decide +kernel
theorem dX12_left_89 : decode cX12_left 89 = .ok (.lload 6, 2) := by decide +kernel
theorem dX12_left_91 : decode cX12_left 91 = .ok (.lsub, 1) := by decide +kernel
theorem dX12_left_92 : decode cX12_left 92 = .ok (.lmul, 1) := by decide +kernel
theorem dX12_left_93 : decode cX12_left 93 = .ok (.lload 4, 2) := by decide +kernel
theorem dX12_left_95 : decode cX12_left 95 = .ok (.aload_n 0, 1) := by decide +kernel
theorem dX12_left_96 : decode cX12_left 96 = .ok (.iload_n 1, 1) := by decide +kernel
theorem dX12_left_97 : decode cX12_left 97 = .ok (.invokevirtual 465, 3) := by decide +kernel
theorem dX12_left_100 : decode cX12_left 100 = .ok (.invokestatic 327, 3) := by decide +kernel
theorem dX12_left_103 : decode cX12_left 103 = .ok (.i2l, 1) := by decide +kernel
theorem dX12_left_104 : decode cX12_left 104 = .ok (.lmul, 1) := by decide +kernel
theorem dX12_left_105 : decode cX12_left 105 = .ok (.ldiv, 1) := by decide +kernel
theorem dX12_left_106 : decode cX12_left 106 = .ok (.l2i, 1) := by decide +kernel
theorem dX12_left_107 : decode cX12_left 107 = .ok (.ireturn, 1) := by decide +kernel
theorem dX12_farFrom_0 : decode cX12_farFrom 0 = .ok (.iconst 0, 1) := by decide +kernel
theorem dX12_farFrom_1 : decode cX12_farFrom 1 = .ok (.istore_n 3, 1) := by decide +kernel
theorem dX12_farFrom_2 : decode cX12_farFrom 2 = .ok (.iconst 0, 1) := by decide +kernel
theorem dX12_farFrom_3 : decode cX12_farFrom 3 = .ok (.istore 4, 2) := by decide +kernel
theorem dX12_farFrom_5 : decode cX12_farFrom 5 = .ok (.iload 4, 2) := by decide +kernel
theorem dX12_farFrom_7 : decode cX12_farFrom 7 = .ok (.aload_n 0, 1) := by decide +kernel
theorem dX12_farFrom_8 : decode cX12_farFrom 8 = .ok (.invokevirtual 404, 3) := by decide +kernel
theorem dX12_farFrom_11 : decode cX12_farFrom 11 = .ok (.if_icmp .ge 30, 3) := by decide +kernel
theorem dX12_farFrom_14 : decode cX12_farFrom 14 = .ok (.iload_n 3, 1) := by decide +kernel
theorem dX12_farFrom_15 : decode cX12_farFrom 15 = .ok (.aload_n 0, 1) := by decide +kernel
theorem dX12_farFrom_16 : decode cX12_farFrom 16 = .ok (.iload_n 1, 1) := by decide +kernel
theorem dX12_farFrom_17 : decode cX12_farFrom 17 = .ok (.iload 4, 2) := by decide +kernel
theorem dX12_farFrom_19 : decode cX12_farFrom 19 = .ok (.invokevirtual 440, 3) := by decide +kernel
theorem dX12_farFrom_22 : decode cX12_farFrom 22 = .ok (.aload_n 0, 1) := by decide +kernel
theorem dX12_farFrom_23 : decode cX12_farFrom 23 = .ok (.iload_n 2, 1) := by decide +kernel
theorem dX12_farFrom_24 : decode cX12_farFrom 24 = .ok (.iload 4, 2) := by decide +kernel
theorem dX12_farFrom_26 : decode cX12_farFrom 26 = .ok (.invokevirtual 471, 3) := by decide +kernel
theorem dX12_farFrom_29 : decode cX12_farFrom 29 = .ok (.isub, 1) := by decide +kernel
theorem dX12_farFrom_30 : decode cX12_farFrom 30 = .ok (.invokestatic 546, 3) := by decide +kernel
theorem dX12_farFrom_33 : decode cX12_farFrom 33 = .ok (.iadd, 1) := by decide +kernel
theorem dX12_farFrom_34 : decode cX12_farFrom 34 = .ok (.istore_n 3, 1) := by decide +kernel
theorem dX12_farFrom_35 : decode cX12_farFrom 35 = .ok (.iinc 4 1, 3) := by decide +kernel
theorem dX12_farFrom_38 : decode cX12_farFrom 38 = .ok (.goto (-33), 3) := by decide +kernel
theorem dX12_farFrom_41 : decode cX12_farFrom 41 = .ok (.iload_n 3, 1) := by decide +kernel
theorem dX12_farFrom_42 : decode cX12_farFrom 42 = .ok (.ireturn, 1) := by decide +kernel
theorem dX12_votes_0 : decode cX12_votes 0 = .ok (.aload_n 0, 1) := by decide +kernel
theorem dX12_votes_1 : decode cX12_votes 1 = .ok (.iload_n 1, 1) := by decide +kernel
theorem dX12_votes_2 : decode cX12_votes 2 = .ok (.invokevirtual 509, 3) := by decide +kernel
theorem dX12_votes_5 : decode cX12_votes 5 = .ok (.ifCond .eq 28, 3) := by decide +kernel
theorem dX12_votes_8 : decode cX12_votes 8 = .ok (.aload_n 0, 1) := by decide +kernel
theorem dX12_votes_9 : decode cX12_votes 9 = .ok (.iload_n 2, 1) := by decide +kernel
theorem dX12_votes_10 : decode cX12_votes 10 = .ok (.invokevirtual 509, 3) := by decide +kernel
theorem dX12_votes_13 : decode cX12_votes 13 = .ok (.ifCond .eq 20, 3) := by decide +kernel
theorem dX12_votes_16 : decode cX12_votes 16 = .ok (.iload_n 1, 1) := by decide +kernel
theorem dX12_votes_17 : decode cX12_votes 17 = .ok (.iload_n 2, 1) := by decide +kernel
theorem dX12_votes_18 : decode cX12_votes 18 = .ok (.if_icmp .eq 15, 3) := by decide +kernel
theorem dX12_votes_21 : decode cX12_votes 21 = .ok (.iload_n 3, 1) := by decide +kernel
theorem dX12_votes_22 : decode cX12_votes 22 = .ok (.i2l, 1) := by decide +kernel
theorem dX12_votes_23 : decode cX12_votes 23 = .ok (.lconst 0, 1) := by decide +kernel
theorem dX12_votes_24 : decode cX12_votes 24 = .ok (.ldc2_w 532, 3) := by decide +kernel
theorem dX12_votes_27 : decode cX12_votes 27 = .ok (.invokestatic 282, 3) := by decide +kernel
theorem dX12_votes_30 : decode cX12_votes 30 = .ok (.ifCond .ne 5, 3) := by decide +kernel
theorem dX12_votes_33 : decode cX12_votes 33 = .ok (.iconst (-1), 1) := by decide +kernel
theorem dX12_votes_34 : decode cX12_votes 34 = .ok (.ireturn, 1) := by decide +kernel
theorem dX12_votes_35 : decode cX12_votes 35 = .ok (.iconst 0, 1) := by decide +kernel
theorem dX12_votes_36 : decode cX12_votes 36 = .ok (.istore 4, 2) := by decide +kernel
theorem dX12_votes_38 : decode cX12_votes 38 = .ok (.iconst 0, 1) := by decide +kernel
theorem dX12_votes_39 : decode cX12_votes 39 = .ok (.istore 5, 2) := by decide +kernel
theorem dX12_votes_41 : decode cX12_votes 41 = .ok (.iload 5, 2) := by decide +kernel
theorem dX12_votes_43 : decode cX12_votes 43 = .ok (.aload_n 0, 1) := by decide +kernel
theorem dX12_votes_44 : decode cX12_votes 44 = .ok (.invokevirtual 407, 3) := by decide +kernel
theorem dX12_votes_47 : decode cX12_votes 47 = .ok (.if_icmp .ge 67, 3) := by decide +kernel
theorem dX12_votes_50 : decode cX12_votes 50 = .ok (.aload_n 0, 1) := by decide +kernel
theorem dX12_votes_51 : decode cX12_votes 51 = .ok (.iload 5, 2) := by decide +kernel
theorem dX12_votes_53 : decode cX12_votes 53 = .ok (.iload_n 1, 1) := by decide +kernel
theorem dX12_votes_54 : decode cX12_votes 54 = .ok (.invokevirtual 555, 3) := by decide +kernel
theorem dX12_votes_57 : decode cX12_votes 57 = .ok (.aload_n 0, 1) := by decide +kernel
theorem dX12_votes_58 : decode cX12_votes 58 = .ok (.iload 5, 2) := by decide +kernel
theorem dX12_votes_60 : decode cX12_votes 60 = .ok (.iload_n 2, 1) := by decide +kernel
theorem dX12_votes_61 : decode cX12_votes 61 = .ok (.invokevirtual 555, 3) := by decide +kernel
theorem dX12_votes_64 : decode cX12_votes 64 = .ok (.isub, 1) := by decide +kernel
theorem dX12_votes_65 : decode cX12_votes 65 = .ok (.istore 6, 2) := by decide +kernel
theorem dX12_votes_67 : decode cX12_votes 67 = .ok (.iload_n 3, 1) := by decide +kernel
theorem dX12_votes_68 : decode cX12_votes 68 = .ok (.ifCond .ne 8, 3) := by decide +kernel
theorem dX12_votes_71 : decode cX12_votes 71 = .ok (.iload 6, 2) := by decide +kernel
theorem dX12_votes_73 : decode cX12_votes 73 = .ok (.ifCond .lt 13, 3) := by decide +kernel
theorem dX12_votes_76 : decode cX12_votes 76 = .ok (.iload_n 3, 1) := by decide +kernel
theorem dX12_votes_77 : decode cX12_votes 77 = .ok (.iconst 1, 1) := by decide +kernel
theorem dX12_votes_78 : decode cX12_votes 78 = .ok (.if_icmp .ne 11, 3) := by decide +kernel
theorem dX12_votes_81 : decode cX12_votes 81 = .ok (.iload 6, 2) := by decide +kernel
theorem dX12_votes_83 : decode cX12_votes 83 = .ok (.ifCond .le 6, 3) := by decide +kernel
theorem dX12_votes_86 : decode cX12_votes 86 = .ok (.iinc 4 1, 3) := by decide +kernel
theorem dX12_votes_89 : decode cX12_votes 89 = .ok (.iload_n 3, 1) := by decide +kernel
theorem dX12_votes_90 : decode cX12_votes 90 = .ok (.iconst 2, 1) := by decide +kernel
theorem dX12_votes_91 : decode cX12_votes 91 = .ok (.if_icmp .ne 17, 3) := by decide +kernel
theorem dX12_votes_94 : decode cX12_votes 94 = .ok (.iload 6, 2) := by decide +kernel
theorem dX12_votes_96 : decode cX12_votes 96 = .ok (.ifCond .ne 12, 3) := by decide +kernel
theorem dX12_votes_99 : decode cX12_votes 99 = .ok (.iload 4, 2) := by decide +kernel
theorem dX12_votes_101 : decode cX12_votes 101 = .ok (.iconst 1, 1) := by decide +kernel
theorem dX12_votes_102 : decode cX12_votes 102 = .ok (.iload 5, 2) := by decide +kernel
theorem dX12_votes_104 : decode cX12_votes 104 = .ok (.ishl, 1) := by decide +kernel
theorem dX12_votes_105 : decode cX12_votes 105 = .ok (.ior, 1) := by decide +kernel
theorem dX12_votes_106 : decode cX12_votes 106 = .ok (.istore 4, 2) := by decide +kernel
theorem dX12_votes_108 : decode cX12_votes 108 = .ok (.iinc 5 1, 3) := by decide +kernel
theorem dX12_votes_111 : decode cX12_votes 111 = .ok (.goto (-70), 3) := by decide +kernel
theorem dX12_votes_114 : decode cX12_votes 114 = .ok (.iload 4, 2) := by decide +kernel
theorem dX12_votes_116 : decode cX12_votes 116 = .ok (.ireturn, 1) := by decide +kernel
theorem dX12_keeps_0 : decode cX12_keeps 0 = .ok (.aload_n 0, 1) := by decide +kernel
theorem dX12_keeps_1 : decode cX12_keeps 1 = .ok (.aload_n 0, 1) := by decide +kernel
theorem dX12_keeps_2 : decode cX12_keeps 2 = .ok (.getfield 558, 3) := by decide +kernel
theorem dX12_keeps_5 : decode cX12_keeps 5 = .ok (.iconst 1, 1) := by decide +kernel
theorem dX12_keeps_6 : decode cX12_keeps 6 = .ok (.iadd, 1) := by decide +kernel
theorem dX12_keeps_7 : decode cX12_keeps 7 = .ok (.bipush 20, 2) := by decide +kernel
theorem dX12_keeps_9 : decode cX12_keeps 9 = .ok (.irem, 1) := by decide +kernel
theorem dX12_keeps_10 : decode cX12_keeps 10 = .ok (.putfield 558, 3) := by decide +kernel
theorem dX12_keeps_13 : decode cX12_keeps 13 = .ok (.iconst 0, 1) := by decide +kernel
theorem dX12_keeps_14 : decode cX12_keeps 14 = .ok (.istore_n 1, 1) := by decide +kernel
theorem dX12_keeps_15 : decode cX12_keeps 15 = .ok (.iload_n 1, 1) := by decide +kernel
theorem dX12_keeps_16 : decode cX12_keeps 16 = .ok (.bipush 95, 2) := by decide +kernel
theorem dX12_keeps_18 : decode cX12_keeps 18 = .ok (.if_icmp .ge 29, 3) := by decide +kernel
theorem dX12_keeps_21 : decode cX12_keeps 21 = .ok (.aload_n 0, 1) := by decide +kernel
theorem dX12_keeps_22 : decode cX12_keeps 22 = .ok (.getfield 148, 3) := by decide +kernel
theorem dX12_keeps_25 : decode cX12_keeps 25 = .ok (.bipush 95, 2) := by decide +kernel
theorem dX12_keeps_27 : decode cX12_keeps 27 = .ok (.aload_n 0, 1) := by decide +kernel
theorem dX12_keeps_28 : decode cX12_keeps 28 = .ok (.getfield 558, 3) := by decide +kernel
theorem dX12_keeps_31 : decode cX12_keeps 31 = .ok (.imul, 1) := by decide +kernel
theorem dX12_keeps_32 : decode cX12_keeps 32 = .ok (.iload_n 1, 1) := by decide +kernel
theorem dX12_keeps_33 : decode cX12_keeps 33 = .ok (.iadd, 1) := by decide +kernel
theorem dX12_keeps_34 : decode cX12_keeps 34 = .ok (.aload_n 0, 1) := by decide +kernel
theorem dX12_keeps_35 : decode cX12_keeps 35 = .ok (.getfield 136, 3) := by decide +kernel
theorem dX12_keeps_38 : decode cX12_keeps 38 = .ok (.iload_n 1, 1) := by decide +kernel
theorem dX12_keeps_39 : decode cX12_keeps 39 = .ok (.iaload, 1) := by decide +kernel
theorem dX12_keeps_40 : decode cX12_keeps 40 = .ok (.iastore, 1) := by decide +kernel
theorem dX12_keeps_41 : decode cX12_keeps 41 = .ok (.iinc 1 1, 3) := by decide +kernel
theorem dX12_keeps_44 : decode cX12_keeps 44 = .ok (.goto (-29), 3) := by decide +kernel
theorem dX12_keeps_47 : decode cX12_keeps 47 = .ok (.aload_n 0, 1) := by decide +kernel
theorem dX12_keeps_48 : decode cX12_keeps 48 = .ok (.getfield 398, 3) := by decide +kernel
theorem dX12_keeps_51 : decode cX12_keeps 51 = .ok (.bipush 20, 2) := by decide +kernel
theorem dX12_keeps_53 : decode cX12_keeps 53 = .ok (.if_icmp .ge 13, 3) := by decide +kernel
theorem dX12_keeps_56 : decode cX12_keeps 56 = .ok (.aload_n 0, 1) := by decide +kernel
theorem dX12_keeps_57 : decode cX12_keeps 57 = .ok (.dup, 1) := by decide +kernel
theorem dX12_keeps_58 : decode cX12_keeps 58 = .ok (.getfield 398, 3) := by decide +kernel
theorem dX12_keeps_61 : decode cX12_keeps 61 = .ok (.iconst 1, 1) := by decide +kernel
theorem dX12_keeps_62 : decode cX12_keeps 62 = .ok (.iadd, 1) := by decide +kernel
theorem dX12_keeps_63 : decode cX12_keeps 63 = .ok (.putfield 398, 3) := by decide +kernel
theorem dX12_keeps_66 : decode cX12_keeps 66 = .ok (.return_, 1) := by decide +kernel
theorem dX12_undo_0 : decode cX12_undo 0 = .ok (.aload_n 0, 1) := by decide +kernel
theorem dX12_undo_1 : decode cX12_undo 1 = .ok (.getfield 398, 3) := by decide +kernel
theorem dX12_undo_4 : decode cX12_undo 4 = .ok (.ifCond .ne 15, 3) := by decide +kernel
theorem dX12_undo_7 : decode cX12_undo 7 = .ok (.aload_n 0, 1) := by decide +kernel
theorem dX12_undo_8 : decode cX12_undo 8 = .ok (.getfield 17, 3) := by decide +kernel
theorem dX12_undo_11 : decode cX12_undo 11 = .ok (.iconst 3, 1) := by decide +kernel
theorem dX12_undo_12 : decode cX12_undo 12 = .ok (.dup2, 1) := by decide +kernel
theorem dX12_undo_13 : decode cX12_undo 13 = .ok (.iaload, 1) := by decide +kernel
theorem dX12_undo_14 : decode cX12_undo 14 = .ok (.iconst 1, 1) := by decide +kernel
theorem dX12_undo_15 : decode cX12_undo 15 = .ok (.iadd, 1) := by decide +kernel
theorem dX12_undo_16 : decode cX12_undo 16 = .ok (.iastore, 1) := by decide +kernel
theorem dX12_undo_17 : decode cX12_undo 17 = .ok (.iconst 0, 1) := by decide +kernel
theorem dX12_undo_18 : decode cX12_undo 18 = .ok (.ireturn, 1) := by decide +kernel
theorem dX12_undo_19 : decode cX12_undo 19 = .ok (.iconst 0, 1) := by decide +kernel
theorem dX12_undo_20 : decode cX12_undo 20 = .ok (.istore_n 1, 1) := by decide +kernel
theorem dX12_undo_21 : decode cX12_undo 21 = .ok (.iload_n 1, 1) := by decide +kernel
theorem dX12_undo_22 : decode cX12_undo 22 = .ok (.bipush 95, 2) := by decide +kernel
theorem dX12_undo_24 : decode cX12_undo 24 = .ok (.if_icmp .ge 29, 3) := by decide +kernel
theorem dX12_undo_27 : decode cX12_undo 27 = .ok (.aload_n 0, 1) := by decide +kernel
theorem dX12_undo_28 : decode cX12_undo 28 = .ok (.getfield 136, 3) := by decide +kernel
theorem dX12_undo_31 : decode cX12_undo 31 = .ok (.iload_n 1, 1) := by decide +kernel
theorem dX12_undo_32 : decode cX12_undo 32 = .ok (.aload_n 0, 1) := by decide +kernel
theorem dX12_undo_33 : decode cX12_undo 33 = .ok (.getfield 148, 3) := by decide +kernel
theorem dX12_undo_36 : decode cX12_undo 36 = .ok (.bipush 95, 2) := by decide +kernel
theorem dX12_undo_38 : decode cX12_undo 38 = .ok (.aload_n 0, 1) := by decide +kernel
theorem dX12_undo_39 : decode cX12_undo 39 = .ok (.getfield 558, 3) := by decide +kernel
theorem dX12_undo_42 : decode cX12_undo 42 = .ok (.imul, 1) := by decide +kernel
theorem dX12_undo_43 : decode cX12_undo 43 = .ok (.iload_n 1, 1) := by decide +kernel
theorem dX12_undo_44 : decode cX12_undo 44 = .ok (.iadd, 1) := by decide +kernel
theorem dX12_undo_45 : decode cX12_undo 45 = .ok (.iaload, 1) := by decide +kernel
theorem dX12_undo_46 : decode cX12_undo 46 = .ok (.iastore, 1) := by decide +kernel
theorem dX12_undo_47 : decode cX12_undo 47 = .ok (.iinc 1 1, 3) := by decide +kernel
theorem dX12_undo_50 : decode cX12_undo 50 = .ok (.goto (-29), 3) := by decide +kernel
theorem dX12_undo_53 : decode cX12_undo 53 = .ok (.aload_n 0, 1) := by decide +kernel
theorem dX12_undo_54 : decode cX12_undo 54 = .ok (.aload_n 0, 1) := by decide +kernel
theorem dX12_undo_55 : decode cX12_undo 55 = .ok (.getfield 558, 3) := by decide +kernel
theorem dX12_undo_58 : decode cX12_undo 58 = .ok (.bipush 20, 2) := by decide +kernel
theorem dX12_undo_60 : decode cX12_undo 60 = .ok (.iadd, 1) := by decide +kernel
theorem dX12_undo_61 : decode cX12_undo 61 = .ok (.iconst 1, 1) := by decide +kernel
theorem dX12_undo_62 : decode cX12_undo 62 = .ok (.isub, 1) := by decide +kernel
theorem dX12_undo_63 : decode cX12_undo 63 = .ok (.bipush 20, 2) := by decide +kernel
theorem dX12_undo_65 : decode cX12_undo 65 = .ok (.irem, 1) := by decide +kernel
theorem dX12_undo_66 : decode cX12_undo 66 = .ok (.putfield 558, 3) := by decide +kernel
theorem dX12_undo_69 : decode cX12_undo 69 = .ok (.aload_n 0, 1) := by decide +kernel
theorem dX12_undo_70 : decode cX12_undo 70 = .ok (.dup, 1) := by decide +kernel
theorem dX12_undo_71 : decode cX12_undo 71 = .ok (.getfield 398, 3) := by decide +kernel
theorem dX12_undo_74 : decode cX12_undo 74 = .ok (.iconst 1, 1) := by decide +kernel
theorem dX12_undo_75 : decode cX12_undo 75 = .ok (.isub, 1) := by decide +kernel
theorem dX12_undo_76 : decode cX12_undo 76 = .ok (.putfield 398, 3) := by decide +kernel
theorem dX12_undo_79 : decode cX12_undo 79 = .ok (.iconst 1, 1) := by decide +kernel
theorem dX12_undo_80 : decode cX12_undo 80 = .ok (.ireturn, 1) := by decide +kernel
theorem dX12_refuses_0 : decode cX12_refuses 0 = .ok (.aload_n 0, 1) := by decide +kernel
theorem dX12_refuses_1 : decode cX12_refuses 1 = .ok (.getfield 17, 3) := by decide +kernel
theorem dX12_refuses_4 : decode cX12_refuses 4 = .ok (.iconst 2, 1) := by decide +kernel
theorem dX12_refuses_5 : decode cX12_refuses 5 = .ok (.dup2, 1) := by decide +kernel
theorem dX12_refuses_6 : decode cX12_refuses 6 = .ok (.iaload, 1) := by decide +kernel
theorem dX12_refuses_7 : decode cX12_refuses 7 = .ok (.iconst 1, 1) := by decide +kernel
theorem dX12_refuses_8 : decode cX12_refuses 8 = .ok (.iadd, 1) := by decide +kernel
theorem dX12_refuses_9 : decode cX12_refuses 9 = .ok (.iastore, 1) := by decide +kernel
theorem dX12_refuses_10 : decode cX12_refuses 10 = .ok (.iconst (-1), 1) := by decide +kernel
theorem dX12_refuses_11 : decode cX12_refuses 11 = .ok (.ireturn, 1) := by decide +kernel
theorem dX12_go_0 : decode cX12_go 0 = .ok (.iload_n 1, 1) := by decide +kernel
theorem dX12_go_1 : decode cX12_go 1 = .ok (.i2l, 1) := by decide +kernel
theorem dX12_go_2 : decode cX12_go 2 = .ok (.lconst 1, 1) := by decide +kernel
theorem dX12_go_3 : decode cX12_go 3 = .ok (.ldc2_w 561, 3) := by decide +kernel
theorem dX12_go_6 : decode cX12_go 6 = .ok (.invokestatic 282, 3) := by decide +kernel
theorem dX12_go_9 : decode cX12_go 9 = .ok (.ifCond .eq 15, 3) := by decide +kernel
theorem dX12_go_12 : decode cX12_go 12 = .ok (.aload_n 0, 1) := by decide +kernel
theorem dX12_go_13 : decode cX12_go 13 = .ok (.invokevirtual 493, 3) := by decide +kernel
theorem dX12_go_16 : decode cX12_go 16 = .ok (.iload_n 1, 1) := by decide +kernel
theorem dX12_go_17 : decode cX12_go 17 = .ok (.iadd, 1) := by decide +kernel
theorem dX12_go_18 : decode cX12_go 18 = .ok (.sipush 9999, 3) := by decide +kernel
theorem dX12_go_21 : decode cX12_go 21 = .ok (.if_icmp .le 8, 3) := by decide +kernel
theorem dX12_go_24 : decode cX12_go 24 = .ok (.aload_n 0, 1) := by decide +kernel
theorem dX12_go_25 : decode cX12_go 25 = .ok (.invokevirtual 563, 3) := by decide +kernel
theorem dX12_go_28 : decode cX12_go 28 = .ok (.ireturn, 1) := by decide +kernel
theorem dX12_go_29 : decode cX12_go 29 = .ok (.aload_n 0, 1) := by decide +kernel
theorem dX12_go_30 : decode cX12_go 30 = .ok (.invokevirtual 566, 3) := by decide +kernel
theorem dX12_go_33 : decode cX12_go 33 = .ok (.aload_n 0, 1) := by decide +kernel
theorem dX12_go_34 : decode cX12_go 34 = .ok (.iload_n 1, 1) := by decide +kernel
theorem dX12_go_35 : decode cX12_go 35 = .ok (.invokevirtual 526, 3) := by decide +kernel
theorem dX12_go_38 : decode cX12_go 38 = .ok (.aload_n 0, 1) := by decide +kernel
theorem dX12_go_39 : decode cX12_go 39 = .ok (.invokevirtual 493, 3) := by decide +kernel
theorem dX12_go_42 : decode cX12_go 42 = .ok (.ireturn, 1) := by decide +kernel
theorem dX12_knead_0 : decode cX12_knead 0 = .ok (.aload_n 0, 1) := by decide +kernel
theorem dX12_knead_1 : decode cX12_knead 1 = .ok (.iload_n 1, 1) := by decide +kernel
theorem dX12_knead_2 : decode cX12_knead 2 = .ok (.invokevirtual 509, 3) := by decide +kernel
theorem dX12_knead_5 : decode cX12_knead 5 = .ok (.ifCond .eq 11, 3) := by decide +kernel
theorem dX12_knead_8 : decode cX12_knead 8 = .ok (.aload_n 0, 1) := by decide +kernel
theorem dX12_knead_9 : decode cX12_knead 9 = .ok (.iload_n 2, 1) := by decide +kernel
theorem dX12_knead_10 : decode cX12_knead 10 = .ok (.invokevirtual 540, 3) := by decide +kernel
theorem dX12_knead_13 : decode cX12_knead 13 = .ok (.ifCond .ne 8, 3) := by decide +kernel
theorem dX12_knead_16 : decode cX12_knead 16 = .ok (.aload_n 0, 1) := by decide +kernel
theorem dX12_knead_17 : decode cX12_knead 17 = .ok (.invokevirtual 563, 3) := by decide +kernel
theorem dX12_knead_20 : decode cX12_knead 20 = .ok (.ireturn, 1) := by decide +kernel
theorem dX12_knead_21 : decode cX12_knead 21 = .ok (.aload_n 0, 1) := by decide +kernel
theorem dX12_knead_22 : decode cX12_knead 22 = .ok (.invokevirtual 566, 3) := by decide +kernel
theorem dX12_knead_25 : decode cX12_knead 25 = .ok (.aload_n 0, 1) := by decide +kernel
theorem dX12_knead_26 : decode cX12_knead 26 = .ok (.iload_n 1, 1) := by decide +kernel
theorem dX12_knead_27 : decode cX12_knead 27 = .ok (.invokevirtual 465, 3) := by decide +kernel
theorem dX12_knead_30 : decode cX12_knead 30 = .ok (.istore_n 3, 1) := by decide +kernel
theorem dX12_knead_31 : decode cX12_knead 31 = .ok (.aload_n 0, 1) := by decide +kernel
theorem dX12_knead_32 : decode cX12_knead 32 = .ok (.getfield 136, 3) := by decide +kernel
theorem dX12_knead_35 : decode cX12_knead 35 = .ok (.bipush 65, 2) := by decide +kernel
theorem dX12_knead_37 : decode cX12_knead 37 = .ok (.iconst 5, 1) := by decide +kernel
theorem dX12_knead_38 : decode cX12_knead 38 = .ok (.iload_n 1, 1) := by decide +kernel
theorem dX12_knead_39 : decode cX12_knead 39 = .ok (.imul, 1) := by decide +kernel
theorem dX12_knead_40 : decode cX12_knead 40 = .ok (.iadd, 1) := by decide +kernel
theorem dX12_knead_41 : decode cX12_knead 41 = .ok (.iload_n 2, 1) := by decide +kernel
theorem dX12_knead_42 : decode cX12_knead 42 = .ok (.iastore, 1) := by decide +kernel
theorem dX12_knead_43 : decode cX12_knead 43 = .ok (.iload_n 3, 1) := by decide +kernel
theorem dX12_knead_44 : decode cX12_knead 44 = .ok (.ireturn, 1) := by decide +kernel
theorem dX12_calm_0 : decode cX12_calm 0 = .ok (.aload_n 0, 1) := by decide +kernel
theorem dX12_calm_1 : decode cX12_calm 1 = .ok (.iload_n 1, 1) := by decide +kernel
theorem dX12_calm_2 : decode cX12_calm 2 = .ok (.invokevirtual 503, 3) := by decide +kernel
theorem dX12_calm_5 : decode cX12_calm 5 = .ok (.ifCond .eq 23, 3) := by decide +kernel
theorem dX12_calm_8 : decode cX12_calm 8 = .ok (.aload_n 0, 1) := by decide +kernel
theorem dX12_calm_9 : decode cX12_calm 9 = .ok (.iload_n 2, 1) := by decide +kernel
theorem dX12_calm_10 : decode cX12_calm 10 = .ok (.invokevirtual 506, 3) := by decide +kernel
theorem dX12_calm_13 : decode cX12_calm 13 = .ok (.ifCond .eq 15, 3) := by decide +kernel
theorem dX12_calm_16 : decode cX12_calm 16 = .ok (.iload_n 3, 1) := by decide +kernel
theorem dX12_calm_17 : decode cX12_calm 17 = .ok (.i2l, 1) := by decide +kernel
theorem dX12_calm_18 : decode cX12_calm 18 = .ok (.lconst 0, 1) := by decide +kernel
theorem dX12_calm_19 : decode cX12_calm 19 = .ok (.ldc2_w 456, 3) := by decide +kernel
theorem dX12_calm_22 : decode cX12_calm 22 = .ok (.invokestatic 282, 3) := by decide +kernel
theorem dX12_calm_25 : decode cX12_calm 25 = .ok (.ifCond .ne 8, 3) := by decide +kernel
theorem dX12_calm_28 : decode cX12_calm 28 = .ok (.aload_n 0, 1) := by decide +kernel
theorem dX12_calm_29 : decode cX12_calm 29 = .ok (.invokevirtual 563, 3) := by decide +kernel
theorem dX12_calm_32 : decode cX12_calm 32 = .ok (.ireturn, 1) := by decide +kernel
theorem dX12_calm_33 : decode cX12_calm 33 = .ok (.aload_n 0, 1) := by decide +kernel
theorem dX12_calm_34 : decode cX12_calm 34 = .ok (.invokevirtual 566, 3) := by decide +kernel
theorem dX12_calm_37 : decode cX12_calm 37 = .ok (.aload_n 0, 1) := by decide +kernel
theorem dX12_calm_38 : decode cX12_calm 38 = .ok (.iload_n 1, 1) := by decide +kernel
theorem dX12_calm_39 : decode cX12_calm 39 = .ok (.iload_n 2, 1) := by decide +kernel
theorem dX12_calm_40 : decode cX12_calm 40 = .ok (.invokevirtual 434, 3) := by decide +kernel
theorem dX12_calm_43 : decode cX12_calm 43 = .ok (.istore 4, 2) := by decide +kernel
theorem dX12_calm_45 : decode cX12_calm 45 = .ok (.aload_n 0, 1) := by decide +kernel
theorem dX12_calm_46 : decode cX12_calm 46 = .ok (.getfield 136, 3) := by decide +kernel
theorem dX12_calm_49 : decode cX12_calm 49 = .ok (.iconst 1, 1) := by decide +kernel
theorem dX12_calm_50 : decode cX12_calm 50 = .ok (.bipush 8, 2) := by decide +kernel
theorem dX12_calm_52 : decode cX12_calm 52 = .ok (.iload_n 1, 1) := by decide +kernel
theorem dX12_calm_53 : decode cX12_calm 53 = .ok (.imul, 1) := by decide +kernel
theorem dX12_calm_54 : decode cX12_calm 54 = .ok (.iadd, 1) := by decide +kernel
theorem dX12_calm_55 : decode cX12_calm 55 = .ok (.iload_n 2, 1) := by decide +kernel
theorem dX12_calm_56 : decode cX12_calm 56 = .ok (.iadd, 1) := by decide +kernel
theorem dX12_calm_57 : decode cX12_calm 57 = .ok (.iload_n 3, 1) := by decide +kernel
theorem dX12_calm_58 : decode cX12_calm 58 = .ok (.iastore, 1) := by decide +kernel
theorem dX12_calm_59 : decode cX12_calm 59 = .ok (.iload 4, 2) := by decide +kernel
theorem dX12_calm_61 : decode cX12_calm 61 = .ok (.ireturn, 1) := by decide +kernel
theorem dX12_seed_0 : decode cX12_seed 0 = .ok (.iload_n 1, 1) := by decide +kernel
theorem dX12_seed_1 : decode cX12_seed 1 = .ok (.ifCond .ge 15, 3) := by decide +kernel
theorem dX12_seed_4 : decode cX12_seed 4 = .ok (.aload_n 0, 1) := by decide +kernel
theorem dX12_seed_5 : decode cX12_seed 5 = .ok (.getfield 17, 3) := by decide +kernel
theorem dX12_seed_8 : decode cX12_seed 8 = .ok (.iconst 4, 1) := by decide +kernel
theorem dX12_seed_9 : decode cX12_seed 9 = .ok (.dup2, 1) := by decide +kernel
theorem dX12_seed_10 : decode cX12_seed 10 = .ok (.iaload, 1) := by decide +kernel
theorem dX12_seed_11 : decode cX12_seed 11 = .ok (.iconst 1, 1) := by decide +kernel
theorem dX12_seed_12 : decode cX12_seed 12 = .ok (.iadd, 1) := by decide +kernel
theorem dX12_seed_13 : decode cX12_seed 13 = .ok (.iastore, 1) := by decide +kernel
theorem dX12_seed_14 : decode cX12_seed 14 = .ok (.iconst 0, 1) := by decide +kernel
theorem dX12_seed_15 : decode cX12_seed 15 = .ok (.ireturn, 1) := by decide +kernel
theorem dX12_seed_16 : decode cX12_seed 16 = .ok (.aload_n 0, 1) := by decide +kernel
theorem dX12_seed_17 : decode cX12_seed 17 = .ok (.iload_n 1, 1) := by decide +kernel
theorem dX12_seed_18 : decode cX12_seed 18 = .ok (.i2l, 1) := by decide +kernel
theorem dX12_seed_19 : decode cX12_seed 19 = .ok (.putfield 151, 3) := by decide +kernel
theorem dX12_seed_22 : decode cX12_seed 22 = .ok (.iconst 1, 1) := by decide +kernel
theorem dX12_seed_23 : decode cX12_seed 23 = .ok (.ireturn, 1) := by decide +kernel
theorem dX12_drawOf_0 : decode cX12_drawOf 0 = .ok (.aload_n 0, 1) := by decide +kernel
theorem dX12_drawOf_1 : decode cX12_drawOf 1 = .ok (.ldc2_w 569, 3) := by decide +kernel
theorem dX12_drawOf_4 : decode cX12_drawOf 4 = .ok (.aload_n 0, 1) := by decide +kernel
theorem dX12_drawOf_5 : decode cX12_drawOf 5 = .ok (.getfield 151, 3) := by decide +kernel
theorem dX12_drawOf_8 : decode cX12_drawOf 8 = .ok (.lmul, 1) := by decide +kernel
theorem dX12_drawOf_9 : decode cX12_drawOf 9 = .ok (.ldc2_w 571, 3) := by decide +kernel
theorem dX12_drawOf_12 : decode cX12_drawOf 12 = .ok (.ladd, 1) := by decide +kernel
theorem dX12_drawOf_13 : decode cX12_drawOf 13 = .ok (.ldc2_w 573, 3) := by decide +kernel
theorem dX12_drawOf_16 : decode cX12_drawOf 16 = .ok (.lrem, 1) := by decide +kernel
theorem dX12_drawOf_17 : decode cX12_drawOf 17 = .ok (.putfield 151, 3) := by decide +kernel
theorem dX12_drawOf_20 : decode cX12_drawOf 20 = .ok (.aload_n 0, 1) := by decide +kernel
theorem dX12_drawOf_21 : decode cX12_drawOf 21 = .ok (.getfield 151, 3) := by decide +kernel
theorem dX12_drawOf_24 : decode cX12_drawOf 24 = .ok (.ldc2_w 575, 3) := by decide +kernel
theorem dX12_drawOf_27 : decode cX12_drawOf 27 = .ok (.ldiv, 1) := by decide +kernel
theorem dX12_drawOf_28 : decode cX12_drawOf 28 = .ok (.iload_n 1, 1) := by decide +kernel
theorem dX12_drawOf_29 : decode cX12_drawOf 29 = .ok (.i2l, 1) := by decide +kernel
theorem dX12_drawOf_30 : decode cX12_drawOf 30 = .ok (.lrem, 1) := by decide +kernel
theorem dX12_drawOf_31 : decode cX12_drawOf 31 = .ok (.l2i, 1) := by decide +kernel
theorem dX12_drawOf_32 : decode cX12_drawOf 32 = .ok (.ireturn, 1) := by decide +kernel
theorem dX12_whim_0 : decode cX12_whim 0 = .ok (.aload_n 0, 1) := by decide +kernel
theorem dX12_whim_1 : decode cX12_whim 1 = .ok (.aload_n 0, 1) := by decide +kernel
theorem dX12_whim_2 : decode cX12_whim 2 = .ok (.invokevirtual 407, 3) := by decide +kernel
theorem dX12_whim_5 : decode cX12_whim 5 = .ok (.invokevirtual 577, 3) := by decide +kernel
theorem dX12_whim_8 : decode cX12_whim 8 = .ok (.istore_n 1, 1) := by decide +kernel
theorem dX12_whim_9 : decode cX12_whim 9 = .ok (.aload_n 0, 1) := by decide +kernel
theorem dX12_whim_10 : decode cX12_whim 10 = .ok (.aload_n 0, 1) := by decide +kernel
theorem dX12_whim_11 : decode cX12_whim 11 = .ok (.invokevirtual 404, 3) := by decide +kernel
theorem dX12_whim_14 : decode cX12_whim 14 = .ok (.invokevirtual 577, 3) := by decide +kernel
theorem dX12_whim_17 : decode cX12_whim 17 = .ok (.istore_n 2, 1) := by decide +kernel
theorem dX12_whim_18 : decode cX12_whim 18 = .ok (.aload_n 0, 1) := by decide +kernel
theorem dX12_whim_19 : decode cX12_whim 19 = .ok (.iload_n 1, 1) := by decide +kernel
theorem dX12_whim_20 : decode cX12_whim 20 = .ok (.iload_n 2, 1) := by decide +kernel
theorem dX12_whim_21 : decode cX12_whim 21 = .ok (.invokevirtual 434, 3) := by decide +kernel
theorem dX12_whim_24 : decode cX12_whim 24 = .ok (.aload_n 0, 1) := by decide +kernel
theorem dX12_whim_25 : decode cX12_whim 25 = .ok (.iconst 3, 1) := by decide +kernel
theorem dX12_whim_26 : decode cX12_whim 26 = .ok (.invokevirtual 577, 3) := by decide +kernel
theorem dX12_whim_29 : decode cX12_whim 29 = .ok (.iconst 1, 1) := by decide +kernel
theorem dX12_whim_30 : decode cX12_whim 30 = .ok (.isub, 1) := by decide +kernel
theorem dX12_whim_31 : decode cX12_whim 31 = .ok (.aload_n 0, 1) := by decide +kernel
theorem dX12_whim_32 : decode cX12_whim 32 = .ok (.getfield 124, 3) := by decide +kernel
theorem dX12_whim_35 : decode cX12_whim 35 = .ok (.iconst 5, 1) := by decide +kernel
theorem dX12_whim_36 : decode cX12_whim 36 = .ok (.iaload, 1) := by decide +kernel
theorem dX12_whim_37 : decode cX12_whim 37 = .ok (.imul, 1) := by decide +kernel
theorem dX12_whim_38 : decode cX12_whim 38 = .ok (.iadd, 1) := by decide +kernel
theorem dX12_whim_39 : decode cX12_whim 39 = .ok (.istore_n 3, 1) := by decide +kernel
theorem dX12_whim_40 : decode cX12_whim 40 = .ok (.aload_n 0, 1) := by decide +kernel
theorem dX12_whim_41 : decode cX12_whim 41 = .ok (.getfield 136, 3) := by decide +kernel
theorem dX12_whim_44 : decode cX12_whim 44 = .ok (.iconst 1, 1) := by decide +kernel
theorem dX12_whim_45 : decode cX12_whim 45 = .ok (.bipush 8, 2) := by decide +kernel
theorem dX12_whim_47 : decode cX12_whim 47 = .ok (.iload_n 1, 1) := by decide +kernel
theorem dX12_whim_48 : decode cX12_whim 48 = .ok (.imul, 1) := by decide +kernel
theorem dX12_whim_49 : decode cX12_whim 49 = .ok (.iadd, 1) := by decide +kernel
theorem dX12_whim_50 : decode cX12_whim 50 = .ok (.iload_n 2, 1) := by decide +kernel
theorem dX12_whim_51 : decode cX12_whim 51 = .ok (.iadd, 1) := by decide +kernel
theorem dX12_whim_52 : decode cX12_whim 52 = .ok (.iload_n 3, 1) := by decide +kernel
theorem dX12_whim_53 : decode cX12_whim 53 = .ok (.ifCond .ge 7, 3) := by decide +kernel
theorem dX12_whim_56 : decode cX12_whim 56 = .ok (.iconst 0, 1) := by decide +kernel
theorem dX12_whim_57 : decode cX12_whim 57 = .ok (.goto 9, 3) := by decide +kernel
theorem dX12_whim_60 : decode cX12_whim 60 = .ok (.iload_n 3, 1) := by decide +kernel
theorem dX12_whim_61 : decode cX12_whim 61 = .ok (.bipush 99, 2) := by decide +kernel
theorem dX12_whim_63 : decode cX12_whim 63 = .ok (.invokestatic 580, 3) := by decide +kernel
theorem dX12_whim_66 : decode cX12_whim 66 = .ok (.iastore, 1) := by decide +kernel
theorem dX12_whim_67 : decode cX12_whim 67 = .ok (.return_, 1) := by decide +kernel
theorem dX12_days_0 : decode cX12_days 0 = .ok (.iload_n 1, 1) := by decide +kernel
theorem dX12_days_1 : decode cX12_days 1 = .ok (.i2l, 1) := by decide +kernel
theorem dX12_days_2 : decode cX12_days 2 = .ok (.lconst 1, 1) := by decide +kernel
theorem dX12_days_3 : decode cX12_days 3 = .ok (.ldc2_w 583, 3) := by decide +kernel
theorem dX12_days_6 : decode cX12_days 6 = .ok (.invokestatic 282, 3) := by decide +kernel
theorem dX12_days_9 : decode cX12_days 9 = .ok (.ifCond .eq 18, 3) := by decide +kernel
theorem dX12_days_12 : decode cX12_days 12 = .ok (.aload_n 0, 1) := by decide +kernel
theorem dX12_days_13 : decode cX12_days 13 = .ok (.invokevirtual 493, 3) := by decide +kernel
theorem dX12_days_16 : decode cX12_days 16 = .ok (.bipush 24, 2) := by decide +kernel
theorem dX12_days_18 : decode cX12_days 18 = .ok (.iload_n 1, 1) := by decide +kernel
theorem dX12_days_19 : decode cX12_days 19 = .ok (.imul, 1) := by decide +kernel
theorem dX12_days_20 : decode cX12_days 20 = .ok (.iadd, 1) := by decide +kernel
theorem dX12_days_21 : decode cX12_days 21 = .ok (.sipush 9999, 3) := by decide +kernel
theorem dX12_days_24 : decode cX12_days 24 = .ok (.if_icmp .le 8, 3) := by decide +kernel
theorem dX12_days_27 : decode cX12_days 27 = .ok (.aload_n 0, 1) := by decide +kernel
theorem dX12_days_28 : decode cX12_days 28 = .ok (.invokevirtual 563, 3) := by decide +kernel
theorem dX12_days_31 : decode cX12_days 31 = .ok (.ireturn, 1) := by decide +kernel
theorem dX12_days_32 : decode cX12_days 32 = .ok (.aload_n 0, 1) := by decide +kernel
theorem dX12_days_33 : decode cX12_days 33 = .ok (.invokevirtual 566, 3) := by decide +kernel
theorem dX12_days_36 : decode cX12_days 36 = .ok (.iconst 0, 1) := by decide +kernel
theorem dX12_days_37 : decode cX12_days 37 = .ok (.istore_n 2, 1) := by decide +kernel
theorem dX12_days_38 : decode cX12_days 38 = .ok (.iload_n 2, 1) := by decide +kernel
theorem dX12_days_39 : decode cX12_days 39 = .ok (.iload_n 1, 1) := by decide +kernel
theorem dX12_days_40 : decode cX12_days 40 = .ok (.if_icmp .ge 33, 3) := by decide +kernel
theorem dX12_days_43 : decode cX12_days 43 = .ok (.aload_n 0, 1) := by decide +kernel
theorem dX12_days_44 : decode cX12_days 44 = .ok (.invokevirtual 407, 3) := by decide +kernel
theorem dX12_days_47 : decode cX12_days 47 = .ok (.ifCond .le 14, 3) := by decide +kernel
theorem dX12_days_50 : decode cX12_days 50 = .ok (.aload_n 0, 1) := by decide +kernel
theorem dX12_days_51 : decode cX12_days 51 = .ok (.invokevirtual 404, 3) := by decide +kernel
theorem dX12_days_54 : decode cX12_days 54 = .ok (.ifCond .le 7, 3) := by decide +kernel
theorem dX12_days_57 : decode cX12_days 57 = .ok (.aload_n 0, 1) := by decide +kernel
theorem dX12_days_58 : decode cX12_days 58 = .ok (.invokevirtual 585, 3) := by decide +kernel
theorem dX12_days_61 : decode cX12_days 61 = .ok (.aload_n 0, 1) := by decide +kernel
theorem dX12_days_62 : decode cX12_days 62 = .ok (.bipush 24, 2) := by decide +kernel
theorem dX12_days_64 : decode cX12_days 64 = .ok (.invokevirtual 526, 3) := by decide +kernel
theorem dX12_days_67 : decode cX12_days 67 = .ok (.iinc 2 1, 3) := by decide +kernel
theorem dX12_days_70 : decode cX12_days 70 = .ok (.goto (-32), 3) := by decide +kernel
theorem dX12_days_73 : decode cX12_days 73 = .ok (.aload_n 0, 1) := by decide +kernel
theorem dX12_days_74 : decode cX12_days 74 = .ok (.invokevirtual 493, 3) := by decide +kernel
theorem dX12_days_77 : decode cX12_days 77 = .ok (.ireturn, 1) := by decide +kernel
theorem dX12_see_0 : decode cX12_see 0 = .ok (.aload_n 0, 1) := by decide +kernel
theorem dX12_see_1 : decode cX12_see 1 = .ok (.getfield 239, 3) := by decide +kernel
theorem dX12_see_4 : decode cX12_see 4 = .ok (.istore_n 1, 1) := by decide +kernel
theorem dX12_see_5 : decode cX12_see 5 = .ok (.aload_n 0, 1) := by decide +kernel
theorem dX12_see_6 : decode cX12_see 6 = .ok (.iconst 0, 1) := by decide +kernel
theorem dX12_see_7 : decode cX12_see 7 = .ok (.putfield 239, 3) := by decide +kernel
theorem dX12_see_10 : decode cX12_see 10 = .ok (.iload_n 1, 1) := by decide +kernel
theorem dX12_see_11 : decode cX12_see 11 = .ok (.ifCond .le 21, 3) := by decide +kernel
theorem dX12_see_14 : decode cX12_see 14 = .ok (.iload_n 1, 1) := by decide +kernel
theorem dX12_see_15 : decode cX12_see 15 = .ok (.iconst 4, 1) := by decide +kernel
theorem dX12_see_16 : decode cX12_see 16 = .ok (.irem, 1) := by decide +kernel
theorem dX12_see_17 : decode cX12_see 17 = .ok (.ifCond .ne 15, 3) := by decide +kernel
theorem dX12_see_20 : decode cX12_see 20 = .ok (.iload_n 1, 1) := by decide +kernel
theorem dX12_see_21 : decode cX12_see 21 = .ok (.iconst 4, 1) := by decide +kernel
theorem dX12_see_22 : decode cX12_see 22 = .ok (.idiv, 1) := by decide +kernel
theorem dX12_see_23 : decode cX12_see 23 = .ok (.bipush 20, 2) := by decide +kernel
theorem dX12_see_25 : decode cX12_see 25 = .ok (.if_icmp .gt 7, 3) := by decide +kernel
theorem dX12_see_28 : decode cX12_see 28 = .ok (.iconst 1, 1) := by decide +kernel
theorem dX12_see_29 : decode cX12_see 29 = .ok (.goto 4, 3) := by decide +kernel
theorem dX12_see_32 : decode cX12_see 32 = .ok (.iconst 0, 1) := by decide +kernel
theorem dX12_see_33 : decode cX12_see 33 = .ok (.istore_n 2, 1) := by decide +kernel
theorem dX12_see_34 : decode cX12_see 34 = .ok (.iconst 0, 1) := by decide +kernel
theorem dX12_see_35 : decode cX12_see 35 = .ok (.istore_n 3, 1) := by decide +kernel
theorem dX12_see_36 : decode cX12_see 36 = .ok (.iload_n 3, 1) := by decide +kernel
theorem dX12_see_37 : decode cX12_see 37 = .ok (.iload_n 1, 1) := by decide +kernel
theorem dX12_see_38 : decode cX12_see 38 = .ok (.if_icmp .ge 74, 3) := by decide +kernel
theorem dX12_see_41 : decode cX12_see 41 = .ok (.iload_n 2, 1) := by decide +kernel
theorem dX12_see_42 : decode cX12_see 42 = .ok (.ifCond .eq 70, 3) := by decide +kernel
theorem dX12_see_45 : decode cX12_see 45 = .ok (.aload_n 0, 1) := by decide +kernel
theorem dX12_see_46 : decode cX12_see 46 = .ok (.aload_n 0, 1) := by decide +kernel
theorem dX12_see_47 : decode cX12_see 47 = .ok (.getfield 7, 3) := by decide +kernel
theorem dX12_see_50 : decode cX12_see 50 = .ok (.iload_n 3, 1) := by decide +kernel
theorem dX12_see_51 : decode cX12_see 51 = .ok (.iaload, 1) := by decide +kernel
theorem dX12_see_52 : decode cX12_see 52 = .ok (.invokevirtual 503, 3) := by decide +kernel
theorem dX12_see_55 : decode cX12_see 55 = .ok (.ifCond .eq 49, 3) := by decide +kernel
theorem dX12_see_58 : decode cX12_see 58 = .ok (.aload_n 0, 1) := by decide +kernel
theorem dX12_see_59 : decode cX12_see 59 = .ok (.aload_n 0, 1) := by decide +kernel
theorem dX12_see_60 : decode cX12_see 60 = .ok (.getfield 7, 3) := by decide +kernel
theorem dX12_see_63 : decode cX12_see 63 = .ok (.iload_n 3, 1) := by decide +kernel
theorem dX12_see_64 : decode cX12_see 64 = .ok (.iconst 1, 1) := by decide +kernel
theorem dX12_see_65 : decode cX12_see 65 = .ok (.iadd, 1) := by decide +kernel
theorem dX12_see_66 : decode cX12_see 66 = .ok (.iaload, 1) := by decide +kernel
theorem dX12_see_67 : decode cX12_see 67 = .ok (.invokevirtual 506, 3) := by decide +kernel
theorem dX12_see_70 : decode cX12_see 70 = .ok (.ifCond .eq 34, 3) := by decide +kernel
theorem dX12_see_73 : decode cX12_see 73 = .ok (.aload_n 0, 1) := by decide +kernel
theorem dX12_see_74 : decode cX12_see 74 = .ok (.getfield 7, 3) := by decide +kernel
theorem dX12_see_77 : decode cX12_see 77 = .ok (.iload_n 3, 1) := by decide +kernel
theorem dX12_see_78 : decode cX12_see 78 = .ok (.iconst 2, 1) := by decide +kernel
theorem dX12_see_79 : decode cX12_see 79 = .ok (.iadd, 1) := by decide +kernel
theorem dX12_see_80 : decode cX12_see 80 = .ok (.iaload, 1) := by decide +kernel
theorem dX12_see_81 : decode cX12_see 81 = .ok (.sipush 200, 3) := by decide +kernel
theorem dX12_see_84 : decode cX12_see 84 = .ok (.if_icmp .gt 20, 3) := by decide +kernel
theorem dX12_see_87 : decode cX12_see 87 = .ok (.aload_n 0, 1) := by decide +kernel
theorem dX12_see_88 : decode cX12_see 88 = .ok (.getfield 7, 3) := by decide +kernel
theorem dX12_see_91 : decode cX12_see 91 = .ok (.iload_n 3, 1) := by decide +kernel
theorem dX12_see_92 : decode cX12_see 92 = .ok (.iconst 3, 1) := by decide +kernel
theorem dX12_see_93 : decode cX12_see 93 = .ok (.iadd, 1) := by decide +kernel
theorem dX12_see_94 : decode cX12_see 94 = .ok (.iaload, 1) := by decide +kernel
theorem dX12_see_95 : decode cX12_see 95 = .ok (.bipush 99, 2) := by decide +kernel
theorem dX12_see_97 : decode cX12_see 97 = .ok (.if_icmp .gt 7, 3) := by decide +kernel
theorem dX12_see_100 : decode cX12_see 100 = .ok (.iconst 1, 1) := by decide +kernel
theorem dX12_see_101 : decode cX12_see 101 = .ok (.goto 4, 3) := by decide +kernel
theorem dX12_see_104 : decode cX12_see 104 = .ok (.iconst 0, 1) := by decide +kernel
theorem dX12_see_105 : decode cX12_see 105 = .ok (.istore_n 2, 1) := by decide +kernel
theorem dX12_see_106 : decode cX12_see 106 = .ok (.iinc 3 4, 3) := by decide +kernel
theorem dX12_see_109 : decode cX12_see 109 = .ok (.goto (-73), 3) := by decide +kernel
theorem dX12_see_112 : decode cX12_see 112 = .ok (.iload_n 2, 1) := by decide +kernel
theorem dX12_see_113 : decode cX12_see 113 = .ok (.ifCond .ne 15, 3) := by decide +kernel
theorem dX12_see_116 : decode cX12_see 116 = .ok (.aload_n 0, 1) := by decide +kernel
theorem dX12_see_117 : decode cX12_see 117 = .ok (.getfield 17, 3) := by decide +kernel
theorem dX12_see_120 : decode cX12_see 120 = .ok (.iconst 1, 1) := by decide +kernel
theorem dX12_see_121 : decode cX12_see 121 = .ok (.dup2, 1) := by decide +kernel
theorem dX12_see_122 : decode cX12_see 122 = .ok (.iaload, 1) := by decide +kernel
theorem dX12_see_123 : decode cX12_see 123 = .ok (.iconst 1, 1) := by decide +kernel
theorem dX12_see_124 : decode cX12_see 124 = .ok (.iadd, 1) := by decide +kernel
theorem dX12_see_125 : decode cX12_see 125 = .ok (.iastore, 1) := by decide +kernel
theorem dX12_see_126 : decode cX12_see 126 = .ok (.iconst (-1), 1) := by decide +kernel
theorem dX12_see_127 : decode cX12_see 127 = .ok (.ireturn, 1) := by decide +kernel
theorem dX12_see_128 : decode cX12_see 128 = .ok (.iconst 0, 1) := by decide +kernel
theorem dX12_see_129 : decode cX12_see 129 = .ok (.istore_n 3, 1) := by decide +kernel
theorem dX12_see_130 : decode cX12_see 130 = .ok (.iload_n 3, 1) := by decide +kernel
theorem dX12_see_131 : decode cX12_see 131 = .ok (.iload_n 1, 1) := by decide +kernel
theorem dX12_see_132 : decode cX12_see 132 = .ok (.if_icmp .ge 21, 3) := by decide +kernel
theorem dX12_see_135 : decode cX12_see 135 = .ok (.aload_n 0, 1) := by decide +kernel
theorem dX12_see_136 : decode cX12_see 136 = .ok (.getfield 155, 3) := by decide +kernel
theorem dX12_see_139 : decode cX12_see 139 = .ok (.iload_n 3, 1) := by decide +kernel
theorem dX12_see_140 : decode cX12_see 140 = .ok (.aload_n 0, 1) := by decide +kernel
theorem dX12_see_141 : decode cX12_see 141 = .ok (.getfield 7, 3) := by decide +kernel
theorem dX12_see_144 : decode cX12_see 144 = .ok (.iload_n 3, 1) := by decide +kernel
theorem dX12_see_145 : decode cX12_see 145 = .ok (.iaload, 1) := by decide +kernel
theorem dX12_see_146 : decode cX12_see 146 = .ok (.iastore, 1) := by decide +kernel
theorem dX12_see_147 : decode cX12_see 147 = .ok (.iinc 3 1, 3) := by decide +kernel
theorem dX12_see_150 : decode cX12_see 150 = .ok (.goto (-20), 3) := by decide +kernel
theorem dX12_see_153 : decode cX12_see 153 = .ok (.aload_n 0, 1) := by decide +kernel
theorem dX12_see_154 : decode cX12_see 154 = .ok (.iload_n 1, 1) := by decide +kernel
theorem dX12_see_155 : decode cX12_see 155 = .ok (.iconst 4, 1) := by decide +kernel
theorem dX12_see_156 : decode cX12_see 156 = .ok (.idiv, 1) := by decide +kernel
theorem dX12_see_157 : decode cX12_see 157 = .ok (.putfield 401, 3) := by decide +kernel
theorem dX12_see_160 : decode cX12_see 160 = .ok (.aload_n 0, 1) := by decide +kernel
theorem dX12_see_161 : decode cX12_see 161 = .ok (.getfield 401, 3) := by decide +kernel
theorem dX12_see_164 : decode cX12_see 164 = .ok (.ireturn, 1) := by decide +kernel
theorem dX12_isSeenAt_0 : decode cX12_isSeenAt 0 = .ok (.iconst 0, 1) := by decide +kernel
theorem dX12_isSeenAt_1 : decode cX12_isSeenAt 1 = .ok (.istore_n 2, 1) := by decide +kernel
theorem dX12_isSeenAt_2 : decode cX12_isSeenAt 2 = .ok (.iload_n 2, 1) := by decide +kernel
theorem dX12_isSeenAt_3 : decode cX12_isSeenAt 3 = .ok (.iconst 4, 1) := by decide +kernel
theorem dX12_isSeenAt_4 : decode cX12_isSeenAt 4 = .ok (.aload_n 0, 1) := by decide +kernel
theorem dX12_isSeenAt_5 : decode cX12_isSeenAt 5 = .ok (.getfield 401, 3) := by decide +kernel
theorem dX12_isSeenAt_8 : decode cX12_isSeenAt 8 = .ok (.imul, 1) := by decide +kernel
theorem dX12_isSeenAt_9 : decode cX12_isSeenAt 9 = .ok (.if_icmp .ge 52, 3) := by decide +kernel
theorem dX12_isSeenAt_12 : decode cX12_isSeenAt 12 = .ok (.aload_n 0, 1) := by decide +kernel
theorem dX12_isSeenAt_13 : decode cX12_isSeenAt 13 = .ok (.getfield 155, 3) := by decide +kernel
theorem dX12_isSeenAt_16 : decode cX12_isSeenAt 16 = .ok (.iload_n 2, 1) := by decide +kernel
theorem dX12_isSeenAt_17 : decode cX12_isSeenAt 17 = .ok (.iconst 2, 1) := by decide +kernel
theorem dX12_isSeenAt_18 : decode cX12_isSeenAt 18 = .ok (.iadd, 1) := by decide +kernel
theorem dX12_isSeenAt_19 : decode cX12_isSeenAt 19 = .ok (.iaload, 1) := by decide +kernel
theorem dX12_isSeenAt_20 : decode cX12_isSeenAt 20 = .ok (.iload_n 1, 1) := by decide +kernel
theorem dX12_isSeenAt_21 : decode cX12_isSeenAt 21 = .ok (.if_icmp .ne 34, 3) := by decide +kernel
theorem dX12_isSeenAt_24 : decode cX12_isSeenAt 24 = .ok (.aload_n 0, 1) := by decide +kernel
theorem dX12_isSeenAt_25 : decode cX12_isSeenAt 25 = .ok (.aload_n 0, 1) := by decide +kernel
theorem dX12_isSeenAt_26 : decode cX12_isSeenAt 26 = .ok (.getfield 155, 3) := by decide +kernel
theorem dX12_isSeenAt_29 : decode cX12_isSeenAt 29 = .ok (.iload_n 2, 1) := by decide +kernel
theorem dX12_isSeenAt_30 : decode cX12_isSeenAt 30 = .ok (.iaload, 1) := by decide +kernel
theorem dX12_isSeenAt_31 : decode cX12_isSeenAt 31 = .ok (.aload_n 0, 1) := by decide +kernel
theorem dX12_isSeenAt_32 : decode cX12_isSeenAt 32 = .ok (.getfield 155, 3) := by decide +kernel
theorem dX12_isSeenAt_35 : decode cX12_isSeenAt 35 = .ok (.iload_n 2, 1) := by decide +kernel
theorem dX12_isSeenAt_36 : decode cX12_isSeenAt 36 = .ok (.iconst 1, 1) := by decide +kernel
theorem dX12_isSeenAt_37 : decode cX12_isSeenAt 37 = .ok (.iadd, 1) := by decide +kernel
theorem dX12_isSeenAt_38 : decode cX12_isSeenAt 38 = .ok (.iaload, 1) := by decide +kernel
theorem dX12_isSeenAt_39 : decode cX12_isSeenAt 39 = .ok (.invokevirtual 440, 3) := by decide +kernel
theorem dX12_isSeenAt_42 : decode cX12_isSeenAt 42 = .ok (.aload_n 0, 1) := by decide +kernel
theorem dX12_isSeenAt_43 : decode cX12_isSeenAt 43 = .ok (.getfield 155, 3) := by decide +kernel
theorem dX12_isSeenAt_46 : decode cX12_isSeenAt 46 = .ok (.iload_n 2, 1) := by decide +kernel
theorem dX12_isSeenAt_47 : decode cX12_isSeenAt 47 = .ok (.iconst 3, 1) := by decide +kernel
theorem dX12_isSeenAt_48 : decode cX12_isSeenAt 48 = .ok (.iadd, 1) := by decide +kernel
theorem dX12_isSeenAt_49 : decode cX12_isSeenAt 49 = .ok (.iaload, 1) := by decide +kernel
theorem dX12_isSeenAt_50 : decode cX12_isSeenAt 50 = .ok (.if_icmp .eq 5, 3) := by decide +kernel
theorem dX12_isSeenAt_53 : decode cX12_isSeenAt 53 = .ok (.iconst 0, 1) := by decide +kernel
theorem dX12_isSeenAt_54 : decode cX12_isSeenAt 54 = .ok (.ireturn, 1) := by decide +kernel
theorem dX12_isSeenAt_55 : decode cX12_isSeenAt 55 = .ok (.iinc 2 4, 3) := by decide +kernel
theorem dX12_isSeenAt_58 : decode cX12_isSeenAt 58 = .ok (.goto (-56), 3) := by decide +kernel
theorem dX12_isSeenAt_61 : decode cX12_isSeenAt 61 = .ok (.iconst 1, 1) := by decide +kernel
theorem dX12_isSeenAt_62 : decode cX12_isSeenAt 62 = .ok (.ireturn, 1) := by decide +kernel
theorem dX12_lastSeen_0 : decode cX12_lastSeen 0 = .ok (.iconst 0, 1) := by decide +kernel
theorem dX12_lastSeen_1 : decode cX12_lastSeen 1 = .ok (.istore_n 1, 1) := by decide +kernel
theorem dX12_lastSeen_2 : decode cX12_lastSeen 2 = .ok (.iconst 0, 1) := by decide +kernel
theorem dX12_lastSeen_3 : decode cX12_lastSeen 3 = .ok (.istore_n 2, 1) := by decide +kernel
theorem dX12_lastSeen_4 : decode cX12_lastSeen 4 = .ok (.iload_n 2, 1) := by decide +kernel
theorem dX12_lastSeen_5 : decode cX12_lastSeen 5 = .ok (.iconst 4, 1) := by decide +kernel
theorem dX12_lastSeen_6 : decode cX12_lastSeen 6 = .ok (.aload_n 0, 1) := by decide +kernel
theorem dX12_lastSeen_7 : decode cX12_lastSeen 7 = .ok (.getfield 401, 3) := by decide +kernel
theorem dX12_lastSeen_10 : decode cX12_lastSeen 10 = .ok (.imul, 1) := by decide +kernel
theorem dX12_lastSeen_11 : decode cX12_lastSeen 11 = .ok (.if_icmp .ge 30, 3) := by decide +kernel
theorem dX12_lastSeen_14 : decode cX12_lastSeen 14 = .ok (.aload_n 0, 1) := by decide +kernel
theorem dX12_lastSeen_15 : decode cX12_lastSeen 15 = .ok (.getfield 155, 3) := by decide +kernel
theorem dX12_lastSeen_18 : decode cX12_lastSeen 18 = .ok (.iload_n 2, 1) := by decide +kernel
theorem dX12_lastSeen_19 : decode cX12_lastSeen 19 = .ok (.iconst 2, 1) := by decide +kernel
theorem dX12_lastSeen_20 : decode cX12_lastSeen 20 = .ok (.iadd, 1) := by decide +kernel
theorem dX12_lastSeen_21 : decode cX12_lastSeen 21 = .ok (.iaload, 1) := by decide +kernel
theorem dX12_lastSeen_22 : decode cX12_lastSeen 22 = .ok (.iload_n 1, 1) := by decide +kernel
theorem dX12_lastSeen_23 : decode cX12_lastSeen 23 = .ok (.if_icmp .le 12, 3) := by decide +kernel
theorem dX12_lastSeen_26 : decode cX12_lastSeen 26 = .ok (.aload_n 0, 1) := by decide +kernel
theorem dX12_lastSeen_27 : decode cX12_lastSeen 27 = .ok (.getfield 155, 3) := by decide +kernel
theorem dX12_lastSeen_30 : decode cX12_lastSeen 30 = .ok (.iload_n 2, 1) := by decide +kernel
theorem dX12_lastSeen_31 : decode cX12_lastSeen 31 = .ok (.iconst 2, 1) := by decide +kernel
theorem dX12_lastSeen_32 : decode cX12_lastSeen 32 = .ok (.iadd, 1) := by decide +kernel
theorem dX12_lastSeen_33 : decode cX12_lastSeen 33 = .ok (.iaload, 1) := by decide +kernel
theorem dX12_lastSeen_34 : decode cX12_lastSeen 34 = .ok (.istore_n 1, 1) := by decide +kernel
theorem dX12_lastSeen_35 : decode cX12_lastSeen 35 = .ok (.iinc 2 4, 3) := by decide +kernel
theorem dX12_lastSeen_38 : decode cX12_lastSeen 38 = .ok (.goto (-34), 3) := by decide +kernel
theorem dX12_lastSeen_41 : decode cX12_lastSeen 41 = .ok (.iload_n 1, 1) := by decide +kernel
theorem dX12_lastSeen_42 : decode cX12_lastSeen 42 = .ok (.ireturn, 1) := by decide +kernel
theorem dX12_isKneader_0 : decode cX12_isKneader 0 = .ok (.aload_n 0, 1) := by decide +kernel
theorem dX12_isKneader_1 : decode cX12_isKneader 1 = .ok (.iload_n 2, 1) := by decide +kernel
theorem dX12_isKneader_2 : decode cX12_isKneader 2 = .ok (.invokevirtual 540, 3) := by decide +kernel
theorem dX12_isKneader_5 : decode cX12_isKneader 5 = .ok (.ifCond .eq 25, 3) := by decide +kernel
theorem dX12_isKneader_8 : decode cX12_isKneader 8 = .ok (.aload_n 0, 1) := by decide +kernel
theorem dX12_isKneader_9 : decode cX12_isKneader 9 = .ok (.getfield 401, 3) := by decide +kernel
theorem dX12_isKneader_12 : decode cX12_isKneader 12 = .ok (.ifCond .le 20, 3) := by decide +kernel
theorem dX12_isKneader_15 : decode cX12_isKneader 15 = .ok (.aload_n 0, 1) := by decide +kernel
theorem dX12_isKneader_16 : decode cX12_isKneader 16 = .ok (.invokevirtual 493, 3) := by decide +kernel
theorem dX12_isKneader_19 : decode cX12_isKneader 19 = .ok (.aload_n 0, 1) := by decide +kernel
theorem dX12_isKneader_20 : decode cX12_isKneader 20 = .ok (.invokevirtual 588, 3) := by decide +kernel
theorem dX12_isKneader_23 : decode cX12_isKneader 23 = .ok (.iadd, 1) := by decide +kernel
theorem dX12_isKneader_24 : decode cX12_isKneader 24 = .ok (.sipush 9999, 3) := by decide +kernel
theorem dX12_isKneader_27 : decode cX12_isKneader 27 = .ok (.if_icmp .le 5, 3) := by decide +kernel
theorem dX12_isKneader_30 : decode cX12_isKneader 30 = .ok (.iconst 0, 1) := by decide +kernel
theorem dX12_isKneader_31 : decode cX12_isKneader 31 = .ok (.ireturn, 1) := by decide +kernel
theorem dX12_isKneader_32 : decode cX12_isKneader 32 = .ok (.aload_n 0, 1) := by decide +kernel
theorem dX12_isKneader_33 : decode cX12_isKneader 33 = .ok (.invokevirtual 523, 3) := by decide +kernel
theorem dX12_isKneader_36 : decode cX12_isKneader 36 = .ok (.aload_n 0, 1) := by decide +kernel
theorem dX12_isKneader_37 : decode cX12_isKneader 37 = .ok (.getfield 136, 3) := by decide +kernel
theorem dX12_isKneader_40 : decode cX12_isKneader 40 = .ok (.bipush 65, 2) := by decide +kernel
theorem dX12_isKneader_42 : decode cX12_isKneader 42 = .ok (.iconst 5, 1) := by decide +kernel
theorem dX12_isKneader_43 : decode cX12_isKneader 43 = .ok (.iload_n 1, 1) := by decide +kernel
theorem dX12_isKneader_44 : decode cX12_isKneader 44 = .ok (.imul, 1) := by decide +kernel
theorem dX12_isKneader_45 : decode cX12_isKneader 45 = .ok (.iadd, 1) := by decide +kernel
theorem dX12_isKneader_46 : decode cX12_isKneader 46 = .ok (.iload_n 2, 1) := by decide +kernel
theorem dX12_isKneader_47 : decode cX12_isKneader 47 = .ok (.iastore, 1) := by decide +kernel
theorem dX12_isKneader_48 : decode cX12_isKneader 48 = .ok (.aload_n 0, 1) := by decide +kernel
theorem dX12_isKneader_49 : decode cX12_isKneader 49 = .ok (.iconst 0, 1) := by decide +kernel
theorem dX12_isKneader_50 : decode cX12_isKneader 50 = .ok (.invokevirtual 591, 3) := by decide +kernel
theorem dX12_isKneader_53 : decode cX12_isKneader 53 = .ok (.istore_n 3, 1) := by decide +kernel
theorem dX12_isKneader_54 : decode cX12_isKneader 54 = .ok (.iconst 1, 1) := by decide +kernel
theorem dX12_isKneader_55 : decode cX12_isKneader 55 = .ok (.istore 4, 2) := by decide +kernel
theorem dX12_isKneader_57 : decode cX12_isKneader 57 = .ok (.iload 4, 2) := by decide +kernel
theorem dX12_isKneader_59 : decode cX12_isKneader 59 = .ok (.aload_n 0, 1) := by decide +kernel
theorem dX12_isKneader_60 : decode cX12_isKneader 60 = .ok (.invokevirtual 588, 3) := by decide +kernel
theorem dX12_isKneader_63 : decode cX12_isKneader 63 = .ok (.if_icmp .gt 24, 3) := by decide +kernel
theorem dX12_isKneader_66 : decode cX12_isKneader 66 = .ok (.iload_n 3, 1) := by decide +kernel
theorem dX12_isKneader_67 : decode cX12_isKneader 67 = .ok (.ifCond .eq 20, 3) := by decide +kernel
theorem dX12_isKneader_70 : decode cX12_isKneader 70 = .ok (.aload_n 0, 1) := by decide +kernel
theorem dX12_isKneader_71 : decode cX12_isKneader 71 = .ok (.invokevirtual 487, 3) := by decide +kernel
theorem dX12_isKneader_74 : decode cX12_isKneader 74 = .ok (.aload_n 0, 1) := by decide +kernel
theorem dX12_isKneader_75 : decode cX12_isKneader 75 = .ok (.iload 4, 2) := by decide +kernel
theorem dX12_isKneader_77 : decode cX12_isKneader 77 = .ok (.invokevirtual 591, 3) := by decide +kernel
theorem dX12_isKneader_80 : decode cX12_isKneader 80 = .ok (.istore_n 3, 1) := by decide +kernel
theorem dX12_isKneader_81 : decode cX12_isKneader 81 = .ok (.iinc 4 1, 3) := by decide +kernel
theorem dX12_isKneader_84 : decode cX12_isKneader 84 = .ok (.goto (-27), 3) := by decide +kernel
theorem dX12_isKneader_87 : decode cX12_isKneader 87 = .ok (.aload_n 0, 1) := by decide +kernel
theorem dX12_isKneader_88 : decode cX12_isKneader 88 = .ok (.invokevirtual 529, 3) := by decide +kernel
theorem dX12_isKneader_91 : decode cX12_isKneader 91 = .ok (.iload_n 3, 1) := by decide +kernel
theorem dX12_isKneader_92 : decode cX12_isKneader 92 = .ok (.ireturn, 1) := by decide +kernel
theorem dX12_kneaders_0 : decode cX12_kneaders 0 = .ok (.aload_n 0, 1) := by decide +kernel
theorem dX12_kneaders_1 : decode cX12_kneaders 1 = .ok (.iload_n 1, 1) := by decide +kernel
theorem dX12_kneaders_2 : decode cX12_kneaders 2 = .ok (.invokevirtual 509, 3) := by decide +kernel
theorem dX12_kneaders_5 : decode cX12_kneaders 5 = .ok (.ifCond .eq 15, 3) := by decide +kernel
theorem dX12_kneaders_8 : decode cX12_kneaders 8 = .ok (.iload_n 2, 1) := by decide +kernel
theorem dX12_kneaders_9 : decode cX12_kneaders 9 = .ok (.i2l, 1) := by decide +kernel
theorem dX12_kneaders_10 : decode cX12_kneaders 10 = .ok (.lconst 0, 1) := by decide +kernel
theorem dX12_kneaders_11 : decode cX12_kneaders 11 = .ok (.ldc2_w 499, 3) := by decide +kernel
theorem dX12_kneaders_14 : decode cX12_kneaders 14 = .ok (.invokestatic 282, 3) := by decide +kernel
theorem dX12_kneaders_17 : decode cX12_kneaders 17 = .ok (.ifCond .ne 5, 3) := by decide +kernel
theorem dX12_kneaders_20 : decode cX12_kneaders 20 = .ok (.iconst (-1), 1) := by decide +kernel
theorem dX12_kneaders_21 : decode cX12_kneaders 21 = .ok (.ireturn, 1) := by decide +kernel
theorem dX12_kneaders_22 : decode cX12_kneaders 22 = .ok (.iconst 0, 1) := by decide +kernel
theorem dX12_kneaders_23 : decode cX12_kneaders 23 = .ok (.istore_n 3, 1) := by decide +kernel
theorem dX12_kneaders_24 : decode cX12_kneaders 24 = .ok (.iconst 1, 1) := by decide +kernel
theorem dX12_kneaders_25 : decode cX12_kneaders 25 = .ok (.aload_n 0, 1) := by decide +kernel
theorem dX12_kneaders_26 : decode cX12_kneaders 26 = .ok (.invokevirtual 407, 3) := by decide +kernel
theorem dX12_kneaders_29 : decode cX12_kneaders 29 = .ok (.ishl, 1) := by decide +kernel
theorem dX12_kneaders_30 : decode cX12_kneaders 30 = .ok (.iconst 1, 1) := by decide +kernel
theorem dX12_kneaders_31 : decode cX12_kneaders 31 = .ok (.isub, 1) := by decide +kernel
theorem dX12_kneaders_32 : decode cX12_kneaders 32 = .ok (.istore 4, 2) := by decide +kernel
theorem dX12_kneaders_34 : decode cX12_kneaders 34 = .ok (.iconst 0, 1) := by decide +kernel
theorem dX12_kneaders_35 : decode cX12_kneaders 35 = .ok (.istore 5, 2) := by decide +kernel
theorem dX12_kneaders_37 : decode cX12_kneaders 37 = .ok (.iconst (-1), 1) := by decide +kernel
theorem dX12_kneaders_38 : decode cX12_kneaders 38 = .ok (.istore 6, 2) := by decide +kernel
theorem dX12_kneaders_40 : decode cX12_kneaders 40 = .ok (.iconst 1, 1) := by decide +kernel
theorem dX12_kneaders_41 : decode cX12_kneaders 41 = .ok (.istore 7, 2) := by decide +kernel
theorem dX12_kneaders_43 : decode cX12_kneaders 43 = .ok (.iload 7, 2) := by decide +kernel
theorem dX12_kneaders_45 : decode cX12_kneaders 45 = .ok (.iconst 1, 1) := by decide +kernel
theorem dX12_kneaders_46 : decode cX12_kneaders 46 = .ok (.aload_n 0, 1) := by decide +kernel
theorem dX12_kneaders_47 : decode cX12_kneaders 47 = .ok (.invokevirtual 407, 3) := by decide +kernel
theorem dX12_kneaders_50 : decode cX12_kneaders 50 = .ok (.ishl, 1) := by decide +kernel
theorem dX12_kneaders_51 : decode cX12_kneaders 51 = .ok (.if_icmp .ge 49, 3) := by decide +kernel
theorem dX12_kneaders_54 : decode cX12_kneaders 54 = .ok (.aload_n 0, 1) := by decide +kernel
theorem dX12_kneaders_55 : decode cX12_kneaders 55 = .ok (.iload_n 1, 1) := by decide +kernel
theorem dX12_kneaders_56 : decode cX12_kneaders 56 = .ok (.iload 7, 2) := by decide +kernel
theorem dX12_kneaders_58 : decode cX12_kneaders 58 = .ok (.invokevirtual 594, 3) := by decide +kernel
theorem dX12_kneaders_61 : decode cX12_kneaders 61 = .ok (.ifCond .ne 6, 3) := by decide +kernel
theorem dX12_kneaders_64 : decode cX12_kneaders 64 = .ok (.goto 30, 3) := by decide +kernel
theorem dX12_kneaders_67 : decode cX12_kneaders 67 = .ok (.iinc 3 1, 3) := by decide +kernel
theorem dX12_kneaders_70 : decode cX12_kneaders 70 = .ok (.iload 4, 2) := by decide +kernel
theorem dX12_kneaders_72 : decode cX12_kneaders 72 = .ok (.iload 7, 2) := by decide +kernel
theorem dX12_kneaders_74 : decode cX12_kneaders 74 = .ok (.iand, 1) := by decide +kernel
theorem dX12_kneaders_75 : decode cX12_kneaders 75 = .ok (.istore 4, 2) := by decide +kernel
theorem dX12_kneaders_77 : decode cX12_kneaders 77 = .ok (.iload 5, 2) := by decide +kernel
theorem dX12_kneaders_79 : decode cX12_kneaders 79 = .ok (.iload 7, 2) := by decide +kernel
theorem dX12_kneaders_81 : decode cX12_kneaders 81 = .ok (.ior, 1) := by decide +kernel
theorem dX12_kneaders_82 : decode cX12_kneaders 82 = .ok (.istore 5, 2) := by decide +kernel
theorem dX12_kneaders_84 : decode cX12_kneaders 84 = .ok (.iload 6, 2) := by decide +kernel
theorem dX12_kneaders_86 : decode cX12_kneaders 86 = .ok (.iconst (-1), 1) := by decide +kernel
theorem dX12_kneaders_87 : decode cX12_kneaders 87 = .ok (.if_icmp .ne 7, 3) := by decide +kernel
theorem dX12_kneaders_90 : decode cX12_kneaders 90 = .ok (.iload 7, 2) := by decide +kernel
theorem dX12_kneaders_92 : decode cX12_kneaders 92 = .ok (.istore 6, 2) := by decide +kernel
theorem dX12_kneaders_94 : decode cX12_kneaders 94 = .ok (.iinc 7 1, 3) := by decide +kernel
theorem dX12_kneaders_97 : decode cX12_kneaders 97 = .ok (.goto (-54), 3) := by decide +kernel
theorem dX12_kneaders_100 : decode cX12_kneaders 100 = .ok (.iload_n 2, 1) := by decide +kernel
theorem dX12_kneaders_101 : decode cX12_kneaders 101 = .ok (.ifCond .ne 7, 3) := by decide +kernel
theorem dX12_kneaders_104 : decode cX12_kneaders 104 = .ok (.iload_n 3, 1) := by decide +kernel
theorem dX12_kneaders_105 : decode cX12_kneaders 105 = .ok (.goto 33, 3) := by decide +kernel
theorem dX12_kneaders_108 : decode cX12_kneaders 108 = .ok (.iload_n 2, 1) := by decide +kernel
theorem dX12_kneaders_109 : decode cX12_kneaders 109 = .ok (.iconst 1, 1) := by decide +kernel
theorem dX12_kneaders_110 : decode cX12_kneaders 110 = .ok (.if_icmp .ne 16, 3) := by decide +kernel
theorem dX12_kneaders_113 : decode cX12_kneaders 113 = .ok (.iload_n 3, 1) := by decide +kernel
theorem dX12_kneaders_114 : decode cX12_kneaders 114 = .ok (.ifCond .ne 7, 3) := by decide +kernel
theorem dX12_kneaders_117 : decode cX12_kneaders 117 = .ok (.iconst 0, 1) := by decide +kernel
theorem dX12_kneaders_118 : decode cX12_kneaders 118 = .ok (.goto 20, 3) := by decide +kernel
theorem dX12_kneaders_121 : decode cX12_kneaders 121 = .ok (.iload 4, 2) := by decide +kernel
theorem dX12_kneaders_123 : decode cX12_kneaders 123 = .ok (.goto 15, 3) := by decide +kernel
theorem dX12_kneaders_126 : decode cX12_kneaders 126 = .ok (.iload_n 2, 1) := by decide +kernel
theorem dX12_kneaders_127 : decode cX12_kneaders 127 = .ok (.iconst 2, 1) := by decide +kernel
theorem dX12_kneaders_128 : decode cX12_kneaders 128 = .ok (.if_icmp .ne 8, 3) := by decide +kernel
theorem dX12_kneaders_131 : decode cX12_kneaders 131 = .ok (.iload 5, 2) := by decide +kernel
theorem dX12_kneaders_133 : decode cX12_kneaders 133 = .ok (.goto 5, 3) := by decide +kernel
theorem dX12_kneaders_136 : decode cX12_kneaders 136 = .ok (.iload 6, 2) := by decide +kernel
theorem dX12_kneaders_138 : decode cX12_kneaders 138 = .ok (.ireturn, 1) := by decide +kernel
theorem dX12_crowd_0 : decode cX12_crowd 0 = .ok (.iconst 0, 1) := by decide +kernel
theorem dX12_crowd_1 : decode cX12_crowd 1 = .ok (.istore_n 3, 1) := by decide +kernel
theorem dX12_crowd_2 : decode cX12_crowd 2 = .ok (.iconst 0, 1) := by decide +kernel
theorem dX12_crowd_3 : decode cX12_crowd 3 = .ok (.istore 4, 2) := by decide +kernel
theorem dX12_crowd_5 : decode cX12_crowd 5 = .ok (.iload 4, 2) := by decide +kernel
theorem dX12_crowd_7 : decode cX12_crowd 7 = .ok (.bipush 99, 2) := by decide +kernel
theorem dX12_crowd_9 : decode cX12_crowd 9 = .ok (.if_icmp .gt 46, 3) := by decide +kernel
theorem dX12_crowd_12 : decode cX12_crowd 12 = .ok (.aload_n 0, 1) := by decide +kernel
theorem dX12_crowd_13 : decode cX12_crowd 13 = .ok (.getfield 158, 3) := by decide +kernel
theorem dX12_crowd_16 : decode cX12_crowd 16 = .ok (.bipush 100, 2) := by decide +kernel
theorem dX12_crowd_18 : decode cX12_crowd 18 = .ok (.iconst 4, 1) := by decide +kernel
theorem dX12_crowd_19 : decode cX12_crowd 19 = .ok (.iload_n 1, 1) := by decide +kernel
theorem dX12_crowd_20 : decode cX12_crowd 20 = .ok (.imul, 1) := by decide +kernel
theorem dX12_crowd_21 : decode cX12_crowd 21 = .ok (.iload_n 2, 1) := by decide +kernel
theorem dX12_crowd_22 : decode cX12_crowd 22 = .ok (.iadd, 1) := by decide +kernel
theorem dX12_crowd_23 : decode cX12_crowd 23 = .ok (.imul, 1) := by decide +kernel
theorem dX12_crowd_24 : decode cX12_crowd 24 = .ok (.iload 4, 2) := by decide +kernel
theorem dX12_crowd_26 : decode cX12_crowd 26 = .ok (.iadd, 1) := by decide +kernel
theorem dX12_crowd_27 : decode cX12_crowd 27 = .ok (.iaload, 1) := by decide +kernel
theorem dX12_crowd_28 : decode cX12_crowd 28 = .ok (.iload_n 3, 1) := by decide +kernel
theorem dX12_crowd_29 : decode cX12_crowd 29 = .ok (.if_icmp .le 20, 3) := by decide +kernel
theorem dX12_crowd_32 : decode cX12_crowd 32 = .ok (.aload_n 0, 1) := by decide +kernel
theorem dX12_crowd_33 : decode cX12_crowd 33 = .ok (.getfield 158, 3) := by decide +kernel
theorem dX12_crowd_36 : decode cX12_crowd 36 = .ok (.bipush 100, 2) := by decide +kernel
theorem dX12_crowd_38 : decode cX12_crowd 38 = .ok (.iconst 4, 1) := by decide +kernel
theorem dX12_crowd_39 : decode cX12_crowd 39 = .ok (.iload_n 1, 1) := by decide +kernel
theorem dX12_crowd_40 : decode cX12_crowd 40 = .ok (.imul, 1) := by decide +kernel
theorem dX12_crowd_41 : decode cX12_crowd 41 = .ok (.iload_n 2, 1) := by decide +kernel
theorem dX12_crowd_42 : decode cX12_crowd 42 = .ok (.iadd, 1) := by decide +kernel
theorem dX12_crowd_43 : decode cX12_crowd 43 = .ok (.imul, 1) := by decide +kernel
theorem dX12_crowd_44 : decode cX12_crowd 44 = .ok (.iload 4, 2) := by decide +kernel
theorem dX12_crowd_46 : decode cX12_crowd 46 = .ok (.iadd, 1) := by decide +kernel
theorem dX12_crowd_47 : decode cX12_crowd 47 = .ok (.iaload, 1) := by decide +kernel
theorem dX12_crowd_48 : decode cX12_crowd 48 = .ok (.istore_n 3, 1) := by decide +kernel
theorem dX12_crowd_49 : decode cX12_crowd 49 = .ok (.iinc 4 1, 3) := by decide +kernel
theorem dX12_crowd_52 : decode cX12_crowd 52 = .ok (.goto (-47), 3) := by decide +kernel
theorem dX12_crowd_55 : decode cX12_crowd 55 = .ok (.iload_n 3, 1) := by decide +kernel
theorem dX12_crowd_56 : decode cX12_crowd 56 = .ok (.ireturn, 1) := by decide +kernel
theorem dX12_notes_0 : decode cX12_notes 0 = .ok (.aload_n 0, 1) := by decide +kernel
theorem dX12_notes_1 : decode cX12_notes 1 = .ok (.invokevirtual 523, 3) := by decide +kernel
theorem dX12_notes_4 : decode cX12_notes 4 = .ok (.aload_n 0, 1) := by decide +kernel
theorem dX12_notes_5 : decode cX12_notes 5 = .ok (.getfield 136, 3) := by decide +kernel
theorem dX12_notes_8 : decode cX12_notes 8 = .ok (.bipush 65, 2) := by decide +kernel
theorem dX12_notes_10 : decode cX12_notes 10 = .ok (.iconst 5, 1) := by decide +kernel
theorem dX12_notes_11 : decode cX12_notes 11 = .ok (.iload_n 1, 1) := by decide +kernel
theorem dX12_notes_12 : decode cX12_notes 12 = .ok (.imul, 1) := by decide +kernel
theorem dX12_notes_13 : decode cX12_notes 13 = .ok (.iadd, 1) := by decide +kernel
theorem dX12_notes_14 : decode cX12_notes 14 = .ok (.iload_n 2, 1) := by decide +kernel
theorem dX12_notes_15 : decode cX12_notes 15 = .ok (.iastore, 1) := by decide +kernel
theorem dX12_notes_16 : decode cX12_notes 16 = .ok (.aload_n 0, 1) := by decide +kernel
theorem dX12_notes_17 : decode cX12_notes 17 = .ok (.iload_n 3, 1) := by decide +kernel
theorem dX12_notes_18 : decode cX12_notes 18 = .ok (.invokevirtual 526, 3) := by decide +kernel
theorem dX12_notes_21 : decode cX12_notes 21 = .ok (.iconst 0, 1) := by decide +kernel
theorem dX12_notes_22 : decode cX12_notes 22 = .ok (.istore 4, 2) := by decide +kernel
theorem dX12_notes_24 : decode cX12_notes 24 = .ok (.iload 4, 2) := by decide +kernel
theorem dX12_notes_26 : decode cX12_notes 26 = .ok (.aload_n 0, 1) := by decide +kernel
theorem dX12_notes_27 : decode cX12_notes 27 = .ok (.invokevirtual 407, 3) := by decide +kernel
theorem dX12_notes_30 : decode cX12_notes 30 = .ok (.if_icmp .ge 55, 3) := by decide +kernel
theorem dX12_notes_33 : decode cX12_notes 33 = .ok (.iconst 0, 1) := by decide +kernel
theorem dX12_notes_34 : decode cX12_notes 34 = .ok (.istore 5, 2) := by decide +kernel
theorem dX12_notes_36 : decode cX12_notes 36 = .ok (.iload 5, 2) := by decide +kernel
theorem dX12_notes_38 : decode cX12_notes 38 = .ok (.aload_n 0, 1) := by decide +kernel
theorem dX12_notes_39 : decode cX12_notes 39 = .ok (.invokevirtual 404, 3) := by decide +kernel
theorem dX12_notes_42 : decode cX12_notes 42 = .ok (.if_icmp .ge 37, 3) := by decide +kernel
theorem dX12_notes_45 : decode cX12_notes 45 = .ok (.aload_n 0, 1) := by decide +kernel
theorem dX12_notes_46 : decode cX12_notes 46 = .ok (.getfield 158, 3) := by decide +kernel
theorem dX12_notes_49 : decode cX12_notes 49 = .ok (.bipush 100, 2) := by decide +kernel
theorem dX12_notes_51 : decode cX12_notes 51 = .ok (.iconst 4, 1) := by decide +kernel
theorem dX12_notes_52 : decode cX12_notes 52 = .ok (.iload 4, 2) := by decide +kernel
theorem dX12_notes_54 : decode cX12_notes 54 = .ok (.imul, 1) := by decide +kernel
theorem dX12_notes_55 : decode cX12_notes 55 = .ok (.iload 5, 2) := by decide +kernel
theorem dX12_notes_57 : decode cX12_notes 57 = .ok (.iadd, 1) := by decide +kernel
theorem dX12_notes_58 : decode cX12_notes 58 = .ok (.imul, 1) := by decide +kernel
theorem dX12_notes_59 : decode cX12_notes 59 = .ok (.aload_n 0, 1) := by decide +kernel
theorem dX12_notes_60 : decode cX12_notes 60 = .ok (.iload 4, 2) := by decide +kernel
theorem dX12_notes_62 : decode cX12_notes 62 = .ok (.iload 5, 2) := by decide +kernel
theorem dX12_notes_64 : decode cX12_notes 64 = .ok (.invokevirtual 440, 3) := by decide +kernel
theorem dX12_notes_67 : decode cX12_notes 67 = .ok (.iadd, 1) := by decide +kernel
theorem dX12_notes_68 : decode cX12_notes 68 = .ok (.dup2, 1) := by decide +kernel
theorem dX12_notes_69 : decode cX12_notes 69 = .ok (.iaload, 1) := by decide +kernel
theorem dX12_notes_70 : decode cX12_notes 70 = .ok (.iconst 1, 1) := by decide +kernel
theorem dX12_notes_71 : decode cX12_notes 71 = .ok (.iadd, 1) := by decide +kernel
theorem dX12_notes_72 : decode cX12_notes 72 = .ok (.iastore, 1) := by decide +kernel
theorem dX12_notes_73 : decode cX12_notes 73 = .ok (.iinc 5 1, 3) := by decide +kernel
theorem dX12_notes_76 : decode cX12_notes 76 = .ok (.goto (-40), 3) := by decide +kernel
theorem dX12_notes_79 : decode cX12_notes 79 = .ok (.iinc 4 1, 3) := by decide +kernel
theorem dX12_notes_82 : decode cX12_notes 82 = .ok (.goto (-58), 3) := by decide +kernel
theorem dX12_notes_85 : decode cX12_notes 85 = .ok (.aload_n 0, 1) := by decide +kernel
theorem dX12_notes_86 : decode cX12_notes 86 = .ok (.invokevirtual 529, 3) := by decide +kernel
theorem dX12_notes_89 : decode cX12_notes 89 = .ok (.return_, 1) := by decide +kernel
theorem dX12_look_0 : decode cX12_look 0 = .ok (.aload_n 0, 1) := by decide +kernel
theorem dX12_look_1 : decode cX12_look 1 = .ok (.iload_n 1, 1) := by decide +kernel
theorem dX12_look_2 : decode cX12_look 2 = .ok (.invokevirtual 509, 3) := by decide +kernel
theorem dX12_look_5 : decode cX12_look 5 = .ok (.ifCond .eq 23, 3) := by decide +kernel
theorem dX12_look_8 : decode cX12_look 8 = .ok (.aload_n 0, 1) := by decide +kernel
theorem dX12_look_9 : decode cX12_look 9 = .ok (.iload_n 2, 1) := by decide +kernel
theorem dX12_look_10 : decode cX12_look 10 = .ok (.invokevirtual 520, 3) := by decide +kernel
theorem dX12_look_13 : decode cX12_look 13 = .ok (.ifCond .eq 15, 3) := by decide +kernel
theorem dX12_look_16 : decode cX12_look 16 = .ok (.iload_n 3, 1) := by decide +kernel
theorem dX12_look_17 : decode cX12_look 17 = .ok (.i2l, 1) := by decide +kernel
theorem dX12_look_18 : decode cX12_look 18 = .ok (.lconst 0, 1) := by decide +kernel
theorem dX12_look_19 : decode cX12_look 19 = .ok (.ldc2_w 532, 3) := by decide +kernel
theorem dX12_look_22 : decode cX12_look 22 = .ok (.invokestatic 282, 3) := by decide +kernel
theorem dX12_look_25 : decode cX12_look 25 = .ok (.ifCond .ne 5, 3) := by decide +kernel
theorem dX12_look_28 : decode cX12_look 28 = .ok (.iconst (-1), 1) := by decide +kernel
theorem dX12_look_29 : decode cX12_look 29 = .ok (.ireturn, 1) := by decide +kernel
theorem dX12_look_30 : decode cX12_look 30 = .ok (.iconst 0, 1) := by decide +kernel
theorem dX12_look_31 : decode cX12_look 31 = .ok (.istore 4, 2) := by decide +kernel
theorem dX12_look_33 : decode cX12_look 33 = .ok (.iload 4, 2) := by decide +kernel
theorem dX12_look_35 : decode cX12_look 35 = .ok (.sipush 3200, 3) := by decide +kernel
theorem dX12_look_38 : decode cX12_look 38 = .ok (.if_icmp .ge 17, 3) := by decide +kernel
theorem dX12_look_41 : decode cX12_look 41 = .ok (.aload_n 0, 1) := by decide +kernel
theorem dX12_look_42 : decode cX12_look 42 = .ok (.getfield 158, 3) := by decide +kernel
theorem dX12_look_45 : decode cX12_look 45 = .ok (.iload 4, 2) := by decide +kernel
theorem dX12_look_47 : decode cX12_look 47 = .ok (.iconst 0, 1) := by decide +kernel
theorem dX12_look_48 : decode cX12_look 48 = .ok (.iastore, 1) := by decide +kernel
theorem dX12_look_49 : decode cX12_look 49 = .ok (.iinc 4 1, 3) := by decide +kernel
theorem dX12_look_52 : decode cX12_look 52 = .ok (.goto (-19), 3) := by decide +kernel
theorem dX12_look_55 : decode cX12_look 55 = .ok (.iconst 0, 1) := by decide +kernel
theorem dX12_look_56 : decode cX12_look 56 = .ok (.istore 4, 2) := by decide +kernel
theorem dX12_look_58 : decode cX12_look 58 = .ok (.iconst 1, 1) := by decide +kernel
theorem dX12_look_59 : decode cX12_look 59 = .ok (.istore 5, 2) := by decide +kernel
theorem dX12_look_61 : decode cX12_look 61 = .ok (.iload 5, 2) := by decide +kernel
theorem dX12_look_63 : decode cX12_look 63 = .ok (.iconst 1, 1) := by decide +kernel
theorem dX12_look_64 : decode cX12_look 64 = .ok (.aload_n 0, 1) := by decide +kernel
theorem dX12_look_65 : decode cX12_look 65 = .ok (.invokevirtual 407, 3) := by decide +kernel
theorem dX12_look_68 : decode cX12_look 68 = .ok (.ishl, 1) := by decide +kernel
theorem dX12_look_69 : decode cX12_look 69 = .ok (.if_icmp .ge 33, 3) := by decide +kernel
theorem dX12_look_72 : decode cX12_look 72 = .ok (.aload_n 0, 1) := by decide +kernel
theorem dX12_look_73 : decode cX12_look 73 = .ok (.iload_n 1, 1) := by decide +kernel
theorem dX12_look_74 : decode cX12_look 74 = .ok (.iload 5, 2) := by decide +kernel
theorem dX12_look_76 : decode cX12_look 76 = .ok (.invokevirtual 594, 3) := by decide +kernel
theorem dX12_look_79 : decode cX12_look 79 = .ok (.ifCond .ne 6, 3) := by decide +kernel
theorem dX12_look_82 : decode cX12_look 82 = .ok (.goto 14, 3) := by decide +kernel
theorem dX12_look_85 : decode cX12_look 85 = .ok (.iconst 1, 1) := by decide +kernel
theorem dX12_look_86 : decode cX12_look 86 = .ok (.istore 4, 2) := by decide +kernel
theorem dX12_look_88 : decode cX12_look 88 = .ok (.aload_n 0, 1) := by decide +kernel
theorem dX12_look_89 : decode cX12_look 89 = .ok (.iload_n 1, 1) := by decide +kernel
theorem dX12_look_90 : decode cX12_look 90 = .ok (.iload 5, 2) := by decide +kernel
theorem dX12_look_92 : decode cX12_look 92 = .ok (.iload_n 2, 1) := by decide +kernel
theorem dX12_look_93 : decode cX12_look 93 = .ok (.invokevirtual 597, 3) := by decide +kernel
theorem dX12_look_96 : decode cX12_look 96 = .ok (.iinc 5 1, 3) := by decide +kernel
theorem dX12_look_99 : decode cX12_look 99 = .ok (.goto (-38), 3) := by decide +kernel
theorem dX12_look_102 : decode cX12_look 102 = .ok (.iconst (-1), 1) := by decide +kernel
theorem dX12_look_103 : decode cX12_look 103 = .ok (.istore 5, 2) := by decide +kernel
theorem dX12_look_105 : decode cX12_look 105 = .ok (.iconst 0, 1) := by decide +kernel
theorem dX12_look_106 : decode cX12_look 106 = .ok (.istore 6, 2) := by decide +kernel
theorem dX12_look_108 : decode cX12_look 108 = .ok (.iload 6, 2) := by decide +kernel
theorem dX12_look_110 : decode cX12_look 110 = .ok (.iconst 4, 1) := by decide +kernel
theorem dX12_look_111 : decode cX12_look 111 = .ok (.aload_n 0, 1) := by decide +kernel
theorem dX12_look_112 : decode cX12_look 112 = .ok (.invokevirtual 407, 3) := by decide +kernel
theorem dX12_look_115 : decode cX12_look 115 = .ok (.imul, 1) := by decide +kernel
theorem dX12_look_116 : decode cX12_look 116 = .ok (.if_icmp .ge 62, 3) := by decide +kernel
theorem dX12_look_119 : decode cX12_look 119 = .ok (.iload 4, 2) := by decide +kernel
theorem dX12_look_121 : decode cX12_look 121 = .ok (.ifCond .eq 57, 3) := by decide +kernel
theorem dX12_look_124 : decode cX12_look 124 = .ok (.aload_n 0, 1) := by decide +kernel
theorem dX12_look_125 : decode cX12_look 125 = .ok (.iload 6, 2) := by decide +kernel
theorem dX12_look_127 : decode cX12_look 127 = .ok (.iconst 4, 1) := by decide +kernel
theorem dX12_look_128 : decode cX12_look 128 = .ok (.irem, 1) := by decide +kernel
theorem dX12_look_129 : decode cX12_look 129 = .ok (.invokevirtual 506, 3) := by decide +kernel
theorem dX12_look_132 : decode cX12_look 132 = .ok (.ifCond .eq 40, 3) := by decide +kernel
theorem dX12_look_135 : decode cX12_look 135 = .ok (.iload 5, 2) := by decide +kernel
theorem dX12_look_137 : decode cX12_look 137 = .ok (.iconst (-1), 1) := by decide +kernel
theorem dX12_look_138 : decode cX12_look 138 = .ok (.if_icmp .eq 30, 3) := by decide +kernel
theorem dX12_look_141 : decode cX12_look 141 = .ok (.aload_n 0, 1) := by decide +kernel
theorem dX12_look_142 : decode cX12_look 142 = .ok (.iload 6, 2) := by decide +kernel
theorem dX12_look_144 : decode cX12_look 144 = .ok (.iconst 4, 1) := by decide +kernel
theorem dX12_look_145 : decode cX12_look 145 = .ok (.idiv, 1) := by decide +kernel
theorem dX12_look_146 : decode cX12_look 146 = .ok (.iload 6, 2) := by decide +kernel
theorem dX12_look_148 : decode cX12_look 148 = .ok (.iconst 4, 1) := by decide +kernel
theorem dX12_look_149 : decode cX12_look 149 = .ok (.irem, 1) := by decide +kernel
theorem dX12_look_150 : decode cX12_look 150 = .ok (.invokevirtual 601, 3) := by decide +kernel
theorem dX12_look_153 : decode cX12_look 153 = .ok (.aload_n 0, 1) := by decide +kernel
theorem dX12_look_154 : decode cX12_look 154 = .ok (.iload 5, 2) := by decide +kernel
theorem dX12_look_156 : decode cX12_look 156 = .ok (.iconst 4, 1) := by decide +kernel
theorem dX12_look_157 : decode cX12_look 157 = .ok (.idiv, 1) := by decide +kernel
theorem dX12_look_158 : decode cX12_look 158 = .ok (.iload 5, 2) := by decide +kernel
theorem dX12_look_160 : decode cX12_look 160 = .ok (.iconst 4, 1) := by decide +kernel
theorem dX12_look_161 : decode cX12_look 161 = .ok (.irem, 1) := by decide +kernel
theorem dX12_look_162 : decode cX12_look 162 = .ok (.invokevirtual 601, 3) := by decide +kernel
theorem dX12_look_165 : decode cX12_look 165 = .ok (.if_icmp .ge 7, 3) := by decide +kernel
theorem dX12_look_168 : decode cX12_look 168 = .ok (.iload 6, 2) := by decide +kernel
theorem dX12_look_170 : decode cX12_look 170 = .ok (.istore 5, 2) := by decide +kernel
theorem dX12_look_172 : decode cX12_look 172 = .ok (.iinc 6 1, 3) := by decide +kernel
theorem dX12_look_175 : decode cX12_look 175 = .ok (.goto (-67), 3) := by decide +kernel
theorem dX12_look_178 : decode cX12_look 178 = .ok (.iload 5, 2) := by decide +kernel
theorem dX12_look_180 : decode cX12_look 180 = .ok (.iconst (-1), 1) := by decide +kernel
theorem dX12_look_181 : decode cX12_look 181 = .ok (.if_icmp .ne 7, 3) := by decide +kernel
theorem dX12_look_184 : decode cX12_look 184 = .ok (.iconst (-1), 1) := by decide +kernel
theorem dX12_look_185 : decode cX12_look 185 = .ok (.goto 38, 3) := by decide +kernel
theorem dX12_look_188 : decode cX12_look 188 = .ok (.iload_n 3, 1) := by decide +kernel
theorem dX12_look_189 : decode cX12_look 189 = .ok (.ifCond .ne 10, 3) := by decide +kernel
theorem dX12_look_192 : decode cX12_look 192 = .ok (.iload 5, 2) := by decide +kernel
theorem dX12_look_194 : decode cX12_look 194 = .ok (.iconst 4, 1) := by decide +kernel
theorem dX12_look_195 : decode cX12_look 195 = .ok (.idiv, 1) := by decide +kernel
theorem dX12_look_196 : decode cX12_look 196 = .ok (.goto 27, 3) := by decide +kernel
theorem dX12_look_199 : decode cX12_look 199 = .ok (.iload_n 3, 1) := by decide +kernel
theorem dX12_look_200 : decode cX12_look 200 = .ok (.iconst 1, 1) := by decide +kernel
theorem dX12_look_201 : decode cX12_look 201 = .ok (.if_icmp .ne 10, 3) := by decide +kernel
theorem dX12_look_204 : decode cX12_look 204 = .ok (.iload 5, 2) := by decide +kernel
theorem dX12_look_206 : decode cX12_look 206 = .ok (.iconst 4, 1) := by decide +kernel
theorem dX12_look_207 : decode cX12_look 207 = .ok (.irem, 1) := by decide +kernel
theorem dX12_look_208 : decode cX12_look 208 = .ok (.goto 15, 3) := by decide +kernel
theorem dX12_look_211 : decode cX12_look 211 = .ok (.aload_n 0, 1) := by decide +kernel
theorem dX12_look_212 : decode cX12_look 212 = .ok (.iload 5, 2) := by decide +kernel
theorem dX12_look_214 : decode cX12_look 214 = .ok (.iconst 4, 1) := by decide +kernel
theorem dX12_look_215 : decode cX12_look 215 = .ok (.idiv, 1) := by decide +kernel
theorem dX12_look_216 : decode cX12_look 216 = .ok (.iload 5, 2) := by decide +kernel
theorem dX12_look_218 : decode cX12_look 218 = .ok (.iconst 4, 1) := by decide +kernel
theorem dX12_look_219 : decode cX12_look 219 = .ok (.irem, 1) := by decide +kernel
theorem dX12_look_220 : decode cX12_look 220 = .ok (.invokevirtual 601, 3) := by decide +kernel
theorem dX12_look_223 : decode cX12_look 223 = .ok (.ireturn, 1) := by decide +kernel
theorem dX12_qCode_0 : decode cX12_qCode 0 = .ok (.aload_n 0, 1) := by decide +kernel
theorem dX12_qCode_1 : decode cX12_qCode 1 = .ok (.getfield 227, 3) := by decide +kernel
theorem dX12_qCode_4 : decode cX12_qCode 4 = .ok (.aload_n 0, 1) := by decide +kernel
theorem dX12_qCode_5 : decode cX12_qCode 5 = .ok (.getfield 341, 3) := by decide +kernel
theorem dX12_qCode_8 : decode cX12_qCode 8 = .ok (.iload_n 1, 1) := by decide +kernel
theorem dX12_qCode_9 : decode cX12_qCode 9 = .ok (.iastore, 1) := by decide +kernel
theorem dX12_qCode_10 : decode cX12_qCode 10 = .ok (.aload_n 0, 1) := by decide +kernel
theorem dX12_qCode_11 : decode cX12_qCode 11 = .ok (.dup, 1) := by decide +kernel
theorem dX12_qCode_12 : decode cX12_qCode 12 = .ok (.getfield 341, 3) := by decide +kernel
theorem dX12_qCode_15 : decode cX12_qCode 15 = .ok (.iconst 1, 1) := by decide +kernel
theorem dX12_qCode_16 : decode cX12_qCode 16 = .ok (.iadd, 1) := by decide +kernel
theorem dX12_qCode_17 : decode cX12_qCode 17 = .ok (.putfield 341, 3) := by decide +kernel
theorem dX12_qCode_20 : decode cX12_qCode 20 = .ok (.return_, 1) := by decide +kernel
theorem dX12_qOpens_0 : decode cX12_qOpens 0 = .ok (.aload_n 0, 1) := by decide +kernel
theorem dX12_qOpens_1 : decode cX12_qOpens 1 = .ok (.getfield 242, 3) := by decide +kernel
theorem dX12_qOpens_4 : decode cX12_qOpens 4 = .ok (.ifCond .eq 4, 3) := by decide +kernel
theorem dX12_qOpens_7 : decode cX12_qOpens 7 = .ok (.return_, 1) := by decide +kernel
theorem dX12_qOpens_8 : decode cX12_qOpens 8 = .ok (.aload_n 0, 1) := by decide +kernel
theorem dX12_qOpens_9 : decode cX12_qOpens 9 = .ok (.getfield 347, 3) := by decide +kernel
theorem dX12_qOpens_12 : decode cX12_qOpens 12 = .ok (.bipush 6, 2) := by decide +kernel
theorem dX12_qOpens_14 : decode cX12_qOpens 14 = .ok (.if_icmp .ne 10, 3) := by decide +kernel
theorem dX12_qOpens_17 : decode cX12_qOpens 17 = .ok (.aload_n 0, 1) := by decide +kernel
theorem dX12_qOpens_18 : decode cX12_qOpens 18 = .ok (.iconst 4, 1) := by decide +kernel
theorem dX12_qOpens_19 : decode cX12_qOpens 19 = .ok (.iload_n 2, 1) := by decide +kernel
theorem dX12_qOpens_20 : decode cX12_qOpens 20 = .ok (.invokevirtual 272, 3) := by decide +kernel
theorem dX12_qOpens_23 : decode cX12_qOpens 23 = .ok (.return_, 1) := by decide +kernel
theorem dX12_qOpens_24 : decode cX12_qOpens 24 = .ok (.aload_n 0, 1) := by decide +kernel
theorem dX12_qOpens_25 : decode cX12_qOpens 25 = .ok (.dup, 1) := by decide +kernel
theorem dX12_qOpens_26 : decode cX12_qOpens 26 = .ok (.getfield 347, 3) := by decide +kernel
theorem dX12_qOpens_29 : decode cX12_qOpens 29 = .ok (.iconst 1, 1) := by decide +kernel
theorem dX12_qOpens_30 : decode cX12_qOpens 30 = .ok (.iadd, 1) := by decide +kernel
theorem dX12_qOpens_31 : decode cX12_qOpens 31 = .ok (.putfield 347, 3) := by decide +kernel
theorem dX12_qOpens_34 : decode cX12_qOpens 34 = .ok (.aload_n 0, 1) := by decide +kernel
theorem dX12_qOpens_35 : decode cX12_qOpens 35 = .ok (.getfield 230, 3) := by decide +kernel
theorem dX12_qOpens_38 : decode cX12_qOpens 38 = .ok (.aload_n 0, 1) := by decide +kernel
theorem dX12_qOpens_39 : decode cX12_qOpens 39 = .ok (.getfield 344, 3) := by decide +kernel
theorem dX12_qOpens_42 : decode cX12_qOpens 42 = .ok (.iload_n 1, 1) := by decide +kernel
theorem dX12_qOpens_43 : decode cX12_qOpens 43 = .ok (.iastore, 1) := by decide +kernel
theorem dX12_qOpens_44 : decode cX12_qOpens 44 = .ok (.aload_n 0, 1) := by decide +kernel
theorem dX12_qOpens_45 : decode cX12_qOpens 45 = .ok (.dup, 1) := by decide +kernel
theorem dX12_qOpens_46 : decode cX12_qOpens 46 = .ok (.getfield 344, 3) := by decide +kernel
theorem dX12_qOpens_49 : decode cX12_qOpens 49 = .ok (.iconst 1, 1) := by decide +kernel
theorem dX12_qOpens_50 : decode cX12_qOpens 50 = .ok (.iadd, 1) := by decide +kernel
theorem dX12_qOpens_51 : decode cX12_qOpens 51 = .ok (.putfield 344, 3) := by decide +kernel
theorem dX12_qOpens_54 : decode cX12_qOpens 54 = .ok (.return_, 1) := by decide +kernel
theorem dX12_qIsOn_0 : decode cX12_qIsOn 0 = .ok (.aload_n 0, 1) := by decide +kernel
theorem dX12_qIsOn_1 : decode cX12_qIsOn 1 = .ok (.getfield 344, 3) := by decide +kernel
theorem dX12_qIsOn_4 : decode cX12_qIsOn 4 = .ok (.ifCond .le 22, 3) := by decide +kernel
theorem dX12_qIsOn_7 : decode cX12_qIsOn 7 = .ok (.aload_n 0, 1) := by decide +kernel
theorem dX12_qIsOn_8 : decode cX12_qIsOn 8 = .ok (.getfield 230, 3) := by decide +kernel
theorem dX12_qIsOn_11 : decode cX12_qIsOn 11 = .ok (.aload_n 0, 1) := by decide +kernel
theorem dX12_qIsOn_12 : decode cX12_qIsOn 12 = .ok (.getfield 344, 3) := by decide +kernel
theorem dX12_qIsOn_15 : decode cX12_qIsOn 15 = .ok (.iconst 1, 1) := by decide +kernel
theorem dX12_qIsOn_16 : decode cX12_qIsOn 16 = .ok (.isub, 1) := by decide +kernel
theorem dX12_qIsOn_17 : decode cX12_qIsOn 17 = .ok (.iaload, 1) := by decide +kernel
theorem dX12_qIsOn_18 : decode cX12_qIsOn 18 = .ok (.iload_n 1, 1) := by decide +kernel
theorem dX12_qIsOn_19 : decode cX12_qIsOn 19 = .ok (.if_icmp .ne 7, 3) := by decide +kernel
theorem dX12_qIsOn_22 : decode cX12_qIsOn 22 = .ok (.iconst 1, 1) := by decide +kernel
theorem dX12_qIsOn_23 : decode cX12_qIsOn 23 = .ok (.goto 4, 3) := by decide +kernel
theorem dX12_qIsOn_26 : decode cX12_qIsOn 26 = .ok (.iconst 0, 1) := by decide +kernel
theorem dX12_qIsOn_27 : decode cX12_qIsOn 27 = .ok (.ireturn, 1) := by decide +kernel
theorem dX12_qDrops_0 : decode cX12_qDrops 0 = .ok (.aload_n 0, 1) := by decide +kernel
theorem dX12_qDrops_1 : decode cX12_qDrops 1 = .ok (.dup, 1) := by decide +kernel
theorem dX12_qDrops_2 : decode cX12_qDrops 2 = .ok (.getfield 344, 3) := by decide +kernel
theorem dX12_qDrops_5 : decode cX12_qDrops 5 = .ok (.iconst 1, 1) := by decide +kernel
theorem dX12_qDrops_6 : decode cX12_qDrops 6 = .ok (.isub, 1) := by decide +kernel
theorem dX12_qDrops_7 : decode cX12_qDrops 7 = .ok (.putfield 344, 3) := by decide +kernel
theorem dX12_qDrops_10 : decode cX12_qDrops 10 = .ok (.aload_n 0, 1) := by decide +kernel
theorem dX12_qDrops_11 : decode cX12_qDrops 11 = .ok (.aload_n 0, 1) := by decide +kernel
theorem dX12_qDrops_12 : decode cX12_qDrops 12 = .ok (.getfield 230, 3) := by decide +kernel
theorem dX12_qDrops_15 : decode cX12_qDrops 15 = .ok (.aload_n 0, 1) := by decide +kernel
theorem dX12_qDrops_16 : decode cX12_qDrops 16 = .ok (.getfield 344, 3) := by decide +kernel
theorem dX12_qDrops_19 : decode cX12_qDrops 19 = .ok (.iaload, 1) := by decide +kernel
theorem dX12_qDrops_20 : decode cX12_qDrops 20 = .ok (.invokevirtual 604, 3) := by decide +kernel
theorem dX12_qDrops_23 : decode cX12_qDrops 23 = .ok (.return_, 1) := by decide +kernel
theorem dX12_qIsBracket_0 : decode cX12_qIsBracket 0 = .ok (.iload_n 0, 1) := by decide +kernel
theorem dX12_qIsBracket_1 : decode cX12_qIsBracket 1 = .ok (.bipush 20, 2) := by decide +kernel
theorem dX12_qIsBracket_3 : decode cX12_qIsBracket 3 = .ok (.if_icmp .lt 13, 3) := by decide +kernel
theorem dX12_qIsBracket_6 : decode cX12_qIsBracket 6 = .ok (.iload_n 0, 1) := by decide +kernel
theorem dX12_qIsBracket_7 : decode cX12_qIsBracket 7 = .ok (.bipush 24, 2) := by decide +kernel
theorem dX12_qIsBracket_9 : decode cX12_qIsBracket 9 = .ok (.if_icmp .gt 7, 3) := by decide +kernel
theorem dX12_qIsBracket_12 : decode cX12_qIsBracket 12 = .ok (.iconst 1, 1) := by decide +kernel
theorem dX12_qIsBracket_13 : decode cX12_qIsBracket 13 = .ok (.goto 4, 3) := by decide +kernel
theorem dX12_qIsBracket_16 : decode cX12_qIsBracket 16 = .ok (.iconst 0, 1) := by decide +kernel
theorem dX12_qIsBracket_17 : decode cX12_qIsBracket 17 = .ok (.ireturn, 1) := by decide +kernel
theorem dX12_qBracket_0 : decode cX12_qBracket 0 = .ok (.aload_n 0, 1) := by decide +kernel
theorem dX12_qBracket_1 : decode cX12_qBracket 1 = .ok (.getfield 344, 3) := by decide +kernel
theorem dX12_qBracket_4 : decode cX12_qBracket 4 = .ok (.iconst 1, 1) := by decide +kernel
theorem dX12_qBracket_5 : decode cX12_qBracket 5 = .ok (.isub, 1) := by decide +kernel
theorem dX12_qBracket_6 : decode cX12_qBracket 6 = .ok (.istore_n 1, 1) := by decide +kernel
theorem dX12_qBracket_7 : decode cX12_qBracket 7 = .ok (.iload_n 1, 1) := by decide +kernel
theorem dX12_qBracket_8 : decode cX12_qBracket 8 = .ok (.aload_n 0, 1) := by decide +kernel
theorem dX12_qBracket_9 : decode cX12_qBracket 9 = .ok (.getfield 350, 3) := by decide +kernel
theorem dX12_qBracket_12 : decode cX12_qBracket 12 = .ok (.if_icmp .lt 21, 3) := by decide +kernel
theorem dX12_qBracket_15 : decode cX12_qBracket 15 = .ok (.aload_n 0, 1) := by decide +kernel
theorem dX12_qBracket_16 : decode cX12_qBracket 16 = .ok (.getfield 230, 3) := by decide +kernel
theorem dX12_qBracket_19 : decode cX12_qBracket 19 = .ok (.iload_n 1, 1) := by decide +kernel
theorem dX12_qBracket_20 : decode cX12_qBracket 20 = .ok (.iaload, 1) := by decide +kernel
theorem dX12_qBracket_21 : decode cX12_qBracket 21 = .ok (.invokestatic 607, 3) := by decide +kernel
theorem dX12_qBracket_24 : decode cX12_qBracket 24 = .ok (.ifCond .ne 9, 3) := by decide +kernel
theorem dX12_qBracket_27 : decode cX12_qBracket 27 = .ok (.iinc 1 (-1), 3) := by decide +kernel
theorem dX12_qBracket_30 : decode cX12_qBracket 30 = .ok (.goto (-23), 3) := by decide +kernel
theorem dX12_qBracket_33 : decode cX12_qBracket 33 = .ok (.iload_n 1, 1) := by decide +kernel
theorem dX12_qBracket_34 : decode cX12_qBracket 34 = .ok (.aload_n 0, 1) := by decide +kernel
theorem dX12_qBracket_35 : decode cX12_qBracket 35 = .ok (.getfield 350, 3) := by decide +kernel
theorem dX12_qBracket_38 : decode cX12_qBracket 38 = .ok (.if_icmp .lt 12, 3) := by decide +kernel
theorem dX12_qBracket_41 : decode cX12_qBracket 41 = .ok (.aload_n 0, 1) := by decide +kernel
theorem dX12_qBracket_42 : decode cX12_qBracket 42 = .ok (.getfield 230, 3) := by decide +kernel
theorem dX12_qBracket_45 : decode cX12_qBracket 45 = .ok (.iload_n 1, 1) := by decide +kernel
theorem dX12_qBracket_46 : decode cX12_qBracket 46 = .ok (.iaload, 1) := by decide +kernel
theorem dX12_qBracket_47 : decode cX12_qBracket 47 = .ok (.goto 4, 3) := by decide +kernel
theorem dX12_qBracket_50 : decode cX12_qBracket 50 = .ok (.iconst (-1), 1) := by decide +kernel
theorem dX12_qBracket_51 : decode cX12_qBracket 51 = .ok (.ireturn, 1) := by decide +kernel
theorem dX12_qDropsToBracket_0 : decode cX12_qDropsToBracket 0 = .ok (.aload_n 0, 1) := by decide +kernel
theorem dX12_qDropsToBracket_1 : decode cX12_qDropsToBracket 1 = .ok (.getfield 344, 3) := by decide +kernel
theorem dX12_qDropsToBracket_4 : decode cX12_qDropsToBracket 4 = .ok (.aload_n 0, 1) := by decide +kernel
theorem dX12_qDropsToBracket_5 : decode cX12_qDropsToBracket 5 = .ok (.getfield 350, 3) := by decide +kernel
theorem dX12_qDropsToBracket_8 : decode cX12_qDropsToBracket 8 = .ok (.if_icmp .le 27, 3) := by decide +kernel
theorem dX12_qDropsToBracket_11 : decode cX12_qDropsToBracket 11 = .ok (.aload_n 0, 1) := by decide +kernel
theorem dX12_qDropsToBracket_12 : decode cX12_qDropsToBracket 12 = .ok (.getfield 230, 3) := by decide +kernel
theorem dX12_qDropsToBracket_15 : decode cX12_qDropsToBracket 15 = .ok (.aload_n 0, 1) := by decide +kernel
theorem dX12_qDropsToBracket_16 : decode cX12_qDropsToBracket 16 = .ok (.getfield 344, 3) := by decide +kernel
theorem dX12_qDropsToBracket_19 : decode cX12_qDropsToBracket 19 = .ok (.iconst 1, 1) := by decide +kernel
theorem dX12_qDropsToBracket_20 : decode cX12_qDropsToBracket 20 = .ok (.isub, 1) := by decide +kernel
theorem dX12_qDropsToBracket_21 : decode cX12_qDropsToBracket 21 = .ok (.iaload, 1) := by decide +kernel
theorem dX12_qDropsToBracket_22 : decode cX12_qDropsToBracket 22 = .ok (.invokestatic 607, 3) := by decide +kernel
theorem dX12_qDropsToBracket_25 : decode cX12_qDropsToBracket 25 = .ok (.ifCond .ne 10, 3) := by decide +kernel
theorem dX12_qDropsToBracket_28 : decode cX12_qDropsToBracket 28 = .ok (.aload_n 0, 1) := by decide +kernel
theorem dX12_qDropsToBracket_29 : decode cX12_qDropsToBracket 29 = .ok (.invokevirtual 610, 3) := by decide +kernel
theorem dX12_qDropsToBracket_32 : decode cX12_qDropsToBracket 32 = .ok (.goto (-32), 3) := by decide +kernel
theorem dX12_qDropsToBracket_35 : decode cX12_qDropsToBracket 35 = .ok (.return_, 1) := by decide +kernel
theorem dX12_qWordHere_0 : decode cX12_qWordHere 0 = .ok (.aload_n 0, 1) := by decide +kernel
theorem dX12_qWordHere_1 : decode cX12_qWordHere 1 = .ok (.aload_n 0, 1) := by decide +kernel
theorem dX12_qWordHere_2 : decode cX12_qWordHere 2 = .ok (.getfield 197, 3) := by decide +kernel
theorem dX12_qWordHere_5 : decode cX12_qWordHere 5 = .ok (.invokevirtual 265, 3) := by decide +kernel
theorem dX12_qWordHere_8 : decode cX12_qWordHere 8 = .ok (.ifCond .eq 5, 3) := by decide +kernel
theorem dX12_qWordHere_11 : decode cX12_qWordHere 11 = .ok (.iconst 0, 1) := by decide +kernel
theorem dX12_qWordHere_12 : decode cX12_qWordHere 12 = .ok (.ireturn, 1) := by decide +kernel
theorem dX12_qWordHere_13 : decode cX12_qWordHere 13 = .ok (.aload_n 0, 1) := by decide +kernel
theorem dX12_qWordHere_14 : decode cX12_qWordHere 14 = .ok (.aload_n 0, 1) := by decide +kernel
theorem dX12_qWordHere_15 : decode cX12_qWordHere 15 = .ok (.getfield 200, 3) := by decide +kernel
theorem dX12_qWordHere_18 : decode cX12_qWordHere 18 = .ok (.invokevirtual 265, 3) := by decide +kernel
theorem dX12_qWordHere_21 : decode cX12_qWordHere 21 = .ok (.ifCond .eq 5, 3) := by decide +kernel
theorem dX12_qWordHere_24 : decode cX12_qWordHere 24 = .ok (.iconst 1, 1) := by decide +kernel
theorem dX12_qWordHere_25 : decode cX12_qWordHere 25 = .ok (.ireturn, 1) := by decide +kernel
theorem dX12_qWordHere_26 : decode cX12_qWordHere 26 = .ok (.aload_n 0, 1) := by decide +kernel
theorem dX12_qWordHere_27 : decode cX12_qWordHere 27 = .ok (.aload_n 0, 1) := by decide +kernel
theorem dX12_qWordHere_28 : decode cX12_qWordHere 28 = .ok (.getfield 203, 3) := by decide +kernel
theorem dX12_qWordHere_31 : decode cX12_qWordHere 31 = .ok (.invokevirtual 265, 3) := by decide +kernel
theorem dX12_qWordHere_34 : decode cX12_qWordHere 34 = .ok (.ifCond .eq 5, 3) := by decide +kernel
theorem dX12_qWordHere_37 : decode cX12_qWordHere 37 = .ok (.iconst 2, 1) := by decide +kernel
theorem dX12_qWordHere_38 : decode cX12_qWordHere 38 = .ok (.ireturn, 1) := by decide +kernel
theorem dX12_qWordHere_39 : decode cX12_qWordHere 39 = .ok (.aload_n 0, 1) := by decide +kernel
theorem dX12_qWordHere_40 : decode cX12_qWordHere 40 = .ok (.aload_n 0, 1) := by decide +kernel
theorem dX12_qWordHere_41 : decode cX12_qWordHere 41 = .ok (.getfield 206, 3) := by decide +kernel
theorem dX12_qWordHere_44 : decode cX12_qWordHere 44 = .ok (.invokevirtual 265, 3) := by decide +kernel
theorem dX12_qWordHere_47 : decode cX12_qWordHere 47 = .ok (.ifCond .eq 5, 3) := by decide +kernel
theorem dX12_qWordHere_50 : decode cX12_qWordHere 50 = .ok (.iconst 3, 1) := by decide +kernel
theorem dX12_qWordHere_51 : decode cX12_qWordHere 51 = .ok (.ireturn, 1) := by decide +kernel
theorem dX12_qWordHere_52 : decode cX12_qWordHere 52 = .ok (.aload_n 0, 1) := by decide +kernel
theorem dX12_qWordHere_53 : decode cX12_qWordHere 53 = .ok (.aload_n 0, 1) := by decide +kernel
theorem dX12_qWordHere_54 : decode cX12_qWordHere 54 = .ok (.getfield 209, 3) := by decide +kernel
theorem dX12_qWordHere_57 : decode cX12_qWordHere 57 = .ok (.invokevirtual 265, 3) := by decide +kernel
theorem dX12_qWordHere_60 : decode cX12_qWordHere 60 = .ok (.ifCond .eq 5, 3) := by decide +kernel
theorem dX12_qWordHere_63 : decode cX12_qWordHere 63 = .ok (.iconst 4, 1) := by decide +kernel
theorem dX12_qWordHere_64 : decode cX12_qWordHere 64 = .ok (.ireturn, 1) := by decide +kernel
theorem dX12_qWordHere_65 : decode cX12_qWordHere 65 = .ok (.aload_n 0, 1) := by decide +kernel
theorem dX12_qWordHere_66 : decode cX12_qWordHere 66 = .ok (.aload_n 0, 1) := by decide +kernel
theorem dX12_qWordHere_67 : decode cX12_qWordHere 67 = .ok (.getfield 212, 3) := by decide +kernel
theorem dX12_qWordHere_70 : decode cX12_qWordHere 70 = .ok (.invokevirtual 265, 3) := by decide +kernel
theorem dX12_qWordHere_73 : decode cX12_qWordHere 73 = .ok (.ifCond .eq 5, 3) := by decide +kernel
theorem dX12_qWordHere_76 : decode cX12_qWordHere 76 = .ok (.iconst 5, 1) := by decide +kernel
theorem dX12_qWordHere_77 : decode cX12_qWordHere 77 = .ok (.ireturn, 1) := by decide +kernel
theorem dX12_qWordHere_78 : decode cX12_qWordHere 78 = .ok (.aload_n 0, 1) := by decide +kernel
theorem dX12_qWordHere_79 : decode cX12_qWordHere 79 = .ok (.aload_n 0, 1) := by decide +kernel
theorem dX12_qWordHere_80 : decode cX12_qWordHere 80 = .ok (.getfield 215, 3) := by decide +kernel
theorem dX12_qWordHere_83 : decode cX12_qWordHere 83 = .ok (.invokevirtual 265, 3) := by decide +kernel
theorem dX12_qWordHere_86 : decode cX12_qWordHere 86 = .ok (.ifCond .eq 6, 3) := by decide +kernel
theorem dX12_qWordHere_89 : decode cX12_qWordHere 89 = .ok (.bipush 6, 2) := by decide +kernel
theorem dX12_qWordHere_91 : decode cX12_qWordHere 91 = .ok (.ireturn, 1) := by decide +kernel
theorem dX12_qWordHere_92 : decode cX12_qWordHere 92 = .ok (.aload_n 0, 1) := by decide +kernel
theorem dX12_qWordHere_93 : decode cX12_qWordHere 93 = .ok (.aload_n 0, 1) := by decide +kernel
theorem dX12_qWordHere_94 : decode cX12_qWordHere 94 = .ok (.getfield 218, 3) := by decide +kernel
theorem dX12_qWordHere_97 : decode cX12_qWordHere 97 = .ok (.invokevirtual 265, 3) := by decide +kernel
theorem dX12_qWordHere_100 : decode cX12_qWordHere 100 = .ok (.ifCond .eq 6, 3) := by decide +kernel
theorem dX12_qWordHere_103 : decode cX12_qWordHere 103 = .ok (.bipush 7, 2) := by decide +kernel
theorem dX12_qWordHere_105 : decode cX12_qWordHere 105 = .ok (.ireturn, 1) := by decide +kernel
theorem dX12_qWordHere_106 : decode cX12_qWordHere 106 = .ok (.aload_n 0, 1) := by decide +kernel
theorem dX12_qWordHere_107 : decode cX12_qWordHere 107 = .ok (.aload_n 0, 1) := by decide +kernel
theorem dX12_qWordHere_108 : decode cX12_qWordHere 108 = .ok (.getfield 221, 3) := by decide +kernel
theorem dX12_qWordHere_111 : decode cX12_qWordHere 111 = .ok (.invokevirtual 265, 3) := by decide +kernel
theorem dX12_qWordHere_114 : decode cX12_qWordHere 114 = .ok (.ifCond .eq 6, 3) := by decide +kernel
theorem dX12_qWordHere_117 : decode cX12_qWordHere 117 = .ok (.bipush 8, 2) := by decide +kernel
theorem dX12_qWordHere_119 : decode cX12_qWordHere 119 = .ok (.ireturn, 1) := by decide +kernel
theorem dX12_qWordHere_120 : decode cX12_qWordHere 120 = .ok (.aload_n 0, 1) := by decide +kernel
theorem dX12_qWordHere_121 : decode cX12_qWordHere 121 = .ok (.aload_n 0, 1) := by decide +kernel
theorem dX12_qWordHere_122 : decode cX12_qWordHere 122 = .ok (.getfield 224, 3) := by decide +kernel
theorem dX12_qWordHere_125 : decode cX12_qWordHere 125 = .ok (.invokevirtual 265, 3) := by decide +kernel
theorem dX12_qWordHere_128 : decode cX12_qWordHere 128 = .ok (.ifCond .eq 6, 3) := by decide +kernel
theorem dX12_qWordHere_131 : decode cX12_qWordHere 131 = .ok (.bipush 9, 2) := by decide +kernel
theorem dX12_qWordHere_133 : decode cX12_qWordHere 133 = .ok (.ireturn, 1) := by decide +kernel
theorem dX12_qWordHere_134 : decode cX12_qWordHere 134 = .ok (.iconst (-1), 1) := by decide +kernel
theorem dX12_qWordHere_135 : decode cX12_qWordHere 135 = .ok (.ireturn, 1) := by decide +kernel
theorem dX12_qWordOf_0 : decode cX12_qWordOf 0 = .ok (.aload_n 0, 1) := by decide +kernel
theorem dX12_qWordOf_1 : decode cX12_qWordOf 1 = .ok (.invokevirtual 613, 3) := by decide +kernel
theorem dX12_qWordOf_4 : decode cX12_qWordOf 4 = .ok (.istore_n 3, 1) := by decide +kernel
theorem dX12_qWordOf_5 : decode cX12_qWordOf 5 = .ok (.iload_n 3, 1) := by decide +kernel
theorem dX12_qWordOf_6 : decode cX12_qWordOf 6 = .ok (.iload_n 1, 1) := by decide +kernel
theorem dX12_qWordOf_7 : decode cX12_qWordOf 7 = .ok (.if_icmp .lt 20, 3) := by decide +kernel
theorem dX12_qWordOf_10 : decode cX12_qWordOf 10 = .ok (.iload_n 3, 1) := by decide +kernel
theorem dX12_qWordOf_11 : decode cX12_qWordOf 11 = .ok (.iload_n 2, 1) := by decide +kernel
theorem dX12_qWordOf_12 : decode cX12_qWordOf 12 = .ok (.if_icmp .ge 15, 3) := by decide +kernel
theorem dX12_qWordOf_15 : decode cX12_qWordOf 15 = .ok (.aload_n 0, 1) := by decide +kernel
theorem dX12_qWordOf_16 : decode cX12_qWordOf 16 = .ok (.iload_n 3, 1) := by decide +kernel
theorem dX12_qWordOf_17 : decode cX12_qWordOf 17 = .ok (.invokevirtual 616, 3) := by decide +kernel
theorem dX12_qWordOf_20 : decode cX12_qWordOf 20 = .ok (.ifCond .eq 7, 3) := by decide +kernel
theorem dX12_qWordOf_23 : decode cX12_qWordOf 23 = .ok (.iload_n 3, 1) := by decide +kernel
theorem dX12_qWordOf_24 : decode cX12_qWordOf 24 = .ok (.goto 4, 3) := by decide +kernel
theorem dX12_qWordOf_27 : decode cX12_qWordOf 27 = .ok (.iconst (-1), 1) := by decide +kernel
theorem dX12_qWordOf_28 : decode cX12_qWordOf 28 = .ok (.ireturn, 1) := by decide +kernel
theorem dX12_qAsksWord_0 : decode cX12_qAsksWord 0 = .ok (.iload_n 1, 1) := by decide +kernel
theorem dX12_qAsksWord_1 : decode cX12_qAsksWord 1 = .ok (.tableswitch 150 0 8 #[51, 62, 73, 84, 95, 106, 117, 128, 139], 51) := by decide +kernel
theorem dX12_qAsksWord_52 : decode cX12_qAsksWord 52 = .ok (.aload_n 0, 1) := by decide +kernel
theorem dX12_qAsksWord_53 : decode cX12_qAsksWord 53 = .ok (.aload_n 0, 1) := by decide +kernel
theorem dX12_qAsksWord_54 : decode cX12_qAsksWord 54 = .ok (.getfield 197, 3) := by decide +kernel
theorem dX12_qAsksWord_57 : decode cX12_qAsksWord 57 = .ok (.invokevirtual 319, 3) := by decide +kernel
theorem dX12_qAsksWord_60 : decode cX12_qAsksWord 60 = .ok (.goto 99, 3) := by decide +kernel
theorem dX12_qAsksWord_63 : decode cX12_qAsksWord 63 = .ok (.aload_n 0, 1) := by decide +kernel
theorem dX12_qAsksWord_64 : decode cX12_qAsksWord 64 = .ok (.aload_n 0, 1) := by decide +kernel
theorem dX12_qAsksWord_65 : decode cX12_qAsksWord 65 = .ok (.getfield 200, 3) := by decide +kernel
theorem dX12_qAsksWord_68 : decode cX12_qAsksWord 68 = .ok (.invokevirtual 319, 3) := by decide +kernel
theorem dX12_qAsksWord_71 : decode cX12_qAsksWord 71 = .ok (.goto 88, 3) := by decide +kernel
theorem dX12_qAsksWord_74 : decode cX12_qAsksWord 74 = .ok (.aload_n 0, 1) := by decide +kernel
theorem dX12_qAsksWord_75 : decode cX12_qAsksWord 75 = .ok (.aload_n 0, 1) := by decide +kernel
theorem dX12_qAsksWord_76 : decode cX12_qAsksWord 76 = .ok (.getfield 203, 3) := by decide +kernel
theorem dX12_qAsksWord_79 : decode cX12_qAsksWord 79 = .ok (.invokevirtual 319, 3) := by decide +kernel
theorem dX12_qAsksWord_82 : decode cX12_qAsksWord 82 = .ok (.goto 77, 3) := by decide +kernel
theorem dX12_qAsksWord_85 : decode cX12_qAsksWord 85 = .ok (.aload_n 0, 1) := by decide +kernel
theorem dX12_qAsksWord_86 : decode cX12_qAsksWord 86 = .ok (.aload_n 0, 1) := by decide +kernel
theorem dX12_qAsksWord_87 : decode cX12_qAsksWord 87 = .ok (.getfield 206, 3) := by decide +kernel
theorem dX12_qAsksWord_90 : decode cX12_qAsksWord 90 = .ok (.invokevirtual 319, 3) := by decide +kernel
theorem dX12_qAsksWord_93 : decode cX12_qAsksWord 93 = .ok (.goto 66, 3) := by decide +kernel
theorem dX12_qAsksWord_96 : decode cX12_qAsksWord 96 = .ok (.aload_n 0, 1) := by decide +kernel
theorem dX12_qAsksWord_97 : decode cX12_qAsksWord 97 = .ok (.aload_n 0, 1) := by decide +kernel
theorem dX12_qAsksWord_98 : decode cX12_qAsksWord 98 = .ok (.getfield 209, 3) := by decide +kernel
theorem dX12_qAsksWord_101 : decode cX12_qAsksWord 101 = .ok (.invokevirtual 319, 3) := by decide +kernel
theorem dX12_qAsksWord_104 : decode cX12_qAsksWord 104 = .ok (.goto 55, 3) := by decide +kernel
theorem dX12_qAsksWord_107 : decode cX12_qAsksWord 107 = .ok (.aload_n 0, 1) := by decide +kernel
theorem dX12_qAsksWord_108 : decode cX12_qAsksWord 108 = .ok (.aload_n 0, 1) := by decide +kernel
theorem dX12_qAsksWord_109 : decode cX12_qAsksWord 109 = .ok (.getfield 212, 3) := by decide +kernel
theorem dX12_qAsksWord_112 : decode cX12_qAsksWord 112 = .ok (.invokevirtual 319, 3) := by decide +kernel
theorem dX12_qAsksWord_115 : decode cX12_qAsksWord 115 = .ok (.goto 44, 3) := by decide +kernel
theorem dX12_qAsksWord_118 : decode cX12_qAsksWord 118 = .ok (.aload_n 0, 1) := by decide +kernel
theorem dX12_qAsksWord_119 : decode cX12_qAsksWord 119 = .ok (.aload_n 0, 1) := by decide +kernel
theorem dX12_qAsksWord_120 : decode cX12_qAsksWord 120 = .ok (.getfield 215, 3) := by decide +kernel
theorem dX12_qAsksWord_123 : decode cX12_qAsksWord 123 = .ok (.invokevirtual 319, 3) := by decide +kernel
theorem dX12_qAsksWord_126 : decode cX12_qAsksWord 126 = .ok (.goto 33, 3) := by decide +kernel
theorem dX12_qAsksWord_129 : decode cX12_qAsksWord 129 = .ok (.aload_n 0, 1) := by decide +kernel
theorem dX12_qAsksWord_130 : decode cX12_qAsksWord 130 = .ok (.aload_n 0, 1) := by decide +kernel
theorem dX12_qAsksWord_131 : decode cX12_qAsksWord 131 = .ok (.getfield 218, 3) := by decide +kernel
theorem dX12_qAsksWord_134 : decode cX12_qAsksWord 134 = .ok (.invokevirtual 319, 3) := by decide +kernel
theorem dX12_qAsksWord_137 : decode cX12_qAsksWord 137 = .ok (.goto 22, 3) := by decide +kernel
theorem dX12_qAsksWord_140 : decode cX12_qAsksWord 140 = .ok (.aload_n 0, 1) := by decide +kernel
theorem dX12_qAsksWord_141 : decode cX12_qAsksWord 141 = .ok (.aload_n 0, 1) := by decide +kernel
theorem dX12_qAsksWord_142 : decode cX12_qAsksWord 142 = .ok (.getfield 221, 3) := by decide +kernel
theorem dX12_qAsksWord_145 : decode cX12_qAsksWord 145 = .ok (.invokevirtual 319, 3) := by decide +kernel
theorem dX12_qAsksWord_148 : decode cX12_qAsksWord 148 = .ok (.goto 11, 3) := by decide +kernel
theorem dX12_qAsksWord_151 : decode cX12_qAsksWord 151 = .ok (.aload_n 0, 1) := by decide +kernel
theorem dX12_qAsksWord_152 : decode cX12_qAsksWord 152 = .ok (.aload_n 0, 1) := by decide +kernel
theorem dX12_qAsksWord_153 : decode cX12_qAsksWord 153 = .ok (.getfield 224, 3) := by decide +kernel
theorem dX12_qAsksWord_156 : decode cX12_qAsksWord 156 = .ok (.invokevirtual 319, 3) := by decide +kernel
theorem dX12_qAsksWord_159 : decode cX12_qAsksWord 159 = .ok (.return_, 1) := by decide +kernel
theorem dX12_qEndsPart_0 : decode cX12_qEndsPart 0 = .ok (.aload_n 0, 1) := by decide +kernel
theorem dX12_qEndsPart_1 : decode cX12_qEndsPart 1 = .ok (.getfield 242, 3) := by decide +kernel
theorem dX12_qEndsPart_4 : decode cX12_qEndsPart 4 = .ok (.ifCond .ne 47, 3) := by decide +kernel
theorem dX12_qEndsPart_7 : decode cX12_qEndsPart 7 = .ok (.aload_n 0, 1) := by decide +kernel
theorem dX12_qEndsPart_8 : decode cX12_qEndsPart 8 = .ok (.getfield 344, 3) := by decide +kernel
theorem dX12_qEndsPart_11 : decode cX12_qEndsPart 11 = .ok (.aload_n 0, 1) := by decide +kernel
theorem dX12_qEndsPart_12 : decode cX12_qEndsPart 12 = .ok (.getfield 350, 3) := by decide +kernel
theorem dX12_qEndsPart_15 : decode cX12_qEndsPart 15 = .ok (.if_icmp .le 36, 3) := by decide +kernel
theorem dX12_qEndsPart_18 : decode cX12_qEndsPart 18 = .ok (.aload_n 0, 1) := by decide +kernel
theorem dX12_qEndsPart_19 : decode cX12_qEndsPart 19 = .ok (.getfield 230, 3) := by decide +kernel
theorem dX12_qEndsPart_22 : decode cX12_qEndsPart 22 = .ok (.aload_n 0, 1) := by decide +kernel
theorem dX12_qEndsPart_23 : decode cX12_qEndsPart 23 = .ok (.getfield 344, 3) := by decide +kernel
theorem dX12_qEndsPart_26 : decode cX12_qEndsPart 26 = .ok (.iconst 1, 1) := by decide +kernel
theorem dX12_qEndsPart_27 : decode cX12_qEndsPart 27 = .ok (.isub, 1) := by decide +kernel
theorem dX12_qEndsPart_28 : decode cX12_qEndsPart 28 = .ok (.iaload, 1) := by decide +kernel
theorem dX12_qEndsPart_29 : decode cX12_qEndsPart 29 = .ok (.bipush 60, 2) := by decide +kernel
theorem dX12_qEndsPart_31 : decode cX12_qEndsPart 31 = .ok (.if_icmp .lt 20, 3) := by decide +kernel
theorem dX12_qEndsPart_34 : decode cX12_qEndsPart 34 = .ok (.aload_n 0, 1) := by decide +kernel
theorem dX12_qEndsPart_35 : decode cX12_qEndsPart 35 = .ok (.dup, 1) := by decide +kernel
theorem dX12_qEndsPart_36 : decode cX12_qEndsPart 36 = .ok (.getfield 347, 3) := by decide +kernel
theorem dX12_qEndsPart_39 : decode cX12_qEndsPart 39 = .ok (.iconst 1, 1) := by decide +kernel
theorem dX12_qEndsPart_40 : decode cX12_qEndsPart 40 = .ok (.isub, 1) := by decide +kernel
theorem dX12_qEndsPart_41 : decode cX12_qEndsPart 41 = .ok (.putfield 347, 3) := by decide +kernel
theorem dX12_qEndsPart_44 : decode cX12_qEndsPart 44 = .ok (.aload_n 0, 1) := by decide +kernel
theorem dX12_qEndsPart_45 : decode cX12_qEndsPart 45 = .ok (.invokevirtual 610, 3) := by decide +kernel
theorem dX12_qEndsPart_48 : decode cX12_qEndsPart 48 = .ok (.goto (-48), 3) := by decide +kernel
theorem dX12_qEndsPart_51 : decode cX12_qEndsPart 51 = .ok (.return_, 1) := by decide +kernel
theorem dX12_qPartTold_0 : decode cX12_qPartTold 0 = .ok (.iconst 1, 1) := by decide +kernel
theorem dX12_qPartTold_1 : decode cX12_qPartTold 1 = .ok (.istore_n 1, 1) := by decide +kernel
theorem dX12_qPartTold_2 : decode cX12_qPartTold 2 = .ok (.iload_n 1, 1) := by decide +kernel
theorem dX12_qPartTold_3 : decode cX12_qPartTold 3 = .ok (.ifCond .eq 183, 3) := by decide +kernel
theorem dX12_qPartTold_6 : decode cX12_qPartTold 6 = .ok (.aload_n 0, 1) := by decide +kernel
theorem dX12_qPartTold_7 : decode cX12_qPartTold 7 = .ok (.getfield 242, 3) := by decide +kernel
theorem dX12_qPartTold_10 : decode cX12_qPartTold 10 = .ok (.ifCond .ne 176, 3) := by decide +kernel
theorem dX12_qPartTold_13 : decode cX12_qPartTold 13 = .ok (.aload_n 0, 1) := by decide +kernel
theorem dX12_qPartTold_14 : decode cX12_qPartTold 14 = .ok (.invokevirtual 254, 3) := by decide +kernel
theorem dX12_qPartTold_17 : decode cX12_qPartTold 17 = .ok (.istore_n 2, 1) := by decide +kernel
theorem dX12_qPartTold_18 : decode cX12_qPartTold 18 = .ok (.aload_n 0, 1) := by decide +kernel
theorem dX12_qPartTold_19 : decode cX12_qPartTold 19 = .ok (.bipush 7, 2) := by decide +kernel
theorem dX12_qPartTold_21 : decode cX12_qPartTold 21 = .ok (.bipush 10, 2) := by decide +kernel
theorem dX12_qPartTold_23 : decode cX12_qPartTold 23 = .ok (.invokevirtual 619, 3) := by decide +kernel
theorem dX12_qPartTold_26 : decode cX12_qPartTold 26 = .ok (.istore_n 3, 1) := by decide +kernel
theorem dX12_qPartTold_27 : decode cX12_qPartTold 27 = .ok (.iload_n 2, 1) := by decide +kernel
theorem dX12_qPartTold_28 : decode cX12_qPartTold 28 = .ok (.bipush 40, 2) := by decide +kernel
theorem dX12_qPartTold_30 : decode cX12_qPartTold 30 = .ok (.if_icmp .ne 26, 3) := by decide +kernel
theorem dX12_qPartTold_33 : decode cX12_qPartTold 33 = .ok (.aload_n 0, 1) := by decide +kernel
theorem dX12_qPartTold_34 : decode cX12_qPartTold 34 = .ok (.bipush 20, 2) := by decide +kernel
theorem dX12_qPartTold_36 : decode cX12_qPartTold 36 = .ok (.aload_n 0, 1) := by decide +kernel
theorem dX12_qPartTold_37 : decode cX12_qPartTold 37 = .ok (.getfield 248, 3) := by decide +kernel
theorem dX12_qPartTold_40 : decode cX12_qPartTold 40 = .ok (.invokevirtual 622, 3) := by decide +kernel
theorem dX12_qPartTold_43 : decode cX12_qPartTold 43 = .ok (.aload_n 0, 1) := by decide +kernel
theorem dX12_qPartTold_44 : decode cX12_qPartTold 44 = .ok (.dup, 1) := by decide +kernel
theorem dX12_qPartTold_45 : decode cX12_qPartTold 45 = .ok (.getfield 248, 3) := by decide +kernel
theorem dX12_qPartTold_48 : decode cX12_qPartTold 48 = .ok (.iconst 1, 1) := by decide +kernel
theorem dX12_qPartTold_49 : decode cX12_qPartTold 49 = .ok (.iadd, 1) := by decide +kernel
theorem dX12_qPartTold_50 : decode cX12_qPartTold 50 = .ok (.putfield 248, 3) := by decide +kernel
theorem dX12_qPartTold_53 : decode cX12_qPartTold 53 = .ok (.goto 130, 3) := by decide +kernel
theorem dX12_qPartTold_56 : decode cX12_qPartTold 56 = .ok (.aload_n 0, 1) := by decide +kernel
theorem dX12_qPartTold_57 : decode cX12_qPartTold 57 = .ok (.aload_n 0, 1) := by decide +kernel
theorem dX12_qPartTold_58 : decode cX12_qPartTold 58 = .ok (.getfield 191, 3) := by decide +kernel
theorem dX12_qPartTold_61 : decode cX12_qPartTold 61 = .ok (.invokevirtual 265, 3) := by decide +kernel
theorem dX12_qPartTold_64 : decode cX12_qPartTold 64 = .ok (.ifCond .ne 14, 3) := by decide +kernel
theorem dX12_qPartTold_67 : decode cX12_qPartTold 67 = .ok (.aload_n 0, 1) := by decide +kernel
theorem dX12_qPartTold_68 : decode cX12_qPartTold 68 = .ok (.aload_n 0, 1) := by decide +kernel
theorem dX12_qPartTold_69 : decode cX12_qPartTold 69 = .ok (.getfield 194, 3) := by decide +kernel
theorem dX12_qPartTold_72 : decode cX12_qPartTold 72 = .ok (.invokevirtual 265, 3) := by decide +kernel
theorem dX12_qPartTold_75 : decode cX12_qPartTold 75 = .ok (.ifCond .eq 78, 3) := by decide +kernel
theorem dX12_qPartTold_78 : decode cX12_qPartTold 78 = .ok (.aload_n 0, 1) := by decide +kernel
theorem dX12_qPartTold_79 : decode cX12_qPartTold 79 = .ok (.aload_n 0, 1) := by decide +kernel
theorem dX12_qPartTold_80 : decode cX12_qPartTold 80 = .ok (.getfield 191, 3) := by decide +kernel
theorem dX12_qPartTold_83 : decode cX12_qPartTold 83 = .ok (.invokevirtual 269, 3) := by decide +kernel
theorem dX12_qPartTold_86 : decode cX12_qPartTold 86 = .ok (.istore 4, 2) := by decide +kernel
theorem dX12_qPartTold_88 : decode cX12_qPartTold 88 = .ok (.iload 4, 2) := by decide +kernel
theorem dX12_qPartTold_90 : decode cX12_qPartTold 90 = .ok (.ifCond .ne 11, 3) := by decide +kernel
theorem dX12_qPartTold_93 : decode cX12_qPartTold 93 = .ok (.aload_n 0, 1) := by decide +kernel
theorem dX12_qPartTold_94 : decode cX12_qPartTold 94 = .ok (.aload_n 0, 1) := by decide +kernel
theorem dX12_qPartTold_95 : decode cX12_qPartTold 95 = .ok (.getfield 194, 3) := by decide +kernel
theorem dX12_qPartTold_98 : decode cX12_qPartTold 98 = .ok (.invokevirtual 319, 3) := by decide +kernel
theorem dX12_qPartTold_101 : decode cX12_qPartTold 101 = .ok (.aload_n 0, 1) := by decide +kernel
theorem dX12_qPartTold_102 : decode cX12_qPartTold 102 = .ok (.invokevirtual 254, 3) := by decide +kernel
theorem dX12_qPartTold_105 : decode cX12_qPartTold 105 = .ok (.bipush 40, 2) := by decide +kernel
theorem dX12_qPartTold_107 : decode cX12_qPartTold 107 = .ok (.if_icmp .ne 10, 3) := by decide +kernel
theorem dX12_qPartTold_110 : decode cX12_qPartTold 110 = .ok (.aload_n 0, 1) := by decide +kernel
theorem dX12_qPartTold_111 : decode cX12_qPartTold 111 = .ok (.getfield 248, 3) := by decide +kernel
theorem dX12_qPartTold_114 : decode cX12_qPartTold 114 = .ok (.goto 4, 3) := by decide +kernel
theorem dX12_qPartTold_117 : decode cX12_qPartTold 117 = .ok (.iconst (-1), 1) := by decide +kernel
theorem dX12_qPartTold_118 : decode cX12_qPartTold 118 = .ok (.istore 5, 2) := by decide +kernel
theorem dX12_qPartTold_120 : decode cX12_qPartTold 120 = .ok (.iload 5, 2) := by decide +kernel
theorem dX12_qPartTold_122 : decode cX12_qPartTold 122 = .ok (.iconst (-1), 1) := by decide +kernel
theorem dX12_qPartTold_123 : decode cX12_qPartTold 123 = .ok (.if_icmp .eq 21, 3) := by decide +kernel
theorem dX12_qPartTold_126 : decode cX12_qPartTold 126 = .ok (.aload_n 0, 1) := by decide +kernel
theorem dX12_qPartTold_127 : decode cX12_qPartTold 127 = .ok (.iload 4, 2) := by decide +kernel
theorem dX12_qPartTold_129 : decode cX12_qPartTold 129 = .ok (.ifCond .eq 8, 3) := by decide +kernel
theorem dX12_qPartTold_132 : decode cX12_qPartTold 132 = .ok (.bipush 21, 2) := by decide +kernel
theorem dX12_qPartTold_134 : decode cX12_qPartTold 134 = .ok (.goto 5, 3) := by decide +kernel
theorem dX12_qPartTold_137 : decode cX12_qPartTold 137 = .ok (.bipush 22, 2) := by decide +kernel
theorem dX12_qPartTold_139 : decode cX12_qPartTold 139 = .ok (.iload 5, 2) := by decide +kernel
theorem dX12_qPartTold_141 : decode cX12_qPartTold 141 = .ok (.invokevirtual 622, 3) := by decide +kernel
theorem dX12_qPartTold_144 : decode cX12_qPartTold 144 = .ok (.aload_n 0, 1) := by decide +kernel
theorem dX12_qPartTold_145 : decode cX12_qPartTold 145 = .ok (.bipush 40, 2) := by decide +kernel
theorem dX12_qPartTold_147 : decode cX12_qPartTold 147 = .ok (.invokevirtual 386, 3) := by decide +kernel
theorem dX12_qPartTold_150 : decode cX12_qPartTold 150 = .ok (.goto 33, 3) := by decide +kernel
theorem dX12_qPartTold_153 : decode cX12_qPartTold 153 = .ok (.iload_n 3, 1) := by decide +kernel
theorem dX12_qPartTold_154 : decode cX12_qPartTold 154 = .ok (.iconst (-1), 1) := by decide +kernel
theorem dX12_qPartTold_155 : decode cX12_qPartTold 155 = .ok (.if_icmp .eq 26, 3) := by decide +kernel
theorem dX12_qPartTold_158 : decode cX12_qPartTold 158 = .ok (.aload_n 0, 1) := by decide +kernel
theorem dX12_qPartTold_159 : decode cX12_qPartTold 159 = .ok (.bipush 60, 2) := by decide +kernel
theorem dX12_qPartTold_161 : decode cX12_qPartTold 161 = .ok (.iload_n 3, 1) := by decide +kernel
theorem dX12_qPartTold_162 : decode cX12_qPartTold 162 = .ok (.iadd, 1) := by decide +kernel
theorem dX12_qPartTold_163 : decode cX12_qPartTold 163 = .ok (.bipush 7, 2) := by decide +kernel
theorem dX12_qPartTold_165 : decode cX12_qPartTold 165 = .ok (.isub, 1) := by decide +kernel
theorem dX12_qPartTold_166 : decode cX12_qPartTold 166 = .ok (.aload_n 0, 1) := by decide +kernel
theorem dX12_qPartTold_167 : decode cX12_qPartTold 167 = .ok (.getfield 248, 3) := by decide +kernel
theorem dX12_qPartTold_170 : decode cX12_qPartTold 170 = .ok (.invokevirtual 622, 3) := by decide +kernel
theorem dX12_qPartTold_173 : decode cX12_qPartTold 173 = .ok (.aload_n 0, 1) := by decide +kernel
theorem dX12_qPartTold_174 : decode cX12_qPartTold 174 = .ok (.iload_n 3, 1) := by decide +kernel
theorem dX12_qPartTold_175 : decode cX12_qPartTold 175 = .ok (.invokevirtual 625, 3) := by decide +kernel
theorem dX12_qPartTold_178 : decode cX12_qPartTold 178 = .ok (.goto 5, 3) := by decide +kernel
theorem dX12_qPartTold_181 : decode cX12_qPartTold 181 = .ok (.iconst 0, 1) := by decide +kernel
theorem dX12_qPartTold_182 : decode cX12_qPartTold 182 = .ok (.istore_n 1, 1) := by decide +kernel
theorem dX12_qPartTold_183 : decode cX12_qPartTold 183 = .ok (.goto (-181), 3) := by decide +kernel
theorem dX12_qPartTold_186 : decode cX12_qPartTold 186 = .ok (.aload_n 0, 1) := by decide +kernel
theorem dX12_qPartTold_187 : decode cX12_qPartTold 187 = .ok (.getfield 242, 3) := by decide +kernel
theorem dX12_qPartTold_190 : decode cX12_qPartTold 190 = .ok (.ifCond .eq 4, 3) := by decide +kernel
theorem dX12_qPartTold_193 : decode cX12_qPartTold 193 = .ok (.return_, 1) := by decide +kernel
theorem dX12_qPartTold_194 : decode cX12_qPartTold 194 = .ok (.aload_n 0, 1) := by decide +kernel
theorem dX12_qPartTold_195 : decode cX12_qPartTold 195 = .ok (.iconst 0, 1) := by decide +kernel
theorem dX12_qPartTold_196 : decode cX12_qPartTold 196 = .ok (.bipush 7, 2) := by decide +kernel
theorem dX12_qPartTold_198 : decode cX12_qPartTold 198 = .ok (.invokevirtual 619, 3) := by decide +kernel
theorem dX12_qPartTold_201 : decode cX12_qPartTold 201 = .ok (.istore_n 2, 1) := by decide +kernel
theorem dX12_qPartTold_202 : decode cX12_qPartTold 202 = .ok (.iload_n 2, 1) := by decide +kernel
theorem dX12_qPartTold_203 : decode cX12_qPartTold 203 = .ok (.iconst (-1), 1) := by decide +kernel
theorem dX12_qPartTold_204 : decode cX12_qPartTold 204 = .ok (.if_icmp .eq 8, 3) := by decide +kernel
theorem dX12_qPartTold_207 : decode cX12_qPartTold 207 = .ok (.aload_n 0, 1) := by decide +kernel
theorem dX12_qPartTold_208 : decode cX12_qPartTold 208 = .ok (.iload_n 2, 1) := by decide +kernel
theorem dX12_qPartTold_209 : decode cX12_qPartTold 209 = .ok (.invokevirtual 625, 3) := by decide +kernel
theorem dX12_qPartTold_212 : decode cX12_qPartTold 212 = .ok (.aload_n 0, 1) := by decide +kernel
theorem dX12_qPartTold_213 : decode cX12_qPartTold 213 = .ok (.iload_n 2, 1) := by decide +kernel
theorem dX12_qPartTold_214 : decode cX12_qPartTold 214 = .ok (.iconst (-1), 1) := by decide +kernel
theorem dX12_qPartTold_215 : decode cX12_qPartTold 215 = .ok (.if_icmp .eq 10, 3) := by decide +kernel
theorem dX12_qPartTold_218 : decode cX12_qPartTold 218 = .ok (.bipush 40, 2) := by decide +kernel
theorem dX12_qPartTold_220 : decode cX12_qPartTold 220 = .ok (.iload_n 2, 1) := by decide +kernel
theorem dX12_qPartTold_221 : decode cX12_qPartTold 221 = .ok (.iadd, 1) := by decide +kernel
theorem dX12_qPartTold_222 : decode cX12_qPartTold 222 = .ok (.goto 15, 3) := by decide +kernel
theorem dX12_qPartTold_225 : decode cX12_qPartTold 225 = .ok (.sipush 1000, 3) := by decide +kernel
theorem dX12_qPartTold_228 : decode cX12_qPartTold 228 = .ok (.aload_n 0, 1) := by decide +kernel
theorem dX12_qPartTold_229 : decode cX12_qPartTold 229 = .ok (.iconst 0, 1) := by decide +kernel
theorem dX12_qPartTold_230 : decode cX12_qPartTold 230 = .ok (.sipush 9999, 3) := by decide +kernel
theorem dX12_qPartTold_233 : decode cX12_qPartTold 233 = .ok (.invokevirtual 323, 3) := by decide +kernel
theorem dX12_qPartTold_236 : decode cX12_qPartTold 236 = .ok (.iadd, 1) := by decide +kernel
theorem dX12_qPartTold_237 : decode cX12_qPartTold 237 = .ok (.invokevirtual 604, 3) := by decide +kernel
theorem dX12_qPartTold_240 : decode cX12_qPartTold 240 = .ok (.aload_n 0, 1) := by decide +kernel
theorem dX12_qPartTold_241 : decode cX12_qPartTold 241 = .ok (.invokevirtual 628, 3) := by decide +kernel
theorem dX12_qPartTold_244 : decode cX12_qPartTold 244 = .ok (.return_, 1) := by decide +kernel
theorem dX12_qGoesOn_0 : decode cX12_qGoesOn 0 = .ok (.aload_n 0, 1) := by decide +kernel
theorem dX12_qGoesOn_1 : decode cX12_qGoesOn 1 = .ok (.getfield 242, 3) := by decide +kernel
theorem dX12_qGoesOn_4 : decode cX12_qGoesOn 4 = .ok (.ifCond .ne 118, 3) := by decide +kernel
theorem dX12_qGoesOn_7 : decode cX12_qGoesOn 7 = .ok (.aload_n 0, 1) := by decide +kernel
theorem dX12_qGoesOn_8 : decode cX12_qGoesOn 8 = .ok (.invokevirtual 254, 3) := by decide +kernel
theorem dX12_qGoesOn_11 : decode cX12_qGoesOn 11 = .ok (.bipush 41, 2) := by decide +kernel
theorem dX12_qGoesOn_13 : decode cX12_qGoesOn 13 = .ok (.if_icmp .ne 109, 3) := by decide +kernel
theorem dX12_qGoesOn_16 : decode cX12_qGoesOn 16 = .ok (.aload_n 0, 1) := by decide +kernel
theorem dX12_qGoesOn_17 : decode cX12_qGoesOn 17 = .ok (.invokevirtual 631, 3) := by decide +kernel
theorem dX12_qGoesOn_20 : decode cX12_qGoesOn 20 = .ok (.bipush 20, 2) := by decide +kernel
theorem dX12_qGoesOn_22 : decode cX12_qGoesOn 22 = .ok (.if_icmp .eq 21, 3) := by decide +kernel
theorem dX12_qGoesOn_25 : decode cX12_qGoesOn 25 = .ok (.aload_n 0, 1) := by decide +kernel
theorem dX12_qGoesOn_26 : decode cX12_qGoesOn 26 = .ok (.invokevirtual 631, 3) := by decide +kernel
theorem dX12_qGoesOn_29 : decode cX12_qGoesOn 29 = .ok (.bipush 23, 2) := by decide +kernel
theorem dX12_qGoesOn_31 : decode cX12_qGoesOn 31 = .ok (.if_icmp .eq 12, 3) := by decide +kernel
theorem dX12_qGoesOn_34 : decode cX12_qGoesOn 34 = .ok (.aload_n 0, 1) := by decide +kernel
theorem dX12_qGoesOn_35 : decode cX12_qGoesOn 35 = .ok (.invokevirtual 631, 3) := by decide +kernel
theorem dX12_qGoesOn_38 : decode cX12_qGoesOn 38 = .ok (.bipush 24, 2) := by decide +kernel
theorem dX12_qGoesOn_40 : decode cX12_qGoesOn 40 = .ok (.if_icmp .ne 82, 3) := by decide +kernel
theorem dX12_qGoesOn_43 : decode cX12_qGoesOn 43 = .ok (.aload_n 0, 1) := by decide +kernel
theorem dX12_qGoesOn_44 : decode cX12_qGoesOn 44 = .ok (.dup, 1) := by decide +kernel
theorem dX12_qGoesOn_45 : decode cX12_qGoesOn 45 = .ok (.getfield 248, 3) := by decide +kernel
theorem dX12_qGoesOn_48 : decode cX12_qGoesOn 48 = .ok (.iconst 1, 1) := by decide +kernel
theorem dX12_qGoesOn_49 : decode cX12_qGoesOn 49 = .ok (.iadd, 1) := by decide +kernel
theorem dX12_qGoesOn_50 : decode cX12_qGoesOn 50 = .ok (.putfield 248, 3) := by decide +kernel
theorem dX12_qGoesOn_53 : decode cX12_qGoesOn 53 = .ok (.aload_n 0, 1) := by decide +kernel
theorem dX12_qGoesOn_54 : decode cX12_qGoesOn 54 = .ok (.invokevirtual 634, 3) := by decide +kernel
theorem dX12_qGoesOn_57 : decode cX12_qGoesOn 57 = .ok (.aload_n 0, 1) := by decide +kernel
theorem dX12_qGoesOn_58 : decode cX12_qGoesOn 58 = .ok (.dup, 1) := by decide +kernel
theorem dX12_qGoesOn_59 : decode cX12_qGoesOn 59 = .ok (.getfield 344, 3) := by decide +kernel
theorem dX12_qGoesOn_62 : decode cX12_qGoesOn 62 = .ok (.iconst 1, 1) := by decide +kernel
theorem dX12_qGoesOn_63 : decode cX12_qGoesOn 63 = .ok (.isub, 1) := by decide +kernel
theorem dX12_qGoesOn_64 : decode cX12_qGoesOn 64 = .ok (.putfield 344, 3) := by decide +kernel
theorem dX12_qGoesOn_67 : decode cX12_qGoesOn 67 = .ok (.aload_n 0, 1) := by decide +kernel
theorem dX12_qGoesOn_68 : decode cX12_qGoesOn 68 = .ok (.dup, 1) := by decide +kernel
theorem dX12_qGoesOn_69 : decode cX12_qGoesOn 69 = .ok (.getfield 347, 3) := by decide +kernel
theorem dX12_qGoesOn_72 : decode cX12_qGoesOn 72 = .ok (.iconst 1, 1) := by decide +kernel
theorem dX12_qGoesOn_73 : decode cX12_qGoesOn 73 = .ok (.isub, 1) := by decide +kernel
theorem dX12_qGoesOn_74 : decode cX12_qGoesOn 74 = .ok (.putfield 347, 3) := by decide +kernel
theorem dX12_qGoesOn_77 : decode cX12_qGoesOn 77 = .ok (.aload_n 0, 1) := by decide +kernel
theorem dX12_qGoesOn_78 : decode cX12_qGoesOn 78 = .ok (.getfield 230, 3) := by decide +kernel
theorem dX12_qGoesOn_81 : decode cX12_qGoesOn 81 = .ok (.aload_n 0, 1) := by decide +kernel
theorem dX12_qGoesOn_82 : decode cX12_qGoesOn 82 = .ok (.getfield 344, 3) := by decide +kernel
theorem dX12_qGoesOn_85 : decode cX12_qGoesOn 85 = .ok (.iaload, 1) := by decide +kernel
theorem dX12_qGoesOn_86 : decode cX12_qGoesOn 86 = .ok (.bipush 20, 2) := by decide +kernel
theorem dX12_qGoesOn_88 : decode cX12_qGoesOn 88 = .ok (.if_icmp .eq 27, 3) := by decide +kernel
theorem dX12_qGoesOn_91 : decode cX12_qGoesOn 91 = .ok (.aload_n 0, 1) := by decide +kernel
theorem dX12_qGoesOn_92 : decode cX12_qGoesOn 92 = .ok (.aload_n 0, 1) := by decide +kernel
theorem dX12_qGoesOn_93 : decode cX12_qGoesOn 93 = .ok (.getfield 230, 3) := by decide +kernel
theorem dX12_qGoesOn_96 : decode cX12_qGoesOn 96 = .ok (.aload_n 0, 1) := by decide +kernel
theorem dX12_qGoesOn_97 : decode cX12_qGoesOn 97 = .ok (.getfield 344, 3) := by decide +kernel
theorem dX12_qGoesOn_100 : decode cX12_qGoesOn 100 = .ok (.iaload, 1) := by decide +kernel
theorem dX12_qGoesOn_101 : decode cX12_qGoesOn 101 = .ok (.bipush 23, 2) := by decide +kernel
theorem dX12_qGoesOn_103 : decode cX12_qGoesOn 103 = .ok (.if_icmp .ne 7, 3) := by decide +kernel
theorem dX12_qGoesOn_106 : decode cX12_qGoesOn 106 = .ok (.iconst 5, 1) := by decide +kernel
theorem dX12_qGoesOn_107 : decode cX12_qGoesOn 107 = .ok (.goto 5, 3) := by decide +kernel
theorem dX12_qGoesOn_110 : decode cX12_qGoesOn 110 = .ok (.bipush 6, 2) := by decide +kernel
theorem dX12_qGoesOn_112 : decode cX12_qGoesOn 112 = .ok (.invokevirtual 604, 3) := by decide +kernel
theorem dX12_qGoesOn_115 : decode cX12_qGoesOn 115 = .ok (.aload_n 0, 1) := by decide +kernel
theorem dX12_qGoesOn_116 : decode cX12_qGoesOn 116 = .ok (.invokevirtual 628, 3) := by decide +kernel
theorem dX12_qGoesOn_119 : decode cX12_qGoesOn 119 = .ok (.goto (-119), 3) := by decide +kernel
theorem dX12_qGoesOn_122 : decode cX12_qGoesOn 122 = .ok (.aload_n 0, 1) := by decide +kernel
theorem dX12_qGoesOn_123 : decode cX12_qGoesOn 123 = .ok (.bipush 42, 2) := by decide +kernel
theorem dX12_qGoesOn_125 : decode cX12_qGoesOn 125 = .ok (.invokevirtual 276, 3) := by decide +kernel
theorem dX12_qGoesOn_128 : decode cX12_qGoesOn 128 = .ok (.ifCond .ne 12, 3) := by decide +kernel
theorem dX12_qGoesOn_131 : decode cX12_qGoesOn 131 = .ok (.aload_n 0, 1) := by decide +kernel
theorem dX12_qGoesOn_132 : decode cX12_qGoesOn 132 = .ok (.bipush 47, 2) := by decide +kernel
theorem dX12_qGoesOn_134 : decode cX12_qGoesOn 134 = .ok (.invokevirtual 276, 3) := by decide +kernel
theorem dX12_qGoesOn_137 : decode cX12_qGoesOn 137 = .ok (.ifCond .eq 70, 3) := by decide +kernel
theorem dX12_qGoesOn_140 : decode cX12_qGoesOn 140 = .ok (.aload_n 0, 1) := by decide +kernel
theorem dX12_qGoesOn_141 : decode cX12_qGoesOn 141 = .ok (.getfield 7, 3) := by decide +kernel
theorem dX12_qGoesOn_144 : decode cX12_qGoesOn 144 = .ok (.aload_n 0, 1) := by decide +kernel
theorem dX12_qGoesOn_145 : decode cX12_qGoesOn 145 = .ok (.getfield 248, 3) := by decide +kernel
theorem dX12_qGoesOn_148 : decode cX12_qGoesOn 148 = .ok (.iconst 1, 1) := by decide +kernel
theorem dX12_qGoesOn_149 : decode cX12_qGoesOn 149 = .ok (.isub, 1) := by decide +kernel
theorem dX12_qGoesOn_150 : decode cX12_qGoesOn 150 = .ok (.iaload, 1) := by decide +kernel
theorem dX12_qGoesOn_151 : decode cX12_qGoesOn 151 = .ok (.bipush 42, 2) := by decide +kernel
theorem dX12_qGoesOn_153 : decode cX12_qGoesOn 153 = .ok (.if_icmp .ne 7, 3) := by decide +kernel
theorem dX12_qGoesOn_156 : decode cX12_qGoesOn 156 = .ok (.iconst 3, 1) := by decide +kernel
theorem dX12_qGoesOn_157 : decode cX12_qGoesOn 157 = .ok (.goto 4, 3) := by decide +kernel
theorem dX12_qGoesOn_160 : decode cX12_qGoesOn 160 = .ok (.iconst 4, 1) := by decide +kernel
theorem dX12_qGoesOn_161 : decode cX12_qGoesOn 161 = .ok (.istore_n 1, 1) := by decide +kernel
theorem dX12_qGoesOn_162 : decode cX12_qGoesOn 162 = .ok (.aload_n 0, 1) := by decide +kernel
theorem dX12_qGoesOn_163 : decode cX12_qGoesOn 163 = .ok (.iconst 3, 1) := by decide +kernel
theorem dX12_qGoesOn_164 : decode cX12_qGoesOn 164 = .ok (.invokevirtual 637, 3) := by decide +kernel
theorem dX12_qGoesOn_167 : decode cX12_qGoesOn 167 = .ok (.ifCond .ne 11, 3) := by decide +kernel
theorem dX12_qGoesOn_170 : decode cX12_qGoesOn 170 = .ok (.aload_n 0, 1) := by decide +kernel
theorem dX12_qGoesOn_171 : decode cX12_qGoesOn 171 = .ok (.iconst 4, 1) := by decide +kernel
theorem dX12_qGoesOn_172 : decode cX12_qGoesOn 172 = .ok (.invokevirtual 637, 3) := by decide +kernel
theorem dX12_qGoesOn_175 : decode cX12_qGoesOn 175 = .ok (.ifCond .eq 10, 3) := by decide +kernel
theorem dX12_qGoesOn_178 : decode cX12_qGoesOn 178 = .ok (.aload_n 0, 1) := by decide +kernel
theorem dX12_qGoesOn_179 : decode cX12_qGoesOn 179 = .ok (.invokevirtual 610, 3) := by decide +kernel
theorem dX12_qGoesOn_182 : decode cX12_qGoesOn 182 = .ok (.goto (-20), 3) := by decide +kernel
theorem dX12_qGoesOn_185 : decode cX12_qGoesOn 185 = .ok (.aload_n 0, 1) := by decide +kernel
theorem dX12_qGoesOn_186 : decode cX12_qGoesOn 186 = .ok (.getfield 230, 3) := by decide +kernel
theorem dX12_qGoesOn_189 : decode cX12_qGoesOn 189 = .ok (.aload_n 0, 1) := by decide +kernel
theorem dX12_qGoesOn_190 : decode cX12_qGoesOn 190 = .ok (.getfield 344, 3) := by decide +kernel
theorem dX12_qGoesOn_193 : decode cX12_qGoesOn 193 = .ok (.iload_n 1, 1) := by decide +kernel
theorem dX12_qGoesOn_194 : decode cX12_qGoesOn 194 = .ok (.iastore, 1) := by decide +kernel
theorem dX12_qGoesOn_195 : decode cX12_qGoesOn 195 = .ok (.aload_n 0, 1) := by decide +kernel
theorem dX12_qGoesOn_196 : decode cX12_qGoesOn 196 = .ok (.dup, 1) := by decide +kernel
theorem dX12_qGoesOn_197 : decode cX12_qGoesOn 197 = .ok (.getfield 344, 3) := by decide +kernel
theorem dX12_qGoesOn_200 : decode cX12_qGoesOn 200 = .ok (.iconst 1, 1) := by decide +kernel
theorem dX12_qGoesOn_201 : decode cX12_qGoesOn 201 = .ok (.iadd, 1) := by decide +kernel
theorem dX12_qGoesOn_202 : decode cX12_qGoesOn 202 = .ok (.putfield 344, 3) := by decide +kernel
theorem dX12_qGoesOn_205 : decode cX12_qGoesOn 205 = .ok (.iconst 1, 1) := by decide +kernel
theorem dX12_qGoesOn_206 : decode cX12_qGoesOn 206 = .ok (.ireturn, 1) := by decide +kernel
theorem dX12_qGoesOn_207 : decode cX12_qGoesOn 207 = .ok (.aload_n 0, 1) := by decide +kernel
theorem dX12_qGoesOn_208 : decode cX12_qGoesOn 208 = .ok (.bipush 43, 2) := by decide +kernel
theorem dX12_qGoesOn_210 : decode cX12_qGoesOn 210 = .ok (.invokevirtual 276, 3) := by decide +kernel
theorem dX12_qGoesOn_213 : decode cX12_qGoesOn 213 = .ok (.ifCond .ne 12, 3) := by decide +kernel
theorem dX12_qGoesOn_216 : decode cX12_qGoesOn 216 = .ok (.aload_n 0, 1) := by decide +kernel
theorem dX12_qGoesOn_217 : decode cX12_qGoesOn 217 = .ok (.bipush 45, 2) := by decide +kernel
theorem dX12_qGoesOn_219 : decode cX12_qGoesOn 219 = .ok (.invokevirtual 276, 3) := by decide +kernel
theorem dX12_qGoesOn_222 : decode cX12_qGoesOn 222 = .ok (.ifCond .eq 86, 3) := by decide +kernel
theorem dX12_qGoesOn_225 : decode cX12_qGoesOn 225 = .ok (.aload_n 0, 1) := by decide +kernel
theorem dX12_qGoesOn_226 : decode cX12_qGoesOn 226 = .ok (.getfield 7, 3) := by decide +kernel
theorem dX12_qGoesOn_229 : decode cX12_qGoesOn 229 = .ok (.aload_n 0, 1) := by decide +kernel
theorem dX12_qGoesOn_230 : decode cX12_qGoesOn 230 = .ok (.getfield 248, 3) := by decide +kernel
theorem dX12_qGoesOn_233 : decode cX12_qGoesOn 233 = .ok (.iconst 1, 1) := by decide +kernel
theorem dX12_qGoesOn_234 : decode cX12_qGoesOn 234 = .ok (.isub, 1) := by decide +kernel
theorem dX12_qGoesOn_235 : decode cX12_qGoesOn 235 = .ok (.iaload, 1) := by decide +kernel
theorem dX12_qGoesOn_236 : decode cX12_qGoesOn 236 = .ok (.bipush 43, 2) := by decide +kernel
theorem dX12_qGoesOn_238 : decode cX12_qGoesOn 238 = .ok (.if_icmp .ne 7, 3) := by decide +kernel
theorem dX12_qGoesOn_241 : decode cX12_qGoesOn 241 = .ok (.iconst 1, 1) := by decide +kernel
theorem dX12_qGoesOn_242 : decode cX12_qGoesOn 242 = .ok (.goto 4, 3) := by decide +kernel
theorem dX12_qGoesOn_245 : decode cX12_qGoesOn 245 = .ok (.iconst 2, 1) := by decide +kernel
theorem dX12_qGoesOn_246 : decode cX12_qGoesOn 246 = .ok (.istore_n 1, 1) := by decide +kernel
theorem dX12_qGoesOn_247 : decode cX12_qGoesOn 247 = .ok (.aload_n 0, 1) := by decide +kernel
theorem dX12_qGoesOn_248 : decode cX12_qGoesOn 248 = .ok (.iconst 3, 1) := by decide +kernel
theorem dX12_qGoesOn_249 : decode cX12_qGoesOn 249 = .ok (.invokevirtual 637, 3) := by decide +kernel
theorem dX12_qGoesOn_252 : decode cX12_qGoesOn 252 = .ok (.ifCond .ne 27, 3) := by decide +kernel
theorem dX12_qGoesOn_255 : decode cX12_qGoesOn 255 = .ok (.aload_n 0, 1) := by decide +kernel
theorem dX12_qGoesOn_256 : decode cX12_qGoesOn 256 = .ok (.iconst 4, 1) := by decide +kernel
theorem dX12_qGoesOn_257 : decode cX12_qGoesOn 257 = .ok (.invokevirtual 637, 3) := by decide +kernel
theorem dX12_qGoesOn_260 : decode cX12_qGoesOn 260 = .ok (.ifCond .ne 19, 3) := by decide +kernel
theorem dX12_qGoesOn_263 : decode cX12_qGoesOn 263 = .ok (.aload_n 0, 1) := by decide +kernel
theorem dX12_qGoesOn_264 : decode cX12_qGoesOn 264 = .ok (.iconst 1, 1) := by decide +kernel
theorem dX12_qGoesOn_265 : decode cX12_qGoesOn 265 = .ok (.invokevirtual 637, 3) := by decide +kernel
theorem dX12_qGoesOn_268 : decode cX12_qGoesOn 268 = .ok (.ifCond .ne 11, 3) := by decide +kernel
theorem dX12_qGoesOn_271 : decode cX12_qGoesOn 271 = .ok (.aload_n 0, 1) := by decide +kernel
theorem dX12_qGoesOn_272 : decode cX12_qGoesOn 272 = .ok (.iconst 2, 1) := by decide +kernel
theorem dX12_qGoesOn_273 : decode cX12_qGoesOn 273 = .ok (.invokevirtual 637, 3) := by decide +kernel
theorem dX12_qGoesOn_276 : decode cX12_qGoesOn 276 = .ok (.ifCond .eq 10, 3) := by decide +kernel
theorem dX12_qGoesOn_279 : decode cX12_qGoesOn 279 = .ok (.aload_n 0, 1) := by decide +kernel
theorem dX12_qGoesOn_280 : decode cX12_qGoesOn 280 = .ok (.invokevirtual 610, 3) := by decide +kernel
theorem dX12_qGoesOn_283 : decode cX12_qGoesOn 283 = .ok (.goto (-36), 3) := by decide +kernel
theorem dX12_qGoesOn_286 : decode cX12_qGoesOn 286 = .ok (.aload_n 0, 1) := by decide +kernel
theorem dX12_qGoesOn_287 : decode cX12_qGoesOn 287 = .ok (.getfield 230, 3) := by decide +kernel
theorem dX12_qGoesOn_290 : decode cX12_qGoesOn 290 = .ok (.aload_n 0, 1) := by decide +kernel
theorem dX12_qGoesOn_291 : decode cX12_qGoesOn 291 = .ok (.getfield 344, 3) := by decide +kernel
theorem dX12_qGoesOn_294 : decode cX12_qGoesOn 294 = .ok (.iload_n 1, 1) := by decide +kernel
theorem dX12_qGoesOn_295 : decode cX12_qGoesOn 295 = .ok (.iastore, 1) := by decide +kernel
theorem dX12_qGoesOn_296 : decode cX12_qGoesOn 296 = .ok (.aload_n 0, 1) := by decide +kernel
theorem dX12_qGoesOn_297 : decode cX12_qGoesOn 297 = .ok (.dup, 1) := by decide +kernel
theorem dX12_qGoesOn_298 : decode cX12_qGoesOn 298 = .ok (.getfield 344, 3) := by decide +kernel
theorem dX12_qGoesOn_301 : decode cX12_qGoesOn 301 = .ok (.iconst 1, 1) := by decide +kernel
theorem dX12_qGoesOn_302 : decode cX12_qGoesOn 302 = .ok (.iadd, 1) := by decide +kernel
theorem dX12_qGoesOn_303 : decode cX12_qGoesOn 303 = .ok (.putfield 344, 3) := by decide +kernel
theorem dX12_qGoesOn_306 : decode cX12_qGoesOn 306 = .ok (.iconst 1, 1) := by decide +kernel
theorem dX12_qGoesOn_307 : decode cX12_qGoesOn 307 = .ok (.ireturn, 1) := by decide +kernel
theorem dX12_qGoesOn_308 : decode cX12_qGoesOn 308 = .ok (.aload_n 0, 1) := by decide +kernel
theorem dX12_qGoesOn_309 : decode cX12_qGoesOn 309 = .ok (.invokevirtual 631, 3) := by decide +kernel
theorem dX12_qGoesOn_312 : decode cX12_qGoesOn 312 = .ok (.bipush 21, 2) := by decide +kernel
theorem dX12_qGoesOn_314 : decode cX12_qGoesOn 314 = .ok (.if_icmp .eq 12, 3) := by decide +kernel
theorem dX12_qGoesOn_317 : decode cX12_qGoesOn 317 = .ok (.aload_n 0, 1) := by decide +kernel
theorem dX12_qGoesOn_318 : decode cX12_qGoesOn 318 = .ok (.invokevirtual 631, 3) := by decide +kernel
theorem dX12_qGoesOn_321 : decode cX12_qGoesOn 321 = .ok (.bipush 22, 2) := by decide +kernel
theorem dX12_qGoesOn_323 : decode cX12_qGoesOn 323 = .ok (.if_icmp .ne 39, 3) := by decide +kernel
theorem dX12_qGoesOn_326 : decode cX12_qGoesOn 326 = .ok (.aload_n 0, 1) := by decide +kernel
theorem dX12_qGoesOn_327 : decode cX12_qGoesOn 327 = .ok (.bipush 44, 2) := by decide +kernel
theorem dX12_qGoesOn_329 : decode cX12_qGoesOn 329 = .ok (.invokevirtual 386, 3) := by decide +kernel
theorem dX12_qGoesOn_332 : decode cX12_qGoesOn 332 = .ok (.aload_n 0, 1) := by decide +kernel
theorem dX12_qGoesOn_333 : decode cX12_qGoesOn 333 = .ok (.getfield 242, 3) := by decide +kernel
theorem dX12_qGoesOn_336 : decode cX12_qGoesOn 336 = .ok (.ifCond .eq 5, 3) := by decide +kernel
theorem dX12_qGoesOn_339 : decode cX12_qGoesOn 339 = .ok (.iconst 0, 1) := by decide +kernel
theorem dX12_qGoesOn_340 : decode cX12_qGoesOn 340 = .ok (.ireturn, 1) := by decide +kernel
theorem dX12_qGoesOn_341 : decode cX12_qGoesOn 341 = .ok (.aload_n 0, 1) := by decide +kernel
theorem dX12_qGoesOn_342 : decode cX12_qGoesOn 342 = .ok (.invokevirtual 634, 3) := by decide +kernel
theorem dX12_qGoesOn_345 : decode cX12_qGoesOn 345 = .ok (.aload_n 0, 1) := by decide +kernel
theorem dX12_qGoesOn_346 : decode cX12_qGoesOn 346 = .ok (.getfield 230, 3) := by decide +kernel
theorem dX12_qGoesOn_349 : decode cX12_qGoesOn 349 = .ok (.aload_n 0, 1) := by decide +kernel
theorem dX12_qGoesOn_350 : decode cX12_qGoesOn 350 = .ok (.getfield 344, 3) := by decide +kernel
theorem dX12_qGoesOn_353 : decode cX12_qGoesOn 353 = .ok (.iconst 1, 1) := by decide +kernel
theorem dX12_qGoesOn_354 : decode cX12_qGoesOn 354 = .ok (.isub, 1) := by decide +kernel
theorem dX12_qGoesOn_355 : decode cX12_qGoesOn 355 = .ok (.dup2, 1) := by decide +kernel
theorem dX12_qGoesOn_356 : decode cX12_qGoesOn 356 = .ok (.iaload, 1) := by decide +kernel
theorem dX12_qGoesOn_357 : decode cX12_qGoesOn 357 = .ok (.iconst 2, 1) := by decide +kernel
theorem dX12_qGoesOn_358 : decode cX12_qGoesOn 358 = .ok (.iadd, 1) := by decide +kernel
theorem dX12_qGoesOn_359 : decode cX12_qGoesOn 359 = .ok (.iastore, 1) := by decide +kernel
theorem dX12_qGoesOn_360 : decode cX12_qGoesOn 360 = .ok (.iconst 1, 1) := by decide +kernel
theorem dX12_qGoesOn_361 : decode cX12_qGoesOn 361 = .ok (.ireturn, 1) := by decide +kernel
theorem dX12_qGoesOn_362 : decode cX12_qGoesOn 362 = .ok (.aload_n 0, 1) := by decide +kernel
theorem dX12_qGoesOn_363 : decode cX12_qGoesOn 363 = .ok (.invokevirtual 631, 3) := by decide +kernel
theorem dX12_qGoesOn_366 : decode cX12_qGoesOn 366 = .ok (.iconst (-1), 1) := by decide +kernel
theorem dX12_qGoesOn_367 : decode cX12_qGoesOn 367 = .ok (.if_icmp .eq 19, 3) := by decide +kernel
theorem dX12_qGoesOn_370 : decode cX12_qGoesOn 370 = .ok (.aload_n 0, 1) := by decide +kernel
theorem dX12_qGoesOn_371 : decode cX12_qGoesOn 371 = .ok (.getfield 242, 3) := by decide +kernel
theorem dX12_qGoesOn_374 : decode cX12_qGoesOn 374 = .ok (.ifCond .ne 12, 3) := by decide +kernel
theorem dX12_qGoesOn_377 : decode cX12_qGoesOn 377 = .ok (.aload_n 0, 1) := by decide +kernel
theorem dX12_qGoesOn_378 : decode cX12_qGoesOn 378 = .ok (.iconst 1, 1) := by decide +kernel
theorem dX12_qGoesOn_379 : decode cX12_qGoesOn 379 = .ok (.aload_n 0, 1) := by decide +kernel
theorem dX12_qGoesOn_380 : decode cX12_qGoesOn 380 = .ok (.getfield 248, 3) := by decide +kernel
theorem dX12_qGoesOn_383 : decode cX12_qGoesOn 383 = .ok (.invokevirtual 272, 3) := by decide +kernel
theorem dX12_qGoesOn_386 : decode cX12_qGoesOn 386 = .ok (.iconst 0, 1) := by decide +kernel
theorem dX12_qGoesOn_387 : decode cX12_qGoesOn 387 = .ok (.ireturn, 1) := by decide +kernel
theorem dX12_qSums_0 : decode cX12_qSums 0 = .ok (.aload_n 0, 1) := by decide +kernel
theorem dX12_qSums_1 : decode cX12_qSums 1 = .ok (.getfield 350, 3) := by decide +kernel
theorem dX12_qSums_4 : decode cX12_qSums 4 = .ok (.istore_n 1, 1) := by decide +kernel
theorem dX12_qSums_5 : decode cX12_qSums 5 = .ok (.aload_n 0, 1) := by decide +kernel
theorem dX12_qSums_6 : decode cX12_qSums 6 = .ok (.aload_n 0, 1) := by decide +kernel
theorem dX12_qSums_7 : decode cX12_qSums 7 = .ok (.getfield 344, 3) := by decide +kernel
theorem dX12_qSums_10 : decode cX12_qSums 10 = .ok (.putfield 350, 3) := by decide +kernel
theorem dX12_qSums_13 : decode cX12_qSums 13 = .ok (.iconst 1, 1) := by decide +kernel
theorem dX12_qSums_14 : decode cX12_qSums 14 = .ok (.istore_n 2, 1) := by decide +kernel
theorem dX12_qSums_15 : decode cX12_qSums 15 = .ok (.iload_n 2, 1) := by decide +kernel
theorem dX12_qSums_16 : decode cX12_qSums 16 = .ok (.ifCond .eq 37, 3) := by decide +kernel
theorem dX12_qSums_19 : decode cX12_qSums 19 = .ok (.aload_n 0, 1) := by decide +kernel
theorem dX12_qSums_20 : decode cX12_qSums 20 = .ok (.getfield 242, 3) := by decide +kernel
theorem dX12_qSums_23 : decode cX12_qSums 23 = .ok (.ifCond .ne 30, 3) := by decide +kernel
theorem dX12_qSums_26 : decode cX12_qSums 26 = .ok (.aload_n 0, 1) := by decide +kernel
theorem dX12_qSums_27 : decode cX12_qSums 27 = .ok (.invokevirtual 640, 3) := by decide +kernel
theorem dX12_qSums_30 : decode cX12_qSums 30 = .ok (.aload_n 0, 1) := by decide +kernel
theorem dX12_qSums_31 : decode cX12_qSums 31 = .ok (.getfield 242, 3) := by decide +kernel
theorem dX12_qSums_34 : decode cX12_qSums 34 = .ok (.ifCond .ne 14, 3) := by decide +kernel
theorem dX12_qSums_37 : decode cX12_qSums 37 = .ok (.aload_n 0, 1) := by decide +kernel
theorem dX12_qSums_38 : decode cX12_qSums 38 = .ok (.invokevirtual 643, 3) := by decide +kernel
theorem dX12_qSums_41 : decode cX12_qSums 41 = .ok (.ifCond .eq 7, 3) := by decide +kernel
theorem dX12_qSums_44 : decode cX12_qSums 44 = .ok (.iconst 1, 1) := by decide +kernel
theorem dX12_qSums_45 : decode cX12_qSums 45 = .ok (.goto 4, 3) := by decide +kernel
theorem dX12_qSums_48 : decode cX12_qSums 48 = .ok (.iconst 0, 1) := by decide +kernel
theorem dX12_qSums_49 : decode cX12_qSums 49 = .ok (.istore_n 2, 1) := by decide +kernel
theorem dX12_qSums_50 : decode cX12_qSums 50 = .ok (.goto (-35), 3) := by decide +kernel
theorem dX12_qSums_53 : decode cX12_qSums 53 = .ok (.aload_n 0, 1) := by decide +kernel
theorem dX12_qSums_54 : decode cX12_qSums 54 = .ok (.getfield 242, 3) := by decide +kernel
theorem dX12_qSums_57 : decode cX12_qSums 57 = .ok (.ifCond .ne 21, 3) := by decide +kernel
theorem dX12_qSums_60 : decode cX12_qSums 60 = .ok (.aload_n 0, 1) := by decide +kernel
theorem dX12_qSums_61 : decode cX12_qSums 61 = .ok (.getfield 344, 3) := by decide +kernel
theorem dX12_qSums_64 : decode cX12_qSums 64 = .ok (.aload_n 0, 1) := by decide +kernel
theorem dX12_qSums_65 : decode cX12_qSums 65 = .ok (.getfield 350, 3) := by decide +kernel
theorem dX12_qSums_68 : decode cX12_qSums 68 = .ok (.if_icmp .le 10, 3) := by decide +kernel
theorem dX12_qSums_71 : decode cX12_qSums 71 = .ok (.aload_n 0, 1) := by decide +kernel
theorem dX12_qSums_72 : decode cX12_qSums 72 = .ok (.invokevirtual 610, 3) := by decide +kernel
theorem dX12_qSums_75 : decode cX12_qSums 75 = .ok (.goto (-22), 3) := by decide +kernel
theorem dX12_qSums_78 : decode cX12_qSums 78 = .ok (.aload_n 0, 1) := by decide +kernel
theorem dX12_qSums_79 : decode cX12_qSums 79 = .ok (.iload_n 1, 1) := by decide +kernel
theorem dX12_qSums_80 : decode cX12_qSums 80 = .ok (.putfield 350, 3) := by decide +kernel
theorem dX12_qSums_83 : decode cX12_qSums 83 = .ok (.return_, 1) := by decide +kernel
theorem dX12_qFact_0 : decode cX12_qFact 0 = .ok (.aload_n 0, 1) := by decide +kernel
theorem dX12_qFact_1 : decode cX12_qFact 1 = .ok (.aload_n 0, 1) := by decide +kernel
theorem dX12_qFact_2 : decode cX12_qFact 2 = .ok (.getfield 188, 3) := by decide +kernel
theorem dX12_qFact_5 : decode cX12_qFact 5 = .ok (.invokevirtual 269, 3) := by decide +kernel
theorem dX12_qFact_8 : decode cX12_qFact 8 = .ok (.ifCond .eq 10, 3) := by decide +kernel
theorem dX12_qFact_11 : decode cX12_qFact 11 = .ok (.aload_n 0, 1) := by decide +kernel
theorem dX12_qFact_12 : decode cX12_qFact 12 = .ok (.bipush 13, 2) := by decide +kernel
theorem dX12_qFact_14 : decode cX12_qFact 14 = .ok (.invokevirtual 604, 3) := by decide +kernel
theorem dX12_qFact_17 : decode cX12_qFact 17 = .ok (.return_, 1) := by decide +kernel
theorem dX12_qFact_18 : decode cX12_qFact 18 = .ok (.aload_n 0, 1) := by decide +kernel
theorem dX12_qFact_19 : decode cX12_qFact 19 = .ok (.invokevirtual 356, 3) := by decide +kernel
theorem dX12_qFact_22 : decode cX12_qFact 22 = .ok (.aload_n 0, 1) := by decide +kernel
theorem dX12_qFact_23 : decode cX12_qFact 23 = .ok (.getfield 242, 3) := by decide +kernel
theorem dX12_qFact_26 : decode cX12_qFact 26 = .ok (.ifCond .eq 4, 3) := by decide +kernel
theorem dX12_qFact_29 : decode cX12_qFact 29 = .ok (.return_, 1) := by decide +kernel
theorem dX12_qFact_30 : decode cX12_qFact 30 = .ok (.aload_n 0, 1) := by decide +kernel
theorem dX12_qFact_31 : decode cX12_qFact 31 = .ok (.invokevirtual 254, 3) := by decide +kernel
theorem dX12_qFact_34 : decode cX12_qFact 34 = .ok (.istore_n 1, 1) := by decide +kernel
theorem dX12_qFact_35 : decode cX12_qFact 35 = .ok (.iload_n 1, 1) := by decide +kernel
theorem dX12_qFact_36 : decode cX12_qFact 36 = .ok (.bipush 60, 2) := by decide +kernel
theorem dX12_qFact_38 : decode cX12_qFact 38 = .ok (.if_icmp .eq 25, 3) := by decide +kernel
theorem dX12_qFact_41 : decode cX12_qFact 41 = .ok (.iload_n 1, 1) := by decide +kernel
theorem dX12_qFact_42 : decode cX12_qFact 42 = .ok (.bipush 62, 2) := by decide +kernel
theorem dX12_qFact_44 : decode cX12_qFact 44 = .ok (.if_icmp .eq 19, 3) := by decide +kernel
theorem dX12_qFact_47 : decode cX12_qFact 47 = .ok (.iload_n 1, 1) := by decide +kernel
theorem dX12_qFact_48 : decode cX12_qFact 48 = .ok (.bipush 61, 2) := by decide +kernel
theorem dX12_qFact_50 : decode cX12_qFact 50 = .ok (.if_icmp .eq 13, 3) := by decide +kernel
theorem dX12_qFact_53 : decode cX12_qFact 53 = .ok (.aload_n 0, 1) := by decide +kernel
theorem dX12_qFact_54 : decode cX12_qFact 54 = .ok (.iconst 1, 1) := by decide +kernel
theorem dX12_qFact_55 : decode cX12_qFact 55 = .ok (.aload_n 0, 1) := by decide +kernel
theorem dX12_qFact_56 : decode cX12_qFact 56 = .ok (.getfield 248, 3) := by decide +kernel
theorem dX12_qFact_59 : decode cX12_qFact 59 = .ok (.invokevirtual 272, 3) := by decide +kernel
theorem dX12_qFact_62 : decode cX12_qFact 62 = .ok (.return_, 1) := by decide +kernel
theorem dX12_qFact_63 : decode cX12_qFact 63 = .ok (.aload_n 0, 1) := by decide +kernel
theorem dX12_qFact_64 : decode cX12_qFact 64 = .ok (.dup, 1) := by decide +kernel
theorem dX12_qFact_65 : decode cX12_qFact 65 = .ok (.getfield 248, 3) := by decide +kernel
theorem dX12_qFact_68 : decode cX12_qFact 68 = .ok (.iconst 1, 1) := by decide +kernel
theorem dX12_qFact_69 : decode cX12_qFact 69 = .ok (.iadd, 1) := by decide +kernel
theorem dX12_qFact_70 : decode cX12_qFact 70 = .ok (.putfield 248, 3) := by decide +kernel
theorem dX12_qFact_73 : decode cX12_qFact 73 = .ok (.aload_n 0, 1) := by decide +kernel
theorem dX12_qFact_74 : decode cX12_qFact 74 = .ok (.invokevirtual 356, 3) := by decide +kernel
theorem dX12_qFact_77 : decode cX12_qFact 77 = .ok (.aload_n 0, 1) := by decide +kernel
theorem dX12_qFact_78 : decode cX12_qFact 78 = .ok (.iload_n 1, 1) := by decide +kernel
theorem dX12_qFact_79 : decode cX12_qFact 79 = .ok (.bipush 60, 2) := by decide +kernel
theorem dX12_qFact_81 : decode cX12_qFact 81 = .ok (.if_icmp .ne 8, 3) := by decide +kernel
theorem dX12_qFact_84 : decode cX12_qFact 84 = .ok (.bipush 7, 2) := by decide +kernel
theorem dX12_qFact_86 : decode cX12_qFact 86 = .ok (.goto 16, 3) := by decide +kernel
theorem dX12_qFact_89 : decode cX12_qFact 89 = .ok (.iload_n 1, 1) := by decide +kernel
theorem dX12_qFact_90 : decode cX12_qFact 90 = .ok (.bipush 62, 2) := by decide +kernel
theorem dX12_qFact_92 : decode cX12_qFact 92 = .ok (.if_icmp .ne 8, 3) := by decide +kernel
theorem dX12_qFact_95 : decode cX12_qFact 95 = .ok (.bipush 8, 2) := by decide +kernel
theorem dX12_qFact_97 : decode cX12_qFact 97 = .ok (.goto 5, 3) := by decide +kernel
theorem dX12_qFact_100 : decode cX12_qFact 100 = .ok (.bipush 9, 2) := by decide +kernel
theorem dX12_qFact_102 : decode cX12_qFact 102 = .ok (.invokevirtual 604, 3) := by decide +kernel
theorem dX12_qFact_105 : decode cX12_qFact 105 = .ok (.return_, 1) := by decide +kernel
theorem dX12_qHasSquare_0 : decode cX12_qHasSquare 0 = .ok (.iconst 0, 1) := by decide +kernel
theorem dX12_qHasSquare_1 : decode cX12_qHasSquare 1 = .ok (.istore_n 1, 1) := by decide +kernel
theorem dX12_qHasSquare_2 : decode cX12_qHasSquare 2 = .ok (.iload_n 1, 1) := by decide +kernel
theorem dX12_qHasSquare_3 : decode cX12_qHasSquare 3 = .ok (.aload_n 0, 1) := by decide +kernel
theorem dX12_qHasSquare_4 : decode cX12_qHasSquare 4 = .ok (.getfield 344, 3) := by decide +kernel
theorem dX12_qHasSquare_7 : decode cX12_qHasSquare 7 = .ok (.if_icmp .ge 22, 3) := by decide +kernel
theorem dX12_qHasSquare_10 : decode cX12_qHasSquare 10 = .ok (.aload_n 0, 1) := by decide +kernel
theorem dX12_qHasSquare_11 : decode cX12_qHasSquare 11 = .ok (.getfield 230, 3) := by decide +kernel
theorem dX12_qHasSquare_14 : decode cX12_qHasSquare 14 = .ok (.iload_n 1, 1) := by decide +kernel
theorem dX12_qHasSquare_15 : decode cX12_qHasSquare 15 = .ok (.iaload, 1) := by decide +kernel
theorem dX12_qHasSquare_16 : decode cX12_qHasSquare 16 = .ok (.bipush 25, 2) := by decide +kernel
theorem dX12_qHasSquare_18 : decode cX12_qHasSquare 18 = .ok (.if_icmp .ne 5, 3) := by decide +kernel
theorem dX12_qHasSquare_21 : decode cX12_qHasSquare 21 = .ok (.iconst 1, 1) := by decide +kernel
theorem dX12_qHasSquare_22 : decode cX12_qHasSquare 22 = .ok (.ireturn, 1) := by decide +kernel
theorem dX12_qHasSquare_23 : decode cX12_qHasSquare 23 = .ok (.iinc 1 1, 3) := by decide +kernel
theorem dX12_qHasSquare_26 : decode cX12_qHasSquare 26 = .ok (.goto (-24), 3) := by decide +kernel
theorem dX12_qHasSquare_29 : decode cX12_qHasSquare 29 = .ok (.iconst 0, 1) := by decide +kernel
theorem dX12_qHasSquare_30 : decode cX12_qHasSquare 30 = .ok (.ireturn, 1) := by decide +kernel
theorem dX12_qDropsNots_0 : decode cX12_qDropsNots 0 = .ok (.aload_n 0, 1) := by decide +kernel
theorem dX12_qDropsNots_1 : decode cX12_qDropsNots 1 = .ok (.getfield 242, 3) := by decide +kernel
theorem dX12_qDropsNots_4 : decode cX12_qDropsNots 4 = .ok (.ifCond .ne 29, 3) := by decide +kernel
theorem dX12_qDropsNots_7 : decode cX12_qDropsNots 7 = .ok (.aload_n 0, 1) := by decide +kernel
theorem dX12_qDropsNots_8 : decode cX12_qDropsNots 8 = .ok (.bipush 12, 2) := by decide +kernel
theorem dX12_qDropsNots_10 : decode cX12_qDropsNots 10 = .ok (.invokevirtual 637, 3) := by decide +kernel
theorem dX12_qDropsNots_13 : decode cX12_qDropsNots 13 = .ok (.ifCond .eq 20, 3) := by decide +kernel
theorem dX12_qDropsNots_16 : decode cX12_qDropsNots 16 = .ok (.aload_n 0, 1) := by decide +kernel
theorem dX12_qDropsNots_17 : decode cX12_qDropsNots 17 = .ok (.dup, 1) := by decide +kernel
theorem dX12_qDropsNots_18 : decode cX12_qDropsNots 18 = .ok (.getfield 347, 3) := by decide +kernel
theorem dX12_qDropsNots_21 : decode cX12_qDropsNots 21 = .ok (.iconst 1, 1) := by decide +kernel
theorem dX12_qDropsNots_22 : decode cX12_qDropsNots 22 = .ok (.isub, 1) := by decide +kernel
theorem dX12_qDropsNots_23 : decode cX12_qDropsNots 23 = .ok (.putfield 347, 3) := by decide +kernel
theorem dX12_qDropsNots_26 : decode cX12_qDropsNots 26 = .ok (.aload_n 0, 1) := by decide +kernel
theorem dX12_qDropsNots_27 : decode cX12_qDropsNots 27 = .ok (.invokevirtual 610, 3) := by decide +kernel
theorem dX12_qDropsNots_30 : decode cX12_qDropsNots 30 = .ok (.goto (-30), 3) := by decide +kernel
theorem dX12_qDropsNots_33 : decode cX12_qDropsNots 33 = .ok (.return_, 1) := by decide +kernel
theorem dX12_qTest_0 : decode cX12_qTest 0 = .ok (.iconst 1, 1) := by decide +kernel
theorem dX12_qTest_1 : decode cX12_qTest 1 = .ok (.istore_n 1, 1) := by decide +kernel
theorem dX12_qTest_2 : decode cX12_qTest 2 = .ok (.iload_n 1, 1) := by decide +kernel
theorem dX12_qTest_3 : decode cX12_qTest 3 = .ok (.ifCond .eq 107, 3) := by decide +kernel
theorem dX12_qTest_6 : decode cX12_qTest 6 = .ok (.aload_n 0, 1) := by decide +kernel
theorem dX12_qTest_7 : decode cX12_qTest 7 = .ok (.getfield 242, 3) := by decide +kernel
theorem dX12_qTest_10 : decode cX12_qTest 10 = .ok (.ifCond .ne 100, 3) := by decide +kernel
theorem dX12_qTest_13 : decode cX12_qTest 13 = .ok (.aload_n 0, 1) := by decide +kernel
theorem dX12_qTest_14 : decode cX12_qTest 14 = .ok (.invokevirtual 254, 3) := by decide +kernel
theorem dX12_qTest_17 : decode cX12_qTest 17 = .ok (.istore_n 2, 1) := by decide +kernel
theorem dX12_qTest_18 : decode cX12_qTest 18 = .ok (.iload_n 2, 1) := by decide +kernel
theorem dX12_qTest_19 : decode cX12_qTest 19 = .ok (.bipush 91, 2) := by decide +kernel
theorem dX12_qTest_21 : decode cX12_qTest 21 = .ok (.if_icmp .ne 26, 3) := by decide +kernel
theorem dX12_qTest_24 : decode cX12_qTest 24 = .ok (.aload_n 0, 1) := by decide +kernel
theorem dX12_qTest_25 : decode cX12_qTest 25 = .ok (.bipush 25, 2) := by decide +kernel
theorem dX12_qTest_27 : decode cX12_qTest 27 = .ok (.aload_n 0, 1) := by decide +kernel
theorem dX12_qTest_28 : decode cX12_qTest 28 = .ok (.getfield 248, 3) := by decide +kernel
theorem dX12_qTest_31 : decode cX12_qTest 31 = .ok (.invokevirtual 622, 3) := by decide +kernel
theorem dX12_qTest_34 : decode cX12_qTest 34 = .ok (.aload_n 0, 1) := by decide +kernel
theorem dX12_qTest_35 : decode cX12_qTest 35 = .ok (.dup, 1) := by decide +kernel
theorem dX12_qTest_36 : decode cX12_qTest 36 = .ok (.getfield 248, 3) := by decide +kernel
theorem dX12_qTest_39 : decode cX12_qTest 39 = .ok (.iconst 1, 1) := by decide +kernel
theorem dX12_qTest_40 : decode cX12_qTest 40 = .ok (.iadd, 1) := by decide +kernel
theorem dX12_qTest_41 : decode cX12_qTest 41 = .ok (.putfield 248, 3) := by decide +kernel
theorem dX12_qTest_44 : decode cX12_qTest 44 = .ok (.goto (-42), 3) := by decide +kernel
theorem dX12_qTest_47 : decode cX12_qTest 47 = .ok (.aload_n 0, 1) := by decide +kernel
theorem dX12_qTest_48 : decode cX12_qTest 48 = .ok (.aload_n 0, 1) := by decide +kernel
theorem dX12_qTest_49 : decode cX12_qTest 49 = .ok (.getfield 179, 3) := by decide +kernel
theorem dX12_qTest_52 : decode cX12_qTest 52 = .ok (.invokevirtual 265, 3) := by decide +kernel
theorem dX12_qTest_55 : decode cX12_qTest 55 = .ok (.ifCond .eq 24, 3) := by decide +kernel
theorem dX12_qTest_58 : decode cX12_qTest 58 = .ok (.aload_n 0, 1) := by decide +kernel
theorem dX12_qTest_59 : decode cX12_qTest 59 = .ok (.bipush 12, 2) := by decide +kernel
theorem dX12_qTest_61 : decode cX12_qTest 61 = .ok (.aload_n 0, 1) := by decide +kernel
theorem dX12_qTest_62 : decode cX12_qTest 62 = .ok (.getfield 248, 3) := by decide +kernel
theorem dX12_qTest_65 : decode cX12_qTest 65 = .ok (.invokevirtual 622, 3) := by decide +kernel
theorem dX12_qTest_68 : decode cX12_qTest 68 = .ok (.aload_n 0, 1) := by decide +kernel
theorem dX12_qTest_69 : decode cX12_qTest 69 = .ok (.aload_n 0, 1) := by decide +kernel
theorem dX12_qTest_70 : decode cX12_qTest 70 = .ok (.getfield 179, 3) := by decide +kernel
theorem dX12_qTest_73 : decode cX12_qTest 73 = .ok (.invokevirtual 319, 3) := by decide +kernel
theorem dX12_qTest_76 : decode cX12_qTest 76 = .ok (.goto (-74), 3) := by decide +kernel
theorem dX12_qTest_79 : decode cX12_qTest 79 = .ok (.aload_n 0, 1) := by decide +kernel
theorem dX12_qTest_80 : decode cX12_qTest 80 = .ok (.invokevirtual 646, 3) := by decide +kernel
theorem dX12_qTest_83 : decode cX12_qTest 83 = .ok (.aload_n 0, 1) := by decide +kernel
theorem dX12_qTest_84 : decode cX12_qTest 84 = .ok (.invokevirtual 649, 3) := by decide +kernel
theorem dX12_qTest_87 : decode cX12_qTest 87 = .ok (.aload_n 0, 1) := by decide +kernel
theorem dX12_qTest_88 : decode cX12_qTest 88 = .ok (.getfield 242, 3) := by decide +kernel
theorem dX12_qTest_91 : decode cX12_qTest 91 = .ok (.ifCond .ne 14, 3) := by decide +kernel
theorem dX12_qTest_94 : decode cX12_qTest 94 = .ok (.aload_n 0, 1) := by decide +kernel
theorem dX12_qTest_95 : decode cX12_qTest 95 = .ok (.invokevirtual 652, 3) := by decide +kernel
theorem dX12_qTest_98 : decode cX12_qTest 98 = .ok (.ifCond .eq 7, 3) := by decide +kernel
theorem dX12_qTest_101 : decode cX12_qTest 101 = .ok (.iconst 1, 1) := by decide +kernel
theorem dX12_qTest_102 : decode cX12_qTest 102 = .ok (.goto 4, 3) := by decide +kernel
theorem dX12_qTest_105 : decode cX12_qTest 105 = .ok (.iconst 0, 1) := by decide +kernel
theorem dX12_qTest_106 : decode cX12_qTest 106 = .ok (.istore_n 1, 1) := by decide +kernel
theorem dX12_qTest_107 : decode cX12_qTest 107 = .ok (.goto (-105), 3) := by decide +kernel
theorem dX12_qTest_110 : decode cX12_qTest 110 = .ok (.aload_n 0, 1) := by decide +kernel
theorem dX12_qTest_111 : decode cX12_qTest 111 = .ok (.getfield 242, 3) := by decide +kernel
theorem dX12_qTest_114 : decode cX12_qTest 114 = .ok (.ifCond .ne 17, 3) := by decide +kernel
theorem dX12_qTest_117 : decode cX12_qTest 117 = .ok (.aload_n 0, 1) := by decide +kernel
theorem dX12_qTest_118 : decode cX12_qTest 118 = .ok (.getfield 344, 3) := by decide +kernel
theorem dX12_qTest_121 : decode cX12_qTest 121 = .ok (.ifCond .le 10, 3) := by decide +kernel
theorem dX12_qTest_124 : decode cX12_qTest 124 = .ok (.aload_n 0, 1) := by decide +kernel
theorem dX12_qTest_125 : decode cX12_qTest 125 = .ok (.invokevirtual 610, 3) := by decide +kernel
theorem dX12_qTest_128 : decode cX12_qTest 128 = .ok (.goto (-18), 3) := by decide +kernel
theorem dX12_qTest_131 : decode cX12_qTest 131 = .ok (.return_, 1) := by decide +kernel
theorem dX12_qGoesOnTest_0 : decode cX12_qGoesOnTest 0 = .ok (.aload_n 0, 1) := by decide +kernel
theorem dX12_qGoesOnTest_1 : decode cX12_qGoesOnTest 1 = .ok (.getfield 242, 3) := by decide +kernel
theorem dX12_qGoesOnTest_4 : decode cX12_qGoesOnTest 4 = .ok (.ifCond .ne 72, 3) := by decide +kernel
theorem dX12_qGoesOnTest_7 : decode cX12_qGoesOnTest 7 = .ok (.aload_n 0, 1) := by decide +kernel
theorem dX12_qGoesOnTest_8 : decode cX12_qGoesOnTest 8 = .ok (.invokevirtual 254, 3) := by decide +kernel
theorem dX12_qGoesOnTest_11 : decode cX12_qGoesOnTest 11 = .ok (.bipush 93, 2) := by decide +kernel
theorem dX12_qGoesOnTest_13 : decode cX12_qGoesOnTest 13 = .ok (.if_icmp .ne 63, 3) := by decide +kernel
theorem dX12_qGoesOnTest_16 : decode cX12_qGoesOnTest 16 = .ok (.aload_n 0, 1) := by decide +kernel
theorem dX12_qGoesOnTest_17 : decode cX12_qGoesOnTest 17 = .ok (.invokevirtual 655, 3) := by decide +kernel
theorem dX12_qGoesOnTest_20 : decode cX12_qGoesOnTest 20 = .ok (.ifCond .eq 56, 3) := by decide +kernel
theorem dX12_qGoesOnTest_23 : decode cX12_qGoesOnTest 23 = .ok (.aload_n 0, 1) := by decide +kernel
theorem dX12_qGoesOnTest_24 : decode cX12_qGoesOnTest 24 = .ok (.dup, 1) := by decide +kernel
theorem dX12_qGoesOnTest_25 : decode cX12_qGoesOnTest 25 = .ok (.getfield 248, 3) := by decide +kernel
theorem dX12_qGoesOnTest_28 : decode cX12_qGoesOnTest 28 = .ok (.iconst 1, 1) := by decide +kernel
theorem dX12_qGoesOnTest_29 : decode cX12_qGoesOnTest 29 = .ok (.iadd, 1) := by decide +kernel
theorem dX12_qGoesOnTest_30 : decode cX12_qGoesOnTest 30 = .ok (.putfield 248, 3) := by decide +kernel
theorem dX12_qGoesOnTest_33 : decode cX12_qGoesOnTest 33 = .ok (.aload_n 0, 1) := by decide +kernel
theorem dX12_qGoesOnTest_34 : decode cX12_qGoesOnTest 34 = .ok (.bipush 25, 2) := by decide +kernel
theorem dX12_qGoesOnTest_36 : decode cX12_qGoesOnTest 36 = .ok (.invokevirtual 637, 3) := by decide +kernel
theorem dX12_qGoesOnTest_39 : decode cX12_qGoesOnTest 39 = .ok (.ifCond .ne 10, 3) := by decide +kernel
theorem dX12_qGoesOnTest_42 : decode cX12_qGoesOnTest 42 = .ok (.aload_n 0, 1) := by decide +kernel
theorem dX12_qGoesOnTest_43 : decode cX12_qGoesOnTest 43 = .ok (.invokevirtual 610, 3) := by decide +kernel
theorem dX12_qGoesOnTest_46 : decode cX12_qGoesOnTest 46 = .ok (.goto (-13), 3) := by decide +kernel
theorem dX12_qGoesOnTest_49 : decode cX12_qGoesOnTest 49 = .ok (.aload_n 0, 1) := by decide +kernel
theorem dX12_qGoesOnTest_50 : decode cX12_qGoesOnTest 50 = .ok (.dup, 1) := by decide +kernel
theorem dX12_qGoesOnTest_51 : decode cX12_qGoesOnTest 51 = .ok (.getfield 344, 3) := by decide +kernel
theorem dX12_qGoesOnTest_54 : decode cX12_qGoesOnTest 54 = .ok (.iconst 1, 1) := by decide +kernel
theorem dX12_qGoesOnTest_55 : decode cX12_qGoesOnTest 55 = .ok (.isub, 1) := by decide +kernel
theorem dX12_qGoesOnTest_56 : decode cX12_qGoesOnTest 56 = .ok (.putfield 344, 3) := by decide +kernel
theorem dX12_qGoesOnTest_59 : decode cX12_qGoesOnTest 59 = .ok (.aload_n 0, 1) := by decide +kernel
theorem dX12_qGoesOnTest_60 : decode cX12_qGoesOnTest 60 = .ok (.dup, 1) := by decide +kernel
theorem dX12_qGoesOnTest_61 : decode cX12_qGoesOnTest 61 = .ok (.getfield 347, 3) := by decide +kernel
theorem dX12_qGoesOnTest_64 : decode cX12_qGoesOnTest 64 = .ok (.iconst 1, 1) := by decide +kernel
theorem dX12_qGoesOnTest_65 : decode cX12_qGoesOnTest 65 = .ok (.isub, 1) := by decide +kernel
theorem dX12_qGoesOnTest_66 : decode cX12_qGoesOnTest 66 = .ok (.putfield 347, 3) := by decide +kernel
theorem dX12_qGoesOnTest_69 : decode cX12_qGoesOnTest 69 = .ok (.aload_n 0, 1) := by decide +kernel
theorem dX12_qGoesOnTest_70 : decode cX12_qGoesOnTest 70 = .ok (.invokevirtual 649, 3) := by decide +kernel
theorem dX12_qGoesOnTest_73 : decode cX12_qGoesOnTest 73 = .ok (.goto (-73), 3) := by decide +kernel
theorem dX12_qGoesOnTest_76 : decode cX12_qGoesOnTest 76 = .ok (.aload_n 0, 1) := by decide +kernel
theorem dX12_qGoesOnTest_77 : decode cX12_qGoesOnTest 77 = .ok (.aload_n 0, 1) := by decide +kernel
theorem dX12_qGoesOnTest_78 : decode cX12_qGoesOnTest 78 = .ok (.getfield 182, 3) := by decide +kernel
theorem dX12_qGoesOnTest_81 : decode cX12_qGoesOnTest 81 = .ok (.invokevirtual 269, 3) := by decide +kernel
theorem dX12_qGoesOnTest_84 : decode cX12_qGoesOnTest 84 = .ok (.ifCond .eq 42, 3) := by decide +kernel
theorem dX12_qGoesOnTest_87 : decode cX12_qGoesOnTest 87 = .ok (.aload_n 0, 1) := by decide +kernel
theorem dX12_qGoesOnTest_88 : decode cX12_qGoesOnTest 88 = .ok (.bipush 10, 2) := by decide +kernel
theorem dX12_qGoesOnTest_90 : decode cX12_qGoesOnTest 90 = .ok (.invokevirtual 637, 3) := by decide +kernel
theorem dX12_qGoesOnTest_93 : decode cX12_qGoesOnTest 93 = .ok (.ifCond .eq 10, 3) := by decide +kernel
theorem dX12_qGoesOnTest_96 : decode cX12_qGoesOnTest 96 = .ok (.aload_n 0, 1) := by decide +kernel
theorem dX12_qGoesOnTest_97 : decode cX12_qGoesOnTest 97 = .ok (.invokevirtual 610, 3) := by decide +kernel
theorem dX12_qGoesOnTest_100 : decode cX12_qGoesOnTest 100 = .ok (.goto (-13), 3) := by decide +kernel
theorem dX12_qGoesOnTest_103 : decode cX12_qGoesOnTest 103 = .ok (.aload_n 0, 1) := by decide +kernel
theorem dX12_qGoesOnTest_104 : decode cX12_qGoesOnTest 104 = .ok (.getfield 230, 3) := by decide +kernel
theorem dX12_qGoesOnTest_107 : decode cX12_qGoesOnTest 107 = .ok (.aload_n 0, 1) := by decide +kernel
theorem dX12_qGoesOnTest_108 : decode cX12_qGoesOnTest 108 = .ok (.getfield 344, 3) := by decide +kernel
theorem dX12_qGoesOnTest_111 : decode cX12_qGoesOnTest 111 = .ok (.bipush 10, 2) := by decide +kernel
theorem dX12_qGoesOnTest_113 : decode cX12_qGoesOnTest 113 = .ok (.iastore, 1) := by decide +kernel
theorem dX12_qGoesOnTest_114 : decode cX12_qGoesOnTest 114 = .ok (.aload_n 0, 1) := by decide +kernel
theorem dX12_qGoesOnTest_115 : decode cX12_qGoesOnTest 115 = .ok (.dup, 1) := by decide +kernel
theorem dX12_qGoesOnTest_116 : decode cX12_qGoesOnTest 116 = .ok (.getfield 344, 3) := by decide +kernel
theorem dX12_qGoesOnTest_119 : decode cX12_qGoesOnTest 119 = .ok (.iconst 1, 1) := by decide +kernel
theorem dX12_qGoesOnTest_120 : decode cX12_qGoesOnTest 120 = .ok (.iadd, 1) := by decide +kernel
theorem dX12_qGoesOnTest_121 : decode cX12_qGoesOnTest 121 = .ok (.putfield 344, 3) := by decide +kernel
theorem dX12_qGoesOnTest_124 : decode cX12_qGoesOnTest 124 = .ok (.iconst 1, 1) := by decide +kernel
theorem dX12_qGoesOnTest_125 : decode cX12_qGoesOnTest 125 = .ok (.ireturn, 1) := by decide +kernel
theorem dX12_qGoesOnTest_126 : decode cX12_qGoesOnTest 126 = .ok (.aload_n 0, 1) := by decide +kernel
theorem dX12_qGoesOnTest_127 : decode cX12_qGoesOnTest 127 = .ok (.aload_n 0, 1) := by decide +kernel
theorem dX12_qGoesOnTest_128 : decode cX12_qGoesOnTest 128 = .ok (.getfield 185, 3) := by decide +kernel
theorem dX12_qGoesOnTest_131 : decode cX12_qGoesOnTest 131 = .ok (.invokevirtual 269, 3) := by decide +kernel
theorem dX12_qGoesOnTest_134 : decode cX12_qGoesOnTest 134 = .ok (.ifCond .eq 51, 3) := by decide +kernel
theorem dX12_qGoesOnTest_137 : decode cX12_qGoesOnTest 137 = .ok (.aload_n 0, 1) := by decide +kernel
theorem dX12_qGoesOnTest_138 : decode cX12_qGoesOnTest 138 = .ok (.bipush 10, 2) := by decide +kernel
theorem dX12_qGoesOnTest_140 : decode cX12_qGoesOnTest 140 = .ok (.invokevirtual 637, 3) := by decide +kernel
theorem dX12_qGoesOnTest_143 : decode cX12_qGoesOnTest 143 = .ok (.ifCond .ne 12, 3) := by decide +kernel
theorem dX12_qGoesOnTest_146 : decode cX12_qGoesOnTest 146 = .ok (.aload_n 0, 1) := by decide +kernel
theorem dX12_qGoesOnTest_147 : decode cX12_qGoesOnTest 147 = .ok (.bipush 11, 2) := by decide +kernel
theorem dX12_qGoesOnTest_149 : decode cX12_qGoesOnTest 149 = .ok (.invokevirtual 637, 3) := by decide +kernel
theorem dX12_qGoesOnTest_152 : decode cX12_qGoesOnTest 152 = .ok (.ifCond .eq 10, 3) := by decide +kernel
theorem dX12_qGoesOnTest_155 : decode cX12_qGoesOnTest 155 = .ok (.aload_n 0, 1) := by decide +kernel
theorem dX12_qGoesOnTest_156 : decode cX12_qGoesOnTest 156 = .ok (.invokevirtual 610, 3) := by decide +kernel
theorem dX12_qGoesOnTest_159 : decode cX12_qGoesOnTest 159 = .ok (.goto (-22), 3) := by decide +kernel
theorem dX12_qGoesOnTest_162 : decode cX12_qGoesOnTest 162 = .ok (.aload_n 0, 1) := by decide +kernel
theorem dX12_qGoesOnTest_163 : decode cX12_qGoesOnTest 163 = .ok (.getfield 230, 3) := by decide +kernel
theorem dX12_qGoesOnTest_166 : decode cX12_qGoesOnTest 166 = .ok (.aload_n 0, 1) := by decide +kernel
theorem dX12_qGoesOnTest_167 : decode cX12_qGoesOnTest 167 = .ok (.getfield 344, 3) := by decide +kernel
theorem dX12_qGoesOnTest_170 : decode cX12_qGoesOnTest 170 = .ok (.bipush 11, 2) := by decide +kernel
theorem dX12_qGoesOnTest_172 : decode cX12_qGoesOnTest 172 = .ok (.iastore, 1) := by decide +kernel
theorem dX12_qGoesOnTest_173 : decode cX12_qGoesOnTest 173 = .ok (.aload_n 0, 1) := by decide +kernel
theorem dX12_qGoesOnTest_174 : decode cX12_qGoesOnTest 174 = .ok (.dup, 1) := by decide +kernel
theorem dX12_qGoesOnTest_175 : decode cX12_qGoesOnTest 175 = .ok (.getfield 344, 3) := by decide +kernel
theorem dX12_qGoesOnTest_178 : decode cX12_qGoesOnTest 178 = .ok (.iconst 1, 1) := by decide +kernel
theorem dX12_qGoesOnTest_179 : decode cX12_qGoesOnTest 179 = .ok (.iadd, 1) := by decide +kernel
theorem dX12_qGoesOnTest_180 : decode cX12_qGoesOnTest 180 = .ok (.putfield 344, 3) := by decide +kernel
theorem dX12_qGoesOnTest_183 : decode cX12_qGoesOnTest 183 = .ok (.iconst 1, 1) := by decide +kernel
theorem dX12_qGoesOnTest_184 : decode cX12_qGoesOnTest 184 = .ok (.ireturn, 1) := by decide +kernel
theorem dX12_qGoesOnTest_185 : decode cX12_qGoesOnTest 185 = .ok (.aload_n 0, 1) := by decide +kernel
theorem dX12_qGoesOnTest_186 : decode cX12_qGoesOnTest 186 = .ok (.getfield 242, 3) := by decide +kernel
theorem dX12_qGoesOnTest_189 : decode cX12_qGoesOnTest 189 = .ok (.ifCond .ne 19, 3) := by decide +kernel
theorem dX12_qGoesOnTest_192 : decode cX12_qGoesOnTest 192 = .ok (.aload_n 0, 1) := by decide +kernel
theorem dX12_qGoesOnTest_193 : decode cX12_qGoesOnTest 193 = .ok (.invokevirtual 655, 3) := by decide +kernel
theorem dX12_qGoesOnTest_196 : decode cX12_qGoesOnTest 196 = .ok (.ifCond .eq 12, 3) := by decide +kernel
theorem dX12_qGoesOnTest_199 : decode cX12_qGoesOnTest 199 = .ok (.aload_n 0, 1) := by decide +kernel
theorem dX12_qGoesOnTest_200 : decode cX12_qGoesOnTest 200 = .ok (.iconst 1, 1) := by decide +kernel
theorem dX12_qGoesOnTest_201 : decode cX12_qGoesOnTest 201 = .ok (.aload_n 0, 1) := by decide +kernel
theorem dX12_qGoesOnTest_202 : decode cX12_qGoesOnTest 202 = .ok (.getfield 248, 3) := by decide +kernel
theorem dX12_qGoesOnTest_205 : decode cX12_qGoesOnTest 205 = .ok (.invokevirtual 272, 3) := by decide +kernel
theorem dX12_qGoesOnTest_208 : decode cX12_qGoesOnTest 208 = .ok (.iconst 0, 1) := by decide +kernel
theorem dX12_qGoesOnTest_209 : decode cX12_qGoesOnTest 209 = .ok (.ireturn, 1) := by decide +kernel
theorem dX12_qClip_0 : decode cX12_qClip 0 = .ok (.lload_n 0, 1) := by decide +kernel
theorem dX12_qClip_1 : decode cX12_qClip 1 = .ok (.ldc2_w 658, 3) := by decide +kernel
theorem dX12_qClip_4 : decode cX12_qClip 4 = .ok (.lcmp, 1) := by decide +kernel
theorem dX12_qClip_5 : decode cX12_qClip 5 = .ok (.ifCond .le 9, 3) := by decide +kernel
theorem dX12_qClip_8 : decode cX12_qClip 8 = .ok (.ldc2_w 658, 3) := by decide +kernel
theorem dX12_qClip_11 : decode cX12_qClip 11 = .ok (.goto 18, 3) := by decide +kernel
theorem dX12_qClip_14 : decode cX12_qClip 14 = .ok (.lload_n 0, 1) := by decide +kernel
theorem dX12_qClip_15 : decode cX12_qClip 15 = .ok (.ldc2_w 660, 3) := by decide +kernel
theorem dX12_qClip_18 : decode cX12_qClip 18 = .ok (.lcmp, 1) := by decide +kernel
theorem dX12_qClip_19 : decode cX12_qClip 19 = .ok (.ifCond .ge 9, 3) := by decide +kernel
theorem dX12_qClip_22 : decode cX12_qClip 22 = .ok (.ldc2_w 660, 3) := by decide +kernel
theorem dX12_qClip_25 : decode cX12_qClip 25 = .ok (.goto 4, 3) := by decide +kernel
theorem dX12_qClip_28 : decode cX12_qClip 28 = .ok (.lload_n 0, 1) := by decide +kernel
theorem dX12_qClip_29 : decode cX12_qClip 29 = .ok (.lreturn, 1) := by decide +kernel
theorem dX12_qFloor_0 : decode cX12_qFloor 0 = .ok (.lload_n 2, 1) := by decide +kernel
theorem dX12_qFloor_1 : decode cX12_qFloor 1 = .ok (.lconst 0, 1) := by decide +kernel
theorem dX12_qFloor_2 : decode cX12_qFloor 2 = .ok (.lcmp, 1) := by decide +kernel
theorem dX12_qFloor_3 : decode cX12_qFloor 3 = .ok (.ifCond .ne 5, 3) := by decide +kernel
theorem dX12_qFloor_6 : decode cX12_qFloor 6 = .ok (.lconst 0, 1) := by decide +kernel
theorem dX12_qFloor_7 : decode cX12_qFloor 7 = .ok (.lreturn, 1) := by decide +kernel
theorem dX12_qFloor_8 : decode cX12_qFloor 8 = .ok (.lload_n 0, 1) := by decide +kernel
theorem dX12_qFloor_9 : decode cX12_qFloor 9 = .ok (.lload_n 2, 1) := by decide +kernel
theorem dX12_qFloor_10 : decode cX12_qFloor 10 = .ok (.ldiv, 1) := by decide +kernel
theorem dX12_qFloor_11 : decode cX12_qFloor 11 = .ok (.lstore 4, 2) := by decide +kernel
theorem dX12_qFloor_13 : decode cX12_qFloor 13 = .ok (.lload_n 0, 1) := by decide +kernel
theorem dX12_qFloor_14 : decode cX12_qFloor 14 = .ok (.lload_n 2, 1) := by decide +kernel
theorem dX12_qFloor_15 : decode cX12_qFloor 15 = .ok (.lrem, 1) := by decide +kernel
theorem dX12_qFloor_16 : decode cX12_qFloor 16 = .ok (.lconst 0, 1) := by decide +kernel
theorem dX12_qFloor_17 : decode cX12_qFloor 17 = .ok (.lcmp, 1) := by decide +kernel
theorem dX12_qFloor_18 : decode cX12_qFloor 18 = .ok (.ifCond .eq 35, 3) := by decide +kernel
theorem dX12_qFloor_21 : decode cX12_qFloor 21 = .ok (.lload_n 0, 1) := by decide +kernel
theorem dX12_qFloor_22 : decode cX12_qFloor 22 = .ok (.lconst 0, 1) := by decide +kernel
theorem dX12_qFloor_23 : decode cX12_qFloor 23 = .ok (.lcmp, 1) := by decide +kernel
theorem dX12_qFloor_24 : decode cX12_qFloor 24 = .ok (.ifCond .ge 7, 3) := by decide +kernel
theorem dX12_qFloor_27 : decode cX12_qFloor 27 = .ok (.iconst 1, 1) := by decide +kernel
theorem dX12_qFloor_28 : decode cX12_qFloor 28 = .ok (.goto 4, 3) := by decide +kernel
theorem dX12_qFloor_31 : decode cX12_qFloor 31 = .ok (.iconst 0, 1) := by decide +kernel
theorem dX12_qFloor_32 : decode cX12_qFloor 32 = .ok (.lload_n 2, 1) := by decide +kernel
theorem dX12_qFloor_33 : decode cX12_qFloor 33 = .ok (.lconst 0, 1) := by decide +kernel
theorem dX12_qFloor_34 : decode cX12_qFloor 34 = .ok (.lcmp, 1) := by decide +kernel
theorem dX12_qFloor_35 : decode cX12_qFloor 35 = .ok (.ifCond .ge 7, 3) := by decide +kernel
theorem dX12_qFloor_38 : decode cX12_qFloor 38 = .ok (.iconst 1, 1) := by decide +kernel
theorem dX12_qFloor_39 : decode cX12_qFloor 39 = .ok (.goto 4, 3) := by decide +kernel
theorem dX12_qFloor_42 : decode cX12_qFloor 42 = .ok (.iconst 0, 1) := by decide +kernel
theorem dX12_qFloor_43 : decode cX12_qFloor 43 = .ok (.if_icmp .eq 10, 3) := by decide +kernel
theorem dX12_qFloor_46 : decode cX12_qFloor 46 = .ok (.lload 4, 2) := by decide +kernel
theorem dX12_qFloor_48 : decode cX12_qFloor 48 = .ok (.lconst 1, 1) := by decide +kernel
theorem dX12_qFloor_49 : decode cX12_qFloor 49 = .ok (.lsub, 1) := by decide +kernel
theorem dX12_qFloor_50 : decode cX12_qFloor 50 = .ok (.goto 5, 3) := by decide +kernel
theorem dX12_qFloor_53 : decode cX12_qFloor 53 = .ok (.lload 4, 2) := by decide +kernel
theorem dX12_qFloor_55 : decode cX12_qFloor 55 = .ok (.lreturn, 1) := by decide +kernel
theorem dX12_qPuts_0 : decode cX12_qPuts 0 = .ok (.aload_n 0, 1) := by decide +kernel
theorem dX12_qPuts_1 : decode cX12_qPuts 1 = .ok (.getfield 233, 3) := by decide +kernel
theorem dX12_qPuts_4 : decode cX12_qPuts 4 = .ok (.aload_n 0, 1) := by decide +kernel
theorem dX12_qPuts_5 : decode cX12_qPuts 5 = .ok (.getfield 416, 3) := by decide +kernel
theorem dX12_qPuts_8 : decode cX12_qPuts 8 = .ok (.lload_n 1, 1) := by decide +kernel
theorem dX12_qPuts_9 : decode cX12_qPuts 9 = .ok (.lastore, 1) := by decide +kernel
theorem dX12_qPuts_10 : decode cX12_qPuts 10 = .ok (.aload_n 0, 1) := by decide +kernel
theorem dX12_qPuts_11 : decode cX12_qPuts 11 = .ok (.dup, 1) := by decide +kernel
theorem dX12_qPuts_12 : decode cX12_qPuts 12 = .ok (.getfield 416, 3) := by decide +kernel
theorem dX12_qPuts_15 : decode cX12_qPuts 15 = .ok (.iconst 1, 1) := by decide +kernel
theorem dX12_qPuts_16 : decode cX12_qPuts 16 = .ok (.iadd, 1) := by decide +kernel
theorem dX12_qPuts_17 : decode cX12_qPuts 17 = .ok (.putfield 416, 3) := by decide +kernel
theorem dX12_qPuts_20 : decode cX12_qPuts 20 = .ok (.return_, 1) := by decide +kernel
theorem dX12_qJoins_0 : decode cX12_qJoins 0 = .ok (.aload_n 0, 1) := by decide +kernel
theorem dX12_qJoins_1 : decode cX12_qJoins 1 = .ok (.getfield 233, 3) := by decide +kernel
theorem dX12_qJoins_4 : decode cX12_qJoins 4 = .ok (.aload_n 0, 1) := by decide +kernel
theorem dX12_qJoins_5 : decode cX12_qJoins 5 = .ok (.getfield 416, 3) := by decide +kernel
theorem dX12_qJoins_8 : decode cX12_qJoins 8 = .ok (.iconst 1, 1) := by decide +kernel
theorem dX12_qJoins_9 : decode cX12_qJoins 9 = .ok (.isub, 1) := by decide +kernel
theorem dX12_qJoins_10 : decode cX12_qJoins 10 = .ok (.laload, 1) := by decide +kernel
theorem dX12_qJoins_11 : decode cX12_qJoins 11 = .ok (.lstore_n 2, 1) := by decide +kernel
theorem dX12_qJoins_12 : decode cX12_qJoins 12 = .ok (.aload_n 0, 1) := by decide +kernel
theorem dX12_qJoins_13 : decode cX12_qJoins 13 = .ok (.getfield 233, 3) := by decide +kernel
theorem dX12_qJoins_16 : decode cX12_qJoins 16 = .ok (.aload_n 0, 1) := by decide +kernel
theorem dX12_qJoins_17 : decode cX12_qJoins 17 = .ok (.getfield 416, 3) := by decide +kernel
theorem dX12_qJoins_20 : decode cX12_qJoins 20 = .ok (.iconst 2, 1) := by decide +kernel
theorem dX12_qJoins_21 : decode cX12_qJoins 21 = .ok (.isub, 1) := by decide +kernel
theorem dX12_qJoins_22 : decode cX12_qJoins 22 = .ok (.laload, 1) := by decide +kernel
theorem dX12_qJoins_23 : decode cX12_qJoins 23 = .ok (.lstore 4, 2) := by decide +kernel
theorem dX12_qJoins_25 : decode cX12_qJoins 25 = .ok (.aload_n 0, 1) := by decide +kernel
theorem dX12_qJoins_26 : decode cX12_qJoins 26 = .ok (.dup, 1) := by decide +kernel
theorem dX12_qJoins_27 : decode cX12_qJoins 27 = .ok (.getfield 416, 3) := by decide +kernel
theorem dX12_qJoins_30 : decode cX12_qJoins 30 = .ok (.iconst 2, 1) := by decide +kernel
theorem dX12_qJoins_31 : decode cX12_qJoins 31 = .ok (.isub, 1) := by decide +kernel
theorem dX12_qJoins_32 : decode cX12_qJoins 32 = .ok (.putfield 416, 3) := by decide +kernel
theorem dX12_qJoins_35 : decode cX12_qJoins 35 = .ok (.iload_n 1, 1) := by decide +kernel
theorem dX12_qJoins_36 : decode cX12_qJoins 36 = .ok (.tableswitch 219 1 10 #[56, 70, 84, 98, 111, 131, 151, 170, 189, 208], 56) := by decide +kernel
theorem dX12_qJoins_92 : decode cX12_qJoins 92 = .ok (.aload_n 0, 1) := by decide +kernel
theorem dX12_qJoins_93 : decode cX12_qJoins 93 = .ok (.lload 4, 2) := by decide +kernel
theorem dX12_qJoins_95 : decode cX12_qJoins 95 = .ok (.lload_n 2, 1) := by decide +kernel
theorem dX12_qJoins_96 : decode cX12_qJoins 96 = .ok (.ladd, 1) := by decide +kernel
theorem dX12_qJoins_97 : decode cX12_qJoins 97 = .ok (.invokestatic 662, 3) := by decide +kernel
theorem dX12_qJoins_100 : decode cX12_qJoins 100 = .ok (.invokevirtual 419, 3) := by decide +kernel
theorem dX12_qJoins_103 : decode cX12_qJoins 103 = .ok (.goto 170, 3) := by decide +kernel
theorem dX12_qJoins_106 : decode cX12_qJoins 106 = .ok (.aload_n 0, 1) := by decide +kernel
theorem dX12_qJoins_107 : decode cX12_qJoins 107 = .ok (.lload 4, 2) := by decide +kernel
theorem dX12_qJoins_109 : decode cX12_qJoins 109 = .ok (.lload_n 2, 1) := by decide +kernel
theorem dX12_qJoins_110 : decode cX12_qJoins 110 = .ok (.lsub, 1) := by decide +kernel
theorem dX12_qJoins_111 : decode cX12_qJoins 111 = .ok (.invokestatic 662, 3) := by decide +kernel
theorem dX12_qJoins_114 : decode cX12_qJoins 114 = .ok (.invokevirtual 419, 3) := by decide +kernel
theorem dX12_qJoins_117 : decode cX12_qJoins 117 = .ok (.goto 156, 3) := by decide +kernel
theorem dX12_qJoins_120 : decode cX12_qJoins 120 = .ok (.aload_n 0, 1) := by decide +kernel
theorem dX12_qJoins_121 : decode cX12_qJoins 121 = .ok (.lload 4, 2) := by decide +kernel
theorem dX12_qJoins_123 : decode cX12_qJoins 123 = .ok (.lload_n 2, 1) := by decide +kernel
theorem dX12_qJoins_124 : decode cX12_qJoins 124 = .ok (.lmul, 1) := by decide +kernel
theorem dX12_qJoins_125 : decode cX12_qJoins 125 = .ok (.invokestatic 662, 3) := by decide +kernel
theorem dX12_qJoins_128 : decode cX12_qJoins 128 = .ok (.invokevirtual 419, 3) := by decide +kernel
theorem dX12_qJoins_131 : decode cX12_qJoins 131 = .ok (.goto 142, 3) := by decide +kernel
theorem dX12_qJoins_134 : decode cX12_qJoins 134 = .ok (.aload_n 0, 1) := by decide +kernel
theorem dX12_qJoins_135 : decode cX12_qJoins 135 = .ok (.lload 4, 2) := by decide +kernel
theorem dX12_qJoins_137 : decode cX12_qJoins 137 = .ok (.lload_n 2, 1) := by decide +kernel
theorem dX12_qJoins_138 : decode cX12_qJoins 138 = .ok (.invokestatic 666, 3) := by decide +kernel
theorem dX12_qJoins_141 : decode cX12_qJoins 141 = .ok (.invokevirtual 419, 3) := by decide +kernel
theorem dX12_qJoins_144 : decode cX12_qJoins 144 = .ok (.goto 129, 3) := by decide +kernel
theorem dX12_qJoins_147 : decode cX12_qJoins 147 = .ok (.aload_n 0, 1) := by decide +kernel
theorem dX12_qJoins_148 : decode cX12_qJoins 148 = .ok (.lload 4, 2) := by decide +kernel
theorem dX12_qJoins_150 : decode cX12_qJoins 150 = .ok (.lload_n 2, 1) := by decide +kernel
theorem dX12_qJoins_151 : decode cX12_qJoins 151 = .ok (.lcmp, 1) := by decide +kernel
theorem dX12_qJoins_152 : decode cX12_qJoins 152 = .ok (.ifCond .ge 8, 3) := by decide +kernel
theorem dX12_qJoins_155 : decode cX12_qJoins 155 = .ok (.lload 4, 2) := by decide +kernel
theorem dX12_qJoins_157 : decode cX12_qJoins 157 = .ok (.goto 4, 3) := by decide +kernel
theorem dX12_qJoins_160 : decode cX12_qJoins 160 = .ok (.lload_n 2, 1) := by decide +kernel
theorem dX12_qJoins_161 : decode cX12_qJoins 161 = .ok (.invokevirtual 419, 3) := by decide +kernel
theorem dX12_qJoins_164 : decode cX12_qJoins 164 = .ok (.goto 109, 3) := by decide +kernel
theorem dX12_qJoins_167 : decode cX12_qJoins 167 = .ok (.aload_n 0, 1) := by decide +kernel
theorem dX12_qJoins_168 : decode cX12_qJoins 168 = .ok (.lload 4, 2) := by decide +kernel
theorem dX12_qJoins_170 : decode cX12_qJoins 170 = .ok (.lload_n 2, 1) := by decide +kernel
theorem dX12_qJoins_171 : decode cX12_qJoins 171 = .ok (.lcmp, 1) := by decide +kernel
theorem dX12_qJoins_172 : decode cX12_qJoins 172 = .ok (.ifCond .le 8, 3) := by decide +kernel
theorem dX12_qJoins_175 : decode cX12_qJoins 175 = .ok (.lload 4, 2) := by decide +kernel
theorem dX12_qJoins_177 : decode cX12_qJoins 177 = .ok (.goto 4, 3) := by decide +kernel
theorem dX12_qJoins_180 : decode cX12_qJoins 180 = .ok (.lload_n 2, 1) := by decide +kernel
theorem dX12_qJoins_181 : decode cX12_qJoins 181 = .ok (.invokevirtual 419, 3) := by decide +kernel
theorem dX12_qJoins_184 : decode cX12_qJoins 184 = .ok (.goto 89, 3) := by decide +kernel
theorem dX12_qJoins_187 : decode cX12_qJoins 187 = .ok (.aload_n 0, 1) := by decide +kernel
theorem dX12_qJoins_188 : decode cX12_qJoins 188 = .ok (.lload 4, 2) := by decide +kernel
theorem dX12_qJoins_190 : decode cX12_qJoins 190 = .ok (.lload_n 2, 1) := by decide +kernel
theorem dX12_qJoins_191 : decode cX12_qJoins 191 = .ok (.lcmp, 1) := by decide +kernel
theorem dX12_qJoins_192 : decode cX12_qJoins 192 = .ok (.ifCond .ge 7, 3) := by decide +kernel
theorem dX12_qJoins_195 : decode cX12_qJoins 195 = .ok (.lconst 1, 1) := by decide +kernel
theorem dX12_qJoins_196 : decode cX12_qJoins 196 = .ok (.goto 4, 3) := by decide +kernel
theorem dX12_qJoins_199 : decode cX12_qJoins 199 = .ok (.lconst 0, 1) := by decide +kernel
theorem dX12_qJoins_200 : decode cX12_qJoins 200 = .ok (.invokevirtual 419, 3) := by decide +kernel
theorem dX12_qJoins_203 : decode cX12_qJoins 203 = .ok (.goto 70, 3) := by decide +kernel
theorem dX12_qJoins_206 : decode cX12_qJoins 206 = .ok (.aload_n 0, 1) := by decide +kernel
theorem dX12_qJoins_207 : decode cX12_qJoins 207 = .ok (.lload 4, 2) := by decide +kernel
theorem dX12_qJoins_209 : decode cX12_qJoins 209 = .ok (.lload_n 2, 1) := by decide +kernel
theorem dX12_qJoins_210 : decode cX12_qJoins 210 = .ok (.lcmp, 1) := by decide +kernel
theorem dX12_qJoins_211 : decode cX12_qJoins 211 = .ok (.ifCond .le 7, 3) := by decide +kernel
theorem dX12_qJoins_214 : decode cX12_qJoins 214 = .ok (.lconst 1, 1) := by decide +kernel
theorem dX12_qJoins_215 : decode cX12_qJoins 215 = .ok (.goto 4, 3) := by decide +kernel
theorem dX12_qJoins_218 : decode cX12_qJoins 218 = .ok (.lconst 0, 1) := by decide +kernel
theorem dX12_qJoins_219 : decode cX12_qJoins 219 = .ok (.invokevirtual 419, 3) := by decide +kernel
theorem dX12_qJoins_222 : decode cX12_qJoins 222 = .ok (.goto 51, 3) := by decide +kernel
theorem dX12_qJoins_225 : decode cX12_qJoins 225 = .ok (.aload_n 0, 1) := by decide +kernel
theorem dX12_qJoins_226 : decode cX12_qJoins 226 = .ok (.lload 4, 2) := by decide +kernel
theorem dX12_qJoins_228 : decode cX12_qJoins 228 = .ok (.lload_n 2, 1) := by decide +kernel
theorem dX12_qJoins_229 : decode cX12_qJoins 229 = .ok (.lcmp, 1) := by decide +kernel
theorem dX12_qJoins_230 : decode cX12_qJoins 230 = .ok (.ifCond .ne 7, 3) := by decide +kernel
theorem dX12_qJoins_233 : decode cX12_qJoins 233 = .ok (.lconst 1, 1) := by decide +kernel
theorem dX12_qJoins_234 : decode cX12_qJoins 234 = .ok (.goto 4, 3) := by decide +kernel
theorem dX12_qJoins_237 : decode cX12_qJoins 237 = .ok (.lconst 0, 1) := by decide +kernel
theorem dX12_qJoins_238 : decode cX12_qJoins 238 = .ok (.invokevirtual 419, 3) := by decide +kernel
theorem dX12_qJoins_241 : decode cX12_qJoins 241 = .ok (.goto 32, 3) := by decide +kernel
theorem dX12_qJoins_244 : decode cX12_qJoins 244 = .ok (.aload_n 0, 1) := by decide +kernel
theorem dX12_qJoins_245 : decode cX12_qJoins 245 = .ok (.lload 4, 2) := by decide +kernel
theorem dX12_qJoins_247 : decode cX12_qJoins 247 = .ok (.lload_n 2, 1) := by decide +kernel
theorem dX12_qJoins_248 : decode cX12_qJoins 248 = .ok (.lmul, 1) := by decide +kernel
theorem dX12_qJoins_249 : decode cX12_qJoins 249 = .ok (.invokevirtual 419, 3) := by decide +kernel
theorem dX12_qJoins_252 : decode cX12_qJoins 252 = .ok (.goto 21, 3) := by decide +kernel
theorem dX12_qJoins_255 : decode cX12_qJoins 255 = .ok (.aload_n 0, 1) := by decide +kernel
theorem dX12_qJoins_256 : decode cX12_qJoins 256 = .ok (.lload 4, 2) := by decide +kernel
theorem dX12_qJoins_258 : decode cX12_qJoins 258 = .ok (.lload_n 2, 1) := by decide +kernel
theorem dX12_qJoins_259 : decode cX12_qJoins 259 = .ok (.ladd, 1) := by decide +kernel
theorem dX12_qJoins_260 : decode cX12_qJoins 260 = .ok (.lconst 0, 1) := by decide +kernel
theorem dX12_qJoins_261 : decode cX12_qJoins 261 = .ok (.lcmp, 1) := by decide +kernel
theorem dX12_qJoins_262 : decode cX12_qJoins 262 = .ok (.ifCond .le 7, 3) := by decide +kernel
theorem dX12_qJoins_265 : decode cX12_qJoins 265 = .ok (.lconst 1, 1) := by decide +kernel
theorem dX12_qJoins_266 : decode cX12_qJoins 266 = .ok (.goto 4, 3) := by decide +kernel
theorem dX12_qJoins_269 : decode cX12_qJoins 269 = .ok (.lconst 0, 1) := by decide +kernel
theorem dX12_qJoins_270 : decode cX12_qJoins 270 = .ok (.invokevirtual 419, 3) := by decide +kernel
theorem dX12_qJoins_273 : decode cX12_qJoins 273 = .ok (.return_, 1) := by decide +kernel
theorem dX12_qPartOf_0 : decode cX12_qPartOf 0 = .ok (.iload_n 1, 1) := by decide +kernel
theorem dX12_qPartOf_1 : decode cX12_qPartOf 1 = .ok (.tableswitch 77 0 5 #[39, 48, 57, 62, 67, 72], 39) := by decide +kernel
theorem dX12_qPartOf_40 : decode cX12_qPartOf 40 = .ok (.aload_n 0, 1) := by decide +kernel
theorem dX12_qPartOf_41 : decode cX12_qPartOf 41 = .ok (.invokevirtual 493, 3) := by decide +kernel
theorem dX12_qPartOf_44 : decode cX12_qPartOf 44 = .ok (.bipush 24, 2) := by decide +kernel
theorem dX12_qPartOf_46 : decode cX12_qPartOf 46 = .ok (.irem, 1) := by decide +kernel
theorem dX12_qPartOf_47 : decode cX12_qPartOf 47 = .ok (.i2l, 1) := by decide +kernel
theorem dX12_qPartOf_48 : decode cX12_qPartOf 48 = .ok (.lreturn, 1) := by decide +kernel
theorem dX12_qPartOf_49 : decode cX12_qPartOf 49 = .ok (.aload_n 0, 1) := by decide +kernel
theorem dX12_qPartOf_50 : decode cX12_qPartOf 50 = .ok (.invokevirtual 493, 3) := by decide +kernel
theorem dX12_qPartOf_53 : decode cX12_qPartOf 53 = .ok (.bipush 24, 2) := by decide +kernel
theorem dX12_qPartOf_55 : decode cX12_qPartOf 55 = .ok (.idiv, 1) := by decide +kernel
theorem dX12_qPartOf_56 : decode cX12_qPartOf 56 = .ok (.i2l, 1) := by decide +kernel
theorem dX12_qPartOf_57 : decode cX12_qPartOf 57 = .ok (.lreturn, 1) := by decide +kernel
theorem dX12_qPartOf_58 : decode cX12_qPartOf 58 = .ok (.aload_n 0, 1) := by decide +kernel
theorem dX12_qPartOf_59 : decode cX12_qPartOf 59 = .ok (.getfield 437, 3) := by decide +kernel
theorem dX12_qPartOf_62 : decode cX12_qPartOf 62 = .ok (.lreturn, 1) := by decide +kernel
theorem dX12_qPartOf_63 : decode cX12_qPartOf 63 = .ok (.aload_n 0, 1) := by decide +kernel
theorem dX12_qPartOf_64 : decode cX12_qPartOf 64 = .ok (.getfield 443, 3) := by decide +kernel
theorem dX12_qPartOf_67 : decode cX12_qPartOf 67 = .ok (.lreturn, 1) := by decide +kernel
theorem dX12_qPartOf_68 : decode cX12_qPartOf 68 = .ok (.aload_n 0, 1) := by decide +kernel
theorem dX12_qPartOf_69 : decode cX12_qPartOf 69 = .ok (.getfield 446, 3) := by decide +kernel
theorem dX12_qPartOf_72 : decode cX12_qPartOf 72 = .ok (.lreturn, 1) := by decide +kernel
theorem dX12_qPartOf_73 : decode cX12_qPartOf 73 = .ok (.aload_n 0, 1) := by decide +kernel
theorem dX12_qPartOf_74 : decode cX12_qPartOf 74 = .ok (.getfield 449, 3) := by decide +kernel
theorem dX12_qPartOf_77 : decode cX12_qPartOf 77 = .ok (.lreturn, 1) := by decide +kernel
theorem dX12_qPartOf_78 : decode cX12_qPartOf 78 = .ok (.aload_n 0, 1) := by decide +kernel
theorem dX12_qPartOf_79 : decode cX12_qPartOf 79 = .ok (.invokevirtual 493, 3) := by decide +kernel
theorem dX12_qPartOf_82 : decode cX12_qPartOf 82 = .ok (.i2l, 1) := by decide +kernel
theorem dX12_qPartOf_83 : decode cX12_qPartOf 83 = .ok (.lreturn, 1) := by decide +kernel
theorem dX12_qOf_0 : decode cX12_qOf 0 = .ok (.iload_n 1, 1) := by decide +kernel
theorem dX12_qOf_1 : decode cX12_qOf 1 = .ok (.lookupswitch 89 #[(0, 27), (1, 58)], 27) := by decide +kernel
theorem dX12_qOf_28 : decode cX12_qOf 28 = .ok (.lload_n 2, 1) := by decide +kernel
theorem dX12_qOf_29 : decode cX12_qOf 29 = .ok (.lconst 0, 1) := by decide +kernel
theorem dX12_qOf_30 : decode cX12_qOf 30 = .ok (.aload_n 0, 1) := by decide +kernel
theorem dX12_qOf_31 : decode cX12_qOf 31 = .ok (.invokevirtual 404, 3) := by decide +kernel
theorem dX12_qOf_34 : decode cX12_qOf 34 = .ok (.iconst 1, 1) := by decide +kernel
theorem dX12_qOf_35 : decode cX12_qOf 35 = .ok (.isub, 1) := by decide +kernel
theorem dX12_qOf_36 : decode cX12_qOf 36 = .ok (.i2l, 1) := by decide +kernel
theorem dX12_qOf_37 : decode cX12_qOf 37 = .ok (.invokestatic 282, 3) := by decide +kernel
theorem dX12_qOf_40 : decode cX12_qOf 40 = .ok (.ifCond .eq 17, 3) := by decide +kernel
theorem dX12_qOf_43 : decode cX12_qOf 43 = .ok (.aload_n 0, 1) := by decide +kernel
theorem dX12_qOf_44 : decode cX12_qOf 44 = .ok (.aload_n 0, 1) := by decide +kernel
theorem dX12_qOf_45 : decode cX12_qOf 45 = .ok (.getfield 458, 3) := by decide +kernel
theorem dX12_qOf_48 : decode cX12_qOf 48 = .ok (.lload_n 2, 1) := by decide +kernel
theorem dX12_qOf_49 : decode cX12_qOf 49 = .ok (.l2i, 1) := by decide +kernel
theorem dX12_qOf_50 : decode cX12_qOf 50 = .ok (.invokevirtual 440, 3) := by decide +kernel
theorem dX12_qOf_53 : decode cX12_qOf 53 = .ok (.i2l, 1) := by decide +kernel
theorem dX12_qOf_54 : decode cX12_qOf 54 = .ok (.goto 4, 3) := by decide +kernel
theorem dX12_qOf_57 : decode cX12_qOf 57 = .ok (.lconst 0, 1) := by decide +kernel
theorem dX12_qOf_58 : decode cX12_qOf 58 = .ok (.lreturn, 1) := by decide +kernel
theorem dX12_qOf_59 : decode cX12_qOf 59 = .ok (.lload_n 2, 1) := by decide +kernel
theorem dX12_qOf_60 : decode cX12_qOf 60 = .ok (.lconst 0, 1) := by decide +kernel
theorem dX12_qOf_61 : decode cX12_qOf 61 = .ok (.aload_n 0, 1) := by decide +kernel
theorem dX12_qOf_62 : decode cX12_qOf 62 = .ok (.invokevirtual 404, 3) := by decide +kernel
theorem dX12_qOf_65 : decode cX12_qOf 65 = .ok (.iconst 1, 1) := by decide +kernel
theorem dX12_qOf_66 : decode cX12_qOf 66 = .ok (.isub, 1) := by decide +kernel
theorem dX12_qOf_67 : decode cX12_qOf 67 = .ok (.i2l, 1) := by decide +kernel
theorem dX12_qOf_68 : decode cX12_qOf 68 = .ok (.invokestatic 282, 3) := by decide +kernel
theorem dX12_qOf_71 : decode cX12_qOf 71 = .ok (.ifCond .eq 17, 3) := by decide +kernel
theorem dX12_qOf_74 : decode cX12_qOf 74 = .ok (.aload_n 0, 1) := by decide +kernel
theorem dX12_qOf_75 : decode cX12_qOf 75 = .ok (.aload_n 0, 1) := by decide +kernel
theorem dX12_qOf_76 : decode cX12_qOf 76 = .ok (.getfield 458, 3) := by decide +kernel
theorem dX12_qOf_79 : decode cX12_qOf 79 = .ok (.lload_n 2, 1) := by decide +kernel
theorem dX12_qOf_80 : decode cX12_qOf 80 = .ok (.l2i, 1) := by decide +kernel
theorem dX12_qOf_81 : decode cX12_qOf 81 = .ok (.invokevirtual 434, 3) := by decide +kernel
theorem dX12_qOf_84 : decode cX12_qOf 84 = .ok (.i2l, 1) := by decide +kernel
theorem dX12_qOf_85 : decode cX12_qOf 85 = .ok (.goto 4, 3) := by decide +kernel
theorem dX12_qOf_88 : decode cX12_qOf 88 = .ok (.lconst 0, 1) := by decide +kernel
theorem dX12_qOf_89 : decode cX12_qOf 89 = .ok (.lreturn, 1) := by decide +kernel
theorem dX12_qOf_90 : decode cX12_qOf 90 = .ok (.lload_n 2, 1) := by decide +kernel
theorem dX12_qOf_91 : decode cX12_qOf 91 = .ok (.lconst 0, 1) := by decide +kernel
theorem dX12_qOf_92 : decode cX12_qOf 92 = .ok (.aload_n 0, 1) := by decide +kernel
theorem dX12_qOf_93 : decode cX12_qOf 93 = .ok (.invokevirtual 413, 3) := by decide +kernel
theorem dX12_qOf_96 : decode cX12_qOf 96 = .ok (.iconst 1, 1) := by decide +kernel
theorem dX12_qOf_97 : decode cX12_qOf 97 = .ok (.isub, 1) := by decide +kernel
theorem dX12_qOf_98 : decode cX12_qOf 98 = .ok (.i2l, 1) := by decide +kernel
theorem dX12_qOf_99 : decode cX12_qOf 99 = .ok (.invokestatic 282, 3) := by decide +kernel
theorem dX12_qOf_102 : decode cX12_qOf 102 = .ok (.ifCond .eq 16, 3) := by decide +kernel
theorem dX12_qOf_105 : decode cX12_qOf 105 = .ok (.aload_n 0, 1) := by decide +kernel
theorem dX12_qOf_106 : decode cX12_qOf 106 = .ok (.getfield 670, 3) := by decide +kernel
theorem dX12_qOf_109 : decode cX12_qOf 109 = .ok (.lload_n 2, 1) := by decide +kernel
theorem dX12_qOf_110 : decode cX12_qOf 110 = .ok (.l2i, 1) := by decide +kernel
theorem dX12_qOf_111 : decode cX12_qOf 111 = .ok (.ishr, 1) := by decide +kernel
theorem dX12_qOf_112 : decode cX12_qOf 112 = .ok (.iconst 1, 1) := by decide +kernel
theorem dX12_qOf_113 : decode cX12_qOf 113 = .ok (.iand, 1) := by decide +kernel
theorem dX12_qOf_114 : decode cX12_qOf 114 = .ok (.i2l, 1) := by decide +kernel
theorem dX12_qOf_115 : decode cX12_qOf 115 = .ok (.goto 4, 3) := by decide +kernel
theorem dX12_qOf_118 : decode cX12_qOf 118 = .ok (.lconst 0, 1) := by decide +kernel
theorem dX12_qOf_119 : decode cX12_qOf 119 = .ok (.lreturn, 1) := by decide +kernel
theorem dX12_qTold_0 : decode cX12_qTold 0 = .ok (.aload_n 0, 1) := by decide +kernel
theorem dX12_qTold_1 : decode cX12_qTold 1 = .ok (.iconst 0, 1) := by decide +kernel
theorem dX12_qTold_2 : decode cX12_qTold 2 = .ok (.putfield 416, 3) := by decide +kernel
theorem dX12_qTold_5 : decode cX12_qTold 5 = .ok (.iconst 0, 1) := by decide +kernel
theorem dX12_qTold_6 : decode cX12_qTold 6 = .ok (.istore_n 2, 1) := by decide +kernel
theorem dX12_qTold_7 : decode cX12_qTold 7 = .ok (.iload_n 2, 1) := by decide +kernel
theorem dX12_qTold_8 : decode cX12_qTold 8 = .ok (.aload_n 0, 1) := by decide +kernel
theorem dX12_qTold_9 : decode cX12_qTold 9 = .ok (.getfield 341, 3) := by decide +kernel
theorem dX12_qTold_12 : decode cX12_qTold 12 = .ok (.if_icmp .ge 156, 3) := by decide +kernel
theorem dX12_qTold_15 : decode cX12_qTold 15 = .ok (.aload_n 0, 1) := by decide +kernel
theorem dX12_qTold_16 : decode cX12_qTold 16 = .ok (.getfield 227, 3) := by decide +kernel
theorem dX12_qTold_19 : decode cX12_qTold 19 = .ok (.iload_n 2, 1) := by decide +kernel
theorem dX12_qTold_20 : decode cX12_qTold 20 = .ok (.iaload, 1) := by decide +kernel
theorem dX12_qTold_21 : decode cX12_qTold 21 = .ok (.istore_n 3, 1) := by decide +kernel
theorem dX12_qTold_22 : decode cX12_qTold 22 = .ok (.iload_n 3, 1) := by decide +kernel
theorem dX12_qTold_23 : decode cX12_qTold 23 = .ok (.sipush 1000, 3) := by decide +kernel
theorem dX12_qTold_26 : decode cX12_qTold 26 = .ok (.if_icmp .lt 16, 3) := by decide +kernel
theorem dX12_qTold_29 : decode cX12_qTold 29 = .ok (.aload_n 0, 1) := by decide +kernel
theorem dX12_qTold_30 : decode cX12_qTold 30 = .ok (.iload_n 3, 1) := by decide +kernel
theorem dX12_qTold_31 : decode cX12_qTold 31 = .ok (.sipush 1000, 3) := by decide +kernel
theorem dX12_qTold_34 : decode cX12_qTold 34 = .ok (.isub, 1) := by decide +kernel
theorem dX12_qTold_35 : decode cX12_qTold 35 = .ok (.i2l, 1) := by decide +kernel
theorem dX12_qTold_36 : decode cX12_qTold 36 = .ok (.invokevirtual 419, 3) := by decide +kernel
theorem dX12_qTold_39 : decode cX12_qTold 39 = .ok (.goto 123, 3) := by decide +kernel
theorem dX12_qTold_42 : decode cX12_qTold 42 = .ok (.iload_n 3, 1) := by decide +kernel
theorem dX12_qTold_43 : decode cX12_qTold 43 = .ok (.bipush 60, 2) := by decide +kernel
theorem dX12_qTold_45 : decode cX12_qTold 45 = .ok (.if_icmp .lt 40, 3) := by decide +kernel
theorem dX12_qTold_48 : decode cX12_qTold 48 = .ok (.aload_n 0, 1) := by decide +kernel
theorem dX12_qTold_49 : decode cX12_qTold 49 = .ok (.getfield 233, 3) := by decide +kernel
theorem dX12_qTold_52 : decode cX12_qTold 52 = .ok (.aload_n 0, 1) := by decide +kernel
theorem dX12_qTold_53 : decode cX12_qTold 53 = .ok (.getfield 416, 3) := by decide +kernel
theorem dX12_qTold_56 : decode cX12_qTold 56 = .ok (.iconst 1, 1) := by decide +kernel
theorem dX12_qTold_57 : decode cX12_qTold 57 = .ok (.isub, 1) := by decide +kernel
theorem dX12_qTold_58 : decode cX12_qTold 58 = .ok (.aload_n 0, 1) := by decide +kernel
theorem dX12_qTold_59 : decode cX12_qTold 59 = .ok (.iload_n 3, 1) := by decide +kernel
theorem dX12_qTold_60 : decode cX12_qTold 60 = .ok (.bipush 60, 2) := by decide +kernel
theorem dX12_qTold_62 : decode cX12_qTold 62 = .ok (.isub, 1) := by decide +kernel
theorem dX12_qTold_63 : decode cX12_qTold 63 = .ok (.aload_n 0, 1) := by decide +kernel
theorem dX12_qTold_64 : decode cX12_qTold 64 = .ok (.getfield 233, 3) := by decide +kernel
theorem dX12_qTold_67 : decode cX12_qTold 67 = .ok (.aload_n 0, 1) := by decide +kernel
theorem dX12_qTold_68 : decode cX12_qTold 68 = .ok (.getfield 416, 3) := by decide +kernel
theorem dX12_qTold_71 : decode cX12_qTold 71 = .ok (.iconst 1, 1) := by decide +kernel
theorem dX12_qTold_72 : decode cX12_qTold 72 = .ok (.isub, 1) := by decide +kernel
theorem dX12_qTold_73 : decode cX12_qTold 73 = .ok (.laload, 1) := by decide +kernel
theorem dX12_qTold_74 : decode cX12_qTold 74 = .ok (.iload_n 1, 1) := by decide +kernel
theorem dX12_qTold_75 : decode cX12_qTold 75 = .ok (.invokevirtual 423, 3) := by decide +kernel
theorem dX12_qTold_78 : decode cX12_qTold 78 = .ok (.invokestatic 662, 3) := by decide +kernel
theorem dX12_qTold_81 : decode cX12_qTold 81 = .ok (.lastore, 1) := by decide +kernel
theorem dX12_qTold_82 : decode cX12_qTold 82 = .ok (.goto 80, 3) := by decide +kernel
theorem dX12_qTold_85 : decode cX12_qTold 85 = .ok (.iload_n 3, 1) := by decide +kernel
theorem dX12_qTold_86 : decode cX12_qTold 86 = .ok (.bipush 40, 2) := by decide +kernel
theorem dX12_qTold_88 : decode cX12_qTold 88 = .ok (.if_icmp .lt 22, 3) := by decide +kernel
theorem dX12_qTold_91 : decode cX12_qTold 91 = .ok (.aload_n 0, 1) := by decide +kernel
theorem dX12_qTold_92 : decode cX12_qTold 92 = .ok (.aload_n 0, 1) := by decide +kernel
theorem dX12_qTold_93 : decode cX12_qTold 93 = .ok (.iload_n 3, 1) := by decide +kernel
theorem dX12_qTold_94 : decode cX12_qTold 94 = .ok (.bipush 40, 2) := by decide +kernel
theorem dX12_qTold_96 : decode cX12_qTold 96 = .ok (.isub, 1) := by decide +kernel
theorem dX12_qTold_97 : decode cX12_qTold 97 = .ok (.iload_n 1, 1) := by decide +kernel
theorem dX12_qTold_98 : decode cX12_qTold 98 = .ok (.invokevirtual 427, 3) := by decide +kernel
theorem dX12_qTold_101 : decode cX12_qTold 101 = .ok (.invokestatic 662, 3) := by decide +kernel
theorem dX12_qTold_104 : decode cX12_qTold 104 = .ok (.invokevirtual 419, 3) := by decide +kernel
theorem dX12_qTold_107 : decode cX12_qTold 107 = .ok (.goto 55, 3) := by decide +kernel
theorem dX12_qTold_110 : decode cX12_qTold 110 = .ok (.iload_n 3, 1) := by decide +kernel
theorem dX12_qTold_111 : decode cX12_qTold 111 = .ok (.bipush 13, 2) := by decide +kernel
theorem dX12_qTold_113 : decode cX12_qTold 113 = .ok (.if_icmp .ne 11, 3) := by decide +kernel
theorem dX12_qTold_116 : decode cX12_qTold 116 = .ok (.aload_n 0, 1) := by decide +kernel
theorem dX12_qTold_117 : decode cX12_qTold 117 = .ok (.lconst 1, 1) := by decide +kernel
theorem dX12_qTold_118 : decode cX12_qTold 118 = .ok (.invokevirtual 419, 3) := by decide +kernel
theorem dX12_qTold_121 : decode cX12_qTold 121 = .ok (.goto 41, 3) := by decide +kernel
theorem dX12_qTold_124 : decode cX12_qTold 124 = .ok (.iload_n 3, 1) := by decide +kernel
theorem dX12_qTold_125 : decode cX12_qTold 125 = .ok (.bipush 12, 2) := by decide +kernel
theorem dX12_qTold_127 : decode cX12_qTold 127 = .ok (.if_icmp .ne 30, 3) := by decide +kernel
theorem dX12_qTold_130 : decode cX12_qTold 130 = .ok (.aload_n 0, 1) := by decide +kernel
theorem dX12_qTold_131 : decode cX12_qTold 131 = .ok (.getfield 233, 3) := by decide +kernel
theorem dX12_qTold_134 : decode cX12_qTold 134 = .ok (.aload_n 0, 1) := by decide +kernel
theorem dX12_qTold_135 : decode cX12_qTold 135 = .ok (.getfield 416, 3) := by decide +kernel
theorem dX12_qTold_138 : decode cX12_qTold 138 = .ok (.iconst 1, 1) := by decide +kernel
theorem dX12_qTold_139 : decode cX12_qTold 139 = .ok (.isub, 1) := by decide +kernel
theorem dX12_qTold_140 : decode cX12_qTold 140 = .ok (.lconst 1, 1) := by decide +kernel
theorem dX12_qTold_141 : decode cX12_qTold 141 = .ok (.aload_n 0, 1) := by decide +kernel
theorem dX12_qTold_142 : decode cX12_qTold 142 = .ok (.getfield 233, 3) := by decide +kernel
theorem dX12_qTold_145 : decode cX12_qTold 145 = .ok (.aload_n 0, 1) := by decide +kernel
theorem dX12_qTold_146 : decode cX12_qTold 146 = .ok (.getfield 416, 3) := by decide +kernel
theorem dX12_qTold_149 : decode cX12_qTold 149 = .ok (.iconst 1, 1) := by decide +kernel
theorem dX12_qTold_150 : decode cX12_qTold 150 = .ok (.isub, 1) := by decide +kernel
theorem dX12_qTold_151 : decode cX12_qTold 151 = .ok (.laload, 1) := by decide +kernel
theorem dX12_qTold_152 : decode cX12_qTold 152 = .ok (.lsub, 1) := by decide +kernel
theorem dX12_qTold_153 : decode cX12_qTold 153 = .ok (.lastore, 1) := by decide +kernel
theorem dX12_qTold_154 : decode cX12_qTold 154 = .ok (.goto 8, 3) := by decide +kernel
theorem dX12_qTold_157 : decode cX12_qTold 157 = .ok (.aload_n 0, 1) := by decide +kernel
theorem dX12_qTold_158 : decode cX12_qTold 158 = .ok (.iload_n 3, 1) := by decide +kernel
theorem dX12_qTold_159 : decode cX12_qTold 159 = .ok (.invokevirtual 431, 3) := by decide +kernel
theorem dX12_qTold_162 : decode cX12_qTold 162 = .ok (.iinc 2 1, 3) := by decide +kernel
theorem dX12_qTold_165 : decode cX12_qTold 165 = .ok (.goto (-158), 3) := by decide +kernel
theorem dX12_qTold_168 : decode cX12_qTold 168 = .ok (.aload_n 0, 1) := by decide +kernel
theorem dX12_qTold_169 : decode cX12_qTold 169 = .ok (.getfield 233, 3) := by decide +kernel
theorem dX12_qTold_172 : decode cX12_qTold 172 = .ok (.iconst 0, 1) := by decide +kernel
theorem dX12_qTold_173 : decode cX12_qTold 173 = .ok (.laload, 1) := by decide +kernel
theorem dX12_qTold_174 : decode cX12_qTold 174 = .ok (.lreturn, 1) := by decide +kernel
theorem dX12_qKind_0 : decode cX12_qKind 0 = .ok (.aload_n 0, 1) := by decide +kernel
theorem dX12_qKind_1 : decode cX12_qKind 1 = .ok (.aload_n 0, 1) := by decide +kernel
theorem dX12_qKind_2 : decode cX12_qKind 2 = .ok (.getfield 161, 3) := by decide +kernel
theorem dX12_qKind_5 : decode cX12_qKind 5 = .ok (.invokevirtual 269, 3) := by decide +kernel
theorem dX12_qKind_8 : decode cX12_qKind 8 = .ok (.ifCond .eq 7, 3) := by decide +kernel
theorem dX12_qKind_11 : decode cX12_qKind 11 = .ok (.iconst 0, 1) := by decide +kernel
theorem dX12_qKind_12 : decode cX12_qKind 12 = .ok (.goto 64, 3) := by decide +kernel
theorem dX12_qKind_15 : decode cX12_qKind 15 = .ok (.aload_n 0, 1) := by decide +kernel
theorem dX12_qKind_16 : decode cX12_qKind 16 = .ok (.aload_n 0, 1) := by decide +kernel
theorem dX12_qKind_17 : decode cX12_qKind 17 = .ok (.getfield 164, 3) := by decide +kernel
theorem dX12_qKind_20 : decode cX12_qKind 20 = .ok (.invokevirtual 269, 3) := by decide +kernel
theorem dX12_qKind_23 : decode cX12_qKind 23 = .ok (.ifCond .eq 7, 3) := by decide +kernel
theorem dX12_qKind_26 : decode cX12_qKind 26 = .ok (.iconst 1, 1) := by decide +kernel
theorem dX12_qKind_27 : decode cX12_qKind 27 = .ok (.goto 49, 3) := by decide +kernel
theorem dX12_qKind_30 : decode cX12_qKind 30 = .ok (.aload_n 0, 1) := by decide +kernel
theorem dX12_qKind_31 : decode cX12_qKind 31 = .ok (.aload_n 0, 1) := by decide +kernel
theorem dX12_qKind_32 : decode cX12_qKind 32 = .ok (.getfield 167, 3) := by decide +kernel
theorem dX12_qKind_35 : decode cX12_qKind 35 = .ok (.invokevirtual 269, 3) := by decide +kernel
theorem dX12_qKind_38 : decode cX12_qKind 38 = .ok (.ifCond .eq 7, 3) := by decide +kernel
theorem dX12_qKind_41 : decode cX12_qKind 41 = .ok (.iconst 2, 1) := by decide +kernel
theorem dX12_qKind_42 : decode cX12_qKind 42 = .ok (.goto 34, 3) := by decide +kernel
theorem dX12_qKind_45 : decode cX12_qKind 45 = .ok (.aload_n 0, 1) := by decide +kernel
theorem dX12_qKind_46 : decode cX12_qKind 46 = .ok (.aload_n 0, 1) := by decide +kernel
theorem dX12_qKind_47 : decode cX12_qKind 47 = .ok (.getfield 170, 3) := by decide +kernel
theorem dX12_qKind_50 : decode cX12_qKind 50 = .ok (.invokevirtual 269, 3) := by decide +kernel
theorem dX12_qKind_53 : decode cX12_qKind 53 = .ok (.ifCond .eq 7, 3) := by decide +kernel
theorem dX12_qKind_56 : decode cX12_qKind 56 = .ok (.iconst 3, 1) := by decide +kernel
theorem dX12_qKind_57 : decode cX12_qKind 57 = .ok (.goto 19, 3) := by decide +kernel
theorem dX12_qKind_60 : decode cX12_qKind 60 = .ok (.aload_n 0, 1) := by decide +kernel
theorem dX12_qKind_61 : decode cX12_qKind 61 = .ok (.aload_n 0, 1) := by decide +kernel
theorem dX12_qKind_62 : decode cX12_qKind 62 = .ok (.getfield 173, 3) := by decide +kernel
theorem dX12_qKind_65 : decode cX12_qKind 65 = .ok (.invokevirtual 269, 3) := by decide +kernel
theorem dX12_qKind_68 : decode cX12_qKind 68 = .ok (.ifCond .eq 7, 3) := by decide +kernel
theorem dX12_qKind_71 : decode cX12_qKind 71 = .ok (.iconst 4, 1) := by decide +kernel
theorem dX12_qKind_72 : decode cX12_qKind 72 = .ok (.goto 4, 3) := by decide +kernel
theorem dX12_qKind_75 : decode cX12_qKind 75 = .ok (.iconst 5, 1) := by decide +kernel
theorem dX12_qKind_76 : decode cX12_qKind 76 = .ok (.istore_n 1, 1) := by decide +kernel
theorem dX12_qKind_77 : decode cX12_qKind 77 = .ok (.iload_n 1, 1) := by decide +kernel
theorem dX12_qKind_78 : decode cX12_qKind 78 = .ok (.iconst 5, 1) := by decide +kernel
theorem dX12_qKind_79 : decode cX12_qKind 79 = .ok (.if_icmp .ne 11, 3) := by decide +kernel
theorem dX12_qKind_82 : decode cX12_qKind 82 = .ok (.aload_n 0, 1) := by decide +kernel
theorem dX12_qKind_83 : decode cX12_qKind 83 = .ok (.aload_n 0, 1) := by decide +kernel
theorem dX12_qKind_84 : decode cX12_qKind 84 = .ok (.getfield 176, 3) := by decide +kernel
theorem dX12_qKind_87 : decode cX12_qKind 87 = .ok (.invokevirtual 319, 3) := by decide +kernel
theorem dX12_qKind_90 : decode cX12_qKind 90 = .ok (.iload_n 1, 1) := by decide +kernel
theorem dX12_qKind_91 : decode cX12_qKind 91 = .ok (.ireturn, 1) := by decide +kernel
theorem dX12_qTakes_0 : decode cX12_qTakes 0 = .ok (.iload_n 1, 1) := by decide +kernel
theorem dX12_qTakes_1 : decode cX12_qTakes 1 = .ok (.iconst 3, 1) := by decide +kernel
theorem dX12_qTakes_2 : decode cX12_qTakes 2 = .ok (.if_icmp .ge 13, 3) := by decide +kernel
theorem dX12_qTakes_5 : decode cX12_qTakes 5 = .ok (.lload_n 2, 1) := by decide +kernel
theorem dX12_qTakes_6 : decode cX12_qTakes 6 = .ok (.lconst 1, 1) := by decide +kernel
theorem dX12_qTakes_7 : decode cX12_qTakes 7 = .ok (.lcmp, 1) := by decide +kernel
theorem dX12_qTakes_8 : decode cX12_qTakes 8 = .ok (.ifCond .ne 7, 3) := by decide +kernel
theorem dX12_qTakes_11 : decode cX12_qTakes 11 = .ok (.iconst 1, 1) := by decide +kernel
theorem dX12_qTakes_12 : decode cX12_qTakes 12 = .ok (.goto 4, 3) := by decide +kernel
theorem dX12_qTakes_15 : decode cX12_qTakes 15 = .ok (.iconst 0, 1) := by decide +kernel
theorem dX12_qTakes_16 : decode cX12_qTakes 16 = .ok (.istore 5, 2) := by decide +kernel
theorem dX12_qTakes_18 : decode cX12_qTakes 18 = .ok (.iload_n 1, 1) := by decide +kernel
theorem dX12_qTakes_19 : decode cX12_qTakes 19 = .ok (.ifCond .ne 19, 3) := by decide +kernel
theorem dX12_qTakes_22 : decode cX12_qTakes 22 = .ok (.iload 5, 2) := by decide +kernel
theorem dX12_qTakes_24 : decode cX12_qTakes 24 = .ok (.ifCond .eq 14, 3) := by decide +kernel
theorem dX12_qTakes_27 : decode cX12_qTakes 27 = .ok (.aload_n 0, 1) := by decide +kernel
theorem dX12_qTakes_28 : decode cX12_qTakes 28 = .ok (.getfield 673, 3) := by decide +kernel
theorem dX12_qTakes_31 : decode cX12_qTakes 31 = .ok (.ldc2_w 676, 3) := by decide +kernel
theorem dX12_qTakes_34 : decode cX12_qTakes 34 = .ok (.lcmp, 1) := by decide +kernel
theorem dX12_qTakes_35 : decode cX12_qTakes 35 = .ok (.ifCond .eq 13, 3) := by decide +kernel
theorem dX12_qTakes_38 : decode cX12_qTakes 38 = .ok (.iload_n 1, 1) := by decide +kernel
theorem dX12_qTakes_39 : decode cX12_qTakes 39 = .ok (.iconst 1, 1) := by decide +kernel
theorem dX12_qTakes_40 : decode cX12_qTakes 40 = .ok (.if_icmp .ne 15, 3) := by decide +kernel
theorem dX12_qTakes_43 : decode cX12_qTakes 43 = .ok (.iload 5, 2) := by decide +kernel
theorem dX12_qTakes_45 : decode cX12_qTakes 45 = .ok (.ifCond .eq 10, 3) := by decide +kernel
theorem dX12_qTakes_48 : decode cX12_qTakes 48 = .ok (.aload_n 0, 1) := by decide +kernel
theorem dX12_qTakes_49 : decode cX12_qTakes 49 = .ok (.iload 4, 2) := by decide +kernel
theorem dX12_qTakes_51 : decode cX12_qTakes 51 = .ok (.i2l, 1) := by decide +kernel
theorem dX12_qTakes_52 : decode cX12_qTakes 52 = .ok (.putfield 673, 3) := by decide +kernel
theorem dX12_qTakes_55 : decode cX12_qTakes 55 = .ok (.iload_n 1, 1) := by decide +kernel
theorem dX12_qTakes_56 : decode cX12_qTakes 56 = .ok (.iconst 2, 1) := by decide +kernel
theorem dX12_qTakes_57 : decode cX12_qTakes 57 = .ok (.if_icmp .ne 18, 3) := by decide +kernel
theorem dX12_qTakes_60 : decode cX12_qTakes 60 = .ok (.iload 5, 2) := by decide +kernel
theorem dX12_qTakes_62 : decode cX12_qTakes 62 = .ok (.ifCond .eq 13, 3) := by decide +kernel
theorem dX12_qTakes_65 : decode cX12_qTakes 65 = .ok (.aload_n 0, 1) := by decide +kernel
theorem dX12_qTakes_66 : decode cX12_qTakes 66 = .ok (.dup, 1) := by decide +kernel
theorem dX12_qTakes_67 : decode cX12_qTakes 67 = .ok (.getfield 673, 3) := by decide +kernel
theorem dX12_qTakes_70 : decode cX12_qTakes 70 = .ok (.lconst 1, 1) := by decide +kernel
theorem dX12_qTakes_71 : decode cX12_qTakes 71 = .ok (.ladd, 1) := by decide +kernel
theorem dX12_qTakes_72 : decode cX12_qTakes 72 = .ok (.putfield 673, 3) := by decide +kernel
theorem dX12_qTakes_75 : decode cX12_qTakes 75 = .ok (.iload_n 1, 1) := by decide +kernel
theorem dX12_qTakes_76 : decode cX12_qTakes 76 = .ok (.iconst 3, 1) := by decide +kernel
theorem dX12_qTakes_77 : decode cX12_qTakes 77 = .ok (.if_icmp .ne 13, 3) := by decide +kernel
theorem dX12_qTakes_80 : decode cX12_qTakes 80 = .ok (.aload_n 0, 1) := by decide +kernel
theorem dX12_qTakes_81 : decode cX12_qTakes 81 = .ok (.dup, 1) := by decide +kernel
theorem dX12_qTakes_82 : decode cX12_qTakes 82 = .ok (.getfield 673, 3) := by decide +kernel
theorem dX12_qTakes_85 : decode cX12_qTakes 85 = .ok (.lload_n 2, 1) := by decide +kernel
theorem dX12_qTakes_86 : decode cX12_qTakes 86 = .ok (.ladd, 1) := by decide +kernel
theorem dX12_qTakes_87 : decode cX12_qTakes 87 = .ok (.putfield 673, 3) := by decide +kernel
theorem dX12_qTakes_90 : decode cX12_qTakes 90 = .ok (.iload_n 1, 1) := by decide +kernel
theorem dX12_qTakes_91 : decode cX12_qTakes 91 = .ok (.iconst 3, 1) := by decide +kernel
theorem dX12_qTakes_92 : decode cX12_qTakes 92 = .ok (.if_icmp .le 41, 3) := by decide +kernel
theorem dX12_qTakes_95 : decode cX12_qTakes 95 = .ok (.aload_n 0, 1) := by decide +kernel
theorem dX12_qTakes_96 : decode cX12_qTakes 96 = .ok (.getfield 678, 3) := by decide +kernel
theorem dX12_qTakes_99 : decode cX12_qTakes 99 = .ok (.ifCond .ne 29, 3) := by decide +kernel
theorem dX12_qTakes_102 : decode cX12_qTakes 102 = .ok (.iload_n 1, 1) := by decide +kernel
theorem dX12_qTakes_103 : decode cX12_qTakes 103 = .ok (.iconst 4, 1) := by decide +kernel
theorem dX12_qTakes_104 : decode cX12_qTakes 104 = .ok (.if_icmp .ne 15, 3) := by decide +kernel
theorem dX12_qTakes_107 : decode cX12_qTakes 107 = .ok (.lload_n 2, 1) := by decide +kernel
theorem dX12_qTakes_108 : decode cX12_qTakes 108 = .ok (.aload_n 0, 1) := by decide +kernel
theorem dX12_qTakes_109 : decode cX12_qTakes 109 = .ok (.getfield 673, 3) := by decide +kernel
theorem dX12_qTakes_112 : decode cX12_qTakes 112 = .ok (.lcmp, 1) := by decide +kernel
theorem dX12_qTakes_113 : decode cX12_qTakes 113 = .ok (.ifCond .le 20, 3) := by decide +kernel
theorem dX12_qTakes_116 : decode cX12_qTakes 116 = .ok (.goto 12, 3) := by decide +kernel
theorem dX12_qTakes_119 : decode cX12_qTakes 119 = .ok (.lload_n 2, 1) := by decide +kernel
theorem dX12_qTakes_120 : decode cX12_qTakes 120 = .ok (.aload_n 0, 1) := by decide +kernel
theorem dX12_qTakes_121 : decode cX12_qTakes 121 = .ok (.getfield 673, 3) := by decide +kernel
theorem dX12_qTakes_124 : decode cX12_qTakes 124 = .ok (.lcmp, 1) := by decide +kernel
theorem dX12_qTakes_125 : decode cX12_qTakes 125 = .ok (.ifCond .ge 8, 3) := by decide +kernel
theorem dX12_qTakes_128 : decode cX12_qTakes 128 = .ok (.aload_n 0, 1) := by decide +kernel
theorem dX12_qTakes_129 : decode cX12_qTakes 129 = .ok (.lload_n 2, 1) := by decide +kernel
theorem dX12_qTakes_130 : decode cX12_qTakes 130 = .ok (.putfield 673, 3) := by decide +kernel
theorem dX12_qTakes_133 : decode cX12_qTakes 133 = .ok (.aload_n 0, 1) := by decide +kernel
theorem dX12_qTakes_134 : decode cX12_qTakes 134 = .ok (.iconst 0, 1) := by decide +kernel
theorem dX12_qTakes_135 : decode cX12_qTakes 135 = .ok (.putfield 678, 3) := by decide +kernel
theorem dX12_qTakes_138 : decode cX12_qTakes 138 = .ok (.return_, 1) := by decide +kernel
theorem dX12_ask_0 : decode cX12_ask 0 = .ok (.aload_n 0, 1) := by decide +kernel
theorem dX12_ask_1 : decode cX12_ask 1 = .ok (.iload_n 1, 1) := by decide +kernel
theorem dX12_ask_2 : decode cX12_ask 2 = .ok (.invokevirtual 503, 3) := by decide +kernel
theorem dX12_ask_5 : decode cX12_ask 5 = .ok (.ifCond .ne 12, 3) := by decide +kernel
theorem dX12_ask_8 : decode cX12_ask 8 = .ok (.aload_n 0, 1) := by decide +kernel
theorem dX12_ask_9 : decode cX12_ask 9 = .ok (.iconst 0, 1) := by decide +kernel
theorem dX12_ask_10 : decode cX12_ask 10 = .ok (.putfield 239, 3) := by decide +kernel
theorem dX12_ask_13 : decode cX12_ask 13 = .ok (.ldc2_w 682, 3) := by decide +kernel
theorem dX12_ask_16 : decode cX12_ask 16 = .ok (.lreturn, 1) := by decide +kernel
theorem dX12_ask_17 : decode cX12_ask 17 = .ok (.aload_n 0, 1) := by decide +kernel
theorem dX12_ask_18 : decode cX12_ask 18 = .ok (.aload_n 0, 1) := by decide +kernel
theorem dX12_ask_19 : decode cX12_ask 19 = .ok (.getfield 239, 3) := by decide +kernel
theorem dX12_ask_22 : decode cX12_ask 22 = .ok (.putfield 251, 3) := by decide +kernel
theorem dX12_ask_25 : decode cX12_ask 25 = .ok (.aload_n 0, 1) := by decide +kernel
theorem dX12_ask_26 : decode cX12_ask 26 = .ok (.iconst 0, 1) := by decide +kernel
theorem dX12_ask_27 : decode cX12_ask 27 = .ok (.putfield 239, 3) := by decide +kernel
theorem dX12_ask_30 : decode cX12_ask 30 = .ok (.aload_n 0, 1) := by decide +kernel
theorem dX12_ask_31 : decode cX12_ask 31 = .ok (.iconst 0, 1) := by decide +kernel
theorem dX12_ask_32 : decode cX12_ask 32 = .ok (.putfield 248, 3) := by decide +kernel
theorem dX12_ask_35 : decode cX12_ask 35 = .ok (.aload_n 0, 1) := by decide +kernel
theorem dX12_ask_36 : decode cX12_ask 36 = .ok (.iconst (-1), 1) := by decide +kernel
theorem dX12_ask_37 : decode cX12_ask 37 = .ok (.putfield 262, 3) := by decide +kernel
theorem dX12_ask_40 : decode cX12_ask 40 = .ok (.aload_n 0, 1) := by decide +kernel
theorem dX12_ask_41 : decode cX12_ask 41 = .ok (.iconst 0, 1) := by decide +kernel
theorem dX12_ask_42 : decode cX12_ask 42 = .ok (.putfield 242, 3) := by decide +kernel
theorem dX12_ask_45 : decode cX12_ask 45 = .ok (.aload_n 0, 1) := by decide +kernel
theorem dX12_ask_46 : decode cX12_ask 46 = .ok (.iconst (-1), 1) := by decide +kernel
theorem dX12_ask_47 : decode cX12_ask 47 = .ok (.putfield 245, 3) := by decide +kernel
theorem dX12_ask_50 : decode cX12_ask 50 = .ok (.aload_n 0, 1) := by decide +kernel
theorem dX12_ask_51 : decode cX12_ask 51 = .ok (.iconst 2, 1) := by decide +kernel
theorem dX12_ask_52 : decode cX12_ask 52 = .ok (.putfield 297, 3) := by decide +kernel
theorem dX12_ask_55 : decode cX12_ask 55 = .ok (.aload_n 0, 1) := by decide +kernel
theorem dX12_ask_56 : decode cX12_ask 56 = .ok (.iconst 0, 1) := by decide +kernel
theorem dX12_ask_57 : decode cX12_ask 57 = .ok (.putfield 341, 3) := by decide +kernel
theorem dX12_ask_60 : decode cX12_ask 60 = .ok (.aload_n 0, 1) := by decide +kernel
theorem dX12_ask_61 : decode cX12_ask 61 = .ok (.iconst 0, 1) := by decide +kernel
theorem dX12_ask_62 : decode cX12_ask 62 = .ok (.putfield 344, 3) := by decide +kernel
theorem dX12_ask_65 : decode cX12_ask 65 = .ok (.aload_n 0, 1) := by decide +kernel
theorem dX12_ask_66 : decode cX12_ask 66 = .ok (.iconst 0, 1) := by decide +kernel
theorem dX12_ask_67 : decode cX12_ask 67 = .ok (.putfield 347, 3) := by decide +kernel
theorem dX12_ask_70 : decode cX12_ask 70 = .ok (.aload_n 0, 1) := by decide +kernel
theorem dX12_ask_71 : decode cX12_ask 71 = .ok (.iconst 0, 1) := by decide +kernel
theorem dX12_ask_72 : decode cX12_ask 72 = .ok (.putfield 350, 3) := by decide +kernel
theorem dX12_ask_75 : decode cX12_ask 75 = .ok (.aload_n 0, 1) := by decide +kernel
theorem dX12_ask_76 : decode cX12_ask 76 = .ok (.invokevirtual 684, 3) := by decide +kernel
theorem dX12_ask_79 : decode cX12_ask 79 = .ok (.istore_n 2, 1) := by decide +kernel
theorem dX12_ask_80 : decode cX12_ask 80 = .ok (.aload_n 0, 1) := by decide +kernel
theorem dX12_ask_81 : decode cX12_ask 81 = .ok (.getfield 242, 3) := by decide +kernel
theorem dX12_ask_84 : decode cX12_ask 84 = .ok (.ifCond .ne 15, 3) := by decide +kernel
theorem dX12_ask_87 : decode cX12_ask 87 = .ok (.iload_n 2, 1) := by decide +kernel
theorem dX12_ask_88 : decode cX12_ask 88 = .ok (.iconst 3, 1) := by decide +kernel
theorem dX12_ask_89 : decode cX12_ask 89 = .ok (.if_icmp .ge 10, 3) := by decide +kernel
theorem dX12_ask_92 : decode cX12_ask 92 = .ok (.aload_n 0, 1) := by decide +kernel
theorem dX12_ask_93 : decode cX12_ask 93 = .ok (.invokevirtual 362, 3) := by decide +kernel
theorem dX12_ask_96 : decode cX12_ask 96 = .ok (.goto 14, 3) := by decide +kernel
theorem dX12_ask_99 : decode cX12_ask 99 = .ok (.aload_n 0, 1) := by decide +kernel
theorem dX12_ask_100 : decode cX12_ask 100 = .ok (.getfield 242, 3) := by decide +kernel
theorem dX12_ask_103 : decode cX12_ask 103 = .ok (.ifCond .ne 7, 3) := by decide +kernel
theorem dX12_ask_106 : decode cX12_ask 106 = .ok (.aload_n 0, 1) := by decide +kernel
theorem dX12_ask_107 : decode cX12_ask 107 = .ok (.invokevirtual 356, 3) := by decide +kernel
theorem dX12_ask_110 : decode cX12_ask 110 = .ok (.aload_n 0, 1) := by decide +kernel
theorem dX12_ask_111 : decode cX12_ask 111 = .ok (.getfield 242, 3) := by decide +kernel
theorem dX12_ask_114 : decode cX12_ask 114 = .ok (.ifCond .ne 20, 3) := by decide +kernel
theorem dX12_ask_117 : decode cX12_ask 117 = .ok (.aload_n 0, 1) := by decide +kernel
theorem dX12_ask_118 : decode cX12_ask 118 = .ok (.invokevirtual 254, 3) := by decide +kernel
theorem dX12_ask_121 : decode cX12_ask 121 = .ok (.iconst (-1), 1) := by decide +kernel
theorem dX12_ask_122 : decode cX12_ask 122 = .ok (.if_icmp .eq 12, 3) := by decide +kernel
theorem dX12_ask_125 : decode cX12_ask 125 = .ok (.aload_n 0, 1) := by decide +kernel
theorem dX12_ask_126 : decode cX12_ask 126 = .ok (.iconst 1, 1) := by decide +kernel
theorem dX12_ask_127 : decode cX12_ask 127 = .ok (.aload_n 0, 1) := by decide +kernel
theorem dX12_ask_128 : decode cX12_ask 128 = .ok (.getfield 248, 3) := by decide +kernel
theorem dX12_ask_131 : decode cX12_ask 131 = .ok (.invokevirtual 272, 3) := by decide +kernel
theorem dX12_ask_134 : decode cX12_ask 134 = .ok (.aload_n 0, 1) := by decide +kernel
theorem dX12_ask_135 : decode cX12_ask 135 = .ok (.aload_n 0, 1) := by decide +kernel
theorem dX12_ask_136 : decode cX12_ask 136 = .ok (.getfield 242, 3) := by decide +kernel
theorem dX12_ask_139 : decode cX12_ask 139 = .ok (.putfield 392, 3) := by decide +kernel
theorem dX12_ask_142 : decode cX12_ask 142 = .ok (.aload_n 0, 1) := by decide +kernel
theorem dX12_ask_143 : decode cX12_ask 143 = .ok (.aload_n 0, 1) := by decide +kernel
theorem dX12_ask_144 : decode cX12_ask 144 = .ok (.getfield 245, 3) := by decide +kernel
theorem dX12_ask_147 : decode cX12_ask 147 = .ok (.putfield 13, 3) := by decide +kernel
theorem dX12_ask_150 : decode cX12_ask 150 = .ok (.aload_n 0, 1) := by decide +kernel
theorem dX12_ask_151 : decode cX12_ask 151 = .ok (.getfield 242, 3) := by decide +kernel
theorem dX12_ask_154 : decode cX12_ask 154 = .ok (.ifCond .eq 7, 3) := by decide +kernel
theorem dX12_ask_157 : decode cX12_ask 157 = .ok (.ldc2_w 682, 3) := by decide +kernel
theorem dX12_ask_160 : decode cX12_ask 160 = .ok (.lreturn, 1) := by decide +kernel
theorem dX12_ask_161 : decode cX12_ask 161 = .ok (.aload_n 0, 1) := by decide +kernel
theorem dX12_ask_162 : decode cX12_ask 162 = .ok (.iload_n 2, 1) := by decide +kernel
theorem dX12_ask_163 : decode cX12_ask 163 = .ok (.iconst 2, 1) := by decide +kernel
theorem dX12_ask_164 : decode cX12_ask 164 = .ok (.if_icmp .ge 9, 3) := by decide +kernel
theorem dX12_ask_167 : decode cX12_ask 167 = .ok (.ldc2_w 676, 3) := by decide +kernel
theorem dX12_ask_170 : decode cX12_ask 170 = .ok (.goto 4, 3) := by decide +kernel
theorem dX12_ask_173 : decode cX12_ask 173 = .ok (.lconst 0, 1) := by decide +kernel
theorem dX12_ask_174 : decode cX12_ask 174 = .ok (.putfield 673, 3) := by decide +kernel
theorem dX12_ask_177 : decode cX12_ask 177 = .ok (.aload_n 0, 1) := by decide +kernel
theorem dX12_ask_178 : decode cX12_ask 178 = .ok (.iconst 1, 1) := by decide +kernel
theorem dX12_ask_179 : decode cX12_ask 179 = .ok (.putfield 678, 3) := by decide +kernel
theorem dX12_ask_182 : decode cX12_ask 182 = .ok (.aload_n 0, 1) := by decide +kernel
theorem dX12_ask_183 : decode cX12_ask 183 = .ok (.invokevirtual 523, 3) := by decide +kernel
theorem dX12_ask_186 : decode cX12_ask 186 = .ok (.iconst 0, 1) := by decide +kernel
theorem dX12_ask_187 : decode cX12_ask 187 = .ok (.istore_n 3, 1) := by decide +kernel
theorem dX12_ask_188 : decode cX12_ask 188 = .ok (.iload_n 3, 1) := by decide +kernel
theorem dX12_ask_189 : decode cX12_ask 189 = .ok (.bipush 73, 2) := by decide +kernel
theorem dX12_ask_191 : decode cX12_ask 191 = .ok (.if_icmp .ge 59, 3) := by decide +kernel
theorem dX12_ask_194 : decode cX12_ask 194 = .ok (.aload_n 0, 1) := by decide +kernel
theorem dX12_ask_195 : decode cX12_ask 195 = .ok (.getfield 139, 3) := by decide +kernel
theorem dX12_ask_198 : decode cX12_ask 198 = .ok (.iconst 0, 1) := by decide +kernel
theorem dX12_ask_199 : decode cX12_ask 199 = .ok (.iaload, 1) := by decide +kernel
theorem dX12_ask_200 : decode cX12_ask 200 = .ok (.iload_n 3, 1) := by decide +kernel
theorem dX12_ask_201 : decode cX12_ask 201 = .ok (.iadd, 1) := by decide +kernel
theorem dX12_ask_202 : decode cX12_ask 202 = .ok (.sipush 9999, 3) := by decide +kernel
theorem dX12_ask_205 : decode cX12_ask 205 = .ok (.if_icmp .gt 45, 3) := by decide +kernel
theorem dX12_ask_208 : decode cX12_ask 208 = .ok (.iload_n 3, 1) := by decide +kernel
theorem dX12_ask_209 : decode cX12_ask 209 = .ok (.ifCond .le 7, 3) := by decide +kernel
theorem dX12_ask_212 : decode cX12_ask 212 = .ok (.aload_n 0, 1) := by decide +kernel
theorem dX12_ask_213 : decode cX12_ask 213 = .ok (.invokevirtual 487, 3) := by decide +kernel
theorem dX12_ask_216 : decode cX12_ask 216 = .ok (.aload_n 0, 1) := by decide +kernel
theorem dX12_ask_217 : decode cX12_ask 217 = .ok (.aload_n 0, 1) := by decide +kernel
theorem dX12_ask_218 : decode cX12_ask 218 = .ok (.iload_n 1, 1) := by decide +kernel
theorem dX12_ask_219 : decode cX12_ask 219 = .ok (.invokevirtual 490, 3) := by decide +kernel
theorem dX12_ask_222 : decode cX12_ask 222 = .ok (.putfield 670, 3) := by decide +kernel
theorem dX12_ask_225 : decode cX12_ask 225 = .ok (.aload_n 0, 1) := by decide +kernel
theorem dX12_ask_226 : decode cX12_ask 226 = .ok (.iload_n 1, 1) := by decide +kernel
theorem dX12_ask_227 : decode cX12_ask 227 = .ok (.putfield 458, 3) := by decide +kernel
theorem dX12_ask_230 : decode cX12_ask 230 = .ok (.aload_n 0, 1) := by decide +kernel
theorem dX12_ask_231 : decode cX12_ask 231 = .ok (.iload_n 2, 1) := by decide +kernel
theorem dX12_ask_232 : decode cX12_ask 232 = .ok (.aload_n 0, 1) := by decide +kernel
theorem dX12_ask_233 : decode cX12_ask 233 = .ok (.iload_n 3, 1) := by decide +kernel
theorem dX12_ask_234 : decode cX12_ask 234 = .ok (.invokevirtual 687, 3) := by decide +kernel
theorem dX12_ask_237 : decode cX12_ask 237 = .ok (.aload_n 0, 1) := by decide +kernel
theorem dX12_ask_238 : decode cX12_ask 238 = .ok (.invokevirtual 493, 3) := by decide +kernel
theorem dX12_ask_241 : decode cX12_ask 241 = .ok (.invokevirtual 690, 3) := by decide +kernel
theorem dX12_ask_244 : decode cX12_ask 244 = .ok (.iinc 3 1, 3) := by decide +kernel
theorem dX12_ask_247 : decode cX12_ask 247 = .ok (.goto (-59), 3) := by decide +kernel
theorem dX12_ask_250 : decode cX12_ask 250 = .ok (.aload_n 0, 1) := by decide +kernel
theorem dX12_ask_251 : decode cX12_ask 251 = .ok (.invokevirtual 529, 3) := by decide +kernel
theorem dX12_ask_254 : decode cX12_ask 254 = .ok (.aload_n 0, 1) := by decide +kernel
theorem dX12_ask_255 : decode cX12_ask 255 = .ok (.getfield 673, 3) := by decide +kernel
theorem dX12_ask_258 : decode cX12_ask 258 = .ok (.lreturn, 1) := by decide +kernel
theorem dX12_checked_0 : decode cX12_checked 0 = .ok (.sipush 193, 3) := by decide +kernel
theorem dX12_checked_3 : decode cX12_checked 3 = .ok (.istore_n 2, 1) := by decide +kernel
theorem dX12_checked_4 : decode cX12_checked 4 = .ok (.iconst 0, 1) := by decide +kernel
theorem dX12_checked_5 : decode cX12_checked 5 = .ok (.istore_n 3, 1) := by decide +kernel
theorem dX12_checked_6 : decode cX12_checked 6 = .ok (.iload_n 3, 1) := by decide +kernel
theorem dX12_checked_7 : decode cX12_checked 7 = .ok (.iload_n 1, 1) := by decide +kernel
theorem dX12_checked_8 : decode cX12_checked 8 = .ok (.if_icmp .ge 21, 3) := by decide +kernel
theorem dX12_checked_11 : decode cX12_checked 11 = .ok (.iconst 3, 1) := by decide +kernel
theorem dX12_checked_12 : decode cX12_checked 12 = .ok (.iload_n 2, 1) := by decide +kernel
theorem dX12_checked_13 : decode cX12_checked 13 = .ok (.imul, 1) := by decide +kernel
theorem dX12_checked_14 : decode cX12_checked 14 = .ok (.aload_n 0, 1) := by decide +kernel
theorem dX12_checked_15 : decode cX12_checked 15 = .ok (.iload_n 3, 1) := by decide +kernel
theorem dX12_checked_16 : decode cX12_checked 16 = .ok (.iaload, 1) := by decide +kernel
theorem dX12_checked_17 : decode cX12_checked 17 = .ok (.iadd, 1) := by decide +kernel
theorem dX12_checked_18 : decode cX12_checked 18 = .ok (.sipush 251, 3) := by decide +kernel
theorem dX12_checked_21 : decode cX12_checked 21 = .ok (.irem, 1) := by decide +kernel
theorem dX12_checked_22 : decode cX12_checked 22 = .ok (.istore_n 2, 1) := by decide +kernel
theorem dX12_checked_23 : decode cX12_checked 23 = .ok (.iinc 3 1, 3) := by decide +kernel
theorem dX12_checked_26 : decode cX12_checked 26 = .ok (.goto (-20), 3) := by decide +kernel
theorem dX12_checked_29 : decode cX12_checked 29 = .ok (.iload_n 2, 1) := by decide +kernel
theorem dX12_checked_30 : decode cX12_checked 30 = .ok (.ireturn, 1) := by decide +kernel
theorem dX12_writes_0 : decode cX12_writes 0 = .ok (.aload_n 0, 1) := by decide +kernel
theorem dX12_writes_1 : decode cX12_writes 1 = .ok (.getfield 236, 3) := by decide +kernel
theorem dX12_writes_4 : decode cX12_writes 4 = .ok (.aload_n 0, 1) := by decide +kernel
theorem dX12_writes_5 : decode cX12_writes 5 = .ok (.getfield 694, 3) := by decide +kernel
theorem dX12_writes_8 : decode cX12_writes 8 = .ok (.iload_n 1, 1) := by decide +kernel
theorem dX12_writes_9 : decode cX12_writes 9 = .ok (.iastore, 1) := by decide +kernel
theorem dX12_writes_10 : decode cX12_writes 10 = .ok (.aload_n 0, 1) := by decide +kernel
theorem dX12_writes_11 : decode cX12_writes 11 = .ok (.dup, 1) := by decide +kernel
theorem dX12_writes_12 : decode cX12_writes 12 = .ok (.getfield 694, 3) := by decide +kernel
theorem dX12_writes_15 : decode cX12_writes 15 = .ok (.iconst 1, 1) := by decide +kernel
theorem dX12_writes_16 : decode cX12_writes 16 = .ok (.iadd, 1) := by decide +kernel
theorem dX12_writes_17 : decode cX12_writes 17 = .ok (.putfield 694, 3) := by decide +kernel
theorem dX12_writes_20 : decode cX12_writes 20 = .ok (.return_, 1) := by decide +kernel
theorem dX12_image_0 : decode cX12_image 0 = .ok (.aload_n 0, 1) := by decide +kernel
theorem dX12_image_1 : decode cX12_image 1 = .ok (.iconst 0, 1) := by decide +kernel
theorem dX12_image_2 : decode cX12_image 2 = .ok (.putfield 694, 3) := by decide +kernel
theorem dX12_image_5 : decode cX12_image 5 = .ok (.aload_n 0, 1) := by decide +kernel
theorem dX12_image_6 : decode cX12_image 6 = .ok (.aload_n 0, 1) := by decide +kernel
theorem dX12_image_7 : decode cX12_image 7 = .ok (.invokevirtual 493, 3) := by decide +kernel
theorem dX12_image_10 : decode cX12_image 10 = .ok (.sipush 256, 3) := by decide +kernel
theorem dX12_image_13 : decode cX12_image 13 = .ok (.idiv, 1) := by decide +kernel
theorem dX12_image_14 : decode cX12_image 14 = .ok (.invokevirtual 697, 3) := by decide +kernel
theorem dX12_image_17 : decode cX12_image 17 = .ok (.aload_n 0, 1) := by decide +kernel
theorem dX12_image_18 : decode cX12_image 18 = .ok (.aload_n 0, 1) := by decide +kernel
theorem dX12_image_19 : decode cX12_image 19 = .ok (.invokevirtual 493, 3) := by decide +kernel
theorem dX12_image_22 : decode cX12_image 22 = .ok (.sipush 256, 3) := by decide +kernel
theorem dX12_image_25 : decode cX12_image 25 = .ok (.irem, 1) := by decide +kernel
theorem dX12_image_26 : decode cX12_image 26 = .ok (.invokevirtual 697, 3) := by decide +kernel
theorem dX12_image_29 : decode cX12_image 29 = .ok (.iconst 0, 1) := by decide +kernel
theorem dX12_image_30 : decode cX12_image 30 = .ok (.istore_n 1, 1) := by decide +kernel
theorem dX12_image_31 : decode cX12_image 31 = .ok (.iload_n 1, 1) := by decide +kernel
theorem dX12_image_32 : decode cX12_image 32 = .ok (.aload_n 0, 1) := by decide +kernel
theorem dX12_image_33 : decode cX12_image 33 = .ok (.invokevirtual 407, 3) := by decide +kernel
theorem dX12_image_36 : decode cX12_image 36 = .ok (.if_icmp .ge 45, 3) := by decide +kernel
theorem dX12_image_39 : decode cX12_image 39 = .ok (.iconst 0, 1) := by decide +kernel
theorem dX12_image_40 : decode cX12_image 40 = .ok (.istore_n 2, 1) := by decide +kernel
theorem dX12_image_41 : decode cX12_image 41 = .ok (.iload_n 2, 1) := by decide +kernel
theorem dX12_image_42 : decode cX12_image 42 = .ok (.aload_n 0, 1) := by decide +kernel
theorem dX12_image_43 : decode cX12_image 43 = .ok (.invokevirtual 404, 3) := by decide +kernel
theorem dX12_image_46 : decode cX12_image 46 = .ok (.if_icmp .ge 29, 3) := by decide +kernel
theorem dX12_image_49 : decode cX12_image 49 = .ok (.aload_n 0, 1) := by decide +kernel
theorem dX12_image_50 : decode cX12_image 50 = .ok (.aload_n 0, 1) := by decide +kernel
theorem dX12_image_51 : decode cX12_image 51 = .ok (.iload_n 1, 1) := by decide +kernel
theorem dX12_image_52 : decode cX12_image 52 = .ok (.iload_n 2, 1) := by decide +kernel
theorem dX12_image_53 : decode cX12_image 53 = .ok (.invokevirtual 434, 3) := by decide +kernel
theorem dX12_image_56 : decode cX12_image 56 = .ok (.invokevirtual 697, 3) := by decide +kernel
theorem dX12_image_59 : decode cX12_image 59 = .ok (.aload_n 0, 1) := by decide +kernel
theorem dX12_image_60 : decode cX12_image 60 = .ok (.aload_n 0, 1) := by decide +kernel
theorem dX12_image_61 : decode cX12_image 61 = .ok (.iload_n 1, 1) := by decide +kernel
theorem dX12_image_62 : decode cX12_image 62 = .ok (.iload_n 2, 1) := by decide +kernel
theorem dX12_image_63 : decode cX12_image 63 = .ok (.invokevirtual 440, 3) := by decide +kernel
theorem dX12_image_66 : decode cX12_image 66 = .ok (.invokevirtual 697, 3) := by decide +kernel
theorem dX12_image_69 : decode cX12_image 69 = .ok (.iinc 2 1, 3) := by decide +kernel
theorem dX12_image_72 : decode cX12_image 72 = .ok (.goto (-31), 3) := by decide +kernel
theorem dX12_image_75 : decode cX12_image 75 = .ok (.iinc 1 1, 3) := by decide +kernel
theorem dX12_image_78 : decode cX12_image 78 = .ok (.goto (-47), 3) := by decide +kernel
theorem dX12_image_81 : decode cX12_image 81 = .ok (.iconst 0, 1) := by decide +kernel
theorem dX12_image_82 : decode cX12_image 82 = .ok (.istore_n 1, 1) := by decide +kernel
theorem dX12_image_83 : decode cX12_image 83 = .ok (.iload_n 1, 1) := by decide +kernel
theorem dX12_image_84 : decode cX12_image 84 = .ok (.aload_n 0, 1) := by decide +kernel
theorem dX12_image_85 : decode cX12_image 85 = .ok (.invokevirtual 410, 3) := by decide +kernel
theorem dX12_image_88 : decode cX12_image 88 = .ok (.if_icmp .ge 44, 3) := by decide +kernel
theorem dX12_image_91 : decode cX12_image 91 = .ok (.aload_n 0, 1) := by decide +kernel
theorem dX12_image_92 : decode cX12_image 92 = .ok (.aload_n 0, 1) := by decide +kernel
theorem dX12_image_93 : decode cX12_image 93 = .ok (.iload_n 1, 1) := by decide +kernel
theorem dX12_image_94 : decode cX12_image 94 = .ok (.invokevirtual 465, 3) := by decide +kernel
theorem dX12_image_97 : decode cX12_image 97 = .ok (.invokevirtual 697, 3) := by decide +kernel
theorem dX12_image_100 : decode cX12_image 100 = .ok (.iconst 0, 1) := by decide +kernel
theorem dX12_image_101 : decode cX12_image 101 = .ok (.istore_n 2, 1) := by decide +kernel
theorem dX12_image_102 : decode cX12_image 102 = .ok (.iload_n 2, 1) := by decide +kernel
theorem dX12_image_103 : decode cX12_image 103 = .ok (.aload_n 0, 1) := by decide +kernel
theorem dX12_image_104 : decode cX12_image 104 = .ok (.invokevirtual 404, 3) := by decide +kernel
theorem dX12_image_107 : decode cX12_image 107 = .ok (.if_icmp .ge 19, 3) := by decide +kernel
theorem dX12_image_110 : decode cX12_image 110 = .ok (.aload_n 0, 1) := by decide +kernel
theorem dX12_image_111 : decode cX12_image 111 = .ok (.aload_n 0, 1) := by decide +kernel
theorem dX12_image_112 : decode cX12_image 112 = .ok (.iload_n 1, 1) := by decide +kernel
theorem dX12_image_113 : decode cX12_image 113 = .ok (.iload_n 2, 1) := by decide +kernel
theorem dX12_image_114 : decode cX12_image 114 = .ok (.invokevirtual 471, 3) := by decide +kernel
theorem dX12_image_117 : decode cX12_image 117 = .ok (.invokevirtual 697, 3) := by decide +kernel
theorem dX12_image_120 : decode cX12_image 120 = .ok (.iinc 2 1, 3) := by decide +kernel
theorem dX12_image_123 : decode cX12_image 123 = .ok (.goto (-21), 3) := by decide +kernel
theorem dX12_image_126 : decode cX12_image 126 = .ok (.iinc 1 1, 3) := by decide +kernel
theorem dX12_image_129 : decode cX12_image 129 = .ok (.goto (-46), 3) := by decide +kernel
theorem dX12_image_132 : decode cX12_image 132 = .ok (.aload_n 0, 1) := by decide +kernel
theorem dX12_image_133 : decode cX12_image 133 = .ok (.aload_n 0, 1) := by decide +kernel
theorem dX12_image_134 : decode cX12_image 134 = .ok (.getfield 236, 3) := by decide +kernel
theorem dX12_image_137 : decode cX12_image 137 = .ok (.aload_n 0, 1) := by decide +kernel
theorem dX12_image_138 : decode cX12_image 138 = .ok (.getfield 694, 3) := by decide +kernel
theorem dX12_image_141 : decode cX12_image 141 = .ok (.invokestatic 700, 3) := by decide +kernel
theorem dX12_image_144 : decode cX12_image 144 = .ok (.invokevirtual 697, 3) := by decide +kernel
theorem dX12_image_147 : decode cX12_image 147 = .ok (.aload_n 0, 1) := by decide +kernel
theorem dX12_image_148 : decode cX12_image 148 = .ok (.getfield 694, 3) := by decide +kernel
theorem dX12_image_151 : decode cX12_image 151 = .ok (.ireturn, 1) := by decide +kernel
theorem dX12_octet_0 : decode cX12_octet 0 = .ok (.iload_n 1, 1) := by decide +kernel
theorem dX12_octet_1 : decode cX12_octet 1 = .ok (.ifCond .lt 20, 3) := by decide +kernel
theorem dX12_octet_4 : decode cX12_octet 4 = .ok (.iload_n 1, 1) := by decide +kernel
theorem dX12_octet_5 : decode cX12_octet 5 = .ok (.aload_n 0, 1) := by decide +kernel
theorem dX12_octet_6 : decode cX12_octet 6 = .ok (.getfield 694, 3) := by decide +kernel
theorem dX12_octet_9 : decode cX12_octet 9 = .ok (.if_icmp .ge 12, 3) := by decide +kernel
theorem dX12_octet_12 : decode cX12_octet 12 = .ok (.aload_n 0, 1) := by decide +kernel
theorem dX12_octet_13 : decode cX12_octet 13 = .ok (.getfield 236, 3) := by decide +kernel
theorem dX12_octet_16 : decode cX12_octet 16 = .ok (.iload_n 1, 1) := by decide +kernel
theorem dX12_octet_17 : decode cX12_octet 17 = .ok (.iaload, 1) := by decide +kernel
theorem dX12_octet_18 : decode cX12_octet 18 = .ok (.goto 4, 3) := by decide +kernel
theorem dX12_octet_21 : decode cX12_octet 21 = .ok (.iconst (-1), 1) := by decide +kernel
theorem dX12_octet_22 : decode cX12_octet 22 = .ok (.ireturn, 1) := by decide +kernel
theorem dX12_loavesFrom_0 : decode cX12_loavesFrom 0 = .ok (.iconst 2, 1) := by decide +kernel
theorem dX12_loavesFrom_1 : decode cX12_loavesFrom 1 = .ok (.iconst 2, 1) := by decide +kernel
theorem dX12_loavesFrom_2 : decode cX12_loavesFrom 2 = .ok (.aload_n 0, 1) := by decide +kernel
theorem dX12_loavesFrom_3 : decode cX12_loavesFrom 3 = .ok (.invokevirtual 404, 3) := by decide +kernel
theorem dX12_loavesFrom_6 : decode cX12_loavesFrom 6 = .ok (.imul, 1) := by decide +kernel
theorem dX12_loavesFrom_7 : decode cX12_loavesFrom 7 = .ok (.aload_n 0, 1) := by decide +kernel
theorem dX12_loavesFrom_8 : decode cX12_loavesFrom 8 = .ok (.invokevirtual 407, 3) := by decide +kernel
theorem dX12_loavesFrom_11 : decode cX12_loavesFrom 11 = .ok (.imul, 1) := by decide +kernel
theorem dX12_loavesFrom_12 : decode cX12_loavesFrom 12 = .ok (.iadd, 1) := by decide +kernel
theorem dX12_loavesFrom_13 : decode cX12_loavesFrom 13 = .ok (.ireturn, 1) := by decide +kernel
theorem dX12_isTold_0 : decode cX12_isTold 0 = .ok (.aload_n 0, 1) := by decide +kernel
theorem dX12_isTold_1 : decode cX12_isTold 1 = .ok (.invokevirtual 704, 3) := by decide +kernel
theorem dX12_isTold_4 : decode cX12_isTold 4 = .ok (.istore_n 2, 1) := by decide +kernel
theorem dX12_isTold_5 : decode cX12_isTold 5 = .ok (.iconst 1, 1) := by decide +kernel
theorem dX12_isTold_6 : decode cX12_isTold 6 = .ok (.aload_n 0, 1) := by decide +kernel
theorem dX12_isTold_7 : decode cX12_isTold 7 = .ok (.invokevirtual 404, 3) := by decide +kernel
theorem dX12_isTold_10 : decode cX12_isTold 10 = .ok (.iadd, 1) := by decide +kernel
theorem dX12_isTold_11 : decode cX12_isTold 11 = .ok (.istore_n 3, 1) := by decide +kernel
theorem dX12_isTold_12 : decode cX12_isTold 12 = .ok (.iload_n 1, 1) := by decide +kernel
theorem dX12_isTold_13 : decode cX12_isTold 13 = .ok (.iload_n 2, 1) := by decide +kernel
theorem dX12_isTold_14 : decode cX12_isTold 14 = .ok (.iload_n 3, 1) := by decide +kernel
theorem dX12_isTold_15 : decode cX12_isTold 15 = .ok (.aload_n 0, 1) := by decide +kernel
theorem dX12_isTold_16 : decode cX12_isTold 16 = .ok (.invokevirtual 410, 3) := by decide +kernel
theorem dX12_isTold_19 : decode cX12_isTold 19 = .ok (.imul, 1) := by decide +kernel
theorem dX12_isTold_20 : decode cX12_isTold 20 = .ok (.iadd, 1) := by decide +kernel
theorem dX12_isTold_21 : decode cX12_isTold 21 = .ok (.iconst 1, 1) := by decide +kernel
theorem dX12_isTold_22 : decode cX12_isTold 22 = .ok (.iadd, 1) := by decide +kernel
theorem dX12_isTold_23 : decode cX12_isTold 23 = .ok (.if_icmp .ne 47, 3) := by decide +kernel
theorem dX12_isTold_26 : decode cX12_isTold 26 = .ok (.aload_n 0, 1) := by decide +kernel
theorem dX12_isTold_27 : decode cX12_isTold 27 = .ok (.getfield 7, 3) := by decide +kernel
theorem dX12_isTold_30 : decode cX12_isTold 30 = .ok (.iload_n 1, 1) := by decide +kernel
theorem dX12_isTold_31 : decode cX12_isTold 31 = .ok (.iconst 1, 1) := by decide +kernel
theorem dX12_isTold_32 : decode cX12_isTold 32 = .ok (.isub, 1) := by decide +kernel
theorem dX12_isTold_33 : decode cX12_isTold 33 = .ok (.iaload, 1) := by decide +kernel
theorem dX12_isTold_34 : decode cX12_isTold 34 = .ok (.aload_n 0, 1) := by decide +kernel
theorem dX12_isTold_35 : decode cX12_isTold 35 = .ok (.getfield 7, 3) := by decide +kernel
theorem dX12_isTold_38 : decode cX12_isTold 38 = .ok (.iload_n 1, 1) := by decide +kernel
theorem dX12_isTold_39 : decode cX12_isTold 39 = .ok (.iconst 1, 1) := by decide +kernel
theorem dX12_isTold_40 : decode cX12_isTold 40 = .ok (.isub, 1) := by decide +kernel
theorem dX12_isTold_41 : decode cX12_isTold 41 = .ok (.invokestatic 700, 3) := by decide +kernel
theorem dX12_isTold_44 : decode cX12_isTold 44 = .ok (.if_icmp .ne 26, 3) := by decide +kernel
theorem dX12_isTold_47 : decode cX12_isTold 47 = .ok (.sipush 256, 3) := by decide +kernel
theorem dX12_isTold_50 : decode cX12_isTold 50 = .ok (.aload_n 0, 1) := by decide +kernel
theorem dX12_isTold_51 : decode cX12_isTold 51 = .ok (.getfield 7, 3) := by decide +kernel
theorem dX12_isTold_54 : decode cX12_isTold 54 = .ok (.iconst 0, 1) := by decide +kernel
theorem dX12_isTold_55 : decode cX12_isTold 55 = .ok (.iaload, 1) := by decide +kernel
theorem dX12_isTold_56 : decode cX12_isTold 56 = .ok (.imul, 1) := by decide +kernel
theorem dX12_isTold_57 : decode cX12_isTold 57 = .ok (.aload_n 0, 1) := by decide +kernel
theorem dX12_isTold_58 : decode cX12_isTold 58 = .ok (.getfield 7, 3) := by decide +kernel
theorem dX12_isTold_61 : decode cX12_isTold 61 = .ok (.iconst 1, 1) := by decide +kernel
theorem dX12_isTold_62 : decode cX12_isTold 62 = .ok (.iaload, 1) := by decide +kernel
theorem dX12_isTold_63 : decode cX12_isTold 63 = .ok (.iadd, 1) := by decide +kernel
theorem dX12_isTold_64 : decode cX12_isTold 64 = .ok (.sipush 9999, 3) := by decide +kernel
theorem dX12_isTold_67 : decode cX12_isTold 67 = .ok (.if_icmp .le 5, 3) := by decide +kernel
theorem dX12_isTold_70 : decode cX12_isTold 70 = .ok (.iconst 0, 1) := by decide +kernel
theorem dX12_isTold_71 : decode cX12_isTold 71 = .ok (.ireturn, 1) := by decide +kernel
theorem dX12_isTold_72 : decode cX12_isTold 72 = .ok (.iconst 2, 1) := by decide +kernel
theorem dX12_isTold_73 : decode cX12_isTold 73 = .ok (.istore 4, 2) := by decide +kernel
theorem dX12_isTold_75 : decode cX12_isTold 75 = .ok (.iload 4, 2) := by decide +kernel
theorem dX12_isTold_77 : decode cX12_isTold 77 = .ok (.iload_n 2, 1) := by decide +kernel
theorem dX12_isTold_78 : decode cX12_isTold 78 = .ok (.if_icmp .ge 23, 3) := by decide +kernel
theorem dX12_isTold_81 : decode cX12_isTold 81 = .ok (.aload_n 0, 1) := by decide +kernel
theorem dX12_isTold_82 : decode cX12_isTold 82 = .ok (.getfield 7, 3) := by decide +kernel
theorem dX12_isTold_85 : decode cX12_isTold 85 = .ok (.iload 4, 2) := by decide +kernel
theorem dX12_isTold_87 : decode cX12_isTold 87 = .ok (.iaload, 1) := by decide +kernel
theorem dX12_isTold_88 : decode cX12_isTold 88 = .ok (.bipush 99, 2) := by decide +kernel
theorem dX12_isTold_90 : decode cX12_isTold 90 = .ok (.if_icmp .le 5, 3) := by decide +kernel
theorem dX12_isTold_93 : decode cX12_isTold 93 = .ok (.iconst 0, 1) := by decide +kernel
theorem dX12_isTold_94 : decode cX12_isTold 94 = .ok (.ireturn, 1) := by decide +kernel
theorem dX12_isTold_95 : decode cX12_isTold 95 = .ok (.iinc 4 1, 3) := by decide +kernel
theorem dX12_isTold_98 : decode cX12_isTold 98 = .ok (.goto (-23), 3) := by decide +kernel
theorem dX12_isTold_101 : decode cX12_isTold 101 = .ok (.iconst 0, 1) := by decide +kernel
theorem dX12_isTold_102 : decode cX12_isTold 102 = .ok (.istore 4, 2) := by decide +kernel
theorem dX12_isTold_104 : decode cX12_isTold 104 = .ok (.iload 4, 2) := by decide +kernel
theorem dX12_isTold_106 : decode cX12_isTold 106 = .ok (.aload_n 0, 1) := by decide +kernel
theorem dX12_isTold_107 : decode cX12_isTold 107 = .ok (.invokevirtual 410, 3) := by decide +kernel
theorem dX12_isTold_110 : decode cX12_isTold 110 = .ok (.if_icmp .ge 70, 3) := by decide +kernel
theorem dX12_isTold_113 : decode cX12_isTold 113 = .ok (.aload_n 0, 1) := by decide +kernel
theorem dX12_isTold_114 : decode cX12_isTold 114 = .ok (.aload_n 0, 1) := by decide +kernel
theorem dX12_isTold_115 : decode cX12_isTold 115 = .ok (.getfield 7, 3) := by decide +kernel
theorem dX12_isTold_118 : decode cX12_isTold 118 = .ok (.iload_n 2, 1) := by decide +kernel
theorem dX12_isTold_119 : decode cX12_isTold 119 = .ok (.iload_n 3, 1) := by decide +kernel
theorem dX12_isTold_120 : decode cX12_isTold 120 = .ok (.iload 4, 2) := by decide +kernel
theorem dX12_isTold_122 : decode cX12_isTold 122 = .ok (.imul, 1) := by decide +kernel
theorem dX12_isTold_123 : decode cX12_isTold 123 = .ok (.iadd, 1) := by decide +kernel
theorem dX12_isTold_124 : decode cX12_isTold 124 = .ok (.iaload, 1) := by decide +kernel
theorem dX12_isTold_125 : decode cX12_isTold 125 = .ok (.invokevirtual 540, 3) := by decide +kernel
theorem dX12_isTold_128 : decode cX12_isTold 128 = .ok (.ifCond .ne 5, 3) := by decide +kernel
theorem dX12_isTold_131 : decode cX12_isTold 131 = .ok (.iconst 0, 1) := by decide +kernel
theorem dX12_isTold_132 : decode cX12_isTold 132 = .ok (.ireturn, 1) := by decide +kernel
theorem dX12_isTold_133 : decode cX12_isTold 133 = .ok (.iconst 0, 1) := by decide +kernel
theorem dX12_isTold_134 : decode cX12_isTold 134 = .ok (.istore 5, 2) := by decide +kernel
theorem dX12_isTold_136 : decode cX12_isTold 136 = .ok (.iload 5, 2) := by decide +kernel
theorem dX12_isTold_138 : decode cX12_isTold 138 = .ok (.aload_n 0, 1) := by decide +kernel
theorem dX12_isTold_139 : decode cX12_isTold 139 = .ok (.invokevirtual 404, 3) := by decide +kernel
theorem dX12_isTold_142 : decode cX12_isTold 142 = .ok (.if_icmp .ge 32, 3) := by decide +kernel
theorem dX12_isTold_145 : decode cX12_isTold 145 = .ok (.aload_n 0, 1) := by decide +kernel
theorem dX12_isTold_146 : decode cX12_isTold 146 = .ok (.getfield 7, 3) := by decide +kernel
theorem dX12_isTold_149 : decode cX12_isTold 149 = .ok (.iload_n 2, 1) := by decide +kernel
theorem dX12_isTold_150 : decode cX12_isTold 150 = .ok (.iload_n 3, 1) := by decide +kernel
theorem dX12_isTold_151 : decode cX12_isTold 151 = .ok (.iload 4, 2) := by decide +kernel
theorem dX12_isTold_153 : decode cX12_isTold 153 = .ok (.imul, 1) := by decide +kernel
theorem dX12_isTold_154 : decode cX12_isTold 154 = .ok (.iadd, 1) := by decide +kernel
theorem dX12_isTold_155 : decode cX12_isTold 155 = .ok (.iconst 1, 1) := by decide +kernel
theorem dX12_isTold_156 : decode cX12_isTold 156 = .ok (.iadd, 1) := by decide +kernel
theorem dX12_isTold_157 : decode cX12_isTold 157 = .ok (.iload 5, 2) := by decide +kernel
theorem dX12_isTold_159 : decode cX12_isTold 159 = .ok (.iadd, 1) := by decide +kernel
theorem dX12_isTold_160 : decode cX12_isTold 160 = .ok (.iaload, 1) := by decide +kernel
theorem dX12_isTold_161 : decode cX12_isTold 161 = .ok (.bipush 99, 2) := by decide +kernel
theorem dX12_isTold_163 : decode cX12_isTold 163 = .ok (.if_icmp .le 5, 3) := by decide +kernel
theorem dX12_isTold_166 : decode cX12_isTold 166 = .ok (.iconst 0, 1) := by decide +kernel
theorem dX12_isTold_167 : decode cX12_isTold 167 = .ok (.ireturn, 1) := by decide +kernel
theorem dX12_isTold_168 : decode cX12_isTold 168 = .ok (.iinc 5 1, 3) := by decide +kernel
theorem dX12_isTold_171 : decode cX12_isTold 171 = .ok (.goto (-35), 3) := by decide +kernel
theorem dX12_isTold_174 : decode cX12_isTold 174 = .ok (.iinc 4 1, 3) := by decide +kernel
theorem dX12_isTold_177 : decode cX12_isTold 177 = .ok (.goto (-73), 3) := by decide +kernel
theorem dX12_isTold_180 : decode cX12_isTold 180 = .ok (.iconst 1, 1) := by decide +kernel
theorem dX12_isTold_181 : decode cX12_isTold 181 = .ok (.ireturn, 1) := by decide +kernel
theorem dX12_on_0 : decode cX12_on 0 = .ok (.aload_n 0, 1) := by decide +kernel
theorem dX12_on_1 : decode cX12_on 1 = .ok (.getfield 239, 3) := by decide +kernel
theorem dX12_on_4 : decode cX12_on 4 = .ok (.istore_n 1, 1) := by decide +kernel
theorem dX12_on_5 : decode cX12_on 5 = .ok (.aload_n 0, 1) := by decide +kernel
theorem dX12_on_6 : decode cX12_on 6 = .ok (.iconst 0, 1) := by decide +kernel
theorem dX12_on_7 : decode cX12_on 7 = .ok (.putfield 239, 3) := by decide +kernel
theorem dX12_on_10 : decode cX12_on 10 = .ok (.aload_n 0, 1) := by decide +kernel
theorem dX12_on_11 : decode cX12_on 11 = .ok (.iload_n 1, 1) := by decide +kernel
theorem dX12_on_12 : decode cX12_on 12 = .ok (.invokevirtual 707, 3) := by decide +kernel
theorem dX12_on_15 : decode cX12_on 15 = .ok (.ifCond .ne 15, 3) := by decide +kernel
theorem dX12_on_18 : decode cX12_on 18 = .ok (.aload_n 0, 1) := by decide +kernel
theorem dX12_on_19 : decode cX12_on 19 = .ok (.getfield 17, 3) := by decide +kernel
theorem dX12_on_22 : decode cX12_on 22 = .ok (.iconst 5, 1) := by decide +kernel
theorem dX12_on_23 : decode cX12_on 23 = .ok (.dup2, 1) := by decide +kernel
theorem dX12_on_24 : decode cX12_on 24 = .ok (.iaload, 1) := by decide +kernel
theorem dX12_on_25 : decode cX12_on 25 = .ok (.iconst 1, 1) := by decide +kernel
theorem dX12_on_26 : decode cX12_on 26 = .ok (.iadd, 1) := by decide +kernel
theorem dX12_on_27 : decode cX12_on 27 = .ok (.iastore, 1) := by decide +kernel
theorem dX12_on_28 : decode cX12_on 28 = .ok (.iconst 0, 1) := by decide +kernel
theorem dX12_on_29 : decode cX12_on 29 = .ok (.ireturn, 1) := by decide +kernel
theorem dX12_on_30 : decode cX12_on 30 = .ok (.aload_n 0, 1) := by decide +kernel
theorem dX12_on_31 : decode cX12_on 31 = .ok (.getfield 136, 3) := by decide +kernel
theorem dX12_on_34 : decode cX12_on 34 = .ok (.iconst 0, 1) := by decide +kernel
theorem dX12_on_35 : decode cX12_on 35 = .ok (.sipush 256, 3) := by decide +kernel
theorem dX12_on_38 : decode cX12_on 38 = .ok (.aload_n 0, 1) := by decide +kernel
theorem dX12_on_39 : decode cX12_on 39 = .ok (.getfield 7, 3) := by decide +kernel
theorem dX12_on_42 : decode cX12_on 42 = .ok (.iconst 0, 1) := by decide +kernel
theorem dX12_on_43 : decode cX12_on 43 = .ok (.iaload, 1) := by decide +kernel
theorem dX12_on_44 : decode cX12_on 44 = .ok (.imul, 1) := by decide +kernel
theorem dX12_on_45 : decode cX12_on 45 = .ok (.aload_n 0, 1) := by decide +kernel
theorem dX12_on_46 : decode cX12_on 46 = .ok (.getfield 7, 3) := by decide +kernel
theorem dX12_on_49 : decode cX12_on 49 = .ok (.iconst 1, 1) := by decide +kernel
theorem dX12_on_50 : decode cX12_on 50 = .ok (.iaload, 1) := by decide +kernel
theorem dX12_on_51 : decode cX12_on 51 = .ok (.iadd, 1) := by decide +kernel
theorem dX12_on_52 : decode cX12_on 52 = .ok (.iastore, 1) := by decide +kernel
theorem dX12_on_53 : decode cX12_on 53 = .ok (.iconst 2, 1) := by decide +kernel
theorem dX12_on_54 : decode cX12_on 54 = .ok (.istore_n 2, 1) := by decide +kernel
theorem dX12_on_55 : decode cX12_on 55 = .ok (.iconst 0, 1) := by decide +kernel
theorem dX12_on_56 : decode cX12_on 56 = .ok (.istore_n 3, 1) := by decide +kernel
theorem dX12_on_57 : decode cX12_on 57 = .ok (.iload_n 3, 1) := by decide +kernel
theorem dX12_on_58 : decode cX12_on 58 = .ok (.aload_n 0, 1) := by decide +kernel
theorem dX12_on_59 : decode cX12_on 59 = .ok (.invokevirtual 407, 3) := by decide +kernel
theorem dX12_on_62 : decode cX12_on 62 = .ok (.if_icmp .ge 74, 3) := by decide +kernel
theorem dX12_on_65 : decode cX12_on 65 = .ok (.iconst 0, 1) := by decide +kernel
theorem dX12_on_66 : decode cX12_on 66 = .ok (.istore 4, 2) := by decide +kernel
theorem dX12_on_68 : decode cX12_on 68 = .ok (.iload 4, 2) := by decide +kernel
theorem dX12_on_70 : decode cX12_on 70 = .ok (.aload_n 0, 1) := by decide +kernel
theorem dX12_on_71 : decode cX12_on 71 = .ok (.invokevirtual 404, 3) := by decide +kernel
theorem dX12_on_74 : decode cX12_on 74 = .ok (.if_icmp .ge 56, 3) := by decide +kernel
theorem dX12_on_77 : decode cX12_on 77 = .ok (.aload_n 0, 1) := by decide +kernel
theorem dX12_on_78 : decode cX12_on 78 = .ok (.getfield 136, 3) := by decide +kernel
theorem dX12_on_81 : decode cX12_on 81 = .ok (.iconst 1, 1) := by decide +kernel
theorem dX12_on_82 : decode cX12_on 82 = .ok (.bipush 8, 2) := by decide +kernel
theorem dX12_on_84 : decode cX12_on 84 = .ok (.iload_n 3, 1) := by decide +kernel
theorem dX12_on_85 : decode cX12_on 85 = .ok (.imul, 1) := by decide +kernel
theorem dX12_on_86 : decode cX12_on 86 = .ok (.iadd, 1) := by decide +kernel
theorem dX12_on_87 : decode cX12_on 87 = .ok (.iload 4, 2) := by decide +kernel
theorem dX12_on_89 : decode cX12_on 89 = .ok (.iadd, 1) := by decide +kernel
theorem dX12_on_90 : decode cX12_on 90 = .ok (.aload_n 0, 1) := by decide +kernel
theorem dX12_on_91 : decode cX12_on 91 = .ok (.getfield 7, 3) := by decide +kernel
theorem dX12_on_94 : decode cX12_on 94 = .ok (.iload_n 2, 1) := by decide +kernel
theorem dX12_on_95 : decode cX12_on 95 = .ok (.iaload, 1) := by decide +kernel
theorem dX12_on_96 : decode cX12_on 96 = .ok (.iastore, 1) := by decide +kernel
theorem dX12_on_97 : decode cX12_on 97 = .ok (.aload_n 0, 1) := by decide +kernel
theorem dX12_on_98 : decode cX12_on 98 = .ok (.getfield 136, 3) := by decide +kernel
theorem dX12_on_101 : decode cX12_on 101 = .ok (.iconst 1, 1) := by decide +kernel
theorem dX12_on_102 : decode cX12_on 102 = .ok (.bipush 8, 2) := by decide +kernel
theorem dX12_on_104 : decode cX12_on 104 = .ok (.iload_n 3, 1) := by decide +kernel
theorem dX12_on_105 : decode cX12_on 105 = .ok (.imul, 1) := by decide +kernel
theorem dX12_on_106 : decode cX12_on 106 = .ok (.iadd, 1) := by decide +kernel
theorem dX12_on_107 : decode cX12_on 107 = .ok (.iconst 4, 1) := by decide +kernel
theorem dX12_on_108 : decode cX12_on 108 = .ok (.iadd, 1) := by decide +kernel
theorem dX12_on_109 : decode cX12_on 109 = .ok (.iload 4, 2) := by decide +kernel
theorem dX12_on_111 : decode cX12_on 111 = .ok (.iadd, 1) := by decide +kernel
theorem dX12_on_112 : decode cX12_on 112 = .ok (.aload_n 0, 1) := by decide +kernel
theorem dX12_on_113 : decode cX12_on 113 = .ok (.getfield 7, 3) := by decide +kernel
theorem dX12_on_116 : decode cX12_on 116 = .ok (.iload_n 2, 1) := by decide +kernel
theorem dX12_on_117 : decode cX12_on 117 = .ok (.iconst 1, 1) := by decide +kernel
theorem dX12_on_118 : decode cX12_on 118 = .ok (.iadd, 1) := by decide +kernel
theorem dX12_on_119 : decode cX12_on 119 = .ok (.iaload, 1) := by decide +kernel
theorem dX12_on_120 : decode cX12_on 120 = .ok (.iastore, 1) := by decide +kernel
theorem dX12_on_121 : decode cX12_on 121 = .ok (.iinc 2 2, 3) := by decide +kernel
theorem dX12_on_124 : decode cX12_on 124 = .ok (.iinc 4 1, 3) := by decide +kernel
theorem dX12_on_127 : decode cX12_on 127 = .ok (.goto (-59), 3) := by decide +kernel
theorem dX12_on_130 : decode cX12_on 130 = .ok (.iinc 3 1, 3) := by decide +kernel
theorem dX12_on_133 : decode cX12_on 133 = .ok (.goto (-76), 3) := by decide +kernel
theorem dX12_on_136 : decode cX12_on 136 = .ok (.iconst 0, 1) := by decide +kernel
theorem dX12_on_137 : decode cX12_on 137 = .ok (.istore_n 3, 1) := by decide +kernel
theorem dX12_on_138 : decode cX12_on 138 = .ok (.iload_n 3, 1) := by decide +kernel
theorem dX12_on_139 : decode cX12_on 139 = .ok (.aload_n 0, 1) := by decide +kernel
theorem dX12_on_140 : decode cX12_on 140 = .ok (.invokevirtual 410, 3) := by decide +kernel
theorem dX12_on_143 : decode cX12_on 143 = .ok (.if_icmp .ge 80, 3) := by decide +kernel
theorem dX12_on_146 : decode cX12_on 146 = .ok (.aload_n 0, 1) := by decide +kernel
theorem dX12_on_147 : decode cX12_on 147 = .ok (.getfield 136, 3) := by decide +kernel
theorem dX12_on_150 : decode cX12_on 150 = .ok (.bipush 65, 2) := by decide +kernel
theorem dX12_on_152 : decode cX12_on 152 = .ok (.iconst 5, 1) := by decide +kernel
theorem dX12_on_153 : decode cX12_on 153 = .ok (.iload_n 3, 1) := by decide +kernel
theorem dX12_on_154 : decode cX12_on 154 = .ok (.imul, 1) := by decide +kernel
theorem dX12_on_155 : decode cX12_on 155 = .ok (.iadd, 1) := by decide +kernel
theorem dX12_on_156 : decode cX12_on 156 = .ok (.aload_n 0, 1) := by decide +kernel
theorem dX12_on_157 : decode cX12_on 157 = .ok (.getfield 7, 3) := by decide +kernel
theorem dX12_on_160 : decode cX12_on 160 = .ok (.iload_n 2, 1) := by decide +kernel
theorem dX12_on_161 : decode cX12_on 161 = .ok (.iaload, 1) := by decide +kernel
theorem dX12_on_162 : decode cX12_on 162 = .ok (.iastore, 1) := by decide +kernel
theorem dX12_on_163 : decode cX12_on 163 = .ok (.iconst 0, 1) := by decide +kernel
theorem dX12_on_164 : decode cX12_on 164 = .ok (.istore 4, 2) := by decide +kernel
theorem dX12_on_166 : decode cX12_on 166 = .ok (.iload 4, 2) := by decide +kernel
theorem dX12_on_168 : decode cX12_on 168 = .ok (.aload_n 0, 1) := by decide +kernel
theorem dX12_on_169 : decode cX12_on 169 = .ok (.invokevirtual 404, 3) := by decide +kernel
theorem dX12_on_172 : decode cX12_on 172 = .ok (.if_icmp .ge 36, 3) := by decide +kernel
theorem dX12_on_175 : decode cX12_on 175 = .ok (.aload_n 0, 1) := by decide +kernel
theorem dX12_on_176 : decode cX12_on 176 = .ok (.getfield 136, 3) := by decide +kernel
theorem dX12_on_179 : decode cX12_on 179 = .ok (.bipush 65, 2) := by decide +kernel
theorem dX12_on_181 : decode cX12_on 181 = .ok (.iconst 5, 1) := by decide +kernel
theorem dX12_on_182 : decode cX12_on 182 = .ok (.iload_n 3, 1) := by decide +kernel
theorem dX12_on_183 : decode cX12_on 183 = .ok (.imul, 1) := by decide +kernel
theorem dX12_on_184 : decode cX12_on 184 = .ok (.iadd, 1) := by decide +kernel
theorem dX12_on_185 : decode cX12_on 185 = .ok (.iconst 1, 1) := by decide +kernel
theorem dX12_on_186 : decode cX12_on 186 = .ok (.iadd, 1) := by decide +kernel
theorem dX12_on_187 : decode cX12_on 187 = .ok (.iload 4, 2) := by decide +kernel
theorem dX12_on_189 : decode cX12_on 189 = .ok (.iadd, 1) := by decide +kernel
theorem dX12_on_190 : decode cX12_on 190 = .ok (.aload_n 0, 1) := by decide +kernel
theorem dX12_on_191 : decode cX12_on 191 = .ok (.getfield 7, 3) := by decide +kernel
theorem dX12_on_194 : decode cX12_on 194 = .ok (.iload_n 2, 1) := by decide +kernel
theorem dX12_on_195 : decode cX12_on 195 = .ok (.iconst 1, 1) := by decide +kernel
theorem dX12_on_196 : decode cX12_on 196 = .ok (.iadd, 1) := by decide +kernel
theorem dX12_on_197 : decode cX12_on 197 = .ok (.iload 4, 2) := by decide +kernel
theorem dX12_on_199 : decode cX12_on 199 = .ok (.iadd, 1) := by decide +kernel
theorem dX12_on_200 : decode cX12_on 200 = .ok (.iaload, 1) := by decide +kernel
theorem dX12_on_201 : decode cX12_on 201 = .ok (.iastore, 1) := by decide +kernel
theorem dX12_on_202 : decode cX12_on 202 = .ok (.iinc 4 1, 3) := by decide +kernel
theorem dX12_on_205 : decode cX12_on 205 = .ok (.goto (-39), 3) := by decide +kernel
theorem dX12_on_208 : decode cX12_on 208 = .ok (.iload_n 2, 1) := by decide +kernel
theorem dX12_on_209 : decode cX12_on 209 = .ok (.iconst 1, 1) := by decide +kernel
theorem dX12_on_210 : decode cX12_on 210 = .ok (.aload_n 0, 1) := by decide +kernel
theorem dX12_on_211 : decode cX12_on 211 = .ok (.invokevirtual 404, 3) := by decide +kernel
theorem dX12_on_214 : decode cX12_on 214 = .ok (.iadd, 1) := by decide +kernel
theorem dX12_on_215 : decode cX12_on 215 = .ok (.iadd, 1) := by decide +kernel
theorem dX12_on_216 : decode cX12_on 216 = .ok (.istore_n 2, 1) := by decide +kernel
theorem dX12_on_217 : decode cX12_on 217 = .ok (.iinc 3 1, 3) := by decide +kernel
theorem dX12_on_220 : decode cX12_on 220 = .ok (.goto (-82), 3) := by decide +kernel
theorem dX12_on_223 : decode cX12_on 223 = .ok (.aload_n 0, 1) := by decide +kernel
theorem dX12_on_224 : decode cX12_on 224 = .ok (.iconst 0, 1) := by decide +kernel
theorem dX12_on_225 : decode cX12_on 225 = .ok (.putfield 398, 3) := by decide +kernel
theorem dX12_on_228 : decode cX12_on 228 = .ok (.iconst 1, 1) := by decide +kernel
theorem dX12_on_229 : decode cX12_on 229 = .ok (.ireturn, 1) := by decide +kernel
theorem dX12_status_0 : decode cX12_status 0 = .ok (.iload_n 1, 1) := by decide +kernel
theorem dX12_status_1 : decode cX12_status 1 = .ok (.i2l, 1) := by decide +kernel
theorem dX12_status_2 : decode cX12_status 2 = .ok (.lconst 0, 1) := by decide +kernel
theorem dX12_status_3 : decode cX12_status 3 = .ok (.ldc2_w 501, 3) := by decide +kernel
theorem dX12_status_6 : decode cX12_status 6 = .ok (.invokestatic 282, 3) := by decide +kernel
theorem dX12_status_9 : decode cX12_status 9 = .ok (.ifCond .eq 12, 3) := by decide +kernel
theorem dX12_status_12 : decode cX12_status 12 = .ok (.aload_n 0, 1) := by decide +kernel
theorem dX12_status_13 : decode cX12_status 13 = .ok (.getfield 17, 3) := by decide +kernel
theorem dX12_status_16 : decode cX12_status 16 = .ok (.iload_n 1, 1) := by decide +kernel
theorem dX12_status_17 : decode cX12_status 17 = .ok (.iaload, 1) := by decide +kernel
theorem dX12_status_18 : decode cX12_status 18 = .ok (.goto 4, 3) := by decide +kernel
theorem dX12_status_21 : decode cX12_status 21 = .ok (.iconst (-1), 1) := by decide +kernel
theorem dX12_status_22 : decode cX12_status 22 = .ok (.ireturn, 1) := by decide +kernel
