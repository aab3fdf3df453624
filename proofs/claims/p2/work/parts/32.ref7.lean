/-! The reference over any state: lifts -/
theorem k73 : Cond.selects RX6 yX6_shareOf yX6_shareOf ∈ GW := gm 73 (by decide +kernel) (by decide +kernel)
theorem k75 : Cond.selects RX6 yX6_gets yX6_gets ∈ GW := gm 75 (by decide +kernel) (by decide +kernel)
theorem k1592 : Cond.methodLink RX6 266 yX6_shareOf ∈ GW := gm 1592 (by decide +kernel) (by decide +kernel)
theorem k1594 : Cond.instanceMethod yX6_shareOf ∈ GW := gm 1594 (by decide +kernel) (by decide +kernel)
theorem k1595 : Cond.code yX6_shareOf cX6_shareOf 7 (some .long) ∈ GW := gm 1595 (by decide +kernel) (by decide +kernel)
theorem k1600 : Cond.methodLink RX6 273 yX6_gets ∈ GW := gm 1600 (by decide +kernel) (by decide +kernel)
theorem k1602 : Cond.instanceMethod yX6_gets ∈ GW := gm 1602 (by decide +kernel) (by decide +kernel)
theorem k1603 : Cond.code yX6_gets cX6_gets 6 (some .long) ∈ GW := gm 1603 (by decide +kernel) (by decide +kernel)
theorem dX6_lifts_0 : decode cX6_lifts 0 = .ok (.aload_n 0, 1) := by decide +kernel
theorem dX6_lifts_1 : decode cX6_lifts 1 = .ok (.invokevirtual 199, 3) := by decide +kernel
theorem dX6_lifts_4 : decode cX6_lifts 4 = .ok (.istore_n 2, 1) := by decide +kernel
theorem dX6_lifts_5 : decode cX6_lifts 5 = .ok (.aload_n 0, 1) := by decide +kernel
theorem dX6_lifts_6 : decode cX6_lifts 6 = .ok (.iload_n 1, 1) := by decide +kernel
theorem dX6_lifts_7 : decode cX6_lifts 7 = .ok (.iconst (-1), 1) := by decide +kernel
theorem dX6_lifts_8 : decode cX6_lifts 8 = .ok (.invokevirtual 225, 3) := by decide +kernel
theorem dX6_lifts_11 : decode cX6_lifts 11 = .ok (.istore_n 3, 1) := by decide +kernel
theorem dX6_lifts_12 : decode cX6_lifts 12 = .ok (.aload_n 0, 1) := by decide +kernel
theorem dX6_lifts_13 : decode cX6_lifts 13 = .ok (.iload_n 1, 1) := by decide +kernel
theorem dX6_lifts_14 : decode cX6_lifts 14 = .ok (.iconst 1, 1) := by decide +kernel
theorem dX6_lifts_15 : decode cX6_lifts 15 = .ok (.invokevirtual 225, 3) := by decide +kernel
theorem dX6_lifts_18 : decode cX6_lifts 18 = .ok (.istore 4, 2) := by decide +kernel
theorem dX6_lifts_20 : decode cX6_lifts 20 = .ok (.aload_n 0, 1) := by decide +kernel
theorem dX6_lifts_21 : decode cX6_lifts 21 = .ok (.getfield 7, 3) := by decide +kernel
theorem dX6_lifts_24 : decode cX6_lifts 24 = .ok (.iconst 1, 1) := by decide +kernel
theorem dX6_lifts_25 : decode cX6_lifts 25 = .ok (.laload, 1) := by decide +kernel
theorem dX6_lifts_26 : decode cX6_lifts 26 = .ok (.l2i, 1) := by decide +kernel
theorem dX6_lifts_27 : decode cX6_lifts 27 = .ok (.istore 5, 2) := by decide +kernel
theorem dX6_lifts_29 : decode cX6_lifts 29 = .ok (.aload_n 0, 1) := by decide +kernel
theorem dX6_lifts_30 : decode cX6_lifts 30 = .ok (.iload_n 1, 1) := by decide +kernel
theorem dX6_lifts_31 : decode cX6_lifts 31 = .ok (.invokevirtual 262, 3) := by decide +kernel
theorem dX6_lifts_34 : decode cX6_lifts 34 = .ok (.lstore 6, 2) := by decide +kernel
theorem dX6_lifts_36 : decode cX6_lifts 36 = .ok (.aload_n 0, 1) := by decide +kernel
theorem dX6_lifts_37 : decode cX6_lifts 37 = .ok (.iload_n 1, 1) := by decide +kernel
theorem dX6_lifts_38 : decode cX6_lifts 38 = .ok (.iload_n 3, 1) := by decide +kernel
theorem dX6_lifts_39 : decode cX6_lifts 39 = .ok (.iload 4, 2) := by decide +kernel
theorem dX6_lifts_41 : decode cX6_lifts 41 = .ok (.iload 5, 2) := by decide +kernel
theorem dX6_lifts_43 : decode cX6_lifts 43 = .ok (.invokevirtual 266, 3) := by decide +kernel
theorem dX6_lifts_46 : decode cX6_lifts 46 = .ok (.lstore 8, 2) := by decide +kernel
theorem dX6_lifts_48 : decode cX6_lifts 48 = .ok (.aload_n 0, 1) := by decide +kernel
theorem dX6_lifts_49 : decode cX6_lifts 49 = .ok (.iload_n 2, 1) := by decide +kernel
theorem dX6_lifts_50 : decode cX6_lifts 50 = .ok (.iconst 0, 1) := by decide +kernel
theorem dX6_lifts_51 : decode cX6_lifts 51 = .ok (.iload_n 1, 1) := by decide +kernel
theorem dX6_lifts_52 : decode cX6_lifts 52 = .ok (.i2l, 1) := by decide +kernel
theorem dX6_lifts_53 : decode cX6_lifts 53 = .ok (.invokevirtual 269, 3) := by decide +kernel
theorem dX6_lifts_56 : decode cX6_lifts 56 = .ok (.aload_n 0, 1) := by decide +kernel
theorem dX6_lifts_57 : decode cX6_lifts 57 = .ok (.iload_n 2, 1) := by decide +kernel
theorem dX6_lifts_58 : decode cX6_lifts 58 = .ok (.iconst 1, 1) := by decide +kernel
theorem dX6_lifts_59 : decode cX6_lifts 59 = .ok (.iload_n 3, 1) := by decide +kernel
theorem dX6_lifts_60 : decode cX6_lifts 60 = .ok (.i2l, 1) := by decide +kernel
theorem dX6_lifts_61 : decode cX6_lifts 61 = .ok (.invokevirtual 269, 3) := by decide +kernel
theorem dX6_lifts_64 : decode cX6_lifts 64 = .ok (.aload_n 0, 1) := by decide +kernel
theorem dX6_lifts_65 : decode cX6_lifts 65 = .ok (.iload_n 2, 1) := by decide +kernel
theorem dX6_lifts_66 : decode cX6_lifts 66 = .ok (.iconst 2, 1) := by decide +kernel
theorem dX6_lifts_67 : decode cX6_lifts 67 = .ok (.iload 4, 2) := by decide +kernel
theorem dX6_lifts_69 : decode cX6_lifts 69 = .ok (.i2l, 1) := by decide +kernel
theorem dX6_lifts_70 : decode cX6_lifts 70 = .ok (.invokevirtual 269, 3) := by decide +kernel
theorem dX6_lifts_73 : decode cX6_lifts 73 = .ok (.aload_n 0, 1) := by decide +kernel
theorem dX6_lifts_74 : decode cX6_lifts 74 = .ok (.iload_n 2, 1) := by decide +kernel
theorem dX6_lifts_75 : decode cX6_lifts 75 = .ok (.iconst 3, 1) := by decide +kernel
theorem dX6_lifts_76 : decode cX6_lifts 76 = .ok (.lload 6, 2) := by decide +kernel
theorem dX6_lifts_78 : decode cX6_lifts 78 = .ok (.invokevirtual 269, 3) := by decide +kernel
theorem dX6_lifts_81 : decode cX6_lifts 81 = .ok (.aload_n 0, 1) := by decide +kernel
theorem dX6_lifts_82 : decode cX6_lifts 82 = .ok (.iload_n 2, 1) := by decide +kernel
theorem dX6_lifts_83 : decode cX6_lifts 83 = .ok (.iconst 4, 1) := by decide +kernel
theorem dX6_lifts_84 : decode cX6_lifts 84 = .ok (.aload_n 0, 1) := by decide +kernel
theorem dX6_lifts_85 : decode cX6_lifts 85 = .ok (.getfield 7, 3) := by decide +kernel
theorem dX6_lifts_88 : decode cX6_lifts 88 = .ok (.bipush 53, 2) := by decide +kernel
theorem dX6_lifts_90 : decode cX6_lifts 90 = .ok (.iload_n 1, 1) := by decide +kernel
theorem dX6_lifts_91 : decode cX6_lifts 91 = .ok (.iadd, 1) := by decide +kernel
theorem dX6_lifts_92 : decode cX6_lifts 92 = .ok (.laload, 1) := by decide +kernel
theorem dX6_lifts_93 : decode cX6_lifts 93 = .ok (.invokevirtual 269, 3) := by decide +kernel
theorem dX6_lifts_96 : decode cX6_lifts 96 = .ok (.aload_n 0, 1) := by decide +kernel
theorem dX6_lifts_97 : decode cX6_lifts 97 = .ok (.iload_n 2, 1) := by decide +kernel
theorem dX6_lifts_98 : decode cX6_lifts 98 = .ok (.iconst 5, 1) := by decide +kernel
theorem dX6_lifts_99 : decode cX6_lifts 99 = .ok (.lload 8, 2) := by decide +kernel
theorem dX6_lifts_101 : decode cX6_lifts 101 = .ok (.invokevirtual 269, 3) := by decide +kernel
theorem dX6_lifts_104 : decode cX6_lifts 104 = .ok (.aload_n 0, 1) := by decide +kernel
theorem dX6_lifts_105 : decode cX6_lifts 105 = .ok (.iload_n 2, 1) := by decide +kernel
theorem dX6_lifts_106 : decode cX6_lifts 106 = .ok (.bipush 6, 2) := by decide +kernel
theorem dX6_lifts_108 : decode cX6_lifts 108 = .ok (.aload_n 0, 1) := by decide +kernel
theorem dX6_lifts_109 : decode cX6_lifts 109 = .ok (.getfield 7, 3) := by decide +kernel
theorem dX6_lifts_112 : decode cX6_lifts 112 = .ok (.bipush 53, 2) := by decide +kernel
theorem dX6_lifts_114 : decode cX6_lifts 114 = .ok (.iload_n 3, 1) := by decide +kernel
theorem dX6_lifts_115 : decode cX6_lifts 115 = .ok (.iadd, 1) := by decide +kernel
theorem dX6_lifts_116 : decode cX6_lifts 116 = .ok (.laload, 1) := by decide +kernel
theorem dX6_lifts_117 : decode cX6_lifts 117 = .ok (.invokevirtual 269, 3) := by decide +kernel
theorem dX6_lifts_120 : decode cX6_lifts 120 = .ok (.aload_n 0, 1) := by decide +kernel
theorem dX6_lifts_121 : decode cX6_lifts 121 = .ok (.iload_n 2, 1) := by decide +kernel
theorem dX6_lifts_122 : decode cX6_lifts 122 = .ok (.bipush 7, 2) := by decide +kernel
theorem dX6_lifts_124 : decode cX6_lifts 124 = .ok (.aload_n 0, 1) := by decide +kernel
theorem dX6_lifts_125 : decode cX6_lifts 125 = .ok (.getfield 7, 3) := by decide +kernel
theorem dX6_lifts_128 : decode cX6_lifts 128 = .ok (.bipush 53, 2) := by decide +kernel
theorem dX6_lifts_130 : decode cX6_lifts 130 = .ok (.iload 4, 2) := by decide +kernel
theorem dX6_lifts_132 : decode cX6_lifts 132 = .ok (.iadd, 1) := by decide +kernel
theorem dX6_lifts_133 : decode cX6_lifts 133 = .ok (.laload, 1) := by decide +kernel
theorem dX6_lifts_134 : decode cX6_lifts 134 = .ok (.invokevirtual 269, 3) := by decide +kernel
theorem dX6_lifts_137 : decode cX6_lifts 137 = .ok (.aload_n 0, 1) := by decide +kernel
theorem dX6_lifts_138 : decode cX6_lifts 138 = .ok (.iload_n 2, 1) := by decide +kernel
theorem dX6_lifts_139 : decode cX6_lifts 139 = .ok (.bipush 8, 2) := by decide +kernel
theorem dX6_lifts_141 : decode cX6_lifts 141 = .ok (.iload 5, 2) := by decide +kernel
theorem dX6_lifts_143 : decode cX6_lifts 143 = .ok (.i2l, 1) := by decide +kernel
theorem dX6_lifts_144 : decode cX6_lifts 144 = .ok (.invokevirtual 269, 3) := by decide +kernel
theorem dX6_lifts_147 : decode cX6_lifts 147 = .ok (.aload_n 0, 1) := by decide +kernel
theorem dX6_lifts_148 : decode cX6_lifts 148 = .ok (.iload_n 2, 1) := by decide +kernel
theorem dX6_lifts_149 : decode cX6_lifts 149 = .ok (.bipush 9, 2) := by decide +kernel
theorem dX6_lifts_151 : decode cX6_lifts 151 = .ok (.aload_n 0, 1) := by decide +kernel
theorem dX6_lifts_152 : decode cX6_lifts 152 = .ok (.getfield 7, 3) := by decide +kernel
theorem dX6_lifts_155 : decode cX6_lifts 155 = .ok (.iconst 2, 1) := by decide +kernel
theorem dX6_lifts_156 : decode cX6_lifts 156 = .ok (.laload, 1) := by decide +kernel
theorem dX6_lifts_157 : decode cX6_lifts 157 = .ok (.invokevirtual 269, 3) := by decide +kernel
theorem dX6_lifts_160 : decode cX6_lifts 160 = .ok (.aload_n 0, 1) := by decide +kernel
theorem dX6_lifts_161 : decode cX6_lifts 161 = .ok (.getfield 7, 3) := by decide +kernel
theorem dX6_lifts_164 : decode cX6_lifts 164 = .ok (.iconst 3, 1) := by decide +kernel
theorem dX6_lifts_165 : decode cX6_lifts 165 = .ok (.dup2, 1) := by decide +kernel
theorem dX6_lifts_166 : decode cX6_lifts 166 = .ok (.laload, 1) := by decide +kernel
theorem dX6_lifts_167 : decode cX6_lifts 167 = .ok (.aload_n 0, 1) := by decide +kernel
theorem dX6_lifts_168 : decode cX6_lifts 168 = .ok (.getfield 7, 3) := by decide +kernel
theorem dX6_lifts_171 : decode cX6_lifts 171 = .ok (.bipush 53, 2) := by decide +kernel
theorem dX6_lifts_173 : decode cX6_lifts 173 = .ok (.iload_n 3, 1) := by decide +kernel
theorem dX6_lifts_174 : decode cX6_lifts 174 = .ok (.iadd, 1) := by decide +kernel
theorem dX6_lifts_175 : decode cX6_lifts 175 = .ok (.laload, 1) := by decide +kernel
theorem dX6_lifts_176 : decode cX6_lifts 176 = .ok (.aload_n 0, 1) := by decide +kernel
theorem dX6_lifts_177 : decode cX6_lifts 177 = .ok (.getfield 7, 3) := by decide +kernel
theorem dX6_lifts_180 : decode cX6_lifts 180 = .ok (.iconst 5, 1) := by decide +kernel
theorem dX6_lifts_181 : decode cX6_lifts 181 = .ok (.iload_n 3, 1) := by decide +kernel
theorem dX6_lifts_182 : decode cX6_lifts 182 = .ok (.iadd, 1) := by decide +kernel
theorem dX6_lifts_183 : decode cX6_lifts 183 = .ok (.laload, 1) := by decide +kernel
theorem dX6_lifts_184 : decode cX6_lifts 184 = .ok (.lmul, 1) := by decide +kernel
theorem dX6_lifts_185 : decode cX6_lifts 185 = .ok (.aload_n 0, 1) := by decide +kernel
theorem dX6_lifts_186 : decode cX6_lifts 186 = .ok (.getfield 7, 3) := by decide +kernel
theorem dX6_lifts_189 : decode cX6_lifts 189 = .ok (.bipush 53, 2) := by decide +kernel
theorem dX6_lifts_191 : decode cX6_lifts 191 = .ok (.iload 4, 2) := by decide +kernel
theorem dX6_lifts_193 : decode cX6_lifts 193 = .ok (.iadd, 1) := by decide +kernel
theorem dX6_lifts_194 : decode cX6_lifts 194 = .ok (.laload, 1) := by decide +kernel
theorem dX6_lifts_195 : decode cX6_lifts 195 = .ok (.aload_n 0, 1) := by decide +kernel
theorem dX6_lifts_196 : decode cX6_lifts 196 = .ok (.getfield 7, 3) := by decide +kernel
theorem dX6_lifts_199 : decode cX6_lifts 199 = .ok (.iconst 5, 1) := by decide +kernel
theorem dX6_lifts_200 : decode cX6_lifts 200 = .ok (.iload 4, 2) := by decide +kernel
theorem dX6_lifts_202 : decode cX6_lifts 202 = .ok (.iadd, 1) := by decide +kernel
theorem dX6_lifts_203 : decode cX6_lifts 203 = .ok (.laload, 1) := by decide +kernel
theorem dX6_lifts_204 : decode cX6_lifts 204 = .ok (.lmul, 1) := by decide +kernel
theorem dX6_lifts_205 : decode cX6_lifts 205 = .ok (.ladd, 1) := by decide +kernel
theorem dX6_lifts_206 : decode cX6_lifts 206 = .ok (.aload_n 0, 1) := by decide +kernel
theorem dX6_lifts_207 : decode cX6_lifts 207 = .ok (.getfield 7, 3) := by decide +kernel
theorem dX6_lifts_210 : decode cX6_lifts 210 = .ok (.bipush 53, 2) := by decide +kernel
theorem dX6_lifts_212 : decode cX6_lifts 212 = .ok (.iload_n 1, 1) := by decide +kernel
theorem dX6_lifts_213 : decode cX6_lifts 213 = .ok (.iadd, 1) := by decide +kernel
theorem dX6_lifts_214 : decode cX6_lifts 214 = .ok (.laload, 1) := by decide +kernel
theorem dX6_lifts_215 : decode cX6_lifts 215 = .ok (.aload_n 0, 1) := by decide +kernel
theorem dX6_lifts_216 : decode cX6_lifts 216 = .ok (.getfield 7, 3) := by decide +kernel
theorem dX6_lifts_219 : decode cX6_lifts 219 = .ok (.iconst 5, 1) := by decide +kernel
theorem dX6_lifts_220 : decode cX6_lifts 220 = .ok (.iload_n 1, 1) := by decide +kernel
theorem dX6_lifts_221 : decode cX6_lifts 221 = .ok (.iadd, 1) := by decide +kernel
theorem dX6_lifts_222 : decode cX6_lifts 222 = .ok (.laload, 1) := by decide +kernel
theorem dX6_lifts_223 : decode cX6_lifts 223 = .ok (.lmul, 1) := by decide +kernel
theorem dX6_lifts_224 : decode cX6_lifts 224 = .ok (.ladd, 1) := by decide +kernel
theorem dX6_lifts_225 : decode cX6_lifts 225 = .ok (.ladd, 1) := by decide +kernel
theorem dX6_lifts_226 : decode cX6_lifts 226 = .ok (.lastore, 1) := by decide +kernel
theorem dX6_lifts_227 : decode cX6_lifts 227 = .ok (.aload_n 0, 1) := by decide +kernel
theorem dX6_lifts_228 : decode cX6_lifts 228 = .ok (.getfield 7, 3) := by decide +kernel
theorem dX6_lifts_231 : decode cX6_lifts 231 = .ok (.bipush 53, 2) := by decide +kernel
theorem dX6_lifts_233 : decode cX6_lifts 233 = .ok (.iload_n 3, 1) := by decide +kernel
theorem dX6_lifts_234 : decode cX6_lifts 234 = .ok (.iadd, 1) := by decide +kernel
theorem dX6_lifts_235 : decode cX6_lifts 235 = .ok (.dup2, 1) := by decide +kernel
theorem dX6_lifts_236 : decode cX6_lifts 236 = .ok (.laload, 1) := by decide +kernel
theorem dX6_lifts_237 : decode cX6_lifts 237 = .ok (.lload 8, 2) := by decide +kernel
theorem dX6_lifts_239 : decode cX6_lifts 239 = .ok (.ladd, 1) := by decide +kernel
theorem dX6_lifts_240 : decode cX6_lifts 240 = .ok (.lastore, 1) := by decide +kernel
theorem dX6_lifts_241 : decode cX6_lifts 241 = .ok (.aload_n 0, 1) := by decide +kernel
theorem dX6_lifts_242 : decode cX6_lifts 242 = .ok (.getfield 7, 3) := by decide +kernel
theorem dX6_lifts_245 : decode cX6_lifts 245 = .ok (.bipush 53, 2) := by decide +kernel
theorem dX6_lifts_247 : decode cX6_lifts 247 = .ok (.iload 4, 2) := by decide +kernel
theorem dX6_lifts_249 : decode cX6_lifts 249 = .ok (.iadd, 1) := by decide +kernel
theorem dX6_lifts_250 : decode cX6_lifts 250 = .ok (.dup2, 1) := by decide +kernel
theorem dX6_lifts_251 : decode cX6_lifts 251 = .ok (.laload, 1) := by decide +kernel
theorem dX6_lifts_252 : decode cX6_lifts 252 = .ok (.aload_n 0, 1) := by decide +kernel
theorem dX6_lifts_253 : decode cX6_lifts 253 = .ok (.getfield 7, 3) := by decide +kernel
theorem dX6_lifts_256 : decode cX6_lifts 256 = .ok (.bipush 53, 2) := by decide +kernel
theorem dX6_lifts_258 : decode cX6_lifts 258 = .ok (.iload_n 1, 1) := by decide +kernel
theorem dX6_lifts_259 : decode cX6_lifts 259 = .ok (.iadd, 1) := by decide +kernel
theorem dX6_lifts_260 : decode cX6_lifts 260 = .ok (.laload, 1) := by decide +kernel
theorem dX6_lifts_261 : decode cX6_lifts 261 = .ok (.lload 8, 2) := by decide +kernel
theorem dX6_lifts_263 : decode cX6_lifts 263 = .ok (.lsub, 1) := by decide +kernel
theorem dX6_lifts_264 : decode cX6_lifts 264 = .ok (.ladd, 1) := by decide +kernel
theorem dX6_lifts_265 : decode cX6_lifts 265 = .ok (.lastore, 1) := by decide +kernel
theorem dX6_lifts_266 : decode cX6_lifts 266 = .ok (.aload_n 0, 1) := by decide +kernel
theorem dX6_lifts_267 : decode cX6_lifts 267 = .ok (.iload_n 2, 1) := by decide +kernel
theorem dX6_lifts_268 : decode cX6_lifts 268 = .ok (.aload_n 0, 1) := by decide +kernel
theorem dX6_lifts_269 : decode cX6_lifts 269 = .ok (.getfield 7, 3) := by decide +kernel
theorem dX6_lifts_272 : decode cX6_lifts 272 = .ok (.bipush 53, 2) := by decide +kernel
theorem dX6_lifts_274 : decode cX6_lifts 274 = .ok (.iload_n 3, 1) := by decide +kernel
theorem dX6_lifts_275 : decode cX6_lifts 275 = .ok (.iadd, 1) := by decide +kernel
theorem dX6_lifts_276 : decode cX6_lifts 276 = .ok (.laload, 1) := by decide +kernel
theorem dX6_lifts_277 : decode cX6_lifts 277 = .ok (.aload_n 0, 1) := by decide +kernel
theorem dX6_lifts_278 : decode cX6_lifts 278 = .ok (.getfield 7, 3) := by decide +kernel
theorem dX6_lifts_281 : decode cX6_lifts 281 = .ok (.bipush 53, 2) := by decide +kernel
theorem dX6_lifts_283 : decode cX6_lifts 283 = .ok (.iload 4, 2) := by decide +kernel
theorem dX6_lifts_285 : decode cX6_lifts 285 = .ok (.iadd, 1) := by decide +kernel
theorem dX6_lifts_286 : decode cX6_lifts 286 = .ok (.laload, 1) := by decide +kernel
theorem dX6_lifts_287 : decode cX6_lifts 287 = .ok (.invokevirtual 273, 3) := by decide +kernel
theorem dX6_lifts_290 : decode cX6_lifts 290 = .ok (.lstore 10, 2) := by decide +kernel
theorem dX6_lifts_292 : decode cX6_lifts 292 = .ok (.aload_n 0, 1) := by decide +kernel
theorem dX6_lifts_293 : decode cX6_lifts 293 = .ok (.iload_n 2, 1) := by decide +kernel
theorem dX6_lifts_294 : decode cX6_lifts 294 = .ok (.aload_n 0, 1) := by decide +kernel
theorem dX6_lifts_295 : decode cX6_lifts 295 = .ok (.getfield 7, 3) := by decide +kernel
theorem dX6_lifts_298 : decode cX6_lifts 298 = .ok (.bipush 53, 2) := by decide +kernel
theorem dX6_lifts_300 : decode cX6_lifts 300 = .ok (.iload 4, 2) := by decide +kernel
theorem dX6_lifts_302 : decode cX6_lifts 302 = .ok (.iadd, 1) := by decide +kernel
theorem dX6_lifts_303 : decode cX6_lifts 303 = .ok (.laload, 1) := by decide +kernel
theorem dX6_lifts_304 : decode cX6_lifts 304 = .ok (.aload_n 0, 1) := by decide +kernel
theorem dX6_lifts_305 : decode cX6_lifts 305 = .ok (.getfield 7, 3) := by decide +kernel
theorem dX6_lifts_308 : decode cX6_lifts 308 = .ok (.bipush 53, 2) := by decide +kernel
theorem dX6_lifts_310 : decode cX6_lifts 310 = .ok (.iload_n 3, 1) := by decide +kernel
theorem dX6_lifts_311 : decode cX6_lifts 311 = .ok (.iadd, 1) := by decide +kernel
theorem dX6_lifts_312 : decode cX6_lifts 312 = .ok (.laload, 1) := by decide +kernel
theorem dX6_lifts_313 : decode cX6_lifts 313 = .ok (.invokevirtual 273, 3) := by decide +kernel
theorem dX6_lifts_316 : decode cX6_lifts 316 = .ok (.lstore 12, 2) := by decide +kernel
theorem dX6_lifts_318 : decode cX6_lifts 318 = .ok (.aload_n 0, 1) := by decide +kernel
theorem dX6_lifts_319 : decode cX6_lifts 319 = .ok (.getfield 7, 3) := by decide +kernel
theorem dX6_lifts_322 : decode cX6_lifts 322 = .ok (.iconst 5, 1) := by decide +kernel
theorem dX6_lifts_323 : decode cX6_lifts 323 = .ok (.iload_n 3, 1) := by decide +kernel
theorem dX6_lifts_324 : decode cX6_lifts 324 = .ok (.iadd, 1) := by decide +kernel
theorem dX6_lifts_325 : decode cX6_lifts 325 = .ok (.dup2, 1) := by decide +kernel
theorem dX6_lifts_326 : decode cX6_lifts 326 = .ok (.laload, 1) := by decide +kernel
theorem dX6_lifts_327 : decode cX6_lifts 327 = .ok (.lload 10, 2) := by decide +kernel
theorem dX6_lifts_329 : decode cX6_lifts 329 = .ok (.ladd, 1) := by decide +kernel
theorem dX6_lifts_330 : decode cX6_lifts 330 = .ok (.lastore, 1) := by decide +kernel
theorem dX6_lifts_331 : decode cX6_lifts 331 = .ok (.aload_n 0, 1) := by decide +kernel
theorem dX6_lifts_332 : decode cX6_lifts 332 = .ok (.getfield 7, 3) := by decide +kernel
theorem dX6_lifts_335 : decode cX6_lifts 335 = .ok (.iconst 5, 1) := by decide +kernel
theorem dX6_lifts_336 : decode cX6_lifts 336 = .ok (.iload 4, 2) := by decide +kernel
theorem dX6_lifts_338 : decode cX6_lifts 338 = .ok (.iadd, 1) := by decide +kernel
theorem dX6_lifts_339 : decode cX6_lifts 339 = .ok (.dup2, 1) := by decide +kernel
theorem dX6_lifts_340 : decode cX6_lifts 340 = .ok (.laload, 1) := by decide +kernel
theorem dX6_lifts_341 : decode cX6_lifts 341 = .ok (.lload 12, 2) := by decide +kernel
theorem dX6_lifts_343 : decode cX6_lifts 343 = .ok (.ladd, 1) := by decide +kernel
theorem dX6_lifts_344 : decode cX6_lifts 344 = .ok (.lastore, 1) := by decide +kernel
theorem dX6_lifts_345 : decode cX6_lifts 345 = .ok (.aload_n 0, 1) := by decide +kernel
theorem dX6_lifts_346 : decode cX6_lifts 346 = .ok (.getfield 7, 3) := by decide +kernel
theorem dX6_lifts_349 : decode cX6_lifts 349 = .ok (.iconst 3, 1) := by decide +kernel
theorem dX6_lifts_350 : decode cX6_lifts 350 = .ok (.dup2, 1) := by decide +kernel
theorem dX6_lifts_351 : decode cX6_lifts 351 = .ok (.laload, 1) := by decide +kernel
theorem dX6_lifts_352 : decode cX6_lifts 352 = .ok (.aload_n 0, 1) := by decide +kernel
theorem dX6_lifts_353 : decode cX6_lifts 353 = .ok (.getfield 7, 3) := by decide +kernel
theorem dX6_lifts_356 : decode cX6_lifts 356 = .ok (.bipush 53, 2) := by decide +kernel
theorem dX6_lifts_358 : decode cX6_lifts 358 = .ok (.iload_n 3, 1) := by decide +kernel
theorem dX6_lifts_359 : decode cX6_lifts 359 = .ok (.iadd, 1) := by decide +kernel
theorem dX6_lifts_360 : decode cX6_lifts 360 = .ok (.laload, 1) := by decide +kernel
theorem dX6_lifts_361 : decode cX6_lifts 361 = .ok (.aload_n 0, 1) := by decide +kernel
theorem dX6_lifts_362 : decode cX6_lifts 362 = .ok (.getfield 7, 3) := by decide +kernel
theorem dX6_lifts_365 : decode cX6_lifts 365 = .ok (.iconst 5, 1) := by decide +kernel
theorem dX6_lifts_366 : decode cX6_lifts 366 = .ok (.iload_n 3, 1) := by decide +kernel
theorem dX6_lifts_367 : decode cX6_lifts 367 = .ok (.iadd, 1) := by decide +kernel
theorem dX6_lifts_368 : decode cX6_lifts 368 = .ok (.laload, 1) := by decide +kernel
theorem dX6_lifts_369 : decode cX6_lifts 369 = .ok (.lmul, 1) := by decide +kernel
theorem dX6_lifts_370 : decode cX6_lifts 370 = .ok (.aload_n 0, 1) := by decide +kernel
theorem dX6_lifts_371 : decode cX6_lifts 371 = .ok (.getfield 7, 3) := by decide +kernel
theorem dX6_lifts_374 : decode cX6_lifts 374 = .ok (.bipush 53, 2) := by decide +kernel
theorem dX6_lifts_376 : decode cX6_lifts 376 = .ok (.iload 4, 2) := by decide +kernel
theorem dX6_lifts_378 : decode cX6_lifts 378 = .ok (.iadd, 1) := by decide +kernel
theorem dX6_lifts_379 : decode cX6_lifts 379 = .ok (.laload, 1) := by decide +kernel
theorem dX6_lifts_380 : decode cX6_lifts 380 = .ok (.aload_n 0, 1) := by decide +kernel
theorem dX6_lifts_381 : decode cX6_lifts 381 = .ok (.getfield 7, 3) := by decide +kernel
theorem dX6_lifts_384 : decode cX6_lifts 384 = .ok (.iconst 5, 1) := by decide +kernel
theorem dX6_lifts_385 : decode cX6_lifts 385 = .ok (.iload 4, 2) := by decide +kernel
theorem dX6_lifts_387 : decode cX6_lifts 387 = .ok (.iadd, 1) := by decide +kernel
theorem dX6_lifts_388 : decode cX6_lifts 388 = .ok (.laload, 1) := by decide +kernel
theorem dX6_lifts_389 : decode cX6_lifts 389 = .ok (.lmul, 1) := by decide +kernel
theorem dX6_lifts_390 : decode cX6_lifts 390 = .ok (.ladd, 1) := by decide +kernel
theorem dX6_lifts_391 : decode cX6_lifts 391 = .ok (.lsub, 1) := by decide +kernel
theorem dX6_lifts_392 : decode cX6_lifts 392 = .ok (.lastore, 1) := by decide +kernel
theorem dX6_lifts_393 : decode cX6_lifts 393 = .ok (.aload_n 0, 1) := by decide +kernel
theorem dX6_lifts_394 : decode cX6_lifts 394 = .ok (.getfield 7, 3) := by decide +kernel
theorem dX6_lifts_397 : decode cX6_lifts 397 = .ok (.bipush 101, 2) := by decide +kernel
theorem dX6_lifts_399 : decode cX6_lifts 399 = .ok (.iload_n 1, 1) := by decide +kernel
theorem dX6_lifts_400 : decode cX6_lifts 400 = .ok (.iadd, 1) := by decide +kernel
theorem dX6_lifts_401 : decode cX6_lifts 401 = .ok (.iload_n 2, 1) := by decide +kernel
theorem dX6_lifts_402 : decode cX6_lifts 402 = .ok (.i2l, 1) := by decide +kernel
theorem dX6_lifts_403 : decode cX6_lifts 403 = .ok (.lastore, 1) := by decide +kernel
theorem dX6_lifts_404 : decode cX6_lifts 404 = .ok (.aload_n 0, 1) := by decide +kernel
theorem dX6_lifts_405 : decode cX6_lifts 405 = .ok (.getfield 7, 3) := by decide +kernel
theorem dX6_lifts_408 : decode cX6_lifts 408 = .ok (.iconst 4, 1) := by decide +kernel
theorem dX6_lifts_409 : decode cX6_lifts 409 = .ok (.dup2, 1) := by decide +kernel
theorem dX6_lifts_410 : decode cX6_lifts 410 = .ok (.laload, 1) := by decide +kernel
theorem dX6_lifts_411 : decode cX6_lifts 411 = .ok (.lconst 1, 1) := by decide +kernel
theorem dX6_lifts_412 : decode cX6_lifts 412 = .ok (.ladd, 1) := by decide +kernel
theorem dX6_lifts_413 : decode cX6_lifts 413 = .ok (.lastore, 1) := by decide +kernel
theorem dX6_lifts_414 : decode cX6_lifts 414 = .ok (.return_, 1) := by decide +kernel
set_option maxHeartbeats 4000000 in
set_option maxRecDepth 100000 in
theorem X6_lifts (l : Launch) (κ : Kt) (σ0 : Gh) (this : Nat) (i : Int32) (t_this : zk σ0 this 20) (h0 : RI κ σ0 this) (h1 : 0 < i.toInt) (h2 : i.toInt < (zI σ0 this 7).toInt - 1) (h3 : rlf (zJ σ0 (kR κ this 1)) (ix i) = -1) : TC l yX6_lifts cX6_lifts 14 none 4 90 [.ref this, .int i] κ σ0 (tqv κ gW σ0 (fun (τ : Gh) => (RI κ τ this) ∧ ((zJ τ (kR κ this 1) 4).toInt = ((zJ σ0 (kR κ this 1)) 4).toInt + 1))) := by
  refine TC.of gW (by decide +kernel) (Nat.le_of_ble_eq_true rfl) ?_
  intro p e s m below meth c ls hcs hK hX hT hl
  obtain ⟨hx, hb, hr, hml, hown, hg, hlocks, hin⟩ := hcs
  have hown : s.vm.findClass RX6 = some m.cls := hown
  have hl : lv_has ls 14 [(0, .ref this), (1, .int i)] := hl
  have hT0 := hT
  have nm1 : ((-1) : Int32).toInt = (-1) := by decide
  have n0 : (0 : Int32).toInt = 0 := by decide
  have n1 : (1 : Int32).toInt = 1 := by decide
  have n2 : (2 : Int32).toInt = 2 := by decide
  have n3 : (3 : Int32).toInt = 3 := by decide
  have n4 : (4 : Int32).toInt = 4 := by decide
  have n5 : (5 : Int32).toInt = 5 := by decide
  have n6 : (6 : Int32).toInt = 6 := by decide
  have n7 : (7 : Int32).toInt = 7 := by decide
  have n8 : (8 : Int32).toInt = 8 := by decide
  have n9 : (9 : Int32).toInt = 9 := by decide
  have n53 : (53 : Int32).toInt = 53 := by decide
  have n101 : (101 : Int32).toInt = 101 := by decide
  have j1 : (1 : Int64).toInt = 1 := by decide
  have i_lo := Int32.le_toInt i
  have i_hi := Int32.toInt_lt i
  generalize hQ9 : tQ _ _ _ _ _ _ = Q9
  obtain ⟨rW, erW⟩ : ∃ z, kR κ this 1 = z := ⟨_, rfl⟩
  have trW : zk σ0 rW 21 := by rw [← erW]; exact h0.1.2.1
  obtain ⟨rP, erP⟩ : ∃ z, kR κ this 5 = z := ⟨_, rfl⟩
  have trP : zk σ0 rP 25 := by rw [← erP]; exact h0.1.2.2.2.2
  have hB0 := h0.b
  rw [erW] at hB0
  have hW := h0.2.1
  rw [erW] at hW
  have hP := h0.2.2.1
  rw [erP] at hP
  have hrN : (rN σ0 this : Int) = (zI σ0 this 7).toInt := by unfold rN; omega
  try simp only [erW, erP] at h3
  refine lv_aload_n hx hb dX6_lifts_0 rfl (lv_at hl 0 rfl) ?_
  have hTo := hT
  refine tVi (n := 0) (As := []) (rest := []) hx hb hml hown hg hT hK hX (X6_steps l κ σ0 this  (hT.k t_this (by decide)) h0) sub_fE_gW (mwV k1412 k1414 k52 k92 k1415) ⟨rfl, by decide, by decide, by decide +kernel⟩ ⟨(Nat.le_of_ble_eq_true rfl), (Nat.le_of_ble_eq_true rfl)⟩ (hT.o20 (hT.k t_this (by decide))) rfl rfl hl.1 rfl (Nat.le_of_ble_eq_true rfl) dX6_lifts_1 zroom.rf (fun x1 s2 H locs hφ hEs2 hT => ?_)
  have E3 : zJ s2 rW = zJ σ0 rW := funext fun k => (hTo.k trW (by decide)).eJ hEs2 (by decide) rfl
  have R4 : RI κ s2 this := h0.ext hEs2 ⟨rfl, rfl, fun _ => rfl, fun _ => rfl, fun _ => rfl, fun _ => rfl⟩
  have B5 := R4.b
  rw [erW] at B5
  have K6 : zI s2 this 7 = zI σ0 this 7 := hT.eI t_this (by decide) rfl rfl
  have K6n : (zI s2 this 7).toInt = (zI σ0 this 7).toInt := by rw [K6]
  have J7 : zJ s2 rW = zJ σ0 rW := by rw [E3]
  have P8 : zI s2 rP = zI σ0 rP := funext fun k => hT.eI trP (by decide) rfl rfl
  try simp only [K6, J7, P8] at B5
  have f9 := hφ
  try simp only [erW, erP, ix_0, ix_1, ix_2, ix_3, ix_4, ix_5, ix_6, ix_7, ix_8, ix_9, K6, J7, P8] at f9
  refine lv_istore_n (lv' := [(2, .int x1), (0, .ref this), (1, .int i)]) hx hb dX6_lifts_4 rfl hl (by decide) rfl (fun ls hl => ?_)
  refine lv_aload_n hx hb dX6_lifts_5 rfl (lv_at hl 1 rfl) ?_
  refine lv_iload_n hx hb dX6_lifts_6 rfl (lv_at hl 2 rfl) ?_
  refine lv_iconst (v := (-1)) hx hb dX6_lifts_7 (by decide) ?_
  have hTo := hT
  refine tVi (n := 2) (As := [.int i, .int (-1)]) (rest := []) hx hb hml hown hg hT hK hX (X6_besideL l κ s2 this i (-1)  (hT.k t_this (by decide)) R4 (by omega) (by omega) (by omega)) sub_fE_gW (mwV k1445 k1447 k58 k92 k1448) ⟨rfl, by decide, by decide, by decide +kernel⟩ ⟨(Nat.le_of_ble_eq_true rfl), (Nat.le_of_ble_eq_true rfl)⟩ (hT.o20 (hT.k t_this (by decide))) rfl rfl hl.1 rfl (Nat.le_of_ble_eq_true rfl) dX6_lifts_8 zroom.rf (fun x10 s11 H locs hφ hEs11 hT => ?_)
  have E12 : zJ s11 rW = zJ s2 rW := funext fun k => (hTo.k trW (by decide)).eJ hEs11 (by decide) rfl
  have R13 : RI κ s11 this := R4.ext hEs11 ⟨rfl, rfl, fun _ => rfl, fun _ => rfl, fun _ => rfl, fun _ => rfl⟩
  have B14 := R13.b
  rw [erW] at B14
  have K15 : zI s11 this 7 = zI σ0 this 7 := hT.eI t_this (by decide) rfl rfl
  have K15n : (zI s11 this 7).toInt = (zI σ0 this 7).toInt := by rw [K15]
  have J16 : zJ s11 rW = zJ σ0 rW := by rw [E12, E3]
  have P17 : zI s11 rP = zI σ0 rP := funext fun k => hT.eI trP (by decide) rfl rfl
  try simp only [K15, J16, P17] at B14
  have f18 := hφ
  try simp only [erW, erP, ix_0, ix_1, ix_2, ix_3, ix_4, ix_5, ix_6, ix_7, ix_8, ix_9, K6, J7, P8, K15, J16, P17] at f18
  refine lv_istore_n (lv' := [(3, .int x10), (2, .int x1), (0, .ref this), (1, .int i)]) hx hb dX6_lifts_11 rfl hl (by decide) rfl (fun ls hl => ?_)
  refine lv_aload_n hx hb dX6_lifts_12 rfl (lv_at hl 2 rfl) ?_
  refine lv_iload_n hx hb dX6_lifts_13 rfl (lv_at hl 3 rfl) ?_
  refine lv_iconst (v := 1) hx hb dX6_lifts_14 (by decide) ?_
  have hTo := hT
  refine tVi (n := 2) (As := [.int i, .int 1]) (rest := []) hx hb hml hown hg hT hK hX (X6_besideR l κ s11 this i 1  (hT.k t_this (by decide)) R13 (by omega) (by omega) (by omega)) sub_fE_gW (mwV k1445 k1447 k58 k92 k1448) ⟨rfl, by decide, by decide, by decide +kernel⟩ ⟨(Nat.le_of_ble_eq_true rfl), (Nat.le_of_ble_eq_true rfl)⟩ (hT.o20 (hT.k t_this (by decide))) rfl rfl hl.1 rfl (Nat.le_of_ble_eq_true rfl) dX6_lifts_15 zroom.rf (fun x19 s20 H locs hφ hEs20 hT => ?_)
  have E21 : zJ s20 rW = zJ s11 rW := funext fun k => (hTo.k trW (by decide)).eJ hEs20 (by decide) rfl
  have R22 : RI κ s20 this := R13.ext hEs20 ⟨rfl, rfl, fun _ => rfl, fun _ => rfl, fun _ => rfl, fun _ => rfl⟩
  have B23 := R22.b
  rw [erW] at B23
  have K24 : zI s20 this 7 = zI σ0 this 7 := hT.eI t_this (by decide) rfl rfl
  have K24n : (zI s20 this 7).toInt = (zI σ0 this 7).toInt := by rw [K24]
  have J25 : zJ s20 rW = zJ σ0 rW := by rw [E21, E12, E3]
  have P26 : zI s20 rP = zI σ0 rP := funext fun k => hT.eI trP (by decide) rfl rfl
  try simp only [K24, J25, P26] at B23
  have f27 := hφ
  try simp only [erW, erP, ix_0, ix_1, ix_2, ix_3, ix_4, ix_5, ix_6, ix_7, ix_8, ix_9, K15, J16, P17, K24, J25, P26] at f27
  refine lv_istore (lv' := [(4, .int x19), (3, .int x10), (2, .int x1), (0, .ref this), (1, .int i)]) hx hb dX6_lifts_18 hl (by decide) rfl (fun ls hl => ?_)
  have i_i : (ix i : Int) = i.toInt := by unfold ix; omega
  have i_x10 : (ix x10 : Int) = x10.toInt := by unfold ix; omega
  have i_x19 : (ix x19 : Int) = x19.toInt := by unfold ix; omega
  have i_x1 : (ix x1 : Int) = x1.toInt := by unfold ix; omega
  have gp : rlf (zJ σ0 rW) (ix x10) = -1 := by omega
  have gq : rlf (zJ σ0 rW) (ix x19) = -1 := by omega
  have g3 := hW.three (k := ix i) (p := ix x10) (q := ix x19) ⟨by omega, by omega, by omega⟩ (by omega) gp gq
  have g4 := hW.lt (k := ix i) (by omega) (by omega) (by omega)
  refine lv_aload_n hx hb dX6_lifts_20 rfl (lv_at hl 3 rfl) ?_
  refine va_get (D := κ.1) (ci := 6) (v := .ref (kR κ this 1)) (C := RX6) (T := TX6) (N := 27) hx hb hg inX6 hown hK (hT.o20 (hT.k t_this (by decide))).one 0 rfl rfl 1 (by decide) (hg _ k1220) (fun _ h9 => h9) rfl dX6_lifts_21 ?_
  rw [erW]
  refine lv_iconst (v := 1) hx hb dX6_lifts_24 (by decide) ?_
  refine va_lald hx hb hK (hT.o21 (hT.k trW (by decide))).one 0 1 rfl rfl (g_in (by omega) (by omega)) dX6_lifts_25 ?_
  refine lv_topl (fun t28 ht28 => ?_)
  have xt28 : (zJ s20 rW 1).toInt = t28.toInt := by rw [ht28]; exact congrArg (fun q9 => (zJ s20 rW q9).toInt) (show 1 = ix 1 from by decide)
  have yt28 : t28.toInt = (zJ σ0 rW 1).toInt := by rw [← xt28]; show (zJ s20 rW (1)).toInt = _; rw [E21, E12, E3]
  refine lv_l2i hx hb dX6_lifts_26 rfl ?_
  first | refine g_l2i (by omega) (by omega) (fun t29 ht29 => ?_) | refine lv_topi (fun t29 ht29 => ?_)
  refine lv_istore (lv' := [(5, .int t29), (4, .int x19), (3, .int x10), (2, .int x1), (0, .ref this), (1, .int i)]) hx hb dX6_lifts_27 hl (by decide) rfl (fun ls hl => ?_)
  refine lv_aload_n hx hb dX6_lifts_29 rfl (lv_at hl 4 rfl) ?_
  refine lv_iload_n hx hb dX6_lifts_30 rfl (lv_at hl 5 rfl) ?_
  have hTo := hT
  refine tVl (n := 1) (As := [.int i]) (rest := []) hx hb hml hown hg hT hK hX (X6_detailOf l κ s20 this i  (hT.k t_this (by decide)) R22 (by omega) (by omega)) sub_fE_gW (mwV k1531 k1533 k66 k92 k1534) ⟨rfl, by decide, by decide, by decide +kernel⟩ ⟨(Nat.le_of_ble_eq_true rfl), (Nat.le_of_ble_eq_true rfl)⟩ (hT.o20 (hT.k t_this (by decide))) rfl rfl hl.1 rfl (Nat.le_of_ble_eq_true rfl) dX6_lifts_31 zroom.rf (fun x30 s31 H locs hφ hEs31 hT => ?_)
  have E32 : zJ s31 rW = zJ s20 rW := funext fun k => (hTo.k trW (by decide)).eJ hEs31 (by decide) rfl
  have R33 : RI κ s31 this := R22.ext hEs31 ⟨rfl, rfl, fun _ => rfl, fun _ => rfl, fun _ => rfl, fun _ => rfl⟩
  have B34 := R33.b
  rw [erW] at B34
  have K35 : zI s31 this 7 = zI σ0 this 7 := hT.eI t_this (by decide) rfl rfl
  have K35n : (zI s31 this 7).toInt = (zI σ0 this 7).toInt := by rw [K35]
  have J36 : zJ s31 rW = zJ σ0 rW := by rw [E32, E21, E12, E3]
  have P37 : zI s31 rP = zI σ0 rP := funext fun k => hT.eI trP (by decide) rfl rfl
  try simp only [K35, J36, P37] at B34
  refine lv_lstore (lv' := [(6, .long x30), (5, .int t29), (4, .int x19), (3, .int x10), (2, .int x1), (0, .ref this), (1, .int i)]) hx hb dX6_lifts_34 hl (by decide) rfl (fun ls hl => ?_)
  refine lv_aload_n hx hb dX6_lifts_36 rfl (lv_at hl 5 rfl) ?_
  refine lv_iload_n hx hb dX6_lifts_37 rfl (lv_at hl 6 rfl) ?_
  refine lv_iload_n hx hb dX6_lifts_38 rfl (lv_at hl 3 rfl) ?_
  refine lv_iload hx hb dX6_lifts_39 (lv_at hl 2 rfl) ?_
  refine lv_iload hx hb dX6_lifts_41 (lv_at hl 1 rfl) ?_
  have hTo := hT
  refine tVl (n := 4) (As := [.int i, .int x10, .int x19, .int t29]) (rest := []) hx hb hml hown hg hT hK hX (X6_shareOf l κ s31 this i x10 x19 t29  (hT.k t_this (by decide)) R33 (by omega) (by omega) (by omega) (by omega) (by omega) (by omega)) sub_fE_gW (mwV k1592 k1594 k73 k92 k1595) ⟨rfl, by decide, by decide, by decide +kernel⟩ ⟨(Nat.le_of_ble_eq_true rfl), (Nat.le_of_ble_eq_true rfl)⟩ (hT.o20 (hT.k t_this (by decide))) rfl rfl hl.1 rfl (Nat.le_of_ble_eq_true rfl) dX6_lifts_43 zroom.rf (fun x38 s39 H locs hφ hEs39 hT => ?_)
  have E40 : zJ s39 rW = zJ s31 rW := funext fun k => (hTo.k trW (by decide)).eJ hEs39 (by decide) rfl
  have R41 : RI κ s39 this := R33.ext hEs39 ⟨rfl, rfl, fun _ => rfl, fun _ => rfl, fun _ => rfl, fun _ => rfl⟩
  have B42 := R41.b
  rw [erW] at B42
  have K43 : zI s39 this 7 = zI σ0 this 7 := hT.eI t_this (by decide) rfl rfl
  have K43n : (zI s39 this 7).toInt = (zI σ0 this 7).toInt := by rw [K43]
  have J44 : zJ s39 rW = zJ σ0 rW := by rw [E40, E32, E21, E12, E3]
  have P45 : zI s39 rP = zI σ0 rP := funext fun k => hT.eI trP (by decide) rfl rfl
  try simp only [K43, J44, P45] at B42
  obtain ⟨f46, f47⟩ := hφ
  try simp only [erW, erP, ix_0, ix_1, ix_2, ix_3, ix_4, ix_5, ix_6, ix_7, ix_8, ix_9, K35, J36, P37, K43, J44, P45] at f46
  try simp only [erW, erP, ix_0, ix_1, ix_2, ix_3, ix_4, ix_5, ix_6, ix_7, ix_8, ix_9, K35, J36, P37, K43, J44, P45] at f47
  refine lv_lstore (lv' := [(8, .long x38), (6, .long x30), (5, .int t29), (4, .int x19), (3, .int x10), (2, .int x1), (0, .ref this), (1, .int i)]) hx hb dX6_lifts_46 hl (by decide) rfl (fun ls hl => ?_)
  refine lv_aload_n hx hb dX6_lifts_48 rfl (lv_at hl 6 rfl) ?_
  refine lv_iload_n hx hb dX6_lifts_49 rfl (lv_at hl 5 rfl) ?_
  refine lv_iconst (v := 0) hx hb dX6_lifts_50 (by decide) ?_
  refine lv_iload_n hx hb dX6_lifts_51 rfl (lv_at hl 7 rfl) ?_
  refine lv_i2l hx hb dX6_lifts_52 rfl ?_
  refine g_i2l (fun t48 ht48 => ?_)
  have hTo := hT
  refine tVv (n := 3) (As := [.int x1, .int 0, .long t48]) (rest := []) hx hb hml hown hg hT hK hX (X6_put l κ s39 this x1 0 t48  (hT.k t_this (by decide)) (by omega) (by omega) (by omega) (by omega)) (fun _ _ h => h) (mwV k1596 k1598 k74 k92 k1599) ⟨rfl, by decide, by decide, by decide +kernel⟩ ⟨(Nat.le_of_ble_eq_true rfl), (Nat.le_of_ble_eq_true rfl)⟩ (hT.o20 (hT.k t_this (by decide))) rfl rfl hl.1 rfl (Nat.le_of_ble_eq_true rfl) dX6_lifts_53 zroom.rf (fun s50 H locs hφ hEs50 hT => ?_)
  have f53 := hφ
  have K54 : zI s50 this 7 = zI σ0 this 7 := hT.eI t_this (by decide) rfl rfl
  have K54n : (zI s50 this 7).toInt = (zI σ0 this 7).toInt := by rw [K54]
  have P55 : zI s50 rP = zI σ0 rP := funext fun k => hT.eI trP (by decide) rfl rfl
  try simp only [erW, erP, ix_0, ix_1, ix_2, ix_3, ix_4, ix_5, ix_6, ix_7, ix_8, ix_9, K43, J44, P45, K54, P55] at f53
  have E56 : zJ s50 rW = vp_updL (zJ s39 rW) (149 + 10 * ix x1 + 0) t48 := f53
  refine lv_aload_n hx hb dX6_lifts_56 rfl (lv_at hl 6 rfl) ?_
  refine lv_iload_n hx hb dX6_lifts_57 rfl (lv_at hl 5 rfl) ?_
  refine lv_iconst (v := 1) hx hb dX6_lifts_58 (by decide) ?_
  refine lv_iload_n hx hb dX6_lifts_59 rfl (lv_at hl 4 rfl) ?_
  refine lv_i2l hx hb dX6_lifts_60 rfl ?_
  refine g_i2l (fun t57 ht57 => ?_)
  have hTo := hT
  refine tVv (n := 3) (As := [.int x1, .int 1, .long t57]) (rest := []) hx hb hml hown hg hT hK hX (X6_put l κ s50 this x1 1 t57  (hT.k t_this (by decide)) (by omega) (by omega) (by omega) (by omega)) (fun _ _ h => h) (mwV k1596 k1598 k74 k92 k1599) ⟨rfl, by decide, by decide, by decide +kernel⟩ ⟨(Nat.le_of_ble_eq_true rfl), (Nat.le_of_ble_eq_true rfl)⟩ (hT.o20 (hT.k t_this (by decide))) rfl rfl hl.1 rfl (Nat.le_of_ble_eq_true rfl) dX6_lifts_61 zroom.rf (fun s59 H locs hφ hEs59 hT => ?_)
  have f61 := hφ
  have K62 : zI s59 this 7 = zI σ0 this 7 := hT.eI t_this (by decide) rfl rfl
  have K62n : (zI s59 this 7).toInt = (zI σ0 this 7).toInt := by rw [K62]
  have P63 : zI s59 rP = zI σ0 rP := funext fun k => hT.eI trP (by decide) rfl rfl
  try simp only [erW, erP, ix_0, ix_1, ix_2, ix_3, ix_4, ix_5, ix_6, ix_7, ix_8, ix_9, K54, P55, K62, P63] at f61
  have E64 : zJ s59 rW = vp_updL (zJ s50 rW) (149 + 10 * ix x1 + 1) t57 := f61
  refine lv_aload_n hx hb dX6_lifts_64 rfl (lv_at hl 6 rfl) ?_
  refine lv_iload_n hx hb dX6_lifts_65 rfl (lv_at hl 5 rfl) ?_
  refine lv_iconst (v := 2) hx hb dX6_lifts_66 (by decide) ?_
  refine lv_iload hx hb dX6_lifts_67 (lv_at hl 3 rfl) ?_
  refine lv_i2l hx hb dX6_lifts_69 rfl ?_
  refine g_i2l (fun t65 ht65 => ?_)
  have hTo := hT
  refine tVv (n := 3) (As := [.int x1, .int 2, .long t65]) (rest := []) hx hb hml hown hg hT hK hX (X6_put l κ s59 this x1 2 t65  (hT.k t_this (by decide)) (by omega) (by omega) (by omega) (by omega)) (fun _ _ h => h) (mwV k1596 k1598 k74 k92 k1599) ⟨rfl, by decide, by decide, by decide +kernel⟩ ⟨(Nat.le_of_ble_eq_true rfl), (Nat.le_of_ble_eq_true rfl)⟩ (hT.o20 (hT.k t_this (by decide))) rfl rfl hl.1 rfl (Nat.le_of_ble_eq_true rfl) dX6_lifts_70 zroom.rf (fun s67 H locs hφ hEs67 hT => ?_)
  have f69 := hφ
  have K70 : zI s67 this 7 = zI σ0 this 7 := hT.eI t_this (by decide) rfl rfl
  have K70n : (zI s67 this 7).toInt = (zI σ0 this 7).toInt := by rw [K70]
  have P71 : zI s67 rP = zI σ0 rP := funext fun k => hT.eI trP (by decide) rfl rfl
  try simp only [erW, erP, ix_0, ix_1, ix_2, ix_3, ix_4, ix_5, ix_6, ix_7, ix_8, ix_9, K62, P63, K70, P71] at f69
  have E72 : zJ s67 rW = vp_updL (zJ s59 rW) (149 + 10 * ix x1 + 2) t65 := f69
  refine lv_aload_n hx hb dX6_lifts_73 rfl (lv_at hl 6 rfl) ?_
  refine lv_iload_n hx hb dX6_lifts_74 rfl (lv_at hl 5 rfl) ?_
  refine lv_iconst (v := 3) hx hb dX6_lifts_75 (by decide) ?_
  refine lv_lload hx hb dX6_lifts_76 (lv_at hl 1 rfl) ?_
  have hTo := hT
  refine tVv (n := 3) (As := [.int x1, .int 3, .long x30]) (rest := []) hx hb hml hown hg hT hK hX (X6_put l κ s67 this x1 3 x30  (hT.k t_this (by decide)) (by omega) (by omega) (by omega) (by omega)) (fun _ _ h => h) (mwV k1596 k1598 k74 k92 k1599) ⟨rfl, by decide, by decide, by decide +kernel⟩ ⟨(Nat.le_of_ble_eq_true rfl), (Nat.le_of_ble_eq_true rfl)⟩ (hT.o20 (hT.k t_this (by decide))) rfl rfl hl.1 rfl (Nat.le_of_ble_eq_true rfl) dX6_lifts_78 zroom.rf (fun s74 H locs hφ hEs74 hT => ?_)
  have f76 := hφ
  have K77 : zI s74 this 7 = zI σ0 this 7 := hT.eI t_this (by decide) rfl rfl
  have K77n : (zI s74 this 7).toInt = (zI σ0 this 7).toInt := by rw [K77]
  have P78 : zI s74 rP = zI σ0 rP := funext fun k => hT.eI trP (by decide) rfl rfl
  try simp only [erW, erP, ix_0, ix_1, ix_2, ix_3, ix_4, ix_5, ix_6, ix_7, ix_8, ix_9, K70, P71, K77, P78] at f76
  have E79 : zJ s74 rW = vp_updL (zJ s67 rW) (149 + 10 * ix x1 + 3) x30 := f76
  refine lv_aload_n hx hb dX6_lifts_81 rfl (lv_at hl 6 rfl) ?_
  refine lv_iload_n hx hb dX6_lifts_82 rfl (lv_at hl 5 rfl) ?_
  refine lv_iconst (v := 4) hx hb dX6_lifts_83 (by decide) ?_
  refine lv_aload_n hx hb dX6_lifts_84 rfl (lv_at hl 6 rfl) ?_
  refine va_get (D := κ.1) (ci := 6) (v := .ref (kR κ this 1)) (C := RX6) (T := TX6) (N := 27) hx hb hg inX6 hown hK (hT.o20 (hT.k t_this (by decide))).one 0 rfl rfl 1 (by decide) (hg _ k1220) (fun _ h9 => h9) rfl dX6_lifts_85 ?_
  rw [erW]
  refine lv_bipush (v := 53) hx hb dX6_lifts_88 (by decide) ?_
  refine lv_iload_n hx hb dX6_lifts_90 rfl (lv_at hl 7 rfl) ?_
  refine lv_iadd hx hb dX6_lifts_91 ?_
  first | refine g_add (by omega) (by omega) (fun t80 ht80 => ?_) | refine lv_topi (fun t80 ht80 => ?_)
  refine va_lald hx hb hK (hT.o21 (hT.k trW (by decide))).one 0 1 rfl rfl (g_in (by omega) (by omega)) dX6_lifts_92 ?_
  refine lv_topl (fun t81 ht81 => ?_)
  have xt81 : rwt (zJ s74 rW) (ix i) = t81.toInt := by rw [ht81]; exact congrArg (fun q9 => (zJ s74 rW q9).toInt) (show 53 + ix i = ix t80 from by unfold ix; omega)
  have yt81 : t81.toInt = rwt (zJ σ0 rW) (ix i) := by rw [← xt81]; show (zJ s74 rW (53 + ix i)).toInt = _; rw [E79, un (show 53 + ix i ≠ 149 + 10 * ix x1 + 3 from by omega), E72, un (show 53 + ix i ≠ 149 + 10 * ix x1 + 2 from by omega), E64, un (show 53 + ix i ≠ 149 + 10 * ix x1 + 1 from by omega), E56, un (show 53 + ix i ≠ 149 + 10 * ix x1 + 0 from by omega), E40, E32, E21, E12, E3]; try rfl
  have hTo := hT
  refine tVv (n := 3) (As := [.int x1, .int 4, .long t81]) (rest := []) hx hb hml hown hg hT hK hX (X6_put l κ s74 this x1 4 t81  (hT.k t_this (by decide)) (by omega) (by omega) (by omega) (by omega)) (fun _ _ h => h) (mwV k1596 k1598 k74 k92 k1599) ⟨rfl, by decide, by decide, by decide +kernel⟩ ⟨(Nat.le_of_ble_eq_true rfl), (Nat.le_of_ble_eq_true rfl)⟩ (hT.o20 (hT.k t_this (by decide))) rfl rfl hl.1 rfl (Nat.le_of_ble_eq_true rfl) dX6_lifts_93 zroom.rf (fun s83 H locs hφ hEs83 hT => ?_)
  have f85 := hφ
  have K86 : zI s83 this 7 = zI σ0 this 7 := hT.eI t_this (by decide) rfl rfl
  have K86n : (zI s83 this 7).toInt = (zI σ0 this 7).toInt := by rw [K86]
  have P87 : zI s83 rP = zI σ0 rP := funext fun k => hT.eI trP (by decide) rfl rfl
  try simp only [erW, erP, ix_0, ix_1, ix_2, ix_3, ix_4, ix_5, ix_6, ix_7, ix_8, ix_9, K77, P78, K86, P87] at f85
  have E88 : zJ s83 rW = vp_updL (zJ s74 rW) (149 + 10 * ix x1 + 4) t81 := f85
  refine lv_aload_n hx hb dX6_lifts_96 rfl (lv_at hl 6 rfl) ?_
  refine lv_iload_n hx hb dX6_lifts_97 rfl (lv_at hl 5 rfl) ?_
  refine lv_iconst (v := 5) hx hb dX6_lifts_98 (by decide) ?_
  refine lv_lload hx hb dX6_lifts_99 (lv_at hl 0 rfl) ?_
  have hTo := hT
  refine tVv (n := 3) (As := [.int x1, .int 5, .long x38]) (rest := []) hx hb hml hown hg hT hK hX (X6_put l κ s83 this x1 5 x38  (hT.k t_this (by decide)) (by omega) (by omega) (by omega) (by omega)) (fun _ _ h => h) (mwV k1596 k1598 k74 k92 k1599) ⟨rfl, by decide, by decide, by decide +kernel⟩ ⟨(Nat.le_of_ble_eq_true rfl), (Nat.le_of_ble_eq_true rfl)⟩ (hT.o20 (hT.k t_this (by decide))) rfl rfl hl.1 rfl (Nat.le_of_ble_eq_true rfl) dX6_lifts_101 zroom.rf (fun s90 H locs hφ hEs90 hT => ?_)
  have f92 := hφ
  have K93 : zI s90 this 7 = zI σ0 this 7 := hT.eI t_this (by decide) rfl rfl
  have K93n : (zI s90 this 7).toInt = (zI σ0 this 7).toInt := by rw [K93]
  have P94 : zI s90 rP = zI σ0 rP := funext fun k => hT.eI trP (by decide) rfl rfl
  try simp only [erW, erP, ix_0, ix_1, ix_2, ix_3, ix_4, ix_5, ix_6, ix_7, ix_8, ix_9, K86, P87, K93, P94] at f92
  have E95 : zJ s90 rW = vp_updL (zJ s83 rW) (149 + 10 * ix x1 + 5) x38 := f92
  refine lv_aload_n hx hb dX6_lifts_104 rfl (lv_at hl 6 rfl) ?_
  refine lv_iload_n hx hb dX6_lifts_105 rfl (lv_at hl 5 rfl) ?_
  refine lv_bipush (v := 6) hx hb dX6_lifts_106 (by decide) ?_
  refine lv_aload_n hx hb dX6_lifts_108 rfl (lv_at hl 6 rfl) ?_
  refine va_get (D := κ.1) (ci := 6) (v := .ref (kR κ this 1)) (C := RX6) (T := TX6) (N := 27) hx hb hg inX6 hown hK (hT.o20 (hT.k t_this (by decide))).one 0 rfl rfl 1 (by decide) (hg _ k1220) (fun _ h9 => h9) rfl dX6_lifts_109 ?_
  rw [erW]
  refine lv_bipush (v := 53) hx hb dX6_lifts_112 (by decide) ?_
  refine lv_iload_n hx hb dX6_lifts_114 rfl (lv_at hl 4 rfl) ?_
  refine lv_iadd hx hb dX6_lifts_115 ?_
  first | refine g_add (by omega) (by omega) (fun t96 ht96 => ?_) | refine lv_topi (fun t96 ht96 => ?_)
  refine va_lald hx hb hK (hT.o21 (hT.k trW (by decide))).one 0 1 rfl rfl (g_in (by omega) (by omega)) dX6_lifts_116 ?_
  refine lv_topl (fun t97 ht97 => ?_)
  have xt97 : rwt (zJ s90 rW) (ix x10) = t97.toInt := by rw [ht97]; exact congrArg (fun q9 => (zJ s90 rW q9).toInt) (show 53 + ix x10 = ix t96 from by unfold ix; omega)
  have yt97 : t97.toInt = rwt (zJ σ0 rW) (ix x10) := by rw [← xt97]; show (zJ s90 rW (53 + ix x10)).toInt = _; rw [E95, un (show 53 + ix x10 ≠ 149 + 10 * ix x1 + 5 from by omega), E88, un (show 53 + ix x10 ≠ 149 + 10 * ix x1 + 4 from by omega), E79, un (show 53 + ix x10 ≠ 149 + 10 * ix x1 + 3 from by omega), E72, un (show 53 + ix x10 ≠ 149 + 10 * ix x1 + 2 from by omega), E64, un (show 53 + ix x10 ≠ 149 + 10 * ix x1 + 1 from by omega), E56, un (show 53 + ix x10 ≠ 149 + 10 * ix x1 + 0 from by omega), E40, E32, E21, E12, E3]; try rfl
  have hTo := hT
  refine tVv (n := 3) (As := [.int x1, .int 6, .long t97]) (rest := []) hx hb hml hown hg hT hK hX (X6_put l κ s90 this x1 6 t97  (hT.k t_this (by decide)) (by omega) (by omega) (by omega) (by omega)) (fun _ _ h => h) (mwV k1596 k1598 k74 k92 k1599) ⟨rfl, by decide, by decide, by decide +kernel⟩ ⟨(Nat.le_of_ble_eq_true rfl), (Nat.le_of_ble_eq_true rfl)⟩ (hT.o20 (hT.k t_this (by decide))) rfl rfl hl.1 rfl (Nat.le_of_ble_eq_true rfl) dX6_lifts_117 zroom.rf (fun s99 H locs hφ hEs99 hT => ?_)
  have f101 := hφ
  have K102 : zI s99 this 7 = zI σ0 this 7 := hT.eI t_this (by decide) rfl rfl
  have K102n : (zI s99 this 7).toInt = (zI σ0 this 7).toInt := by rw [K102]
  have P103 : zI s99 rP = zI σ0 rP := funext fun k => hT.eI trP (by decide) rfl rfl
  try simp only [erW, erP, ix_0, ix_1, ix_2, ix_3, ix_4, ix_5, ix_6, ix_7, ix_8, ix_9, K93, P94, K102, P103] at f101
  have E104 : zJ s99 rW = vp_updL (zJ s90 rW) (149 + 10 * ix x1 + 6) t97 := f101
  refine lv_aload_n hx hb dX6_lifts_120 rfl (lv_at hl 6 rfl) ?_
  refine lv_iload_n hx hb dX6_lifts_121 rfl (lv_at hl 5 rfl) ?_
  refine lv_bipush (v := 7) hx hb dX6_lifts_122 (by decide) ?_
  refine lv_aload_n hx hb dX6_lifts_124 rfl (lv_at hl 6 rfl) ?_
  refine va_get (D := κ.1) (ci := 6) (v := .ref (kR κ this 1)) (C := RX6) (T := TX6) (N := 27) hx hb hg inX6 hown hK (hT.o20 (hT.k t_this (by decide))).one 0 rfl rfl 1 (by decide) (hg _ k1220) (fun _ h9 => h9) rfl dX6_lifts_125 ?_
  rw [erW]
  refine lv_bipush (v := 53) hx hb dX6_lifts_128 (by decide) ?_
  refine lv_iload hx hb dX6_lifts_130 (lv_at hl 3 rfl) ?_
  refine lv_iadd hx hb dX6_lifts_132 ?_
  first | refine g_add (by omega) (by omega) (fun t105 ht105 => ?_) | refine lv_topi (fun t105 ht105 => ?_)
  refine va_lald hx hb hK (hT.o21 (hT.k trW (by decide))).one 0 1 rfl rfl (g_in (by omega) (by omega)) dX6_lifts_133 ?_
  refine lv_topl (fun t106 ht106 => ?_)
  have xt106 : rwt (zJ s99 rW) (ix x19) = t106.toInt := by rw [ht106]; exact congrArg (fun q9 => (zJ s99 rW q9).toInt) (show 53 + ix x19 = ix t105 from by unfold ix; omega)
  have yt106 : t106.toInt = rwt (zJ σ0 rW) (ix x19) := by rw [← xt106]; show (zJ s99 rW (53 + ix x19)).toInt = _; rw [E104, un (show 53 + ix x19 ≠ 149 + 10 * ix x1 + 6 from by omega), E95, un (show 53 + ix x19 ≠ 149 + 10 * ix x1 + 5 from by omega), E88, un (show 53 + ix x19 ≠ 149 + 10 * ix x1 + 4 from by omega), E79, un (show 53 + ix x19 ≠ 149 + 10 * ix x1 + 3 from by omega), E72, un (show 53 + ix x19 ≠ 149 + 10 * ix x1 + 2 from by omega), E64, un (show 53 + ix x19 ≠ 149 + 10 * ix x1 + 1 from by omega), E56, un (show 53 + ix x19 ≠ 149 + 10 * ix x1 + 0 from by omega), E40, E32, E21, E12, E3]; try rfl
  have hTo := hT
  refine tVv (n := 3) (As := [.int x1, .int 7, .long t106]) (rest := []) hx hb hml hown hg hT hK hX (X6_put l κ s99 this x1 7 t106  (hT.k t_this (by decide)) (by omega) (by omega) (by omega) (by omega)) (fun _ _ h => h) (mwV k1596 k1598 k74 k92 k1599) ⟨rfl, by decide, by decide, by decide +kernel⟩ ⟨(Nat.le_of_ble_eq_true rfl), (Nat.le_of_ble_eq_true rfl)⟩ (hT.o20 (hT.k t_this (by decide))) rfl rfl hl.1 rfl (Nat.le_of_ble_eq_true rfl) dX6_lifts_134 zroom.rf (fun s108 H locs hφ hEs108 hT => ?_)
  have f110 := hφ
  have K111 : zI s108 this 7 = zI σ0 this 7 := hT.eI t_this (by decide) rfl rfl
  have K111n : (zI s108 this 7).toInt = (zI σ0 this 7).toInt := by rw [K111]
  have P112 : zI s108 rP = zI σ0 rP := funext fun k => hT.eI trP (by decide) rfl rfl
  try simp only [erW, erP, ix_0, ix_1, ix_2, ix_3, ix_4, ix_5, ix_6, ix_7, ix_8, ix_9, K102, P103, K111, P112] at f110
  have E113 : zJ s108 rW = vp_updL (zJ s99 rW) (149 + 10 * ix x1 + 7) t106 := f110
  refine lv_aload_n hx hb dX6_lifts_137 rfl (lv_at hl 6 rfl) ?_
  refine lv_iload_n hx hb dX6_lifts_138 rfl (lv_at hl 5 rfl) ?_
  refine lv_bipush (v := 8) hx hb dX6_lifts_139 (by decide) ?_
  refine lv_iload hx hb dX6_lifts_141 (lv_at hl 2 rfl) ?_
  refine lv_i2l hx hb dX6_lifts_143 rfl ?_
  refine g_i2l (fun t114 ht114 => ?_)
  have hTo := hT
  refine tVv (n := 3) (As := [.int x1, .int 8, .long t114]) (rest := []) hx hb hml hown hg hT hK hX (X6_put l κ s108 this x1 8 t114  (hT.k t_this (by decide)) (by omega) (by omega) (by omega) (by omega)) (fun _ _ h => h) (mwV k1596 k1598 k74 k92 k1599) ⟨rfl, by decide, by decide, by decide +kernel⟩ ⟨(Nat.le_of_ble_eq_true rfl), (Nat.le_of_ble_eq_true rfl)⟩ (hT.o20 (hT.k t_this (by decide))) rfl rfl hl.1 rfl (Nat.le_of_ble_eq_true rfl) dX6_lifts_144 zroom.rf (fun s116 H locs hφ hEs116 hT => ?_)
  have f118 := hφ
  have K119 : zI s116 this 7 = zI σ0 this 7 := hT.eI t_this (by decide) rfl rfl
  have K119n : (zI s116 this 7).toInt = (zI σ0 this 7).toInt := by rw [K119]
  have P120 : zI s116 rP = zI σ0 rP := funext fun k => hT.eI trP (by decide) rfl rfl
  try simp only [erW, erP, ix_0, ix_1, ix_2, ix_3, ix_4, ix_5, ix_6, ix_7, ix_8, ix_9, K111, P112, K119, P120] at f118
  have E121 : zJ s116 rW = vp_updL (zJ s108 rW) (149 + 10 * ix x1 + 8) t114 := f118
  refine lv_aload_n hx hb dX6_lifts_147 rfl (lv_at hl 6 rfl) ?_
  refine lv_iload_n hx hb dX6_lifts_148 rfl (lv_at hl 5 rfl) ?_
  refine lv_bipush (v := 9) hx hb dX6_lifts_149 (by decide) ?_
  refine lv_aload_n hx hb dX6_lifts_151 rfl (lv_at hl 6 rfl) ?_
  refine va_get (D := κ.1) (ci := 6) (v := .ref (kR κ this 1)) (C := RX6) (T := TX6) (N := 27) hx hb hg inX6 hown hK (hT.o20 (hT.k t_this (by decide))).one 0 rfl rfl 1 (by decide) (hg _ k1220) (fun _ h9 => h9) rfl dX6_lifts_152 ?_
  rw [erW]
  refine lv_iconst (v := 2) hx hb dX6_lifts_155 (by decide) ?_
  refine va_lald hx hb hK (hT.o21 (hT.k trW (by decide))).one 0 1 rfl rfl (g_in (by omega) (by omega)) dX6_lifts_156 ?_
  refine lv_topl (fun t122 ht122 => ?_)
  have xt122 : (zJ s116 rW 2).toInt = t122.toInt := by rw [ht122]; exact congrArg (fun q9 => (zJ s116 rW q9).toInt) (show 2 = ix 2 from by decide)
  have yt122 : t122.toInt = (zJ σ0 rW 2).toInt := by rw [← xt122]; show (zJ s116 rW (2)).toInt = _; rw [E121, un (show 2 ≠ 149 + 10 * ix x1 + 8 from by omega), E113, un (show 2 ≠ 149 + 10 * ix x1 + 7 from by omega), E104, un (show 2 ≠ 149 + 10 * ix x1 + 6 from by omega), E95, un (show 2 ≠ 149 + 10 * ix x1 + 5 from by omega), E88, un (show 2 ≠ 149 + 10 * ix x1 + 4 from by omega), E79, un (show 2 ≠ 149 + 10 * ix x1 + 3 from by omega), E72, un (show 2 ≠ 149 + 10 * ix x1 + 2 from by omega), E64, un (show 2 ≠ 149 + 10 * ix x1 + 1 from by omega), E56, un (show 2 ≠ 149 + 10 * ix x1 + 0 from by omega), E40, E32, E21, E12, E3]
  have hTo := hT
  refine tVv (n := 3) (As := [.int x1, .int 9, .long t122]) (rest := []) hx hb hml hown hg hT hK hX (X6_put l κ s116 this x1 9 t122  (hT.k t_this (by decide)) (by omega) (by omega) (by omega) (by omega)) (fun _ _ h => h) (mwV k1596 k1598 k74 k92 k1599) ⟨rfl, by decide, by decide, by decide +kernel⟩ ⟨(Nat.le_of_ble_eq_true rfl), (Nat.le_of_ble_eq_true rfl)⟩ (hT.o20 (hT.k t_this (by decide))) rfl rfl hl.1 rfl (Nat.le_of_ble_eq_true rfl) dX6_lifts_157 zroom.rf (fun s124 H locs hφ hEs124 hT => ?_)
  have f126 := hφ
  have K127 : zI s124 this 7 = zI σ0 this 7 := hT.eI t_this (by decide) rfl rfl
  have K127n : (zI s124 this 7).toInt = (zI σ0 this 7).toInt := by rw [K127]
  have P128 : zI s124 rP = zI σ0 rP := funext fun k => hT.eI trP (by decide) rfl rfl
  try simp only [erW, erP, ix_0, ix_1, ix_2, ix_3, ix_4, ix_5, ix_6, ix_7, ix_8, ix_9, K119, P120, K127, P128] at f126
  have E129 : zJ s124 rW = vp_updL (zJ s116 rW) (149 + 10 * ix x1 + 9) t122 := f126
  refine lv_aload_n hx hb dX6_lifts_160 rfl (lv_at hl 6 rfl) ?_
  refine va_get (D := κ.1) (ci := 6) (v := .ref (kR κ this 1)) (C := RX6) (T := TX6) (N := 27) hx hb hg inX6 hown hK (hT.o20 (hT.k t_this (by decide))).one 0 rfl rfl 1 (by decide) (hg _ k1220) (fun _ h9 => h9) rfl dX6_lifts_161 ?_
  rw [erW]
  refine lv_iconst (v := 3) hx hb dX6_lifts_164 (by decide) ?_
  refine lv_dup2_11 hx hb dX6_lifts_165 rfl rfl ?_
  refine va_lald hx hb hK (hT.o21 (hT.k trW (by decide))).one 0 1 rfl rfl (g_in (by omega) (by omega)) dX6_lifts_166 ?_
  refine lv_topl (fun t130 ht130 => ?_)
  have xt130 : (zJ s124 rW 3).toInt = t130.toInt := by rw [ht130]; exact congrArg (fun q9 => (zJ s124 rW q9).toInt) (show 3 = ix 3 from by decide)
  have yt130 : t130.toInt = (zJ σ0 rW 3).toInt := by rw [← xt130]; show (zJ s124 rW (3)).toInt = _; rw [E129, un (show 3 ≠ 149 + 10 * ix x1 + 9 from by omega), E121, un (show 3 ≠ 149 + 10 * ix x1 + 8 from by omega), E113, un (show 3 ≠ 149 + 10 * ix x1 + 7 from by omega), E104, un (show 3 ≠ 149 + 10 * ix x1 + 6 from by omega), E95, un (show 3 ≠ 149 + 10 * ix x1 + 5 from by omega), E88, un (show 3 ≠ 149 + 10 * ix x1 + 4 from by omega), E79, un (show 3 ≠ 149 + 10 * ix x1 + 3 from by omega), E72, un (show 3 ≠ 149 + 10 * ix x1 + 2 from by omega), E64, un (show 3 ≠ 149 + 10 * ix x1 + 1 from by omega), E56, un (show 3 ≠ 149 + 10 * ix x1 + 0 from by omega), E40, E32, E21, E12, E3]
  refine lv_aload_n hx hb dX6_lifts_167 rfl (lv_at hl 6 rfl) ?_
  refine va_get (D := κ.1) (ci := 6) (v := .ref (kR κ this 1)) (C := RX6) (T := TX6) (N := 27) hx hb hg inX6 hown hK (hT.o20 (hT.k t_this (by decide))).one 0 rfl rfl 1 (by decide) (hg _ k1220) (fun _ h9 => h9) rfl dX6_lifts_168 ?_
  rw [erW]
  refine lv_bipush (v := 53) hx hb dX6_lifts_171 (by decide) ?_
  refine lv_iload_n hx hb dX6_lifts_173 rfl (lv_at hl 4 rfl) ?_
  refine lv_iadd hx hb dX6_lifts_174 ?_
  first | refine g_add (by omega) (by omega) (fun t131 ht131 => ?_) | refine lv_topi (fun t131 ht131 => ?_)
  refine va_lald hx hb hK (hT.o21 (hT.k trW (by decide))).one 0 1 rfl rfl (g_in (by omega) (by omega)) dX6_lifts_175 ?_
  refine lv_topl (fun t132 ht132 => ?_)
  refine lv_aload_n hx hb dX6_lifts_176 rfl (lv_at hl 6 rfl) ?_
  refine va_get (D := κ.1) (ci := 6) (v := .ref (kR κ this 1)) (C := RX6) (T := TX6) (N := 27) hx hb hg inX6 hown hK (hT.o20 (hT.k t_this (by decide))).one 0 rfl rfl 1 (by decide) (hg _ k1220) (fun _ h9 => h9) rfl dX6_lifts_177 ?_
  rw [erW]
  refine lv_iconst (v := 5) hx hb dX6_lifts_180 (by decide) ?_
  refine lv_iload_n hx hb dX6_lifts_181 rfl (lv_at hl 4 rfl) ?_
  refine lv_iadd hx hb dX6_lifts_182 ?_
  first | refine g_add (by omega) (by omega) (fun t133 ht133 => ?_) | refine lv_topi (fun t133 ht133 => ?_)
  refine va_lald hx hb hK (hT.o21 (hT.k trW (by decide))).one 0 1 rfl rfl (g_in (by omega) (by omega)) dX6_lifts_183 ?_
  refine lv_topl (fun t134 ht134 => ?_)
  refine lv_lmul hx hb dX6_lifts_184 ?_
  refine lv_topl (fun t135 ht135 => ?_)
  refine lv_aload_n hx hb dX6_lifts_185 rfl (lv_at hl 6 rfl) ?_
  refine va_get (D := κ.1) (ci := 6) (v := .ref (kR κ this 1)) (C := RX6) (T := TX6) (N := 27) hx hb hg inX6 hown hK (hT.o20 (hT.k t_this (by decide))).one 0 rfl rfl 1 (by decide) (hg _ k1220) (fun _ h9 => h9) rfl dX6_lifts_186 ?_
  rw [erW]
  refine lv_bipush (v := 53) hx hb dX6_lifts_189 (by decide) ?_
  refine lv_iload hx hb dX6_lifts_191 (lv_at hl 3 rfl) ?_
  refine lv_iadd hx hb dX6_lifts_193 ?_
  first | refine g_add (by omega) (by omega) (fun t136 ht136 => ?_) | refine lv_topi (fun t136 ht136 => ?_)
  refine va_lald hx hb hK (hT.o21 (hT.k trW (by decide))).one 0 1 rfl rfl (g_in (by omega) (by omega)) dX6_lifts_194 ?_
  refine lv_topl (fun t137 ht137 => ?_)
  refine lv_aload_n hx hb dX6_lifts_195 rfl (lv_at hl 6 rfl) ?_
  refine va_get (D := κ.1) (ci := 6) (v := .ref (kR κ this 1)) (C := RX6) (T := TX6) (N := 27) hx hb hg inX6 hown hK (hT.o20 (hT.k t_this (by decide))).one 0 rfl rfl 1 (by decide) (hg _ k1220) (fun _ h9 => h9) rfl dX6_lifts_196 ?_
  rw [erW]
  refine lv_iconst (v := 5) hx hb dX6_lifts_199 (by decide) ?_
  refine lv_iload hx hb dX6_lifts_200 (lv_at hl 3 rfl) ?_
  refine lv_iadd hx hb dX6_lifts_202 ?_
  first | refine g_add (by omega) (by omega) (fun t138 ht138 => ?_) | refine lv_topi (fun t138 ht138 => ?_)
  refine va_lald hx hb hK (hT.o21 (hT.k trW (by decide))).one 0 1 rfl rfl (g_in (by omega) (by omega)) dX6_lifts_203 ?_
  refine lv_topl (fun t139 ht139 => ?_)
  refine lv_lmul hx hb dX6_lifts_204 ?_
  refine lv_topl (fun t140 ht140 => ?_)
  refine lv_ladd hx hb dX6_lifts_205 ?_
  refine lv_topl (fun t141 ht141 => ?_)
  refine lv_aload_n hx hb dX6_lifts_206 rfl (lv_at hl 6 rfl) ?_
  refine va_get (D := κ.1) (ci := 6) (v := .ref (kR κ this 1)) (C := RX6) (T := TX6) (N := 27) hx hb hg inX6 hown hK (hT.o20 (hT.k t_this (by decide))).one 0 rfl rfl 1 (by decide) (hg _ k1220) (fun _ h9 => h9) rfl dX6_lifts_207 ?_
  rw [erW]
  refine lv_bipush (v := 53) hx hb dX6_lifts_210 (by decide) ?_
  refine lv_iload_n hx hb dX6_lifts_212 rfl (lv_at hl 7 rfl) ?_
  refine lv_iadd hx hb dX6_lifts_213 ?_
  first | refine g_add (by omega) (by omega) (fun t142 ht142 => ?_) | refine lv_topi (fun t142 ht142 => ?_)
  refine va_lald hx hb hK (hT.o21 (hT.k trW (by decide))).one 0 1 rfl rfl (g_in (by omega) (by omega)) dX6_lifts_214 ?_
  refine lv_topl (fun t143 ht143 => ?_)
  refine lv_aload_n hx hb dX6_lifts_215 rfl (lv_at hl 6 rfl) ?_
  refine va_get (D := κ.1) (ci := 6) (v := .ref (kR κ this 1)) (C := RX6) (T := TX6) (N := 27) hx hb hg inX6 hown hK (hT.o20 (hT.k t_this (by decide))).one 0 rfl rfl 1 (by decide) (hg _ k1220) (fun _ h9 => h9) rfl dX6_lifts_216 ?_
  rw [erW]
  refine lv_iconst (v := 5) hx hb dX6_lifts_219 (by decide) ?_
  refine lv_iload_n hx hb dX6_lifts_220 rfl (lv_at hl 7 rfl) ?_
  refine lv_iadd hx hb dX6_lifts_221 ?_
  first | refine g_add (by omega) (by omega) (fun t144 ht144 => ?_) | refine lv_topi (fun t144 ht144 => ?_)
  refine va_lald hx hb hK (hT.o21 (hT.k trW (by decide))).one 0 1 rfl rfl (g_in (by omega) (by omega)) dX6_lifts_222 ?_
  refine lv_topl (fun t145 ht145 => ?_)
  refine lv_lmul hx hb dX6_lifts_223 ?_
  refine lv_topl (fun t146 ht146 => ?_)
  refine lv_ladd hx hb dX6_lifts_224 ?_
  refine lv_topl (fun t147 ht147 => ?_)
  refine lv_ladd hx hb dX6_lifts_225 ?_
  refine lv_topl (fun t148 ht148 => ?_)
  have hTo := hT
  refine tastl (n := 609) hx hb hK hT (hT.k trW (by decide)) ⟨by decide, by decide⟩ (fun _ _ _ => rfl) (fun _ _ => trivial) (fun _ => rfl) (by omega) (by omega) dX6_lifts_226 (fun H locs s149 hus149 hT => ?_)
  have E150 : zJ s149 rW = vp_updL (zJ s124 rW) (3) t148 := by rw [zpul_Ja hus149]; exact congrArg (fun q9 => vp_updL (zJ s124 rW) q9 t148) (show ix 3 = 3 from by decide)
  refine lv_aload_n hx hb dX6_lifts_227 rfl (lv_at hl 6 rfl) ?_
  refine va_get (D := κ.1) (ci := 6) (v := .ref (kR κ this 1)) (C := RX6) (T := TX6) (N := 27) hx hb hg inX6 hown hK (hT.o20 (hT.k t_this (by decide))).one 0 rfl rfl 1 (by decide) (hg _ k1220) (fun _ h9 => h9) rfl dX6_lifts_228 ?_
  rw [erW]
  refine lv_bipush (v := 53) hx hb dX6_lifts_231 (by decide) ?_
  refine lv_iload_n hx hb dX6_lifts_233 rfl (lv_at hl 4 rfl) ?_
  refine lv_iadd hx hb dX6_lifts_234 ?_
  first | refine g_add (by omega) (by omega) (fun t151 ht151 => ?_) | refine lv_topi (fun t151 ht151 => ?_)
  refine lv_dup2_11 hx hb dX6_lifts_235 rfl rfl ?_
  refine va_lald hx hb hK (hT.o21 (hT.k trW (by decide))).one 0 1 rfl rfl (g_in (by omega) (by omega)) dX6_lifts_236 ?_
  refine lv_topl (fun t152 ht152 => ?_)
  have K153 : zI s149 this 7 = zI σ0 this 7 := hT.eI t_this (by decide) rfl rfl
  have K153n : (zI s149 this 7).toInt = (zI σ0 this 7).toInt := by rw [K153]
  have P154 : zI s149 rP = zI σ0 rP := funext fun k => hT.eI trP (by decide) rfl rfl
  have xt152 : rwt (zJ s149 rW) (ix x10) = t152.toInt := by rw [ht152]; exact congrArg (fun q9 => (zJ s149 rW q9).toInt) (show 53 + ix x10 = ix t151 from by unfold ix; omega)
  have yt152 : t152.toInt = rwt (zJ σ0 rW) (ix x10) := by rw [← xt152]; show (zJ s149 rW (53 + ix x10)).toInt = _; rw [E150, un (show 53 + ix x10 ≠ 3 from by omega), E129, un (show 53 + ix x10 ≠ 149 + 10 * ix x1 + 9 from by omega), E121, un (show 53 + ix x10 ≠ 149 + 10 * ix x1 + 8 from by omega), E113, un (show 53 + ix x10 ≠ 149 + 10 * ix x1 + 7 from by omega), E104, un (show 53 + ix x10 ≠ 149 + 10 * ix x1 + 6 from by omega), E95, un (show 53 + ix x10 ≠ 149 + 10 * ix x1 + 5 from by omega), E88, un (show 53 + ix x10 ≠ 149 + 10 * ix x1 + 4 from by omega), E79, un (show 53 + ix x10 ≠ 149 + 10 * ix x1 + 3 from by omega), E72, un (show 53 + ix x10 ≠ 149 + 10 * ix x1 + 2 from by omega), E64, un (show 53 + ix x10 ≠ 149 + 10 * ix x1 + 1 from by omega), E56, un (show 53 + ix x10 ≠ 149 + 10 * ix x1 + 0 from by omega), E40, E32, E21, E12, E3]; try rfl
  refine lv_lload hx hb dX6_lifts_237 (lv_at hl 0 rfl) ?_
  refine lv_ladd hx hb dX6_lifts_239 ?_
  refine g_addl (by omega) (by omega) (fun t155 ht155 => ?_)
  have hTo := hT
  refine tastl (n := 609) hx hb hK hT (hT.k trW (by decide)) ⟨by decide, by decide⟩ (fun _ _ _ => rfl) (fun _ _ => trivial) (fun _ => rfl) (by omega) (by omega) dX6_lifts_240 (fun H locs s156 hus156 hT => ?_)
  have E157 : zJ s156 rW = vp_updL (zJ s149 rW) (53 + ix x10) t155 := by rw [zpul_Ja hus156]; exact congrArg (fun q9 => vp_updL (zJ s149 rW) q9 t155) (show ix t151 = 53 + ix x10 from by unfold ix; omega)
  refine lv_aload_n hx hb dX6_lifts_241 rfl (lv_at hl 6 rfl) ?_
  refine va_get (D := κ.1) (ci := 6) (v := .ref (kR κ this 1)) (C := RX6) (T := TX6) (N := 27) hx hb hg inX6 hown hK (hT.o20 (hT.k t_this (by decide))).one 0 rfl rfl 1 (by decide) (hg _ k1220) (fun _ h9 => h9) rfl dX6_lifts_242 ?_
  rw [erW]
  refine lv_bipush (v := 53) hx hb dX6_lifts_245 (by decide) ?_
  refine lv_iload hx hb dX6_lifts_247 (lv_at hl 3 rfl) ?_
  refine lv_iadd hx hb dX6_lifts_249 ?_
  first | refine g_add (by omega) (by omega) (fun t158 ht158 => ?_) | refine lv_topi (fun t158 ht158 => ?_)
  refine lv_dup2_11 hx hb dX6_lifts_250 rfl rfl ?_
  refine va_lald hx hb hK (hT.o21 (hT.k trW (by decide))).one 0 1 rfl rfl (g_in (by omega) (by omega)) dX6_lifts_251 ?_
  refine lv_topl (fun t159 ht159 => ?_)
  have K160 : zI s156 this 7 = zI σ0 this 7 := hT.eI t_this (by decide) rfl rfl
  have K160n : (zI s156 this 7).toInt = (zI σ0 this 7).toInt := by rw [K160]
  have P161 : zI s156 rP = zI σ0 rP := funext fun k => hT.eI trP (by decide) rfl rfl
  have xt159 : rwt (zJ s156 rW) (ix x19) = t159.toInt := by rw [ht159]; exact congrArg (fun q9 => (zJ s156 rW q9).toInt) (show 53 + ix x19 = ix t158 from by unfold ix; omega)
  have yt159 : t159.toInt = rwt (zJ σ0 rW) (ix x19) := by rw [← xt159]; show (zJ s156 rW (53 + ix x19)).toInt = _; rw [E157, un (show 53 + ix x19 ≠ 53 + ix x10 from by omega), E150, un (show 53 + ix x19 ≠ 3 from by omega), E129, un (show 53 + ix x19 ≠ 149 + 10 * ix x1 + 9 from by omega), E121, un (show 53 + ix x19 ≠ 149 + 10 * ix x1 + 8 from by omega), E113, un (show 53 + ix x19 ≠ 149 + 10 * ix x1 + 7 from by omega), E104, un (show 53 + ix x19 ≠ 149 + 10 * ix x1 + 6 from by omega), E95, un (show 53 + ix x19 ≠ 149 + 10 * ix x1 + 5 from by omega), E88, un (show 53 + ix x19 ≠ 149 + 10 * ix x1 + 4 from by omega), E79, un (show 53 + ix x19 ≠ 149 + 10 * ix x1 + 3 from by omega), E72, un (show 53 + ix x19 ≠ 149 + 10 * ix x1 + 2 from by omega), E64, un (show 53 + ix x19 ≠ 149 + 10 * ix x1 + 1 from by omega), E56, un (show 53 + ix x19 ≠ 149 + 10 * ix x1 + 0 from by omega), E40, E32, E21, E12, E3]; try rfl
  refine lv_aload_n hx hb dX6_lifts_252 rfl (lv_at hl 6 rfl) ?_
  refine va_get (D := κ.1) (ci := 6) (v := .ref (kR κ this 1)) (C := RX6) (T := TX6) (N := 27) hx hb hg inX6 hown hK (hT.o20 (hT.k t_this (by decide))).one 0 rfl rfl 1 (by decide) (hg _ k1220) (fun _ h9 => h9) rfl dX6_lifts_253 ?_
  rw [erW]
  refine lv_bipush (v := 53) hx hb dX6_lifts_256 (by decide) ?_
  refine lv_iload_n hx hb dX6_lifts_258 rfl (lv_at hl 7 rfl) ?_
  refine lv_iadd hx hb dX6_lifts_259 ?_
  first | refine g_add (by omega) (by omega) (fun t162 ht162 => ?_) | refine lv_topi (fun t162 ht162 => ?_)
  refine va_lald hx hb hK (hT.o21 (hT.k trW (by decide))).one 0 1 rfl rfl (g_in (by omega) (by omega)) dX6_lifts_260 ?_
  refine lv_topl (fun t163 ht163 => ?_)
  have xt163 : rwt (zJ s156 rW) (ix i) = t163.toInt := by rw [ht163]; exact congrArg (fun q9 => (zJ s156 rW q9).toInt) (show 53 + ix i = ix t162 from by unfold ix; omega)
  have yt163 : t163.toInt = rwt (zJ σ0 rW) (ix i) := by rw [← xt163]; show (zJ s156 rW (53 + ix i)).toInt = _; rw [E157, un (show 53 + ix i ≠ 53 + ix x10 from by omega), E150, un (show 53 + ix i ≠ 3 from by omega), E129, un (show 53 + ix i ≠ 149 + 10 * ix x1 + 9 from by omega), E121, un (show 53 + ix i ≠ 149 + 10 * ix x1 + 8 from by omega), E113, un (show 53 + ix i ≠ 149 + 10 * ix x1 + 7 from by omega), E104, un (show 53 + ix i ≠ 149 + 10 * ix x1 + 6 from by omega), E95, un (show 53 + ix i ≠ 149 + 10 * ix x1 + 5 from by omega), E88, un (show 53 + ix i ≠ 149 + 10 * ix x1 + 4 from by omega), E79, un (show 53 + ix i ≠ 149 + 10 * ix x1 + 3 from by omega), E72, un (show 53 + ix i ≠ 149 + 10 * ix x1 + 2 from by omega), E64, un (show 53 + ix i ≠ 149 + 10 * ix x1 + 1 from by omega), E56, un (show 53 + ix i ≠ 149 + 10 * ix x1 + 0 from by omega), E40, E32, E21, E12, E3]; try rfl
  refine lv_lload hx hb dX6_lifts_261 (lv_at hl 0 rfl) ?_
  refine lv_lsub hx hb dX6_lifts_263 ?_
  refine g_subl (by omega) (by omega) (fun t164 ht164 => ?_)
  refine lv_ladd hx hb dX6_lifts_264 ?_
  refine g_addl (by omega) (by omega) (fun t165 ht165 => ?_)
  have hTo := hT
  refine tastl (n := 609) hx hb hK hT (hT.k trW (by decide)) ⟨by decide, by decide⟩ (fun _ _ _ => rfl) (fun _ _ => trivial) (fun _ => rfl) (by omega) (by omega) dX6_lifts_265 (fun H locs s166 hus166 hT => ?_)
  have E167 : zJ s166 rW = vp_updL (zJ s156 rW) (53 + ix x19) t165 := by rw [zpul_Ja hus166]; exact congrArg (fun q9 => vp_updL (zJ s156 rW) q9 t165) (show ix t158 = 53 + ix x19 from by unfold ix; omega)
  refine lv_aload_n hx hb dX6_lifts_266 rfl (lv_at hl 6 rfl) ?_
  refine lv_iload_n hx hb dX6_lifts_267 rfl (lv_at hl 5 rfl) ?_
  refine lv_aload_n hx hb dX6_lifts_268 rfl (lv_at hl 6 rfl) ?_
  refine va_get (D := κ.1) (ci := 6) (v := .ref (kR κ this 1)) (C := RX6) (T := TX6) (N := 27) hx hb hg inX6 hown hK (hT.o20 (hT.k t_this (by decide))).one 0 rfl rfl 1 (by decide) (hg _ k1220) (fun _ h9 => h9) rfl dX6_lifts_269 ?_
  rw [erW]
  refine lv_bipush (v := 53) hx hb dX6_lifts_272 (by decide) ?_
  refine lv_iload_n hx hb dX6_lifts_274 rfl (lv_at hl 4 rfl) ?_
  refine lv_iadd hx hb dX6_lifts_275 ?_
  first | refine g_add (by omega) (by omega) (fun t168 ht168 => ?_) | refine lv_topi (fun t168 ht168 => ?_)
  refine va_lald hx hb hK (hT.o21 (hT.k trW (by decide))).one 0 1 rfl rfl (g_in (by omega) (by omega)) dX6_lifts_276 ?_
  refine lv_topl (fun t169 ht169 => ?_)
  have K170 : zI s166 this 7 = zI σ0 this 7 := hT.eI t_this (by decide) rfl rfl
  have K170n : (zI s166 this 7).toInt = (zI σ0 this 7).toInt := by rw [K170]
  have P171 : zI s166 rP = zI σ0 rP := funext fun k => hT.eI trP (by decide) rfl rfl
  have xt169 : rwt (zJ s166 rW) (ix x10) = t169.toInt := by rw [ht169]; exact congrArg (fun q9 => (zJ s166 rW q9).toInt) (show 53 + ix x10 = ix t168 from by unfold ix; omega)
  have yt169 : t169.toInt = t155.toInt := by rw [← xt169]; show (zJ s166 rW (53 + ix x10)).toInt = _; rw [E167, un (show 53 + ix x10 ≠ 53 + ix x19 from by omega), E157, uh]
  refine lv_aload_n hx hb dX6_lifts_277 rfl (lv_at hl 6 rfl) ?_
  refine va_get (D := κ.1) (ci := 6) (v := .ref (kR κ this 1)) (C := RX6) (T := TX6) (N := 27) hx hb hg inX6 hown hK (hT.o20 (hT.k t_this (by decide))).one 0 rfl rfl 1 (by decide) (hg _ k1220) (fun _ h9 => h9) rfl dX6_lifts_278 ?_
  rw [erW]
  refine lv_bipush (v := 53) hx hb dX6_lifts_281 (by decide) ?_
  refine lv_iload hx hb dX6_lifts_283 (lv_at hl 3 rfl) ?_
  refine lv_iadd hx hb dX6_lifts_285 ?_
  first | refine g_add (by omega) (by omega) (fun t172 ht172 => ?_) | refine lv_topi (fun t172 ht172 => ?_)
  refine va_lald hx hb hK (hT.o21 (hT.k trW (by decide))).one 0 1 rfl rfl (g_in (by omega) (by omega)) dX6_lifts_286 ?_
  refine lv_topl (fun t173 ht173 => ?_)
  have xt173 : rwt (zJ s166 rW) (ix x19) = t173.toInt := by rw [ht173]; exact congrArg (fun q9 => (zJ s166 rW q9).toInt) (show 53 + ix x19 = ix t172 from by unfold ix; omega)
  have yt173 : t173.toInt = t165.toInt := by rw [← xt173]; show (zJ s166 rW (53 + ix x19)).toInt = _; rw [E167, uh]
  have hTo := hT
  refine tVl (n := 3) (As := [.int x1, .long t169, .long t173]) (rest := []) hx hb hml hown hg hT hK hX (X6_gets l κ s166 this x1 t169 t173  (hT.k t_this (by decide)) (by omega) (by omega) (by omega) (by omega) (by omega) (by omega) (by omega)) sub_fE_gW (mwV k1600 k1602 k75 k92 k1603) ⟨rfl, by decide, by decide, by decide +kernel⟩ ⟨(Nat.le_of_ble_eq_true rfl), (Nat.le_of_ble_eq_true rfl)⟩ (hT.o20 (hT.k t_this (by decide))) rfl rfl hl.1 rfl (Nat.le_of_ble_eq_true rfl) dX6_lifts_287 zroom.rf (fun x174 s175 H locs hφ hEs175 hT => ?_)
  have E176 : zJ s175 rW = zJ s166 rW := funext fun k => (hTo.k trW (by decide)).eJ hEs175 (by decide) rfl
  refine lv_lstore (lv' := [(10, .long x174), (8, .long x38), (6, .long x30), (5, .int t29), (4, .int x19), (3, .int x10), (2, .int x1), (0, .ref this), (1, .int i)]) hx hb dX6_lifts_290 hl (by decide) rfl (fun ls hl => ?_)
  refine lv_aload_n hx hb dX6_lifts_292 rfl (lv_at hl 7 rfl) ?_
  refine lv_iload_n hx hb dX6_lifts_293 rfl (lv_at hl 6 rfl) ?_
  refine lv_aload_n hx hb dX6_lifts_294 rfl (lv_at hl 7 rfl) ?_
  refine va_get (D := κ.1) (ci := 6) (v := .ref (kR κ this 1)) (C := RX6) (T := TX6) (N := 27) hx hb hg inX6 hown hK (hT.o20 (hT.k t_this (by decide))).one 0 rfl rfl 1 (by decide) (hg _ k1220) (fun _ h9 => h9) rfl dX6_lifts_295 ?_
  rw [erW]
  refine lv_bipush (v := 53) hx hb dX6_lifts_298 (by decide) ?_
  refine lv_iload hx hb dX6_lifts_300 (lv_at hl 4 rfl) ?_
  refine lv_iadd hx hb dX6_lifts_302 ?_
  first | refine g_add (by omega) (by omega) (fun t177 ht177 => ?_) | refine lv_topi (fun t177 ht177 => ?_)
  refine va_lald hx hb hK (hT.o21 (hT.k trW (by decide))).one 0 1 rfl rfl (g_in (by omega) (by omega)) dX6_lifts_303 ?_
  refine lv_topl (fun t178 ht178 => ?_)
  have K179 : zI s175 this 7 = zI σ0 this 7 := hT.eI t_this (by decide) rfl rfl
  have K179n : (zI s175 this 7).toInt = (zI σ0 this 7).toInt := by rw [K179]
  have P180 : zI s175 rP = zI σ0 rP := funext fun k => hT.eI trP (by decide) rfl rfl
  refine lv_aload_n hx hb dX6_lifts_304 rfl (lv_at hl 7 rfl) ?_
  refine va_get (D := κ.1) (ci := 6) (v := .ref (kR κ this 1)) (C := RX6) (T := TX6) (N := 27) hx hb hg inX6 hown hK (hT.o20 (hT.k t_this (by decide))).one 0 rfl rfl 1 (by decide) (hg _ k1220) (fun _ h9 => h9) rfl dX6_lifts_305 ?_
  rw [erW]
  refine lv_bipush (v := 53) hx hb dX6_lifts_308 (by decide) ?_
  refine lv_iload_n hx hb dX6_lifts_310 rfl (lv_at hl 5 rfl) ?_
  refine lv_iadd hx hb dX6_lifts_311 ?_
  first | refine g_add (by omega) (by omega) (fun t181 ht181 => ?_) | refine lv_topi (fun t181 ht181 => ?_)
  refine va_lald hx hb hK (hT.o21 (hT.k trW (by decide))).one 0 1 rfl rfl (g_in (by omega) (by omega)) dX6_lifts_312 ?_
  refine lv_topl (fun t182 ht182 => ?_)
  have xt182 : rwt (zJ s175 rW) (ix x10) = t182.toInt := by rw [ht182]; exact congrArg (fun q9 => (zJ s175 rW q9).toInt) (show 53 + ix x10 = ix t181 from by unfold ix; omega)
  have yt182 : t182.toInt = t155.toInt := by rw [← xt182]; show (zJ s175 rW (53 + ix x10)).toInt = _; rw [E176, E167, un (show 53 + ix x10 ≠ 53 + ix x19 from by omega), E157, uh]
  have hTo := hT
  refine tVl (n := 3) (As := [.int x1, .long t178, .long t182]) (rest := []) hx hb hml hown hg hT hK hX (X6_gets l κ s175 this x1 t178 t182  (hT.k t_this (by decide)) (by omega) (by omega) (by omega) (by omega) (by omega) (by omega) (by omega)) sub_fE_gW (mwV k1600 k1602 k75 k92 k1603) ⟨rfl, by decide, by decide, by decide +kernel⟩ ⟨(Nat.le_of_ble_eq_true rfl), (Nat.le_of_ble_eq_true rfl)⟩ (hT.o20 (hT.k t_this (by decide))) rfl rfl hl.1 rfl (Nat.le_of_ble_eq_true rfl) dX6_lifts_313 zroom.rf (fun x183 s184 H locs hφ hEs184 hT => ?_)
  have E185 : zJ s184 rW = zJ s175 rW := funext fun k => (hTo.k trW (by decide)).eJ hEs184 (by decide) rfl
  refine lv_lstore (lv' := [(12, .long x183), (10, .long x174), (8, .long x38), (6, .long x30), (5, .int t29), (4, .int x19), (3, .int x10), (2, .int x1), (0, .ref this), (1, .int i)]) hx hb dX6_lifts_316 hl (by decide) rfl (fun ls hl => ?_)
  refine lv_aload_n hx hb dX6_lifts_318 rfl (lv_at hl 8 rfl) ?_
  refine va_get (D := κ.1) (ci := 6) (v := .ref (kR κ this 1)) (C := RX6) (T := TX6) (N := 27) hx hb hg inX6 hown hK (hT.o20 (hT.k t_this (by decide))).one 0 rfl rfl 1 (by decide) (hg _ k1220) (fun _ h9 => h9) rfl dX6_lifts_319 ?_
  rw [erW]
  refine lv_iconst (v := 5) hx hb dX6_lifts_322 (by decide) ?_
  refine lv_iload_n hx hb dX6_lifts_323 rfl (lv_at hl 6 rfl) ?_
  refine lv_iadd hx hb dX6_lifts_324 ?_
  first | refine g_add (by omega) (by omega) (fun t186 ht186 => ?_) | refine lv_topi (fun t186 ht186 => ?_)
  refine lv_dup2_11 hx hb dX6_lifts_325 rfl rfl ?_
  refine va_lald hx hb hK (hT.o21 (hT.k trW (by decide))).one 0 1 rfl rfl (g_in (by omega) (by omega)) dX6_lifts_326 ?_
  refine lv_topl (fun t187 ht187 => ?_)
  have K188 : zI s184 this 7 = zI σ0 this 7 := hT.eI t_this (by decide) rfl rfl
  have K188n : (zI s184 this 7).toInt = (zI σ0 this 7).toInt := by rw [K188]
  have P189 : zI s184 rP = zI σ0 rP := funext fun k => hT.eI trP (by decide) rfl rfl
  refine lv_lload hx hb dX6_lifts_327 (lv_at hl 1 rfl) ?_
  refine lv_ladd hx hb dX6_lifts_329 ?_
  refine lv_topl (fun t190 ht190 => ?_)
  have hTo := hT
  refine tastl (n := 609) hx hb hK hT (hT.k trW (by decide)) ⟨by decide, by decide⟩ (fun _ _ _ => rfl) (fun _ _ => trivial) (fun _ => rfl) (by omega) (by omega) dX6_lifts_330 (fun H locs s191 hus191 hT => ?_)
  have E192 : zJ s191 rW = vp_updL (zJ s184 rW) (5 + ix x10) t190 := by rw [zpul_Ja hus191]; exact congrArg (fun q9 => vp_updL (zJ s184 rW) q9 t190) (show ix t186 = 5 + ix x10 from by unfold ix; omega)
  refine lv_aload_n hx hb dX6_lifts_331 rfl (lv_at hl 8 rfl) ?_
  refine va_get (D := κ.1) (ci := 6) (v := .ref (kR κ this 1)) (C := RX6) (T := TX6) (N := 27) hx hb hg inX6 hown hK (hT.o20 (hT.k t_this (by decide))).one 0 rfl rfl 1 (by decide) (hg _ k1220) (fun _ h9 => h9) rfl dX6_lifts_332 ?_
  rw [erW]
  refine lv_iconst (v := 5) hx hb dX6_lifts_335 (by decide) ?_
  refine lv_iload hx hb dX6_lifts_336 (lv_at hl 5 rfl) ?_
  refine lv_iadd hx hb dX6_lifts_338 ?_
  first | refine g_add (by omega) (by omega) (fun t193 ht193 => ?_) | refine lv_topi (fun t193 ht193 => ?_)
  refine lv_dup2_11 hx hb dX6_lifts_339 rfl rfl ?_
  refine va_lald hx hb hK (hT.o21 (hT.k trW (by decide))).one 0 1 rfl rfl (g_in (by omega) (by omega)) dX6_lifts_340 ?_
  refine lv_topl (fun t194 ht194 => ?_)
  have K195 : zI s191 this 7 = zI σ0 this 7 := hT.eI t_this (by decide) rfl rfl
  have K195n : (zI s191 this 7).toInt = (zI σ0 this 7).toInt := by rw [K195]
  have P196 : zI s191 rP = zI σ0 rP := funext fun k => hT.eI trP (by decide) rfl rfl
  refine lv_lload hx hb dX6_lifts_341 (lv_at hl 0 rfl) ?_
  refine lv_ladd hx hb dX6_lifts_343 ?_
  refine lv_topl (fun t197 ht197 => ?_)
  have hTo := hT
  refine tastl (n := 609) hx hb hK hT (hT.k trW (by decide)) ⟨by decide, by decide⟩ (fun _ _ _ => rfl) (fun _ _ => trivial) (fun _ => rfl) (by omega) (by omega) dX6_lifts_344 (fun H locs s198 hus198 hT => ?_)
  have E199 : zJ s198 rW = vp_updL (zJ s191 rW) (5 + ix x19) t197 := by rw [zpul_Ja hus198]; exact congrArg (fun q9 => vp_updL (zJ s191 rW) q9 t197) (show ix t193 = 5 + ix x19 from by unfold ix; omega)
  refine lv_aload_n hx hb dX6_lifts_345 rfl (lv_at hl 8 rfl) ?_
  refine va_get (D := κ.1) (ci := 6) (v := .ref (kR κ this 1)) (C := RX6) (T := TX6) (N := 27) hx hb hg inX6 hown hK (hT.o20 (hT.k t_this (by decide))).one 0 rfl rfl 1 (by decide) (hg _ k1220) (fun _ h9 => h9) rfl dX6_lifts_346 ?_
  rw [erW]
  refine lv_iconst (v := 3) hx hb dX6_lifts_349 (by decide) ?_
  refine lv_dup2_11 hx hb dX6_lifts_350 rfl rfl ?_
  refine va_lald hx hb hK (hT.o21 (hT.k trW (by decide))).one 0 1 rfl rfl (g_in (by omega) (by omega)) dX6_lifts_351 ?_
  refine lv_topl (fun t200 ht200 => ?_)
  have K201 : zI s198 this 7 = zI σ0 this 7 := hT.eI t_this (by decide) rfl rfl
  have K201n : (zI s198 this 7).toInt = (zI σ0 this 7).toInt := by rw [K201]
  have P202 : zI s198 rP = zI σ0 rP := funext fun k => hT.eI trP (by decide) rfl rfl
  have xt200 : (zJ s198 rW 3).toInt = t200.toInt := by rw [ht200]; exact congrArg (fun q9 => (zJ s198 rW q9).toInt) (show 3 = ix 3 from by decide)
  have yt200 : t200.toInt = t148.toInt := by rw [← xt200]; show (zJ s198 rW (3)).toInt = _; rw [E199, un (show 3 ≠ 5 + ix x19 from by omega), E192, un (show 3 ≠ 5 + ix x10 from by omega), E185, E176, E167, un (show 3 ≠ 53 + ix x19 from by omega), E157, un (show 3 ≠ 53 + ix x10 from by omega), E150, uh]
  refine lv_aload_n hx hb dX6_lifts_352 rfl (lv_at hl 8 rfl) ?_
  refine va_get (D := κ.1) (ci := 6) (v := .ref (kR κ this 1)) (C := RX6) (T := TX6) (N := 27) hx hb hg inX6 hown hK (hT.o20 (hT.k t_this (by decide))).one 0 rfl rfl 1 (by decide) (hg _ k1220) (fun _ h9 => h9) rfl dX6_lifts_353 ?_
  rw [erW]
  refine lv_bipush (v := 53) hx hb dX6_lifts_356 (by decide) ?_
  refine lv_iload_n hx hb dX6_lifts_358 rfl (lv_at hl 6 rfl) ?_
  refine lv_iadd hx hb dX6_lifts_359 ?_
  first | refine g_add (by omega) (by omega) (fun t203 ht203 => ?_) | refine lv_topi (fun t203 ht203 => ?_)
  refine va_lald hx hb hK (hT.o21 (hT.k trW (by decide))).one 0 1 rfl rfl (g_in (by omega) (by omega)) dX6_lifts_360 ?_
  refine lv_topl (fun t204 ht204 => ?_)
  refine lv_aload_n hx hb dX6_lifts_361 rfl (lv_at hl 8 rfl) ?_
  refine va_get (D := κ.1) (ci := 6) (v := .ref (kR κ this 1)) (C := RX6) (T := TX6) (N := 27) hx hb hg inX6 hown hK (hT.o20 (hT.k t_this (by decide))).one 0 rfl rfl 1 (by decide) (hg _ k1220) (fun _ h9 => h9) rfl dX6_lifts_362 ?_
  rw [erW]
  refine lv_iconst (v := 5) hx hb dX6_lifts_365 (by decide) ?_
  refine lv_iload_n hx hb dX6_lifts_366 rfl (lv_at hl 6 rfl) ?_
  refine lv_iadd hx hb dX6_lifts_367 ?_
  first | refine g_add (by omega) (by omega) (fun t205 ht205 => ?_) | refine lv_topi (fun t205 ht205 => ?_)
  refine va_lald hx hb hK (hT.o21 (hT.k trW (by decide))).one 0 1 rfl rfl (g_in (by omega) (by omega)) dX6_lifts_368 ?_
  refine lv_topl (fun t206 ht206 => ?_)
  refine lv_lmul hx hb dX6_lifts_369 ?_
  refine lv_topl (fun t207 ht207 => ?_)
  refine lv_aload_n hx hb dX6_lifts_370 rfl (lv_at hl 8 rfl) ?_
  refine va_get (D := κ.1) (ci := 6) (v := .ref (kR κ this 1)) (C := RX6) (T := TX6) (N := 27) hx hb hg inX6 hown hK (hT.o20 (hT.k t_this (by decide))).one 0 rfl rfl 1 (by decide) (hg _ k1220) (fun _ h9 => h9) rfl dX6_lifts_371 ?_
  rw [erW]
  refine lv_bipush (v := 53) hx hb dX6_lifts_374 (by decide) ?_
  refine lv_iload hx hb dX6_lifts_376 (lv_at hl 5 rfl) ?_
  refine lv_iadd hx hb dX6_lifts_378 ?_
  first | refine g_add (by omega) (by omega) (fun t208 ht208 => ?_) | refine lv_topi (fun t208 ht208 => ?_)
  refine va_lald hx hb hK (hT.o21 (hT.k trW (by decide))).one 0 1 rfl rfl (g_in (by omega) (by omega)) dX6_lifts_379 ?_
  refine lv_topl (fun t209 ht209 => ?_)
  refine lv_aload_n hx hb dX6_lifts_380 rfl (lv_at hl 8 rfl) ?_
  refine va_get (D := κ.1) (ci := 6) (v := .ref (kR κ this 1)) (C := RX6) (T := TX6) (N := 27) hx hb hg inX6 hown hK (hT.o20 (hT.k t_this (by decide))).one 0 rfl rfl 1 (by decide) (hg _ k1220) (fun _ h9 => h9) rfl dX6_lifts_381 ?_
  rw [erW]
  refine lv_iconst (v := 5) hx hb dX6_lifts_384 (by decide) ?_
  refine lv_iload hx hb dX6_lifts_385 (lv_at hl 5 rfl) ?_
  refine lv_iadd hx hb dX6_lifts_387 ?_
  first | refine g_add (by omega) (by omega) (fun t210 ht210 => ?_) | refine lv_topi (fun t210 ht210 => ?_)
  refine va_lald hx hb hK (hT.o21 (hT.k trW (by decide))).one 0 1 rfl rfl (g_in (by omega) (by omega)) dX6_lifts_388 ?_
  refine lv_topl (fun t211 ht211 => ?_)
  refine lv_lmul hx hb dX6_lifts_389 ?_
  refine lv_topl (fun t212 ht212 => ?_)
  refine lv_ladd hx hb dX6_lifts_390 ?_
  refine lv_topl (fun t213 ht213 => ?_)
  refine lv_lsub hx hb dX6_lifts_391 ?_
  refine lv_topl (fun t214 ht214 => ?_)
  have hTo := hT
  refine tastl (n := 609) hx hb hK hT (hT.k trW (by decide)) ⟨by decide, by decide⟩ (fun _ _ _ => rfl) (fun _ _ => trivial) (fun _ => rfl) (by omega) (by omega) dX6_lifts_392 (fun H locs s215 hus215 hT => ?_)
  have E216 : zJ s215 rW = vp_updL (zJ s198 rW) (3) t214 := by rw [zpul_Ja hus215]; exact congrArg (fun q9 => vp_updL (zJ s198 rW) q9 t214) (show ix 3 = 3 from by decide)
  refine lv_aload_n hx hb dX6_lifts_393 rfl (lv_at hl 8 rfl) ?_
  refine va_get (D := κ.1) (ci := 6) (v := .ref (kR κ this 1)) (C := RX6) (T := TX6) (N := 27) hx hb hg inX6 hown hK (hT.o20 (hT.k t_this (by decide))).one 0 rfl rfl 1 (by decide) (hg _ k1220) (fun _ h9 => h9) rfl dX6_lifts_394 ?_
  rw [erW]
  refine lv_bipush (v := 101) hx hb dX6_lifts_397 (by decide) ?_
  refine lv_iload_n hx hb dX6_lifts_399 rfl (lv_at hl 9 rfl) ?_
  refine lv_iadd hx hb dX6_lifts_400 ?_
  first | refine g_add (by omega) (by omega) (fun t217 ht217 => ?_) | refine lv_topi (fun t217 ht217 => ?_)
  refine lv_iload_n hx hb dX6_lifts_401 rfl (lv_at hl 7 rfl) ?_
  refine lv_i2l hx hb dX6_lifts_402 rfl ?_
  refine g_i2l (fun t218 ht218 => ?_)
  have hTo := hT
  refine tastl (n := 609) hx hb hK hT (hT.k trW (by decide)) ⟨by decide, by decide⟩ (fun _ _ _ => rfl) (fun _ _ => trivial) (fun _ => rfl) (by omega) (by omega) dX6_lifts_403 (fun H locs s219 hus219 hT => ?_)
  have E220 : zJ s219 rW = vp_updL (zJ s215 rW) (101 + ix i) t218 := by rw [zpul_Ja hus219]; exact congrArg (fun q9 => vp_updL (zJ s215 rW) q9 t218) (show ix t217 = 101 + ix i from by unfold ix; omega)
  refine lv_aload_n hx hb dX6_lifts_404 rfl (lv_at hl 8 rfl) ?_
  refine va_get (D := κ.1) (ci := 6) (v := .ref (kR κ this 1)) (C := RX6) (T := TX6) (N := 27) hx hb hg inX6 hown hK (hT.o20 (hT.k t_this (by decide))).one 0 rfl rfl 1 (by decide) (hg _ k1220) (fun _ h9 => h9) rfl dX6_lifts_405 ?_
  rw [erW]
  refine lv_iconst (v := 4) hx hb dX6_lifts_408 (by decide) ?_
  refine lv_dup2_11 hx hb dX6_lifts_409 rfl rfl ?_
  refine va_lald hx hb hK (hT.o21 (hT.k trW (by decide))).one 0 1 rfl rfl (g_in (by omega) (by omega)) dX6_lifts_410 ?_
  refine lv_topl (fun t221 ht221 => ?_)
  have K222 : zI s219 this 7 = zI σ0 this 7 := hT.eI t_this (by decide) rfl rfl
  have K222n : (zI s219 this 7).toInt = (zI σ0 this 7).toInt := by rw [K222]
  have P223 : zI s219 rP = zI σ0 rP := funext fun k => hT.eI trP (by decide) rfl rfl
  have xt221 : ((zJ s219 rW) 4).toInt = t221.toInt := by rw [ht221]; exact congrArg (fun q9 => (zJ s219 rW q9).toInt) (show 4 = ix 4 from by decide)
  have yt221 : t221.toInt = ((zJ σ0 rW) 4).toInt := by rw [← xt221]; show (zJ s219 rW (4)).toInt = _; rw [E220, un (show 4 ≠ 101 + ix i from by omega), E216, un (show 4 ≠ 3 from by omega), E199, un (show 4 ≠ 5 + ix x19 from by omega), E192, un (show 4 ≠ 5 + ix x10 from by omega), E185, E176, E167, un (show 4 ≠ 53 + ix x19 from by omega), E157, un (show 4 ≠ 53 + ix x10 from by omega), E150, un (show 4 ≠ 3 from by omega), E129, un (show 4 ≠ 149 + 10 * ix x1 + 9 from by omega), E121, un (show 4 ≠ 149 + 10 * ix x1 + 8 from by omega), E113, un (show 4 ≠ 149 + 10 * ix x1 + 7 from by omega), E104, un (show 4 ≠ 149 + 10 * ix x1 + 6 from by omega), E95, un (show 4 ≠ 149 + 10 * ix x1 + 5 from by omega), E88, un (show 4 ≠ 149 + 10 * ix x1 + 4 from by omega), E79, un (show 4 ≠ 149 + 10 * ix x1 + 3 from by omega), E72, un (show 4 ≠ 149 + 10 * ix x1 + 2 from by omega), E64, un (show 4 ≠ 149 + 10 * ix x1 + 1 from by omega), E56, un (show 4 ≠ 149 + 10 * ix x1 + 0 from by omega), E40, E32, E21, E12, E3]; try rfl
  refine lv_lconst (v := 1) hx hb dX6_lifts_411 (by decide) ?_
  refine lv_ladd hx hb dX6_lifts_412 ?_
  refine g_addl (by omega) (by omega) (fun t224 ht224 => ?_)
  have hTo := hT
  refine tastl (n := 609) hx hb hK hT (hT.k trW (by decide)) ⟨by decide, by decide⟩ (fun _ _ _ => rfl) (fun _ _ => trivial) (fun _ => rfl) (by omega) (by omega) dX6_lifts_413 (fun H locs s225 hus225 hT => ?_)
  have E226 : zJ s225 rW = vp_updL (zJ s219 rW) (4) t224 := by rw [zpul_Ja hus225]; exact congrArg (fun q9 => vp_updL (zJ s219 rW) q9 t224) (show ix 4 = 4 from by decide)
  have H4 : ((zJ s225 rW) 4).toInt = ix x1 + 1 := by rw [E226, uh]; omega
  have HL : ∀ j, j < rN σ0 this → rlf (zJ s225 rW) j = updi (rlf (zJ σ0 rW)) (ix i) (ix x1) j := fun j hj => by
    show ((zJ s225 rW) (101 + j)).toInt = _
    by_cases z : j = ix i
    · rw [z, updi_at, E226, un (show 101 + ix i ≠ 4 from by omega), E220, uh]; omega
    · rw [updi_o z, E226, un (show 101 + j ≠ 4 from by omega), E220, un (show 101 + j ≠ 101 + ix i from by omega), E216, un (show 101 + j ≠ 3 from by omega), E199, un (show 101 + j ≠ 5 + ix x19 from by omega), E192, un (show 101 + j ≠ 5 + ix x10 from by omega), E185, E176, E167, un (show 101 + j ≠ 53 + ix x19 from by omega), E157, un (show 101 + j ≠ 53 + ix x10 from by omega), E150, un (show 101 + j ≠ 3 from by omega), E129, un (show 101 + j ≠ 149 + 10 * ix x1 + 9 from by omega), E121, un (show 101 + j ≠ 149 + 10 * ix x1 + 8 from by omega), E113, un (show 101 + j ≠ 149 + 10 * ix x1 + 7 from by omega), E104, un (show 101 + j ≠ 149 + 10 * ix x1 + 6 from by omega), E95, un (show 101 + j ≠ 149 + 10 * ix x1 + 5 from by omega), E88, un (show 101 + j ≠ 149 + 10 * ix x1 + 4 from by omega), E79, un (show 101 + j ≠ 149 + 10 * ix x1 + 3 from by omega), E72, un (show 101 + j ≠ 149 + 10 * ix x1 + 2 from by omega), E64, un (show 101 + j ≠ 149 + 10 * ix x1 + 1 from by omega), E56, un (show 101 + j ≠ 149 + 10 * ix x1 + 0 from by omega), E40, E32, E21, E12, E3]; rfl
  have HW : ∀ j, j < rN σ0 this → rwt (zJ s225 rW) j = updi (updi (rwt (zJ σ0 rW)) (ix x10) (rwt (zJ σ0 rW) (ix x10) + x38.toInt)) (ix x19) (rwt (zJ σ0 rW) (ix x19) + rwt (zJ σ0 rW) (ix i) - x38.toInt) j := fun j hj => by
    show ((zJ s225 rW) (53 + j)).toInt = _
    by_cases z : j = ix x19
    · rw [z, updi_at, E226, un (show 53 + ix x19 ≠ 4 from by omega), E220, un (show 53 + ix x19 ≠ 101 + ix i from by omega), E216, un (show 53 + ix x19 ≠ 3 from by omega), E199, un (show 53 + ix x19 ≠ 5 + ix x19 from by omega), E192, un (show 53 + ix x19 ≠ 5 + ix x10 from by omega), E185, E176, E167, uh]; omega
    · by_cases z1 : j = ix x10
      · rw [updi_o z, z1, updi_at, E226, un (show 53 + ix x10 ≠ 4 from by omega), E220, un (show 53 + ix x10 ≠ 101 + ix i from by omega), E216, un (show 53 + ix x10 ≠ 3 from by omega), E199, un (show 53 + ix x10 ≠ 5 + ix x19 from by omega), E192, un (show 53 + ix x10 ≠ 5 + ix x10 from by omega), E185, E176, E167, un (show 53 + ix x10 ≠ 53 + ix x19 from by omega), E157, uh]; omega
      · rw [updi_o z, updi_o z1, E226, un (show 53 + j ≠ 4 from by omega), E220, un (show 53 + j ≠ 101 + ix i from by omega), E216, un (show 53 + j ≠ 3 from by omega), E199, un (show 53 + j ≠ 5 + ix x19 from by omega), E192, un (show 53 + j ≠ 5 + ix x10 from by omega), E185, E176, E167, un (show 53 + j ≠ 53 + ix x19 from by omega), E157, un (show 53 + j ≠ 53 + ix x10 from by omega), E150, un (show 53 + j ≠ 3 from by omega), E129, un (show 53 + j ≠ 149 + 10 * ix x1 + 9 from by omega), E121, un (show 53 + j ≠ 149 + 10 * ix x1 + 8 from by omega), E113, un (show 53 + j ≠ 149 + 10 * ix x1 + 7 from by omega), E104, un (show 53 + j ≠ 149 + 10 * ix x1 + 6 from by omega), E95, un (show 53 + j ≠ 149 + 10 * ix x1 + 5 from by omega), E88, un (show 53 + j ≠ 149 + 10 * ix x1 + 4 from by omega), E79, un (show 53 + j ≠ 149 + 10 * ix x1 + 3 from by omega), E72, un (show 53 + j ≠ 149 + 10 * ix x1 + 2 from by omega), E64, un (show 53 + j ≠ 149 + 10 * ix x1 + 1 from by omega), E56, un (show 53 + j ≠ 149 + 10 * ix x1 + 0 from by omega), E40, E32, E21, E12, E3]; rfl
  have HR : ∀ a b, a < ix x1 → isj b → rst (zJ s225 rW) a b = rst (zJ σ0 rW) a b := fun a b ha hb => by
    have hb7 : b ≤ 7 := by unfold isj at hb; omega
    show ((zJ s225 rW) (149 + 10 * a + b)).toInt = _
    rw [E226, un (show 149 + 10 * a + b ≠ 4 from by omega), E220, un (show 149 + 10 * a + b ≠ 101 + ix i from by omega), E216, un (show 149 + 10 * a + b ≠ 3 from by omega), E199, un (show 149 + 10 * a + b ≠ 5 + ix x19 from by omega), E192, un (show 149 + 10 * a + b ≠ 5 + ix x10 from by omega), E185, E176, E167, un (show 149 + 10 * a + b ≠ 53 + ix x19 from by omega), E157, un (show 149 + 10 * a + b ≠ 53 + ix x10 from by omega), E150, un (show 149 + 10 * a + b ≠ 3 from by omega), E129, un (show 149 + 10 * a + b ≠ 149 + 10 * ix x1 + 9 from by omega), E121, un (show 149 + 10 * a + b ≠ 149 + 10 * ix x1 + 8 from by omega), E113, un (show 149 + 10 * a + b ≠ 149 + 10 * ix x1 + 7 from by omega), E104, un (show 149 + 10 * a + b ≠ 149 + 10 * ix x1 + 6 from by omega), E95, un (show 149 + 10 * a + b ≠ 149 + 10 * ix x1 + 5 from by omega), E88, un (show 149 + 10 * a + b ≠ 149 + 10 * ix x1 + 4 from by omega), E79, un (show 149 + 10 * a + b ≠ 149 + 10 * ix x1 + 3 from by omega), E72, un (show 149 + 10 * a + b ≠ 149 + 10 * ix x1 + 2 from by omega), E64, un (show 149 + 10 * a + b ≠ 149 + 10 * ix x1 + 1 from by omega), E56, un (show 149 + 10 * a + b ≠ 149 + 10 * ix x1 + 0 from by omega), E40, E32, E21, E12, E3]; rfl
  have HC0 : rst (zJ s225 rW) (ix x1) 0 = ix i := by show ((zJ s225 rW) (149 + 10 * ix x1 + 0)).toInt = _; rw [E226, un (show 149 + 10 * ix x1 + 0 ≠ 4 from by omega), E220, un (show 149 + 10 * ix x1 + 0 ≠ 101 + ix i from by omega), E216, un (show 149 + 10 * ix x1 + 0 ≠ 3 from by omega), E199, un (show 149 + 10 * ix x1 + 0 ≠ 5 + ix x19 from by omega), E192, un (show 149 + 10 * ix x1 + 0 ≠ 5 + ix x10 from by omega), E185, E176, E167, un (show 149 + 10 * ix x1 + 0 ≠ 53 + ix x19 from by omega), E157, un (show 149 + 10 * ix x1 + 0 ≠ 53 + ix x10 from by omega), E150, un (show 149 + 10 * ix x1 + 0 ≠ 3 from by omega), E129, un (show 149 + 10 * ix x1 + 0 ≠ 149 + 10 * ix x1 + 9 from by omega), E121, un (show 149 + 10 * ix x1 + 0 ≠ 149 + 10 * ix x1 + 8 from by omega), E113, un (show 149 + 10 * ix x1 + 0 ≠ 149 + 10 * ix x1 + 7 from by omega), E104, un (show 149 + 10 * ix x1 + 0 ≠ 149 + 10 * ix x1 + 6 from by omega), E95, un (show 149 + 10 * ix x1 + 0 ≠ 149 + 10 * ix x1 + 5 from by omega), E88, un (show 149 + 10 * ix x1 + 0 ≠ 149 + 10 * ix x1 + 4 from by omega), E79, un (show 149 + 10 * ix x1 + 0 ≠ 149 + 10 * ix x1 + 3 from by omega), E72, un (show 149 + 10 * ix x1 + 0 ≠ 149 + 10 * ix x1 + 2 from by omega), E64, un (show 149 + 10 * ix x1 + 0 ≠ 149 + 10 * ix x1 + 1 from by omega), E56, uh]; omega
  have HC1 : rst (zJ s225 rW) (ix x1) 1 = ix x10 := by show ((zJ s225 rW) (149 + 10 * ix x1 + 1)).toInt = _; rw [E226, un (show 149 + 10 * ix x1 + 1 ≠ 4 from by omega), E220, un (show 149 + 10 * ix x1 + 1 ≠ 101 + ix i from by omega), E216, un (show 149 + 10 * ix x1 + 1 ≠ 3 from by omega), E199, un (show 149 + 10 * ix x1 + 1 ≠ 5 + ix x19 from by omega), E192, un (show 149 + 10 * ix x1 + 1 ≠ 5 + ix x10 from by omega), E185, E176, E167, un (show 149 + 10 * ix x1 + 1 ≠ 53 + ix x19 from by omega), E157, un (show 149 + 10 * ix x1 + 1 ≠ 53 + ix x10 from by omega), E150, un (show 149 + 10 * ix x1 + 1 ≠ 3 from by omega), E129, un (show 149 + 10 * ix x1 + 1 ≠ 149 + 10 * ix x1 + 9 from by omega), E121, un (show 149 + 10 * ix x1 + 1 ≠ 149 + 10 * ix x1 + 8 from by omega), E113, un (show 149 + 10 * ix x1 + 1 ≠ 149 + 10 * ix x1 + 7 from by omega), E104, un (show 149 + 10 * ix x1 + 1 ≠ 149 + 10 * ix x1 + 6 from by omega), E95, un (show 149 + 10 * ix x1 + 1 ≠ 149 + 10 * ix x1 + 5 from by omega), E88, un (show 149 + 10 * ix x1 + 1 ≠ 149 + 10 * ix x1 + 4 from by omega), E79, un (show 149 + 10 * ix x1 + 1 ≠ 149 + 10 * ix x1 + 3 from by omega), E72, un (show 149 + 10 * ix x1 + 1 ≠ 149 + 10 * ix x1 + 2 from by omega), E64, uh]; omega
  have HC2 : rst (zJ s225 rW) (ix x1) 2 = ix x19 := by show ((zJ s225 rW) (149 + 10 * ix x1 + 2)).toInt = _; rw [E226, un (show 149 + 10 * ix x1 + 2 ≠ 4 from by omega), E220, un (show 149 + 10 * ix x1 + 2 ≠ 101 + ix i from by omega), E216, un (show 149 + 10 * ix x1 + 2 ≠ 3 from by omega), E199, un (show 149 + 10 * ix x1 + 2 ≠ 5 + ix x19 from by omega), E192, un (show 149 + 10 * ix x1 + 2 ≠ 5 + ix x10 from by omega), E185, E176, E167, un (show 149 + 10 * ix x1 + 2 ≠ 53 + ix x19 from by omega), E157, un (show 149 + 10 * ix x1 + 2 ≠ 53 + ix x10 from by omega), E150, un (show 149 + 10 * ix x1 + 2 ≠ 3 from by omega), E129, un (show 149 + 10 * ix x1 + 2 ≠ 149 + 10 * ix x1 + 9 from by omega), E121, un (show 149 + 10 * ix x1 + 2 ≠ 149 + 10 * ix x1 + 8 from by omega), E113, un (show 149 + 10 * ix x1 + 2 ≠ 149 + 10 * ix x1 + 7 from by omega), E104, un (show 149 + 10 * ix x1 + 2 ≠ 149 + 10 * ix x1 + 6 from by omega), E95, un (show 149 + 10 * ix x1 + 2 ≠ 149 + 10 * ix x1 + 5 from by omega), E88, un (show 149 + 10 * ix x1 + 2 ≠ 149 + 10 * ix x1 + 4 from by omega), E79, un (show 149 + 10 * ix x1 + 2 ≠ 149 + 10 * ix x1 + 3 from by omega), E72, uh]; omega
  have HC4 : rst (zJ s225 rW) (ix x1) 4 = rwt (zJ σ0 rW) (ix i) := by show ((zJ s225 rW) (149 + 10 * ix x1 + 4)).toInt = _; rw [E226, un (show 149 + 10 * ix x1 + 4 ≠ 4 from by omega), E220, un (show 149 + 10 * ix x1 + 4 ≠ 101 + ix i from by omega), E216, un (show 149 + 10 * ix x1 + 4 ≠ 3 from by omega), E199, un (show 149 + 10 * ix x1 + 4 ≠ 5 + ix x19 from by omega), E192, un (show 149 + 10 * ix x1 + 4 ≠ 5 + ix x10 from by omega), E185, E176, E167, un (show 149 + 10 * ix x1 + 4 ≠ 53 + ix x19 from by omega), E157, un (show 149 + 10 * ix x1 + 4 ≠ 53 + ix x10 from by omega), E150, un (show 149 + 10 * ix x1 + 4 ≠ 3 from by omega), E129, un (show 149 + 10 * ix x1 + 4 ≠ 149 + 10 * ix x1 + 9 from by omega), E121, un (show 149 + 10 * ix x1 + 4 ≠ 149 + 10 * ix x1 + 8 from by omega), E113, un (show 149 + 10 * ix x1 + 4 ≠ 149 + 10 * ix x1 + 7 from by omega), E104, un (show 149 + 10 * ix x1 + 4 ≠ 149 + 10 * ix x1 + 6 from by omega), E95, un (show 149 + 10 * ix x1 + 4 ≠ 149 + 10 * ix x1 + 5 from by omega), E88, uh]; omega
  have HC5 : rst (zJ s225 rW) (ix x1) 5 = x38.toInt := by show ((zJ s225 rW) (149 + 10 * ix x1 + 5)).toInt = _; rw [E226, un (show 149 + 10 * ix x1 + 5 ≠ 4 from by omega), E220, un (show 149 + 10 * ix x1 + 5 ≠ 101 + ix i from by omega), E216, un (show 149 + 10 * ix x1 + 5 ≠ 3 from by omega), E199, un (show 149 + 10 * ix x1 + 5 ≠ 5 + ix x19 from by omega), E192, un (show 149 + 10 * ix x1 + 5 ≠ 5 + ix x10 from by omega), E185, E176, E167, un (show 149 + 10 * ix x1 + 5 ≠ 53 + ix x19 from by omega), E157, un (show 149 + 10 * ix x1 + 5 ≠ 53 + ix x10 from by omega), E150, un (show 149 + 10 * ix x1 + 5 ≠ 3 from by omega), E129, un (show 149 + 10 * ix x1 + 5 ≠ 149 + 10 * ix x1 + 9 from by omega), E121, un (show 149 + 10 * ix x1 + 5 ≠ 149 + 10 * ix x1 + 8 from by omega), E113, un (show 149 + 10 * ix x1 + 5 ≠ 149 + 10 * ix x1 + 7 from by omega), E104, un (show 149 + 10 * ix x1 + 5 ≠ 149 + 10 * ix x1 + 6 from by omega), E95, uh]; omega
  have HC6 : rst (zJ s225 rW) (ix x1) 6 = rwt (zJ σ0 rW) (ix x10) := by show ((zJ s225 rW) (149 + 10 * ix x1 + 6)).toInt = _; rw [E226, un (show 149 + 10 * ix x1 + 6 ≠ 4 from by omega), E220, un (show 149 + 10 * ix x1 + 6 ≠ 101 + ix i from by omega), E216, un (show 149 + 10 * ix x1 + 6 ≠ 3 from by omega), E199, un (show 149 + 10 * ix x1 + 6 ≠ 5 + ix x19 from by omega), E192, un (show 149 + 10 * ix x1 + 6 ≠ 5 + ix x10 from by omega), E185, E176, E167, un (show 149 + 10 * ix x1 + 6 ≠ 53 + ix x19 from by omega), E157, un (show 149 + 10 * ix x1 + 6 ≠ 53 + ix x10 from by omega), E150, un (show 149 + 10 * ix x1 + 6 ≠ 3 from by omega), E129, un (show 149 + 10 * ix x1 + 6 ≠ 149 + 10 * ix x1 + 9 from by omega), E121, un (show 149 + 10 * ix x1 + 6 ≠ 149 + 10 * ix x1 + 8 from by omega), E113, un (show 149 + 10 * ix x1 + 6 ≠ 149 + 10 * ix x1 + 7 from by omega), E104, uh]; omega
  have HC7 : rst (zJ s225 rW) (ix x1) 7 = rwt (zJ σ0 rW) (ix x19) := by show ((zJ s225 rW) (149 + 10 * ix x1 + 7)).toInt = _; rw [E226, un (show 149 + 10 * ix x1 + 7 ≠ 4 from by omega), E220, un (show 149 + 10 * ix x1 + 7 ≠ 101 + ix i from by omega), E216, un (show 149 + 10 * ix x1 + 7 ≠ 3 from by omega), E199, un (show 149 + 10 * ix x1 + 7 ≠ 5 + ix x19 from by omega), E192, un (show 149 + 10 * ix x1 + 7 ≠ 5 + ix x10 from by omega), E185, E176, E167, un (show 149 + 10 * ix x1 + 7 ≠ 53 + ix x19 from by omega), E157, un (show 149 + 10 * ix x1 + 7 ≠ 53 + ix x10 from by omega), E150, un (show 149 + 10 * ix x1 + 7 ≠ 3 from by omega), E129, un (show 149 + 10 * ix x1 + 7 ≠ 149 + 10 * ix x1 + 9 from by omega), E121, un (show 149 + 10 * ix x1 + 7 ≠ 149 + 10 * ix x1 + 8 from by omega), E113, uh]; omega
  have WL : WI (rN σ0 this) (zJ s225 rW) := hW.lift (k := ix i) (p := ix x10) (q := ix x19) (n := ix x1) (s := x38.toInt) (by omega) ⟨by omega, by omega, by omega⟩ (by omega) gp gq ⟨by omega, by omega⟩ H4 HL HW HR ⟨HC0, HC1, HC2, HC4, HC5, HC6, HC7⟩
  have RL : RI κ s225 this := h0.extw hT.2.2.1 ⟨rfl, rfl, fun _ => rfl, fun _ => rfl, fun _ => rfl⟩ (by rw [erW]; exact WL)
  subst hQ9
  exact t_v hx hb hr hlocks hT ⟨RL, by rw [erW, erW, H4]; omega⟩ dX6_lifts_414
