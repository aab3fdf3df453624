/-! The reference over any state: lifts -/
theorem k73 : Cond.selects RX6 yX6_shareOf yX6_shareOf ∈ GW := gm 73 (by decide +kernel) (by decide +kernel)
theorem k75 : Cond.selects RX6 yX6_gets yX6_gets ∈ GW := gm 75 (by decide +kernel) (by decide +kernel)
theorem k1596 : Cond.methodLink RX6 266 yX6_shareOf ∈ GW := gm 1596 (by decide +kernel) (by decide +kernel)
theorem k1598 : Cond.instanceMethod yX6_shareOf ∈ GW := gm 1598 (by decide +kernel) (by decide +kernel)
theorem k1599 : Cond.code yX6_shareOf cX6_shareOf 7 (some .long) ∈ GW := gm 1599 (by decide +kernel) (by decide +kernel)
theorem k1604 : Cond.methodLink RX6 273 yX6_gets ∈ GW := gm 1604 (by decide +kernel) (by decide +kernel)
theorem k1606 : Cond.instanceMethod yX6_gets ∈ GW := gm 1606 (by decide +kernel) (by decide +kernel)
theorem k1607 : Cond.code yX6_gets cX6_gets 6 (some .long) ∈ GW := gm 1607 (by decide +kernel) (by decide +kernel)
theorem dX6_lifts_0 : decode cX6_lifts 0 = .ok (.aload_n 0, 1) := by decide +kernel
theorem dX6_lifts_1 : decode cX6_lifts 1 = .ok (.invokevirtual 199, 3) := by decide +kernel
theorem dX6_lifts_4 : decode cX6_lifts 4 = .ok (.istore_n 2, 1) := by decide +kernel
theorem dX6_lifts_5 : decode cX6_lifts 5 = .ok (.aload_n 0, 1) := by decide +kernel
theorem dX6_lifts_6 : decode cX6_lifts 6 = .ok (.iload_n 1, 1) := by decide +kernel
theorem dX6_lifts_7 : decode cX6_lifts 7 = .ok (.iconst (-1), 1) := by decide +kernel
theorem dX6_lifts_8 : decode cX6_lifts 8 = .ok (.invokevirtual 225, 3) := by decide +kernel
theorem dX6_lifts_11 : decode cX6_lifts 11 = .ok (.istore_n 3, 1) := by decide +kernel
theorem dX6_lifts_12 : decode cX6_lifts 12 = .ok (.aload_n 0, 1) := by decide +kernel
theorem dX6_lifts_13 : decode cX6_lifts 13 = .ok (.iload_n 1, 1) := by decide +kernel
theorem dX6_lifts_14 : decode cX6_lifts 14 = .ok (.iconst 1, 1) := by decide +kernel
theorem dX6_lifts_15 : decode cX6_lifts 15 = .ok (.invokevirtual 225, 3) := by decide +kernel
theorem dX6_lifts_18 : decode cX6_lifts 18 = .ok (.istore 4, 2) := by decide +kernel
theorem dX6_lifts_20 : decode cX6_lifts 20 = .ok (.aload_n 0, 1) := by decide +kernel
theorem dX6_lifts_21 : decode cX6_lifts 21 = .ok (.getfield 7, 3) := by decide +kernel
theorem dX6_lifts_24 : decode cX6_lifts 24 = .ok (.iconst 1, 1) := by decide +kernel
theorem dX6_lifts_25 : decode cX6_lifts 25 = .ok (.laload, 1) := by decide +kernel
theorem dX6_lifts_26 : decode cX6_lifts 26 = .ok (.l2i, 1) := by decide +kernel
theorem dX6_lifts_27 : decode cX6_lifts 27 = .ok (.istore 5, 2) := by decide +kernel
theorem dX6_lifts_29 : decode cX6_lifts 29 = .ok (.aload_n 0, 1) := by decide +kernel
theorem dX6_lifts_30 : decode cX6_lifts 30 = .ok (.iload_n 1, 1) := by decide +kernel
theorem dX6_lifts_31 : decode cX6_lifts 31 = .ok (.invokevirtual 262, 3) := by decide +kernel
theorem dX6_lifts_34 : decode cX6_lifts 34 = .ok (.lstore 6, 2) := by decide +kernel
theorem dX6_lifts_36 : decode cX6_lifts 36 = .ok (.aload_n 0, 1) := by decide +kernel
theorem dX6_lifts_37 : decode cX6_lifts 37 = .ok (.iload_n 1, 1) := by decide +kernel
theorem dX6_lifts_38 : decode cX6_lifts 38 = .ok (.iload_n 3, 1) := by decide +kernel
theorem dX6_lifts_39 : decode cX6_lifts 39 = .ok (.iload 4, 2) := by decide +kernel
theorem dX6_lifts_41 : decode cX6_lifts 41 = .ok (.iload 5, 2) := by decide +kernel
theorem dX6_lifts_43 : decode cX6_lifts 43 = .ok (.invokevirtual 266, 3) := by decide +kernel
theorem dX6_lifts_46 : decode cX6_lifts 46 = .ok (.lstore 8, 2) := by decide +kernel
theorem dX6_lifts_48 : decode cX6_lifts 48 = .ok (.aload_n 0, 1) := by decide +kernel
theorem dX6_lifts_49 : decode cX6_lifts 49 = .ok (.iload_n 2, 1) := by decide +kernel
theorem dX6_lifts_50 : decode cX6_lifts 50 = .ok (.iconst 0, 1) := by decide +kernel
theorem dX6_lifts_51 : decode cX6_lifts 51 = .ok (.iload_n 1, 1) := by decide +kernel
theorem dX6_lifts_52 : decode cX6_lifts 52 = .ok (.i2l, 1) := by decide +kernel
theorem dX6_lifts_53 : decode cX6_lifts 53 = .ok (.invokevirtual 269, 3) := by decide +kernel
theorem dX6_lifts_56 : decode cX6_lifts 56 = .ok (.aload_n 0, 1) := by decide +kernel
theorem dX6_lifts_57 : decode cX6_lifts 57 = .ok (.iload_n 2, 1) := by decide +kernel
theorem dX6_lifts_58 : decode cX6_lifts 58 = .ok (.iconst 1, 1) := by decide +kernel
theorem dX6_lifts_59 : decode cX6_lifts 59 = .ok (.iload_n 3, 1) := by decide +kernel
theorem dX6_lifts_60 : decode cX6_lifts 60 = .ok (.i2l, 1) := by decide +kernel
theorem dX6_lifts_61 : decode cX6_lifts 61 = .ok (.invokevirtual 269, 3) := by decide +kernel
theorem dX6_lifts_64 : decode cX6_lifts 64 = .ok (.aload_n 0, 1) := by decide +kernel
theorem dX6_lifts_65 : decode cX6_lifts 65 = .ok (.iload_n 2, 1) := by decide +kernel
theorem dX6_lifts_66 : decode cX6_lifts 66 = .ok (.iconst 2, 1) := by decide +kernel
theorem dX6_lifts_67 : decode cX6_lifts 67 = .ok (.iload 4, 2) := by decide +kernel
theorem dX6_lifts_69 : decode cX6_lifts 69 = .ok (.i2l, 1) := by decide +kernel
theorem dX6_lifts_70 : decode cX6_lifts 70 = .ok (.invokevirtual 269, 3) := by decide +kernel
theorem dX6_lifts_73 : decode cX6_lifts 73 = .ok (.aload_n 0, 1) := by decide +kernel
theorem dX6_lifts_74 : decode cX6_lifts 74 = .ok (.iload_n 2, 1) := by decide +kernel
theorem dX6_lifts_75 : decode cX6_lifts 75 = .ok (.iconst 3, 1) := by decide +kernel
theorem dX6_lifts_76 : decode cX6_lifts 76 = .ok (.lload 6, 2) := by decide +kernel
theorem dX6_lifts_78 : decode cX6_lifts 78 = .ok (.invokevirtual 269, 3) := by decide +kernel
theorem dX6_lifts_81 : decode cX6_lifts 81 = .ok (.aload_n 0, 1) := by decide +kernel
theorem dX6_lifts_82 : decode cX6_lifts 82 = .ok (.iload_n 2, 1) := by decide +kernel
theorem dX6_lifts_83 : decode cX6_lifts 83 = .ok (.iconst 4, 1) := by decide +kernel
theorem dX6_lifts_84 : decode cX6_lifts 84 = .ok (.aload_n 0, 1) := by decide +kernel
theorem dX6_lifts_85 : decode cX6_lifts 85 = .ok (.getfield 7, 3) := by decide +kernel
theorem dX6_lifts_88 : decode cX6_lifts 88 = .ok (.bipush 53, 2) := by decide +kernel
theorem dX6_lifts_90 : decode cX6_lifts 90 = .ok (.iload_n 1, 1) := by decide +kernel
theorem dX6_lifts_91 : decode cX6_lifts 91 = .ok (.iadd, 1) := by decide +kernel
theorem dX6_lifts_92 : decode cX6_lifts 92 = .ok (.laload, 1) := by decide +kernel
theorem dX6_lifts_93 : decode cX6_lifts 93 = .ok (.invokevirtual 269, 3) := by decide +kernel
theorem dX6_lifts_96 : decode cX6_lifts 96 = .ok (.aload_n 0, 1) := by decide +kernel
theorem dX6_lifts_97 : decode cX6_lifts 97 = .ok (.iload_n 2, 1) := by decide +kernel
theorem dX6_lifts_98 : decode cX6_lifts 98 = .ok (.iconst 5, 1) := by decide +kernel
theorem dX6_lifts_99 : decode cX6_lifts 99 = .ok (.lload 8, 2) := by decide +kernel
theorem dX6_lifts_101 : decode cX6_lifts 101 = .ok (.invokevirtual 269, 3) := by decide +kernel
theorem dX6_lifts_104 : decode cX6_lifts 104 = .ok (.aload_n 0, 1) := by decide +kernel
theorem dX6_lifts_105 : decode cX6_lifts 105 = .ok (.iload_n 2, 1) := by decide +kernel
theorem dX6_lifts_106 : decode cX6_lifts 106 = .ok (.bipush 6, 2) := by decide +kernel
theorem dX6_lifts_108 : decode cX6_lifts 108 = .ok (.aload_n 0, 1) := by decide +kernel
theorem dX6_lifts_109 : decode cX6_lifts 109 = .ok (.getfield 7, 3) := by decide +kernel
theorem dX6_lifts_112 : decode cX6_lifts 112 = .ok (.bipush 53, 2) := by decide +kernel
theorem dX6_lifts_114 : decode cX6_lifts 114 = .ok (.iload_n 3, 1) := by decide +kernel
theorem dX6_lifts_115 : decode cX6_lifts 115 = .ok (.iadd, 1) := by decide +kernel
theorem dX6_lifts_116 : decode cX6_lifts 116 = .ok (.laload, 1) := by decide +kernel
theorem dX6_lifts_117 : decode cX6_lifts 117 = .ok (.invokevirtual 269, 3) := by decide +kernel
theorem dX6_lifts_120 : decode cX6_lifts 120 = .ok (.aload_n 0, 1) := by decide +kernel
theorem dX6_lifts_121 : decode cX6_lifts 121 = .ok (.iload_n 2, 1) := by decide +kernel
theorem dX6_lifts_122 : decode cX6_lifts 122 = .ok (.bipush 7, 2) := by decide +kernel
theorem dX6_lifts_124 : decode cX6_lifts 124 = .ok (.aload_n 0, 1) := by decide +kernel
theorem dX6_lifts_125 : decode cX6_lifts 125 = .ok (.getfield 7, 3) := by decide +kernel
theorem dX6_lifts_128 : decode cX6_lifts 128 = .ok (.bipush 53, 2) := by decide +kernel
theorem dX6_lifts_130 : decode cX6_lifts 130 = .ok (.iload 4, 2) := by decide +kernel
theorem dX6_lifts_132 : decode cX6_lifts 132 = .ok (.iadd, 1) := by decide +kernel
theorem dX6_lifts_133 : decode cX6_lifts 133 = .ok (.laload, 1) := by decide +kernel
theorem dX6_lifts_134 : decode cX6_lifts 134 = .ok (.invokevirtual 269, 3) := by decide +kernel
theorem dX6_lifts_137 : decode cX6_lifts 137 = .ok (.aload_n 0, 1) := by decide +kernel
theorem dX6_lifts_138 : decode cX6_lifts 138 = .ok (.iload_n 2, 1) := by decide +kernel
theorem dX6_lifts_139 : decode cX6_lifts 139 = .ok (.bipush 8, 2) := by decide +kernel
theorem dX6_lifts_141 : decode cX6_lifts 141 = .ok (.iload 5, 2) := by decide +kernel
theorem dX6_lifts_143 : decode cX6_lifts 143 = .ok (.i2l, 1) := by decide +kernel
theorem dX6_lifts_144 : decode cX6_lifts 144 = .ok (.invokevirtual 269, 3) := by decide +kernel
theorem dX6_lifts_147 : decode cX6_lifts 147 = .ok (.aload_n 0, 1) := by decide +kernel
theorem dX6_lifts_148 : decode cX6_lifts 148 = .ok (.iload_n 2, 1) := by decide +kernel
theorem dX6_lifts_149 : decode cX6_lifts 149 = .ok (.bipush 9, 2) := by decide +kernel
theorem dX6_lifts_151 : decode cX6_lifts 151 = .ok (.aload_n 0, 1) := by decide +kernel
theorem dX6_lifts_152 : decode cX6_lifts 152 = .ok (.getfield 7, 3) := by decide +kernel
theorem dX6_lifts_155 : decode cX6_lifts 155 = .ok (.iconst 2, 1) := by decide +kernel
theorem dX6_lifts_156 : decode cX6_lifts 156 = .ok (.laload, 1) := by decide +kernel
theorem dX6_lifts_157 : decode cX6_lifts 157 = .ok (.invokevirtual 269, 3) := by decide +kernel
theorem dX6_lifts_160 : decode cX6_lifts 160 = .ok (.aload_n 0, 1) := by decide +kernel
theorem dX6_lifts_161 : decode cX6_lifts 161 = .ok (.getfield 7, 3) := by decide +kernel
theorem dX6_lifts_164 : decode cX6_lifts 164 = .ok (.iconst 3, 1) := by decide +kernel
theorem dX6_lifts_165 : decode cX6_lifts 165 = .ok (.dup2, 1) := by decide +kernel
theorem dX6_lifts_166 : decode cX6_lifts 166 = .ok (.laload, 1) := by decide +kernel
theorem dX6_lifts_167 : decode cX6_lifts 167 = .ok (.aload_n 0, 1) := by decide +kernel
theorem dX6_lifts_168 : decode cX6_lifts 168 = .ok (.getfield 7, 3) := by decide +kernel
theorem dX6_lifts_171 : decode cX6_lifts 171 = .ok (.bipush 53, 2) := by decide +kernel
theorem dX6_lifts_173 : decode cX6_lifts 173 = .ok (.iload_n 3, 1) := by decide +kernel
theorem dX6_lifts_174 : decode cX6_lifts 174 = .ok (.iadd, 1) := by decide +kernel
theorem dX6_lifts_175 : decode cX6_lifts 175 = .ok (.laload, 1) := by decide +kernel
theorem dX6_lifts_176 : decode cX6_lifts 176 = .ok (.aload_n 0, 1) := by decide +kernel
theorem dX6_lifts_177 : decode cX6_lifts 177 = .ok (.getfield 7, 3) := by decide +kernel
theorem dX6_lifts_180 : decode cX6_lifts 180 = .ok (.iconst 5, 1) := by decide +kernel
theorem dX6_lifts_181 : decode cX6_lifts 181 = .ok (.iload_n 3, 1) := by decide +kernel
theorem dX6_lifts_182 : decode cX6_lifts 182 = .ok (.iadd, 1) := by decide +kernel
theorem dX6_lifts_183 : decode cX6_lifts 183 = .ok (.laload, 1) := by decide +kernel
theorem dX6_lifts_184 : decode cX6_lifts 184 = .ok (.lmul, 1) := by decide +kernel
theorem dX6_lifts_185 : decode cX6_lifts 185 = .ok (.aload_n 0, 1) := by decide +kernel
theorem dX6_lifts_186 : decode cX6_lifts 186 = .ok (.getfield 7, 3) := by decide +kernel
theorem dX6_lifts_189 : decode cX6_lifts 189 = .ok (.bipush 53, 2) := by decide +kernel
theorem dX6_lifts_191 : decode cX6_lifts 191 = .ok (.iload 4, 2) := by decide +kernel
theorem dX6_lifts_193 : decode cX6_lifts 193 = .ok (.iadd, 1) := by decide +kernel
theorem dX6_lifts_194 : decode cX6_lifts 194 = .ok (.laload, 1) := by decide +kernel
theorem dX6_lifts_195 : decode cX6_lifts 195 = .ok (.aload_n 0, 1) := by decide +kernel
theorem dX6_lifts_196 : decode cX6_lifts 196 = .ok (.getfield 7, 3) := by decide +kernel
theorem dX6_lifts_199 : decode cX6_lifts 199 = .ok (.iconst 5, 1) := by decide +kernel
theorem dX6_lifts_200 : decode cX6_lifts 200 = .ok (.iload 4, 2) := by decide +kernel
theorem dX6_lifts_202 : decode cX6_lifts 202 = .ok (.iadd, 1) := by decide +kernel
theorem dX6_lifts_203 : decode cX6_lifts 203 = .ok (.laload, 1) := by decide +kernel
theorem dX6_lifts_204 : decode cX6_lifts 204 = .ok (.lmul, 1) := by decide +kernel
theorem dX6_lifts_205 : decode cX6_lifts 205 = .ok (.ladd, 1) := by decide +kernel
theorem dX6_lifts_206 : decode cX6_lifts 206 = .ok (.aload_n 0, 1) := by decide +kernel
theorem dX6_lifts_207 : decode cX6_lifts 207 = .ok (.getfield 7, 3) := by decide +kernel
theorem dX6_lifts_210 : decode cX6_lifts 210 = .ok (.bipush 53, 2) := by decide +kernel
theorem dX6_lifts_212 : decode cX6_lifts 212 = .ok (.iload_n 1, 1) := by decide +kernel
theorem dX6_lifts_213 : decode cX6_lifts 213 = .ok (.iadd, 1) := by decide +kernel
theorem dX6_lifts_214 : decode cX6_lifts 214 = .ok (.laload, 1) := by decide +kernel
theorem dX6_lifts_215 : decode cX6_lifts 215 = .ok (.aload_n 0, 1) := by decide +kernel
theorem dX6_lifts_216 : decode cX6_lifts 216 = .ok (.getfield 7, 3) := by decide +kernel
theorem dX6_lifts_219 : decode cX6_lifts 219 = .ok (.iconst 5, 1) := by decide +kernel
theorem dX6_lifts_220 : decode cX6_lifts 220 = .ok (.iload_n 1, 1) := by decide +kernel
theorem dX6_lifts_221 : decode cX6_lifts 221 = .ok (.iadd, 1) := by decide +kernel
theorem dX6_lifts_222 : decode cX6_lifts 222 = .ok (.laload, 1) := by decide +kernel
theorem dX6_lifts_223 : decode cX6_lifts 223 = .ok (.lmul, 1) := by decide +kernel
theorem dX6_lifts_224 : decode cX6_lifts 224 = .ok (.ladd, 1) := by decide +kernel
theorem dX6_lifts_225 : decode cX6_lifts 225 = .ok (.ladd, 1) := by decide +kernel
theorem dX6_lifts_226 : decode cX6_lifts 226 = .ok (.lastore, 1) := by decide +kernel
theorem dX6_lifts_227 : decode cX6_lifts 227 = .ok (.aload_n 0, 1) := by decide +kernel
theorem dX6_lifts_228 : decode cX6_lifts 228 = .ok (.getfield 7, 3) := by decide +kernel
theorem dX6_lifts_231 : decode cX6_lifts 231 = .ok (.bipush 53, 2) := by decide +kernel
theorem dX6_lifts_233 : decode cX6_lifts 233 = .ok (.iload_n 3, 1) := by decide +kernel
theorem dX6_lifts_234 : decode cX6_lifts 234 = .ok (.iadd, 1) := by decide +kernel
theorem dX6_lifts_235 : decode cX6_lifts 235 = .ok (.dup2, 1) := by decide +kernel
theorem dX6_lifts_236 : decode cX6_lifts 236 = .ok (.laload, 1) := by decide +kernel
theorem dX6_lifts_237 : decode cX6_lifts 237 = .ok (.lload 8, 2) := by decide +kernel
theorem dX6_lifts_239 : decode cX6_lifts 239 = .ok (.ladd, 1) := by decide +kernel
theorem dX6_lifts_240 : decode cX6_lifts 240 = .ok (.lastore, 1) := by decide +kernel
theorem dX6_lifts_241 : decode cX6_lifts 241 = .ok (.aload_n 0, 1) := by decide +kernel
theorem dX6_lifts_242 : decode cX6_lifts 242 = .ok (.getfield 7, 3) := by decide +kernel
theorem dX6_lifts_245 : decode cX6_lifts 245 = .ok (.bipush 53, 2) := by decide +kernel
theorem dX6_lifts_247 : decode cX6_lifts 247 = .ok (.iload 4, 2) := by decide +kernel
theorem dX6_lifts_249 : decode cX6_lifts 249 = .ok (.iadd, 1) := by decide +kernel
theorem dX6_lifts_250 : decode cX6_lifts 250 = .ok (.dup2, 1) := by decide +kernel
theorem dX6_lifts_251 : decode cX6_lifts 251 = .ok (.laload, 1) := by decide +kernel
theorem dX6_lifts_252 : decode cX6_lifts 252 = .ok (.aload_n 0, 1) := by decide +kernel
theorem dX6_lifts_253 : decode cX6_lifts 253 = .ok (.getfield 7, 3) := by decide +kernel
theorem dX6_lifts_256 : decode cX6_lifts 256 = .ok (.bipush 53, 2) := by decide +kernel
theorem dX6_lifts_258 : decode cX6_lifts 258 = .ok (.iload_n 1, 1) := by decide +kernel
theorem dX6_lifts_259 : decode cX6_lifts 259 = .ok (.iadd, 1) := by decide +kernel
theorem dX6_lifts_260 : decode cX6_lifts 260 = .ok (.laload, 1) := by decide +kernel
theorem dX6_lifts_261 : decode cX6_lifts 261 = .ok (.lload 8, 2) := by decide +kernel
theorem dX6_lifts_263 : decode cX6_lifts 263 = .ok (.lsub, 1) := by decide +kernel
theorem dX6_lifts_264 : decode cX6_lifts 264 = .ok (.ladd, 1) := by decide +kernel
theorem dX6_lifts_265 : decode cX6_lifts 265 = .ok (.lastore, 1) := by decide +kernel
theorem dX6_lifts_266 : decode cX6_lifts 266 = .ok (.aload_n 0, 1) := by decide +kernel
theorem dX6_lifts_267 : decode cX6_lifts 267 = .ok (.iload_n 2, 1) := by decide +kernel
theorem dX6_lifts_268 : decode cX6_lifts 268 = .ok (.aload_n 0, 1) := by decide +kernel
theorem dX6_lifts_269 : decode cX6_lifts 269 = .ok (.getfield 7, 3) := by decide +kernel
theorem dX6_lifts_272 : decode cX6_lifts 272 = .ok (.bipush 53, 2) := by decide +kernel
theorem dX6_lifts_274 : decode cX6_lifts 274 = .ok (.iload_n 3, 1) := by decide +kernel
theorem dX6_lifts_275 : decode cX6_lifts 275 = .ok (.iadd, 1) := by decide +kernel
theorem dX6_lifts_276 : decode cX6_lifts 276 = .ok (.laload, 1) := by decide +kernel
theorem dX6_lifts_277 : decode cX6_lifts 277 = .ok (.aload_n 0, 1) := by decide +kernel
theorem dX6_lifts_278 : decode cX6_lifts 278 = .ok (.getfield 7, 3) := by decide +kernel
theorem dX6_lifts_281 : decode cX6_lifts 281 = .ok (.bipush 53, 2) := by decide +kernel
theorem dX6_lifts_283 : decode cX6_lifts 283 = .ok (.iload 4, 2) := by decide +kernel
theorem dX6_lifts_285 : decode cX6_lifts 285 = .ok (.iadd, 1) := by decide +kernel
theorem dX6_lifts_286 : decode cX6_lifts 286 = .ok (.laload, 1) := by decide +kernel
theorem dX6_lifts_287 : decode cX6_lifts 287 = .ok (.invokevirtual 273, 3) := by decide +kernel
theorem dX6_lifts_290 : decode cX6_lifts 290 = .ok (.lstore 10, 2) := by decide +kernel
theorem dX6_lifts_292 : decode cX6_lifts 292 = .ok (.aload_n 0, 1) := by decide +kernel
theorem dX6_lifts_293 : decode cX6_lifts 293 = .ok (.iload_n 2, 1) := by decide +kernel
theorem dX6_lifts_294 : decode cX6_lifts 294 = .ok (.aload_n 0, 1) := by decide +kernel
theorem dX6_lifts_295 : decode cX6_lifts 295 = .ok (.getfield 7, 3) := by decide +kernel
theorem dX6_lifts_298 : decode cX6_lifts 298 = .ok (.bipush 53, 2) := by decide +kernel
theorem dX6_lifts_300 : decode cX6_lifts 300 = .ok (.iload 4, 2) := by decide +kernel
theorem dX6_lifts_302 : decode cX6_lifts 302 = .ok (.iadd, 1) := by decide +kernel
theorem dX6_lifts_303 : decode cX6_lifts 303 = .ok (.laload, 1) := by decide +kernel
theorem dX6_lifts_304 : decode cX6_lifts 304 = .ok (.aload_n 0, 1) := by decide +kernel
theorem dX6_lifts_305 : decode cX6_lifts 305 = .ok (.getfield 7, 3) := by decide +kernel
theorem dX6_lifts_308 : decode cX6_lifts 308 = .ok (.bipush 53, 2) := by decide +kernel
theorem dX6_lifts_310 : decode cX6_lifts 310 = .ok (.iload_n 3, 1) := by decide +kernel
theorem dX6_lifts_311 : decode cX6_lifts 311 = .ok (.iadd, 1) := by decide +kernel
theorem dX6_lifts_312 : decode cX6_lifts 312 = .ok (.laload, 1) := by decide +kernel
theorem dX6_lifts_313 : decode cX6_lifts 313 = .ok (.invokevirtual 273, 3) := by decide +kernel
theorem dX6_lifts_316 : decode cX6_lifts 316 = .ok (.lstore 12, 2) := by decide +kernel
theorem dX6_lifts_318 : decode cX6_lifts 318 = .ok (.aload_n 0, 1) := by decide +kernel
theorem dX6_lifts_319 : decode cX6_lifts 319 = .ok (.getfield 7, 3) := by decide +kernel
theorem dX6_lifts_322 : decode cX6_lifts 322 = .ok (.iconst 5, 1) := by decide +kernel
theorem dX6_lifts_323 : decode cX6_lifts 323 = .ok (.iload_n 3, 1) := by decide +kernel
theorem dX6_lifts_324 : decode cX6_lifts 324 = .ok (.iadd, 1) := by decide +kernel
theorem dX6_lifts_325 : decode cX6_lifts 325 = .ok (.dup2, 1) := by decide +kernel
theorem dX6_lifts_326 : decode cX6_lifts 326 = .ok (.laload, 1) := by decide +kernel
theorem dX6_lifts_327 : decode cX6_lifts 327 = .ok (.lload 10, 2) := by decide +kernel
theorem dX6_lifts_329 : decode cX6_lifts 329 = .ok (.ladd, 1) := by decide +kernel
theorem dX6_lifts_330 : decode cX6_lifts 330 = .ok (.lastore, 1) := by decide +kernel
theorem dX6_lifts_331 : decode cX6_lifts 331 = .ok (.aload_n 0, 1) := by decide +kernel
theorem dX6_lifts_332 : decode cX6_lifts 332 = .ok (.getfield 7, 3) := by decide +kernel
theorem dX6_lifts_335 : decode cX6_lifts 335 = .ok (.iconst 5, 1) := by decide +kernel
theorem dX6_lifts_336 : decode cX6_lifts 336 = .ok (.iload 4, 2) := by decide +kernel
theorem dX6_lifts_338 : decode cX6_lifts 338 = .ok (.iadd, 1) := by decide +kernel
theorem dX6_lifts_339 : decode cX6_lifts 339 = .ok (.dup2, 1) := by decide +kernel
theorem dX6_lifts_340 : decode cX6_lifts 340 = .ok (.laload, 1) := by decide +kernel
theorem dX6_lifts_341 : decode cX6_lifts 341 = .ok (.lload 12, 2) := by decide +kernel
theorem dX6_lifts_343 : decode cX6_lifts 343 = .ok (.ladd, 1) := by decide +kernel
theorem dX6_lifts_344 : decode cX6_lifts 344 = .ok (.lastore, 1) := by decide +kernel
theorem dX6_lifts_345 : decode cX6_lifts 345 = .ok (.aload_n 0, 1) := by decide +kernel
theorem dX6_lifts_346 : decode cX6_lifts 346 = .ok (.getfield 7, 3) := by decide +kernel
theorem dX6_lifts_349 : decode cX6_lifts 349 = .ok (.iconst 3, 1) := by decide +kernel
theorem dX6_lifts_350 : decode cX6_lifts 350 = .ok (.dup2, 1) := by decide +kernel
theorem dX6_lifts_351 : decode cX6_lifts 351 = .ok (.laload, 1) := by decide +kernel
theorem dX6_lifts_352 : decode cX6_lifts 352 = .ok (.aload_n 0, 1) := by decide +kernel
theorem dX6_lifts_353 : decode cX6_lifts 353 = .ok (.getfield 7, 3) := by decide +kernel
theorem dX6_lifts_356 : decode cX6_lifts 356 = .ok (.bipush 53, 2) := by decide +kernel
theorem dX6_lifts_358 : decode cX6_lifts 358 = .ok (.iload_n 3, 1) := by decide +kernel
theorem dX6_lifts_359 : decode cX6_lifts 359 = .ok (.iadd, 1) := by decide +kernel
theorem dX6_lifts_360 : decode cX6_lifts 360 = .ok (.laload, 1) := by decide +kernel
theorem dX6_lifts_361 : decode cX6_lifts 361 = .ok (.aload_n 0, 1) := by decide +kernel
theorem dX6_lifts_362 : decode cX6_lifts 362 = .ok (.getfield 7, 3) := by decide +kernel
theorem dX6_lifts_365 : decode cX6_lifts 365 = .ok (.iconst 5, 1) := by decide +kernel
theorem dX6_lifts_366 : decode cX6_lifts 366 = .ok (.iload_n 3, 1) := by decide +kernel
theorem dX6_lifts_367 : decode cX6_lifts 367 = .ok (.iadd, 1) := by decide +kernel
theorem dX6_lifts_368 : decode cX6_lifts 368 = .ok (.laload, 1) := by decide +kernel
theorem dX6_lifts_369 : decode cX6_lifts 369 = .ok (.lmul, 1) := by decide +kernel
theorem dX6_lifts_370 : decode cX6_lifts 370 = .ok (.aload_n 0, 1) := by decide +kernel
theorem dX6_lifts_371 : decode cX6_lifts 371 = .ok (.getfield 7, 3) := by decide +kernel
theorem dX6_lifts_374 : decode cX6_lifts 374 = .ok (.bipush 53, 2) := by decide +kernel
theorem dX6_lifts_376 : decode cX6_lifts 376 = .ok (.iload 4, 2) := by decide +kernel
theorem dX6_lifts_378 : decode cX6_lifts 378 = .ok (.iadd, 1) := by decide +kernel
theorem dX6_lifts_379 : decode cX6_lifts 379 = .ok (.laload, 1) := by decide +kernel
theorem dX6_lifts_380 : decode cX6_lifts 380 = .ok (.aload_n 0, 1) := by decide +kernel
theorem dX6_lifts_381 : decode cX6_lifts 381 = .ok (.getfield 7, 3) := by decide +kernel
theorem dX6_lifts_384 : decode cX6_lifts 384 = .ok (.iconst 5, 1) := by decide +kernel
theorem dX6_lifts_385 : decode cX6_lifts 385 = .ok (.iload 4, 2) := by decide +kernel
theorem dX6_lifts_387 : decode cX6_lifts 387 = .ok (.iadd, 1) := by decide +kernel
theorem dX6_lifts_388 : decode cX6_lifts 388 = .ok (.laload, 1) := by decide +kernel
theorem dX6_lifts_389 : decode cX6_lifts 389 = .ok (.lmul, 1) := by decide +kernel
theorem dX6_lifts_390 : decode cX6_lifts 390 = .ok (.ladd, 1) := by decide +kernel
theorem dX6_lifts_391 : decode cX6_lifts 391 = .ok (.lsub, 1) := by decide +kernel
theorem dX6_lifts_392 : decode cX6_lifts 392 = .ok (.lastore, 1) := by decide +kernel
theorem dX6_lifts_393 : decode cX6_lifts 393 = .ok (.aload_n 0, 1) := by decide +kernel
theorem dX6_lifts_394 : decode cX6_lifts 394 = .ok (.getfield 7, 3) := by decide +kernel
theorem dX6_lifts_397 : decode cX6_lifts 397 = .ok (.bipush 101, 2) := by decide +kernel
theorem dX6_lifts_399 : decode cX6_lifts 399 = .ok (.iload_n 1, 1) := by decide +kernel
theorem dX6_lifts_400 : decode cX6_lifts 400 = .ok (.iadd, 1) := by decide +kernel
theorem dX6_lifts_401 : decode cX6_lifts 401 = .ok (.iload_n 2, 1) := by decide +kernel
theorem dX6_lifts_402 : decode cX6_lifts 402 = .ok (.i2l, 1) := by decide +kernel
theorem dX6_lifts_403 : decode cX6_lifts 403 = .ok (.lastore, 1) := by decide +kernel
theorem dX6_lifts_404 : decode cX6_lifts 404 = .ok (.aload_n 0, 1) := by decide +kernel
theorem dX6_lifts_405 : decode cX6_lifts 405 = .ok (.getfield 7, 3) := by decide +kernel
theorem dX6_lifts_408 : decode cX6_lifts 408 = .ok (.iconst 4, 1) := by decide +kernel
theorem dX6_lifts_409 : decode cX6_lifts 409 = .ok (.dup2, 1) := by decide +kernel
theorem dX6_lifts_410 : decode cX6_lifts 410 = .ok (.laload, 1) := by decide +kernel
theorem dX6_lifts_411 : decode cX6_lifts 411 = .ok (.lconst 1, 1) := by decide +kernel
theorem dX6_lifts_412 : decode cX6_lifts 412 = .ok (.ladd, 1) := by decide +kernel
theorem dX6_lifts_413 : decode cX6_lifts 413 = .ok (.lastore, 1) := by decide +kernel
theorem dX6_lifts_414 : decode cX6_lifts 414 = .ok (.return_, 1) := by decide +kernel
set_option maxHeartbeats 40000000 in
set_option maxRecDepth 100000 in
theorem X6_lifts (l : Launch) (κ : Kt) (σ0 : Gh) (this : Nat) (i : Int32) (t_this : zk σ0 this 20) (h0 : RI κ σ0 this) (h1 : 0 < i.toInt) (h2 : i.toInt < (zI σ0 this 7).toInt - 1) (h3 : rlf (zJ σ0 (kR κ this 1)) (ix i) = -1) : TC l yX6_lifts cX6_lifts 14 none 4 90 [.ref this, .int i] κ σ0 (tqv κ gW σ0 (fun (τ : Gh) => (RI κ τ this) ∧ ((zJ τ (kR κ this 1) 4).toInt = ((zJ σ0 (kR κ this 1)) 4).toInt + 1))) := by
  refine TC.of gW (by decide +kernel) (Nat.le_of_ble_eq_true rfl) ?_
  intro p e s m below meth c ls hcs hK hX hT hl
  obtain ⟨hx, hb, hr, hml, hown, hg, hlocks, hin⟩ := hcs
  have hown : s.vm.findClass RX6 = some m.cls := hown
  have hl : lv_has ls 14 [(0, .ref this), (1, .int i)] := hl
  have hT0 := hT
  have nm1 : ((-1) : Int32).toInt = (-1) := by decide
  have n0 : (0 : Int32).toInt = 0 := by decide
  have n1 : (1 : Int32).toInt = 1 := by decide
  have n2 : (2 : Int32).toInt = 2 := by decide
  have n3 : (3 : Int32).toInt = 3 := by decide
  have n4 : (4 : Int32).toInt = 4 := by decide
  have n5 : (5 : Int32).toInt = 5 := by decide
  have n6 : (6 : Int32).toInt = 6 := by decide
  have n7 : (7 : Int32).toInt = 7 := by decide
  have n8 : (8 : Int32).toInt = 8 := by decide
  have n9 : (9 : Int32).toInt = 9 := by decide
  have n53 : (53 : Int32).toInt = 53 := by decide
  have n101 : (101 : Int32).toInt = 101 := by decide
  have j1 : (1 : Int64).toInt = 1 := by decide
  have i_lo := Int32.le_toInt i
  have i_hi := Int32.toInt_lt i
  generalize hQ9 : tQ _ _ _ _ _ _ = Q9
  obtain ⟨rW, erW⟩ : ∃ z, kR κ this 1 = z := ⟨_, rfl⟩
  have trW : zk σ0 rW 21 := by rw [← erW]; exact h0.1.2.1
  obtain ⟨rP, erP⟩ : ∃ z, kR κ this 5 = z := ⟨_, rfl⟩
  have trP : zk σ0 rP 25 := by rw [← erP]; exact h0.1.2.2.2.2
  have hB0 := h0.b
  rw [erW] at hB0
  have hW := h0.2.1
  rw [erW] at hW
  have hP := h0.2.2.1
  rw [erP] at hP
  have hrN : (rN σ0 this : Int) = (zI σ0 this 7).toInt := by unfold rN; omega
  try simp only [erW, erP] at h3
  refine lv_aload_n hx hb dX6_lifts_0 rfl (lv_at hl 0 rfl) ?_
  have hTo := hT
  refine tVi (n := 0) (As := []) (rest := []) hx hb hml hown hg hT hK hX (X6_steps l κ σ0 this  (hT.k t_this (by decide)) h0) sub_fE_gW (mwV k1416 k1418 k52 k92 k1419) ⟨rfl, by decide, by decide, by decide +kernel⟩ ⟨(Nat.le_of_ble_eq_true rfl), (Nat.le_of_ble_eq_true rfl)⟩ (hT.o20 (hT.k t_this (by decide))) rfl rfl hl.1 rfl (Nat.le_of_ble_eq_true rfl) dX6_lifts_1 zroom.rf (fun x1 s2 H locs hφ hEs2 hT => ?_)
  have E3 : zJ s2 rW = zJ σ0 rW := funext fun k => (hTo.k trW (by decide)).eJ hEs2 (by decide) rfl
  have R4 : RI κ s2 this := h0.ext hEs2 ⟨rfl, rfl, fun _ => rfl, fun _ => rfl, fun _ => rfl, fun _ => rfl⟩
  have B5 := R4.b
  rw [erW] at B5
  have K6 : zI s2 this 7 = zI σ0 this 7 := hT.eI t_this (by decide) rfl rfl
  have K6n : (zI s2 this 7).toInt = (zI σ0 this 7).toInt := by rw [K6]
  have J7 : zJ s2 rW = zJ σ0 rW := by rw [E3]
  have P8 : zI s2 rP = zI σ0 rP := funext fun k => hT.eI trP (by decide) rfl rfl
  try simp only [K6, J7, P8] at B5
  have f9 := hφ
  try simp only [erW, erP, ix_0, ix_1, ix_2, ix_3, ix_4, ix_5, ix_6, ix_7, ix_8, ix_9, K6, J7, P8] at f9
  refine lv_istore_n (lv' := [(2, .int x1), (0, .ref this), (1, .int i)]) hx hb dX6_lifts_4 rfl hl (by decide) rfl (fun ls hl => ?_)
  refine lv_aload_n hx hb dX6_lifts_5 rfl (lv_at hl 1 rfl) ?_
  refine lv_iload_n hx hb dX6_lifts_6 rfl (lv_at hl 2 rfl) ?_
  refine lv_iconst (v := (-1)) hx hb dX6_lifts_7 (by decide) ?_
  have hTo := hT
  refine tVi (n := 2) (As := [.int i, .int (-1)]) (rest := []) hx hb hml hown hg hT hK hX (X6_besideL l κ s2 this i (-1)  (hT.k t_this (by decide)) R4 (by omega) (by omega) (by omega)) sub_fE_gW (mwV k1449 k1451 k58 k92 k1452) ⟨rfl, by decide, by decide, by decide +kernel⟩ ⟨(Nat.le_of_ble_eq_true rfl), (Nat.le_of_ble_eq_true rfl)⟩ (hT.o20 (hT.k t_this (by decide))) rfl rfl hl.1 rfl (Nat.le_of_ble_eq_true rfl) dX6_lifts_8 zroom.rf (fun x10 s11 H locs hφ hEs11 hT => ?_)
  have E12 : zJ s11 rW = zJ s2 rW := funext fun k => (hTo.k trW (by decide)).eJ hEs11 (by decide) rfl
  have R13 : RI κ s11 this := R4.ext hEs11 ⟨rfl, rfl, fun _ => rfl, fun _ => rfl, fun _ => rfl, fun _ => rfl⟩
  have B14 := R13.b
  rw [erW] at B14
  have K15 : zI s11 this 7 = zI σ0 this 7 := hT.eI t_this (by decide) rfl rfl
  have K15n : (zI s11 this 7).toInt = (zI σ0 this 7).toInt := by rw [K15]
  have J16 : zJ s11 rW = zJ σ0 rW := by rw [E12, E3]
  have P17 : zI s11 rP = zI σ0 rP := funext fun k => hT.eI trP (by decide) rfl rfl
  try simp only [K15, J16, P17] at B14
  have f18 := hφ
  try simp only [erW, erP, ix_0, ix_1, ix_2, ix_3, ix_4, ix_5, ix_6, ix_7, ix_8, ix_9, K6, J7, P8, K15, J16, P17] at f18
  refine lv_istore_n (lv' := [(3, .int x10), (2, .int x1), (0, .ref this), (1, .int i)]) hx hb dX6_lifts_11 rfl hl (by decide) rfl (fun ls hl => ?_)
  refine lv_aload_n hx hb dX6_lifts_12 rfl (lv_at hl 2 rfl) ?_
  refine lv_iload_n hx hb dX6_lifts_13 rfl (lv_at hl 3 rfl) ?_
  refine lv_iconst (v := 1) hx hb dX6_lifts_14 (by decide) ?_
  have hTo := hT
  refine tVi (n := 2) (As := [.int i, .int 1]) (rest := []) hx hb hml hown hg hT hK hX (X6_besideR l κ s11 this i 1  (hT.k t_this (by decide)) R13 (by omega) (by omega) (by omega)) sub_fE_gW (mwV k1449 k1451 k58 k92 k1452) ⟨rfl, by decide, by decide, by decide +kernel⟩ ⟨(Nat.le_of_ble_eq_true rfl), (Nat.le_of_ble_eq_true rfl)⟩ (hT.o20 (hT.k t_this (by decide))) rfl rfl hl.1 rfl (Nat.le_of_ble_eq_true rfl) dX6_lifts_15 zroom.rf (fun x19 s20 H locs hφ hEs20 hT => ?_)
  have E21 : zJ s20 rW = zJ s11 rW := funext fun k => (hTo.k trW (by decide)).eJ hEs20 (by decide) rfl
  have R22 : RI κ s20 this := R13.ext hEs20 ⟨rfl, rfl, fun _ => rfl, fun _ => rfl, fun _ => rfl, fun _ => rfl⟩
  have B23 := R22.b
  rw [erW] at B23
  have K24 : zI s20 this 7 = zI σ0 this 7 := hT.eI t_this (by decide) rfl rfl
  have K24n : (zI s20 this 7).toInt = (zI σ0 this 7).toInt := by rw [K24]
  have J25 : zJ s20 rW = zJ σ0 rW := by rw [E21, E12, E3]
  have P26 : zI s20 rP = zI σ0 rP := funext fun k => hT.eI trP (by decide) rfl rfl
  try simp only [K24, J25, P26] at B23
  have f27 := hφ
  try simp only [erW, erP, ix_0, ix_1, ix_2, ix_3, ix_4, ix_5, ix_6, ix_7, ix_8, ix_9, K15, J16, P17, K24, J25, P26] at f27
  refine lv_istore (lv' := [(4, .int x19), (3, .int x10), (2, .int x1), (0, .ref this), (1, .int i)]) hx hb dX6_lifts_18 hl (by decide) rfl (fun ls hl => ?_)
  have u_i : ix i < 48 := by unfold ix; omega
  have u_x10 : ix x10 < 48 := by unfold ix; omega
  have u_x19 : ix x19 < 48 := by unfold ix; omega
  have n_i_x10 : ix i ≠ ix x10 := by unfold ix; omega
  have n_i_x19 : ix i ≠ ix x19 := by unfold ix; omega
  have n_x10_i : ix x10 ≠ ix i := by unfold ix; omega
  have n_x10_x19 : ix x10 ≠ ix x19 := by unfold ix; omega
  have n_x19_i : ix x19 ≠ ix i := by unfold ix; omega
  have n_x19_x10 : ix x19 ≠ ix x10 := by unfold ix; omega
  have i_i : (ix i : Int) = i.toInt := by unfold ix; omega
  have i_x10 : (ix x10 : Int) = x10.toInt := by unfold ix; omega
  have i_x19 : (ix x19 : Int) = x19.toInt := by unfold ix; omega
  have i_x1 : (ix x1 : Int) = x1.toInt := by unfold ix; omega
  have gp : rlf (zJ σ0 rW) (ix x10) = -1 := by omega
  have gq : rlf (zJ σ0 rW) (ix x19) = -1 := by omega
  have g3 := hW.three (k := ix i) (p := ix x10) (q := ix x19) ⟨by omega, by omega, by omega⟩ (by omega) gp gq
  have g4 := hW.lt (k := ix i) (by omega) (by omega) (by omega)
  refine lv_aload_n hx hb dX6_lifts_20 rfl (lv_at hl 3 rfl) ?_
  refine va_get (D := κ.1) (ci := 6) (v := .ref (kR κ this 1)) (C := RX6) (T := TX6) (N := 27) hx hb hg inX6 hown hK (hT.o20 (hT.k t_this (by decide))).one 0 rfl rfl 1 (by decide) (hg _ k1220) (fun _ h9 => h9) rfl dX6_lifts_21 ?_
  rw [erW]
  refine lv_iconst (v := 1) hx hb dX6_lifts_24 (by decide) ?_
  refine va_lald hx hb hK (hT.o21 (hT.k trW (by decide))).one 0 1 rfl rfl (g_in (by omega) (by omega)) dX6_lifts_25 ?_
  refine lv_topl (fun t28 ht28 => ?_)
  have xt28 : (zJ s20 rW 1).toInt = t28.toInt := by rw [ht28]; exact congrArg (fun q9 => (zJ s20 rW q9).toInt) (show 1 = ix 1 from by decide)
  have yt28 : t28.toInt = (zJ σ0 rW 1).toInt := by rw [← xt28]; show (zJ s20 rW (1)).toInt = _; rw [E21, E12, E3]
  refine lv_l2i hx hb dX6_lifts_26 rfl ?_
  first | refine g_l2i (by omega) (by omega) (fun t29 ht29 => ?_) | refine lv_topi (fun t29 ht29 => ?_)
  refine lv_istore (lv' := [(5, .int t29), (4, .int x19), (3, .int x10), (2, .int x1), (0, .ref this), (1, .int i)]) hx hb dX6_lifts_27 hl (by decide) rfl (fun ls hl => ?_)
  refine lv_aload_n hx hb dX6_lifts_29 rfl (lv_at hl 4 rfl) ?_
  refine lv_iload_n hx hb dX6_lifts_30 rfl (lv_at hl 5 rfl) ?_
  have hTo := hT
  refine tVl (n := 1) (As := [.int i]) (rest := []) hx hb hml hown hg hT hK hX (X6_detailOf l κ s20 this i  (hT.k t_this (by decide)) R22 (by omega) (by omega)) sub_fE_gW (mwV k1535 k1537 k66 k92 k1538) ⟨rfl, by decide, by decide, by decide +kernel⟩ ⟨(Nat.le_of_ble_eq_true rfl), (Nat.le_of_ble_eq_true rfl)⟩ (hT.o20 (hT.k t_this (by decide))) rfl rfl hl.1 rfl (Nat.le_of_ble_eq_true rfl) dX6_lifts_31 zroom.rf (fun x30 s31 H locs hφ hEs31 hT => ?_)
  have E32 : zJ s31 rW = zJ s20 rW := funext fun k => (hTo.k trW (by decide)).eJ hEs31 (by decide) rfl
  have R33 : RI κ s31 this := R22.ext hEs31 ⟨rfl, rfl, fun _ => rfl, fun _ => rfl, fun _ => rfl, fun _ => rfl⟩
  have B34 := R33.b
  rw [erW] at B34
  have K35 : zI s31 this 7 = zI σ0 this 7 := hT.eI t_this (by decide) rfl rfl
  have K35n : (zI s31 this 7).toInt = (zI σ0 this 7).toInt := by rw [K35]
  have J36 : zJ s31 rW = zJ σ0 rW := by rw [E32, E21, E12, E3]
  have P37 : zI s31 rP = zI σ0 rP := funext fun k => hT.eI trP (by decide) rfl rfl
  try simp only [K35, J36, P37] at B34
  refine lv_lstore (lv' := [(6, .long x30), (5, .int t29), (4, .int x19), (3, .int x10), (2, .int x1), (0, .ref this), (1, .int i)]) hx hb dX6_lifts_34 hl (by decide) rfl (fun ls hl => ?_)
  refine lv_aload_n hx hb dX6_lifts_36 rfl (lv_at hl 5 rfl) ?_
  refine lv_iload_n hx hb dX6_lifts_37 rfl (lv_at hl 6 rfl) ?_
  refine lv_iload_n hx hb dX6_lifts_38 rfl (lv_at hl 3 rfl) ?_
  refine lv_iload hx hb dX6_lifts_39 (lv_at hl 2 rfl) ?_
  refine lv_iload hx hb dX6_lifts_41 (lv_at hl 1 rfl) ?_
  have hTo := hT
  refine tVl (n := 4) (As := [.int i, .int x10, .int x19, .int t29]) (rest := []) hx hb hml hown hg hT hK hX (X6_shareOf l κ s31 this i x10 x19 t29  (hT.k t_this (by decide)) R33 (by omega) (by omega) (by omega) (by omega) (by rw [erW, J36]; omega) (by rw [erW, J36]; omega)) sub_fE_gW (mwV k1596 k1598 k73 k92 k1599) ⟨rfl, by decide, by decide, by decide +kernel⟩ ⟨(Nat.le_of_ble_eq_true rfl), (Nat.le_of_ble_eq_true rfl)⟩ (hT.o20 (hT.k t_this (by decide))) rfl rfl hl.1 rfl (Nat.le_of_ble_eq_true rfl) dX6_lifts_43 zroom.rf (fun x38 s39 H locs hφ hEs39 hT => ?_)
  have E40 : zJ s39 rW = zJ s31 rW := funext fun k => (hTo.k trW (by decide)).eJ hEs39 (by decide) rfl
  have R41 : RI κ s39 this := R33.ext hEs39 ⟨rfl, rfl, fun _ => rfl, fun _ => rfl, fun _ => rfl, fun _ => rfl⟩
  have B42 := R41.b
  rw [erW] at B42
  have K43 : zI s39 this 7 = zI σ0 this 7 := hT.eI t_this (by decide) rfl rfl
  have K43n : (zI s39 this 7).toInt = (zI σ0 this 7).toInt := by rw [K43]
  have J44 : zJ s39 rW = zJ σ0 rW := by rw [E40, E32, E21, E12, E3]
  have P45 : zI s39 rP = zI σ0 rP := funext fun k => hT.eI trP (by decide) rfl rfl
  try simp only [K43, J44, P45] at B42
  obtain ⟨f46, f47⟩ := hφ
  try simp only [erW, erP, ix_0, ix_1, ix_2, ix_3, ix_4, ix_5, ix_6, ix_7, ix_8, ix_9, K35, J36, P37, K43, J44, P45] at f46
  try simp only [erW, erP, ix_0, ix_1, ix_2, ix_3, ix_4, ix_5, ix_6, ix_7, ix_8, ix_9, K35, J36, P37, K43, J44, P45] at f47
  refine lv_lstore (lv' := [(8, .long x38), (6, .long x30), (5, .int t29), (4, .int x19), (3, .int x10), (2, .int x1), (0, .ref this), (1, .int i)]) hx hb dX6_lifts_46 hl (by decide) rfl (fun ls hl => ?_)
  clear B5 K6n B14 K15n B23 K24n B34 K35n B42 K43n
  refine lv_aload_n hx hb dX6_lifts_48 rfl (lv_at hl 6 rfl) ?_
  refine lv_iload_n hx hb dX6_lifts_49 rfl (lv_at hl 5 rfl) ?_
  refine lv_iconst (v := 0) hx hb dX6_lifts_50 (by decide) ?_
  refine lv_iload_n hx hb dX6_lifts_51 rfl (lv_at hl 7 rfl) ?_
  refine lv_i2l hx hb dX6_lifts_52 rfl ?_
  refine g_i2l (fun t48 ht48 => ?_)
  have hTo := hT
  refine tVv (n := 3) (As := [.int x1, .int 0, .long t48]) (rest := []) hx hb hml hown hg hT hK hX (X6_put l κ s39 this x1 0 t48  (hT.k t_this (by decide)) (by omega) (by omega) (by omega) (by omega)) (fun _ _ h => h) (mwV k1600 k1602 k74 k92 k1603) ⟨rfl, by decide, by decide, by decide +kernel⟩ ⟨(Nat.le_of_ble_eq_true rfl), (Nat.le_of_ble_eq_true rfl)⟩ (hT.o20 (hT.k t_this (by decide))) rfl rfl hl.1 rfl (Nat.le_of_ble_eq_true rfl) dX6_lifts_53 zroom.rf (fun s50 H locs hφ hEs50 hT => ?_)
  have f53 := hφ
  try simp only [erW, erP, ix_0, ix_1, ix_2, ix_3, ix_4, ix_5, ix_6, ix_7, ix_8, ix_9, K43, J44, P45] at f53
  have E54 : zJ s50 rW = vp_updL (zJ s39 rW) (149 + 10 * ix x1 + 0) t48 := by rw [J44]; exact f53
  refine lv_aload_n hx hb dX6_lifts_56 rfl (lv_at hl 6 rfl) ?_
  refine lv_iload_n hx hb dX6_lifts_57 rfl (lv_at hl 5 rfl) ?_
  refine lv_iconst (v := 1) hx hb dX6_lifts_58 (by decide) ?_
  refine lv_iload_n hx hb dX6_lifts_59 rfl (lv_at hl 4 rfl) ?_
  refine lv_i2l hx hb dX6_lifts_60 rfl ?_
  refine g_i2l (fun t55 ht55 => ?_)
  have hTo := hT
  refine tVv (n := 3) (As := [.int x1, .int 1, .long t55]) (rest := []) hx hb hml hown hg hT hK hX (X6_put l κ s50 this x1 1 t55  (hT.k t_this (by decide)) (by omega) (by omega) (by omega) (by omega)) (fun _ _ h => h) (mwV k1600 k1602 k74 k92 k1603) ⟨rfl, by decide, by decide, by decide +kernel⟩ ⟨(Nat.le_of_ble_eq_true rfl), (Nat.le_of_ble_eq_true rfl)⟩ (hT.o20 (hT.k t_this (by decide))) rfl rfl hl.1 rfl (Nat.le_of_ble_eq_true rfl) dX6_lifts_61 zroom.rf (fun s57 H locs hφ hEs57 hT => ?_)
  have f59 := hφ
  try simp only [erW, erP, ix_0, ix_1, ix_2, ix_3, ix_4, ix_5, ix_6, ix_7, ix_8, ix_9] at f59
  have E60 : zJ s57 rW = vp_updL (zJ s50 rW) (149 + 10 * ix x1 + 1) t55 := f59
  refine lv_aload_n hx hb dX6_lifts_64 rfl (lv_at hl 6 rfl) ?_
  refine lv_iload_n hx hb dX6_lifts_65 rfl (lv_at hl 5 rfl) ?_
  refine lv_iconst (v := 2) hx hb dX6_lifts_66 (by decide) ?_
  refine lv_iload hx hb dX6_lifts_67 (lv_at hl 3 rfl) ?_
  refine lv_i2l hx hb dX6_lifts_69 rfl ?_
  refine g_i2l (fun t61 ht61 => ?_)
  have hTo := hT
  refine tVv (n := 3) (As := [.int x1, .int 2, .long t61]) (rest := []) hx hb hml hown hg hT hK hX (X6_put l κ s57 this x1 2 t61  (hT.k t_this (by decide)) (by omega) (by omega) (by omega) (by omega)) (fun _ _ h => h) (mwV k1600 k1602 k74 k92 k1603) ⟨rfl, by decide, by decide, by decide +kernel⟩ ⟨(Nat.le_of_ble_eq_true rfl), (Nat.le_of_ble_eq_true rfl)⟩ (hT.o20 (hT.k t_this (by decide))) rfl rfl hl.1 rfl (Nat.le_of_ble_eq_true rfl) dX6_lifts_70 zroom.rf (fun s63 H locs hφ hEs63 hT => ?_)
  have f65 := hφ
  try simp only [erW, erP, ix_0, ix_1, ix_2, ix_3, ix_4, ix_5, ix_6, ix_7, ix_8, ix_9] at f65
  have E66 : zJ s63 rW = vp_updL (zJ s57 rW) (149 + 10 * ix x1 + 2) t61 := f65
  refine lv_aload_n hx hb dX6_lifts_73 rfl (lv_at hl 6 rfl) ?_
  refine lv_iload_n hx hb dX6_lifts_74 rfl (lv_at hl 5 rfl) ?_
  refine lv_iconst (v := 3) hx hb dX6_lifts_75 (by decide) ?_
  refine lv_lload hx hb dX6_lifts_76 (lv_at hl 1 rfl) ?_
  have hTo := hT
  refine tVv (n := 3) (As := [.int x1, .int 3, .long x30]) (rest := []) hx hb hml hown hg hT hK hX (X6_put l κ s63 this x1 3 x30  (hT.k t_this (by decide)) (by omega) (by omega) (by omega) (by omega)) (fun _ _ h => h) (mwV k1600 k1602 k74 k92 k1603) ⟨rfl, by decide, by decide, by decide +kernel⟩ ⟨(Nat.le_of_ble_eq_true rfl), (Nat.le_of_ble_eq_true rfl)⟩ (hT.o20 (hT.k t_this (by decide))) rfl rfl hl.1 rfl (Nat.le_of_ble_eq_true rfl) dX6_lifts_78 zroom.rf (fun s68 H locs hφ hEs68 hT => ?_)
  have f70 := hφ
  try simp only [erW, erP, ix_0, ix_1, ix_2, ix_3, ix_4, ix_5, ix_6, ix_7, ix_8, ix_9] at f70
  have E71 : zJ s68 rW = vp_updL (zJ s63 rW) (149 + 10 * ix x1 + 3) x30 := f70
  refine lv_aload_n hx hb dX6_lifts_81 rfl (lv_at hl 6 rfl) ?_
  refine lv_iload_n hx hb dX6_lifts_82 rfl (lv_at hl 5 rfl) ?_
  refine lv_iconst (v := 4) hx hb dX6_lifts_83 (by decide) ?_
  refine lv_aload_n hx hb dX6_lifts_84 rfl (lv_at hl 6 rfl) ?_
  refine va_get (D := κ.1) (ci := 6) (v := .ref (kR κ this 1)) (C := RX6) (T := TX6) (N := 27) hx hb hg inX6 hown hK (hT.o20 (hT.k t_this (by decide))).one 0 rfl rfl 1 (by decide) (hg _ k1220) (fun _ h9 => h9) rfl dX6_lifts_85 ?_
  rw [erW]
  refine lv_bipush (v := 53) hx hb dX6_lifts_88 (by decide) ?_
  refine lv_iload_n hx hb dX6_lifts_90 rfl (lv_at hl 7 rfl) ?_
  refine lv_iadd hx hb dX6_lifts_91 ?_
  first | refine g_add (by omega) (by omega) (fun t72 ht72 => ?_) | refine lv_topi (fun t72 ht72 => ?_)
  refine va_lald hx hb hK (hT.o21 (hT.k trW (by decide))).one 0 1 rfl rfl (g_in (by omega) (by omega)) dX6_lifts_92 ?_
  refine lv_topl (fun t73 ht73 => ?_)
  have xt73 : rwt (zJ s68 rW) (ix i) = t73.toInt := by rw [ht73]; exact congrArg (fun q9 => (zJ s68 rW q9).toInt) (show 53 + ix i = ix t72 from by unfold ix; omega)
  have yt73 : t73.toInt = rwt (zJ σ0 rW) (ix i) := by rw [← xt73]; show (zJ s68 rW (53 + ix i)).toInt = _; rw [E71, un (d53_r u_i), E66, un (d53_r u_i), E60, un (d53_r u_i), E54, un (d53_r u_i), E40, E32, E21, E12, E3]; try rfl
  have hTo := hT
  refine tVv (n := 3) (As := [.int x1, .int 4, .long t73]) (rest := []) hx hb hml hown hg hT hK hX (X6_put l κ s68 this x1 4 t73  (hT.k t_this (by decide)) (by omega) (by omega) (by omega) (by omega)) (fun _ _ h => h) (mwV k1600 k1602 k74 k92 k1603) ⟨rfl, by decide, by decide, by decide +kernel⟩ ⟨(Nat.le_of_ble_eq_true rfl), (Nat.le_of_ble_eq_true rfl)⟩ (hT.o20 (hT.k t_this (by decide))) rfl rfl hl.1 rfl (Nat.le_of_ble_eq_true rfl) dX6_lifts_93 zroom.rf (fun s75 H locs hφ hEs75 hT => ?_)
  have f77 := hφ
  try simp only [erW, erP, ix_0, ix_1, ix_2, ix_3, ix_4, ix_5, ix_6, ix_7, ix_8, ix_9] at f77
  have E78 : zJ s75 rW = vp_updL (zJ s68 rW) (149 + 10 * ix x1 + 4) t73 := f77
  clear xt73 ht73 ht72
  refine lv_aload_n hx hb dX6_lifts_96 rfl (lv_at hl 6 rfl) ?_
  refine lv_iload_n hx hb dX6_lifts_97 rfl (lv_at hl 5 rfl) ?_
  refine lv_iconst (v := 5) hx hb dX6_lifts_98 (by decide) ?_
  refine lv_lload hx hb dX6_lifts_99 (lv_at hl 0 rfl) ?_
  have hTo := hT
  refine tVv (n := 3) (As := [.int x1, .int 5, .long x38]) (rest := []) hx hb hml hown hg hT hK hX (X6_put l κ s75 this x1 5 x38  (hT.k t_this (by decide)) (by omega) (by omega) (by omega) (by omega)) (fun _ _ h => h) (mwV k1600 k1602 k74 k92 k1603) ⟨rfl, by decide, by decide, by decide +kernel⟩ ⟨(Nat.le_of_ble_eq_true rfl), (Nat.le_of_ble_eq_true rfl)⟩ (hT.o20 (hT.k t_this (by decide))) rfl rfl hl.1 rfl (Nat.le_of_ble_eq_true rfl) dX6_lifts_101 zroom.rf (fun s80 H locs hφ hEs80 hT => ?_)
  have f82 := hφ
  try simp only [erW, erP, ix_0, ix_1, ix_2, ix_3, ix_4, ix_5, ix_6, ix_7, ix_8, ix_9] at f82
  have E83 : zJ s80 rW = vp_updL (zJ s75 rW) (149 + 10 * ix x1 + 5) x38 := f82
  refine lv_aload_n hx hb dX6_lifts_104 rfl (lv_at hl 6 rfl) ?_
  refine lv_iload_n hx hb dX6_lifts_105 rfl (lv_at hl 5 rfl) ?_
  refine lv_bipush (v := 6) hx hb dX6_lifts_106 (by decide) ?_
  refine lv_aload_n hx hb dX6_lifts_108 rfl (lv_at hl 6 rfl) ?_
  refine va_get (D := κ.1) (ci := 6) (v := .ref (kR κ this 1)) (C := RX6) (T := TX6) (N := 27) hx hb hg inX6 hown hK (hT.o20 (hT.k t_this (by decide))).one 0 rfl rfl 1 (by decide) (hg _ k1220) (fun _ h9 => h9) rfl dX6_lifts_109 ?_
  rw [erW]
  refine lv_bipush (v := 53) hx hb dX6_lifts_112 (by decide) ?_
  refine lv_iload_n hx hb dX6_lifts_114 rfl (lv_at hl 4 rfl) ?_
  refine lv_iadd hx hb dX6_lifts_115 ?_
  first | refine g_add (by omega) (by omega) (fun t84 ht84 => ?_) | refine lv_topi (fun t84 ht84 => ?_)
  refine va_lald hx hb hK (hT.o21 (hT.k trW (by decide))).one 0 1 rfl rfl (g_in (by omega) (by omega)) dX6_lifts_116 ?_
  refine lv_topl (fun t85 ht85 => ?_)
  have xt85 : rwt (zJ s80 rW) (ix x10) = t85.toInt := by rw [ht85]; exact congrArg (fun q9 => (zJ s80 rW q9).toInt) (show 53 + ix x10 = ix t84 from by unfold ix; omega)
  have yt85 : t85.toInt = rwt (zJ σ0 rW) (ix x10) := by rw [← xt85]; show (zJ s80 rW (53 + ix x10)).toInt = _; rw [E83, un (d53_r u_x10), E78, un (d53_r u_x10), E71, un (d53_r u_x10), E66, un (d53_r u_x10), E60, un (d53_r u_x10), E54, un (d53_r u_x10), E40, E32, E21, E12, E3]; try rfl
  have hTo := hT
  refine tVv (n := 3) (As := [.int x1, .int 6, .long t85]) (rest := []) hx hb hml hown hg hT hK hX (X6_put l κ s80 this x1 6 t85  (hT.k t_this (by decide)) (by omega) (by omega) (by omega) (by omega)) (fun _ _ h => h) (mwV k1600 k1602 k74 k92 k1603) ⟨rfl, by decide, by decide, by decide +kernel⟩ ⟨(Nat.le_of_ble_eq_true rfl), (Nat.le_of_ble_eq_true rfl)⟩ (hT.o20 (hT.k t_this (by decide))) rfl rfl hl.1 rfl (Nat.le_of_ble_eq_true rfl) dX6_lifts_117 zroom.rf (fun s87 H locs hφ hEs87 hT => ?_)
  have f89 := hφ
  try simp only [erW, erP, ix_0, ix_1, ix_2, ix_3, ix_4, ix_5, ix_6, ix_7, ix_8, ix_9] at f89
  have E90 : zJ s87 rW = vp_updL (zJ s80 rW) (149 + 10 * ix x1 + 6) t85 := f89
  clear xt85 ht85 ht84
  refine lv_aload_n hx hb dX6_lifts_120 rfl (lv_at hl 6 rfl) ?_
  refine lv_iload_n hx hb dX6_lifts_121 rfl (lv_at hl 5 rfl) ?_
  refine lv_bipush (v := 7) hx hb dX6_lifts_122 (by decide) ?_
  refine lv_aload_n hx hb dX6_lifts_124 rfl (lv_at hl 6 rfl) ?_
  refine va_get (D := κ.1) (ci := 6) (v := .ref (kR κ this 1)) (C := RX6) (T := TX6) (N := 27) hx hb hg inX6 hown hK (hT.o20 (hT.k t_this (by decide))).one 0 rfl rfl 1 (by decide) (hg _ k1220) (fun _ h9 => h9) rfl dX6_lifts_125 ?_
  rw [erW]
  refine lv_bipush (v := 53) hx hb dX6_lifts_128 (by decide) ?_
  refine lv_iload hx hb dX6_lifts_130 (lv_at hl 3 rfl) ?_
  refine lv_iadd hx hb dX6_lifts_132 ?_
  first | refine g_add (by omega) (by omega) (fun t91 ht91 => ?_) | refine lv_topi (fun t91 ht91 => ?_)
  refine va_lald hx hb hK (hT.o21 (hT.k trW (by decide))).one 0 1 rfl rfl (g_in (by omega) (by omega)) dX6_lifts_133 ?_
  refine lv_topl (fun t92 ht92 => ?_)
  have xt92 : rwt (zJ s87 rW) (ix x19) = t92.toInt := by rw [ht92]; exact congrArg (fun q9 => (zJ s87 rW q9).toInt) (show 53 + ix x19 = ix t91 from by unfold ix; omega)
  have yt92 : t92.toInt = rwt (zJ σ0 rW) (ix x19) := by rw [← xt92]; show (zJ s87 rW (53 + ix x19)).toInt = _; rw [E90, un (d53_r u_x19), E83, un (d53_r u_x19), E78, un (d53_r u_x19), E71, un (d53_r u_x19), E66, un (d53_r u_x19), E60, un (d53_r u_x19), E54, un (d53_r u_x19), E40, E32, E21, E12, E3]; try rfl
  have hTo := hT
  refine tVv (n := 3) (As := [.int x1, .int 7, .long t92]) (rest := []) hx hb hml hown hg hT hK hX (X6_put l κ s87 this x1 7 t92  (hT.k t_this (by decide)) (by omega) (by omega) (by omega) (by omega)) (fun _ _ h => h) (mwV k1600 k1602 k74 k92 k1603) ⟨rfl, by decide, by decide, by decide +kernel⟩ ⟨(Nat.le_of_ble_eq_true rfl), (Nat.le_of_ble_eq_true rfl)⟩ (hT.o20 (hT.k t_this (by decide))) rfl rfl hl.1 rfl (Nat.le_of_ble_eq_true rfl) dX6_lifts_134 zroom.rf (fun s94 H locs hφ hEs94 hT => ?_)
  have f96 := hφ
  try simp only [erW, erP, ix_0, ix_1, ix_2, ix_3, ix_4, ix_5, ix_6, ix_7, ix_8, ix_9] at f96
  have E97 : zJ s94 rW = vp_updL (zJ s87 rW) (149 + 10 * ix x1 + 7) t92 := f96
  clear xt92 ht92 ht91
  refine lv_aload_n hx hb dX6_lifts_137 rfl (lv_at hl 6 rfl) ?_
  refine lv_iload_n hx hb dX6_lifts_138 rfl (lv_at hl 5 rfl) ?_
  refine lv_bipush (v := 8) hx hb dX6_lifts_139 (by decide) ?_
  refine lv_iload hx hb dX6_lifts_141 (lv_at hl 2 rfl) ?_
  refine lv_i2l hx hb dX6_lifts_143 rfl ?_
  refine g_i2l (fun t98 ht98 => ?_)
  have hTo := hT
  refine tVv (n := 3) (As := [.int x1, .int 8, .long t98]) (rest := []) hx hb hml hown hg hT hK hX (X6_put l κ s94 this x1 8 t98  (hT.k t_this (by decide)) (by omega) (by omega) (by omega) (by omega)) (fun _ _ h => h) (mwV k1600 k1602 k74 k92 k1603) ⟨rfl, by decide, by decide, by decide +kernel⟩ ⟨(Nat.le_of_ble_eq_true rfl), (Nat.le_of_ble_eq_true rfl)⟩ (hT.o20 (hT.k t_this (by decide))) rfl rfl hl.1 rfl (Nat.le_of_ble_eq_true rfl) dX6_lifts_144 zroom.rf (fun s100 H locs hφ hEs100 hT => ?_)
  have f102 := hφ
  try simp only [erW, erP, ix_0, ix_1, ix_2, ix_3, ix_4, ix_5, ix_6, ix_7, ix_8, ix_9] at f102
  have E103 : zJ s100 rW = vp_updL (zJ s94 rW) (149 + 10 * ix x1 + 8) t98 := f102
  refine lv_aload_n hx hb dX6_lifts_147 rfl (lv_at hl 6 rfl) ?_
  refine lv_iload_n hx hb dX6_lifts_148 rfl (lv_at hl 5 rfl) ?_
  refine lv_bipush (v := 9) hx hb dX6_lifts_149 (by decide) ?_
  refine lv_aload_n hx hb dX6_lifts_151 rfl (lv_at hl 6 rfl) ?_
  refine va_get (D := κ.1) (ci := 6) (v := .ref (kR κ this 1)) (C := RX6) (T := TX6) (N := 27) hx hb hg inX6 hown hK (hT.o20 (hT.k t_this (by decide))).one 0 rfl rfl 1 (by decide) (hg _ k1220) (fun _ h9 => h9) rfl dX6_lifts_152 ?_
  rw [erW]
  refine lv_iconst (v := 2) hx hb dX6_lifts_155 (by decide) ?_
  refine va_lald hx hb hK (hT.o21 (hT.k trW (by decide))).one 0 1 rfl rfl (g_in (by omega) (by omega)) dX6_lifts_156 ?_
  refine lv_topl (fun t104 ht104 => ?_)
  have xt104 : (zJ s100 rW 2).toInt = t104.toInt := by rw [ht104]; exact congrArg (fun q9 => (zJ s100 rW q9).toInt) (show 2 = ix 2 from by decide)
  have yt104 : t104.toInt = (zJ σ0 rW 2).toInt := by rw [← xt104]; show (zJ s100 rW (2)).toInt = _; rw [E103, un (show 2 ≠ 149 + 10 * ix x1 + 8 from by omega), E97, un (show 2 ≠ 149 + 10 * ix x1 + 7 from by omega), E90, un (show 2 ≠ 149 + 10 * ix x1 + 6 from by omega), E83, un (show 2 ≠ 149 + 10 * ix x1 + 5 from by omega), E78, un (show 2 ≠ 149 + 10 * ix x1 + 4 from by omega), E71, un (show 2 ≠ 149 + 10 * ix x1 + 3 from by omega), E66, un (show 2 ≠ 149 + 10 * ix x1 + 2 from by omega), E60, un (show 2 ≠ 149 + 10 * ix x1 + 1 from by omega), E54, un (show 2 ≠ 149 + 10 * ix x1 + 0 from by omega), E40, E32, E21, E12, E3]
  have hTo := hT
  refine tVv (n := 3) (As := [.int x1, .int 9, .long t104]) (rest := []) hx hb hml hown hg hT hK hX (X6_put l κ s100 this x1 9 t104  (hT.k t_this (by decide)) (by omega) (by omega) (by omega) (by omega)) (fun _ _ h => h) (mwV k1600 k1602 k74 k92 k1603) ⟨rfl, by decide, by decide, by decide +kernel⟩ ⟨(Nat.le_of_ble_eq_true rfl), (Nat.le_of_ble_eq_true rfl)⟩ (hT.o20 (hT.k t_this (by decide))) rfl rfl hl.1 rfl (Nat.le_of_ble_eq_true rfl) dX6_lifts_157 zroom.rf (fun s106 H locs hφ hEs106 hT => ?_)
  have f108 := hφ
  try simp only [erW, erP, ix_0, ix_1, ix_2, ix_3, ix_4, ix_5, ix_6, ix_7, ix_8, ix_9] at f108
  have E109 : zJ s106 rW = vp_updL (zJ s100 rW) (149 + 10 * ix x1 + 9) t104 := f108
  clear xt104 ht104
  refine lv_aload_n hx hb dX6_lifts_160 rfl (lv_at hl 6 rfl) ?_
  refine va_get (D := κ.1) (ci := 6) (v := .ref (kR κ this 1)) (C := RX6) (T := TX6) (N := 27) hx hb hg inX6 hown hK (hT.o20 (hT.k t_this (by decide))).one 0 rfl rfl 1 (by decide) (hg _ k1220) (fun _ h9 => h9) rfl dX6_lifts_161 ?_
  rw [erW]
  refine lv_iconst (v := 3) hx hb dX6_lifts_164 (by decide) ?_
  refine lv_dup2_11 hx hb dX6_lifts_165 rfl rfl ?_
  refine va_lald hx hb hK (hT.o21 (hT.k trW (by decide))).one 0 1 rfl rfl (g_in (by omega) (by omega)) dX6_lifts_166 ?_
  refine lv_topl (fun t110 ht110 => ?_)
  have xt110 : (zJ s106 rW 3).toInt = t110.toInt := by rw [ht110]; exact congrArg (fun q9 => (zJ s106 rW q9).toInt) (show 3 = ix 3 from by decide)
  have yt110 : t110.toInt = (zJ σ0 rW 3).toInt := by rw [← xt110]; show (zJ s106 rW (3)).toInt = _; rw [E109, un (show 3 ≠ 149 + 10 * ix x1 + 9 from by omega), E103, un (show 3 ≠ 149 + 10 * ix x1 + 8 from by omega), E97, un (show 3 ≠ 149 + 10 * ix x1 + 7 from by omega), E90, un (show 3 ≠ 149 + 10 * ix x1 + 6 from by omega), E83, un (show 3 ≠ 149 + 10 * ix x1 + 5 from by omega), E78, un (show 3 ≠ 149 + 10 * ix x1 + 4 from by omega), E71, un (show 3 ≠ 149 + 10 * ix x1 + 3 from by omega), E66, un (show 3 ≠ 149 + 10 * ix x1 + 2 from by omega), E60, un (show 3 ≠ 149 + 10 * ix x1 + 1 from by omega), E54, un (show 3 ≠ 149 + 10 * ix x1 + 0 from by omega), E40, E32, E21, E12, E3]
  refine lv_aload_n hx hb dX6_lifts_167 rfl (lv_at hl 6 rfl) ?_
  refine va_get (D := κ.1) (ci := 6) (v := .ref (kR κ this 1)) (C := RX6) (T := TX6) (N := 27) hx hb hg inX6 hown hK (hT.o20 (hT.k t_this (by decide))).one 0 rfl rfl 1 (by decide) (hg _ k1220) (fun _ h9 => h9) rfl dX6_lifts_168 ?_
  rw [erW]
  refine lv_bipush (v := 53) hx hb dX6_lifts_171 (by decide) ?_
  refine lv_iload_n hx hb dX6_lifts_173 rfl (lv_at hl 4 rfl) ?_
  refine lv_iadd hx hb dX6_lifts_174 ?_
  first | refine g_add (by omega) (by omega) (fun t111 ht111 => ?_) | refine lv_topi (fun t111 ht111 => ?_)
  refine va_lald hx hb hK (hT.o21 (hT.k trW (by decide))).one 0 1 rfl rfl (g_in (by omega) (by omega)) dX6_lifts_175 ?_
  refine lv_topl (fun t112 ht112 => ?_)
  refine lv_aload_n hx hb dX6_lifts_176 rfl (lv_at hl 6 rfl) ?_
  refine va_get (D := κ.1) (ci := 6) (v := .ref (kR κ this 1)) (C := RX6) (T := TX6) (N := 27) hx hb hg inX6 hown hK (hT.o20 (hT.k t_this (by decide))).one 0 rfl rfl 1 (by decide) (hg _ k1220) (fun _ h9 => h9) rfl dX6_lifts_177 ?_
  rw [erW]
  refine lv_iconst (v := 5) hx hb dX6_lifts_180 (by decide) ?_
  refine lv_iload_n hx hb dX6_lifts_181 rfl (lv_at hl 4 rfl) ?_
  refine lv_iadd hx hb dX6_lifts_182 ?_
  first | refine g_add (by omega) (by omega) (fun t113 ht113 => ?_) | refine lv_topi (fun t113 ht113 => ?_)
  refine va_lald hx hb hK (hT.o21 (hT.k trW (by decide))).one 0 1 rfl rfl (g_in (by omega) (by omega)) dX6_lifts_183 ?_
  refine lv_topl (fun t114 ht114 => ?_)
  refine lv_lmul hx hb dX6_lifts_184 ?_
  refine lv_topl (fun t115 ht115 => ?_)
  refine lv_aload_n hx hb dX6_lifts_185 rfl (lv_at hl 6 rfl) ?_
  refine va_get (D := κ.1) (ci := 6) (v := .ref (kR κ this 1)) (C := RX6) (T := TX6) (N := 27) hx hb hg inX6 hown hK (hT.o20 (hT.k t_this (by decide))).one 0 rfl rfl 1 (by decide) (hg _ k1220) (fun _ h9 => h9) rfl dX6_lifts_186 ?_
  rw [erW]
  refine lv_bipush (v := 53) hx hb dX6_lifts_189 (by decide) ?_
  refine lv_iload hx hb dX6_lifts_191 (lv_at hl 3 rfl) ?_
  refine lv_iadd hx hb dX6_lifts_193 ?_
  first | refine g_add (by omega) (by omega) (fun t116 ht116 => ?_) | refine lv_topi (fun t116 ht116 => ?_)
  refine va_lald hx hb hK (hT.o21 (hT.k trW (by decide))).one 0 1 rfl rfl (g_in (by omega) (by omega)) dX6_lifts_194 ?_
  refine lv_topl (fun t117 ht117 => ?_)
  refine lv_aload_n hx hb dX6_lifts_195 rfl (lv_at hl 6 rfl) ?_
  refine va_get (D := κ.1) (ci := 6) (v := .ref (kR κ this 1)) (C := RX6) (T := TX6) (N := 27) hx hb hg inX6 hown hK (hT.o20 (hT.k t_this (by decide))).one 0 rfl rfl 1 (by decide) (hg _ k1220) (fun _ h9 => h9) rfl dX6_lifts_196 ?_
  rw [erW]
  refine lv_iconst (v := 5) hx hb dX6_lifts_199 (by decide) ?_
  refine lv_iload hx hb dX6_lifts_200 (lv_at hl 3 rfl) ?_
  refine lv_iadd hx hb dX6_lifts_202 ?_
  first | refine g_add (by omega) (by omega) (fun t118 ht118 => ?_) | refine lv_topi (fun t118 ht118 => ?_)
  refine va_lald hx hb hK (hT.o21 (hT.k trW (by decide))).one 0 1 rfl rfl (g_in (by omega) (by omega)) dX6_lifts_203 ?_
  refine lv_topl (fun t119 ht119 => ?_)
  refine lv_lmul hx hb dX6_lifts_204 ?_
  refine lv_topl (fun t120 ht120 => ?_)
  refine lv_ladd hx hb dX6_lifts_205 ?_
  refine lv_topl (fun t121 ht121 => ?_)
  refine lv_aload_n hx hb dX6_lifts_206 rfl (lv_at hl 6 rfl) ?_
  refine va_get (D := κ.1) (ci := 6) (v := .ref (kR κ this 1)) (C := RX6) (T := TX6) (N := 27) hx hb hg inX6 hown hK (hT.o20 (hT.k t_this (by decide))).one 0 rfl rfl 1 (by decide) (hg _ k1220) (fun _ h9 => h9) rfl dX6_lifts_207 ?_
  rw [erW]
  refine lv_bipush (v := 53) hx hb dX6_lifts_210 (by decide) ?_
  refine lv_iload_n hx hb dX6_lifts_212 rfl (lv_at hl 7 rfl) ?_
  refine lv_iadd hx hb dX6_lifts_213 ?_
  first | refine g_add (by omega) (by omega) (fun t122 ht122 => ?_) | refine lv_topi (fun t122 ht122 => ?_)
  refine va_lald hx hb hK (hT.o21 (hT.k trW (by decide))).one 0 1 rfl rfl (g_in (by omega) (by omega)) dX6_lifts_214 ?_
  refine lv_topl (fun t123 ht123 => ?_)
  refine lv_aload_n hx hb dX6_lifts_215 rfl (lv_at hl 6 rfl) ?_
  refine va_get (D := κ.1) (ci := 6) (v := .ref (kR κ this 1)) (C := RX6) (T := TX6) (N := 27) hx hb hg inX6 hown hK (hT.o20 (hT.k t_this (by decide))).one 0 rfl rfl 1 (by decide) (hg _ k1220) (fun _ h9 => h9) rfl dX6_lifts_216 ?_
  rw [erW]
  refine lv_iconst (v := 5) hx hb dX6_lifts_219 (by decide) ?_
  refine lv_iload_n hx hb dX6_lifts_220 rfl (lv_at hl 7 rfl) ?_
  refine lv_iadd hx hb dX6_lifts_221 ?_
  first | refine g_add (by omega) (by omega) (fun t124 ht124 => ?_) | refine lv_topi (fun t124 ht124 => ?_)
  refine va_lald hx hb hK (hT.o21 (hT.k trW (by decide))).one 0 1 rfl rfl (g_in (by omega) (by omega)) dX6_lifts_222 ?_
  refine lv_topl (fun t125 ht125 => ?_)
  refine lv_lmul hx hb dX6_lifts_223 ?_
  refine lv_topl (fun t126 ht126 => ?_)
  refine lv_ladd hx hb dX6_lifts_224 ?_
  refine lv_topl (fun t127 ht127 => ?_)
  refine lv_ladd hx hb dX6_lifts_225 ?_
  refine lv_topl (fun t128 ht128 => ?_)
  have hTo := hT
  refine tastlx (n := 609) hx hb hK hT (hT.k trW (by decide)) ⟨by decide, by decide⟩ (fun _ _ _ => rfl) (fun _ _ => trivial) (by omega) (by omega) (ge3_gW _ (by unfold ix; omega)) dX6_lifts_226 (fun H locs s129 hus129 hT => ?_)
  have E130 : zJ s129 rW = vp_updL (zJ s106 rW) (3) t128 := by rw [zpul_Ja hus129]; exact congrArg (fun q9 => vp_updL (zJ s106 rW) q9 t128) (show ix 3 = 3 from by decide)
  clear ht128 ht127 ht126 ht125 ht124 ht123 ht122 ht121 ht120 ht119 ht118 ht117 ht116 ht115 ht114 ht113 ht112 ht111 yt110 xt110 ht110
  refine lv_aload_n hx hb dX6_lifts_227 rfl (lv_at hl 6 rfl) ?_
  refine va_get (D := κ.1) (ci := 6) (v := .ref (kR κ this 1)) (C := RX6) (T := TX6) (N := 27) hx hb hg inX6 hown hK (hT.o20 (hT.k t_this (by decide))).one 0 rfl rfl 1 (by decide) (hg _ k1220) (fun _ h9 => h9) rfl dX6_lifts_228 ?_
  rw [erW]
  refine lv_bipush (v := 53) hx hb dX6_lifts_231 (by decide) ?_
  refine lv_iload_n hx hb dX6_lifts_233 rfl (lv_at hl 4 rfl) ?_
  refine lv_iadd hx hb dX6_lifts_234 ?_
  first | refine g_add (by omega) (by omega) (fun t131 ht131 => ?_) | refine lv_topi (fun t131 ht131 => ?_)
  refine lv_dup2_11 hx hb dX6_lifts_235 rfl rfl ?_
  refine va_lald hx hb hK (hT.o21 (hT.k trW (by decide))).one 0 1 rfl rfl (g_in (by omega) (by omega)) dX6_lifts_236 ?_
  refine lv_topl (fun t132 ht132 => ?_)
  have xt132 : rwt (zJ s129 rW) (ix x10) = t132.toInt := by rw [ht132]; exact congrArg (fun q9 => (zJ s129 rW q9).toInt) (show 53 + ix x10 = ix t131 from by unfold ix; omega)
  have yt132 : t132.toInt = rwt (zJ σ0 rW) (ix x10) := by rw [← xt132]; show (zJ s129 rW (53 + ix x10)).toInt = _; rw [E130, un d53_3, E109, un (d53_r u_x10), E103, un (d53_r u_x10), E97, un (d53_r u_x10), E90, un (d53_r u_x10), E83, un (d53_r u_x10), E78, un (d53_r u_x10), E71, un (d53_r u_x10), E66, un (d53_r u_x10), E60, un (d53_r u_x10), E54, un (d53_r u_x10), E40, E32, E21, E12, E3]; try rfl
  refine lv_lload hx hb dX6_lifts_237 (lv_at hl 0 rfl) ?_
  refine lv_ladd hx hb dX6_lifts_239 ?_
  refine g_addl (by omega) (by omega) (fun t133 ht133 => ?_)
  have hTo := hT
  refine tastlx (n := 609) hx hb hK hT (hT.k trW (by decide)) ⟨by decide, by decide⟩ (fun _ _ _ => rfl) (fun _ _ => trivial) (by omega) (by omega) (ge3_gW _ (by unfold ix; omega)) dX6_lifts_240 (fun H locs s134 hus134 hT => ?_)
  have E135 : zJ s134 rW = vp_updL (zJ s129 rW) (53 + ix x10) t133 := by rw [zpul_Ja hus134]; exact congrArg (fun q9 => vp_updL (zJ s129 rW) q9 t133) (show ix t131 = 53 + ix x10 from by unfold ix; omega)
  clear xt132 ht132 ht131
  refine lv_aload_n hx hb dX6_lifts_241 rfl (lv_at hl 6 rfl) ?_
  refine va_get (D := κ.1) (ci := 6) (v := .ref (kR κ this 1)) (C := RX6) (T := TX6) (N := 27) hx hb hg inX6 hown hK (hT.o20 (hT.k t_this (by decide))).one 0 rfl rfl 1 (by decide) (hg _ k1220) (fun _ h9 => h9) rfl dX6_lifts_242 ?_
  rw [erW]
  refine lv_bipush (v := 53) hx hb dX6_lifts_245 (by decide) ?_
  refine lv_iload hx hb dX6_lifts_247 (lv_at hl 3 rfl) ?_
  refine lv_iadd hx hb dX6_lifts_249 ?_
  first | refine g_add (by omega) (by omega) (fun t136 ht136 => ?_) | refine lv_topi (fun t136 ht136 => ?_)
  refine lv_dup2_11 hx hb dX6_lifts_250 rfl rfl ?_
  refine va_lald hx hb hK (hT.o21 (hT.k trW (by decide))).one 0 1 rfl rfl (g_in (by omega) (by omega)) dX6_lifts_251 ?_
  refine lv_topl (fun t137 ht137 => ?_)
  have xt137 : rwt (zJ s134 rW) (ix x19) = t137.toInt := by rw [ht137]; exact congrArg (fun q9 => (zJ s134 rW q9).toInt) (show 53 + ix x19 = ix t136 from by unfold ix; omega)
  have yt137 : t137.toInt = rwt (zJ σ0 rW) (ix x19) := by rw [← xt137]; show (zJ s134 rW (53 + ix x19)).toInt = _; rw [E135, un (d53_53 n_x19_x10), E130, un d53_3, E109, un (d53_r u_x19), E103, un (d53_r u_x19), E97, un (d53_r u_x19), E90, un (d53_r u_x19), E83, un (d53_r u_x19), E78, un (d53_r u_x19), E71, un (d53_r u_x19), E66, un (d53_r u_x19), E60, un (d53_r u_x19), E54, un (d53_r u_x19), E40, E32, E21, E12, E3]; try rfl
  refine lv_aload_n hx hb dX6_lifts_252 rfl (lv_at hl 6 rfl) ?_
  refine va_get (D := κ.1) (ci := 6) (v := .ref (kR κ this 1)) (C := RX6) (T := TX6) (N := 27) hx hb hg inX6 hown hK (hT.o20 (hT.k t_this (by decide))).one 0 rfl rfl 1 (by decide) (hg _ k1220) (fun _ h9 => h9) rfl dX6_lifts_253 ?_
  rw [erW]
  refine lv_bipush (v := 53) hx hb dX6_lifts_256 (by decide) ?_
  refine lv_iload_n hx hb dX6_lifts_258 rfl (lv_at hl 7 rfl) ?_
  refine lv_iadd hx hb dX6_lifts_259 ?_
  first | refine g_add (by omega) (by omega) (fun t138 ht138 => ?_) | refine lv_topi (fun t138 ht138 => ?_)
  refine va_lald hx hb hK (hT.o21 (hT.k trW (by decide))).one 0 1 rfl rfl (g_in (by omega) (by omega)) dX6_lifts_260 ?_
  refine lv_topl (fun t139 ht139 => ?_)
  have xt139 : rwt (zJ s134 rW) (ix i) = t139.toInt := by rw [ht139]; exact congrArg (fun q9 => (zJ s134 rW q9).toInt) (show 53 + ix i = ix t138 from by unfold ix; omega)
  have yt139 : t139.toInt = rwt (zJ σ0 rW) (ix i) := by rw [← xt139]; show (zJ s134 rW (53 + ix i)).toInt = _; rw [E135, un (d53_53 n_i_x10), E130, un d53_3, E109, un (d53_r u_i), E103, un (d53_r u_i), E97, un (d53_r u_i), E90, un (d53_r u_i), E83, un (d53_r u_i), E78, un (d53_r u_i), E71, un (d53_r u_i), E66, un (d53_r u_i), E60, un (d53_r u_i), E54, un (d53_r u_i), E40, E32, E21, E12, E3]; try rfl
  refine lv_lload hx hb dX6_lifts_261 (lv_at hl 0 rfl) ?_
  refine lv_lsub hx hb dX6_lifts_263 ?_
  refine g_subl (by omega) (by omega) (fun t140 ht140 => ?_)
  refine lv_ladd hx hb dX6_lifts_264 ?_
  refine g_addl (by omega) (by omega) (fun t141 ht141 => ?_)
  have hTo := hT
  refine tastlx (n := 609) hx hb hK hT (hT.k trW (by decide)) ⟨by decide, by decide⟩ (fun _ _ _ => rfl) (fun _ _ => trivial) (by omega) (by omega) (ge3_gW _ (by unfold ix; omega)) dX6_lifts_265 (fun H locs s142 hus142 hT => ?_)
  have E143 : zJ s142 rW = vp_updL (zJ s134 rW) (53 + ix x19) t141 := by rw [zpul_Ja hus142]; exact congrArg (fun q9 => vp_updL (zJ s134 rW) q9 t141) (show ix t136 = 53 + ix x19 from by unfold ix; omega)
  clear xt139 ht139 ht138 xt137 ht137 ht136
  refine lv_aload_n hx hb dX6_lifts_266 rfl (lv_at hl 6 rfl) ?_
  refine lv_iload_n hx hb dX6_lifts_267 rfl (lv_at hl 5 rfl) ?_
  refine lv_aload_n hx hb dX6_lifts_268 rfl (lv_at hl 6 rfl) ?_
  refine va_get (D := κ.1) (ci := 6) (v := .ref (kR κ this 1)) (C := RX6) (T := TX6) (N := 27) hx hb hg inX6 hown hK (hT.o20 (hT.k t_this (by decide))).one 0 rfl rfl 1 (by decide) (hg _ k1220) (fun _ h9 => h9) rfl dX6_lifts_269 ?_
  rw [erW]
  refine lv_bipush (v := 53) hx hb dX6_lifts_272 (by decide) ?_
  refine lv_iload_n hx hb dX6_lifts_274 rfl (lv_at hl 4 rfl) ?_
  refine lv_iadd hx hb dX6_lifts_275 ?_
  first | refine g_add (by omega) (by omega) (fun t144 ht144 => ?_) | refine lv_topi (fun t144 ht144 => ?_)
  refine va_lald hx hb hK (hT.o21 (hT.k trW (by decide))).one 0 1 rfl rfl (g_in (by omega) (by omega)) dX6_lifts_276 ?_
  refine lv_topl (fun t145 ht145 => ?_)
  have xt145 : rwt (zJ s142 rW) (ix x10) = t145.toInt := by rw [ht145]; exact congrArg (fun q9 => (zJ s142 rW q9).toInt) (show 53 + ix x10 = ix t144 from by unfold ix; omega)
  have yt145 : t145.toInt = t133.toInt := by rw [← xt145]; show (zJ s142 rW (53 + ix x10)).toInt = _; rw [E143, un (d53_53 n_x10_x19), E135, uh]
  refine lv_aload_n hx hb dX6_lifts_277 rfl (lv_at hl 6 rfl) ?_
  refine va_get (D := κ.1) (ci := 6) (v := .ref (kR κ this 1)) (C := RX6) (T := TX6) (N := 27) hx hb hg inX6 hown hK (hT.o20 (hT.k t_this (by decide))).one 0 rfl rfl 1 (by decide) (hg _ k1220) (fun _ h9 => h9) rfl dX6_lifts_278 ?_
  rw [erW]
  refine lv_bipush (v := 53) hx hb dX6_lifts_281 (by decide) ?_
  refine lv_iload hx hb dX6_lifts_283 (lv_at hl 3 rfl) ?_
  refine lv_iadd hx hb dX6_lifts_285 ?_
  first | refine g_add (by omega) (by omega) (fun t146 ht146 => ?_) | refine lv_topi (fun t146 ht146 => ?_)
  refine va_lald hx hb hK (hT.o21 (hT.k trW (by decide))).one 0 1 rfl rfl (g_in (by omega) (by omega)) dX6_lifts_286 ?_
  refine lv_topl (fun t147 ht147 => ?_)
  have xt147 : rwt (zJ s142 rW) (ix x19) = t147.toInt := by rw [ht147]; exact congrArg (fun q9 => (zJ s142 rW q9).toInt) (show 53 + ix x19 = ix t146 from by unfold ix; omega)
  have yt147 : t147.toInt = t141.toInt := by rw [← xt147]; show (zJ s142 rW (53 + ix x19)).toInt = _; rw [E143, uh]
  have hTo := hT
  refine tVl (n := 3) (As := [.int x1, .long t145, .long t147]) (rest := []) hx hb hml hown hg hT hK hX (X6_gets l κ s142 this x1 t145 t147  (hT.k t_this (by decide)) (by omega) (by omega) (by omega) (by omega) (by omega) (by omega) (by omega)) sub_fE_gW (mwV k1604 k1606 k75 k92 k1607) ⟨rfl, by decide, by decide, by decide +kernel⟩ ⟨(Nat.le_of_ble_eq_true rfl), (Nat.le_of_ble_eq_true rfl)⟩ (hT.o20 (hT.k t_this (by decide))) rfl rfl hl.1 rfl (Nat.le_of_ble_eq_true rfl) dX6_lifts_287 zroom.rf (fun x148 s149 H locs hφ hEs149 hT => ?_)
  have E150 : zJ s149 rW = zJ s142 rW := funext fun k => (hTo.k trW (by decide)).eJ hEs149 (by decide) rfl
  refine lv_lstore (lv' := [(10, .long x148), (8, .long x38), (6, .long x30), (5, .int t29), (4, .int x19), (3, .int x10), (2, .int x1), (0, .ref this), (1, .int i)]) hx hb dX6_lifts_290 hl (by decide) rfl (fun ls hl => ?_)
  clear xt147 ht147 ht146 xt145 ht145 ht144
  refine lv_aload_n hx hb dX6_lifts_292 rfl (lv_at hl 7 rfl) ?_
  refine lv_iload_n hx hb dX6_lifts_293 rfl (lv_at hl 6 rfl) ?_
  refine lv_aload_n hx hb dX6_lifts_294 rfl (lv_at hl 7 rfl) ?_
  refine va_get (D := κ.1) (ci := 6) (v := .ref (kR κ this 1)) (C := RX6) (T := TX6) (N := 27) hx hb hg inX6 hown hK (hT.o20 (hT.k t_this (by decide))).one 0 rfl rfl 1 (by decide) (hg _ k1220) (fun _ h9 => h9) rfl dX6_lifts_295 ?_
  rw [erW]
  refine lv_bipush (v := 53) hx hb dX6_lifts_298 (by decide) ?_
  refine lv_iload hx hb dX6_lifts_300 (lv_at hl 4 rfl) ?_
  refine lv_iadd hx hb dX6_lifts_302 ?_
  first | refine g_add (by omega) (by omega) (fun t151 ht151 => ?_) | refine lv_topi (fun t151 ht151 => ?_)
  refine va_lald hx hb hK (hT.o21 (hT.k trW (by decide))).one 0 1 rfl rfl (g_in (by omega) (by omega)) dX6_lifts_303 ?_
  refine lv_topl (fun t152 ht152 => ?_)
  have xt152 : rwt (zJ s149 rW) (ix x19) = t152.toInt := by rw [ht152]; exact congrArg (fun q9 => (zJ s149 rW q9).toInt) (show 53 + ix x19 = ix t151 from by unfold ix; omega)
  have yt152 : t152.toInt = t141.toInt := by rw [← xt152]; show (zJ s149 rW (53 + ix x19)).toInt = _; rw [E150, E143, uh]
  refine lv_aload_n hx hb dX6_lifts_304 rfl (lv_at hl 7 rfl) ?_
  refine va_get (D := κ.1) (ci := 6) (v := .ref (kR κ this 1)) (C := RX6) (T := TX6) (N := 27) hx hb hg inX6 hown hK (hT.o20 (hT.k t_this (by decide))).one 0 rfl rfl 1 (by decide) (hg _ k1220) (fun _ h9 => h9) rfl dX6_lifts_305 ?_
  rw [erW]
  refine lv_bipush (v := 53) hx hb dX6_lifts_308 (by decide) ?_
  refine lv_iload_n hx hb dX6_lifts_310 rfl (lv_at hl 5 rfl) ?_
  refine lv_iadd hx hb dX6_lifts_311 ?_
  first | refine g_add (by omega) (by omega) (fun t153 ht153 => ?_) | refine lv_topi (fun t153 ht153 => ?_)
  refine va_lald hx hb hK (hT.o21 (hT.k trW (by decide))).one 0 1 rfl rfl (g_in (by omega) (by omega)) dX6_lifts_312 ?_
  refine lv_topl (fun t154 ht154 => ?_)
  have xt154 : rwt (zJ s149 rW) (ix x10) = t154.toInt := by rw [ht154]; exact congrArg (fun q9 => (zJ s149 rW q9).toInt) (show 53 + ix x10 = ix t153 from by unfold ix; omega)
  have yt154 : t154.toInt = t133.toInt := by rw [← xt154]; show (zJ s149 rW (53 + ix x10)).toInt = _; rw [E150, E143, un (d53_53 n_x10_x19), E135, uh]
  have hTo := hT
  refine tVl (n := 3) (As := [.int x1, .long t152, .long t154]) (rest := []) hx hb hml hown hg hT hK hX (X6_gets l κ s149 this x1 t152 t154  (hT.k t_this (by decide)) (by omega) (by omega) (by omega) (by omega) (by omega) (by omega) (by omega)) sub_fE_gW (mwV k1604 k1606 k75 k92 k1607) ⟨rfl, by decide, by decide, by decide +kernel⟩ ⟨(Nat.le_of_ble_eq_true rfl), (Nat.le_of_ble_eq_true rfl)⟩ (hT.o20 (hT.k t_this (by decide))) rfl rfl hl.1 rfl (Nat.le_of_ble_eq_true rfl) dX6_lifts_313 zroom.rf (fun x155 s156 H locs hφ hEs156 hT => ?_)
  have E157 : zJ s156 rW = zJ s149 rW := funext fun k => (hTo.k trW (by decide)).eJ hEs156 (by decide) rfl
  refine lv_lstore (lv' := [(12, .long x155), (10, .long x148), (8, .long x38), (6, .long x30), (5, .int t29), (4, .int x19), (3, .int x10), (2, .int x1), (0, .ref this), (1, .int i)]) hx hb dX6_lifts_316 hl (by decide) rfl (fun ls hl => ?_)
  clear xt154 ht154 ht153 xt152 ht152 ht151
  refine lv_aload_n hx hb dX6_lifts_318 rfl (lv_at hl 8 rfl) ?_
  refine va_get (D := κ.1) (ci := 6) (v := .ref (kR κ this 1)) (C := RX6) (T := TX6) (N := 27) hx hb hg inX6 hown hK (hT.o20 (hT.k t_this (by decide))).one 0 rfl rfl 1 (by decide) (hg _ k1220) (fun _ h9 => h9) rfl dX6_lifts_319 ?_
  rw [erW]
  refine lv_iconst (v := 5) hx hb dX6_lifts_322 (by decide) ?_
  refine lv_iload_n hx hb dX6_lifts_323 rfl (lv_at hl 6 rfl) ?_
  refine lv_iadd hx hb dX6_lifts_324 ?_
  first | refine g_add (by omega) (by omega) (fun t158 ht158 => ?_) | refine lv_topi (fun t158 ht158 => ?_)
  refine lv_dup2_11 hx hb dX6_lifts_325 rfl rfl ?_
  refine va_lald hx hb hK (hT.o21 (hT.k trW (by decide))).one 0 1 rfl rfl (g_in (by omega) (by omega)) dX6_lifts_326 ?_
  refine lv_topl (fun t159 ht159 => ?_)
  refine lv_lload hx hb dX6_lifts_327 (lv_at hl 1 rfl) ?_
  refine lv_ladd hx hb dX6_lifts_329 ?_
  refine lv_topl (fun t160 ht160 => ?_)
  have hTo := hT
  refine tastlx (n := 609) hx hb hK hT (hT.k trW (by decide)) ⟨by decide, by decide⟩ (fun _ _ _ => rfl) (fun _ _ => trivial) (by omega) (by omega) (ge3_gW _ (by unfold ix; omega)) dX6_lifts_330 (fun H locs s161 hus161 hT => ?_)
  have E162 : zJ s161 rW = vp_updL (zJ s156 rW) (5 + ix x10) t160 := by rw [zpul_Ja hus161]; exact congrArg (fun q9 => vp_updL (zJ s156 rW) q9 t160) (show ix t158 = 5 + ix x10 from by unfold ix; omega)
  clear ht160 ht159 ht158
  refine lv_aload_n hx hb dX6_lifts_331 rfl (lv_at hl 8 rfl) ?_
  refine va_get (D := κ.1) (ci := 6) (v := .ref (kR κ this 1)) (C := RX6) (T := TX6) (N := 27) hx hb hg inX6 hown hK (hT.o20 (hT.k t_this (by decide))).one 0 rfl rfl 1 (by decide) (hg _ k1220) (fun _ h9 => h9) rfl dX6_lifts_332 ?_
  rw [erW]
  refine lv_iconst (v := 5) hx hb dX6_lifts_335 (by decide) ?_
  refine lv_iload hx hb dX6_lifts_336 (lv_at hl 5 rfl) ?_
  refine lv_iadd hx hb dX6_lifts_338 ?_
  first | refine g_add (by omega) (by omega) (fun t163 ht163 => ?_) | refine lv_topi (fun t163 ht163 => ?_)
  refine lv_dup2_11 hx hb dX6_lifts_339 rfl rfl ?_
  refine va_lald hx hb hK (hT.o21 (hT.k trW (by decide))).one 0 1 rfl rfl (g_in (by omega) (by omega)) dX6_lifts_340 ?_
  refine lv_topl (fun t164 ht164 => ?_)
  refine lv_lload hx hb dX6_lifts_341 (lv_at hl 0 rfl) ?_
  refine lv_ladd hx hb dX6_lifts_343 ?_
  refine lv_topl (fun t165 ht165 => ?_)
  have hTo := hT
  refine tastlx (n := 609) hx hb hK hT (hT.k trW (by decide)) ⟨by decide, by decide⟩ (fun _ _ _ => rfl) (fun _ _ => trivial) (by omega) (by omega) (ge3_gW _ (by unfold ix; omega)) dX6_lifts_344 (fun H locs s166 hus166 hT => ?_)
  have E167 : zJ s166 rW = vp_updL (zJ s161 rW) (5 + ix x19) t165 := by rw [zpul_Ja hus166]; exact congrArg (fun q9 => vp_updL (zJ s161 rW) q9 t165) (show ix t163 = 5 + ix x19 from by unfold ix; omega)
  clear ht165 ht164 ht163
  refine lv_aload_n hx hb dX6_lifts_345 rfl (lv_at hl 8 rfl) ?_
  refine va_get (D := κ.1) (ci := 6) (v := .ref (kR κ this 1)) (C := RX6) (T := TX6) (N := 27) hx hb hg inX6 hown hK (hT.o20 (hT.k t_this (by decide))).one 0 rfl rfl 1 (by decide) (hg _ k1220) (fun _ h9 => h9) rfl dX6_lifts_346 ?_
  rw [erW]
  refine lv_iconst (v := 3) hx hb dX6_lifts_349 (by decide) ?_
  refine lv_dup2_11 hx hb dX6_lifts_350 rfl rfl ?_
  refine va_lald hx hb hK (hT.o21 (hT.k trW (by decide))).one 0 1 rfl rfl (g_in (by omega) (by omega)) dX6_lifts_351 ?_
  refine lv_topl (fun t168 ht168 => ?_)
  have xt168 : (zJ s166 rW 3).toInt = t168.toInt := by rw [ht168]; exact congrArg (fun q9 => (zJ s166 rW q9).toInt) (show 3 = ix 3 from by decide)
  have yt168 : t168.toInt = t128.toInt := by rw [← xt168]; show (zJ s166 rW (3)).toInt = _; rw [E167, un (show 3 ≠ 5 + ix x19 from by omega), E162, un (show 3 ≠ 5 + ix x10 from by omega), E157, E150, E143, un (show 3 ≠ 53 + ix x19 from by omega), E135, un (show 3 ≠ 53 + ix x10 from by omega), E130, uh]
  refine lv_aload_n hx hb dX6_lifts_352 rfl (lv_at hl 8 rfl) ?_
  refine va_get (D := κ.1) (ci := 6) (v := .ref (kR κ this 1)) (C := RX6) (T := TX6) (N := 27) hx hb hg inX6 hown hK (hT.o20 (hT.k t_this (by decide))).one 0 rfl rfl 1 (by decide) (hg _ k1220) (fun _ h9 => h9) rfl dX6_lifts_353 ?_
  rw [erW]
  refine lv_bipush (v := 53) hx hb dX6_lifts_356 (by decide) ?_
  refine lv_iload_n hx hb dX6_lifts_358 rfl (lv_at hl 6 rfl) ?_
  refine lv_iadd hx hb dX6_lifts_359 ?_
  first | refine g_add (by omega) (by omega) (fun t169 ht169 => ?_) | refine lv_topi (fun t169 ht169 => ?_)
  refine va_lald hx hb hK (hT.o21 (hT.k trW (by decide))).one 0 1 rfl rfl (g_in (by omega) (by omega)) dX6_lifts_360 ?_
  refine lv_topl (fun t170 ht170 => ?_)
  refine lv_aload_n hx hb dX6_lifts_361 rfl (lv_at hl 8 rfl) ?_
  refine va_get (D := κ.1) (ci := 6) (v := .ref (kR κ this 1)) (C := RX6) (T := TX6) (N := 27) hx hb hg inX6 hown hK (hT.o20 (hT.k t_this (by decide))).one 0 rfl rfl 1 (by decide) (hg _ k1220) (fun _ h9 => h9) rfl dX6_lifts_362 ?_
  rw [erW]
  refine lv_iconst (v := 5) hx hb dX6_lifts_365 (by decide) ?_
  refine lv_iload_n hx hb dX6_lifts_366 rfl (lv_at hl 6 rfl) ?_
  refine lv_iadd hx hb dX6_lifts_367 ?_
  first | refine g_add (by omega) (by omega) (fun t171 ht171 => ?_) | refine lv_topi (fun t171 ht171 => ?_)
  refine va_lald hx hb hK (hT.o21 (hT.k trW (by decide))).one 0 1 rfl rfl (g_in (by omega) (by omega)) dX6_lifts_368 ?_
  refine lv_topl (fun t172 ht172 => ?_)
  refine lv_lmul hx hb dX6_lifts_369 ?_
  refine lv_topl (fun t173 ht173 => ?_)
  refine lv_aload_n hx hb dX6_lifts_370 rfl (lv_at hl 8 rfl) ?_
  refine va_get (D := κ.1) (ci := 6) (v := .ref (kR κ this 1)) (C := RX6) (T := TX6) (N := 27) hx hb hg inX6 hown hK (hT.o20 (hT.k t_this (by decide))).one 0 rfl rfl 1 (by decide) (hg _ k1220) (fun _ h9 => h9) rfl dX6_lifts_371 ?_
  rw [erW]
  refine lv_bipush (v := 53) hx hb dX6_lifts_374 (by decide) ?_
  refine lv_iload hx hb dX6_lifts_376 (lv_at hl 5 rfl) ?_
  refine lv_iadd hx hb dX6_lifts_378 ?_
  first | refine g_add (by omega) (by omega) (fun t174 ht174 => ?_) | refine lv_topi (fun t174 ht174 => ?_)
  refine va_lald hx hb hK (hT.o21 (hT.k trW (by decide))).one 0 1 rfl rfl (g_in (by omega) (by omega)) dX6_lifts_379 ?_
  refine lv_topl (fun t175 ht175 => ?_)
  refine lv_aload_n hx hb dX6_lifts_380 rfl (lv_at hl 8 rfl) ?_
  refine va_get (D := κ.1) (ci := 6) (v := .ref (kR κ this 1)) (C := RX6) (T := TX6) (N := 27) hx hb hg inX6 hown hK (hT.o20 (hT.k t_this (by decide))).one 0 rfl rfl 1 (by decide) (hg _ k1220) (fun _ h9 => h9) rfl dX6_lifts_381 ?_
  rw [erW]
  refine lv_iconst (v := 5) hx hb dX6_lifts_384 (by decide) ?_
  refine lv_iload hx hb dX6_lifts_385 (lv_at hl 5 rfl) ?_
  refine lv_iadd hx hb dX6_lifts_387 ?_
  first | refine g_add (by omega) (by omega) (fun t176 ht176 => ?_) | refine lv_topi (fun t176 ht176 => ?_)
  refine va_lald hx hb hK (hT.o21 (hT.k trW (by decide))).one 0 1 rfl rfl (g_in (by omega) (by omega)) dX6_lifts_388 ?_
  refine lv_topl (fun t177 ht177 => ?_)
  refine lv_lmul hx hb dX6_lifts_389 ?_
  refine lv_topl (fun t178 ht178 => ?_)
  refine lv_ladd hx hb dX6_lifts_390 ?_
  refine lv_topl (fun t179 ht179 => ?_)
  refine lv_lsub hx hb dX6_lifts_391 ?_
  refine lv_topl (fun t180 ht180 => ?_)
  have hTo := hT
  refine tastlx (n := 609) hx hb hK hT (hT.k trW (by decide)) ⟨by decide, by decide⟩ (fun _ _ _ => rfl) (fun _ _ => trivial) (by omega) (by omega) (ge3_gW _ (by unfold ix; omega)) dX6_lifts_392 (fun H locs s181 hus181 hT => ?_)
  have E182 : zJ s181 rW = vp_updL (zJ s166 rW) (3) t180 := by rw [zpul_Ja hus181]; exact congrArg (fun q9 => vp_updL (zJ s166 rW) q9 t180) (show ix 3 = 3 from by decide)
  clear ht180 ht179 ht178 ht177 ht176 ht175 ht174 ht173 ht172 ht171 ht170 ht169 yt168 xt168 ht168
  refine lv_aload_n hx hb dX6_lifts_393 rfl (lv_at hl 8 rfl) ?_
  refine va_get (D := κ.1) (ci := 6) (v := .ref (kR κ this 1)) (C := RX6) (T := TX6) (N := 27) hx hb hg inX6 hown hK (hT.o20 (hT.k t_this (by decide))).one 0 rfl rfl 1 (by decide) (hg _ k1220) (fun _ h9 => h9) rfl dX6_lifts_394 ?_
  rw [erW]
  refine lv_bipush (v := 101) hx hb dX6_lifts_397 (by decide) ?_
  refine lv_iload_n hx hb dX6_lifts_399 rfl (lv_at hl 9 rfl) ?_
  refine lv_iadd hx hb dX6_lifts_400 ?_
  first | refine g_add (by omega) (by omega) (fun t183 ht183 => ?_) | refine lv_topi (fun t183 ht183 => ?_)
  refine lv_iload_n hx hb dX6_lifts_401 rfl (lv_at hl 7 rfl) ?_
  refine lv_i2l hx hb dX6_lifts_402 rfl ?_
  refine g_i2l (fun t184 ht184 => ?_)
  have hTo := hT
  refine tastlx (n := 609) hx hb hK hT (hT.k trW (by decide)) ⟨by decide, by decide⟩ (fun _ _ _ => rfl) (fun _ _ => trivial) (by omega) (by omega) (ge3_gW _ (by unfold ix; omega)) dX6_lifts_403 (fun H locs s185 hus185 hT => ?_)
  have E186 : zJ s185 rW = vp_updL (zJ s181 rW) (101 + ix i) t184 := by rw [zpul_Ja hus185]; exact congrArg (fun q9 => vp_updL (zJ s181 rW) q9 t184) (show ix t183 = 101 + ix i from by unfold ix; omega)
  clear ht183
  refine lv_aload_n hx hb dX6_lifts_404 rfl (lv_at hl 8 rfl) ?_
  refine va_get (D := κ.1) (ci := 6) (v := .ref (kR κ this 1)) (C := RX6) (T := TX6) (N := 27) hx hb hg inX6 hown hK (hT.o20 (hT.k t_this (by decide))).one 0 rfl rfl 1 (by decide) (hg _ k1220) (fun _ h9 => h9) rfl dX6_lifts_405 ?_
  rw [erW]
  refine lv_iconst (v := 4) hx hb dX6_lifts_408 (by decide) ?_
  refine lv_dup2_11 hx hb dX6_lifts_409 rfl rfl ?_
  refine va_lald hx hb hK (hT.o21 (hT.k trW (by decide))).one 0 1 rfl rfl (g_in (by omega) (by omega)) dX6_lifts_410 ?_
  refine lv_topl (fun t187 ht187 => ?_)
  have xt187 : ((zJ s185 rW) 4).toInt = t187.toInt := by rw [ht187]; exact congrArg (fun q9 => (zJ s185 rW q9).toInt) (show 4 = ix 4 from by decide)
  have yt187 : t187.toInt = ((zJ σ0 rW) 4).toInt := by rw [← xt187]; show (zJ s185 rW (4)).toInt = _; rw [E186, un d4_101, E182, un (by decide), E167, un d4_5, E162, un d4_5, E157, E150, E143, un d4_53, E135, un d4_53, E130, un (by decide), E109, un d4_r, E103, un d4_r, E97, un d4_r, E90, un d4_r, E83, un d4_r, E78, un d4_r, E71, un d4_r, E66, un d4_r, E60, un d4_r, E54, un d4_r, E40, E32, E21, E12, E3]; try rfl
  refine lv_lconst (v := 1) hx hb dX6_lifts_411 (by decide) ?_
  refine lv_ladd hx hb dX6_lifts_412 ?_
  refine g_addl (by omega) (by omega) (fun t188 ht188 => ?_)
  have hTo := hT
  refine tastlx (n := 609) hx hb hK hT (hT.k trW (by decide)) ⟨by decide, by decide⟩ (fun _ _ _ => rfl) (fun _ _ => trivial) (by omega) (by omega) (ge3_gW _ (by unfold ix; omega)) dX6_lifts_413 (fun H locs s189 hus189 hT => ?_)
  have E190 : zJ s189 rW = vp_updL (zJ s185 rW) (4) t188 := by rw [zpul_Ja hus189]; exact congrArg (fun q9 => vp_updL (zJ s185 rW) q9 t188) (show ix 4 = 4 from by decide)
  have WL : WI (rN σ0 this) (zJ s189 rW) := hW.liftedE (k := ix i) (p := ix x10) (q := ix x19) (n := ix x1) (s := x38.toInt) (v0 := t48) (v1 := t55) (v2 := t61) (v3 := x30) (v4 := t73) (v5 := x38) (v6 := t85) (v7 := t92) (v8 := t98) (v9 := t104) (v10 := t128) (v11 := t133) (v12 := t141) (v13 := t160) (v14 := t165) (v15 := t180) (v16 := t184) (v17 := t188) (by omega) ⟨by omega, by omega, by omega⟩ (by omega) gp gq ⟨by omega, by omega⟩ (by omega) (by omega) (by omega) (by omega) (by omega) (by omega) (by omega) (by omega) (by omega) (by omega) (by omega) (E54.trans (by rw [E40, E32, E21, E12, E3])) E60 E66 E71 E78 E83 E90 E97 E103 E109 E130 E135 E143 (E162.trans (by rw [E157, E150])) E167 E182 E186 E190
  have RL : RI κ s189 this := h0.extw hT.2.2.1 ⟨rfl, rfl, fun _ => rfl, fun _ => rfl, fun _ => rfl⟩ (by rw [erW]; exact WL)
  subst hQ9
  exact t_v hx hb hr hlocks hT ⟨RL, by rw [erW, E190, uh]; omega⟩ dX6_lifts_414
