theorem wm_1691 : Cond.code yX12_clause cX12_clause 2 none ∈ kWS := kws_at 1691 (by decide +kernel) (by decide +kernel)
theorem wm_1688 : Cond.methodLink RX12 173 yX12_clause ∈ kWS := kws_at 1688 (by decide +kernel) (by decide +kernel)
theorem wm_s45 : Cond.selects RX12 yX12_clause yX12_clause ∈ kWS := kws_sel 45 (by decide +kernel) (by decide +kernel)
theorem wm_1690 : Cond.instanceMethod yX12_clause ∈ kWS := kws_at 1690 (by decide +kernel) (by decide +kernel)
theorem lk_VRX12_173 : kLV RX12 173 yX12_clause (Cond.code yX12_clause cX12_clause 2 none) 0 := ⟨wm_1688, wm_1690, wm_s45, wm_12, wm_1691, ⟨by decide +kernel, by decide +kernel, by decide +kernel⟩⟩
theorem dX12_house_0 : decode cX12_house 0 = .ok (.aload_n 0, 1) := by decide +kernel
theorem dX12_house_1 : decode cX12_house 1 = .ok (.iconst 0, 1) := by decide +kernel
theorem dX12_house_2 : decode cX12_house 2 = .ok (.putfield 87, 3) := by decide +kernel
theorem dX12_house_5 : decode cX12_house 5 = .ok (.aload_n 0, 1) := by decide +kernel
theorem dX12_house_6 : decode cX12_house 6 = .ok (.iload_n 1, 1) := by decide +kernel
theorem dX12_house_7 : decode cX12_house 7 = .ok (.iconst 0, 1) := by decide +kernel
theorem dX12_house_8 : decode cX12_house 8 = .ok (.aload_n 0, 1) := by decide +kernel
theorem dX12_house_9 : decode cX12_house 9 = .ok (.getfield 90, 3) := by decide +kernel
theorem dX12_house_12 : decode cX12_house 12 = .ok (.invokestatic 124, 3) := by decide +kernel
theorem dX12_house_15 : decode cX12_house 15 = .ok (.ifCond .ne 7, 3) := by decide +kernel
theorem dX12_house_18 : decode cX12_house 18 = .ok (.iconst 1, 1) := by decide +kernel
theorem dX12_house_19 : decode cX12_house 19 = .ok (.goto 4, 3) := by decide +kernel
theorem dX12_house_22 : decode cX12_house 22 = .ok (.iconst 0, 1) := by decide +kernel
theorem dX12_house_23 : decode cX12_house 23 = .ok (.iconst 1, 1) := by decide +kernel
theorem dX12_house_24 : decode cX12_house 24 = .ok (.invokevirtual 169, 3) := by decide +kernel
theorem dX12_house_27 : decode cX12_house 27 = .ok (.ifCond .eq 5, 3) := by decide +kernel
theorem dX12_house_30 : decode cX12_house 30 = .ok (.iconst 0, 1) := by decide +kernel
theorem dX12_house_31 : decode cX12_house 31 = .ok (.ireturn, 1) := by decide +kernel
theorem dX12_house_32 : decode cX12_house 32 = .ok (.aload_n 0, 1) := by decide +kernel
theorem dX12_house_33 : decode cX12_house 33 = .ok (.iconst 0, 1) := by decide +kernel
theorem dX12_house_34 : decode cX12_house 34 = .ok (.putfield 90, 3) := by decide +kernel
theorem dX12_house_37 : decode cX12_house 37 = .ok (.aload_n 0, 1) := by decide +kernel
theorem dX12_house_38 : decode cX12_house 38 = .ok (.iload_n 1, 1) := by decide +kernel
theorem dX12_house_39 : decode cX12_house 39 = .ok (.putfield 93, 3) := by decide +kernel
theorem dX12_house_42 : decode cX12_house 42 = .ok (.aload_n 0, 1) := by decide +kernel
theorem dX12_house_43 : decode cX12_house 43 = .ok (.iconst 0, 1) := by decide +kernel
theorem dX12_house_44 : decode cX12_house 44 = .ok (.putfield 96, 3) := by decide +kernel
theorem dX12_house_47 : decode cX12_house 47 = .ok (.aload_n 0, 1) := by decide +kernel
theorem dX12_house_48 : decode cX12_house 48 = .ok (.iconst 0, 1) := by decide +kernel
theorem dX12_house_49 : decode cX12_house 49 = .ok (.putfield 103, 3) := by decide +kernel
theorem dX12_house_52 : decode cX12_house 52 = .ok (.aload_n 0, 1) := by decide +kernel
theorem dX12_house_53 : decode cX12_house 53 = .ok (.iconst (-1), 1) := by decide +kernel
theorem dX12_house_54 : decode cX12_house 54 = .ok (.putfield 106, 3) := by decide +kernel
theorem dX12_house_57 : decode cX12_house 57 = .ok (.aload_n 0, 1) := by decide +kernel
theorem dX12_house_58 : decode cX12_house 58 = .ok (.iconst 0, 1) := by decide +kernel
theorem dX12_house_59 : decode cX12_house 59 = .ok (.putfield 143, 3) := by decide +kernel
theorem dX12_house_62 : decode cX12_house 62 = .ok (.iconst 0, 1) := by decide +kernel
theorem dX12_house_63 : decode cX12_house 63 = .ok (.istore_n 2, 1) := by decide +kernel
theorem dX12_house_64 : decode cX12_house 64 = .ok (.iload_n 2, 1) := by decide +kernel
theorem dX12_house_65 : decode cX12_house 65 = .ok (.iconst 5, 1) := by decide +kernel
theorem dX12_house_66 : decode cX12_house 66 = .ok (.if_icmp .ge 46, 3) := by decide +kernel
theorem dX12_house_69 : decode cX12_house 69 = .ok (.aload_n 0, 1) := by decide +kernel
theorem dX12_house_70 : decode cX12_house 70 = .ok (.getfield 25, 3) := by decide +kernel
theorem dX12_house_73 : decode cX12_house 73 = .ok (.iload_n 2, 1) := by decide +kernel
theorem dX12_house_74 : decode cX12_house 74 = .ok (.iload_n 2, 1) := by decide +kernel
theorem dX12_house_75 : decode cX12_house 75 = .ok (.iconst 1, 1) := by decide +kernel
theorem dX12_house_76 : decode cX12_house 76 = .ok (.if_icmp .ne 7, 3) := by decide +kernel
theorem dX12_house_79 : decode cX12_house 79 = .ok (.iconst 1, 1) := by decide +kernel
theorem dX12_house_80 : decode cX12_house 80 = .ok (.goto 25, 3) := by decide +kernel
theorem dX12_house_83 : decode cX12_house 83 = .ok (.iload_n 2, 1) := by decide +kernel
theorem dX12_house_84 : decode cX12_house 84 = .ok (.iconst 2, 1) := by decide +kernel
theorem dX12_house_85 : decode cX12_house 85 = .ok (.if_icmp .ne 8, 3) := by decide +kernel
theorem dX12_house_88 : decode cX12_house 88 = .ok (.bipush 10, 2) := by decide +kernel
theorem dX12_house_90 : decode cX12_house 90 = .ok (.goto 15, 3) := by decide +kernel
theorem dX12_house_93 : decode cX12_house 93 = .ok (.iload_n 2, 1) := by decide +kernel
theorem dX12_house_94 : decode cX12_house 94 = .ok (.iconst 3, 1) := by decide +kernel
theorem dX12_house_95 : decode cX12_house 95 = .ok (.if_icmp .ne 9, 3) := by decide +kernel
theorem dX12_house_98 : decode cX12_house 98 = .ok (.sipush 480, 3) := by decide +kernel
theorem dX12_house_101 : decode cX12_house 101 = .ok (.goto 4, 3) := by decide +kernel
theorem dX12_house_104 : decode cX12_house 104 = .ok (.iconst 0, 1) := by decide +kernel
theorem dX12_house_105 : decode cX12_house 105 = .ok (.iastore, 1) := by decide +kernel
theorem dX12_house_106 : decode cX12_house 106 = .ok (.iinc 2 1, 3) := by decide +kernel
theorem dX12_house_109 : decode cX12_house 109 = .ok (.goto (-45), 3) := by decide +kernel
theorem dX12_house_112 : decode cX12_house 112 = .ok (.aload_n 0, 1) := by decide +kernel
theorem dX12_house_113 : decode cX12_house 113 = .ok (.invokevirtual 109, 3) := by decide +kernel
theorem dX12_house_116 : decode cX12_house 116 = .ok (.aload_n 0, 1) := by decide +kernel
theorem dX12_house_117 : decode cX12_house 117 = .ok (.getfield 103, 3) := by decide +kernel
theorem dX12_house_120 : decode cX12_house 120 = .ok (.ifCond .ne 25, 3) := by decide +kernel
theorem dX12_house_123 : decode cX12_house 123 = .ok (.aload_n 0, 1) := by decide +kernel
theorem dX12_house_124 : decode cX12_house 124 = .ok (.getfield 96, 3) := by decide +kernel
theorem dX12_house_127 : decode cX12_house 127 = .ok (.aload_n 0, 1) := by decide +kernel
theorem dX12_house_128 : decode cX12_house 128 = .ok (.getfield 93, 3) := by decide +kernel
theorem dX12_house_131 : decode cX12_house 131 = .ok (.if_icmp .ge 14, 3) := by decide +kernel
theorem dX12_house_134 : decode cX12_house 134 = .ok (.aload_n 0, 1) := by decide +kernel
theorem dX12_house_135 : decode cX12_house 135 = .ok (.invokevirtual 173, 3) := by decide +kernel
theorem dX12_house_138 : decode cX12_house 138 = .ok (.aload_n 0, 1) := by decide +kernel
theorem dX12_house_139 : decode cX12_house 139 = .ok (.invokevirtual 109, 3) := by decide +kernel
theorem dX12_house_142 : decode cX12_house 142 = .ok (.goto (-26), 3) := by decide +kernel
theorem dX12_house_145 : decode cX12_house 145 = .ok (.aload_n 0, 1) := by decide +kernel
theorem dX12_house_146 : decode cX12_house 146 = .ok (.getfield 103, 3) := by decide +kernel
theorem dX12_house_149 : decode cX12_house 149 = .ok (.ifCond .ne 21, 3) := by decide +kernel
theorem dX12_house_152 : decode cX12_house 152 = .ok (.aload_n 0, 1) := by decide +kernel
theorem dX12_house_153 : decode cX12_house 153 = .ok (.getfield 25, 3) := by decide +kernel
theorem dX12_house_156 : decode cX12_house 156 = .ok (.iconst 0, 1) := by decide +kernel
theorem dX12_house_157 : decode cX12_house 157 = .ok (.iaload, 1) := by decide +kernel
theorem dX12_house_158 : decode cX12_house 158 = .ok (.ifCond .ne 12, 3) := by decide +kernel
theorem dX12_house_161 : decode cX12_house 161 = .ok (.aload_n 0, 1) := by decide +kernel
theorem dX12_house_162 : decode cX12_house 162 = .ok (.iconst 4, 1) := by decide +kernel
theorem dX12_house_163 : decode cX12_house 163 = .ok (.aload_n 0, 1) := by decide +kernel
theorem dX12_house_164 : decode cX12_house 164 = .ok (.getfield 93, 3) := by decide +kernel
theorem dX12_house_167 : decode cX12_house 167 = .ok (.invokevirtual 119, 3) := by decide +kernel
theorem dX12_house_170 : decode cX12_house 170 = .ok (.aload_n 0, 1) := by decide +kernel
theorem dX12_house_171 : decode cX12_house 171 = .ok (.aload_n 0, 1) := by decide +kernel
theorem dX12_house_172 : decode cX12_house 172 = .ok (.getfield 106, 3) := by decide +kernel
theorem dX12_house_175 : decode cX12_house 175 = .ok (.putfield 9, 3) := by decide +kernel
theorem dX12_house_178 : decode cX12_house 178 = .ok (.aload_n 0, 1) := by decide +kernel
theorem dX12_house_179 : decode cX12_house 179 = .ok (.getfield 103, 3) := by decide +kernel
theorem dX12_house_182 : decode cX12_house 182 = .ok (.ifCond .eq 11, 3) := by decide +kernel
theorem dX12_house_185 : decode cX12_house 185 = .ok (.aload_n 0, 1) := by decide +kernel
theorem dX12_house_186 : decode cX12_house 186 = .ok (.getfield 103, 3) := by decide +kernel
theorem dX12_house_189 : decode cX12_house 189 = .ok (.bipush 10, 2) := by decide +kernel
theorem dX12_house_191 : decode cX12_house 191 = .ok (.isub, 1) := by decide +kernel
theorem dX12_house_192 : decode cX12_house 192 = .ok (.ireturn, 1) := by decide +kernel
theorem dX12_house_193 : decode cX12_house 193 = .ok (.iconst 0, 1) := by decide +kernel
theorem dX12_house_194 : decode cX12_house 194 = .ok (.istore_n 2, 1) := by decide +kernel
theorem dX12_house_195 : decode cX12_house 195 = .ok (.iload_n 2, 1) := by decide +kernel
theorem dX12_house_196 : decode cX12_house 196 = .ok (.iconst 5, 1) := by decide +kernel
theorem dX12_house_197 : decode cX12_house 197 = .ok (.if_icmp .ge 21, 3) := by decide +kernel
theorem dX12_house_200 : decode cX12_house 200 = .ok (.aload_n 0, 1) := by decide +kernel
theorem dX12_house_201 : decode cX12_house 201 = .ok (.getfield 28, 3) := by decide +kernel
theorem dX12_house_204 : decode cX12_house 204 = .ok (.iload_n 2, 1) := by decide +kernel
theorem dX12_house_205 : decode cX12_house 205 = .ok (.aload_n 0, 1) := by decide +kernel
theorem dX12_house_206 : decode cX12_house 206 = .ok (.getfield 25, 3) := by decide +kernel
theorem dX12_house_209 : decode cX12_house 209 = .ok (.iload_n 2, 1) := by decide +kernel
theorem dX12_house_210 : decode cX12_house 210 = .ok (.iaload, 1) := by decide +kernel
theorem dX12_house_211 : decode cX12_house 211 = .ok (.iastore, 1) := by decide +kernel
theorem dX12_house_212 : decode cX12_house 212 = .ok (.iinc 2 1, 3) := by decide +kernel
theorem dX12_house_215 : decode cX12_house 215 = .ok (.goto (-20), 3) := by decide +kernel
theorem dX12_house_218 : decode cX12_house 218 = .ok (.iconst 0, 1) := by decide +kernel
theorem dX12_house_219 : decode cX12_house 219 = .ok (.istore_n 2, 1) := by decide +kernel
theorem dX12_house_220 : decode cX12_house 220 = .ok (.iload_n 2, 1) := by decide +kernel
theorem dX12_house_221 : decode cX12_house 221 = .ok (.bipush 9, 2) := by decide +kernel
theorem dX12_house_223 : decode cX12_house 223 = .ok (.if_icmp .ge 67, 3) := by decide +kernel
theorem dX12_house_226 : decode cX12_house 226 = .ok (.iconst 0, 1) := by decide +kernel
theorem dX12_house_227 : decode cX12_house 227 = .ok (.istore_n 3, 1) := by decide +kernel
theorem dX12_house_228 : decode cX12_house 228 = .ok (.iload_n 3, 1) := by decide +kernel
theorem dX12_house_229 : decode cX12_house 229 = .ok (.bipush 12, 2) := by decide +kernel
theorem dX12_house_231 : decode cX12_house 231 = .ok (.if_icmp .ge 25, 3) := by decide +kernel
theorem dX12_house_234 : decode cX12_house 234 = .ok (.aload_n 0, 1) := by decide +kernel
theorem dX12_house_235 : decode cX12_house 235 = .ok (.getfield 22, 3) := by decide +kernel
theorem dX12_house_238 : decode cX12_house 238 = .ok (.iload_n 2, 1) := by decide +kernel
theorem dX12_house_239 : decode cX12_house 239 = .ok (.aaload, 1) := by decide +kernel
theorem dX12_house_240 : decode cX12_house 240 = .ok (.iload_n 3, 1) := by decide +kernel
theorem dX12_house_241 : decode cX12_house 241 = .ok (.aload_n 0, 1) := by decide +kernel
theorem dX12_house_242 : decode cX12_house 242 = .ok (.getfield 19, 3) := by decide +kernel
theorem dX12_house_245 : decode cX12_house 245 = .ok (.iload_n 2, 1) := by decide +kernel
theorem dX12_house_246 : decode cX12_house 246 = .ok (.aaload, 1) := by decide +kernel
theorem dX12_house_247 : decode cX12_house 247 = .ok (.iload_n 3, 1) := by decide +kernel
theorem dX12_house_248 : decode cX12_house 248 = .ok (.iaload, 1) := by decide +kernel
theorem dX12_house_249 : decode cX12_house 249 = .ok (.iastore, 1) := by decide +kernel
theorem dX12_house_250 : decode cX12_house 250 = .ok (.iinc 3 1, 3) := by decide +kernel
theorem dX12_house_253 : decode cX12_house 253 = .ok (.goto (-25), 3) := by decide +kernel
theorem dX12_house_256 : decode cX12_house 256 = .ok (.aload_n 0, 1) := by decide +kernel
theorem dX12_house_257 : decode cX12_house 257 = .ok (.getfield 31, 3) := by decide +kernel
theorem dX12_house_260 : decode cX12_house 260 = .ok (.iload_n 2, 1) := by decide +kernel
theorem dX12_house_261 : decode cX12_house 261 = .ok (.iconst 0, 1) := by decide +kernel
theorem dX12_house_262 : decode cX12_house 262 = .ok (.iastore, 1) := by decide +kernel
theorem dX12_house_263 : decode cX12_house 263 = .ok (.aload_n 0, 1) := by decide +kernel
theorem dX12_house_264 : decode cX12_house 264 = .ok (.getfield 34, 3) := by decide +kernel
theorem dX12_house_267 : decode cX12_house 267 = .ok (.iload_n 2, 1) := by decide +kernel
theorem dX12_house_268 : decode cX12_house 268 = .ok (.iconst 0, 1) := by decide +kernel
theorem dX12_house_269 : decode cX12_house 269 = .ok (.iastore, 1) := by decide +kernel
theorem dX12_house_270 : decode cX12_house 270 = .ok (.aload_n 0, 1) := by decide +kernel
theorem dX12_house_271 : decode cX12_house 271 = .ok (.getfield 37, 3) := by decide +kernel
theorem dX12_house_274 : decode cX12_house 274 = .ok (.iload_n 2, 1) := by decide +kernel
theorem dX12_house_275 : decode cX12_house 275 = .ok (.iconst 0, 1) := by decide +kernel
theorem dX12_house_276 : decode cX12_house 276 = .ok (.iastore, 1) := by decide +kernel
theorem dX12_house_277 : decode cX12_house 277 = .ok (.aload_n 0, 1) := by decide +kernel
theorem dX12_house_278 : decode cX12_house 278 = .ok (.getfield 40, 3) := by decide +kernel
theorem dX12_house_281 : decode cX12_house 281 = .ok (.iload_n 2, 1) := by decide +kernel
theorem dX12_house_282 : decode cX12_house 282 = .ok (.iconst 0, 1) := by decide +kernel
theorem dX12_house_283 : decode cX12_house 283 = .ok (.iastore, 1) := by decide +kernel
theorem dX12_house_284 : decode cX12_house 284 = .ok (.iinc 2 1, 3) := by decide +kernel
theorem dX12_house_287 : decode cX12_house 287 = .ok (.goto (-67), 3) := by decide +kernel
theorem dX12_house_290 : decode cX12_house 290 = .ok (.aload_n 0, 1) := by decide +kernel
theorem dX12_house_291 : decode cX12_house 291 = .ok (.iconst 0, 1) := by decide +kernel
theorem dX12_house_292 : decode cX12_house 292 = .ok (.putfield 176, 3) := by decide +kernel
theorem dX12_house_295 : decode cX12_house 295 = .ok (.aload_n 0, 1) := by decide +kernel
theorem dX12_house_296 : decode cX12_house 296 = .ok (.iconst 0, 1) := by decide +kernel
theorem dX12_house_297 : decode cX12_house 297 = .ok (.putfield 179, 3) := by decide +kernel
theorem dX12_house_300 : decode cX12_house 300 = .ok (.aload_n 0, 1) := by decide +kernel
theorem dX12_house_301 : decode cX12_house 301 = .ok (.iconst 0, 1) := by decide +kernel
theorem dX12_house_302 : decode cX12_house 302 = .ok (.putfield 182, 3) := by decide +kernel
theorem dX12_house_305 : decode cX12_house 305 = .ok (.aload_n 0, 1) := by decide +kernel
theorem dX12_house_306 : decode cX12_house 306 = .ok (.iconst 0, 1) := by decide +kernel
theorem dX12_house_307 : decode cX12_house 307 = .ok (.putfield 185, 3) := by decide +kernel
theorem dX12_house_310 : decode cX12_house 310 = .ok (.aload_n 0, 1) := by decide +kernel
theorem dX12_house_311 : decode cX12_house 311 = .ok (.iconst 0, 1) := by decide +kernel
theorem dX12_house_312 : decode cX12_house 312 = .ok (.putfield 188, 3) := by decide +kernel
theorem dX12_house_315 : decode cX12_house 315 = .ok (.aload_n 0, 1) := by decide +kernel
theorem dX12_house_316 : decode cX12_house 316 = .ok (.iconst 0, 1) := by decide +kernel
theorem dX12_house_317 : decode cX12_house 317 = .ok (.putfield 191, 3) := by decide +kernel
theorem dX12_house_320 : decode cX12_house 320 = .ok (.aload_n 0, 1) := by decide +kernel
theorem dX12_house_321 : decode cX12_house 321 = .ok (.iconst 0, 1) := by decide +kernel
theorem dX12_house_322 : decode cX12_house 322 = .ok (.putfield 194, 3) := by decide +kernel
theorem dX12_house_325 : decode cX12_house 325 = .ok (.aload_n 0, 1) := by decide +kernel
theorem dX12_house_326 : decode cX12_house 326 = .ok (.iconst 0, 1) := by decide +kernel
theorem dX12_house_327 : decode cX12_house 327 = .ok (.putfield 197, 3) := by decide +kernel
theorem dX12_house_330 : decode cX12_house 330 = .ok (.aload_n 0, 1) := by decide +kernel
theorem dX12_house_331 : decode cX12_house 331 = .ok (.iconst 0, 1) := by decide +kernel
theorem dX12_house_332 : decode cX12_house 332 = .ok (.putfield 200, 3) := by decide +kernel
theorem dX12_house_335 : decode cX12_house 335 = .ok (.aload_n 0, 1) := by decide +kernel
theorem dX12_house_336 : decode cX12_house 336 = .ok (.getfield 28, 3) := by decide +kernel
theorem dX12_house_339 : decode cX12_house 339 = .ok (.iconst 0, 1) := by decide +kernel
theorem dX12_house_340 : decode cX12_house 340 = .ok (.iaload, 1) := by decide +kernel
theorem dX12_house_341 : decode cX12_house 341 = .ok (.ireturn, 1) := by decide +kernel
