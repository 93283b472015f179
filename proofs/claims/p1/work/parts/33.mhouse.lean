theorem wm_1521 : Cond.fieldLink RX12 93 "LentMindsModel" "size" "I" ∈ kWS := kws_at 1521 (by decide +kernel) (by decide +kernel)
theorem wm_1523 : Cond.fieldLink RX12 96 "LentMindsModel" "at" "I" ∈ kWS := kws_at 1523 (by decide +kernel) (by decide +kernel)
theorem wm_1691 : Cond.code yX12_byteAt cX12_byteAt 2 (some .int) ∈ kWS := kws_at 1691 (by decide +kernel) (by decide +kernel)
theorem wm_1688 : Cond.methodLink RX12 99 yX12_byteAt ∈ kWS := kws_at 1688 (by decide +kernel) (by decide +kernel)
theorem wm_s44 : Cond.selects RX12 yX12_byteAt yX12_byteAt ∈ kWS := kws_sel 44 (by decide +kernel) (by decide +kernel)
theorem wm_1690 : Cond.instanceMethod yX12_byteAt ∈ kWS := kws_at 1690 (by decide +kernel) (by decide +kernel)
theorem lk_VRX12_99 : kLV RX12 99 yX12_byteAt (Cond.code yX12_byteAt cX12_byteAt 2 (some .int)) 1 := ⟨wm_1688, wm_1690, wm_s44, wm_12, wm_1691, ⟨by decide +kernel, by decide +kernel, by decide +kernel⟩⟩
theorem wm_1524 : Cond.fieldLink RX12 103 "LentMindsModel" "fault" "I" ∈ kWS := kws_at 1524 (by decide +kernel) (by decide +kernel)
theorem wm_1525 : Cond.fieldLink RX12 106 "LentMindsModel" "faultAt" "I" ∈ kWS := kws_at 1525 (by decide +kernel) (by decide +kernel)
theorem wm_1526 : Cond.fieldLink RX12 143 "LentMindsModel" "clauses" "I" ∈ kWS := kws_at 1526 (by decide +kernel) (by decide +kernel)
theorem wm_1687 : Cond.code yX12_blanks cX12_blanks 1 none ∈ kWS := kws_at 1687 (by decide +kernel) (by decide +kernel)
theorem wm_1684 : Cond.methodLink RX12 109 yX12_blanks ∈ kWS := kws_at 1684 (by decide +kernel) (by decide +kernel)
theorem wm_s43 : Cond.selects RX12 yX12_blanks yX12_blanks ∈ kWS := kws_sel 43 (by decide +kernel) (by decide +kernel)
theorem wm_1686 : Cond.instanceMethod yX12_blanks ∈ kWS := kws_at 1686 (by decide +kernel) (by decide +kernel)
theorem lk_VRX12_109 : kLV RX12 109 yX12_blanks (Cond.code yX12_blanks cX12_blanks 1 none) 0 := ⟨wm_1684, wm_1686, wm_s43, wm_12, wm_1687, ⟨by decide +kernel, by decide +kernel, by decide +kernel⟩⟩
theorem wm_1714 : Cond.code yX12_wrong cX12_wrong 3 none ∈ kWS := kws_at 1714 (by decide +kernel) (by decide +kernel)
theorem wm_1711 : Cond.methodLink RX12 119 yX12_wrong ∈ kWS := kws_at 1711 (by decide +kernel) (by decide +kernel)
theorem wm_s49 : Cond.selects RX12 yX12_wrong yX12_wrong ∈ kWS := kws_sel 49 (by decide +kernel) (by decide +kernel)
theorem wm_1713 : Cond.instanceMethod yX12_wrong ∈ kWS := kws_at 1713 (by decide +kernel) (by decide +kernel)
theorem lk_VRX12_119 : kLV RX12 119 yX12_wrong (Cond.code yX12_wrong cX12_wrong 3 none) 2 := ⟨wm_1711, wm_1713, wm_s49, wm_12, wm_1714, ⟨by decide +kernel, by decide +kernel, by decide +kernel⟩⟩
theorem dX12_byteAt_0 : decode cX12_byteAt 0 = .ok (.iload_n 1, 1) := by decide +kernel
theorem dX12_byteAt_1 : decode cX12_byteAt 1 = .ok (.aload_n 0, 1) := by decide +kernel
theorem dX12_byteAt_2 : decode cX12_byteAt 2 = .ok (.getfield 93, 3) := by decide +kernel
theorem dX12_byteAt_5 : decode cX12_byteAt 5 = .ok (.if_icmp .lt 7, 3) := by decide +kernel
theorem dX12_byteAt_8 : decode cX12_byteAt 8 = .ok (.iconst (-1), 1) := by decide +kernel
theorem dX12_byteAt_9 : decode cX12_byteAt 9 = .ok (.goto 9, 3) := by decide +kernel
theorem dX12_byteAt_12 : decode cX12_byteAt 12 = .ok (.aload_n 0, 1) := by decide +kernel
theorem dX12_byteAt_13 : decode cX12_byteAt 13 = .ok (.getfield 13, 3) := by decide +kernel
theorem dX12_byteAt_16 : decode cX12_byteAt 16 = .ok (.iload_n 1, 1) := by decide +kernel
theorem dX12_byteAt_17 : decode cX12_byteAt 17 = .ok (.iaload, 1) := by decide +kernel
theorem dX12_byteAt_18 : decode cX12_byteAt 18 = .ok (.ireturn, 1) := by decide +kernel
theorem dX12_blanks_0 : decode cX12_blanks 0 = .ok (.aload_n 0, 1) := by decide +kernel
theorem dX12_blanks_1 : decode cX12_blanks 1 = .ok (.aload_n 0, 1) := by decide +kernel
theorem dX12_blanks_2 : decode cX12_blanks 2 = .ok (.getfield 96, 3) := by decide +kernel
theorem dX12_blanks_5 : decode cX12_blanks 5 = .ok (.invokevirtual 99, 3) := by decide +kernel
theorem dX12_blanks_8 : decode cX12_blanks 8 = .ok (.bipush 32, 2) := by decide +kernel
theorem dX12_blanks_10 : decode cX12_blanks 10 = .ok (.if_icmp .ne 16, 3) := by decide +kernel
theorem dX12_blanks_13 : decode cX12_blanks 13 = .ok (.aload_n 0, 1) := by decide +kernel
theorem dX12_blanks_14 : decode cX12_blanks 14 = .ok (.dup, 1) := by decide +kernel
theorem dX12_blanks_15 : decode cX12_blanks 15 = .ok (.getfield 96, 3) := by decide +kernel
theorem dX12_blanks_18 : decode cX12_blanks 18 = .ok (.iconst 1, 1) := by decide +kernel
theorem dX12_blanks_19 : decode cX12_blanks 19 = .ok (.iadd, 1) := by decide +kernel
theorem dX12_blanks_20 : decode cX12_blanks 20 = .ok (.putfield 96, 3) := by decide +kernel
theorem dX12_blanks_23 : decode cX12_blanks 23 = .ok (.goto (-23), 3) := by decide +kernel
theorem dX12_blanks_26 : decode cX12_blanks 26 = .ok (.return_, 1) := by decide +kernel
theorem dX12_wrong_0 : decode cX12_wrong 0 = .ok (.aload_n 0, 1) := by decide +kernel
theorem dX12_wrong_1 : decode cX12_wrong 1 = .ok (.getfield 103, 3) := by decide +kernel
theorem dX12_wrong_4 : decode cX12_wrong 4 = .ok (.ifCond .ne 13, 3) := by decide +kernel
theorem dX12_wrong_7 : decode cX12_wrong 7 = .ok (.aload_n 0, 1) := by decide +kernel
theorem dX12_wrong_8 : decode cX12_wrong 8 = .ok (.iload_n 1, 1) := by decide +kernel
theorem dX12_wrong_9 : decode cX12_wrong 9 = .ok (.putfield 103, 3) := by decide +kernel
theorem dX12_wrong_12 : decode cX12_wrong 12 = .ok (.aload_n 0, 1) := by decide +kernel
theorem dX12_wrong_13 : decode cX12_wrong 13 = .ok (.iload_n 2, 1) := by decide +kernel
theorem dX12_wrong_14 : decode cX12_wrong 14 = .ok (.putfield 106, 3) := by decide +kernel
theorem dX12_wrong_17 : decode cX12_wrong 17 = .ok (.return_, 1) := by decide +kernel
theorem dX12_house_0 : decode cX12_house 0 = .ok (.aload_n 0, 1) := by decide +kernel
theorem dX12_house_1 : decode cX12_house 1 = .ok (.iconst 0, 1) := by decide +kernel
theorem dX12_house_2 : decode cX12_house 2 = .ok (.putfield 87, 3) := by decide +kernel
theorem dX12_house_5 : decode cX12_house 5 = .ok (.aload_n 0, 1) := by decide +kernel
theorem dX12_house_6 : decode cX12_house 6 = .ok (.iload_n 1, 1) := by decide +kernel
theorem dX12_house_7 : decode cX12_house 7 = .ok (.iconst 0, 1) := by decide +kernel
theorem dX12_house_8 : decode cX12_house 8 = .ok (.aload_n 0, 1) := by decide +kernel
theorem dX12_house_9 : decode cX12_house 9 = .ok (.getfield 90, 3) := by decide +kernel
theorem dX12_house_12 : decode cX12_house 12 = .ok (.invokestatic 124, 3) := by decide +kernel
theorem dX12_house_15 : decode cX12_house 15 = .ok (.ifCond .ne 7, 3) := by decide +kernel
theorem dX12_house_18 : decode cX12_house 18 = .ok (.iconst 1, 1) := by decide +kernel
theorem dX12_house_19 : decode cX12_house 19 = .ok (.goto 4, 3) := by decide +kernel
theorem dX12_house_22 : decode cX12_house 22 = .ok (.iconst 0, 1) := by decide +kernel
theorem dX12_house_23 : decode cX12_house 23 = .ok (.iconst 1, 1) := by decide +kernel
theorem dX12_house_24 : decode cX12_house 24 = .ok (.invokevirtual 169, 3) := by decide +kernel
theorem dX12_house_27 : decode cX12_house 27 = .ok (.ifCond .eq 5, 3) := by decide +kernel
theorem dX12_house_30 : decode cX12_house 30 = .ok (.iconst 0, 1) := by decide +kernel
theorem dX12_house_31 : decode cX12_house 31 = .ok (.ireturn, 1) := by decide +kernel
theorem dX12_house_32 : decode cX12_house 32 = .ok (.aload_n 0, 1) := by decide +kernel
theorem dX12_house_33 : decode cX12_house 33 = .ok (.iconst 0, 1) := by decide +kernel
theorem dX12_house_34 : decode cX12_house 34 = .ok (.putfield 90, 3) := by decide +kernel
theorem dX12_house_37 : decode cX12_house 37 = .ok (.aload_n 0, 1) := by decide +kernel
theorem dX12_house_38 : decode cX12_house 38 = .ok (.iload_n 1, 1) := by decide +kernel
theorem dX12_house_39 : decode cX12_house 39 = .ok (.putfield 93, 3) := by decide +kernel
theorem dX12_house_42 : decode cX12_house 42 = .ok (.aload_n 0, 1) := by decide +kernel
theorem dX12_house_43 : decode cX12_house 43 = .ok (.iconst 0, 1) := by decide +kernel
theorem dX12_house_44 : decode cX12_house 44 = .ok (.putfield 96, 3) := by decide +kernel
theorem dX12_house_47 : decode cX12_house 47 = .ok (.aload_n 0, 1) := by decide +kernel
theorem dX12_house_48 : decode cX12_house 48 = .ok (.iconst 0, 1) := by decide +kernel
theorem dX12_house_49 : decode cX12_house 49 = .ok (.putfield 103, 3) := by decide +kernel
theorem dX12_house_52 : decode cX12_house 52 = .ok (.aload_n 0, 1) := by decide +kernel
theorem dX12_house_53 : decode cX12_house 53 = .ok (.iconst (-1), 1) := by decide +kernel
theorem dX12_house_54 : decode cX12_house 54 = .ok (.putfield 106, 3) := by decide +kernel
theorem dX12_house_57 : decode cX12_house 57 = .ok (.aload_n 0, 1) := by decide +kernel
theorem dX12_house_58 : decode cX12_house 58 = .ok (.iconst 0, 1) := by decide +kernel
theorem dX12_house_59 : decode cX12_house 59 = .ok (.putfield 143, 3) := by decide +kernel
theorem dX12_house_62 : decode cX12_house 62 = .ok (.iconst 0, 1) := by decide +kernel
theorem dX12_house_63 : decode cX12_house 63 = .ok (.istore_n 2, 1) := by decide +kernel
theorem dX12_house_64 : decode cX12_house 64 = .ok (.iload_n 2, 1) := by decide +kernel
theorem dX12_house_65 : decode cX12_house 65 = .ok (.iconst 5, 1) := by decide +kernel
theorem dX12_house_66 : decode cX12_house 66 = .ok (.if_icmp .ge 46, 3) := by decide +kernel
theorem dX12_house_69 : decode cX12_house 69 = .ok (.aload_n 0, 1) := by decide +kernel
theorem dX12_house_70 : decode cX12_house 70 = .ok (.getfield 25, 3) := by decide +kernel
theorem dX12_house_73 : decode cX12_house 73 = .ok (.iload_n 2, 1) := by decide +kernel
theorem dX12_house_74 : decode cX12_house 74 = .ok (.iload_n 2, 1) := by decide +kernel
theorem dX12_house_75 : decode cX12_house 75 = .ok (.iconst 1, 1) := by decide +kernel
theorem dX12_house_76 : decode cX12_house 76 = .ok (.if_icmp .ne 7, 3) := by decide +kernel
theorem dX12_house_79 : decode cX12_house 79 = .ok (.iconst 1, 1) := by decide +kernel
theorem dX12_house_80 : decode cX12_house 80 = .ok (.goto 25, 3) := by decide +kernel
theorem dX12_house_83 : decode cX12_house 83 = .ok (.iload_n 2, 1) := by decide +kernel
theorem dX12_house_84 : decode cX12_house 84 = .ok (.iconst 2, 1) := by decide +kernel
theorem dX12_house_85 : decode cX12_house 85 = .ok (.if_icmp .ne 8, 3) := by decide +kernel
theorem dX12_house_88 : decode cX12_house 88 = .ok (.bipush 10, 2) := by decide +kernel
theorem dX12_house_90 : decode cX12_house 90 = .ok (.goto 15, 3) := by decide +kernel
theorem dX12_house_93 : decode cX12_house 93 = .ok (.iload_n 2, 1) := by decide +kernel
theorem dX12_house_94 : decode cX12_house 94 = .ok (.iconst 3, 1) := by decide +kernel
theorem dX12_house_95 : decode cX12_house 95 = .ok (.if_icmp .ne 9, 3) := by decide +kernel
theorem dX12_house_98 : decode cX12_house 98 = .ok (.sipush 480, 3) := by decide +kernel
theorem dX12_house_101 : decode cX12_house 101 = .ok (.goto 4, 3) := by decide +kernel
theorem dX12_house_104 : decode cX12_house 104 = .ok (.iconst 0, 1) := by decide +kernel
theorem dX12_house_105 : decode cX12_house 105 = .ok (.iastore, 1) := by decide +kernel
theorem dX12_house_106 : decode cX12_house 106 = .ok (.iinc 2 1, 3) := by decide +kernel
theorem dX12_house_109 : decode cX12_house 109 = .ok (.goto (-45), 3) := by decide +kernel
theorem dX12_house_112 : decode cX12_house 112 = .ok (.aload_n 0, 1) := by decide +kernel
theorem dX12_house_113 : decode cX12_house 113 = .ok (.invokevirtual 109, 3) := by decide +kernel
theorem dX12_house_116 : decode cX12_house 116 = .ok (.aload_n 0, 1) := by decide +kernel
theorem dX12_house_117 : decode cX12_house 117 = .ok (.getfield 103, 3) := by decide +kernel
theorem dX12_house_120 : decode cX12_house 120 = .ok (.ifCond .ne 25, 3) := by decide +kernel
theorem dX12_house_123 : decode cX12_house 123 = .ok (.aload_n 0, 1) := by decide +kernel
theorem dX12_house_124 : decode cX12_house 124 = .ok (.getfield 96, 3) := by decide +kernel
theorem dX12_house_127 : decode cX12_house 127 = .ok (.aload_n 0, 1) := by decide +kernel
theorem dX12_house_128 : decode cX12_house 128 = .ok (.getfield 93, 3) := by decide +kernel
theorem dX12_house_131 : decode cX12_house 131 = .ok (.if_icmp .ge 14, 3) := by decide +kernel
theorem dX12_house_134 : decode cX12_house 134 = .ok (.aload_n 0, 1) := by decide +kernel
theorem dX12_house_135 : decode cX12_house 135 = .ok (.invokevirtual 173, 3) := by decide +kernel
theorem dX12_house_138 : decode cX12_house 138 = .ok (.aload_n 0, 1) := by decide +kernel
theorem dX12_house_139 : decode cX12_house 139 = .ok (.invokevirtual 109, 3) := by decide +kernel
theorem dX12_house_142 : decode cX12_house 142 = .ok (.goto (-26), 3) := by decide +kernel
theorem dX12_house_145 : decode cX12_house 145 = .ok (.aload_n 0, 1) := by decide +kernel
theorem dX12_house_146 : decode cX12_house 146 = .ok (.getfield 103, 3) := by decide +kernel
theorem dX12_house_149 : decode cX12_house 149 = .ok (.ifCond .ne 21, 3) := by decide +kernel
theorem dX12_house_152 : decode cX12_house 152 = .ok (.aload_n 0, 1) := by decide +kernel
theorem dX12_house_153 : decode cX12_house 153 = .ok (.getfield 25, 3) := by decide +kernel
theorem dX12_house_156 : decode cX12_house 156 = .ok (.iconst 0, 1) := by decide +kernel
theorem dX12_house_157 : decode cX12_house 157 = .ok (.iaload, 1) := by decide +kernel
theorem dX12_house_158 : decode cX12_house 158 = .ok (.ifCond .ne 12, 3) := by decide +kernel
theorem dX12_house_161 : decode cX12_house 161 = .ok (.aload_n 0, 1) := by decide +kernel
theorem dX12_house_162 : decode cX12_house 162 = .ok (.iconst 4, 1) := by decide +kernel
theorem dX12_house_163 : decode cX12_house 163 = .ok (.aload_n 0, 1) := by decide +kernel
theorem dX12_house_164 : decode cX12_house 164 = .ok (.getfield 93, 3) := by decide +kernel
theorem dX12_house_167 : decode cX12_house 167 = .ok (.invokevirtual 119, 3) := by decide +kernel
theorem dX12_house_170 : decode cX12_house 170 = .ok (.aload_n 0, 1) := by decide +kernel
theorem dX12_house_171 : decode cX12_house 171 = .ok (.aload_n 0, 1) := by decide +kernel
theorem dX12_house_172 : decode cX12_house 172 = .ok (.getfield 106, 3) := by decide +kernel
theorem dX12_house_175 : decode cX12_house 175 = .ok (.putfield 9, 3) := by decide +kernel
theorem dX12_house_178 : decode cX12_house 178 = .ok (.aload_n 0, 1) := by decide +kernel
theorem dX12_house_179 : decode cX12_house 179 = .ok (.getfield 103, 3) := by decide +kernel
theorem dX12_house_182 : decode cX12_house 182 = .ok (.ifCond .eq 11, 3) := by decide +kernel
theorem dX12_house_185 : decode cX12_house 185 = .ok (.aload_n 0, 1) := by decide +kernel
theorem dX12_house_186 : decode cX12_house 186 = .ok (.getfield 103, 3) := by decide +kernel
theorem dX12_house_189 : decode cX12_house 189 = .ok (.bipush 10, 2) := by decide +kernel
theorem dX12_house_191 : decode cX12_house 191 = .ok (.isub, 1) := by decide +kernel
theorem dX12_house_192 : decode cX12_house 192 = .ok (.ireturn, 1) := by decide +kernel
theorem dX12_house_193 : decode cX12_house 193 = .ok (.iconst 0, 1) := by decide +kernel
theorem dX12_house_194 : decode cX12_house 194 = .ok (.istore_n 2, 1) := by decide +kernel
theorem dX12_house_195 : decode cX12_house 195 = .ok (.iload_n 2, 1) := by decide +kernel
theorem dX12_house_196 : decode cX12_house 196 = .ok (.iconst 5, 1) := by decide +kernel
theorem dX12_house_197 : decode cX12_house 197 = .ok (.if_icmp .ge 21, 3) := by decide +kernel
theorem dX12_house_200 : decode cX12_house 200 = .ok (.aload_n 0, 1) := by decide +kernel
theorem dX12_house_201 : decode cX12_house 201 = .ok (.getfield 28, 3) := by decide +kernel
theorem dX12_house_204 : decode cX12_house 204 = .ok (.iload_n 2, 1) := by decide +kernel
theorem dX12_house_205 : decode cX12_house 205 = .ok (.aload_n 0, 1) := by decide +kernel
theorem dX12_house_206 : decode cX12_house 206 = .ok (.getfield 25, 3) := by decide +kernel
theorem dX12_house_209 : decode cX12_house 209 = .ok (.iload_n 2, 1) := by decide +kernel
theorem dX12_house_210 : decode cX12_house 210 = .ok (.iaload, 1) := by decide +kernel
theorem dX12_house_211 : decode cX12_house 211 = .ok (.iastore, 1) := by decide +kernel
theorem dX12_house_212 : decode cX12_house 212 = .ok (.iinc 2 1, 3) := by decide +kernel
theorem dX12_house_215 : decode cX12_house 215 = .ok (.goto (-20), 3) := by decide +kernel
theorem dX12_house_218 : decode cX12_house 218 = .ok (.iconst 0, 1) := by decide +kernel
theorem dX12_house_219 : decode cX12_house 219 = .ok (.istore_n 2, 1) := by decide +kernel
theorem dX12_house_220 : decode cX12_house 220 = .ok (.iload_n 2, 1) := by decide +kernel
theorem dX12_house_221 : decode cX12_house 221 = .ok (.bipush 9, 2) := by decide +kernel
theorem dX12_house_223 : decode cX12_house 223 = .ok (.if_icmp .ge 67, 3) := by decide +kernel
theorem dX12_house_226 : decode cX12_house 226 = .ok (.iconst 0, 1) := by decide +kernel
theorem dX12_house_227 : decode cX12_house 227 = .ok (.istore_n 3, 1) := by decide +kernel
theorem dX12_house_228 : decode cX12_house 228 = .ok (.iload_n 3, 1) := by decide +kernel
theorem dX12_house_229 : decode cX12_house 229 = .ok (.bipush 12, 2) := by decide +kernel
theorem dX12_house_231 : decode cX12_house 231 = .ok (.if_icmp .ge 25, 3) := by decide +kernel
theorem dX12_house_234 : decode cX12_house 234 = .ok (.aload_n 0, 1) := by decide +kernel
theorem dX12_house_235 : decode cX12_house 235 = .ok (.getfield 22, 3) := by decide +kernel
theorem dX12_house_238 : decode cX12_house 238 = .ok (.iload_n 2, 1) := by decide +kernel
theorem dX12_house_239 : decode cX12_house 239 = .ok (.aaload, 1) := by decide +kernel
theorem dX12_house_240 : decode cX12_house 240 = .ok (.iload_n 3, 1) := by decide +kernel
theorem dX12_house_241 : decode cX12_house 241 = .ok (.aload_n 0, 1) := by decide +kernel
theorem dX12_house_242 : decode cX12_house 242 = .ok (.getfield 19, 3) := by decide +kernel
theorem dX12_house_245 : decode cX12_house 245 = .ok (.iload_n 2, 1) := by decide +kernel
theorem dX12_house_246 : decode cX12_house 246 = .ok (.aaload, 1) := by decide +kernel
theorem dX12_house_247 : decode cX12_house 247 = .ok (.iload_n 3, 1) := by decide +kernel
theorem dX12_house_248 : decode cX12_house 248 = .ok (.iaload, 1) := by decide +kernel
theorem dX12_house_249 : decode cX12_house 249 = .ok (.iastore, 1) := by decide +kernel
theorem dX12_house_250 : decode cX12_house 250 = .ok (.iinc 3 1, 3) := by decide +kernel
theorem dX12_house_253 : decode cX12_house 253 = .ok (.goto (-25), 3) := by decide +kernel
theorem dX12_house_256 : decode cX12_house 256 = .ok (.aload_n 0, 1) := by decide +kernel
theorem dX12_house_257 : decode cX12_house 257 = .ok (.getfield 31, 3) := by decide +kernel
theorem dX12_house_260 : decode cX12_house 260 = .ok (.iload_n 2, 1) := by decide +kernel
theorem dX12_house_261 : decode cX12_house 261 = .ok (.iconst 0, 1) := by decide +kernel
theorem dX12_house_262 : decode cX12_house 262 = .ok (.iastore, 1) := by decide +kernel
theorem dX12_house_263 : decode cX12_house 263 = .ok (.aload_n 0, 1) := by decide +kernel
theorem dX12_house_264 : decode cX12_house 264 = .ok (.getfield 34, 3) := by decide +kernel
theorem dX12_house_267 : decode cX12_house 267 = .ok (.iload_n 2, 1) := by decide +kernel
theorem dX12_house_268 : decode cX12_house 268 = .ok (.iconst 0, 1) := by decide +kernel
theorem dX12_house_269 : decode cX12_house 269 = .ok (.iastore, 1) := by decide +kernel
theorem dX12_house_270 : decode cX12_house 270 = .ok (.aload_n 0, 1) := by decide +kernel
theorem dX12_house_271 : decode cX12_house 271 = .ok (.getfield 37, 3) := by decide +kernel
theorem dX12_house_274 : decode cX12_house 274 = .ok (.iload_n 2, 1) := by decide +kernel
theorem dX12_house_275 : decode cX12_house 275 = .ok (.iconst 0, 1) := by decide +kernel
theorem dX12_house_276 : decode cX12_house 276 = .ok (.iastore, 1) := by decide +kernel
theorem dX12_house_277 : decode cX12_house 277 = .ok (.aload_n 0, 1) := by decide +kernel
theorem dX12_house_278 : decode cX12_house 278 = .ok (.getfield 40, 3) := by decide +kernel
theorem dX12_house_281 : decode cX12_house 281 = .ok (.iload_n 2, 1) := by decide +kernel
theorem dX12_house_282 : decode cX12_house 282 = .ok (.iconst 0, 1) := by decide +kernel
theorem dX12_house_283 : decode cX12_house 283 = .ok (.iastore, 1) := by decide +kernel
theorem dX12_house_284 : decode cX12_house 284 = .ok (.iinc 2 1, 3) := by decide +kernel
theorem dX12_house_287 : decode cX12_house 287 = .ok (.goto (-67), 3) := by decide +kernel
theorem dX12_house_290 : decode cX12_house 290 = .ok (.aload_n 0, 1) := by decide +kernel
theorem dX12_house_291 : decode cX12_house 291 = .ok (.iconst 0, 1) := by decide +kernel
theorem dX12_house_292 : decode cX12_house 292 = .ok (.putfield 176, 3) := by decide +kernel
theorem dX12_house_295 : decode cX12_house 295 = .ok (.aload_n 0, 1) := by decide +kernel
theorem dX12_house_296 : decode cX12_house 296 = .ok (.iconst 0, 1) := by decide +kernel
theorem dX12_house_297 : decode cX12_house 297 = .ok (.putfield 179, 3) := by decide +kernel
theorem dX12_house_300 : decode cX12_house 300 = .ok (.aload_n 0, 1) := by decide +kernel
theorem dX12_house_301 : decode cX12_house 301 = .ok (.iconst 0, 1) := by decide +kernel
theorem dX12_house_302 : decode cX12_house 302 = .ok (.putfield 182, 3) := by decide +kernel
theorem dX12_house_305 : decode cX12_house 305 = .ok (.aload_n 0, 1) := by decide +kernel
theorem dX12_house_306 : decode cX12_house 306 = .ok (.iconst 0, 1) := by decide +kernel
theorem dX12_house_307 : decode cX12_house 307 = .ok (.putfield 185, 3) := by decide +kernel
theorem dX12_house_310 : decode cX12_house 310 = .ok (.aload_n 0, 1) := by decide +kernel
theorem dX12_house_311 : decode cX12_house 311 = .ok (.iconst 0, 1) := by decide +kernel
theorem dX12_house_312 : decode cX12_house 312 = .ok (.putfield 188, 3) := by decide +kernel
theorem dX12_house_315 : decode cX12_house 315 = .ok (.aload_n 0, 1) := by decide +kernel
theorem dX12_house_316 : decode cX12_house 316 = .ok (.iconst 0, 1) := by decide +kernel
theorem dX12_house_317 : decode cX12_house 317 = .ok (.putfield 191, 3) := by decide +kernel
theorem dX12_house_320 : decode cX12_house 320 = .ok (.aload_n 0, 1) := by decide +kernel
theorem dX12_house_321 : decode cX12_house 321 = .ok (.iconst 0, 1) := by decide +kernel
theorem dX12_house_322 : decode cX12_house 322 = .ok (.putfield 194, 3) := by decide +kernel
theorem dX12_house_325 : decode cX12_house 325 = .ok (.aload_n 0, 1) := by decide +kernel
theorem dX12_house_326 : decode cX12_house 326 = .ok (.iconst 0, 1) := by decide +kernel
theorem dX12_house_327 : decode cX12_house 327 = .ok (.putfield 197, 3) := by decide +kernel
theorem dX12_house_330 : decode cX12_house 330 = .ok (.aload_n 0, 1) := by decide +kernel
theorem dX12_house_331 : decode cX12_house 331 = .ok (.iconst 0, 1) := by decide +kernel
theorem dX12_house_332 : decode cX12_house 332 = .ok (.putfield 200, 3) := by decide +kernel
theorem dX12_house_335 : decode cX12_house 335 = .ok (.aload_n 0, 1) := by decide +kernel
theorem dX12_house_336 : decode cX12_house 336 = .ok (.getfield 28, 3) := by decide +kernel
theorem dX12_house_339 : decode cX12_house 339 = .ok (.iconst 0, 1) := by decide +kernel
theorem dX12_house_340 : decode cX12_house 340 = .ok (.iaload, 1) := by decide +kernel
theorem dX12_house_341 : decode cX12_house 341 = .ok (.ireturn, 1) := by decide +kernel
set_option maxHeartbeats 4000000 in
set_option maxRecDepth 100000 in
/-- the reference: byteAt -/
theorem m_byteAt (l : Launch) (hl0 : l.stackTraces = false) (D : va_G) (cy : Nat → ClassId) (sa : Nat → Nat) (v : Nat → Nat) (sz : Nat) : Met l yX12_byteAt (Cond.code yX12_byteAt cX12_byteAt 2 (some .int) :: kWS) ({ frames := 10, cells := 0, slots := 0, locals := 300 }) (kPre D cy sa [.ref (v 0), .int 0] [((v 0), .inr (13, [.int 0, .int 0, .int 0, .int (-1), .int 0, .int 0, .int (-1), .int 0, .ref (v 1), .ref (v 2), .ref (v 3), .ref (v 4), .ref (v 5), .ref (v 6), .ref (v 7), .ref (v 8), .ref (v 9), .int 0, .int 0, .int 0, .int 0, .int 0, .int 0, .int 0, .int 0, .int 0, .ref (v 10), .ref (v 11), .ref (v 12), .ref (v 13), .int 0, .ref (v 14), .ref (v 15), .ref (v 16), .ref (v 17), .ref (v 18), .int 0, .int 0, .int 0, .ref (v 19), .ref (v 20), .ref (v 21), .ref (v 22), .ref (v 23), .int 0, .int 0, .int 0, .int 0]))] sz) (va_Qi (fun (r : Int32) (_ : Unit) => r = (-1)) (kB D (va_A [((v 0), .inr (13, [.int 0, .int 0, .int 0, .int (-1), .int 0, .int 0, .int (-1), .int 0, .ref (v 1), .ref (v 2), .ref (v 3), .ref (v 4), .ref (v 5), .ref (v 6), .ref (v 7), .ref (v 8), .ref (v 9), .int 0, .int 0, .int 0, .int 0, .int 0, .int 0, .int 0, .int 0, .int 0, .ref (v 10), .ref (v 11), .ref (v 12), .ref (v 13), .int 0, .ref (v 14), .ref (v 15), .ref (v 16), .ref (v 17), .ref (v 18), .int 0, .int 0, .int 0, .ref (v 19), .ref (v 20), .ref (v 21), .ref (v 22), .ref (v 23), .int 0, .int 0, .int 0, .int 0]))] sz) (fun _ => [((v 0), .inr (13, [.int 0, .int 0, .int 0, .int (-1), .int 0, .int 0, .int (-1), .int 0, .ref (v 1), .ref (v 2), .ref (v 3), .ref (v 4), .ref (v 5), .ref (v 6), .ref (v 7), .ref (v 8), .ref (v 9), .int 0, .int 0, .int 0, .int 0, .int 0, .int 0, .int 0, .int 0, .int 0, .ref (v 10), .ref (v 11), .ref (v 12), .ref (v 13), .int 0, .ref (v 14), .ref (v 15), .ref (v 16), .ref (v 17), .ref (v 18), .int 0, .int 0, .int 0, .ref (v 19), .ref (v 20), .ref (v 21), .ref (v 22), .ref (v 23), .int 0, .int 0, .int 0, .int 0]))])) (va_A [((v 0), .inr (13, [.int 0, .int 0, .int 0, .int (-1), .int 0, .int 0, .int (-1), .int 0, .ref (v 1), .ref (v 2), .ref (v 3), .ref (v 4), .ref (v 5), .ref (v 6), .ref (v 7), .ref (v 8), .ref (v 9), .int 0, .int 0, .int 0, .int 0, .int 0, .int 0, .int 0, .int 0, .int 0, .ref (v 10), .ref (v 11), .ref (v 12), .ref (v 13), .int 0, .ref (v 14), .ref (v 15), .ref (v 16), .ref (v 17), .ref (v 18), .int 0, .int 0, .int 0, .ref (v 19), .ref (v 20), .ref (v 21), .ref (v 22), .ref (v 23), .int 0, .int 0, .int 0, .int 0]))] sz)) 0 0 (va_A [((v 0), .inr (13, [.int 0, .int 0, .int 0, .int (-1), .int 0, .int 0, .int (-1), .int 0, .ref (v 1), .ref (v 2), .ref (v 3), .ref (v 4), .ref (v 5), .ref (v 6), .ref (v 7), .ref (v 8), .ref (v 9), .int 0, .int 0, .int 0, .int 0, .int 0, .int 0, .int 0, .int 0, .int 0, .ref (v 10), .ref (v 11), .ref (v 12), .ref (v 13), .int 0, .ref (v 14), .ref (v 15), .ref (v 16), .ref (v 17), .ref (v 18), .int 0, .int 0, .int 0, .ref (v 19), .ref (v 20), .ref (v 21), .ref (v 22), .ref (v 23), .int 0, .int 0, .int 0, .int 0]))] sz) := by
  refine k_ofW (y := yX12_byteAt) (cc := cX12_byteAt) (maxL := 2) (ret := (some .int)) (av := [.ref (v 0), .int 0]) (ws := [((v 0), .inr (13, [.int 0, .int 0, .int 0, .int (-1), .int 0, .int 0, .int (-1), .int 0, .ref (v 1), .ref (v 2), .ref (v 3), .ref (v 4), .ref (v 5), .ref (v 6), .ref (v 7), .ref (v 8), .ref (v 9), .int 0, .int 0, .int 0, .int 0, .int 0, .int 0, .int 0, .int 0, .int 0, .ref (v 10), .ref (v 11), .ref (v 12), .ref (v 13), .int 0, .ref (v 14), .ref (v 15), .ref (v 16), .ref (v 17), .ref (v 18), .int 0, .int 0, .int 0, .ref (v 19), .ref (v 20), .ref (v 21), .ref (v 22), .ref (v 23), .int 0, .int 0, .int 0, .int 0]))]) (Qc := fun A => va_Qi (fun (r : Int32) (_ : Unit) => r = (-1)) (kB D A (fun _ => [((v 0), .inr (13, [.int 0, .int 0, .int 0, .int (-1), .int 0, .int 0, .int (-1), .int 0, .ref (v 1), .ref (v 2), .ref (v 3), .ref (v 4), .ref (v 5), .ref (v 6), .ref (v 7), .ref (v 8), .ref (v 9), .int 0, .int 0, .int 0, .int 0, .int 0, .int 0, .int 0, .int 0, .int 0, .ref (v 10), .ref (v 11), .ref (v 12), .ref (v 13), .int 0, .ref (v 14), .ref (v 15), .ref (v 16), .ref (v 17), .ref (v 18), .int 0, .int 0, .int 0, .ref (v 19), .ref (v 20), .ref (v 21), .ref (v 22), .ref (v 23), .int 0, .int 0, .int 0, .int 0]))])) A) (by decide) (Nat.le_of_ble_eq_true rfl) ?_
  intro p e s m below meth c ls A E hA hP hD hG hS hl
  obtain ⟨hx, hb, hml, hown, hts, hr, hlk, hnm⟩ := id E
  have hown : s.vm.findClass RX12 = some m.cls := hown
  have hl : lv_has ls 2 [(0, .ref (v 0)), (1, .int 0)] := hl
  obtain ⟨H, hH⟩ : ∃ H, H = s.heap := ⟨_, rfl⟩
  have hP : va_P D vwCl [((v 0), .inr (13, [.int 0, .int 0, .int 0, .int (-1), .int 0, .int 0, .int (-1), .int 0, .ref (v 1), .ref (v 2), .ref (v 3), .ref (v 4), .ref (v 5), .ref (v 6), .ref (v 7), .ref (v 8), .ref (v 9), .int 0, .int 0, .int 0, .int 0, .int 0, .int 0, .int 0, .int 0, .int 0, .ref (v 10), .ref (v 11), .ref (v 12), .ref (v 13), .int 0, .ref (v 14), .ref (v 15), .ref (v 16), .ref (v 17), .ref (v 18), .int 0, .int 0, .int 0, .ref (v 19), .ref (v 20), .ref (v 21), .ref (v 22), .ref (v 23), .int 0, .int 0, .int 0, .int 0]))] H := by rw [hH]; exact hP
  have hS : va_S A s.heap H [] := by rw [hH]; exact va_S.rf
  rw [← hH]
  clear hH
  refine lv_iload_n hx hb dX12_byteAt_0 rfl (lv_at hl 1 rfl) ?_
  refine lv_aload_n hx hb dX12_byteAt_1 rfl (lv_at hl 0 rfl) ?_
  refine va_get (D := D) (ci := 13) (v := .int 0) (C := RX12) (T := TX12) (N := 48) hx hb hts kin_RX12 hown hG.1 hP 0 rfl rfl 2 (by decide) (hts _ wm_1521) (fun _ h9 => h9) rfl dX12_byteAt_2 ?_
  refine lv_icmp_lt (tgt := 12) hx hb dX12_byteAt_5 (by decide) (fun h => absurd h (by decide)) (fun _ => ?_)
  refine lv_iconst (v := (-1)) hx hb dX12_byteAt_8 (by decide) ?_
  refine lv_goto (tgt := 18) hx hb dX12_byteAt_9 (by decide) ?_
  exact k_iret () hx hb hr hlk (rfl) (hP.sub [0] rfl) (hD.sub [0] (by decide) rfl) hS (by decide) (by decide) dX12_byteAt_18

set_option maxHeartbeats 4000000 in
set_option maxRecDepth 100000 in
/-- the reference: blanks -/
theorem m_blanks (l : Launch) (hl0 : l.stackTraces = false) (D : va_G) (cy : Nat → ClassId) (sa : Nat → Nat) (v : Nat → Nat) (sz : Nat) : Met l yX12_blanks (Cond.code yX12_blanks cX12_blanks 1 none :: kWS) ({ frames := 11, cells := 0, slots := 0, locals := 360 }) (kPre D cy sa [.ref (v 0)] [((v 0), .inr (13, [.int 0, .int 0, .int 0, .int (-1), .int 0, .int 0, .int (-1), .int 0, .ref (v 1), .ref (v 2), .ref (v 3), .ref (v 4), .ref (v 5), .ref (v 6), .ref (v 7), .ref (v 8), .ref (v 9), .int 0, .int 0, .int 0, .int 0, .int 0, .int 0, .int 0, .int 0, .int 0, .ref (v 10), .ref (v 11), .ref (v 12), .ref (v 13), .int 0, .ref (v 14), .ref (v 15), .ref (v 16), .ref (v 17), .ref (v 18), .int 0, .int 0, .int 0, .ref (v 19), .ref (v 20), .ref (v 21), .ref (v 22), .ref (v 23), .int 0, .int 0, .int 0, .int 0]))] sz) (va_Qv (fun (_ : Unit) => True) (kB D (va_A [((v 0), .inr (13, [.int 0, .int 0, .int 0, .int (-1), .int 0, .int 0, .int (-1), .int 0, .ref (v 1), .ref (v 2), .ref (v 3), .ref (v 4), .ref (v 5), .ref (v 6), .ref (v 7), .ref (v 8), .ref (v 9), .int 0, .int 0, .int 0, .int 0, .int 0, .int 0, .int 0, .int 0, .int 0, .ref (v 10), .ref (v 11), .ref (v 12), .ref (v 13), .int 0, .ref (v 14), .ref (v 15), .ref (v 16), .ref (v 17), .ref (v 18), .int 0, .int 0, .int 0, .ref (v 19), .ref (v 20), .ref (v 21), .ref (v 22), .ref (v 23), .int 0, .int 0, .int 0, .int 0]))] sz) (fun _ => [((v 0), .inr (13, [.int 0, .int 0, .int 0, .int (-1), .int 0, .int 0, .int (-1), .int 0, .ref (v 1), .ref (v 2), .ref (v 3), .ref (v 4), .ref (v 5), .ref (v 6), .ref (v 7), .ref (v 8), .ref (v 9), .int 0, .int 0, .int 0, .int 0, .int 0, .int 0, .int 0, .int 0, .int 0, .ref (v 10), .ref (v 11), .ref (v 12), .ref (v 13), .int 0, .ref (v 14), .ref (v 15), .ref (v 16), .ref (v 17), .ref (v 18), .int 0, .int 0, .int 0, .ref (v 19), .ref (v 20), .ref (v 21), .ref (v 22), .ref (v 23), .int 0, .int 0, .int 0, .int 0]))])) (va_A [((v 0), .inr (13, [.int 0, .int 0, .int 0, .int (-1), .int 0, .int 0, .int (-1), .int 0, .ref (v 1), .ref (v 2), .ref (v 3), .ref (v 4), .ref (v 5), .ref (v 6), .ref (v 7), .ref (v 8), .ref (v 9), .int 0, .int 0, .int 0, .int 0, .int 0, .int 0, .int 0, .int 0, .int 0, .ref (v 10), .ref (v 11), .ref (v 12), .ref (v 13), .int 0, .ref (v 14), .ref (v 15), .ref (v 16), .ref (v 17), .ref (v 18), .int 0, .int 0, .int 0, .ref (v 19), .ref (v 20), .ref (v 21), .ref (v 22), .ref (v 23), .int 0, .int 0, .int 0, .int 0]))] sz)) 0 0 (va_A [((v 0), .inr (13, [.int 0, .int 0, .int 0, .int (-1), .int 0, .int 0, .int (-1), .int 0, .ref (v 1), .ref (v 2), .ref (v 3), .ref (v 4), .ref (v 5), .ref (v 6), .ref (v 7), .ref (v 8), .ref (v 9), .int 0, .int 0, .int 0, .int 0, .int 0, .int 0, .int 0, .int 0, .int 0, .ref (v 10), .ref (v 11), .ref (v 12), .ref (v 13), .int 0, .ref (v 14), .ref (v 15), .ref (v 16), .ref (v 17), .ref (v 18), .int 0, .int 0, .int 0, .ref (v 19), .ref (v 20), .ref (v 21), .ref (v 22), .ref (v 23), .int 0, .int 0, .int 0, .int 0]))] sz) := by
  refine k_ofW (y := yX12_blanks) (cc := cX12_blanks) (maxL := 1) (ret := none) (av := [.ref (v 0)]) (ws := [((v 0), .inr (13, [.int 0, .int 0, .int 0, .int (-1), .int 0, .int 0, .int (-1), .int 0, .ref (v 1), .ref (v 2), .ref (v 3), .ref (v 4), .ref (v 5), .ref (v 6), .ref (v 7), .ref (v 8), .ref (v 9), .int 0, .int 0, .int 0, .int 0, .int 0, .int 0, .int 0, .int 0, .int 0, .ref (v 10), .ref (v 11), .ref (v 12), .ref (v 13), .int 0, .ref (v 14), .ref (v 15), .ref (v 16), .ref (v 17), .ref (v 18), .int 0, .int 0, .int 0, .ref (v 19), .ref (v 20), .ref (v 21), .ref (v 22), .ref (v 23), .int 0, .int 0, .int 0, .int 0]))]) (Qc := fun A => va_Qv (fun (_ : Unit) => True) (kB D A (fun _ => [((v 0), .inr (13, [.int 0, .int 0, .int 0, .int (-1), .int 0, .int 0, .int (-1), .int 0, .ref (v 1), .ref (v 2), .ref (v 3), .ref (v 4), .ref (v 5), .ref (v 6), .ref (v 7), .ref (v 8), .ref (v 9), .int 0, .int 0, .int 0, .int 0, .int 0, .int 0, .int 0, .int 0, .int 0, .ref (v 10), .ref (v 11), .ref (v 12), .ref (v 13), .int 0, .ref (v 14), .ref (v 15), .ref (v 16), .ref (v 17), .ref (v 18), .int 0, .int 0, .int 0, .ref (v 19), .ref (v 20), .ref (v 21), .ref (v 22), .ref (v 23), .int 0, .int 0, .int 0, .int 0]))])) A) (by decide) (Nat.le_of_ble_eq_true rfl) ?_
  intro p e s m below meth c ls A E hA hP hD hG hS hl
  obtain ⟨hx, hb, hml, hown, hts, hr, hlk, hnm⟩ := id E
  have hown : s.vm.findClass RX12 = some m.cls := hown
  have hl : lv_has ls 1 [(0, .ref (v 0))] := hl
  obtain ⟨H, hH⟩ : ∃ H, H = s.heap := ⟨_, rfl⟩
  have hP : va_P D vwCl [((v 0), .inr (13, [.int 0, .int 0, .int 0, .int (-1), .int 0, .int 0, .int (-1), .int 0, .ref (v 1), .ref (v 2), .ref (v 3), .ref (v 4), .ref (v 5), .ref (v 6), .ref (v 7), .ref (v 8), .ref (v 9), .int 0, .int 0, .int 0, .int 0, .int 0, .int 0, .int 0, .int 0, .int 0, .ref (v 10), .ref (v 11), .ref (v 12), .ref (v 13), .int 0, .ref (v 14), .ref (v 15), .ref (v 16), .ref (v 17), .ref (v 18), .int 0, .int 0, .int 0, .ref (v 19), .ref (v 20), .ref (v 21), .ref (v 22), .ref (v 23), .int 0, .int 0, .int 0, .int 0]))] H := by rw [hH]; exact hP
  have hS : va_S A s.heap H [] := by rw [hH]; exact va_S.rf
  rw [← hH]
  clear hH
  refine lv_aload_n hx hb dX12_blanks_0 rfl (lv_at hl 0 rfl) ?_
  refine lv_aload_n hx hb dX12_blanks_1 rfl (lv_at hl 0 rfl) ?_
  refine va_get (D := D) (ci := 13) (v := .int 0) (C := RX12) (T := TX12) (N := 48) hx hb hts kin_RX12 hown hG.1 hP 0 rfl rfl 4 (by decide) (hts _ wm_1523) (fun _ h9 => h9) rfl dX12_blanks_2 ?_
  refine k_cali [] (⟨hP, hD, hG, hS, hA, rfl, rfl⟩ : kAt D cy sa A s H _ _ [((v 0), .inr (13, [.int 0, .int 0, .int 0, .int (-1), .int 0, .int 0, .int (-1), .int 0, .ref (v 1), .ref (v 2), .ref (v 3), .ref (v 4), .ref (v 5), .ref (v 6), .ref (v 7), .ref (v 8), .ref (v 9), .int 0, .int 0, .int 0, .int 0, .int 0, .int 0, .int 0, .int 0, .int 0, .ref (v 10), .ref (v 11), .ref (v 12), .ref (v 13), .int 0, .ref (v 14), .ref (v 15), .ref (v 16), .ref (v 17), .ref (v 18), .int 0, .int 0, .int 0, .ref (v 19), .ref (v 20), .ref (v 21), .ref (v 22), .ref (v 23), .int 0, .int 0, .int 0, .int 0]))] [0]) (wr := []) rfl rfl (by decide) (k_runV 13 0 (As := [.int 0]) (rest := []) E lk_VRX12_99 rfl rfl rfl (m_byteAt l hl0 D cy sa v H.size) (⟨hP, hD, hG, hS, hA, rfl, rfl⟩ : kAt D cy sa A s H _ _ [((v 0), .inr (13, [.int 0, .int 0, .int 0, .int (-1), .int 0, .int 0, .int (-1), .int 0, .ref (v 1), .ref (v 2), .ref (v 3), .ref (v 4), .ref (v 5), .ref (v 6), .ref (v 7), .ref (v 8), .ref (v 9), .int 0, .int 0, .int 0, .int 0, .int 0, .int 0, .int 0, .int 0, .int 0, .ref (v 10), .ref (v 11), .ref (v 12), .ref (v 13), .int 0, .ref (v 14), .ref (v 15), .ref (v 16), .ref (v 17), .ref (v 18), .int 0, .int 0, .int 0, .ref (v 19), .ref (v 20), .ref (v 21), .ref (v 22), .ref (v 23), .int 0, .int 0, .int 0, .int 0]))] [0]) hl.1 rfl rfl ⟨rfl, rfl, ⟨Nat.le_of_ble_eq_true rfl, Nat.le_of_ble_eq_true rfl⟩, ⟨Nat.le_of_ble_eq_true rfl, Nat.le_of_ble_eq_true rfl⟩, Nat.le_of_ble_eq_true rfl⟩ dX12_blanks_5) (fun r1 u2 H locs hwu2 hP hD hS => ?_)
  have hP : va_P D vwCl [((v 0), .inr (13, [.int 0, .int 0, .int 0, .int (-1), .int 0, .int 0, .int (-1), .int 0, .ref (v 1), .ref (v 2), .ref (v 3), .ref (v 4), .ref (v 5), .ref (v 6), .ref (v 7), .ref (v 8), .ref (v 9), .int 0, .int 0, .int 0, .int 0, .int 0, .int 0, .int 0, .int 0, .int 0, .ref (v 10), .ref (v 11), .ref (v 12), .ref (v 13), .int 0, .ref (v 14), .ref (v 15), .ref (v 16), .ref (v 17), .ref (v 18), .int 0, .int 0, .int 0, .ref (v 19), .ref (v 20), .ref (v 21), .ref (v 22), .ref (v 23), .int 0, .int 0, .int 0, .int 0]))] H := hP
  have hD : va_D A [((v 0), .inr (13, [.int 0, .int 0, .int 0, .int (-1), .int 0, .int 0, .int (-1), .int 0, .ref (v 1), .ref (v 2), .ref (v 3), .ref (v 4), .ref (v 5), .ref (v 6), .ref (v 7), .ref (v 8), .ref (v 9), .int 0, .int 0, .int 0, .int 0, .int 0, .int 0, .int 0, .int 0, .int 0, .ref (v 10), .ref (v 11), .ref (v 12), .ref (v 13), .int 0, .ref (v 14), .ref (v 15), .ref (v 16), .ref (v 17), .ref (v 18), .int 0, .int 0, .int 0, .ref (v 19), .ref (v 20), .ref (v 21), .ref (v 22), .ref (v 23), .int 0, .int 0, .int 0, .int 0]))] := hD
  obtain rfl : r1 = (-1) := hwu2
  refine lv_bipush (v := 32) hx hb dX12_blanks_8 (by decide) ?_
  refine lv_icmp_ne (tgt := 26) hx hb dX12_blanks_10 (by decide) (fun _ => ?_) (fun h => absurd h (by decide))
  exact k_vret () hx hb hr hlk (trivial) (hP.sub [0] rfl) (hD.sub [0] (by decide) rfl) hS (by decide) (by decide) dX12_blanks_26

set_option maxHeartbeats 4000000 in
set_option maxRecDepth 100000 in
/-- the reference: wrong -/
theorem m_wrong (l : Launch) (hl0 : l.stackTraces = false) (D : va_G) (cy : Nat → ClassId) (sa : Nat → Nat) (v : Nat → Nat) (sz : Nat) : Met l yX12_wrong (Cond.code yX12_wrong cX12_wrong 3 none :: kWS) ({ frames := 10, cells := 0, slots := 0, locals := 300 }) (kPre D cy sa [.ref (v 0), .int 4, .int 0] [((v 0), .inr (13, [.int 0, .int 0, .int 0, .int (-1), .int 0, .int 0, .int (-1), .int 0, .ref (v 1), .ref (v 2), .ref (v 3), .ref (v 4), .ref (v 5), .ref (v 6), .ref (v 7), .ref (v 8), .ref (v 9), .int 0, .int 0, .int 0, .int 0, .int 0, .int 0, .int 0, .int 0, .int 0, .ref (v 10), .ref (v 11), .ref (v 12), .ref (v 13), .int 0, .ref (v 14), .ref (v 15), .ref (v 16), .ref (v 17), .ref (v 18), .int 0, .int 0, .int 0, .ref (v 19), .ref (v 20), .ref (v 21), .ref (v 22), .ref (v 23), .int 0, .int 0, .int 0, .int 0]))] sz) (va_Qv (fun (_ : Unit) => True) (kB D (va_A [((v 0), .inr (13, [.int 0, .int 0, .int 0, .int (-1), .int 0, .int 0, .int (-1), .int 0, .ref (v 1), .ref (v 2), .ref (v 3), .ref (v 4), .ref (v 5), .ref (v 6), .ref (v 7), .ref (v 8), .ref (v 9), .int 0, .int 0, .int 0, .int 0, .int 0, .int 0, .int 0, .int 0, .int 0, .ref (v 10), .ref (v 11), .ref (v 12), .ref (v 13), .int 0, .ref (v 14), .ref (v 15), .ref (v 16), .ref (v 17), .ref (v 18), .int 0, .int 0, .int 0, .ref (v 19), .ref (v 20), .ref (v 21), .ref (v 22), .ref (v 23), .int 0, .int 0, .int 0, .int 0]))] sz) (fun _ => [((v 0), .inr (13, [.int 0, .int 0, .int 0, .int (-1), .int 0, .int 4, .int 0, .int 0, .ref (v 1), .ref (v 2), .ref (v 3), .ref (v 4), .ref (v 5), .ref (v 6), .ref (v 7), .ref (v 8), .ref (v 9), .int 0, .int 0, .int 0, .int 0, .int 0, .int 0, .int 0, .int 0, .int 0, .ref (v 10), .ref (v 11), .ref (v 12), .ref (v 13), .int 0, .ref (v 14), .ref (v 15), .ref (v 16), .ref (v 17), .ref (v 18), .int 0, .int 0, .int 0, .ref (v 19), .ref (v 20), .ref (v 21), .ref (v 22), .ref (v 23), .int 0, .int 0, .int 0, .int 0]))])) (va_A [((v 0), .inr (13, [.int 0, .int 0, .int 0, .int (-1), .int 0, .int 0, .int (-1), .int 0, .ref (v 1), .ref (v 2), .ref (v 3), .ref (v 4), .ref (v 5), .ref (v 6), .ref (v 7), .ref (v 8), .ref (v 9), .int 0, .int 0, .int 0, .int 0, .int 0, .int 0, .int 0, .int 0, .int 0, .ref (v 10), .ref (v 11), .ref (v 12), .ref (v 13), .int 0, .ref (v 14), .ref (v 15), .ref (v 16), .ref (v 17), .ref (v 18), .int 0, .int 0, .int 0, .ref (v 19), .ref (v 20), .ref (v 21), .ref (v 22), .ref (v 23), .int 0, .int 0, .int 0, .int 0]))] sz)) 0 0 (va_A [((v 0), .inr (13, [.int 0, .int 0, .int 0, .int (-1), .int 0, .int 0, .int (-1), .int 0, .ref (v 1), .ref (v 2), .ref (v 3), .ref (v 4), .ref (v 5), .ref (v 6), .ref (v 7), .ref (v 8), .ref (v 9), .int 0, .int 0, .int 0, .int 0, .int 0, .int 0, .int 0, .int 0, .int 0, .ref (v 10), .ref (v 11), .ref (v 12), .ref (v 13), .int 0, .ref (v 14), .ref (v 15), .ref (v 16), .ref (v 17), .ref (v 18), .int 0, .int 0, .int 0, .ref (v 19), .ref (v 20), .ref (v 21), .ref (v 22), .ref (v 23), .int 0, .int 0, .int 0, .int 0]))] sz) := by
  refine k_ofW (y := yX12_wrong) (cc := cX12_wrong) (maxL := 3) (ret := none) (av := [.ref (v 0), .int 4, .int 0]) (ws := [((v 0), .inr (13, [.int 0, .int 0, .int 0, .int (-1), .int 0, .int 0, .int (-1), .int 0, .ref (v 1), .ref (v 2), .ref (v 3), .ref (v 4), .ref (v 5), .ref (v 6), .ref (v 7), .ref (v 8), .ref (v 9), .int 0, .int 0, .int 0, .int 0, .int 0, .int 0, .int 0, .int 0, .int 0, .ref (v 10), .ref (v 11), .ref (v 12), .ref (v 13), .int 0, .ref (v 14), .ref (v 15), .ref (v 16), .ref (v 17), .ref (v 18), .int 0, .int 0, .int 0, .ref (v 19), .ref (v 20), .ref (v 21), .ref (v 22), .ref (v 23), .int 0, .int 0, .int 0, .int 0]))]) (Qc := fun A => va_Qv (fun (_ : Unit) => True) (kB D A (fun _ => [((v 0), .inr (13, [.int 0, .int 0, .int 0, .int (-1), .int 0, .int 4, .int 0, .int 0, .ref (v 1), .ref (v 2), .ref (v 3), .ref (v 4), .ref (v 5), .ref (v 6), .ref (v 7), .ref (v 8), .ref (v 9), .int 0, .int 0, .int 0, .int 0, .int 0, .int 0, .int 0, .int 0, .int 0, .ref (v 10), .ref (v 11), .ref (v 12), .ref (v 13), .int 0, .ref (v 14), .ref (v 15), .ref (v 16), .ref (v 17), .ref (v 18), .int 0, .int 0, .int 0, .ref (v 19), .ref (v 20), .ref (v 21), .ref (v 22), .ref (v 23), .int 0, .int 0, .int 0, .int 0]))])) A) (by decide) (Nat.le_of_ble_eq_true rfl) ?_
  intro p e s m below meth c ls A E hA hP hD hG hS hl
  obtain ⟨hx, hb, hml, hown, hts, hr, hlk, hnm⟩ := id E
  have hown : s.vm.findClass RX12 = some m.cls := hown
  have hl : lv_has ls 3 [(0, .ref (v 0)), (1, .int 4), (2, .int 0)] := hl
  obtain ⟨H, hH⟩ : ∃ H, H = s.heap := ⟨_, rfl⟩
  have hP : va_P D vwCl [((v 0), .inr (13, [.int 0, .int 0, .int 0, .int (-1), .int 0, .int 0, .int (-1), .int 0, .ref (v 1), .ref (v 2), .ref (v 3), .ref (v 4), .ref (v 5), .ref (v 6), .ref (v 7), .ref (v 8), .ref (v 9), .int 0, .int 0, .int 0, .int 0, .int 0, .int 0, .int 0, .int 0, .int 0, .ref (v 10), .ref (v 11), .ref (v 12), .ref (v 13), .int 0, .ref (v 14), .ref (v 15), .ref (v 16), .ref (v 17), .ref (v 18), .int 0, .int 0, .int 0, .ref (v 19), .ref (v 20), .ref (v 21), .ref (v 22), .ref (v 23), .int 0, .int 0, .int 0, .int 0]))] H := by rw [hH]; exact hP
  have hS : va_S A s.heap H [] := by rw [hH]; exact va_S.rf
  rw [← hH]
  clear hH
  refine lv_aload_n hx hb dX12_wrong_0 rfl (lv_at hl 0 rfl) ?_
  refine va_get (D := D) (ci := 13) (v := .int 0) (C := RX12) (T := TX12) (N := 48) hx hb hts kin_RX12 hown hG.1 hP 0 rfl rfl 5 (by decide) (hts _ wm_1524) (fun _ h9 => h9) rfl dX12_wrong_1 ?_
  refine lv_if_ne (tgt := 17) hx hb dX12_wrong_4 (by decide) (fun h => absurd (by decide) h) (fun _ => ?_)
  refine lv_aload_n hx hb dX12_wrong_7 rfl (lv_at hl 0 rfl) ?_
  refine lv_iload_n hx hb dX12_wrong_8 rfl (lv_at hl 1 rfl) ?_
  refine va_put (D := D) (ci := 13) (v := .int 4) (ty := .int) (C := RX12) (T := TX12) (N := 48) hx hb hts kin_RX12 tyX12 tyX12_ok nmX12 hown hG.1 hP hD hS 0 rfl rfl 5 (by decide) (hts _ wm_1524) (fun _ h9 => h9) rfl (by decide +kernel) rfl rfl (Nat.le_of_ble_eq_true rfl) dX12_wrong_9 (fun H locs hP hD hS => ?_)
  have hP : va_P D vwCl [((v 0), .inr (13, [.int 0, .int 0, .int 0, .int (-1), .int 0, .int 4, .int (-1), .int 0, .ref (v 1), .ref (v 2), .ref (v 3), .ref (v 4), .ref (v 5), .ref (v 6), .ref (v 7), .ref (v 8), .ref (v 9), .int 0, .int 0, .int 0, .int 0, .int 0, .int 0, .int 0, .int 0, .int 0, .ref (v 10), .ref (v 11), .ref (v 12), .ref (v 13), .int 0, .ref (v 14), .ref (v 15), .ref (v 16), .ref (v 17), .ref (v 18), .int 0, .int 0, .int 0, .ref (v 19), .ref (v 20), .ref (v 21), .ref (v 22), .ref (v 23), .int 0, .int 0, .int 0, .int 0]))] H := hP
  have hD : va_D A [((v 0), .inr (13, [.int 0, .int 0, .int 0, .int (-1), .int 0, .int 4, .int (-1), .int 0, .ref (v 1), .ref (v 2), .ref (v 3), .ref (v 4), .ref (v 5), .ref (v 6), .ref (v 7), .ref (v 8), .ref (v 9), .int 0, .int 0, .int 0, .int 0, .int 0, .int 0, .int 0, .int 0, .int 0, .ref (v 10), .ref (v 11), .ref (v 12), .ref (v 13), .int 0, .ref (v 14), .ref (v 15), .ref (v 16), .ref (v 17), .ref (v 18), .int 0, .int 0, .int 0, .ref (v 19), .ref (v 20), .ref (v 21), .ref (v 22), .ref (v 23), .int 0, .int 0, .int 0, .int 0]))] := hD
  refine lv_aload_n hx hb dX12_wrong_12 rfl (lv_at hl 0 rfl) ?_
  refine lv_iload_n hx hb dX12_wrong_13 rfl (lv_at hl 2 rfl) ?_
  refine va_put (D := D) (ci := 13) (v := .int 0) (ty := .int) (C := RX12) (T := TX12) (N := 48) hx hb hts kin_RX12 tyX12 tyX12_ok nmX12 hown hG.1 hP hD hS 0 rfl rfl 6 (by decide) (hts _ wm_1525) (fun _ h9 => h9) rfl (by decide +kernel) rfl rfl (Nat.le_of_ble_eq_true rfl) dX12_wrong_14 (fun H locs hP hD hS => ?_)
  have hP : va_P D vwCl [((v 0), .inr (13, [.int 0, .int 0, .int 0, .int (-1), .int 0, .int 4, .int 0, .int 0, .ref (v 1), .ref (v 2), .ref (v 3), .ref (v 4), .ref (v 5), .ref (v 6), .ref (v 7), .ref (v 8), .ref (v 9), .int 0, .int 0, .int 0, .int 0, .int 0, .int 0, .int 0, .int 0, .int 0, .ref (v 10), .ref (v 11), .ref (v 12), .ref (v 13), .int 0, .ref (v 14), .ref (v 15), .ref (v 16), .ref (v 17), .ref (v 18), .int 0, .int 0, .int 0, .ref (v 19), .ref (v 20), .ref (v 21), .ref (v 22), .ref (v 23), .int 0, .int 0, .int 0, .int 0]))] H := hP
  have hD : va_D A [((v 0), .inr (13, [.int 0, .int 0, .int 0, .int (-1), .int 0, .int 4, .int 0, .int 0, .ref (v 1), .ref (v 2), .ref (v 3), .ref (v 4), .ref (v 5), .ref (v 6), .ref (v 7), .ref (v 8), .ref (v 9), .int 0, .int 0, .int 0, .int 0, .int 0, .int 0, .int 0, .int 0, .int 0, .ref (v 10), .ref (v 11), .ref (v 12), .ref (v 13), .int 0, .ref (v 14), .ref (v 15), .ref (v 16), .ref (v 17), .ref (v 18), .int 0, .int 0, .int 0, .ref (v 19), .ref (v 20), .ref (v 21), .ref (v 22), .ref (v 23), .int 0, .int 0, .int 0, .int 0]))] := hD
  exact k_vret () hx hb hr hlk (trivial) (hP.sub [0] rfl) (hD.sub [0] (by decide) rfl) hS (by decide) (by decide) dX12_wrong_17

set_option maxHeartbeats 4000000 in
set_option maxRecDepth 100000 in
/-- the reference: house -/
theorem m_house_ (l : Launch) (hl0 : l.stackTraces = false) (D : va_G) (cy : Nat → ClassId) (sa : Nat → Nat) (v : Nat → Nat) (p0 : Int32) (sz : Nat) : Met l yX12_house (Cond.code yX12_house cX12_house 4 (some .int) :: kWS) ({ frames := 13, cells := 0, slots := 0, locals := 480 }) (kPre D cy sa [.ref (v 0), .int p0] [((v 0), .inr (13, [.int 0, .int 0, .int 0, .int (-1), .int 0, .int 0, .int 0, .int 0, .ref (v 1), .ref (v 2), .ref (v 3), .ref (v 4), .ref (v 5), .ref (v 6), .ref (v 7), .ref (v 8), .ref (v 9), .int 0, .int 0, .int 0, .int 0, .int 0, .int 0, .int 0, .int 0, .int 0, .ref (v 10), .ref (v 11), .ref (v 12), .ref (v 13), .int 0, .ref (v 14), .ref (v 15), .ref (v 16), .ref (v 17), .ref (v 18), .int 0, .int 0, .int 0, .ref (v 19), .ref (v 20), .ref (v 21), .ref (v 22), .ref (v 23), .int 0, .int 0, .int 0, .int 0])), ((v 4), .inl (cy 0, 5, .inl (fun _ => 0)))] sz) (va_Qi (fun (r : Int32) (x : Int32 × List Value) => ((p0 = 0) → x.1 = 0 ∧ r = -6) ∧ (¬ (p0 = 0) → x.1 = 1)) (kB D (va_A [((v 0), .inr (13, [.int 0, .int 0, .int 0, .int (-1), .int 0, .int 0, .int 0, .int 0, .ref (v 1), .ref (v 2), .ref (v 3), .ref (v 4), .ref (v 5), .ref (v 6), .ref (v 7), .ref (v 8), .ref (v 9), .int 0, .int 0, .int 0, .int 0, .int 0, .int 0, .int 0, .int 0, .int 0, .ref (v 10), .ref (v 11), .ref (v 12), .ref (v 13), .int 0, .ref (v 14), .ref (v 15), .ref (v 16), .ref (v 17), .ref (v 18), .int 0, .int 0, .int 0, .ref (v 19), .ref (v 20), .ref (v 21), .ref (v 22), .ref (v 23), .int 0, .int 0, .int 0, .int 0])), ((v 4), .inl (cy 0, 5, .inl (fun _ => 0)))] sz) (fun x => [((v 0), .inr (13, .int x.1 :: x.2))])) (va_A [((v 0), .inr (13, [.int 0, .int 0, .int 0, .int (-1), .int 0, .int 0, .int 0, .int 0, .ref (v 1), .ref (v 2), .ref (v 3), .ref (v 4), .ref (v 5), .ref (v 6), .ref (v 7), .ref (v 8), .ref (v 9), .int 0, .int 0, .int 0, .int 0, .int 0, .int 0, .int 0, .int 0, .int 0, .ref (v 10), .ref (v 11), .ref (v 12), .ref (v 13), .int 0, .ref (v 14), .ref (v 15), .ref (v 16), .ref (v 17), .ref (v 18), .int 0, .int 0, .int 0, .ref (v 19), .ref (v 20), .ref (v 21), .ref (v 22), .ref (v 23), .int 0, .int 0, .int 0, .int 0])), ((v 4), .inl (cy 0, 5, .inl (fun _ => 0)))] sz)) 0 0 (va_A [((v 0), .inr (13, [.int 0, .int 0, .int 0, .int (-1), .int 0, .int 0, .int 0, .int 0, .ref (v 1), .ref (v 2), .ref (v 3), .ref (v 4), .ref (v 5), .ref (v 6), .ref (v 7), .ref (v 8), .ref (v 9), .int 0, .int 0, .int 0, .int 0, .int 0, .int 0, .int 0, .int 0, .int 0, .ref (v 10), .ref (v 11), .ref (v 12), .ref (v 13), .int 0, .ref (v 14), .ref (v 15), .ref (v 16), .ref (v 17), .ref (v 18), .int 0, .int 0, .int 0, .ref (v 19), .ref (v 20), .ref (v 21), .ref (v 22), .ref (v 23), .int 0, .int 0, .int 0, .int 0])), ((v 4), .inl (cy 0, 5, .inl (fun _ => 0)))] sz) := by
  refine k_ofW (y := yX12_house) (cc := cX12_house) (maxL := 4) (ret := (some .int)) (av := [.ref (v 0), .int p0]) (ws := [((v 0), .inr (13, [.int 0, .int 0, .int 0, .int (-1), .int 0, .int 0, .int 0, .int 0, .ref (v 1), .ref (v 2), .ref (v 3), .ref (v 4), .ref (v 5), .ref (v 6), .ref (v 7), .ref (v 8), .ref (v 9), .int 0, .int 0, .int 0, .int 0, .int 0, .int 0, .int 0, .int 0, .int 0, .ref (v 10), .ref (v 11), .ref (v 12), .ref (v 13), .int 0, .ref (v 14), .ref (v 15), .ref (v 16), .ref (v 17), .ref (v 18), .int 0, .int 0, .int 0, .ref (v 19), .ref (v 20), .ref (v 21), .ref (v 22), .ref (v 23), .int 0, .int 0, .int 0, .int 0])), ((v 4), .inl (cy 0, 5, .inl (fun _ => 0)))]) (Qc := fun A => va_Qi (fun (r : Int32) (x : Int32 × List Value) => ((p0 = 0) → x.1 = 0 ∧ r = -6) ∧ (¬ (p0 = 0) → x.1 = 1)) (kB D A (fun x => [((v 0), .inr (13, .int x.1 :: x.2))])) A) (by decide) (Nat.le_of_ble_eq_true rfl) ?_
  intro p e s m below meth c ls A E hA hP hD hG hS hl
  obtain ⟨hx, hb, hml, hown, hts, hr, hlk, hnm⟩ := id E
  have hown : s.vm.findClass RX12 = some m.cls := hown
  have hl : lv_has ls 4 [(0, .ref (v 0)), (1, .int p0)] := hl
  obtain ⟨H, hH⟩ : ∃ H, H = s.heap := ⟨_, rfl⟩
  have hP : va_P D vwCl [((v 0), .inr (13, [.int 0, .int 0, .int 0, .int (-1), .int 0, .int 0, .int 0, .int 0, .ref (v 1), .ref (v 2), .ref (v 3), .ref (v 4), .ref (v 5), .ref (v 6), .ref (v 7), .ref (v 8), .ref (v 9), .int 0, .int 0, .int 0, .int 0, .int 0, .int 0, .int 0, .int 0, .int 0, .ref (v 10), .ref (v 11), .ref (v 12), .ref (v 13), .int 0, .ref (v 14), .ref (v 15), .ref (v 16), .ref (v 17), .ref (v 18), .int 0, .int 0, .int 0, .ref (v 19), .ref (v 20), .ref (v 21), .ref (v 22), .ref (v 23), .int 0, .int 0, .int 0, .int 0])), ((v 4), .inl (cy 0, 5, .inl (fun _ => 0)))] H := by rw [hH]; exact hP
  have hS : va_S A s.heap H [] := by rw [hH]; exact va_S.rf
  rw [← hH]
  clear hH
  refine lv_aload_n hx hb dX12_house_0 rfl (lv_at hl 0 rfl) ?_
  refine lv_iconst (v := 0) hx hb dX12_house_1 (by decide) ?_
  refine va_put (D := D) (ci := 13) (v := .int 0) (ty := .int) (C := RX12) (T := TX12) (N := 48) hx hb hts kin_RX12 tyX12 tyX12_ok nmX12 hown hG.1 hP hD hS 0 rfl rfl 0 (by decide) (hts _ wm_1519) (fun _ h9 => h9) rfl (by decide +kernel) rfl rfl (Nat.le_of_ble_eq_true rfl) dX12_house_2 (fun H locs hP hD hS => ?_)
  have hP : va_P D vwCl [((v 0), .inr (13, [.int 0, .int 0, .int 0, .int (-1), .int 0, .int 0, .int 0, .int 0, .ref (v 1), .ref (v 2), .ref (v 3), .ref (v 4), .ref (v 5), .ref (v 6), .ref (v 7), .ref (v 8), .ref (v 9), .int 0, .int 0, .int 0, .int 0, .int 0, .int 0, .int 0, .int 0, .int 0, .ref (v 10), .ref (v 11), .ref (v 12), .ref (v 13), .int 0, .ref (v 14), .ref (v 15), .ref (v 16), .ref (v 17), .ref (v 18), .int 0, .int 0, .int 0, .ref (v 19), .ref (v 20), .ref (v 21), .ref (v 22), .ref (v 23), .int 0, .int 0, .int 0, .int 0])), ((v 4), .inl (cy 0, 5, .inl (fun _ => 0)))] H := hP
  have hD : va_D A [((v 0), .inr (13, [.int 0, .int 0, .int 0, .int (-1), .int 0, .int 0, .int 0, .int 0, .ref (v 1), .ref (v 2), .ref (v 3), .ref (v 4), .ref (v 5), .ref (v 6), .ref (v 7), .ref (v 8), .ref (v 9), .int 0, .int 0, .int 0, .int 0, .int 0, .int 0, .int 0, .int 0, .int 0, .ref (v 10), .ref (v 11), .ref (v 12), .ref (v 13), .int 0, .ref (v 14), .ref (v 15), .ref (v 16), .ref (v 17), .ref (v 18), .int 0, .int 0, .int 0, .ref (v 19), .ref (v 20), .ref (v 21), .ref (v 22), .ref (v 23), .int 0, .int 0, .int 0, .int 0])), ((v 4), .inl (cy 0, 5, .inl (fun _ => 0)))] := hD
  refine lv_aload_n hx hb dX12_house_5 rfl (lv_at hl 0 rfl) ?_
  refine lv_iload_n hx hb dX12_house_6 rfl (lv_at hl 1 rfl) ?_
  refine lv_iconst (v := 0) hx hb dX12_house_7 (by decide) ?_
  refine lv_aload_n hx hb dX12_house_8 rfl (lv_at hl 0 rfl) ?_
  refine va_get (D := D) (ci := 13) (v := .int 0) (C := RX12) (T := TX12) (N := 48) hx hb hts kin_RX12 hown hG.1 hP 0 rfl rfl 1 (by decide) (hts _ wm_1520) (fun _ h9 => h9) rfl dX12_house_9 ?_
  refine k_cali [0, 1] (⟨hP, hD, hG, hS, hA, rfl, rfl⟩ : kAt D cy sa A s H _ _ [] []) (wr := [((v 0), .inr (13, [.int 0, .int 0, .int 0, .int (-1), .int 0, .int 0, .int 0, .int 0, .ref (v 1), .ref (v 2), .ref (v 3), .ref (v 4), .ref (v 5), .ref (v 6), .ref (v 7), .ref (v 8), .ref (v 9), .int 0, .int 0, .int 0, .int 0, .int 0, .int 0, .int 0, .int 0, .int 0, .ref (v 10), .ref (v 11), .ref (v 12), .ref (v 13), .int 0, .ref (v 14), .ref (v 15), .ref (v 16), .ref (v 17), .ref (v 18), .int 0, .int 0, .int 0, .ref (v 19), .ref (v 20), .ref (v 21), .ref (v 22), .ref (v 23), .int 0, .int 0, .int 0, .int 0])), ((v 4), .inl (cy 0, 5, .inl (fun _ => 0)))]) rfl rfl (by decide) (k_runS (As := [.int p0, .int 0, .int 0]) (rest := [.ref (v 0)]) E lk_SRX12_124 (m_in l hl0 D cy sa p0 0 0 H.size) (⟨hP, hD, hG, hS, hA, rfl, rfl⟩ : kAt D cy sa A s H _ _ [] []) hl.1 rfl rfl ⟨rfl, rfl, ⟨Nat.le_of_ble_eq_true rfl, Nat.le_of_ble_eq_true rfl⟩, ⟨Nat.le_of_ble_eq_true rfl, Nat.le_of_ble_eq_true rfl⟩, Nat.le_of_ble_eq_true rfl⟩ dX12_house_12) (fun r1 u2 H locs hwu2 hP hD hS => ?_)
  have hP : va_P D vwCl [((v 0), .inr (13, [.int 0, .int 0, .int 0, .int (-1), .int 0, .int 0, .int 0, .int 0, .ref (v 1), .ref (v 2), .ref (v 3), .ref (v 4), .ref (v 5), .ref (v 6), .ref (v 7), .ref (v 8), .ref (v 9), .int 0, .int 0, .int 0, .int 0, .int 0, .int 0, .int 0, .int 0, .int 0, .ref (v 10), .ref (v 11), .ref (v 12), .ref (v 13), .int 0, .ref (v 14), .ref (v 15), .ref (v 16), .ref (v 17), .ref (v 18), .int 0, .int 0, .int 0, .ref (v 19), .ref (v 20), .ref (v 21), .ref (v 22), .ref (v 23), .int 0, .int 0, .int 0, .int 0])), ((v 4), .inl (cy 0, 5, .inl (fun _ => 0)))] H := hP
  have hD : va_D A [((v 0), .inr (13, [.int 0, .int 0, .int 0, .int (-1), .int 0, .int 0, .int 0, .int 0, .ref (v 1), .ref (v 2), .ref (v 3), .ref (v 4), .ref (v 5), .ref (v 6), .ref (v 7), .ref (v 8), .ref (v 9), .int 0, .int 0, .int 0, .int 0, .int 0, .int 0, .int 0, .int 0, .int 0, .ref (v 10), .ref (v 11), .ref (v 12), .ref (v 13), .int 0, .ref (v 14), .ref (v 15), .ref (v 16), .ref (v 17), .ref (v 18), .int 0, .int 0, .int 0, .ref (v 19), .ref (v 20), .ref (v 21), .ref (v 22), .ref (v 23), .int 0, .int 0, .int 0, .int 0])), ((v 4), .inl (cy 0, 5, .inl (fun _ => 0)))] := hD
  rcases k_if hwu2 with ⟨c3, rfl⟩ | ⟨c3, rfl⟩
  · refine lv_if_ne (tgt := 22) hx hb dX12_house_15 (by decide) (fun _ => ?_) (fun h => absurd h (by decide))
    refine lv_iconst (v := 0) hx hb dX12_house_22 (by decide) ?_
    refine lv_iconst (v := 1) hx hb dX12_house_23 (by decide) ?_
    refine k_cali [1] (⟨hP, hD, hG, hS, hA, rfl, rfl⟩ : kAt D cy sa A s H _ _ [((v 0), .inr (13, [.int 0, .int 0, .int 0, .int (-1), .int 0, .int 0, .int 0, .int 0, .ref (v 1), .ref (v 2), .ref (v 3), .ref (v 4), .ref (v 5), .ref (v 6), .ref (v 7), .ref (v 8), .ref (v 9), .int 0, .int 0, .int 0, .int 0, .int 0, .int 0, .int 0, .int 0, .int 0, .ref (v 10), .ref (v 11), .ref (v 12), .ref (v 13), .int 0, .ref (v 14), .ref (v 15), .ref (v 16), .ref (v 17), .ref (v 18), .int 0, .int 0, .int 0, .ref (v 19), .ref (v 20), .ref (v 21), .ref (v 22), .ref (v 23), .int 0, .int 0, .int 0, .int 0]))] [0]) (wr := [((v 4), .inl (cy 0, 5, .inl (fun _ => 0)))]) rfl rfl (by decide) (k_runV 13 0 (As := [.int 0, .int 1]) (rest := []) E lk_VRX12_169 rfl rfl rfl (m_bad0 l hl0 D cy sa v 1 H.size) (⟨hP, hD, hG, hS, hA, rfl, rfl⟩ : kAt D cy sa A s H _ _ [((v 0), .inr (13, [.int 0, .int 0, .int 0, .int (-1), .int 0, .int 0, .int 0, .int 0, .ref (v 1), .ref (v 2), .ref (v 3), .ref (v 4), .ref (v 5), .ref (v 6), .ref (v 7), .ref (v 8), .ref (v 9), .int 0, .int 0, .int 0, .int 0, .int 0, .int 0, .int 0, .int 0, .int 0, .ref (v 10), .ref (v 11), .ref (v 12), .ref (v 13), .int 0, .ref (v 14), .ref (v 15), .ref (v 16), .ref (v 17), .ref (v 18), .int 0, .int 0, .int 0, .ref (v 19), .ref (v 20), .ref (v 21), .ref (v 22), .ref (v 23), .int 0, .int 0, .int 0, .int 0]))] [0]) hl.1 rfl rfl ⟨rfl, rfl, ⟨Nat.le_of_ble_eq_true rfl, Nat.le_of_ble_eq_true rfl⟩, ⟨Nat.le_of_ble_eq_true rfl, Nat.le_of_ble_eq_true rfl⟩, Nat.le_of_ble_eq_true rfl⟩ dX12_house_24) (fun r4 u5 H locs hwu5 hP hD hS => ?_)
    have hP : va_P D vwCl [((v 4), .inl (cy 0, 5, .inl (fun _ => 0))), ((v 0), .inr (13, [.int 0, .int 0, .int 0, .int (-1), .int 0, .int 0, .int 0, .int 0, .ref (v 1), .ref (v 2), .ref (v 3), .ref (v 4), .ref (v 5), .ref (v 6), .ref (v 7), .ref (v 8), .ref (v 9), .int 0, .int 0, .int 0, .int 0, .int 0, .int 0, .int 0, .int 0, .int 0, .ref (v 10), .ref (v 11), .ref (v 12), .ref (v 13), .int 0, .ref (v 14), .ref (v 15), .ref (v 16), .ref (v 17), .ref (v 18), .int 0, .int 0, .int 0, .ref (v 19), .ref (v 20), .ref (v 21), .ref (v 22), .ref (v 23), .int 0, .int 0, .int 0, .int 0]))] H := hP
    have hD : va_D A [((v 4), .inl (cy 0, 5, .inl (fun _ => 0))), ((v 0), .inr (13, [.int 0, .int 0, .int 0, .int (-1), .int 0, .int 0, .int 0, .int 0, .ref (v 1), .ref (v 2), .ref (v 3), .ref (v 4), .ref (v 5), .ref (v 6), .ref (v 7), .ref (v 8), .ref (v 9), .int 0, .int 0, .int 0, .int 0, .int 0, .int 0, .int 0, .int 0, .int 0, .ref (v 10), .ref (v 11), .ref (v 12), .ref (v 13), .int 0, .ref (v 14), .ref (v 15), .ref (v 16), .ref (v 17), .ref (v 18), .int 0, .int 0, .int 0, .ref (v 19), .ref (v 20), .ref (v 21), .ref (v 22), .ref (v 23), .int 0, .int 0, .int 0, .int 0]))] := hD
    obtain rfl : r4 = 0 := hwu5
    refine lv_if_eq (tgt := 32) hx hb dX12_house_27 (by decide) (fun _ => ?_) (fun h => absurd (by decide) h)
    obtain rfl : p0 = 0 := by (simp only [k_lt, k_le, k_eq, k_L0, k_L1, k_L2, k_L3, k_L4, k_L5, k_L6, k_L7, k_L8, k_L9, k_L10, k_L15, k_L20, k_L30, k_L31, k_L40, k_L41, k_L60, k_L61, k_L99, k_L120, k_L239, k_L240, k_L479, k_L480, k_L500, k_L720, k_L999, k_L1000, k_L9999, k_Lm1] at c3 ⊢; omega)
    refine lv_aload_n hx hb dX12_house_32 rfl (lv_at hl 0 rfl) ?_
    refine lv_iconst (v := 0) hx hb dX12_house_33 (by decide) ?_
    refine va_put (D := D) (ci := 13) (v := .int 0) (ty := .int) (C := RX12) (T := TX12) (N := 48) hx hb hts kin_RX12 tyX12 tyX12_ok nmX12 hown hG.1 hP hD hS 1 rfl rfl 1 (by decide) (hts _ wm_1520) (fun _ h9 => h9) rfl (by decide +kernel) rfl rfl (Nat.le_of_ble_eq_true rfl) dX12_house_34 (fun H locs hP hD hS => ?_)
    have hP : va_P D vwCl [((v 4), .inl (cy 0, 5, .inl (fun _ => 0))), ((v 0), .inr (13, [.int 0, .int 0, .int 0, .int (-1), .int 0, .int 0, .int 0, .int 0, .ref (v 1), .ref (v 2), .ref (v 3), .ref (v 4), .ref (v 5), .ref (v 6), .ref (v 7), .ref (v 8), .ref (v 9), .int 0, .int 0, .int 0, .int 0, .int 0, .int 0, .int 0, .int 0, .int 0, .ref (v 10), .ref (v 11), .ref (v 12), .ref (v 13), .int 0, .ref (v 14), .ref (v 15), .ref (v 16), .ref (v 17), .ref (v 18), .int 0, .int 0, .int 0, .ref (v 19), .ref (v 20), .ref (v 21), .ref (v 22), .ref (v 23), .int 0, .int 0, .int 0, .int 0]))] H := hP
    have hD : va_D A [((v 4), .inl (cy 0, 5, .inl (fun _ => 0))), ((v 0), .inr (13, [.int 0, .int 0, .int 0, .int (-1), .int 0, .int 0, .int 0, .int 0, .ref (v 1), .ref (v 2), .ref (v 3), .ref (v 4), .ref (v 5), .ref (v 6), .ref (v 7), .ref (v 8), .ref (v 9), .int 0, .int 0, .int 0, .int 0, .int 0, .int 0, .int 0, .int 0, .int 0, .ref (v 10), .ref (v 11), .ref (v 12), .ref (v 13), .int 0, .ref (v 14), .ref (v 15), .ref (v 16), .ref (v 17), .ref (v 18), .int 0, .int 0, .int 0, .ref (v 19), .ref (v 20), .ref (v 21), .ref (v 22), .ref (v 23), .int 0, .int 0, .int 0, .int 0]))] := hD
    refine lv_aload_n hx hb dX12_house_37 rfl (lv_at hl 0 rfl) ?_
    refine lv_iload_n hx hb dX12_house_38 rfl (lv_at hl 1 rfl) ?_
    refine va_put (D := D) (ci := 13) (v := .int 0) (ty := .int) (C := RX12) (T := TX12) (N := 48) hx hb hts kin_RX12 tyX12 tyX12_ok nmX12 hown hG.1 hP hD hS 1 rfl rfl 2 (by decide) (hts _ wm_1521) (fun _ h9 => h9) rfl (by decide +kernel) rfl rfl (Nat.le_of_ble_eq_true rfl) dX12_house_39 (fun H locs hP hD hS => ?_)
    have hP : va_P D vwCl [((v 4), .inl (cy 0, 5, .inl (fun _ => 0))), ((v 0), .inr (13, [.int 0, .int 0, .int 0, .int (-1), .int 0, .int 0, .int 0, .int 0, .ref (v 1), .ref (v 2), .ref (v 3), .ref (v 4), .ref (v 5), .ref (v 6), .ref (v 7), .ref (v 8), .ref (v 9), .int 0, .int 0, .int 0, .int 0, .int 0, .int 0, .int 0, .int 0, .int 0, .ref (v 10), .ref (v 11), .ref (v 12), .ref (v 13), .int 0, .ref (v 14), .ref (v 15), .ref (v 16), .ref (v 17), .ref (v 18), .int 0, .int 0, .int 0, .ref (v 19), .ref (v 20), .ref (v 21), .ref (v 22), .ref (v 23), .int 0, .int 0, .int 0, .int 0]))] H := hP
    have hD : va_D A [((v 4), .inl (cy 0, 5, .inl (fun _ => 0))), ((v 0), .inr (13, [.int 0, .int 0, .int 0, .int (-1), .int 0, .int 0, .int 0, .int 0, .ref (v 1), .ref (v 2), .ref (v 3), .ref (v 4), .ref (v 5), .ref (v 6), .ref (v 7), .ref (v 8), .ref (v 9), .int 0, .int 0, .int 0, .int 0, .int 0, .int 0, .int 0, .int 0, .int 0, .ref (v 10), .ref (v 11), .ref (v 12), .ref (v 13), .int 0, .ref (v 14), .ref (v 15), .ref (v 16), .ref (v 17), .ref (v 18), .int 0, .int 0, .int 0, .ref (v 19), .ref (v 20), .ref (v 21), .ref (v 22), .ref (v 23), .int 0, .int 0, .int 0, .int 0]))] := hD
    refine lv_aload_n hx hb dX12_house_42 rfl (lv_at hl 0 rfl) ?_
    refine lv_iconst (v := 0) hx hb dX12_house_43 (by decide) ?_
    refine va_put (D := D) (ci := 13) (v := .int 0) (ty := .int) (C := RX12) (T := TX12) (N := 48) hx hb hts kin_RX12 tyX12 tyX12_ok nmX12 hown hG.1 hP hD hS 1 rfl rfl 4 (by decide) (hts _ wm_1523) (fun _ h9 => h9) rfl (by decide +kernel) rfl rfl (Nat.le_of_ble_eq_true rfl) dX12_house_44 (fun H locs hP hD hS => ?_)
    have hP : va_P D vwCl [((v 4), .inl (cy 0, 5, .inl (fun _ => 0))), ((v 0), .inr (13, [.int 0, .int 0, .int 0, .int (-1), .int 0, .int 0, .int 0, .int 0, .ref (v 1), .ref (v 2), .ref (v 3), .ref (v 4), .ref (v 5), .ref (v 6), .ref (v 7), .ref (v 8), .ref (v 9), .int 0, .int 0, .int 0, .int 0, .int 0, .int 0, .int 0, .int 0, .int 0, .ref (v 10), .ref (v 11), .ref (v 12), .ref (v 13), .int 0, .ref (v 14), .ref (v 15), .ref (v 16), .ref (v 17), .ref (v 18), .int 0, .int 0, .int 0, .ref (v 19), .ref (v 20), .ref (v 21), .ref (v 22), .ref (v 23), .int 0, .int 0, .int 0, .int 0]))] H := hP
    have hD : va_D A [((v 4), .inl (cy 0, 5, .inl (fun _ => 0))), ((v 0), .inr (13, [.int 0, .int 0, .int 0, .int (-1), .int 0, .int 0, .int 0, .int 0, .ref (v 1), .ref (v 2), .ref (v 3), .ref (v 4), .ref (v 5), .ref (v 6), .ref (v 7), .ref (v 8), .ref (v 9), .int 0, .int 0, .int 0, .int 0, .int 0, .int 0, .int 0, .int 0, .int 0, .ref (v 10), .ref (v 11), .ref (v 12), .ref (v 13), .int 0, .ref (v 14), .ref (v 15), .ref (v 16), .ref (v 17), .ref (v 18), .int 0, .int 0, .int 0, .ref (v 19), .ref (v 20), .ref (v 21), .ref (v 22), .ref (v 23), .int 0, .int 0, .int 0, .int 0]))] := hD
    refine lv_aload_n hx hb dX12_house_47 rfl (lv_at hl 0 rfl) ?_
    refine lv_iconst (v := 0) hx hb dX12_house_48 (by decide) ?_
    refine va_put (D := D) (ci := 13) (v := .int 0) (ty := .int) (C := RX12) (T := TX12) (N := 48) hx hb hts kin_RX12 tyX12 tyX12_ok nmX12 hown hG.1 hP hD hS 1 rfl rfl 5 (by decide) (hts _ wm_1524) (fun _ h9 => h9) rfl (by decide +kernel) rfl rfl (Nat.le_of_ble_eq_true rfl) dX12_house_49 (fun H locs hP hD hS => ?_)
    have hP : va_P D vwCl [((v 4), .inl (cy 0, 5, .inl (fun _ => 0))), ((v 0), .inr (13, [.int 0, .int 0, .int 0, .int (-1), .int 0, .int 0, .int 0, .int 0, .ref (v 1), .ref (v 2), .ref (v 3), .ref (v 4), .ref (v 5), .ref (v 6), .ref (v 7), .ref (v 8), .ref (v 9), .int 0, .int 0, .int 0, .int 0, .int 0, .int 0, .int 0, .int 0, .int 0, .ref (v 10), .ref (v 11), .ref (v 12), .ref (v 13), .int 0, .ref (v 14), .ref (v 15), .ref (v 16), .ref (v 17), .ref (v 18), .int 0, .int 0, .int 0, .ref (v 19), .ref (v 20), .ref (v 21), .ref (v 22), .ref (v 23), .int 0, .int 0, .int 0, .int 0]))] H := hP
    have hD : va_D A [((v 4), .inl (cy 0, 5, .inl (fun _ => 0))), ((v 0), .inr (13, [.int 0, .int 0, .int 0, .int (-1), .int 0, .int 0, .int 0, .int 0, .ref (v 1), .ref (v 2), .ref (v 3), .ref (v 4), .ref (v 5), .ref (v 6), .ref (v 7), .ref (v 8), .ref (v 9), .int 0, .int 0, .int 0, .int 0, .int 0, .int 0, .int 0, .int 0, .int 0, .ref (v 10), .ref (v 11), .ref (v 12), .ref (v 13), .int 0, .ref (v 14), .ref (v 15), .ref (v 16), .ref (v 17), .ref (v 18), .int 0, .int 0, .int 0, .ref (v 19), .ref (v 20), .ref (v 21), .ref (v 22), .ref (v 23), .int 0, .int 0, .int 0, .int 0]))] := hD
    refine lv_aload_n hx hb dX12_house_52 rfl (lv_at hl 0 rfl) ?_
    refine lv_iconst (v := (-1)) hx hb dX12_house_53 (by decide) ?_
    refine va_put (D := D) (ci := 13) (v := .int (-1)) (ty := .int) (C := RX12) (T := TX12) (N := 48) hx hb hts kin_RX12 tyX12 tyX12_ok nmX12 hown hG.1 hP hD hS 1 rfl rfl 6 (by decide) (hts _ wm_1525) (fun _ h9 => h9) rfl (by decide +kernel) rfl rfl (Nat.le_of_ble_eq_true rfl) dX12_house_54 (fun H locs hP hD hS => ?_)
    have hP : va_P D vwCl [((v 4), .inl (cy 0, 5, .inl (fun _ => 0))), ((v 0), .inr (13, [.int 0, .int 0, .int 0, .int (-1), .int 0, .int 0, .int (-1), .int 0, .ref (v 1), .ref (v 2), .ref (v 3), .ref (v 4), .ref (v 5), .ref (v 6), .ref (v 7), .ref (v 8), .ref (v 9), .int 0, .int 0, .int 0, .int 0, .int 0, .int 0, .int 0, .int 0, .int 0, .ref (v 10), .ref (v 11), .ref (v 12), .ref (v 13), .int 0, .ref (v 14), .ref (v 15), .ref (v 16), .ref (v 17), .ref (v 18), .int 0, .int 0, .int 0, .ref (v 19), .ref (v 20), .ref (v 21), .ref (v 22), .ref (v 23), .int 0, .int 0, .int 0, .int 0]))] H := hP
    have hD : va_D A [((v 4), .inl (cy 0, 5, .inl (fun _ => 0))), ((v 0), .inr (13, [.int 0, .int 0, .int 0, .int (-1), .int 0, .int 0, .int (-1), .int 0, .ref (v 1), .ref (v 2), .ref (v 3), .ref (v 4), .ref (v 5), .ref (v 6), .ref (v 7), .ref (v 8), .ref (v 9), .int 0, .int 0, .int 0, .int 0, .int 0, .int 0, .int 0, .int 0, .int 0, .ref (v 10), .ref (v 11), .ref (v 12), .ref (v 13), .int 0, .ref (v 14), .ref (v 15), .ref (v 16), .ref (v 17), .ref (v 18), .int 0, .int 0, .int 0, .ref (v 19), .ref (v 20), .ref (v 21), .ref (v 22), .ref (v 23), .int 0, .int 0, .int 0, .int 0]))] := hD
    refine lv_aload_n hx hb dX12_house_57 rfl (lv_at hl 0 rfl) ?_
    refine lv_iconst (v := 0) hx hb dX12_house_58 (by decide) ?_
    refine va_put (D := D) (ci := 13) (v := .int 0) (ty := .int) (C := RX12) (T := TX12) (N := 48) hx hb hts kin_RX12 tyX12 tyX12_ok nmX12 hown hG.1 hP hD hS 1 rfl rfl 7 (by decide) (hts _ wm_1526) (fun _ h9 => h9) rfl (by decide +kernel) rfl rfl (Nat.le_of_ble_eq_true rfl) dX12_house_59 (fun H locs hP hD hS => ?_)
    have hP : va_P D vwCl [((v 4), .inl (cy 0, 5, .inl (fun _ => 0))), ((v 0), .inr (13, [.int 0, .int 0, .int 0, .int (-1), .int 0, .int 0, .int (-1), .int 0, .ref (v 1), .ref (v 2), .ref (v 3), .ref (v 4), .ref (v 5), .ref (v 6), .ref (v 7), .ref (v 8), .ref (v 9), .int 0, .int 0, .int 0, .int 0, .int 0, .int 0, .int 0, .int 0, .int 0, .ref (v 10), .ref (v 11), .ref (v 12), .ref (v 13), .int 0, .ref (v 14), .ref (v 15), .ref (v 16), .ref (v 17), .ref (v 18), .int 0, .int 0, .int 0, .ref (v 19), .ref (v 20), .ref (v 21), .ref (v 22), .ref (v 23), .int 0, .int 0, .int 0, .int 0]))] H := hP
    have hD : va_D A [((v 4), .inl (cy 0, 5, .inl (fun _ => 0))), ((v 0), .inr (13, [.int 0, .int 0, .int 0, .int (-1), .int 0, .int 0, .int (-1), .int 0, .ref (v 1), .ref (v 2), .ref (v 3), .ref (v 4), .ref (v 5), .ref (v 6), .ref (v 7), .ref (v 8), .ref (v 9), .int 0, .int 0, .int 0, .int 0, .int 0, .int 0, .int 0, .int 0, .int 0, .ref (v 10), .ref (v 11), .ref (v 12), .ref (v 13), .int 0, .ref (v 14), .ref (v 15), .ref (v 16), .ref (v 17), .ref (v 18), .int 0, .int 0, .int 0, .ref (v 19), .ref (v 20), .ref (v 21), .ref (v 22), .ref (v 23), .int 0, .int 0, .int 0, .int 0]))] := hD
    refine lv_iconst (v := 0) hx hb dX12_house_62 (by decide) ?_
    refine lv_istore_n (lv' := [(2, .int 0), (0, .ref (v 0)), (1, .int 0)]) hx hb dX12_house_63 rfl hl (by decide) rfl (fun ls hl => ?_)
    refine lv_iload_n hx hb dX12_house_64 rfl (lv_at hl 0 rfl) ?_
    refine lv_iconst (v := 5) hx hb dX12_house_65 (by decide) ?_
    refine lv_icmp_ge (tgt := 112) hx hb dX12_house_66 (by decide) (fun h => absurd h (by decide)) (fun _ => ?_)
    refine lv_aload_n hx hb dX12_house_69 rfl (lv_at hl 1 rfl) ?_
    refine va_get (D := D) (ci := 13) (v := .ref (v 4)) (C := RX12) (T := TX12) (N := 48) hx hb hts kin_RX12 hown hG.1 hP 1 rfl rfl 11 (by decide) (hts _ wm_1530) (fun _ h9 => h9) rfl dX12_house_70 ?_
    refine lv_iload_n hx hb dX12_house_73 rfl (lv_at hl 0 rfl) ?_
    refine lv_iload_n hx hb dX12_house_74 rfl (lv_at hl 0 rfl) ?_
    refine lv_iconst (v := 1) hx hb dX12_house_75 (by decide) ?_
    refine lv_icmp_ne (tgt := 83) hx hb dX12_house_76 (by decide) (fun _ => ?_) (fun h => absurd h (by decide))
    refine lv_iload_n hx hb dX12_house_83 rfl (lv_at hl 0 rfl) ?_
    refine lv_iconst (v := 2) hx hb dX12_house_84 (by decide) ?_
    refine lv_icmp_ne (tgt := 93) hx hb dX12_house_85 (by decide) (fun _ => ?_) (fun h => absurd h (by decide))
    refine lv_iload_n hx hb dX12_house_93 rfl (lv_at hl 0 rfl) ?_
    refine lv_iconst (v := 3) hx hb dX12_house_94 (by decide) ?_
    refine lv_icmp_ne (tgt := 104) hx hb dX12_house_95 (by decide) (fun _ => ?_) (fun h => absurd h (by decide))
    refine lv_iconst (v := 0) hx hb dX12_house_104 (by decide) ?_
    refine k_iast0 hx hb hG.1 hP hD hS 0 0 rfl rfl (by unfold vp_in; decide) dX12_house_105 (fun H locs hP hD hS => ?_)
    refine lv_iinc (v := 1) (lv' := [(2, .int 1), (0, .ref (v 0)), (1, .int 0)]) hx hb dX12_house_106 hl (k := 0) rfl (by decide) (by decide) rfl (fun ls hl => ?_)
    refine lv_goto (tgt := 64) hx hb dX12_house_109 (by decide) ?_
    refine lv_iload_n hx hb dX12_house_64 rfl (lv_at hl 0 rfl) ?_
    refine lv_iconst (v := 5) hx hb dX12_house_65 (by decide) ?_
    refine lv_icmp_ge (tgt := 112) hx hb dX12_house_66 (by decide) (fun h => absurd h (by decide)) (fun _ => ?_)
    refine lv_aload_n hx hb dX12_house_69 rfl (lv_at hl 1 rfl) ?_
    refine va_get (D := D) (ci := 13) (v := .ref (v 4)) (C := RX12) (T := TX12) (N := 48) hx hb hts kin_RX12 hown hG.1 hP 1 rfl rfl 11 (by decide) (hts _ wm_1530) (fun _ h9 => h9) rfl dX12_house_70 ?_
    refine lv_iload_n hx hb dX12_house_73 rfl (lv_at hl 0 rfl) ?_
    refine lv_iload_n hx hb dX12_house_74 rfl (lv_at hl 0 rfl) ?_
    refine lv_iconst (v := 1) hx hb dX12_house_75 (by decide) ?_
    refine lv_icmp_ne (tgt := 83) hx hb dX12_house_76 (by decide) (fun h => absurd (by decide) h) (fun _ => ?_)
    refine lv_iconst (v := 1) hx hb dX12_house_79 (by decide) ?_
    refine lv_goto (tgt := 105) hx hb dX12_house_80 (by decide) ?_
    refine va_iast hx hb hG.1 hP hD hS 0 0 rfl rfl (by unfold vp_in; decide) dX12_house_105 (fun H locs hP hD hS => ?_)
    have hP : va_P D vwCl [((v 4), .inl (cy 0, 5, .inl (upd (fun _ => 0) (1 : Int32).toNatClampNeg 1))), ((v 0), .inr (13, [.int 0, .int 0, .int 0, .int (-1), .int 0, .int 0, .int (-1), .int 0, .ref (v 1), .ref (v 2), .ref (v 3), .ref (v 4), .ref (v 5), .ref (v 6), .ref (v 7), .ref (v 8), .ref (v 9), .int 0, .int 0, .int 0, .int 0, .int 0, .int 0, .int 0, .int 0, .int 0, .ref (v 10), .ref (v 11), .ref (v 12), .ref (v 13), .int 0, .ref (v 14), .ref (v 15), .ref (v 16), .ref (v 17), .ref (v 18), .int 0, .int 0, .int 0, .ref (v 19), .ref (v 20), .ref (v 21), .ref (v 22), .ref (v 23), .int 0, .int 0, .int 0, .int 0]))] H := hP
    have hD : va_D A [((v 4), .inl (cy 0, 5, .inl (upd (fun _ => 0) (1 : Int32).toNatClampNeg 1))), ((v 0), .inr (13, [.int 0, .int 0, .int 0, .int (-1), .int 0, .int 0, .int (-1), .int 0, .ref (v 1), .ref (v 2), .ref (v 3), .ref (v 4), .ref (v 5), .ref (v 6), .ref (v 7), .ref (v 8), .ref (v 9), .int 0, .int 0, .int 0, .int 0, .int 0, .int 0, .int 0, .int 0, .int 0, .ref (v 10), .ref (v 11), .ref (v 12), .ref (v 13), .int 0, .ref (v 14), .ref (v 15), .ref (v 16), .ref (v 17), .ref (v 18), .int 0, .int 0, .int 0, .ref (v 19), .ref (v 20), .ref (v 21), .ref (v 22), .ref (v 23), .int 0, .int 0, .int 0, .int 0]))] := hD
    refine lv_iinc (v := 2) (lv' := [(2, .int 2), (0, .ref (v 0)), (1, .int 0)]) hx hb dX12_house_106 hl (k := 0) rfl (by decide) (by decide) rfl (fun ls hl => ?_)
    refine lv_goto (tgt := 64) hx hb dX12_house_109 (by decide) ?_
    refine lv_iload_n hx hb dX12_house_64 rfl (lv_at hl 0 rfl) ?_
    refine lv_iconst (v := 5) hx hb dX12_house_65 (by decide) ?_
    refine lv_icmp_ge (tgt := 112) hx hb dX12_house_66 (by decide) (fun h => absurd h (by decide)) (fun _ => ?_)
    refine lv_aload_n hx hb dX12_house_69 rfl (lv_at hl 1 rfl) ?_
    refine va_get (D := D) (ci := 13) (v := .ref (v 4)) (C := RX12) (T := TX12) (N := 48) hx hb hts kin_RX12 hown hG.1 hP 1 rfl rfl 11 (by decide) (hts _ wm_1530) (fun _ h9 => h9) rfl dX12_house_70 ?_
    refine lv_iload_n hx hb dX12_house_73 rfl (lv_at hl 0 rfl) ?_
    refine lv_iload_n hx hb dX12_house_74 rfl (lv_at hl 0 rfl) ?_
    refine lv_iconst (v := 1) hx hb dX12_house_75 (by decide) ?_
    refine lv_icmp_ne (tgt := 83) hx hb dX12_house_76 (by decide) (fun _ => ?_) (fun h => absurd h (by decide))
    refine lv_iload_n hx hb dX12_house_83 rfl (lv_at hl 0 rfl) ?_
    refine lv_iconst (v := 2) hx hb dX12_house_84 (by decide) ?_
    refine lv_icmp_ne (tgt := 93) hx hb dX12_house_85 (by decide) (fun h => absurd (by decide) h) (fun _ => ?_)
    refine lv_bipush (v := 10) hx hb dX12_house_88 (by decide) ?_
    refine lv_goto (tgt := 105) hx hb dX12_house_90 (by decide) ?_
    refine va_iast hx hb hG.1 hP hD hS 0 0 rfl rfl (by unfold vp_in; decide) dX12_house_105 (fun H locs hP hD hS => ?_)
    have hP : va_P D vwCl [((v 4), .inl (cy 0, 5, .inl (upd (upd (fun _ => 0) (1 : Int32).toNatClampNeg 1) (2 : Int32).toNatClampNeg 10))), ((v 0), .inr (13, [.int 0, .int 0, .int 0, .int (-1), .int 0, .int 0, .int (-1), .int 0, .ref (v 1), .ref (v 2), .ref (v 3), .ref (v 4), .ref (v 5), .ref (v 6), .ref (v 7), .ref (v 8), .ref (v 9), .int 0, .int 0, .int 0, .int 0, .int 0, .int 0, .int 0, .int 0, .int 0, .ref (v 10), .ref (v 11), .ref (v 12), .ref (v 13), .int 0, .ref (v 14), .ref (v 15), .ref (v 16), .ref (v 17), .ref (v 18), .int 0, .int 0, .int 0, .ref (v 19), .ref (v 20), .ref (v 21), .ref (v 22), .ref (v 23), .int 0, .int 0, .int 0, .int 0]))] H := hP
    have hD : va_D A [((v 4), .inl (cy 0, 5, .inl (upd (upd (fun _ => 0) (1 : Int32).toNatClampNeg 1) (2 : Int32).toNatClampNeg 10))), ((v 0), .inr (13, [.int 0, .int 0, .int 0, .int (-1), .int 0, .int 0, .int (-1), .int 0, .ref (v 1), .ref (v 2), .ref (v 3), .ref (v 4), .ref (v 5), .ref (v 6), .ref (v 7), .ref (v 8), .ref (v 9), .int 0, .int 0, .int 0, .int 0, .int 0, .int 0, .int 0, .int 0, .int 0, .ref (v 10), .ref (v 11), .ref (v 12), .ref (v 13), .int 0, .ref (v 14), .ref (v 15), .ref (v 16), .ref (v 17), .ref (v 18), .int 0, .int 0, .int 0, .ref (v 19), .ref (v 20), .ref (v 21), .ref (v 22), .ref (v 23), .int 0, .int 0, .int 0, .int 0]))] := hD
    refine lv_iinc (v := 3) (lv' := [(2, .int 3), (0, .ref (v 0)), (1, .int 0)]) hx hb dX12_house_106 hl (k := 0) rfl (by decide) (by decide) rfl (fun ls hl => ?_)
    refine lv_goto (tgt := 64) hx hb dX12_house_109 (by decide) ?_
    refine lv_iload_n hx hb dX12_house_64 rfl (lv_at hl 0 rfl) ?_
    refine lv_iconst (v := 5) hx hb dX12_house_65 (by decide) ?_
    refine lv_icmp_ge (tgt := 112) hx hb dX12_house_66 (by decide) (fun h => absurd h (by decide)) (fun _ => ?_)
    refine lv_aload_n hx hb dX12_house_69 rfl (lv_at hl 1 rfl) ?_
    refine va_get (D := D) (ci := 13) (v := .ref (v 4)) (C := RX12) (T := TX12) (N := 48) hx hb hts kin_RX12 hown hG.1 hP 1 rfl rfl 11 (by decide) (hts _ wm_1530) (fun _ h9 => h9) rfl dX12_house_70 ?_
    refine lv_iload_n hx hb dX12_house_73 rfl (lv_at hl 0 rfl) ?_
    refine lv_iload_n hx hb dX12_house_74 rfl (lv_at hl 0 rfl) ?_
    refine lv_iconst (v := 1) hx hb dX12_house_75 (by decide) ?_
    refine lv_icmp_ne (tgt := 83) hx hb dX12_house_76 (by decide) (fun _ => ?_) (fun h => absurd h (by decide))
    refine lv_iload_n hx hb dX12_house_83 rfl (lv_at hl 0 rfl) ?_
    refine lv_iconst (v := 2) hx hb dX12_house_84 (by decide) ?_
    refine lv_icmp_ne (tgt := 93) hx hb dX12_house_85 (by decide) (fun _ => ?_) (fun h => absurd h (by decide))
    refine lv_iload_n hx hb dX12_house_93 rfl (lv_at hl 0 rfl) ?_
    refine lv_iconst (v := 3) hx hb dX12_house_94 (by decide) ?_
    refine lv_icmp_ne (tgt := 104) hx hb dX12_house_95 (by decide) (fun h => absurd (by decide) h) (fun _ => ?_)
    refine lv_sipush (v := 480) hx hb dX12_house_98 (by decide) ?_
    refine lv_goto (tgt := 105) hx hb dX12_house_101 (by decide) ?_
    refine va_iast hx hb hG.1 hP hD hS 0 0 rfl rfl (by unfold vp_in; decide) dX12_house_105 (fun H locs hP hD hS => ?_)
    have hP : va_P D vwCl [((v 4), .inl (cy 0, 5, .inl (upd (upd (upd (fun _ => 0) (1 : Int32).toNatClampNeg 1) (2 : Int32).toNatClampNeg 10) (3 : Int32).toNatClampNeg 480))), ((v 0), .inr (13, [.int 0, .int 0, .int 0, .int (-1), .int 0, .int 0, .int (-1), .int 0, .ref (v 1), .ref (v 2), .ref (v 3), .ref (v 4), .ref (v 5), .ref (v 6), .ref (v 7), .ref (v 8), .ref (v 9), .int 0, .int 0, .int 0, .int 0, .int 0, .int 0, .int 0, .int 0, .int 0, .ref (v 10), .ref (v 11), .ref (v 12), .ref (v 13), .int 0, .ref (v 14), .ref (v 15), .ref (v 16), .ref (v 17), .ref (v 18), .int 0, .int 0, .int 0, .ref (v 19), .ref (v 20), .ref (v 21), .ref (v 22), .ref (v 23), .int 0, .int 0, .int 0, .int 0]))] H := hP
    have hD : va_D A [((v 4), .inl (cy 0, 5, .inl (upd (upd (upd (fun _ => 0) (1 : Int32).toNatClampNeg 1) (2 : Int32).toNatClampNeg 10) (3 : Int32).toNatClampNeg 480))), ((v 0), .inr (13, [.int 0, .int 0, .int 0, .int (-1), .int 0, .int 0, .int (-1), .int 0, .ref (v 1), .ref (v 2), .ref (v 3), .ref (v 4), .ref (v 5), .ref (v 6), .ref (v 7), .ref (v 8), .ref (v 9), .int 0, .int 0, .int 0, .int 0, .int 0, .int 0, .int 0, .int 0, .int 0, .ref (v 10), .ref (v 11), .ref (v 12), .ref (v 13), .int 0, .ref (v 14), .ref (v 15), .ref (v 16), .ref (v 17), .ref (v 18), .int 0, .int 0, .int 0, .ref (v 19), .ref (v 20), .ref (v 21), .ref (v 22), .ref (v 23), .int 0, .int 0, .int 0, .int 0]))] := hD
    refine lv_iinc (v := 4) (lv' := [(2, .int 4), (0, .ref (v 0)), (1, .int 0)]) hx hb dX12_house_106 hl (k := 0) rfl (by decide) (by decide) rfl (fun ls hl => ?_)
    refine lv_goto (tgt := 64) hx hb dX12_house_109 (by decide) ?_
    refine lv_iload_n hx hb dX12_house_64 rfl (lv_at hl 0 rfl) ?_
    refine lv_iconst (v := 5) hx hb dX12_house_65 (by decide) ?_
    refine lv_icmp_ge (tgt := 112) hx hb dX12_house_66 (by decide) (fun h => absurd h (by decide)) (fun _ => ?_)
    refine lv_aload_n hx hb dX12_house_69 rfl (lv_at hl 1 rfl) ?_
    refine va_get (D := D) (ci := 13) (v := .ref (v 4)) (C := RX12) (T := TX12) (N := 48) hx hb hts kin_RX12 hown hG.1 hP 1 rfl rfl 11 (by decide) (hts _ wm_1530) (fun _ h9 => h9) rfl dX12_house_70 ?_
    refine lv_iload_n hx hb dX12_house_73 rfl (lv_at hl 0 rfl) ?_
    refine lv_iload_n hx hb dX12_house_74 rfl (lv_at hl 0 rfl) ?_
    refine lv_iconst (v := 1) hx hb dX12_house_75 (by decide) ?_
    refine lv_icmp_ne (tgt := 83) hx hb dX12_house_76 (by decide) (fun _ => ?_) (fun h => absurd h (by decide))
    refine lv_iload_n hx hb dX12_house_83 rfl (lv_at hl 0 rfl) ?_
    refine lv_iconst (v := 2) hx hb dX12_house_84 (by decide) ?_
    refine lv_icmp_ne (tgt := 93) hx hb dX12_house_85 (by decide) (fun _ => ?_) (fun h => absurd h (by decide))
    refine lv_iload_n hx hb dX12_house_93 rfl (lv_at hl 0 rfl) ?_
    refine lv_iconst (v := 3) hx hb dX12_house_94 (by decide) ?_
    refine lv_icmp_ne (tgt := 104) hx hb dX12_house_95 (by decide) (fun _ => ?_) (fun h => absurd h (by decide))
    refine lv_iconst (v := 0) hx hb dX12_house_104 (by decide) ?_
    refine va_iast hx hb hG.1 hP hD hS 0 0 rfl rfl (by unfold vp_in; decide) dX12_house_105 (fun H locs hP hD hS => ?_)
    have hP : va_P D vwCl [((v 4), .inl (cy 0, 5, .inl (upd (upd (upd (upd (fun _ => 0) (1 : Int32).toNatClampNeg 1) (2 : Int32).toNatClampNeg 10) (3 : Int32).toNatClampNeg 480) (4 : Int32).toNatClampNeg 0))), ((v 0), .inr (13, [.int 0, .int 0, .int 0, .int (-1), .int 0, .int 0, .int (-1), .int 0, .ref (v 1), .ref (v 2), .ref (v 3), .ref (v 4), .ref (v 5), .ref (v 6), .ref (v 7), .ref (v 8), .ref (v 9), .int 0, .int 0, .int 0, .int 0, .int 0, .int 0, .int 0, .int 0, .int 0, .ref (v 10), .ref (v 11), .ref (v 12), .ref (v 13), .int 0, .ref (v 14), .ref (v 15), .ref (v 16), .ref (v 17), .ref (v 18), .int 0, .int 0, .int 0, .ref (v 19), .ref (v 20), .ref (v 21), .ref (v 22), .ref (v 23), .int 0, .int 0, .int 0, .int 0]))] H := hP
    have hD : va_D A [((v 4), .inl (cy 0, 5, .inl (upd (upd (upd (upd (fun _ => 0) (1 : Int32).toNatClampNeg 1) (2 : Int32).toNatClampNeg 10) (3 : Int32).toNatClampNeg 480) (4 : Int32).toNatClampNeg 0))), ((v 0), .inr (13, [.int 0, .int 0, .int 0, .int (-1), .int 0, .int 0, .int (-1), .int 0, .ref (v 1), .ref (v 2), .ref (v 3), .ref (v 4), .ref (v 5), .ref (v 6), .ref (v 7), .ref (v 8), .ref (v 9), .int 0, .int 0, .int 0, .int 0, .int 0, .int 0, .int 0, .int 0, .int 0, .ref (v 10), .ref (v 11), .ref (v 12), .ref (v 13), .int 0, .ref (v 14), .ref (v 15), .ref (v 16), .ref (v 17), .ref (v 18), .int 0, .int 0, .int 0, .ref (v 19), .ref (v 20), .ref (v 21), .ref (v 22), .ref (v 23), .int 0, .int 0, .int 0, .int 0]))] := hD
    refine lv_iinc (v := 5) (lv' := [(2, .int 5), (0, .ref (v 0)), (1, .int 0)]) hx hb dX12_house_106 hl (k := 0) rfl (by decide) (by decide) rfl (fun ls hl => ?_)
    refine lv_goto (tgt := 64) hx hb dX12_house_109 (by decide) ?_
    refine lv_iload_n hx hb dX12_house_64 rfl (lv_at hl 0 rfl) ?_
    refine lv_iconst (v := 5) hx hb dX12_house_65 (by decide) ?_
    refine lv_icmp_ge (tgt := 112) hx hb dX12_house_66 (by decide) (fun _ => ?_) (fun h => absurd (by decide) h)
    refine lv_aload_n hx hb dX12_house_112 rfl (lv_at hl 1 rfl) ?_
    refine k_calv [0] (⟨hP, hD, hG, hS, hA, rfl, rfl⟩ : kAt D cy sa A s H _ _ [((v 0), .inr (13, [.int 0, .int 0, .int 0, .int (-1), .int 0, .int 0, .int (-1), .int 0, .ref (v 1), .ref (v 2), .ref (v 3), .ref (v 4), .ref (v 5), .ref (v 6), .ref (v 7), .ref (v 8), .ref (v 9), .int 0, .int 0, .int 0, .int 0, .int 0, .int 0, .int 0, .int 0, .int 0, .ref (v 10), .ref (v 11), .ref (v 12), .ref (v 13), .int 0, .ref (v 14), .ref (v 15), .ref (v 16), .ref (v 17), .ref (v 18), .int 0, .int 0, .int 0, .ref (v 19), .ref (v 20), .ref (v 21), .ref (v 22), .ref (v 23), .int 0, .int 0, .int 0, .int 0]))] [1]) (wr := [((v 4), .inl (cy 0, 5, .inl (upd (upd (upd (upd (fun _ => 0) (1 : Int32).toNatClampNeg 1) (2 : Int32).toNatClampNeg 10) (3 : Int32).toNatClampNeg 480) (4 : Int32).toNatClampNeg 0)))]) rfl rfl (by decide) (k_runV 13 1 (As := []) (rest := []) E lk_VRX12_109 rfl rfl rfl (m_blanks l hl0 D cy sa v H.size) (⟨hP, hD, hG, hS, hA, rfl, rfl⟩ : kAt D cy sa A s H _ _ [((v 0), .inr (13, [.int 0, .int 0, .int 0, .int (-1), .int 0, .int 0, .int (-1), .int 0, .ref (v 1), .ref (v 2), .ref (v 3), .ref (v 4), .ref (v 5), .ref (v 6), .ref (v 7), .ref (v 8), .ref (v 9), .int 0, .int 0, .int 0, .int 0, .int 0, .int 0, .int 0, .int 0, .int 0, .ref (v 10), .ref (v 11), .ref (v 12), .ref (v 13), .int 0, .ref (v 14), .ref (v 15), .ref (v 16), .ref (v 17), .ref (v 18), .int 0, .int 0, .int 0, .ref (v 19), .ref (v 20), .ref (v 21), .ref (v 22), .ref (v 23), .int 0, .int 0, .int 0, .int 0]))] [1]) hl.1 rfl rfl ⟨rfl, rfl, ⟨Nat.le_of_ble_eq_true rfl, Nat.le_of_ble_eq_true rfl⟩, ⟨Nat.le_of_ble_eq_true rfl, Nat.le_of_ble_eq_true rfl⟩, Nat.le_of_ble_eq_true rfl⟩ dX12_house_113) (fun u7 H locs hwu7 hP hD hS => ?_)
    have hP : va_P D vwCl [((v 4), .inl (cy 0, 5, .inl (upd (upd (upd (upd (fun _ => 0) (1 : Int32).toNatClampNeg 1) (2 : Int32).toNatClampNeg 10) (3 : Int32).toNatClampNeg 480) (4 : Int32).toNatClampNeg 0))), ((v 0), .inr (13, [.int 0, .int 0, .int 0, .int (-1), .int 0, .int 0, .int (-1), .int 0, .ref (v 1), .ref (v 2), .ref (v 3), .ref (v 4), .ref (v 5), .ref (v 6), .ref (v 7), .ref (v 8), .ref (v 9), .int 0, .int 0, .int 0, .int 0, .int 0, .int 0, .int 0, .int 0, .int 0, .ref (v 10), .ref (v 11), .ref (v 12), .ref (v 13), .int 0, .ref (v 14), .ref (v 15), .ref (v 16), .ref (v 17), .ref (v 18), .int 0, .int 0, .int 0, .ref (v 19), .ref (v 20), .ref (v 21), .ref (v 22), .ref (v 23), .int 0, .int 0, .int 0, .int 0]))] H := hP
    have hD : va_D A [((v 4), .inl (cy 0, 5, .inl (upd (upd (upd (upd (fun _ => 0) (1 : Int32).toNatClampNeg 1) (2 : Int32).toNatClampNeg 10) (3 : Int32).toNatClampNeg 480) (4 : Int32).toNatClampNeg 0))), ((v 0), .inr (13, [.int 0, .int 0, .int 0, .int (-1), .int 0, .int 0, .int (-1), .int 0, .ref (v 1), .ref (v 2), .ref (v 3), .ref (v 4), .ref (v 5), .ref (v 6), .ref (v 7), .ref (v 8), .ref (v 9), .int 0, .int 0, .int 0, .int 0, .int 0, .int 0, .int 0, .int 0, .int 0, .ref (v 10), .ref (v 11), .ref (v 12), .ref (v 13), .int 0, .ref (v 14), .ref (v 15), .ref (v 16), .ref (v 17), .ref (v 18), .int 0, .int 0, .int 0, .ref (v 19), .ref (v 20), .ref (v 21), .ref (v 22), .ref (v 23), .int 0, .int 0, .int 0, .int 0]))] := hD
    refine lv_aload_n hx hb dX12_house_116 rfl (lv_at hl 1 rfl) ?_
    refine va_get (D := D) (ci := 13) (v := .int 0) (C := RX12) (T := TX12) (N := 48) hx hb hts kin_RX12 hown hG.1 hP 1 rfl rfl 5 (by decide) (hts _ wm_1524) (fun _ h9 => h9) rfl dX12_house_117 ?_
    refine lv_if_ne (tgt := 145) hx hb dX12_house_120 (by decide) (fun h => absurd (by decide) h) (fun _ => ?_)
    refine lv_aload_n hx hb dX12_house_123 rfl (lv_at hl 1 rfl) ?_
    refine va_get (D := D) (ci := 13) (v := .int 0) (C := RX12) (T := TX12) (N := 48) hx hb hts kin_RX12 hown hG.1 hP 1 rfl rfl 4 (by decide) (hts _ wm_1523) (fun _ h9 => h9) rfl dX12_house_124 ?_
    refine lv_aload_n hx hb dX12_house_127 rfl (lv_at hl 1 rfl) ?_
    refine va_get (D := D) (ci := 13) (v := .int 0) (C := RX12) (T := TX12) (N := 48) hx hb hts kin_RX12 hown hG.1 hP 1 rfl rfl 2 (by decide) (hts _ wm_1521) (fun _ h9 => h9) rfl dX12_house_128 ?_
    refine lv_icmp_ge (tgt := 145) hx hb dX12_house_131 (by decide) (fun _ => ?_) (fun h => absurd (by decide) h)
    refine lv_aload_n hx hb dX12_house_145 rfl (lv_at hl 1 rfl) ?_
    refine va_get (D := D) (ci := 13) (v := .int 0) (C := RX12) (T := TX12) (N := 48) hx hb hts kin_RX12 hown hG.1 hP 1 rfl rfl 5 (by decide) (hts _ wm_1524) (fun _ h9 => h9) rfl dX12_house_146 ?_
    refine lv_if_ne (tgt := 170) hx hb dX12_house_149 (by decide) (fun h => absurd (by decide) h) (fun _ => ?_)
    refine lv_aload_n hx hb dX12_house_152 rfl (lv_at hl 1 rfl) ?_
    refine va_get (D := D) (ci := 13) (v := .ref (v 4)) (C := RX12) (T := TX12) (N := 48) hx hb hts kin_RX12 hown hG.1 hP 1 rfl rfl 11 (by decide) (hts _ wm_1530) (fun _ h9 => h9) rfl dX12_house_153 ?_
    refine lv_iconst (v := 0) hx hb dX12_house_156 (by decide) ?_
    refine va_iald hx hb hG.1 hP 0 0 rfl rfl (by unfold vp_in; decide) dX12_house_157 ?_
    refine lv_topi (fun x8 ex8 => ?_)
    obtain rfl : x8 = 0 := ex8.trans (by decide)
    refine lv_if_ne (tgt := 170) hx hb dX12_house_158 (by decide) (fun h => absurd (by decide) h) (fun _ => ?_)
    refine lv_aload_n hx hb dX12_house_161 rfl (lv_at hl 1 rfl) ?_
    refine lv_iconst (v := 4) hx hb dX12_house_162 (by decide) ?_
    refine lv_aload_n hx hb dX12_house_163 rfl (lv_at hl 1 rfl) ?_
    refine va_get (D := D) (ci := 13) (v := .int 0) (C := RX12) (T := TX12) (N := 48) hx hb hts kin_RX12 hown hG.1 hP 1 rfl rfl 2 (by decide) (hts _ wm_1521) (fun _ h9 => h9) rfl dX12_house_164 ?_
    refine k_calv [0] (⟨hP, hD, hG, hS, hA, rfl, rfl⟩ : kAt D cy sa A s H _ _ [((v 0), .inr (13, [.int 0, .int 0, .int 0, .int (-1), .int 0, .int 0, .int (-1), .int 0, .ref (v 1), .ref (v 2), .ref (v 3), .ref (v 4), .ref (v 5), .ref (v 6), .ref (v 7), .ref (v 8), .ref (v 9), .int 0, .int 0, .int 0, .int 0, .int 0, .int 0, .int 0, .int 0, .int 0, .ref (v 10), .ref (v 11), .ref (v 12), .ref (v 13), .int 0, .ref (v 14), .ref (v 15), .ref (v 16), .ref (v 17), .ref (v 18), .int 0, .int 0, .int 0, .ref (v 19), .ref (v 20), .ref (v 21), .ref (v 22), .ref (v 23), .int 0, .int 0, .int 0, .int 0]))] [1]) (wr := [((v 4), .inl (cy 0, 5, .inl (upd (upd (upd (upd (fun _ => 0) (1 : Int32).toNatClampNeg 1) (2 : Int32).toNatClampNeg 10) (3 : Int32).toNatClampNeg 480) (4 : Int32).toNatClampNeg 0)))]) rfl rfl (by decide) (k_runV 13 1 (As := [.int 4, .int 0]) (rest := []) E lk_VRX12_119 rfl rfl rfl (m_wrong l hl0 D cy sa v H.size) (⟨hP, hD, hG, hS, hA, rfl, rfl⟩ : kAt D cy sa A s H _ _ [((v 0), .inr (13, [.int 0, .int 0, .int 0, .int (-1), .int 0, .int 0, .int (-1), .int 0, .ref (v 1), .ref (v 2), .ref (v 3), .ref (v 4), .ref (v 5), .ref (v 6), .ref (v 7), .ref (v 8), .ref (v 9), .int 0, .int 0, .int 0, .int 0, .int 0, .int 0, .int 0, .int 0, .int 0, .ref (v 10), .ref (v 11), .ref (v 12), .ref (v 13), .int 0, .ref (v 14), .ref (v 15), .ref (v 16), .ref (v 17), .ref (v 18), .int 0, .int 0, .int 0, .ref (v 19), .ref (v 20), .ref (v 21), .ref (v 22), .ref (v 23), .int 0, .int 0, .int 0, .int 0]))] [1]) hl.1 rfl rfl ⟨rfl, rfl, ⟨Nat.le_of_ble_eq_true rfl, Nat.le_of_ble_eq_true rfl⟩, ⟨Nat.le_of_ble_eq_true rfl, Nat.le_of_ble_eq_true rfl⟩, Nat.le_of_ble_eq_true rfl⟩ dX12_house_167) (fun u10 H locs hwu10 hP hD hS => ?_)
    have hP : va_P D vwCl [((v 4), .inl (cy 0, 5, .inl (upd (upd (upd (upd (fun _ => 0) (1 : Int32).toNatClampNeg 1) (2 : Int32).toNatClampNeg 10) (3 : Int32).toNatClampNeg 480) (4 : Int32).toNatClampNeg 0))), ((v 0), .inr (13, [.int 0, .int 0, .int 0, .int (-1), .int 0, .int 4, .int 0, .int 0, .ref (v 1), .ref (v 2), .ref (v 3), .ref (v 4), .ref (v 5), .ref (v 6), .ref (v 7), .ref (v 8), .ref (v 9), .int 0, .int 0, .int 0, .int 0, .int 0, .int 0, .int 0, .int 0, .int 0, .ref (v 10), .ref (v 11), .ref (v 12), .ref (v 13), .int 0, .ref (v 14), .ref (v 15), .ref (v 16), .ref (v 17), .ref (v 18), .int 0, .int 0, .int 0, .ref (v 19), .ref (v 20), .ref (v 21), .ref (v 22), .ref (v 23), .int 0, .int 0, .int 0, .int 0]))] H := hP
    have hD : va_D A [((v 4), .inl (cy 0, 5, .inl (upd (upd (upd (upd (fun _ => 0) (1 : Int32).toNatClampNeg 1) (2 : Int32).toNatClampNeg 10) (3 : Int32).toNatClampNeg 480) (4 : Int32).toNatClampNeg 0))), ((v 0), .inr (13, [.int 0, .int 0, .int 0, .int (-1), .int 0, .int 4, .int 0, .int 0, .ref (v 1), .ref (v 2), .ref (v 3), .ref (v 4), .ref (v 5), .ref (v 6), .ref (v 7), .ref (v 8), .ref (v 9), .int 0, .int 0, .int 0, .int 0, .int 0, .int 0, .int 0, .int 0, .int 0, .ref (v 10), .ref (v 11), .ref (v 12), .ref (v 13), .int 0, .ref (v 14), .ref (v 15), .ref (v 16), .ref (v 17), .ref (v 18), .int 0, .int 0, .int 0, .ref (v 19), .ref (v 20), .ref (v 21), .ref (v 22), .ref (v 23), .int 0, .int 0, .int 0, .int 0]))] := hD
    refine lv_aload_n hx hb dX12_house_170 rfl (lv_at hl 1 rfl) ?_
    refine lv_aload_n hx hb dX12_house_171 rfl (lv_at hl 1 rfl) ?_
    refine va_get (D := D) (ci := 13) (v := .int 0) (C := RX12) (T := TX12) (N := 48) hx hb hts kin_RX12 hown hG.1 hP 1 rfl rfl 6 (by decide) (hts _ wm_1525) (fun _ h9 => h9) rfl dX12_house_172 ?_
    refine va_put (D := D) (ci := 13) (v := .int 0) (ty := .int) (C := RX12) (T := TX12) (N := 48) hx hb hts kin_RX12 tyX12 tyX12_ok nmX12 hown hG.1 hP hD hS 1 rfl rfl 3 (by decide) (hts _ wm_1522) (fun _ h9 => h9) rfl (by decide +kernel) rfl rfl (Nat.le_of_ble_eq_true rfl) dX12_house_175 (fun H locs hP hD hS => ?_)
    have hP : va_P D vwCl [((v 4), .inl (cy 0, 5, .inl (upd (upd (upd (upd (fun _ => 0) (1 : Int32).toNatClampNeg 1) (2 : Int32).toNatClampNeg 10) (3 : Int32).toNatClampNeg 480) (4 : Int32).toNatClampNeg 0))), ((v 0), .inr (13, [.int 0, .int 0, .int 0, .int 0, .int 0, .int 4, .int 0, .int 0, .ref (v 1), .ref (v 2), .ref (v 3), .ref (v 4), .ref (v 5), .ref (v 6), .ref (v 7), .ref (v 8), .ref (v 9), .int 0, .int 0, .int 0, .int 0, .int 0, .int 0, .int 0, .int 0, .int 0, .ref (v 10), .ref (v 11), .ref (v 12), .ref (v 13), .int 0, .ref (v 14), .ref (v 15), .ref (v 16), .ref (v 17), .ref (v 18), .int 0, .int 0, .int 0, .ref (v 19), .ref (v 20), .ref (v 21), .ref (v 22), .ref (v 23), .int 0, .int 0, .int 0, .int 0]))] H := hP
    have hD : va_D A [((v 4), .inl (cy 0, 5, .inl (upd (upd (upd (upd (fun _ => 0) (1 : Int32).toNatClampNeg 1) (2 : Int32).toNatClampNeg 10) (3 : Int32).toNatClampNeg 480) (4 : Int32).toNatClampNeg 0))), ((v 0), .inr (13, [.int 0, .int 0, .int 0, .int 0, .int 0, .int 4, .int 0, .int 0, .ref (v 1), .ref (v 2), .ref (v 3), .ref (v 4), .ref (v 5), .ref (v 6), .ref (v 7), .ref (v 8), .ref (v 9), .int 0, .int 0, .int 0, .int 0, .int 0, .int 0, .int 0, .int 0, .int 0, .ref (v 10), .ref (v 11), .ref (v 12), .ref (v 13), .int 0, .ref (v 14), .ref (v 15), .ref (v 16), .ref (v 17), .ref (v 18), .int 0, .int 0, .int 0, .ref (v 19), .ref (v 20), .ref (v 21), .ref (v 22), .ref (v 23), .int 0, .int 0, .int 0, .int 0]))] := hD
    refine lv_aload_n hx hb dX12_house_178 rfl (lv_at hl 1 rfl) ?_
    refine va_get (D := D) (ci := 13) (v := .int 4) (C := RX12) (T := TX12) (N := 48) hx hb hts kin_RX12 hown hG.1 hP 1 rfl rfl 5 (by decide) (hts _ wm_1524) (fun _ h9 => h9) rfl dX12_house_179 ?_
    refine lv_if_eq (tgt := 193) hx hb dX12_house_182 (by decide) (fun h => absurd h (by decide)) (fun _ => ?_)
    refine lv_aload_n hx hb dX12_house_185 rfl (lv_at hl 1 rfl) ?_
    refine va_get (D := D) (ci := 13) (v := .int 4) (C := RX12) (T := TX12) (N := 48) hx hb hts kin_RX12 hown hG.1 hP 1 rfl rfl 5 (by decide) (hts _ wm_1524) (fun _ h9 => h9) rfl dX12_house_186 ?_
    refine lv_bipush (v := 10) hx hb dX12_house_189 (by decide) ?_
    refine lv_isub hx hb dX12_house_191 ?_
    refine lv_topi (fun x11 ex11 => ?_)
    obtain rfl : x11 = (-6) := ex11.trans (by decide)
    exact k_iret (0, [.int 0, .int 0, .int 0, .int 0, .int 4, .int 0, .int 0, .ref (v 1), .ref (v 2), .ref (v 3), .ref (v 4), .ref (v 5), .ref (v 6), .ref (v 7), .ref (v 8), .ref (v 9), .int 0, .int 0, .int 0, .int 0, .int 0, .int 0, .int 0, .int 0, .int 0, .ref (v 10), .ref (v 11), .ref (v 12), .ref (v 13), .int 0, .ref (v 14), .ref (v 15), .ref (v 16), .ref (v 17), .ref (v 18), .int 0, .int 0, .int 0, .ref (v 19), .ref (v 20), .ref (v 21), .ref (v 22), .ref (v 23), .int 0, .int 0, .int 0, .int 0]) hx hb hr hlk (by refine ⟨fun h => ?_, fun h => ?_⟩ <;> first | exact False.elim h | exact ⟨rfl, rfl⟩ | rfl | exact absurd trivial h | exact absurd rfl h | (exfalso; simp only [k_lt, k_le, k_eq, k_L0, k_L1, k_L2, k_L3, k_L4, k_L5, k_L6, k_L7, k_L8, k_L9, k_L10, k_L15, k_L20, k_L30, k_L31, k_L40, k_L41, k_L60, k_L61, k_L99, k_L120, k_L239, k_L240, k_L479, k_L480, k_L500, k_L720, k_L999, k_L1000, k_L9999, k_Lm1] at c3 h; omega) | (refine ⟨rfl, ?_⟩; rfl)) (hP.sub [1] rfl) (hD.sub [1] (by decide) rfl) hS (by decide) (by decide) dX12_house_192
  · refine lv_if_ne (tgt := 22) hx hb dX12_house_15 (by decide) (fun h => absurd (by decide) h) (fun _ => ?_)
    refine lv_iconst (v := 1) hx hb dX12_house_18 (by decide) ?_
    refine lv_goto (tgt := 23) hx hb dX12_house_19 (by decide) ?_
    refine lv_iconst (v := 1) hx hb dX12_house_23 (by decide) ?_
    refine k_cali [1] (⟨hP, hD, hG, hS, hA, rfl, rfl⟩ : kAt D cy sa A s H _ _ [((v 0), .inr (13, [.int 0, .int 0, .int 0, .int (-1), .int 0, .int 0, .int 0, .int 0, .ref (v 1), .ref (v 2), .ref (v 3), .ref (v 4), .ref (v 5), .ref (v 6), .ref (v 7), .ref (v 8), .ref (v 9), .int 0, .int 0, .int 0, .int 0, .int 0, .int 0, .int 0, .int 0, .int 0, .ref (v 10), .ref (v 11), .ref (v 12), .ref (v 13), .int 0, .ref (v 14), .ref (v 15), .ref (v 16), .ref (v 17), .ref (v 18), .int 0, .int 0, .int 0, .ref (v 19), .ref (v 20), .ref (v 21), .ref (v 22), .ref (v 23), .int 0, .int 0, .int 0, .int 0]))] [0]) (wr := [((v 4), .inl (cy 0, 5, .inl (fun _ => 0)))]) rfl rfl (by decide) (k_runV 13 0 (As := [.int 1, .int 1]) (rest := []) E lk_VRX12_169 rfl rfl rfl (m_bad1 l hl0 D cy sa v H.size) (⟨hP, hD, hG, hS, hA, rfl, rfl⟩ : kAt D cy sa A s H _ _ [((v 0), .inr (13, [.int 0, .int 0, .int 0, .int (-1), .int 0, .int 0, .int 0, .int 0, .ref (v 1), .ref (v 2), .ref (v 3), .ref (v 4), .ref (v 5), .ref (v 6), .ref (v 7), .ref (v 8), .ref (v 9), .int 0, .int 0, .int 0, .int 0, .int 0, .int 0, .int 0, .int 0, .int 0, .ref (v 10), .ref (v 11), .ref (v 12), .ref (v 13), .int 0, .ref (v 14), .ref (v 15), .ref (v 16), .ref (v 17), .ref (v 18), .int 0, .int 0, .int 0, .ref (v 19), .ref (v 20), .ref (v 21), .ref (v 22), .ref (v 23), .int 0, .int 0, .int 0, .int 0]))] [0]) hl.1 rfl rfl ⟨rfl, rfl, ⟨Nat.le_of_ble_eq_true rfl, Nat.le_of_ble_eq_true rfl⟩, ⟨Nat.le_of_ble_eq_true rfl, Nat.le_of_ble_eq_true rfl⟩, Nat.le_of_ble_eq_true rfl⟩ dX12_house_24) (fun r12 u13 H locs hwu13 hP hD hS => ?_)
    have hP : va_P D vwCl [((v 4), .inl (cy 0, 5, .inl (fun _ => 0))), ((v 0), .inr (13, [.int 1, .int 0, .int 0, .int (-1), .int 0, .int 0, .int 0, .int 0, .ref (v 1), .ref (v 2), .ref (v 3), .ref (v 4), .ref (v 5), .ref (v 6), .ref (v 7), .ref (v 8), .ref (v 9), .int 0, .int 0, .int 0, .int 0, .int 0, .int 0, .int 0, .int 0, .int 0, .ref (v 10), .ref (v 11), .ref (v 12), .ref (v 13), .int 0, .ref (v 14), .ref (v 15), .ref (v 16), .ref (v 17), .ref (v 18), .int 0, .int 0, .int 0, .ref (v 19), .ref (v 20), .ref (v 21), .ref (v 22), .ref (v 23), .int 0, .int 0, .int 0, .int 0]))] H := hP
    have hD : va_D A [((v 4), .inl (cy 0, 5, .inl (fun _ => 0))), ((v 0), .inr (13, [.int 1, .int 0, .int 0, .int (-1), .int 0, .int 0, .int 0, .int 0, .ref (v 1), .ref (v 2), .ref (v 3), .ref (v 4), .ref (v 5), .ref (v 6), .ref (v 7), .ref (v 8), .ref (v 9), .int 0, .int 0, .int 0, .int 0, .int 0, .int 0, .int 0, .int 0, .int 0, .ref (v 10), .ref (v 11), .ref (v 12), .ref (v 13), .int 0, .ref (v 14), .ref (v 15), .ref (v 16), .ref (v 17), .ref (v 18), .int 0, .int 0, .int 0, .ref (v 19), .ref (v 20), .ref (v 21), .ref (v 22), .ref (v 23), .int 0, .int 0, .int 0, .int 0]))] := hD
    obtain rfl : r12 = 1 := hwu13
    refine lv_if_eq (tgt := 32) hx hb dX12_house_27 (by decide) (fun h => absurd h (by decide)) (fun _ => ?_)
    refine lv_iconst (v := 0) hx hb dX12_house_30 (by decide) ?_
    exact k_iret (1, [.int 0, .int 0, .int (-1), .int 0, .int 0, .int 0, .int 0, .ref (v 1), .ref (v 2), .ref (v 3), .ref (v 4), .ref (v 5), .ref (v 6), .ref (v 7), .ref (v 8), .ref (v 9), .int 0, .int 0, .int 0, .int 0, .int 0, .int 0, .int 0, .int 0, .int 0, .ref (v 10), .ref (v 11), .ref (v 12), .ref (v 13), .int 0, .ref (v 14), .ref (v 15), .ref (v 16), .ref (v 17), .ref (v 18), .int 0, .int 0, .int 0, .ref (v 19), .ref (v 20), .ref (v 21), .ref (v 22), .ref (v 23), .int 0, .int 0, .int 0, .int 0]) hx hb hr hlk (by refine ⟨fun h => ?_, fun h => ?_⟩ <;> first | exact False.elim h | exact ⟨rfl, rfl⟩ | rfl | exact absurd trivial h | exact absurd rfl h | (exfalso; simp only [k_lt, k_le, k_eq, k_L0, k_L1, k_L2, k_L3, k_L4, k_L5, k_L6, k_L7, k_L8, k_L9, k_L10, k_L15, k_L20, k_L30, k_L31, k_L40, k_L41, k_L60, k_L61, k_L99, k_L120, k_L239, k_L240, k_L479, k_L480, k_L500, k_L720, k_L999, k_L1000, k_L9999, k_Lm1] at c3 h; omega) | (refine ⟨rfl, ?_⟩; rfl)) (hP.sub [1] rfl) (hD.sub [1] (by decide) rfl) hS (by decide) (by decide) dX12_house_31
