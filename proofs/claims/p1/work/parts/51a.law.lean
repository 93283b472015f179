theorem wm_471 : Cond.code yX11_feed cX11_feed 6 (some .int) ∈ kWS := kws_at 471 (by decide +kernel) (by decide +kernel)
theorem wm_468 : Cond.methodLink RL 116 yX11_feed ∈ kWS := kws_at 468 (by decide +kernel) (by decide +kernel)
theorem wm_470 : Cond.selects RX11 yX11_feed yX11_feed ∈ kWS := kws_at 470 (by decide +kernel) (by decide +kernel)
theorem wm_469 : Cond.instanceMethod yX11_feed ∈ kWS := kws_at 469 (by decide +kernel) (by decide +kernel)
theorem lk_VRL_116 : kLV RL 116 yX11_feed (Cond.code yX11_feed cX11_feed 6 (some .int)) 5 := ⟨wm_468, wm_469, wm_470, wm_1, wm_471, ⟨by decide +kernel, by decide +kernel, by decide +kernel⟩⟩
theorem wm_1672 : Cond.code yX12_feed cX12_feed 8 (some .int) ∈ kWS := kws_at 1672 (by decide +kernel) (by decide +kernel)
theorem wm_1669 : Cond.methodLink RL 120 yX12_feed ∈ kWS := kws_at 1669 (by decide +kernel) (by decide +kernel)
theorem wm_1671 : Cond.selects RX12 yX12_feed yX12_feed ∈ kWS := kws_at 1671 (by decide +kernel) (by decide +kernel)
theorem wm_1670 : Cond.instanceMethod yX12_feed ∈ kWS := kws_at 1670 (by decide +kernel) (by decide +kernel)
theorem lk_VRL_120 : kLV RL 120 yX12_feed (Cond.code yX12_feed cX12_feed 8 (some .int)) 5 := ⟨wm_1669, wm_1670, wm_1671, wm_12, wm_1672, ⟨by decide +kernel, by decide +kernel, by decide +kernel⟩⟩
theorem wm_915 : Cond.codeWith yL_house cL_house 4 (some .int) [(0, 9, 12, 13)] ∈ kWS := kws_at 915 (by decide +kernel) (by decide +kernel)
theorem wm_913 : Cond.methodLink RL 121 yL_house ∈ kWS := kws_at 913 (by decide +kernel) (by decide +kernel)
theorem wm_914 : Cond.static yL_house ∈ kWS := kws_at 914 (by decide +kernel) (by decide +kernel)
theorem wm_0 : Cond.initialized RL ∈ kWS := kws_at 0 (by decide +kernel) (by decide +kernel)
theorem lk_SRL_121 : kLS RL 121 yL_house (Cond.codeWith yL_house cL_house 4 (some .int) [(0, 9, 12, 13)]) 3 := ⟨wm_913, wm_914, wm_0, wm_915, ⟨by decide +kernel, by decide +kernel, by decide +kernel⟩⟩
theorem wm_1676 : Cond.code yX12_house cX12_house 4 (some .int) ∈ kWS := kws_at 1676 (by decide +kernel) (by decide +kernel)
theorem wm_1673 : Cond.methodLink RL 126 yX12_house ∈ kWS := kws_at 1673 (by decide +kernel) (by decide +kernel)
theorem wm_1675 : Cond.selects RX12 yX12_house yX12_house ∈ kWS := kws_at 1675 (by decide +kernel) (by decide +kernel)
theorem wm_1674 : Cond.instanceMethod yX12_house ∈ kWS := kws_at 1674 (by decide +kernel) (by decide +kernel)
theorem lk_VRL_126 : kLV RL 126 yX12_house (Cond.code yX12_house cX12_house 4 (some .int)) 1 := ⟨wm_1673, wm_1674, wm_1675, wm_12, wm_1676, ⟨by decide +kernel, by decide +kernel, by decide +kernel⟩⟩
theorem wm_1668 : Cond.code yX12_thrown cX12_thrown 1 (some .int) ∈ kWS := kws_at 1668 (by decide +kernel) (by decide +kernel)
theorem wm_1665 : Cond.methodLink RL 127 yX12_thrown ∈ kWS := kws_at 1665 (by decide +kernel) (by decide +kernel)
theorem wm_1667 : Cond.selects RX12 yX12_thrown yX12_thrown ∈ kWS := kws_at 1667 (by decide +kernel) (by decide +kernel)
theorem wm_1666 : Cond.instanceMethod yX12_thrown ∈ kWS := kws_at 1666 (by decide +kernel) (by decide +kernel)
theorem lk_VRL_127 : kLV RL 127 yX12_thrown (Cond.code yX12_thrown cX12_thrown 1 (some .int)) 0 := ⟨wm_1665, wm_1666, wm_1667, wm_12, wm_1668, ⟨by decide +kernel, by decide +kernel, by decide +kernel⟩⟩
theorem wm_479 : Cond.code yX11_fault cX11_fault 1 (some .int) ∈ kWS := kws_at 479 (by decide +kernel) (by decide +kernel)
theorem wm_476 : Cond.methodLink RL 131 yX11_fault ∈ kWS := kws_at 476 (by decide +kernel) (by decide +kernel)
theorem wm_478 : Cond.selects RX11 yX11_fault yX11_fault ∈ kWS := kws_at 478 (by decide +kernel) (by decide +kernel)
theorem wm_477 : Cond.instanceMethod yX11_fault ∈ kWS := kws_at 477 (by decide +kernel) (by decide +kernel)
theorem lk_VRL_131 : kLV RL 131 yX11_fault (Cond.code yX11_fault cX11_fault 1 (some .int)) 0 := ⟨wm_476, wm_477, wm_478, wm_1, wm_479, ⟨by decide +kernel, by decide +kernel, by decide +kernel⟩⟩
theorem wm_1750 : Cond.code yX12_fault cX12_fault 1 (some .int) ∈ kWS := kws_at 1750 (by decide +kernel) (by decide +kernel)
theorem wm_1747 : Cond.methodLink RL 134 yX12_fault ∈ kWS := kws_at 1747 (by decide +kernel) (by decide +kernel)
theorem wm_1749 : Cond.selects RX12 yX12_fault yX12_fault ∈ kWS := kws_at 1749 (by decide +kernel) (by decide +kernel)
theorem wm_1748 : Cond.instanceMethod yX12_fault ∈ kWS := kws_at 1748 (by decide +kernel) (by decide +kernel)
theorem lk_VRL_134 : kLV RL 134 yX12_fault (Cond.code yX12_fault cX12_fault 1 (some .int)) 0 := ⟨wm_1747, wm_1748, wm_1749, wm_12, wm_1750, ⟨by decide +kernel, by decide +kernel, by decide +kernel⟩⟩
theorem wm_1043 : Cond.codeWith yL_told cL_told 4 (some .int) [(0, 9, 12, 13)] ∈ kWS := kws_at 1043 (by decide +kernel) (by decide +kernel)
theorem wm_1041 : Cond.methodLink RL 135 yL_told ∈ kWS := kws_at 1041 (by decide +kernel) (by decide +kernel)
theorem wm_1042 : Cond.static yL_told ∈ kWS := kws_at 1042 (by decide +kernel) (by decide +kernel)
theorem lk_SRL_135 : kLS RL 135 yL_told (Cond.codeWith yL_told cL_told 4 (some .int) [(0, 9, 12, 13)]) 3 := ⟨wm_1041, wm_1042, wm_0, wm_1043, ⟨by decide +kernel, by decide +kernel, by decide +kernel⟩⟩
theorem wm_1754 : Cond.code yX12_told cX12_told 2 (some .int) ∈ kWS := kws_at 1754 (by decide +kernel) (by decide +kernel)
theorem wm_1751 : Cond.methodLink RL 137 yX12_told ∈ kWS := kws_at 1751 (by decide +kernel) (by decide +kernel)
theorem wm_1753 : Cond.selects RX12 yX12_told yX12_told ∈ kWS := kws_at 1753 (by decide +kernel) (by decide +kernel)
theorem wm_1752 : Cond.instanceMethod yX12_told ∈ kWS := kws_at 1752 (by decide +kernel) (by decide +kernel)
theorem lk_VRL_137 : kLV RL 137 yX12_told (Cond.code yX12_told cX12_told 2 (some .int)) 1 := ⟨wm_1751, wm_1752, wm_1753, wm_12, wm_1754, ⟨by decide +kernel, by decide +kernel, by decide +kernel⟩⟩
theorem wm_1051 : Cond.codeWith yL_body cL_body 5 (some .int) [(0, 10, 13, 22), (0, 10, 17, 13)] ∈ kWS := kws_at 1051 (by decide +kernel) (by decide +kernel)
theorem wm_1049 : Cond.methodLink RL 138 yL_body ∈ kWS := kws_at 1049 (by decide +kernel) (by decide +kernel)
theorem wm_1050 : Cond.static yL_body ∈ kWS := kws_at 1050 (by decide +kernel) (by decide +kernel)
theorem lk_SRL_138 : kLS RL 138 yL_body (Cond.codeWith yL_body cL_body 5 (some .int) [(0, 10, 13, 22), (0, 10, 17, 13)]) 4 := ⟨wm_1049, wm_1050, wm_0, wm_1051, ⟨by decide +kernel, by decide +kernel, by decide +kernel⟩⟩
theorem wm_1758 : Cond.code yX12_body cX12_body 3 (some .int) ∈ kWS := kws_at 1758 (by decide +kernel) (by decide +kernel)
theorem wm_1755 : Cond.methodLink RL 141 yX12_body ∈ kWS := kws_at 1755 (by decide +kernel) (by decide +kernel)
theorem wm_1757 : Cond.selects RX12 yX12_body yX12_body ∈ kWS := kws_at 1757 (by decide +kernel) (by decide +kernel)
theorem wm_1756 : Cond.instanceMethod yX12_body ∈ kWS := kws_at 1756 (by decide +kernel) (by decide +kernel)
theorem lk_VRL_141 : kLV RL 141 yX12_body (Cond.code yX12_body cX12_body 3 (some .int)) 2 := ⟨wm_1755, wm_1756, wm_1757, wm_12, wm_1758, ⟨by decide +kernel, by decide +kernel, by decide +kernel⟩⟩
theorem wm_1080 : Cond.codeWith yL_now cL_now 5 (some .int) [(0, 10, 13, 22), (0, 10, 17, 13)] ∈ kWS := kws_at 1080 (by decide +kernel) (by decide +kernel)
theorem wm_1078 : Cond.methodLink RL 142 yL_now ∈ kWS := kws_at 1078 (by decide +kernel) (by decide +kernel)
theorem wm_1079 : Cond.static yL_now ∈ kWS := kws_at 1079 (by decide +kernel) (by decide +kernel)
theorem lk_SRL_142 : kLS RL 142 yL_now (Cond.codeWith yL_now cL_now 5 (some .int) [(0, 10, 13, 22), (0, 10, 17, 13)]) 4 := ⟨wm_1078, wm_1079, wm_0, wm_1080, ⟨by decide +kernel, by decide +kernel, by decide +kernel⟩⟩
theorem wm_1766 : Cond.code yX12_now cX12_now 3 (some .int) ∈ kWS := kws_at 1766 (by decide +kernel) (by decide +kernel)
theorem wm_1763 : Cond.methodLink RL 144 yX12_now ∈ kWS := kws_at 1763 (by decide +kernel) (by decide +kernel)
theorem wm_1765 : Cond.selects RX12 yX12_now yX12_now ∈ kWS := kws_at 1765 (by decide +kernel) (by decide +kernel)
theorem wm_1764 : Cond.instanceMethod yX12_now ∈ kWS := kws_at 1764 (by decide +kernel) (by decide +kernel)
theorem lk_VRL_144 : kLV RL 144 yX12_now (Cond.code yX12_now cX12_now 3 (some .int)) 2 := ⟨wm_1763, wm_1764, wm_1765, wm_12, wm_1766, ⟨by decide +kernel, by decide +kernel, by decide +kernel⟩⟩
theorem wm_1107 : Cond.codeWith yL_costs cL_costs 5 (some .int) [(0, 10, 13, 22)] ∈ kWS := kws_at 1107 (by decide +kernel) (by decide +kernel)
theorem wm_1105 : Cond.methodLink RL 145 yL_costs ∈ kWS := kws_at 1105 (by decide +kernel) (by decide +kernel)
theorem wm_1106 : Cond.static yL_costs ∈ kWS := kws_at 1106 (by decide +kernel) (by decide +kernel)
theorem lk_SRL_145 : kLS RL 145 yL_costs (Cond.codeWith yL_costs cL_costs 5 (some .int) [(0, 10, 13, 22)]) 4 := ⟨wm_1105, wm_1106, wm_0, wm_1107, ⟨by decide +kernel, by decide +kernel, by decide +kernel⟩⟩
theorem wm_1789 : Cond.code yX12_costs cX12_costs 3 (some .int) ∈ kWS := kws_at 1789 (by decide +kernel) (by decide +kernel)
theorem wm_1786 : Cond.methodLink RL 147 yX12_costs ∈ kWS := kws_at 1786 (by decide +kernel) (by decide +kernel)
theorem wm_1788 : Cond.selects RX12 yX12_costs yX12_costs ∈ kWS := kws_at 1788 (by decide +kernel) (by decide +kernel)
theorem wm_1787 : Cond.instanceMethod yX12_costs ∈ kWS := kws_at 1787 (by decide +kernel) (by decide +kernel)
theorem lk_VRL_147 : kLV RL 147 yX12_costs (Cond.code yX12_costs cX12_costs 3 (some .int)) 2 := ⟨wm_1786, wm_1787, wm_1788, wm_12, wm_1789, ⟨by decide +kernel, by decide +kernel, by decide +kernel⟩⟩
theorem wm_1115 : Cond.codeWith yL_pass cL_pass 4 (some .int) [(0, 9, 12, 22)] ∈ kWS := kws_at 1115 (by decide +kernel) (by decide +kernel)
theorem wm_1113 : Cond.methodLink RL 148 yL_pass ∈ kWS := kws_at 1113 (by decide +kernel) (by decide +kernel)
theorem wm_1114 : Cond.static yL_pass ∈ kWS := kws_at 1114 (by decide +kernel) (by decide +kernel)
theorem lk_SRL_148 : kLS RL 148 yL_pass (Cond.codeWith yL_pass cL_pass 4 (some .int) [(0, 9, 12, 22)]) 3 := ⟨wm_1113, wm_1114, wm_0, wm_1115, ⟨by decide +kernel, by decide +kernel, by decide +kernel⟩⟩
theorem wm_1800 : Cond.code yX12_pass cX12_pass 2 (some .int) ∈ kWS := kws_at 1800 (by decide +kernel) (by decide +kernel)
theorem wm_1797 : Cond.methodLink RL 150 yX12_pass ∈ kWS := kws_at 1797 (by decide +kernel) (by decide +kernel)
theorem wm_1799 : Cond.selects RX12 yX12_pass yX12_pass ∈ kWS := kws_at 1799 (by decide +kernel) (by decide +kernel)
theorem wm_1798 : Cond.instanceMethod yX12_pass ∈ kWS := kws_at 1798 (by decide +kernel) (by decide +kernel)
theorem lk_VRL_150 : kLV RL 150 yX12_pass (Cond.code yX12_pass cX12_pass 2 (some .int)) 1 := ⟨wm_1797, wm_1798, wm_1799, wm_12, wm_1800, ⟨by decide +kernel, by decide +kernel, by decide +kernel⟩⟩
theorem wm_483 : Cond.code yX11_mind cX11_mind 1 (some .int) ∈ kWS := kws_at 483 (by decide +kernel) (by decide +kernel)
theorem wm_480 : Cond.methodLink RL 151 yX11_mind ∈ kWS := kws_at 480 (by decide +kernel) (by decide +kernel)
theorem wm_482 : Cond.selects RX11 yX11_mind yX11_mind ∈ kWS := kws_at 482 (by decide +kernel) (by decide +kernel)
theorem wm_481 : Cond.instanceMethod yX11_mind ∈ kWS := kws_at 481 (by decide +kernel) (by decide +kernel)
theorem lk_VRL_151 : kLV RL 151 yX11_mind (Cond.code yX11_mind cX11_mind 1 (some .int)) 0 := ⟨wm_480, wm_481, wm_482, wm_1, wm_483, ⟨by decide +kernel, by decide +kernel, by decide +kernel⟩⟩
theorem wm_1808 : Cond.code yX12_mind cX12_mind 1 (some .int) ∈ kWS := kws_at 1808 (by decide +kernel) (by decide +kernel)
theorem wm_1805 : Cond.methodLink RL 154 yX12_mind ∈ kWS := kws_at 1805 (by decide +kernel) (by decide +kernel)
theorem wm_1807 : Cond.selects RX12 yX12_mind yX12_mind ∈ kWS := kws_at 1807 (by decide +kernel) (by decide +kernel)
theorem wm_1806 : Cond.instanceMethod yX12_mind ∈ kWS := kws_at 1806 (by decide +kernel) (by decide +kernel)
theorem lk_VRL_154 : kLV RL 154 yX12_mind (Cond.code yX12_mind cX12_mind 1 (some .int)) 0 := ⟨wm_1805, wm_1806, wm_1807, wm_12, wm_1808, ⟨by decide +kernel, by decide +kernel, by decide +kernel⟩⟩
theorem wm_1127 : Cond.codeWith yL_bed cL_bed 5 (some .int) [(0, 17, 20, 22)] ∈ kWS := kws_at 1127 (by decide +kernel) (by decide +kernel)
theorem wm_1125 : Cond.methodLink RL 155 yL_bed ∈ kWS := kws_at 1125 (by decide +kernel) (by decide +kernel)
theorem wm_1126 : Cond.static yL_bed ∈ kWS := kws_at 1126 (by decide +kernel) (by decide +kernel)
theorem lk_SRL_155 : kLS RL 155 yL_bed (Cond.codeWith yL_bed cL_bed 5 (some .int) [(0, 17, 20, 22)]) 4 := ⟨wm_1125, wm_1126, wm_0, wm_1127, ⟨by decide +kernel, by decide +kernel, by decide +kernel⟩⟩
theorem wm_1812 : Cond.code yX12_bed cX12_bed 4 (some .boolean) ∈ kWS := kws_at 1812 (by decide +kernel) (by decide +kernel)
theorem wm_1809 : Cond.methodLink RL 158 yX12_bed ∈ kWS := kws_at 1809 (by decide +kernel) (by decide +kernel)
theorem wm_1811 : Cond.selects RX12 yX12_bed yX12_bed ∈ kWS := kws_at 1811 (by decide +kernel) (by decide +kernel)
theorem wm_1810 : Cond.instanceMethod yX12_bed ∈ kWS := kws_at 1810 (by decide +kernel) (by decide +kernel)
theorem lk_VRL_158 : kLV RL 158 yX12_bed (Cond.code yX12_bed cX12_bed 4 (some .boolean)) 2 := ⟨wm_1809, wm_1810, wm_1811, wm_12, wm_1812, ⟨by decide +kernel, by decide +kernel, by decide +kernel⟩⟩
theorem dL_law_212 : decode cL_law 212 = .ok (.aload_n 1, 1) := by decide +kernel
theorem dL_law_213 : decode cL_law 213 = .ok (.aload_n 0, 1) := by decide +kernel
theorem dL_law_214 : decode cL_law 214 = .ok (.iload 4, 2) := by decide +kernel
theorem dL_law_216 : decode cL_law 216 = .ok (.iconst 1, 1) := by decide +kernel
theorem dL_law_217 : decode cL_law 217 = .ok (.iadd, 1) := by decide +kernel
theorem dL_law_218 : decode cL_law 218 = .ok (.iaload, 1) := by decide +kernel
theorem dL_law_219 : decode cL_law 219 = .ok (.aload_n 0, 1) := by decide +kernel
theorem dL_law_220 : decode cL_law 220 = .ok (.iload 4, 2) := by decide +kernel
theorem dL_law_222 : decode cL_law 222 = .ok (.iconst 2, 1) := by decide +kernel
theorem dL_law_223 : decode cL_law 223 = .ok (.iadd, 1) := by decide +kernel
theorem dL_law_224 : decode cL_law 224 = .ok (.iaload, 1) := by decide +kernel
theorem dL_law_225 : decode cL_law 225 = .ok (.aload_n 0, 1) := by decide +kernel
theorem dL_law_226 : decode cL_law 226 = .ok (.iload 4, 2) := by decide +kernel
theorem dL_law_228 : decode cL_law 228 = .ok (.iconst 3, 1) := by decide +kernel
theorem dL_law_229 : decode cL_law 229 = .ok (.iadd, 1) := by decide +kernel
theorem dL_law_230 : decode cL_law 230 = .ok (.iaload, 1) := by decide +kernel
theorem dL_law_231 : decode cL_law 231 = .ok (.aload_n 0, 1) := by decide +kernel
theorem dL_law_232 : decode cL_law 232 = .ok (.iload 4, 2) := by decide +kernel
theorem dL_law_234 : decode cL_law 234 = .ok (.iconst 4, 1) := by decide +kernel
theorem dL_law_235 : decode cL_law 235 = .ok (.iadd, 1) := by decide +kernel
theorem dL_law_236 : decode cL_law 236 = .ok (.iaload, 1) := by decide +kernel
theorem dL_law_237 : decode cL_law 237 = .ok (.aload_n 0, 1) := by decide +kernel
theorem dL_law_238 : decode cL_law 238 = .ok (.iload 4, 2) := by decide +kernel
theorem dL_law_240 : decode cL_law 240 = .ok (.iconst 5, 1) := by decide +kernel
theorem dL_law_241 : decode cL_law 241 = .ok (.iadd, 1) := by decide +kernel
theorem dL_law_242 : decode cL_law 242 = .ok (.iaload, 1) := by decide +kernel
theorem dL_law_243 : decode cL_law 243 = .ok (.invokevirtual 116, 3) := by decide +kernel
theorem dL_law_246 : decode cL_law 246 = .ok (.aload_n 2, 1) := by decide +kernel
theorem dL_law_247 : decode cL_law 247 = .ok (.aload_n 0, 1) := by decide +kernel
theorem dL_law_248 : decode cL_law 248 = .ok (.iload 4, 2) := by decide +kernel
theorem dL_law_250 : decode cL_law 250 = .ok (.iconst 1, 1) := by decide +kernel
theorem dL_law_251 : decode cL_law 251 = .ok (.iadd, 1) := by decide +kernel
theorem dL_law_252 : decode cL_law 252 = .ok (.iaload, 1) := by decide +kernel
theorem dL_law_253 : decode cL_law 253 = .ok (.aload_n 0, 1) := by decide +kernel
theorem dL_law_254 : decode cL_law 254 = .ok (.iload 4, 2) := by decide +kernel
theorem dL_law_256 : decode cL_law 256 = .ok (.iconst 2, 1) := by decide +kernel
theorem dL_law_257 : decode cL_law 257 = .ok (.iadd, 1) := by decide +kernel
theorem dL_law_258 : decode cL_law 258 = .ok (.iaload, 1) := by decide +kernel
theorem dL_law_259 : decode cL_law 259 = .ok (.aload_n 0, 1) := by decide +kernel
theorem dL_law_260 : decode cL_law 260 = .ok (.iload 4, 2) := by decide +kernel
theorem dL_law_262 : decode cL_law 262 = .ok (.iconst 3, 1) := by decide +kernel
theorem dL_law_263 : decode cL_law 263 = .ok (.iadd, 1) := by decide +kernel
theorem dL_law_264 : decode cL_law 264 = .ok (.iaload, 1) := by decide +kernel
theorem dL_law_265 : decode cL_law 265 = .ok (.aload_n 0, 1) := by decide +kernel
theorem dL_law_266 : decode cL_law 266 = .ok (.iload 4, 2) := by decide +kernel
theorem dL_law_268 : decode cL_law 268 = .ok (.iconst 4, 1) := by decide +kernel
theorem dL_law_269 : decode cL_law 269 = .ok (.iadd, 1) := by decide +kernel
theorem dL_law_270 : decode cL_law 270 = .ok (.iaload, 1) := by decide +kernel
theorem dL_law_271 : decode cL_law 271 = .ok (.aload_n 0, 1) := by decide +kernel
theorem dL_law_272 : decode cL_law 272 = .ok (.iload 4, 2) := by decide +kernel
theorem dL_law_274 : decode cL_law 274 = .ok (.iconst 5, 1) := by decide +kernel
theorem dL_law_275 : decode cL_law 275 = .ok (.iadd, 1) := by decide +kernel
theorem dL_law_276 : decode cL_law 276 = .ok (.iaload, 1) := by decide +kernel
theorem dL_law_277 : decode cL_law 277 = .ok (.invokevirtual 120, 3) := by decide +kernel
theorem dL_law_280 : decode cL_law 280 = .ok (.if_icmp .eq 2138, 3) := by decide +kernel
theorem dL_law_285 : decode cL_law 285 = .ok (.aload_n 1, 1) := by decide +kernel
theorem dL_law_286 : decode cL_law 286 = .ok (.aload_n 0, 1) := by decide +kernel
theorem dL_law_287 : decode cL_law 287 = .ok (.iload 4, 2) := by decide +kernel
theorem dL_law_289 : decode cL_law 289 = .ok (.iconst 1, 1) := by decide +kernel
theorem dL_law_290 : decode cL_law 290 = .ok (.iadd, 1) := by decide +kernel
theorem dL_law_291 : decode cL_law 291 = .ok (.iaload, 1) := by decide +kernel
theorem dL_law_292 : decode cL_law 292 = .ok (.aload_n 3, 1) := by decide +kernel
theorem dL_law_293 : decode cL_law 293 = .ok (.invokestatic 121, 3) := by decide +kernel
theorem dL_law_296 : decode cL_law 296 = .ok (.istore 5, 2) := by decide +kernel
theorem dL_law_298 : decode cL_law 298 = .ok (.aload_n 2, 1) := by decide +kernel
theorem dL_law_299 : decode cL_law 299 = .ok (.aload_n 0, 1) := by decide +kernel
theorem dL_law_300 : decode cL_law 300 = .ok (.iload 4, 2) := by decide +kernel
theorem dL_law_302 : decode cL_law 302 = .ok (.iconst 1, 1) := by decide +kernel
theorem dL_law_303 : decode cL_law 303 = .ok (.iadd, 1) := by decide +kernel
theorem dL_law_304 : decode cL_law 304 = .ok (.iaload, 1) := by decide +kernel
theorem dL_law_305 : decode cL_law 305 = .ok (.invokevirtual 126, 3) := by decide +kernel
theorem dL_law_308 : decode cL_law 308 = .ok (.istore 6, 2) := by decide +kernel
theorem dL_law_310 : decode cL_law 310 = .ok (.aload_n 2, 1) := by decide +kernel
theorem dL_law_311 : decode cL_law 311 = .ok (.invokevirtual 127, 3) := by decide +kernel
theorem dL_law_314 : decode cL_law 314 = .ok (.iload 5, 2) := by decide +kernel
theorem dL_law_316 : decode cL_law 316 = .ok (.if_icmp .eq 5, 3) := by decide +kernel
theorem dL_law_321 : decode cL_law 321 = .ok (.iload 5, 2) := by decide +kernel
theorem dL_law_323 : decode cL_law 323 = .ok (.ifCond .ne 15, 3) := by decide +kernel
theorem dL_law_326 : decode cL_law 326 = .ok (.aload_n 3, 1) := by decide +kernel
theorem dL_law_327 : decode cL_law 327 = .ok (.iconst 0, 1) := by decide +kernel
theorem dL_law_328 : decode cL_law 328 = .ok (.laload, 1) := by decide +kernel
theorem dL_law_329 : decode cL_law 329 = .ok (.iload 6, 2) := by decide +kernel
theorem dL_law_331 : decode cL_law 331 = .ok (.i2l, 1) := by decide +kernel
theorem dL_law_332 : decode cL_law 332 = .ok (.lcmp, 1) := by decide +kernel
theorem dL_law_333 : decode cL_law 333 = .ok (.ifCond .eq 5, 3) := by decide +kernel
theorem dL_law_338 : decode cL_law 338 = .ok (.goto 2080, 3) := by decide +kernel
theorem dL_law_341 : decode cL_law 341 = .ok (.aload_n 1, 1) := by decide +kernel
theorem dL_law_342 : decode cL_law 342 = .ok (.invokevirtual 131, 3) := by decide +kernel
theorem dL_law_345 : decode cL_law 345 = .ok (.aload_n 2, 1) := by decide +kernel
theorem dL_law_346 : decode cL_law 346 = .ok (.invokevirtual 134, 3) := by decide +kernel
theorem dL_law_349 : decode cL_law 349 = .ok (.if_icmp .eq 2069, 3) := by decide +kernel
theorem dL_law_354 : decode cL_law 354 = .ok (.aload_n 1, 1) := by decide +kernel
theorem dL_law_355 : decode cL_law 355 = .ok (.aload_n 0, 1) := by decide +kernel
theorem dL_law_356 : decode cL_law 356 = .ok (.iload 4, 2) := by decide +kernel
theorem dL_law_358 : decode cL_law 358 = .ok (.iconst 1, 1) := by decide +kernel
theorem dL_law_359 : decode cL_law 359 = .ok (.iadd, 1) := by decide +kernel
theorem dL_law_360 : decode cL_law 360 = .ok (.iaload, 1) := by decide +kernel
theorem dL_law_361 : decode cL_law 361 = .ok (.aload_n 3, 1) := by decide +kernel
theorem dL_law_362 : decode cL_law 362 = .ok (.invokestatic 135, 3) := by decide +kernel
theorem dL_law_365 : decode cL_law 365 = .ok (.istore 5, 2) := by decide +kernel
theorem dL_law_367 : decode cL_law 367 = .ok (.aload_n 2, 1) := by decide +kernel
theorem dL_law_368 : decode cL_law 368 = .ok (.aload_n 0, 1) := by decide +kernel
theorem dL_law_369 : decode cL_law 369 = .ok (.iload 4, 2) := by decide +kernel
theorem dL_law_371 : decode cL_law 371 = .ok (.iconst 1, 1) := by decide +kernel
theorem dL_law_372 : decode cL_law 372 = .ok (.iadd, 1) := by decide +kernel
theorem dL_law_373 : decode cL_law 373 = .ok (.iaload, 1) := by decide +kernel
theorem dL_law_374 : decode cL_law 374 = .ok (.invokevirtual 137, 3) := by decide +kernel
theorem dL_law_377 : decode cL_law 377 = .ok (.istore 6, 2) := by decide +kernel
theorem dL_law_379 : decode cL_law 379 = .ok (.aload_n 2, 1) := by decide +kernel
theorem dL_law_380 : decode cL_law 380 = .ok (.invokevirtual 127, 3) := by decide +kernel
theorem dL_law_383 : decode cL_law 383 = .ok (.iload 5, 2) := by decide +kernel
theorem dL_law_385 : decode cL_law 385 = .ok (.if_icmp .eq 5, 3) := by decide +kernel
theorem dL_law_390 : decode cL_law 390 = .ok (.iload 5, 2) := by decide +kernel
theorem dL_law_392 : decode cL_law 392 = .ok (.ifCond .ne 15, 3) := by decide +kernel
theorem dL_law_395 : decode cL_law 395 = .ok (.aload_n 3, 1) := by decide +kernel
theorem dL_law_396 : decode cL_law 396 = .ok (.iconst 0, 1) := by decide +kernel
theorem dL_law_397 : decode cL_law 397 = .ok (.laload, 1) := by decide +kernel
theorem dL_law_398 : decode cL_law 398 = .ok (.iload 6, 2) := by decide +kernel
theorem dL_law_400 : decode cL_law 400 = .ok (.i2l, 1) := by decide +kernel
theorem dL_law_401 : decode cL_law 401 = .ok (.lcmp, 1) := by decide +kernel
theorem dL_law_402 : decode cL_law 402 = .ok (.ifCond .eq 5, 3) := by decide +kernel
theorem dL_law_407 : decode cL_law 407 = .ok (.goto 2011, 3) := by decide +kernel
theorem dL_law_410 : decode cL_law 410 = .ok (.aload_n 1, 1) := by decide +kernel
theorem dL_law_411 : decode cL_law 411 = .ok (.aload_n 0, 1) := by decide +kernel
theorem dL_law_412 : decode cL_law 412 = .ok (.iload 4, 2) := by decide +kernel
theorem dL_law_414 : decode cL_law 414 = .ok (.iconst 1, 1) := by decide +kernel
theorem dL_law_415 : decode cL_law 415 = .ok (.iadd, 1) := by decide +kernel
theorem dL_law_416 : decode cL_law 416 = .ok (.iaload, 1) := by decide +kernel
theorem dL_law_417 : decode cL_law 417 = .ok (.aload_n 0, 1) := by decide +kernel
theorem dL_law_418 : decode cL_law 418 = .ok (.iload 4, 2) := by decide +kernel
theorem dL_law_420 : decode cL_law 420 = .ok (.iconst 2, 1) := by decide +kernel
theorem dL_law_421 : decode cL_law 421 = .ok (.iadd, 1) := by decide +kernel
theorem dL_law_422 : decode cL_law 422 = .ok (.iaload, 1) := by decide +kernel
theorem dL_law_423 : decode cL_law 423 = .ok (.aload_n 3, 1) := by decide +kernel
theorem dL_law_424 : decode cL_law 424 = .ok (.invokestatic 138, 3) := by decide +kernel
theorem dL_law_427 : decode cL_law 427 = .ok (.istore 5, 2) := by decide +kernel
theorem dL_law_429 : decode cL_law 429 = .ok (.aload_n 2, 1) := by decide +kernel
theorem dL_law_430 : decode cL_law 430 = .ok (.aload_n 0, 1) := by decide +kernel
theorem dL_law_431 : decode cL_law 431 = .ok (.iload 4, 2) := by decide +kernel
theorem dL_law_433 : decode cL_law 433 = .ok (.iconst 1, 1) := by decide +kernel
theorem dL_law_434 : decode cL_law 434 = .ok (.iadd, 1) := by decide +kernel
theorem dL_law_435 : decode cL_law 435 = .ok (.iaload, 1) := by decide +kernel
theorem dL_law_436 : decode cL_law 436 = .ok (.aload_n 0, 1) := by decide +kernel
theorem dL_law_437 : decode cL_law 437 = .ok (.iload 4, 2) := by decide +kernel
theorem dL_law_439 : decode cL_law 439 = .ok (.iconst 2, 1) := by decide +kernel
theorem dL_law_440 : decode cL_law 440 = .ok (.iadd, 1) := by decide +kernel
theorem dL_law_441 : decode cL_law 441 = .ok (.iaload, 1) := by decide +kernel
theorem dL_law_442 : decode cL_law 442 = .ok (.invokevirtual 141, 3) := by decide +kernel
theorem dL_law_445 : decode cL_law 445 = .ok (.istore 6, 2) := by decide +kernel
theorem dL_law_447 : decode cL_law 447 = .ok (.aload_n 2, 1) := by decide +kernel
theorem dL_law_448 : decode cL_law 448 = .ok (.invokevirtual 127, 3) := by decide +kernel
theorem dL_law_451 : decode cL_law 451 = .ok (.iload 5, 2) := by decide +kernel
theorem dL_law_453 : decode cL_law 453 = .ok (.if_icmp .eq 5, 3) := by decide +kernel
theorem dL_law_458 : decode cL_law 458 = .ok (.iload 5, 2) := by decide +kernel
theorem dL_law_460 : decode cL_law 460 = .ok (.ifCond .ne 15, 3) := by decide +kernel
theorem dL_law_475 : decode cL_law 475 = .ok (.goto 1943, 3) := by decide +kernel
theorem dL_law_478 : decode cL_law 478 = .ok (.aload_n 1, 1) := by decide +kernel
theorem dL_law_479 : decode cL_law 479 = .ok (.aload_n 0, 1) := by decide +kernel
theorem dL_law_480 : decode cL_law 480 = .ok (.iload 4, 2) := by decide +kernel
theorem dL_law_482 : decode cL_law 482 = .ok (.iconst 1, 1) := by decide +kernel
theorem dL_law_483 : decode cL_law 483 = .ok (.iadd, 1) := by decide +kernel
theorem dL_law_484 : decode cL_law 484 = .ok (.iaload, 1) := by decide +kernel
theorem dL_law_485 : decode cL_law 485 = .ok (.aload_n 0, 1) := by decide +kernel
theorem dL_law_486 : decode cL_law 486 = .ok (.iload 4, 2) := by decide +kernel
theorem dL_law_488 : decode cL_law 488 = .ok (.iconst 2, 1) := by decide +kernel
theorem dL_law_489 : decode cL_law 489 = .ok (.iadd, 1) := by decide +kernel
theorem dL_law_490 : decode cL_law 490 = .ok (.iaload, 1) := by decide +kernel
theorem dL_law_491 : decode cL_law 491 = .ok (.aload_n 3, 1) := by decide +kernel
theorem dL_law_492 : decode cL_law 492 = .ok (.invokestatic 142, 3) := by decide +kernel
theorem dL_law_495 : decode cL_law 495 = .ok (.istore 5, 2) := by decide +kernel
theorem dL_law_497 : decode cL_law 497 = .ok (.aload_n 2, 1) := by decide +kernel
theorem dL_law_498 : decode cL_law 498 = .ok (.aload_n 0, 1) := by decide +kernel
theorem dL_law_499 : decode cL_law 499 = .ok (.iload 4, 2) := by decide +kernel
theorem dL_law_501 : decode cL_law 501 = .ok (.iconst 1, 1) := by decide +kernel
theorem dL_law_502 : decode cL_law 502 = .ok (.iadd, 1) := by decide +kernel
theorem dL_law_503 : decode cL_law 503 = .ok (.iaload, 1) := by decide +kernel
theorem dL_law_504 : decode cL_law 504 = .ok (.aload_n 0, 1) := by decide +kernel
theorem dL_law_505 : decode cL_law 505 = .ok (.iload 4, 2) := by decide +kernel
theorem dL_law_507 : decode cL_law 507 = .ok (.iconst 2, 1) := by decide +kernel
theorem dL_law_508 : decode cL_law 508 = .ok (.iadd, 1) := by decide +kernel
theorem dL_law_509 : decode cL_law 509 = .ok (.iaload, 1) := by decide +kernel
theorem dL_law_510 : decode cL_law 510 = .ok (.invokevirtual 144, 3) := by decide +kernel
theorem dL_law_513 : decode cL_law 513 = .ok (.istore 6, 2) := by decide +kernel
theorem dL_law_515 : decode cL_law 515 = .ok (.aload_n 2, 1) := by decide +kernel
theorem dL_law_516 : decode cL_law 516 = .ok (.invokevirtual 127, 3) := by decide +kernel
theorem dL_law_519 : decode cL_law 519 = .ok (.iload 5, 2) := by decide +kernel
theorem dL_law_521 : decode cL_law 521 = .ok (.if_icmp .eq 5, 3) := by decide +kernel
theorem dL_law_526 : decode cL_law 526 = .ok (.iload 5, 2) := by decide +kernel
theorem dL_law_528 : decode cL_law 528 = .ok (.ifCond .ne 15, 3) := by decide +kernel
theorem dL_law_543 : decode cL_law 543 = .ok (.goto 1875, 3) := by decide +kernel
theorem dL_law_546 : decode cL_law 546 = .ok (.aload_n 1, 1) := by decide +kernel
theorem dL_law_547 : decode cL_law 547 = .ok (.aload_n 0, 1) := by decide +kernel
theorem dL_law_548 : decode cL_law 548 = .ok (.iload 4, 2) := by decide +kernel
theorem dL_law_550 : decode cL_law 550 = .ok (.iconst 1, 1) := by decide +kernel
theorem dL_law_551 : decode cL_law 551 = .ok (.iadd, 1) := by decide +kernel
theorem dL_law_552 : decode cL_law 552 = .ok (.iaload, 1) := by decide +kernel
theorem dL_law_553 : decode cL_law 553 = .ok (.aload_n 0, 1) := by decide +kernel
theorem dL_law_554 : decode cL_law 554 = .ok (.iload 4, 2) := by decide +kernel
theorem dL_law_556 : decode cL_law 556 = .ok (.iconst 2, 1) := by decide +kernel
theorem dL_law_557 : decode cL_law 557 = .ok (.iadd, 1) := by decide +kernel
theorem dL_law_558 : decode cL_law 558 = .ok (.iaload, 1) := by decide +kernel
theorem dL_law_559 : decode cL_law 559 = .ok (.aload_n 3, 1) := by decide +kernel
theorem dL_law_560 : decode cL_law 560 = .ok (.invokestatic 145, 3) := by decide +kernel
theorem dL_law_563 : decode cL_law 563 = .ok (.istore 5, 2) := by decide +kernel
theorem dL_law_565 : decode cL_law 565 = .ok (.aload_n 2, 1) := by decide +kernel
theorem dL_law_566 : decode cL_law 566 = .ok (.aload_n 0, 1) := by decide +kernel
theorem dL_law_567 : decode cL_law 567 = .ok (.iload 4, 2) := by decide +kernel
theorem dL_law_569 : decode cL_law 569 = .ok (.iconst 1, 1) := by decide +kernel
theorem dL_law_570 : decode cL_law 570 = .ok (.iadd, 1) := by decide +kernel
theorem dL_law_571 : decode cL_law 571 = .ok (.iaload, 1) := by decide +kernel
theorem dL_law_572 : decode cL_law 572 = .ok (.aload_n 0, 1) := by decide +kernel
theorem dL_law_573 : decode cL_law 573 = .ok (.iload 4, 2) := by decide +kernel
theorem dL_law_575 : decode cL_law 575 = .ok (.iconst 2, 1) := by decide +kernel
theorem dL_law_576 : decode cL_law 576 = .ok (.iadd, 1) := by decide +kernel
theorem dL_law_577 : decode cL_law 577 = .ok (.iaload, 1) := by decide +kernel
theorem dL_law_578 : decode cL_law 578 = .ok (.invokevirtual 147, 3) := by decide +kernel
theorem dL_law_581 : decode cL_law 581 = .ok (.istore 6, 2) := by decide +kernel
theorem dL_law_583 : decode cL_law 583 = .ok (.aload_n 2, 1) := by decide +kernel
theorem dL_law_584 : decode cL_law 584 = .ok (.invokevirtual 127, 3) := by decide +kernel
theorem dL_law_587 : decode cL_law 587 = .ok (.iload 5, 2) := by decide +kernel
theorem dL_law_589 : decode cL_law 589 = .ok (.if_icmp .eq 5, 3) := by decide +kernel
theorem dL_law_594 : decode cL_law 594 = .ok (.iload 5, 2) := by decide +kernel
theorem dL_law_596 : decode cL_law 596 = .ok (.ifCond .ne 15, 3) := by decide +kernel
theorem dL_law_611 : decode cL_law 611 = .ok (.goto 1807, 3) := by decide +kernel
theorem dL_law_614 : decode cL_law 614 = .ok (.aload_n 1, 1) := by decide +kernel
theorem dL_law_615 : decode cL_law 615 = .ok (.aload_n 0, 1) := by decide +kernel
theorem dL_law_616 : decode cL_law 616 = .ok (.iload 4, 2) := by decide +kernel
theorem dL_law_618 : decode cL_law 618 = .ok (.iconst 1, 1) := by decide +kernel
theorem dL_law_619 : decode cL_law 619 = .ok (.iadd, 1) := by decide +kernel
theorem dL_law_620 : decode cL_law 620 = .ok (.iaload, 1) := by decide +kernel
theorem dL_law_621 : decode cL_law 621 = .ok (.aload_n 3, 1) := by decide +kernel
theorem dL_law_622 : decode cL_law 622 = .ok (.invokestatic 148, 3) := by decide +kernel
theorem dL_law_625 : decode cL_law 625 = .ok (.istore 5, 2) := by decide +kernel
theorem dL_law_627 : decode cL_law 627 = .ok (.aload_n 2, 1) := by decide +kernel
theorem dL_law_628 : decode cL_law 628 = .ok (.aload_n 0, 1) := by decide +kernel
theorem dL_law_629 : decode cL_law 629 = .ok (.iload 4, 2) := by decide +kernel
theorem dL_law_631 : decode cL_law 631 = .ok (.iconst 1, 1) := by decide +kernel
theorem dL_law_632 : decode cL_law 632 = .ok (.iadd, 1) := by decide +kernel
theorem dL_law_633 : decode cL_law 633 = .ok (.iaload, 1) := by decide +kernel
theorem dL_law_634 : decode cL_law 634 = .ok (.invokevirtual 150, 3) := by decide +kernel
theorem dL_law_637 : decode cL_law 637 = .ok (.istore 6, 2) := by decide +kernel
theorem dL_law_639 : decode cL_law 639 = .ok (.aload_n 2, 1) := by decide +kernel
theorem dL_law_640 : decode cL_law 640 = .ok (.invokevirtual 127, 3) := by decide +kernel
theorem dL_law_643 : decode cL_law 643 = .ok (.iload 5, 2) := by decide +kernel
theorem dL_law_645 : decode cL_law 645 = .ok (.if_icmp .eq 5, 3) := by decide +kernel
theorem dL_law_650 : decode cL_law 650 = .ok (.iload 5, 2) := by decide +kernel
theorem dL_law_652 : decode cL_law 652 = .ok (.ifCond .ne 15, 3) := by decide +kernel
theorem dL_law_667 : decode cL_law 667 = .ok (.goto 1751, 3) := by decide +kernel
theorem dL_law_670 : decode cL_law 670 = .ok (.aload_n 1, 1) := by decide +kernel
theorem dL_law_671 : decode cL_law 671 = .ok (.invokevirtual 151, 3) := by decide +kernel
theorem dL_law_674 : decode cL_law 674 = .ok (.aload_n 2, 1) := by decide +kernel
theorem dL_law_675 : decode cL_law 675 = .ok (.invokevirtual 154, 3) := by decide +kernel
theorem dL_law_678 : decode cL_law 678 = .ok (.if_icmp .eq 1740, 3) := by decide +kernel
theorem dL_law_683 : decode cL_law 683 = .ok (.aload_n 1, 1) := by decide +kernel
theorem dL_law_684 : decode cL_law 684 = .ok (.aload_n 0, 1) := by decide +kernel
theorem dL_law_685 : decode cL_law 685 = .ok (.iload 4, 2) := by decide +kernel
theorem dL_law_687 : decode cL_law 687 = .ok (.iconst 1, 1) := by decide +kernel
theorem dL_law_688 : decode cL_law 688 = .ok (.iadd, 1) := by decide +kernel
theorem dL_law_689 : decode cL_law 689 = .ok (.iaload, 1) := by decide +kernel
theorem dL_law_690 : decode cL_law 690 = .ok (.aload_n 0, 1) := by decide +kernel
theorem dL_law_691 : decode cL_law 691 = .ok (.iload 4, 2) := by decide +kernel
theorem dL_law_693 : decode cL_law 693 = .ok (.iconst 2, 1) := by decide +kernel
theorem dL_law_694 : decode cL_law 694 = .ok (.iadd, 1) := by decide +kernel
theorem dL_law_695 : decode cL_law 695 = .ok (.iaload, 1) := by decide +kernel
theorem dL_law_696 : decode cL_law 696 = .ok (.ifCond .eq 7, 3) := by decide +kernel
theorem dL_law_699 : decode cL_law 699 = .ok (.iconst 1, 1) := by decide +kernel
theorem dL_law_700 : decode cL_law 700 = .ok (.goto 4, 3) := by decide +kernel
theorem dL_law_703 : decode cL_law 703 = .ok (.iconst 0, 1) := by decide +kernel
theorem dL_law_704 : decode cL_law 704 = .ok (.aload_n 3, 1) := by decide +kernel
theorem dL_law_705 : decode cL_law 705 = .ok (.invokestatic 155, 3) := by decide +kernel
theorem dL_law_708 : decode cL_law 708 = .ok (.istore 5, 2) := by decide +kernel
theorem dL_law_710 : decode cL_law 710 = .ok (.aload_n 2, 1) := by decide +kernel
theorem dL_law_711 : decode cL_law 711 = .ok (.aload_n 0, 1) := by decide +kernel
theorem dL_law_712 : decode cL_law 712 = .ok (.iload 4, 2) := by decide +kernel
theorem dL_law_714 : decode cL_law 714 = .ok (.iconst 1, 1) := by decide +kernel
theorem dL_law_715 : decode cL_law 715 = .ok (.iadd, 1) := by decide +kernel
theorem dL_law_716 : decode cL_law 716 = .ok (.iaload, 1) := by decide +kernel
theorem dL_law_717 : decode cL_law 717 = .ok (.aload_n 0, 1) := by decide +kernel
theorem dL_law_718 : decode cL_law 718 = .ok (.iload 4, 2) := by decide +kernel
theorem dL_law_720 : decode cL_law 720 = .ok (.iconst 2, 1) := by decide +kernel
theorem dL_law_721 : decode cL_law 721 = .ok (.iadd, 1) := by decide +kernel
theorem dL_law_722 : decode cL_law 722 = .ok (.iaload, 1) := by decide +kernel
theorem dL_law_723 : decode cL_law 723 = .ok (.ifCond .eq 7, 3) := by decide +kernel
theorem dL_law_726 : decode cL_law 726 = .ok (.iconst 1, 1) := by decide +kernel
theorem dL_law_727 : decode cL_law 727 = .ok (.goto 4, 3) := by decide +kernel
theorem dL_law_730 : decode cL_law 730 = .ok (.iconst 0, 1) := by decide +kernel
theorem dL_law_731 : decode cL_law 731 = .ok (.invokevirtual 158, 3) := by decide +kernel
theorem dL_law_734 : decode cL_law 734 = .ok (.istore 6, 2) := by decide +kernel
theorem dL_law_736 : decode cL_law 736 = .ok (.aload_n 2, 1) := by decide +kernel
theorem dL_law_737 : decode cL_law 737 = .ok (.invokevirtual 127, 3) := by decide +kernel
theorem dL_law_740 : decode cL_law 740 = .ok (.iload 5, 2) := by decide +kernel
theorem dL_law_742 : decode cL_law 742 = .ok (.if_icmp .eq 5, 3) := by decide +kernel
theorem dL_law_747 : decode cL_law 747 = .ok (.iload 5, 2) := by decide +kernel
theorem dL_law_749 : decode cL_law 749 = .ok (.ifCond .ne 22, 3) := by decide +kernel
theorem dL_law_771 : decode cL_law 771 = .ok (.goto 1647, 3) := by decide +kernel
set_option maxHeartbeats 4000000 in
set_option maxRecDepth 100000 in
/-- the law: feed -/
theorem law_case_0 {p : Program} {l : Launch} {e : Env} {s : State} {m : MethodId} {below : List Frame} {meth : Method} {c : Code} {D : va_G} {cy : Nat → ClassId} {sa : Nat → Nat} {b : Nat} {xs : Nat → Int32} (hl0 : l.stackTraces = false) (E : kE yL_law cL_law 7 (some .boolean) #[Value.ref b] p s m meth c) (hX : va_X b 6 xs s s.heap) (hbl : b < s.heap.size) (hG : kG D cy sa (fun q => s.heap.size ≤ q) s) (u v : Nat → Nat) (o : Nat) (H : Heap) (locs : List Loc) (hP : va_P D vwCl [((u 0), .inr (12, [.ref (u 1), .int 0, .int (-1), .ref (u 2), .ref (u 3), .ref (u 4), .ref (u 5), .ref (u 6), .ref (u 7), .ref (u 8), .int 0, .ref (u 9), .ref (u 10), .ref (u 11), .ref (u 12), .ref (u 13), .ref (u 14)])), ((u 1), .inl (cy 1, 500, .inl (fun _ => 0))), ((v 0), .inr (13, [.int 0, .int 0, .int 0, .int (-1), .int 0, .int 0, .int 0, .int 0, .ref (v 1), .ref (v 2), .ref (v 3), .ref (v 4), .ref (v 5), .ref (v 6), .ref (v 7), .ref (v 8), .ref (v 9), .int 0, .int 0, .int 0, .int 0, .int 0, .int 0, .int 0, .int 0, .int 0, .ref (v 10), .ref (v 11), .ref (v 12), .ref (v 13), .int 0, .ref (v 14), .ref (v 15), .ref (v 16), .ref (v 17), .ref (v 18), .int 0, .int 0, .int 0, .ref (v 19), .ref (v 20), .ref (v 21), .ref (v 22), .ref (v 23), .int 0, .int 0, .int 0, .int 0])), ((v 1), .inl (cy 0, 500, .inl (fun _ => 0))), (o, .inl (cy 6, 1, .inr (.inl (fun _ => 0))))] H) (hD : va_D (fun q => s.heap.size ≤ q) [((u 0), .inr (12, [.ref (u 1), .int 0, .int (-1), .ref (u 2), .ref (u 3), .ref (u 4), .ref (u 5), .ref (u 6), .ref (u 7), .ref (u 8), .int 0, .ref (u 9), .ref (u 10), .ref (u 11), .ref (u 12), .ref (u 13), .ref (u 14)])), ((u 1), .inl (cy 1, 500, .inl (fun _ => 0))), ((v 0), .inr (13, [.int 0, .int 0, .int 0, .int (-1), .int 0, .int 0, .int 0, .int 0, .ref (v 1), .ref (v 2), .ref (v 3), .ref (v 4), .ref (v 5), .ref (v 6), .ref (v 7), .ref (v 8), .ref (v 9), .int 0, .int 0, .int 0, .int 0, .int 0, .int 0, .int 0, .int 0, .int 0, .ref (v 10), .ref (v 11), .ref (v 12), .ref (v 13), .int 0, .ref (v 14), .ref (v 15), .ref (v 16), .ref (v 17), .ref (v 18), .int 0, .int 0, .int 0, .ref (v 19), .ref (v 20), .ref (v 21), .ref (v 22), .ref (v 23), .int 0, .int 0, .int 0, .int 0])), ((v 1), .inl (cy 0, 500, .inl (fun _ => 0))), (o, .inl (cy 6, 1, .inr (.inl (fun _ => 0))))]) (hS : va_S (fun q => s.heap.size ≤ q) s.heap H locs) (ls : Array Slot) (hl : lv_has ls 7 [(0, .ref b), (1, .ref (u 0)), (2, .ref (v 0)), (3, .ref o), (4, .int 0)]) : W p l e room_1 s m #[Value.ref b] below meth c H locs 179 322202 (lw_Z below #[Value.ref b] s) (F0 m 212 ls []) := by
  obtain ⟨A, hAe⟩ : ∃ A : Nat → Prop, A = fun q => s.heap.size ≤ q := ⟨_, rfl⟩
  rw [← hAe] at hG hD hS
  have hA : ∀ q, s.heap.size ≤ q → A q := fun q h => by rw [hAe]; exact h
  have hAs : ∀ q, A q → s.heap.size ≤ q := fun q h => by rw [hAe] at h; exact h
  have hbA : ¬ A b := by rw [hAe]; exact Nat.not_le.mpr hbl
  obtain ⟨hx, hb, hml, hown, hts, hr, hlk, hnm⟩ := id E
  have hown : s.vm.findClass RL = some m.cls := hown
  refine lv_aload_n hx hb dL_law_212 rfl (lv_at hl 1 rfl) ?_
  refine lv_aload_n hx hb dL_law_213 rfl (lv_at hl 0 rfl) ?_
  refine lv_iload hx hb dL_law_214 (lv_at hl 4 rfl) ?_
  refine lv_iconst (v := 1) hx hb dL_law_216 (by decide) ?_
  refine lv_iadd hx hb dL_law_217 ?_
  refine lv_topi (fun x1 ex1 => ?_)
  obtain rfl : x1 = 1 := ex1.trans (by decide)
  refine va_sld hx hb hX hbl hbA hS (by unfold vp_in; decide) dL_law_218 ?_
  refine lv_topi (fun x2 ex2 => ?_)
  obtain rfl : x2 = xs 1 := ex2.trans rfl
  refine lv_aload_n hx hb dL_law_219 rfl (lv_at hl 0 rfl) ?_
  refine lv_iload hx hb dL_law_220 (lv_at hl 4 rfl) ?_
  refine lv_iconst (v := 2) hx hb dL_law_222 (by decide) ?_
  refine lv_iadd hx hb dL_law_223 ?_
  refine lv_topi (fun x3 ex3 => ?_)
  obtain rfl : x3 = 2 := ex3.trans (by decide)
  refine va_sld hx hb hX hbl hbA hS (by unfold vp_in; decide) dL_law_224 ?_
  refine lv_topi (fun x4 ex4 => ?_)
  obtain rfl : x4 = xs 2 := ex4.trans rfl
  refine lv_aload_n hx hb dL_law_225 rfl (lv_at hl 0 rfl) ?_
  refine lv_iload hx hb dL_law_226 (lv_at hl 4 rfl) ?_
  refine lv_iconst (v := 3) hx hb dL_law_228 (by decide) ?_
  refine lv_iadd hx hb dL_law_229 ?_
  refine lv_topi (fun x5 ex5 => ?_)
  obtain rfl : x5 = 3 := ex5.trans (by decide)
  refine va_sld hx hb hX hbl hbA hS (by unfold vp_in; decide) dL_law_230 ?_
  refine lv_topi (fun x6 ex6 => ?_)
  obtain rfl : x6 = xs 3 := ex6.trans rfl
  refine lv_aload_n hx hb dL_law_231 rfl (lv_at hl 0 rfl) ?_
  refine lv_iload hx hb dL_law_232 (lv_at hl 4 rfl) ?_
  refine lv_iconst (v := 4) hx hb dL_law_234 (by decide) ?_
  refine lv_iadd hx hb dL_law_235 ?_
  refine lv_topi (fun x7 ex7 => ?_)
  obtain rfl : x7 = 4 := ex7.trans (by decide)
  refine va_sld hx hb hX hbl hbA hS (by unfold vp_in; decide) dL_law_236 ?_
  refine lv_topi (fun x8 ex8 => ?_)
  obtain rfl : x8 = xs 4 := ex8.trans rfl
  refine lv_aload_n hx hb dL_law_237 rfl (lv_at hl 0 rfl) ?_
  refine lv_iload hx hb dL_law_238 (lv_at hl 4 rfl) ?_
  refine lv_iconst (v := 5) hx hb dL_law_240 (by decide) ?_
  refine lv_iadd hx hb dL_law_241 ?_
  refine lv_topi (fun x9 ex9 => ?_)
  obtain rfl : x9 = 5 := ex9.trans (by decide)
  refine va_sld hx hb hX hbl hbA hS (by unfold vp_in; decide) dL_law_242 ?_
  refine lv_topi (fun x10 ex10 => ?_)
  obtain rfl : x10 = xs 5 := ex10.trans rfl
  refine k_cali [2, 3, 4] (⟨hP, hD, hG, hS, hA, rfl, rfl⟩ : kAt D cy sa A s H _ _ [((u 0), .inr (12, [.ref (u 1), .int 0, .int (-1), .ref (u 2), .ref (u 3), .ref (u 4), .ref (u 5), .ref (u 6), .ref (u 7), .ref (u 8), .int 0, .ref (u 9), .ref (u 10), .ref (u 11), .ref (u 12), .ref (u 13), .ref (u 14)])), ((u 1), .inl (cy 1, 500, .inl (fun _ => 0)))] [0, 1]) (wr := [((v 0), .inr (13, [.int 0, .int 0, .int 0, .int (-1), .int 0, .int 0, .int 0, .int 0, .ref (v 1), .ref (v 2), .ref (v 3), .ref (v 4), .ref (v 5), .ref (v 6), .ref (v 7), .ref (v 8), .ref (v 9), .int 0, .int 0, .int 0, .int 0, .int 0, .int 0, .int 0, .int 0, .int 0, .ref (v 10), .ref (v 11), .ref (v 12), .ref (v 13), .int 0, .ref (v 14), .ref (v 15), .ref (v 16), .ref (v 17), .ref (v 18), .int 0, .int 0, .int 0, .ref (v 19), .ref (v 20), .ref (v 21), .ref (v 22), .ref (v 23), .int 0, .int 0, .int 0, .int 0])), ((v 1), .inl (cy 0, 500, .inl (fun _ => 0))), (o, .inl (cy 6, 1, .inr (.inl (fun _ => 0))))]) rfl rfl (by decide) (k_runV 12 0 (As := [.int (xs 1), .int (xs 2), .int (xs 3), .int (xs 4), .int (xs 5)]) (rest := []) E lk_VRL_116 rfl rfl rfl (c_LM_feed l hl0 D cy sa u (xs 1) (xs 2) (xs 3) (xs 4) (xs 5) H.size) (⟨hP, hD, hG, hS, hA, rfl, rfl⟩ : kAt D cy sa A s H _ _ [((u 0), .inr (12, [.ref (u 1), .int 0, .int (-1), .ref (u 2), .ref (u 3), .ref (u 4), .ref (u 5), .ref (u 6), .ref (u 7), .ref (u 8), .int 0, .ref (u 9), .ref (u 10), .ref (u 11), .ref (u 12), .ref (u 13), .ref (u 14)])), ((u 1), .inl (cy 1, 500, .inl (fun _ => 0)))] [0, 1]) hl.1 rfl rfl ⟨rfl, rfl, ⟨Nat.le_of_ble_eq_true rfl, Nat.le_of_ble_eq_true rfl⟩, ⟨Nat.le_of_ble_eq_true rfl, Nat.le_of_ble_eq_true rfl⟩, Nat.le_of_ble_eq_true rfl⟩ dL_law_243) (fun r11 u12 H locs hwu12 hP hD hS => ?_)
  have hP : va_P D vwCl [((v 0), .inr (13, [.int 0, .int 0, .int 0, .int (-1), .int 0, .int 0, .int 0, .int 0, .ref (v 1), .ref (v 2), .ref (v 3), .ref (v 4), .ref (v 5), .ref (v 6), .ref (v 7), .ref (v 8), .ref (v 9), .int 0, .int 0, .int 0, .int 0, .int 0, .int 0, .int 0, .int 0, .int 0, .ref (v 10), .ref (v 11), .ref (v 12), .ref (v 13), .int 0, .ref (v 14), .ref (v 15), .ref (v 16), .ref (v 17), .ref (v 18), .int 0, .int 0, .int 0, .ref (v 19), .ref (v 20), .ref (v 21), .ref (v 22), .ref (v 23), .int 0, .int 0, .int 0, .int 0])), ((v 1), .inl (cy 0, 500, .inl (fun _ => 0))), (o, .inl (cy 6, 1, .inr (.inl (fun _ => 0))))] H := hP
  have hD : va_D A [((v 0), .inr (13, [.int 0, .int 0, .int 0, .int (-1), .int 0, .int 0, .int 0, .int 0, .ref (v 1), .ref (v 2), .ref (v 3), .ref (v 4), .ref (v 5), .ref (v 6), .ref (v 7), .ref (v 8), .ref (v 9), .int 0, .int 0, .int 0, .int 0, .int 0, .int 0, .int 0, .int 0, .int 0, .ref (v 10), .ref (v 11), .ref (v 12), .ref (v 13), .int 0, .ref (v 14), .ref (v 15), .ref (v 16), .ref (v 17), .ref (v 18), .int 0, .int 0, .int 0, .ref (v 19), .ref (v 20), .ref (v 21), .ref (v 22), .ref (v 23), .int 0, .int 0, .int 0, .int 0])), ((v 1), .inl (cy 0, 500, .inl (fun _ => 0))), (o, .inl (cy 6, 1, .inr (.inl (fun _ => 0))))] := hD
  refine lv_aload_n hx hb dL_law_246 rfl (lv_at hl 2 rfl) ?_
  refine lv_aload_n hx hb dL_law_247 rfl (lv_at hl 0 rfl) ?_
  refine lv_iload hx hb dL_law_248 (lv_at hl 4 rfl) ?_
  refine lv_iconst (v := 1) hx hb dL_law_250 (by decide) ?_
  refine lv_iadd hx hb dL_law_251 ?_
  refine lv_topi (fun x13 ex13 => ?_)
  obtain rfl : x13 = 1 := ex13.trans (by decide)
  refine va_sld hx hb hX hbl hbA hS (by unfold vp_in; decide) dL_law_252 ?_
  refine lv_topi (fun x14 ex14 => ?_)
  obtain rfl : x14 = xs 1 := ex14.trans rfl
  refine lv_aload_n hx hb dL_law_253 rfl (lv_at hl 0 rfl) ?_
  refine lv_iload hx hb dL_law_254 (lv_at hl 4 rfl) ?_
  refine lv_iconst (v := 2) hx hb dL_law_256 (by decide) ?_
  refine lv_iadd hx hb dL_law_257 ?_
  refine lv_topi (fun x15 ex15 => ?_)
  obtain rfl : x15 = 2 := ex15.trans (by decide)
  refine va_sld hx hb hX hbl hbA hS (by unfold vp_in; decide) dL_law_258 ?_
  refine lv_topi (fun x16 ex16 => ?_)
  obtain rfl : x16 = xs 2 := ex16.trans rfl
  refine lv_aload_n hx hb dL_law_259 rfl (lv_at hl 0 rfl) ?_
  refine lv_iload hx hb dL_law_260 (lv_at hl 4 rfl) ?_
  refine lv_iconst (v := 3) hx hb dL_law_262 (by decide) ?_
  refine lv_iadd hx hb dL_law_263 ?_
  refine lv_topi (fun x17 ex17 => ?_)
  obtain rfl : x17 = 3 := ex17.trans (by decide)
  refine va_sld hx hb hX hbl hbA hS (by unfold vp_in; decide) dL_law_264 ?_
  refine lv_topi (fun x18 ex18 => ?_)
  obtain rfl : x18 = xs 3 := ex18.trans rfl
  refine lv_aload_n hx hb dL_law_265 rfl (lv_at hl 0 rfl) ?_
  refine lv_iload hx hb dL_law_266 (lv_at hl 4 rfl) ?_
  refine lv_iconst (v := 4) hx hb dL_law_268 (by decide) ?_
  refine lv_iadd hx hb dL_law_269 ?_
  refine lv_topi (fun x19 ex19 => ?_)
  obtain rfl : x19 = 4 := ex19.trans (by decide)
  refine va_sld hx hb hX hbl hbA hS (by unfold vp_in; decide) dL_law_270 ?_
  refine lv_topi (fun x20 ex20 => ?_)
  obtain rfl : x20 = xs 4 := ex20.trans rfl
  refine lv_aload_n hx hb dL_law_271 rfl (lv_at hl 0 rfl) ?_
  refine lv_iload hx hb dL_law_272 (lv_at hl 4 rfl) ?_
  refine lv_iconst (v := 5) hx hb dL_law_274 (by decide) ?_
  refine lv_iadd hx hb dL_law_275 ?_
  refine lv_topi (fun x21 ex21 => ?_)
  obtain rfl : x21 = 5 := ex21.trans (by decide)
  refine va_sld hx hb hX hbl hbA hS (by unfold vp_in; decide) dL_law_276 ?_
  refine lv_topi (fun x22 ex22 => ?_)
  obtain rfl : x22 = xs 5 := ex22.trans rfl
  refine k_cali [2] (⟨hP, hD, hG, hS, hA, rfl, rfl⟩ : kAt D cy sa A s H _ _ [((v 0), .inr (13, [.int 0, .int 0, .int 0, .int (-1), .int 0, .int 0, .int 0, .int 0, .ref (v 1), .ref (v 2), .ref (v 3), .ref (v 4), .ref (v 5), .ref (v 6), .ref (v 7), .ref (v 8), .ref (v 9), .int 0, .int 0, .int 0, .int 0, .int 0, .int 0, .int 0, .int 0, .int 0, .ref (v 10), .ref (v 11), .ref (v 12), .ref (v 13), .int 0, .ref (v 14), .ref (v 15), .ref (v 16), .ref (v 17), .ref (v 18), .int 0, .int 0, .int 0, .ref (v 19), .ref (v 20), .ref (v 21), .ref (v 22), .ref (v 23), .int 0, .int 0, .int 0, .int 0])), ((v 1), .inl (cy 0, 500, .inl (fun _ => 0)))] [0, 1]) (wr := [(o, .inl (cy 6, 1, .inr (.inl (fun _ => 0))))]) rfl rfl (by decide) (k_runV 13 0 (As := [.int (xs 1), .int (xs 2), .int (xs 3), .int (xs 4), .int (xs 5)]) (rest := [.int r11]) E lk_VRL_120 rfl rfl rfl (m_feed_ l hl0 D cy sa v (xs 1) (xs 2) (xs 3) (xs 4) (xs 5) H.size) (⟨hP, hD, hG, hS, hA, rfl, rfl⟩ : kAt D cy sa A s H _ _ [((v 0), .inr (13, [.int 0, .int 0, .int 0, .int (-1), .int 0, .int 0, .int 0, .int 0, .ref (v 1), .ref (v 2), .ref (v 3), .ref (v 4), .ref (v 5), .ref (v 6), .ref (v 7), .ref (v 8), .ref (v 9), .int 0, .int 0, .int 0, .int 0, .int 0, .int 0, .int 0, .int 0, .int 0, .ref (v 10), .ref (v 11), .ref (v 12), .ref (v 13), .int 0, .ref (v 14), .ref (v 15), .ref (v 16), .ref (v 17), .ref (v 18), .int 0, .int 0, .int 0, .ref (v 19), .ref (v 20), .ref (v 21), .ref (v 22), .ref (v 23), .int 0, .int 0, .int 0, .int 0])), ((v 1), .inl (cy 0, 500, .inl (fun _ => 0)))] [0, 1]) hl.1 rfl rfl ⟨rfl, rfl, ⟨Nat.le_of_ble_eq_true rfl, Nat.le_of_ble_eq_true rfl⟩, ⟨Nat.le_of_ble_eq_true rfl, Nat.le_of_ble_eq_true rfl⟩, Nat.le_of_ble_eq_true rfl⟩ dL_law_277) (fun r23 u24 H locs hwu24 hP hD hS => ?_)
  have hP : va_P D vwCl [(o, .inl (cy 6, 1, .inr (.inl (fun _ => 0)))), ((v 0), .inr (13, .int u24.1 :: u24.2))] H := hP
  have hD : va_D A [(o, .inl (cy 6, 1, .inr (.inl (fun _ => 0)))), ((v 0), .inr (13, .int u24.1 :: u24.2))] := hD
  have heq : r11 = r23 := hwu12.trans (hwu24.1 trivial).2.symm
  refine lv_icmp_eq (tgt := 2418) hx hb dL_law_280 (by decide) (fun _ => ?_) (fun h => absurd heq h)
  refine lv_iinc (v := 6) (lv' := [(4, .int 6), (0, .ref b), (1, .ref (u 0)), (2, .ref (v 0)), (3, .ref o)]) hx hb dL_law_2418 hl (k := 4) rfl (by decide) (by decide) rfl (fun ls hl => ?_)
  refine lv_goto (tgt := 23) hx hb dL_law_2421 (by decide) ?_
  exact law_exit E hX hbl hbA hAs hS (i := 6) (by decide) (lv_at hl 1 rfl) (lv_at hl 0 rfl) (by decide) (by decide)

set_option maxHeartbeats 4000000 in
set_option maxRecDepth 100000 in
/-- the law: house -/
theorem law_case_1 {p : Program} {l : Launch} {e : Env} {s : State} {m : MethodId} {below : List Frame} {meth : Method} {c : Code} {D : va_G} {cy : Nat → ClassId} {sa : Nat → Nat} {b : Nat} {xs : Nat → Int32} (hl0 : l.stackTraces = false) (E : kE yL_law cL_law 7 (some .boolean) #[Value.ref b] p s m meth c) (hX : va_X b 6 xs s s.heap) (hbl : b < s.heap.size) (hG : kG D cy sa (fun q => s.heap.size ≤ q) s) (u v : Nat → Nat) (o : Nat) (H : Heap) (locs : List Loc) (hP : va_P D vwCl [((u 0), .inr (12, [.ref (u 1), .int 0, .int (-1), .ref (u 2), .ref (u 3), .ref (u 4), .ref (u 5), .ref (u 6), .ref (u 7), .ref (u 8), .int 0, .ref (u 9), .ref (u 10), .ref (u 11), .ref (u 12), .ref (u 13), .ref (u 14)])), ((u 2), .inr (9, [.ref (u 93), .ref (u 94), .int 0, .int 0, .int 0, .int (-1)])), ((u 1), .inl (cy 1, 500, .inl (fun _ => 0))), ((u 4), .inr (4, [.ref (u 27), .ref (u 28), .ref (u 29), .ref (u 30), .ref (u 31), .ref (u 32), .ref (u 33), .ref (u 34), .ref (u 35), .ref (u 36), .ref (u 37), .ref (u 38), .int 0, .int 0, .int 0, .int 0, .int 0])), ((v 0), .inr (13, [.int 0, .int 0, .int 0, .int (-1), .int 0, .int 0, .int 0, .int 0, .ref (v 1), .ref (v 2), .ref (v 3), .ref (v 4), .ref (v 5), .ref (v 6), .ref (v 7), .ref (v 8), .ref (v 9), .int 0, .int 0, .int 0, .int 0, .int 0, .int 0, .int 0, .int 0, .int 0, .ref (v 10), .ref (v 11), .ref (v 12), .ref (v 13), .int 0, .ref (v 14), .ref (v 15), .ref (v 16), .ref (v 17), .ref (v 18), .int 0, .int 0, .int 0, .ref (v 19), .ref (v 20), .ref (v 21), .ref (v 22), .ref (v 23), .int 0, .int 0, .int 0, .int 0])), ((v 4), .inl (cy 0, 5, .inl (fun _ => 0))), (o, .inl (cy 6, 1, .inr (.inl (fun _ => 0))))] H) (hD : va_D (fun q => s.heap.size ≤ q) [((u 0), .inr (12, [.ref (u 1), .int 0, .int (-1), .ref (u 2), .ref (u 3), .ref (u 4), .ref (u 5), .ref (u 6), .ref (u 7), .ref (u 8), .int 0, .ref (u 9), .ref (u 10), .ref (u 11), .ref (u 12), .ref (u 13), .ref (u 14)])), ((u 2), .inr (9, [.ref (u 93), .ref (u 94), .int 0, .int 0, .int 0, .int (-1)])), ((u 1), .inl (cy 1, 500, .inl (fun _ => 0))), ((u 4), .inr (4, [.ref (u 27), .ref (u 28), .ref (u 29), .ref (u 30), .ref (u 31), .ref (u 32), .ref (u 33), .ref (u 34), .ref (u 35), .ref (u 36), .ref (u 37), .ref (u 38), .int 0, .int 0, .int 0, .int 0, .int 0])), ((v 0), .inr (13, [.int 0, .int 0, .int 0, .int (-1), .int 0, .int 0, .int 0, .int 0, .ref (v 1), .ref (v 2), .ref (v 3), .ref (v 4), .ref (v 5), .ref (v 6), .ref (v 7), .ref (v 8), .ref (v 9), .int 0, .int 0, .int 0, .int 0, .int 0, .int 0, .int 0, .int 0, .int 0, .ref (v 10), .ref (v 11), .ref (v 12), .ref (v 13), .int 0, .ref (v 14), .ref (v 15), .ref (v 16), .ref (v 17), .ref (v 18), .int 0, .int 0, .int 0, .ref (v 19), .ref (v 20), .ref (v 21), .ref (v 22), .ref (v 23), .int 0, .int 0, .int 0, .int 0])), ((v 4), .inl (cy 0, 5, .inl (fun _ => 0))), (o, .inl (cy 6, 1, .inr (.inl (fun _ => 0))))]) (hS : va_S (fun q => s.heap.size ≤ q) s.heap H locs) (ls : Array Slot) (hl : lv_has ls 7 [(0, .ref b), (1, .ref (u 0)), (2, .ref (v 0)), (3, .ref o), (4, .int 0)]) : W p l e room_1 s m #[Value.ref b] below meth c H locs 179 322202 (lw_Z below #[Value.ref b] s) (F0 m 285 ls []) := by
  obtain ⟨A, hAe⟩ : ∃ A : Nat → Prop, A = fun q => s.heap.size ≤ q := ⟨_, rfl⟩
  rw [← hAe] at hG hD hS
  have hA : ∀ q, s.heap.size ≤ q → A q := fun q h => by rw [hAe]; exact h
  have hAs : ∀ q, A q → s.heap.size ≤ q := fun q h => by rw [hAe] at h; exact h
  have hbA : ¬ A b := by rw [hAe]; exact Nat.not_le.mpr hbl
  obtain ⟨hx, hb, hml, hown, hts, hr, hlk, hnm⟩ := id E
  have hown : s.vm.findClass RL = some m.cls := hown
  refine lv_aload_n hx hb dL_law_285 rfl (lv_at hl 1 rfl) ?_
  refine lv_aload_n hx hb dL_law_286 rfl (lv_at hl 0 rfl) ?_
  refine lv_iload hx hb dL_law_287 (lv_at hl 4 rfl) ?_
  refine lv_iconst (v := 1) hx hb dL_law_289 (by decide) ?_
  refine lv_iadd hx hb dL_law_290 ?_
  refine lv_topi (fun x1 ex1 => ?_)
  obtain rfl : x1 = 1 := ex1.trans (by decide)
  refine va_sld hx hb hX hbl hbA hS (by unfold vp_in; decide) dL_law_291 ?_
  refine lv_topi (fun x2 ex2 => ?_)
  obtain rfl : x2 = xs 1 := ex2.trans rfl
  refine lv_aload_n hx hb dL_law_292 rfl (lv_at hl 3 rfl) ?_
  refine x_cali [4, 5] (⟨hP, hD, hG, hS, hA, rfl, rfl⟩ : kAt D cy sa A s H _ _ [((u 0), .inr (12, [.ref (u 1), .int 0, .int (-1), .ref (u 2), .ref (u 3), .ref (u 4), .ref (u 5), .ref (u 6), .ref (u 7), .ref (u 8), .int 0, .ref (u 9), .ref (u 10), .ref (u 11), .ref (u 12), .ref (u 13), .ref (u 14)])), ((u 2), .inr (9, [.ref (u 93), .ref (u 94), .int 0, .int 0, .int 0, .int (-1)])), ((u 1), .inl (cy 1, 500, .inl (fun _ => 0))), ((u 4), .inr (4, [.ref (u 27), .ref (u 28), .ref (u 29), .ref (u 30), .ref (u 31), .ref (u 32), .ref (u 33), .ref (u 34), .ref (u 35), .ref (u 36), .ref (u 37), .ref (u 38), .int 0, .int 0, .int 0, .int 0, .int 0])), (o, .inl (cy 6, 1, .inr (.inl (fun _ => 0))))] [0, 1, 2, 3, 6]) (wr := [((v 0), .inr (13, [.int 0, .int 0, .int 0, .int (-1), .int 0, .int 0, .int 0, .int 0, .ref (v 1), .ref (v 2), .ref (v 3), .ref (v 4), .ref (v 5), .ref (v 6), .ref (v 7), .ref (v 8), .ref (v 9), .int 0, .int 0, .int 0, .int 0, .int 0, .int 0, .int 0, .int 0, .int 0, .ref (v 10), .ref (v 11), .ref (v 12), .ref (v 13), .int 0, .ref (v 14), .ref (v 15), .ref (v 16), .ref (v 17), .ref (v 18), .int 0, .int 0, .int 0, .ref (v 19), .ref (v 20), .ref (v 21), .ref (v 22), .ref (v 23), .int 0, .int 0, .int 0, .int 0])), ((v 4), .inl (cy 0, 5, .inl (fun _ => 0)))]) rfl rfl (by decide) (x_runW (As := [.ref (u 0), .int (xs 1), .ref o]) (rest := []) E lk_SRL_121 (w_house l hl0 D cy sa u o (xs 1) H.size) (⟨hP, hD, hG, hS, hA, rfl, rfl⟩ : kAt D cy sa A s H _ _ [((u 0), .inr (12, [.ref (u 1), .int 0, .int (-1), .ref (u 2), .ref (u 3), .ref (u 4), .ref (u 5), .ref (u 6), .ref (u 7), .ref (u 8), .int 0, .ref (u 9), .ref (u 10), .ref (u 11), .ref (u 12), .ref (u 13), .ref (u 14)])), ((u 2), .inr (9, [.ref (u 93), .ref (u 94), .int 0, .int 0, .int 0, .int (-1)])), ((u 1), .inl (cy 1, 500, .inl (fun _ => 0))), ((u 4), .inr (4, [.ref (u 27), .ref (u 28), .ref (u 29), .ref (u 30), .ref (u 31), .ref (u 32), .ref (u 33), .ref (u 34), .ref (u 35), .ref (u 36), .ref (u 37), .ref (u 38), .int 0, .int 0, .int 0, .int 0, .int 0])), (o, .inl (cy 6, 1, .inr (.inl (fun _ => 0))))] [0, 1, 2, 3, 6]) hl.1 rfl rfl ⟨rfl, rfl, ⟨Nat.le_of_ble_eq_true rfl, Nat.le_of_ble_eq_true rfl⟩, ⟨Nat.le_of_ble_eq_true rfl, Nat.le_of_ble_eq_true rfl⟩, Nat.le_of_ble_eq_true rfl⟩ dL_law_293) (fun ce q9 u4 H locs hwu4 hP hD hS h1 h2 h3 => ?_) (fun r3 u4 H locs hwu4 hP hD hS => ?_)
  · have hP : va_P D vwCl [((v 0), .inr (13, [.int 0, .int 0, .int 0, .int (-1), .int 0, .int 0, .int 0, .int 0, .ref (v 1), .ref (v 2), .ref (v 3), .ref (v 4), .ref (v 5), .ref (v 6), .ref (v 7), .ref (v 8), .ref (v 9), .int 0, .int 0, .int 0, .int 0, .int 0, .int 0, .int 0, .int 0, .int 0, .ref (v 10), .ref (v 11), .ref (v 12), .ref (v 13), .int 0, .ref (v 14), .ref (v 15), .ref (v 16), .ref (v 17), .ref (v 18), .int 0, .int 0, .int 0, .ref (v 19), .ref (v 20), .ref (v 21), .ref (v 22), .ref (v 23), .int 0, .int 0, .int 0, .int 0])), ((v 4), .inl (cy 0, 5, .inl (fun _ => 0)))] H := hP
    have hD : va_D A [((v 0), .inr (13, [.int 0, .int 0, .int 0, .int (-1), .int 0, .int 0, .int 0, .int 0, .ref (v 1), .ref (v 2), .ref (v 3), .ref (v 4), .ref (v 5), .ref (v 6), .ref (v 7), .ref (v 8), .ref (v 9), .int 0, .int 0, .int 0, .int 0, .int 0, .int 0, .int 0, .int 0, .int 0, .ref (v 10), .ref (v 11), .ref (v 12), .ref (v 13), .int 0, .ref (v 14), .ref (v 15), .ref (v 16), .ref (v 17), .ref (v 18), .int 0, .int 0, .int 0, .ref (v 19), .ref (v 20), .ref (v 21), .ref (v 22), .ref (v 23), .int 0, .int 0, .int 0, .int 0])), ((v 4), .inl (cy 0, 5, .inl (fun _ => 0)))] := hD
    exact (hwu4).elim
  · have hP : va_P D vwCl [((v 0), .inr (13, [.int 0, .int 0, .int 0, .int (-1), .int 0, .int 0, .int 0, .int 0, .ref (v 1), .ref (v 2), .ref (v 3), .ref (v 4), .ref (v 5), .ref (v 6), .ref (v 7), .ref (v 8), .ref (v 9), .int 0, .int 0, .int 0, .int 0, .int 0, .int 0, .int 0, .int 0, .int 0, .ref (v 10), .ref (v 11), .ref (v 12), .ref (v 13), .int 0, .ref (v 14), .ref (v 15), .ref (v 16), .ref (v 17), .ref (v 18), .int 0, .int 0, .int 0, .ref (v 19), .ref (v 20), .ref (v 21), .ref (v 22), .ref (v 23), .int 0, .int 0, .int 0, .int 0])), ((v 4), .inl (cy 0, 5, .inl (fun _ => 0))), (o, .inl (cy 6, 1, .inr (.inl u4)))] H := hP
    have hD : va_D A [((v 0), .inr (13, [.int 0, .int 0, .int 0, .int (-1), .int 0, .int 0, .int 0, .int 0, .ref (v 1), .ref (v 2), .ref (v 3), .ref (v 4), .ref (v 5), .ref (v 6), .ref (v 7), .ref (v 8), .ref (v 9), .int 0, .int 0, .int 0, .int 0, .int 0, .int 0, .int 0, .int 0, .int 0, .ref (v 10), .ref (v 11), .ref (v 12), .ref (v 13), .int 0, .ref (v 14), .ref (v 15), .ref (v 16), .ref (v 17), .ref (v 18), .int 0, .int 0, .int 0, .ref (v 19), .ref (v 20), .ref (v 21), .ref (v 22), .ref (v 23), .int 0, .int 0, .int 0, .int 0])), ((v 4), .inl (cy 0, 5, .inl (fun _ => 0))), (o, .inl (cy 6, 1, .inr (.inl u4)))] := hD
    refine lv_istore (lv' := [(5, .int r3), (0, .ref b), (1, .ref (u 0)), (2, .ref (v 0)), (3, .ref o), (4, .int 0)]) hx hb dL_law_296 hl (by decide) rfl (fun ls hl => ?_)
    refine lv_aload_n hx hb dL_law_298 rfl (lv_at hl 3 rfl) ?_
    refine lv_aload_n hx hb dL_law_299 rfl (lv_at hl 1 rfl) ?_
    refine lv_iload hx hb dL_law_300 (lv_at hl 5 rfl) ?_
    refine lv_iconst (v := 1) hx hb dL_law_302 (by decide) ?_
    refine lv_iadd hx hb dL_law_303 ?_
    refine lv_topi (fun x5 ex5 => ?_)
    obtain rfl : x5 = 1 := ex5.trans (by decide)
    refine va_sld hx hb hX hbl hbA hS (by unfold vp_in; decide) dL_law_304 ?_
    refine lv_topi (fun x6 ex6 => ?_)
    obtain rfl : x6 = xs 1 := ex6.trans rfl
    refine k_cali [2] (⟨hP, hD, hG, hS, hA, rfl, rfl⟩ : kAt D cy sa A s H _ _ [((v 0), .inr (13, [.int 0, .int 0, .int 0, .int (-1), .int 0, .int 0, .int 0, .int 0, .ref (v 1), .ref (v 2), .ref (v 3), .ref (v 4), .ref (v 5), .ref (v 6), .ref (v 7), .ref (v 8), .ref (v 9), .int 0, .int 0, .int 0, .int 0, .int 0, .int 0, .int 0, .int 0, .int 0, .ref (v 10), .ref (v 11), .ref (v 12), .ref (v 13), .int 0, .ref (v 14), .ref (v 15), .ref (v 16), .ref (v 17), .ref (v 18), .int 0, .int 0, .int 0, .ref (v 19), .ref (v 20), .ref (v 21), .ref (v 22), .ref (v 23), .int 0, .int 0, .int 0, .int 0])), ((v 4), .inl (cy 0, 5, .inl (fun _ => 0)))] [0, 1]) (wr := [(o, .inl (cy 6, 1, .inr (.inl u4)))]) rfl rfl (by decide) (k_runV 13 0 (As := [.int (xs 1)]) (rest := []) E lk_VRL_126 rfl rfl rfl (m_house_ l hl0 D cy sa v (xs 1) H.size) (⟨hP, hD, hG, hS, hA, rfl, rfl⟩ : kAt D cy sa A s H _ _ [((v 0), .inr (13, [.int 0, .int 0, .int 0, .int (-1), .int 0, .int 0, .int 0, .int 0, .ref (v 1), .ref (v 2), .ref (v 3), .ref (v 4), .ref (v 5), .ref (v 6), .ref (v 7), .ref (v 8), .ref (v 9), .int 0, .int 0, .int 0, .int 0, .int 0, .int 0, .int 0, .int 0, .int 0, .ref (v 10), .ref (v 11), .ref (v 12), .ref (v 13), .int 0, .ref (v 14), .ref (v 15), .ref (v 16), .ref (v 17), .ref (v 18), .int 0, .int 0, .int 0, .ref (v 19), .ref (v 20), .ref (v 21), .ref (v 22), .ref (v 23), .int 0, .int 0, .int 0, .int 0])), ((v 4), .inl (cy 0, 5, .inl (fun _ => 0)))] [0, 1]) hl.1 rfl rfl ⟨rfl, rfl, ⟨Nat.le_of_ble_eq_true rfl, Nat.le_of_ble_eq_true rfl⟩, ⟨Nat.le_of_ble_eq_true rfl, Nat.le_of_ble_eq_true rfl⟩, Nat.le_of_ble_eq_true rfl⟩ dL_law_305) (fun r7 u8 H locs hwu8 hP hD hS => ?_)
    have hP : va_P D vwCl [(o, .inl (cy 6, 1, .inr (.inl u4))), ((v 0), .inr (13, .int u8.1 :: u8.2))] H := hP
    have hD : va_D A [(o, .inl (cy 6, 1, .inr (.inl u4))), ((v 0), .inr (13, .int u8.1 :: u8.2))] := hD
    refine lv_istore (lv' := [(6, .int r7), (5, .int r3), (0, .ref b), (1, .ref (u 0)), (2, .ref (v 0)), (3, .ref o), (4, .int 0)]) hx hb dL_law_308 hl (by decide) rfl (fun ls hl => ?_)
    refine lv_aload_n hx hb dL_law_310 rfl (lv_at hl 4 rfl) ?_
    refine k_cali [0] (⟨hP, hD, hG, hS, hA, rfl, rfl⟩ : kAt D cy sa A s H _ _ [((v 0), .inr (13, .int u8.1 :: u8.2))] [1]) (wr := [(o, .inl (cy 6, 1, .inr (.inl u4)))]) rfl rfl (by decide) (k_runV 13 1 (As := []) (rest := []) E lk_VRL_127 rfl rfl rfl (m_thrown l hl0 D cy sa v u8.1 u8.2 H.size) (⟨hP, hD, hG, hS, hA, rfl, rfl⟩ : kAt D cy sa A s H _ _ [((v 0), .inr (13, .int u8.1 :: u8.2))] [1]) hl.1 rfl rfl ⟨rfl, rfl, ⟨Nat.le_of_ble_eq_true rfl, Nat.le_of_ble_eq_true rfl⟩, ⟨Nat.le_of_ble_eq_true rfl, Nat.le_of_ble_eq_true rfl⟩, Nat.le_of_ble_eq_true rfl⟩ dL_law_311) (fun r9 u10 H locs hwu10 hP hD hS => ?_)
    have hP : va_P D vwCl [(o, .inl (cy 6, 1, .inr (.inl u4)))] H := hP
    have hD : va_D A [(o, .inl (cy 6, 1, .inr (.inl u4)))] := hD
    rcases hwu4 with ⟨rfl, x9, hx9, hf9⟩ | ⟨rfl, hpx⟩
    · obtain ⟨ht9, hr9⟩ := hwu8.1 (hx9.1)
      obtain rfl : r9 = 0 := hwu10.trans ht9
      have heq : x9 = r7 := hx9.2.trans hr9.symm
      refine lv_iload hx hb dL_law_314 (lv_at hl 1 rfl) ?_
      refine lv_icmp_eq (tgt := 321) hx hb dL_law_316 (by decide) (fun _ => ?_) (fun h => absurd (by decide) h)
      refine lv_iload hx hb dL_law_321 (lv_at hl 1 rfl) ?_
      refine lv_if_ne (tgt := 338) hx hb dL_law_323 (by decide) (fun h => absurd (by decide) h) (fun _ => ?_)
      refine lv_aload_n hx hb dL_law_326 rfl (lv_at hl 5 rfl) ?_
      refine lv_iconst (v := 0) hx hb dL_law_327 (by decide) ?_
      refine va_lald hx hb hG.1 hP 0 6 rfl rfl (by unfold vp_in; decide) dL_law_328 ?_
      refine W.eq (g2 := F0 m 329 ls [.long (u4 0)]) rfl ?_
      refine lv_iload hx hb dL_law_329 (lv_at hl 0 rfl) ?_
      refine lv_i2l (v := (r7 : Int32).toInt64) hx hb dL_law_331 rfl ?_
      refine W.lcmp hx hb dL_law_332 ?_
      refine lv_topi (fun x11 ex11 => ?_)
      obtain rfl : x11 = 0 := ex11.trans (by rw [hf9, heq]; exact k_cmp _)
      refine lv_if_eq (tgt := 338) hx hb dL_law_333 (by decide) (fun _ => ?_) (fun h => absurd (by decide) h)
      refine lv_goto (tgt := 2418) hx hb dL_law_338 (by decide) ?_
      refine lv_iinc (v := 6) (lv' := [(4, .int 6), (6, .int r7), (5, .int 0), (0, .ref b), (1, .ref (u 0)), (2, .ref (v 0)), (3, .ref o)]) hx hb dL_law_2418 hl (k := 6) rfl (by decide) (by decide) rfl (fun ls hl => ?_)
      refine lv_goto (tgt := 23) hx hb dL_law_2421 (by decide) ?_
      exact law_exit E hX hbl hbA hAs hS (i := 6) (by decide) (lv_at hl 3 rfl) (lv_at hl 0 rfl) (by decide) (by decide)
    · obtain rfl : r9 = 1 := hwu10.trans (hwu8.2 (fun h => absurd h hpx))
      refine lv_iload hx hb dL_law_314 (lv_at hl 1 rfl) ?_
      refine lv_icmp_eq (tgt := 321) hx hb dL_law_316 (by decide) (fun _ => ?_) (fun h => absurd (by decide) h)
      refine lv_iload hx hb dL_law_321 (lv_at hl 1 rfl) ?_
      refine lv_if_ne (tgt := 338) hx hb dL_law_323 (by decide) (fun _ => ?_) (fun h => absurd h (by decide))
      refine lv_goto (tgt := 2418) hx hb dL_law_338 (by decide) ?_
      refine lv_iinc (v := 6) (lv' := [(4, .int 6), (6, .int r7), (5, .int 1), (0, .ref b), (1, .ref (u 0)), (2, .ref (v 0)), (3, .ref o)]) hx hb dL_law_2418 hl (k := 6) rfl (by decide) (by decide) rfl (fun ls hl => ?_)
      refine lv_goto (tgt := 23) hx hb dL_law_2421 (by decide) ?_
      exact law_exit E hX hbl hbA hAs hS (i := 6) (by decide) (lv_at hl 3 rfl) (lv_at hl 0 rfl) (by decide) (by decide)

set_option maxHeartbeats 4000000 in
set_option maxRecDepth 100000 in
/-- the law: fault -/
theorem law_case_2 {p : Program} {l : Launch} {e : Env} {s : State} {m : MethodId} {below : List Frame} {meth : Method} {c : Code} {D : va_G} {cy : Nat → ClassId} {sa : Nat → Nat} {b : Nat} {xs : Nat → Int32} (hl0 : l.stackTraces = false) (E : kE yL_law cL_law 7 (some .boolean) #[Value.ref b] p s m meth c) (hX : va_X b 6 xs s s.heap) (hbl : b < s.heap.size) (hG : kG D cy sa (fun q => s.heap.size ≤ q) s) (u v : Nat → Nat) (o : Nat) (H : Heap) (locs : List Loc) (hP : va_P D vwCl [((u 0), .inr (12, [.ref (u 1), .int 0, .int (-1), .ref (u 2), .ref (u 3), .ref (u 4), .ref (u 5), .ref (u 6), .ref (u 7), .ref (u 8), .int 0, .ref (u 9), .ref (u 10), .ref (u 11), .ref (u 12), .ref (u 13), .ref (u 14)])), ((v 0), .inr (13, [.int 0, .int 0, .int 0, .int (-1), .int 0, .int 0, .int 0, .int 0, .ref (v 1), .ref (v 2), .ref (v 3), .ref (v 4), .ref (v 5), .ref (v 6), .ref (v 7), .ref (v 8), .ref (v 9), .int 0, .int 0, .int 0, .int 0, .int 0, .int 0, .int 0, .int 0, .int 0, .ref (v 10), .ref (v 11), .ref (v 12), .ref (v 13), .int 0, .ref (v 14), .ref (v 15), .ref (v 16), .ref (v 17), .ref (v 18), .int 0, .int 0, .int 0, .ref (v 19), .ref (v 20), .ref (v 21), .ref (v 22), .ref (v 23), .int 0, .int 0, .int 0, .int 0])), (o, .inl (cy 6, 1, .inr (.inl (fun _ => 0))))] H) (hD : va_D (fun q => s.heap.size ≤ q) [((u 0), .inr (12, [.ref (u 1), .int 0, .int (-1), .ref (u 2), .ref (u 3), .ref (u 4), .ref (u 5), .ref (u 6), .ref (u 7), .ref (u 8), .int 0, .ref (u 9), .ref (u 10), .ref (u 11), .ref (u 12), .ref (u 13), .ref (u 14)])), ((v 0), .inr (13, [.int 0, .int 0, .int 0, .int (-1), .int 0, .int 0, .int 0, .int 0, .ref (v 1), .ref (v 2), .ref (v 3), .ref (v 4), .ref (v 5), .ref (v 6), .ref (v 7), .ref (v 8), .ref (v 9), .int 0, .int 0, .int 0, .int 0, .int 0, .int 0, .int 0, .int 0, .int 0, .ref (v 10), .ref (v 11), .ref (v 12), .ref (v 13), .int 0, .ref (v 14), .ref (v 15), .ref (v 16), .ref (v 17), .ref (v 18), .int 0, .int 0, .int 0, .ref (v 19), .ref (v 20), .ref (v 21), .ref (v 22), .ref (v 23), .int 0, .int 0, .int 0, .int 0])), (o, .inl (cy 6, 1, .inr (.inl (fun _ => 0))))]) (hS : va_S (fun q => s.heap.size ≤ q) s.heap H locs) (ls : Array Slot) (hl : lv_has ls 7 [(0, .ref b), (1, .ref (u 0)), (2, .ref (v 0)), (3, .ref o), (4, .int 0)]) : W p l e room_1 s m #[Value.ref b] below meth c H locs 179 322202 (lw_Z below #[Value.ref b] s) (F0 m 341 ls []) := by
  obtain ⟨A, hAe⟩ : ∃ A : Nat → Prop, A = fun q => s.heap.size ≤ q := ⟨_, rfl⟩
  rw [← hAe] at hG hD hS
  have hA : ∀ q, s.heap.size ≤ q → A q := fun q h => by rw [hAe]; exact h
  have hAs : ∀ q, A q → s.heap.size ≤ q := fun q h => by rw [hAe] at h; exact h
  have hbA : ¬ A b := by rw [hAe]; exact Nat.not_le.mpr hbl
  obtain ⟨hx, hb, hml, hown, hts, hr, hlk, hnm⟩ := id E
  have hown : s.vm.findClass RL = some m.cls := hown
  refine lv_aload_n hx hb dL_law_341 rfl (lv_at hl 1 rfl) ?_
  refine k_cali [1, 2] (⟨hP, hD, hG, hS, hA, rfl, rfl⟩ : kAt D cy sa A s H _ _ [((u 0), .inr (12, [.ref (u 1), .int 0, .int (-1), .ref (u 2), .ref (u 3), .ref (u 4), .ref (u 5), .ref (u 6), .ref (u 7), .ref (u 8), .int 0, .ref (u 9), .ref (u 10), .ref (u 11), .ref (u 12), .ref (u 13), .ref (u 14)]))] [0]) (wr := [((v 0), .inr (13, [.int 0, .int 0, .int 0, .int (-1), .int 0, .int 0, .int 0, .int 0, .ref (v 1), .ref (v 2), .ref (v 3), .ref (v 4), .ref (v 5), .ref (v 6), .ref (v 7), .ref (v 8), .ref (v 9), .int 0, .int 0, .int 0, .int 0, .int 0, .int 0, .int 0, .int 0, .int 0, .ref (v 10), .ref (v 11), .ref (v 12), .ref (v 13), .int 0, .ref (v 14), .ref (v 15), .ref (v 16), .ref (v 17), .ref (v 18), .int 0, .int 0, .int 0, .ref (v 19), .ref (v 20), .ref (v 21), .ref (v 22), .ref (v 23), .int 0, .int 0, .int 0, .int 0])), (o, .inl (cy 6, 1, .inr (.inl (fun _ => 0))))]) rfl rfl (by decide) (k_runV 12 0 (As := []) (rest := []) E lk_VRL_131 rfl rfl rfl (c_LM_fault l hl0 D cy sa u  H.size) (⟨hP, hD, hG, hS, hA, rfl, rfl⟩ : kAt D cy sa A s H _ _ [((u 0), .inr (12, [.ref (u 1), .int 0, .int (-1), .ref (u 2), .ref (u 3), .ref (u 4), .ref (u 5), .ref (u 6), .ref (u 7), .ref (u 8), .int 0, .ref (u 9), .ref (u 10), .ref (u 11), .ref (u 12), .ref (u 13), .ref (u 14)]))] [0]) hl.1 rfl rfl ⟨rfl, rfl, ⟨Nat.le_of_ble_eq_true rfl, Nat.le_of_ble_eq_true rfl⟩, ⟨Nat.le_of_ble_eq_true rfl, Nat.le_of_ble_eq_true rfl⟩, Nat.le_of_ble_eq_true rfl⟩ dL_law_342) (fun r1 u2 H locs hwu2 hP hD hS => ?_)
  have hP : va_P D vwCl [((v 0), .inr (13, [.int 0, .int 0, .int 0, .int (-1), .int 0, .int 0, .int 0, .int 0, .ref (v 1), .ref (v 2), .ref (v 3), .ref (v 4), .ref (v 5), .ref (v 6), .ref (v 7), .ref (v 8), .ref (v 9), .int 0, .int 0, .int 0, .int 0, .int 0, .int 0, .int 0, .int 0, .int 0, .ref (v 10), .ref (v 11), .ref (v 12), .ref (v 13), .int 0, .ref (v 14), .ref (v 15), .ref (v 16), .ref (v 17), .ref (v 18), .int 0, .int 0, .int 0, .ref (v 19), .ref (v 20), .ref (v 21), .ref (v 22), .ref (v 23), .int 0, .int 0, .int 0, .int 0])), (o, .inl (cy 6, 1, .inr (.inl (fun _ => 0))))] H := hP
  have hD : va_D A [((v 0), .inr (13, [.int 0, .int 0, .int 0, .int (-1), .int 0, .int 0, .int 0, .int 0, .ref (v 1), .ref (v 2), .ref (v 3), .ref (v 4), .ref (v 5), .ref (v 6), .ref (v 7), .ref (v 8), .ref (v 9), .int 0, .int 0, .int 0, .int 0, .int 0, .int 0, .int 0, .int 0, .int 0, .ref (v 10), .ref (v 11), .ref (v 12), .ref (v 13), .int 0, .ref (v 14), .ref (v 15), .ref (v 16), .ref (v 17), .ref (v 18), .int 0, .int 0, .int 0, .ref (v 19), .ref (v 20), .ref (v 21), .ref (v 22), .ref (v 23), .int 0, .int 0, .int 0, .int 0])), (o, .inl (cy 6, 1, .inr (.inl (fun _ => 0))))] := hD
  refine lv_aload_n hx hb dL_law_345 rfl (lv_at hl 2 rfl) ?_
  refine k_cali [1] (⟨hP, hD, hG, hS, hA, rfl, rfl⟩ : kAt D cy sa A s H _ _ [((v 0), .inr (13, [.int 0, .int 0, .int 0, .int (-1), .int 0, .int 0, .int 0, .int 0, .ref (v 1), .ref (v 2), .ref (v 3), .ref (v 4), .ref (v 5), .ref (v 6), .ref (v 7), .ref (v 8), .ref (v 9), .int 0, .int 0, .int 0, .int 0, .int 0, .int 0, .int 0, .int 0, .int 0, .ref (v 10), .ref (v 11), .ref (v 12), .ref (v 13), .int 0, .ref (v 14), .ref (v 15), .ref (v 16), .ref (v 17), .ref (v 18), .int 0, .int 0, .int 0, .ref (v 19), .ref (v 20), .ref (v 21), .ref (v 22), .ref (v 23), .int 0, .int 0, .int 0, .int 0]))] [0]) (wr := [(o, .inl (cy 6, 1, .inr (.inl (fun _ => 0))))]) rfl rfl (by decide) (k_runV 13 0 (As := []) (rest := [.int r1]) E lk_VRL_134 rfl rfl rfl (m_fault_ l hl0 D cy sa v  H.size) (⟨hP, hD, hG, hS, hA, rfl, rfl⟩ : kAt D cy sa A s H _ _ [((v 0), .inr (13, [.int 0, .int 0, .int 0, .int (-1), .int 0, .int 0, .int 0, .int 0, .ref (v 1), .ref (v 2), .ref (v 3), .ref (v 4), .ref (v 5), .ref (v 6), .ref (v 7), .ref (v 8), .ref (v 9), .int 0, .int 0, .int 0, .int 0, .int 0, .int 0, .int 0, .int 0, .int 0, .ref (v 10), .ref (v 11), .ref (v 12), .ref (v 13), .int 0, .ref (v 14), .ref (v 15), .ref (v 16), .ref (v 17), .ref (v 18), .int 0, .int 0, .int 0, .ref (v 19), .ref (v 20), .ref (v 21), .ref (v 22), .ref (v 23), .int 0, .int 0, .int 0, .int 0]))] [0]) hl.1 rfl rfl ⟨rfl, rfl, ⟨Nat.le_of_ble_eq_true rfl, Nat.le_of_ble_eq_true rfl⟩, ⟨Nat.le_of_ble_eq_true rfl, Nat.le_of_ble_eq_true rfl⟩, Nat.le_of_ble_eq_true rfl⟩ dL_law_346) (fun r3 u4 H locs hwu4 hP hD hS => ?_)
  have hP : va_P D vwCl [(o, .inl (cy 6, 1, .inr (.inl (fun _ => 0)))), ((v 0), .inr (13, .int u4.1 :: u4.2))] H := hP
  have hD : va_D A [(o, .inl (cy 6, 1, .inr (.inl (fun _ => 0)))), ((v 0), .inr (13, .int u4.1 :: u4.2))] := hD
  have heq : r1 = r3 := hwu2.trans (hwu4.1 trivial).2.symm
  refine lv_icmp_eq (tgt := 2418) hx hb dL_law_349 (by decide) (fun _ => ?_) (fun h => absurd heq h)
  refine lv_iinc (v := 6) (lv' := [(4, .int 6), (0, .ref b), (1, .ref (u 0)), (2, .ref (v 0)), (3, .ref o)]) hx hb dL_law_2418 hl (k := 4) rfl (by decide) (by decide) rfl (fun ls hl => ?_)
  refine lv_goto (tgt := 23) hx hb dL_law_2421 (by decide) ?_
  exact law_exit E hX hbl hbA hAs hS (i := 6) (by decide) (lv_at hl 1 rfl) (lv_at hl 0 rfl) (by decide) (by decide)

set_option maxHeartbeats 4000000 in
set_option maxRecDepth 100000 in
/-- the law: told -/
theorem law_case_3 {p : Program} {l : Launch} {e : Env} {s : State} {m : MethodId} {below : List Frame} {meth : Method} {c : Code} {D : va_G} {cy : Nat → ClassId} {sa : Nat → Nat} {b : Nat} {xs : Nat → Int32} (hl0 : l.stackTraces = false) (E : kE yL_law cL_law 7 (some .boolean) #[Value.ref b] p s m meth c) (hX : va_X b 6 xs s s.heap) (hbl : b < s.heap.size) (hG : kG D cy sa (fun q => s.heap.size ≤ q) s) (u v : Nat → Nat) (o : Nat) (H : Heap) (locs : List Loc) (hP : va_P D vwCl [((u 0), .inr (12, [.ref (u 1), .int 0, .int (-1), .ref (u 2), .ref (u 3), .ref (u 4), .ref (u 5), .ref (u 6), .ref (u 7), .ref (u 8), .int 0, .ref (u 9), .ref (u 10), .ref (u 11), .ref (u 12), .ref (u 13), .ref (u 14)])), ((u 3), .inr (4, [.ref (u 15), .ref (u 16), .ref (u 17), .ref (u 18), .ref (u 19), .ref (u 20), .ref (u 21), .ref (u 22), .ref (u 23), .ref (u 24), .ref (u 25), .ref (u 26), .int 0, .int 0, .int 0, .int 0, .int 0])), ((v 0), .inr (13, [.int 0, .int 0, .int 0, .int (-1), .int 0, .int 0, .int 0, .int 0, .ref (v 1), .ref (v 2), .ref (v 3), .ref (v 4), .ref (v 5), .ref (v 6), .ref (v 7), .ref (v 8), .ref (v 9), .int 0, .int 0, .int 0, .int 0, .int 0, .int 0, .int 0, .int 0, .int 0, .ref (v 10), .ref (v 11), .ref (v 12), .ref (v 13), .int 0, .ref (v 14), .ref (v 15), .ref (v 16), .ref (v 17), .ref (v 18), .int 0, .int 0, .int 0, .ref (v 19), .ref (v 20), .ref (v 21), .ref (v 22), .ref (v 23), .int 0, .int 0, .int 0, .int 0])), ((v 5), .inl (cy 0, 5, .inl (fun _ => 0))), (o, .inl (cy 6, 1, .inr (.inl (fun _ => 0))))] H) (hD : va_D (fun q => s.heap.size ≤ q) [((u 0), .inr (12, [.ref (u 1), .int 0, .int (-1), .ref (u 2), .ref (u 3), .ref (u 4), .ref (u 5), .ref (u 6), .ref (u 7), .ref (u 8), .int 0, .ref (u 9), .ref (u 10), .ref (u 11), .ref (u 12), .ref (u 13), .ref (u 14)])), ((u 3), .inr (4, [.ref (u 15), .ref (u 16), .ref (u 17), .ref (u 18), .ref (u 19), .ref (u 20), .ref (u 21), .ref (u 22), .ref (u 23), .ref (u 24), .ref (u 25), .ref (u 26), .int 0, .int 0, .int 0, .int 0, .int 0])), ((v 0), .inr (13, [.int 0, .int 0, .int 0, .int (-1), .int 0, .int 0, .int 0, .int 0, .ref (v 1), .ref (v 2), .ref (v 3), .ref (v 4), .ref (v 5), .ref (v 6), .ref (v 7), .ref (v 8), .ref (v 9), .int 0, .int 0, .int 0, .int 0, .int 0, .int 0, .int 0, .int 0, .int 0, .ref (v 10), .ref (v 11), .ref (v 12), .ref (v 13), .int 0, .ref (v 14), .ref (v 15), .ref (v 16), .ref (v 17), .ref (v 18), .int 0, .int 0, .int 0, .ref (v 19), .ref (v 20), .ref (v 21), .ref (v 22), .ref (v 23), .int 0, .int 0, .int 0, .int 0])), ((v 5), .inl (cy 0, 5, .inl (fun _ => 0))), (o, .inl (cy 6, 1, .inr (.inl (fun _ => 0))))]) (hS : va_S (fun q => s.heap.size ≤ q) s.heap H locs) (ls : Array Slot) (hl : lv_has ls 7 [(0, .ref b), (1, .ref (u 0)), (2, .ref (v 0)), (3, .ref o), (4, .int 0)]) : W p l e room_1 s m #[Value.ref b] below meth c H locs 179 322202 (lw_Z below #[Value.ref b] s) (F0 m 354 ls []) := by
  obtain ⟨A, hAe⟩ : ∃ A : Nat → Prop, A = fun q => s.heap.size ≤ q := ⟨_, rfl⟩
  rw [← hAe] at hG hD hS
  have hA : ∀ q, s.heap.size ≤ q → A q := fun q h => by rw [hAe]; exact h
  have hAs : ∀ q, A q → s.heap.size ≤ q := fun q h => by rw [hAe] at h; exact h
  have hbA : ¬ A b := by rw [hAe]; exact Nat.not_le.mpr hbl
  obtain ⟨hx, hb, hml, hown, hts, hr, hlk, hnm⟩ := id E
  have hown : s.vm.findClass RL = some m.cls := hown
  refine lv_aload_n hx hb dL_law_354 rfl (lv_at hl 1 rfl) ?_
  refine lv_aload_n hx hb dL_law_355 rfl (lv_at hl 0 rfl) ?_
  refine lv_iload hx hb dL_law_356 (lv_at hl 4 rfl) ?_
  refine lv_iconst (v := 1) hx hb dL_law_358 (by decide) ?_
  refine lv_iadd hx hb dL_law_359 ?_
  refine lv_topi (fun x1 ex1 => ?_)
  obtain rfl : x1 = 1 := ex1.trans (by decide)
  refine va_sld hx hb hX hbl hbA hS (by unfold vp_in; decide) dL_law_360 ?_
  refine lv_topi (fun x2 ex2 => ?_)
  obtain rfl : x2 = xs 1 := ex2.trans rfl
  refine lv_aload_n hx hb dL_law_361 rfl (lv_at hl 3 rfl) ?_
  refine x_cali [2, 3] (⟨hP, hD, hG, hS, hA, rfl, rfl⟩ : kAt D cy sa A s H _ _ [((u 0), .inr (12, [.ref (u 1), .int 0, .int (-1), .ref (u 2), .ref (u 3), .ref (u 4), .ref (u 5), .ref (u 6), .ref (u 7), .ref (u 8), .int 0, .ref (u 9), .ref (u 10), .ref (u 11), .ref (u 12), .ref (u 13), .ref (u 14)])), ((u 3), .inr (4, [.ref (u 15), .ref (u 16), .ref (u 17), .ref (u 18), .ref (u 19), .ref (u 20), .ref (u 21), .ref (u 22), .ref (u 23), .ref (u 24), .ref (u 25), .ref (u 26), .int 0, .int 0, .int 0, .int 0, .int 0])), (o, .inl (cy 6, 1, .inr (.inl (fun _ => 0))))] [0, 1, 4]) (wr := [((v 0), .inr (13, [.int 0, .int 0, .int 0, .int (-1), .int 0, .int 0, .int 0, .int 0, .ref (v 1), .ref (v 2), .ref (v 3), .ref (v 4), .ref (v 5), .ref (v 6), .ref (v 7), .ref (v 8), .ref (v 9), .int 0, .int 0, .int 0, .int 0, .int 0, .int 0, .int 0, .int 0, .int 0, .ref (v 10), .ref (v 11), .ref (v 12), .ref (v 13), .int 0, .ref (v 14), .ref (v 15), .ref (v 16), .ref (v 17), .ref (v 18), .int 0, .int 0, .int 0, .ref (v 19), .ref (v 20), .ref (v 21), .ref (v 22), .ref (v 23), .int 0, .int 0, .int 0, .int 0])), ((v 5), .inl (cy 0, 5, .inl (fun _ => 0)))]) rfl rfl (by decide) (x_runW (As := [.ref (u 0), .int (xs 1), .ref o]) (rest := []) E lk_SRL_135 (w_told l hl0 D cy sa u o (xs 1) H.size) (⟨hP, hD, hG, hS, hA, rfl, rfl⟩ : kAt D cy sa A s H _ _ [((u 0), .inr (12, [.ref (u 1), .int 0, .int (-1), .ref (u 2), .ref (u 3), .ref (u 4), .ref (u 5), .ref (u 6), .ref (u 7), .ref (u 8), .int 0, .ref (u 9), .ref (u 10), .ref (u 11), .ref (u 12), .ref (u 13), .ref (u 14)])), ((u 3), .inr (4, [.ref (u 15), .ref (u 16), .ref (u 17), .ref (u 18), .ref (u 19), .ref (u 20), .ref (u 21), .ref (u 22), .ref (u 23), .ref (u 24), .ref (u 25), .ref (u 26), .int 0, .int 0, .int 0, .int 0, .int 0])), (o, .inl (cy 6, 1, .inr (.inl (fun _ => 0))))] [0, 1, 4]) hl.1 rfl rfl ⟨rfl, rfl, ⟨Nat.le_of_ble_eq_true rfl, Nat.le_of_ble_eq_true rfl⟩, ⟨Nat.le_of_ble_eq_true rfl, Nat.le_of_ble_eq_true rfl⟩, Nat.le_of_ble_eq_true rfl⟩ dL_law_362) (fun ce q9 u4 H locs hwu4 hP hD hS h1 h2 h3 => ?_) (fun r3 u4 H locs hwu4 hP hD hS => ?_)
  · have hP : va_P D vwCl [((v 0), .inr (13, [.int 0, .int 0, .int 0, .int (-1), .int 0, .int 0, .int 0, .int 0, .ref (v 1), .ref (v 2), .ref (v 3), .ref (v 4), .ref (v 5), .ref (v 6), .ref (v 7), .ref (v 8), .ref (v 9), .int 0, .int 0, .int 0, .int 0, .int 0, .int 0, .int 0, .int 0, .int 0, .ref (v 10), .ref (v 11), .ref (v 12), .ref (v 13), .int 0, .ref (v 14), .ref (v 15), .ref (v 16), .ref (v 17), .ref (v 18), .int 0, .int 0, .int 0, .ref (v 19), .ref (v 20), .ref (v 21), .ref (v 22), .ref (v 23), .int 0, .int 0, .int 0, .int 0])), ((v 5), .inl (cy 0, 5, .inl (fun _ => 0)))] H := hP
    have hD : va_D A [((v 0), .inr (13, [.int 0, .int 0, .int 0, .int (-1), .int 0, .int 0, .int 0, .int 0, .ref (v 1), .ref (v 2), .ref (v 3), .ref (v 4), .ref (v 5), .ref (v 6), .ref (v 7), .ref (v 8), .ref (v 9), .int 0, .int 0, .int 0, .int 0, .int 0, .int 0, .int 0, .int 0, .int 0, .ref (v 10), .ref (v 11), .ref (v 12), .ref (v 13), .int 0, .ref (v 14), .ref (v 15), .ref (v 16), .ref (v 17), .ref (v 18), .int 0, .int 0, .int 0, .ref (v 19), .ref (v 20), .ref (v 21), .ref (v 22), .ref (v 23), .int 0, .int 0, .int 0, .int 0])), ((v 5), .inl (cy 0, 5, .inl (fun _ => 0)))] := hD
    exact (hwu4).elim
  · have hP : va_P D vwCl [((v 0), .inr (13, [.int 0, .int 0, .int 0, .int (-1), .int 0, .int 0, .int 0, .int 0, .ref (v 1), .ref (v 2), .ref (v 3), .ref (v 4), .ref (v 5), .ref (v 6), .ref (v 7), .ref (v 8), .ref (v 9), .int 0, .int 0, .int 0, .int 0, .int 0, .int 0, .int 0, .int 0, .int 0, .ref (v 10), .ref (v 11), .ref (v 12), .ref (v 13), .int 0, .ref (v 14), .ref (v 15), .ref (v 16), .ref (v 17), .ref (v 18), .int 0, .int 0, .int 0, .ref (v 19), .ref (v 20), .ref (v 21), .ref (v 22), .ref (v 23), .int 0, .int 0, .int 0, .int 0])), ((v 5), .inl (cy 0, 5, .inl (fun _ => 0))), (o, .inl (cy 6, 1, .inr (.inl u4)))] H := hP
    have hD : va_D A [((v 0), .inr (13, [.int 0, .int 0, .int 0, .int (-1), .int 0, .int 0, .int 0, .int 0, .ref (v 1), .ref (v 2), .ref (v 3), .ref (v 4), .ref (v 5), .ref (v 6), .ref (v 7), .ref (v 8), .ref (v 9), .int 0, .int 0, .int 0, .int 0, .int 0, .int 0, .int 0, .int 0, .int 0, .ref (v 10), .ref (v 11), .ref (v 12), .ref (v 13), .int 0, .ref (v 14), .ref (v 15), .ref (v 16), .ref (v 17), .ref (v 18), .int 0, .int 0, .int 0, .ref (v 19), .ref (v 20), .ref (v 21), .ref (v 22), .ref (v 23), .int 0, .int 0, .int 0, .int 0])), ((v 5), .inl (cy 0, 5, .inl (fun _ => 0))), (o, .inl (cy 6, 1, .inr (.inl u4)))] := hD
    refine lv_istore (lv' := [(5, .int r3), (0, .ref b), (1, .ref (u 0)), (2, .ref (v 0)), (3, .ref o), (4, .int 0)]) hx hb dL_law_365 hl (by decide) rfl (fun ls hl => ?_)
    refine lv_aload_n hx hb dL_law_367 rfl (lv_at hl 3 rfl) ?_
    refine lv_aload_n hx hb dL_law_368 rfl (lv_at hl 1 rfl) ?_
    refine lv_iload hx hb dL_law_369 (lv_at hl 5 rfl) ?_
    refine lv_iconst (v := 1) hx hb dL_law_371 (by decide) ?_
    refine lv_iadd hx hb dL_law_372 ?_
    refine lv_topi (fun x5 ex5 => ?_)
    obtain rfl : x5 = 1 := ex5.trans (by decide)
    refine va_sld hx hb hX hbl hbA hS (by unfold vp_in; decide) dL_law_373 ?_
    refine lv_topi (fun x6 ex6 => ?_)
    obtain rfl : x6 = xs 1 := ex6.trans rfl
    refine k_cali [2] (⟨hP, hD, hG, hS, hA, rfl, rfl⟩ : kAt D cy sa A s H _ _ [((v 0), .inr (13, [.int 0, .int 0, .int 0, .int (-1), .int 0, .int 0, .int 0, .int 0, .ref (v 1), .ref (v 2), .ref (v 3), .ref (v 4), .ref (v 5), .ref (v 6), .ref (v 7), .ref (v 8), .ref (v 9), .int 0, .int 0, .int 0, .int 0, .int 0, .int 0, .int 0, .int 0, .int 0, .ref (v 10), .ref (v 11), .ref (v 12), .ref (v 13), .int 0, .ref (v 14), .ref (v 15), .ref (v 16), .ref (v 17), .ref (v 18), .int 0, .int 0, .int 0, .ref (v 19), .ref (v 20), .ref (v 21), .ref (v 22), .ref (v 23), .int 0, .int 0, .int 0, .int 0])), ((v 5), .inl (cy 0, 5, .inl (fun _ => 0)))] [0, 1]) (wr := [(o, .inl (cy 6, 1, .inr (.inl u4)))]) rfl rfl (by decide) (k_runV 13 0 (As := [.int (xs 1)]) (rest := []) E lk_VRL_137 rfl rfl rfl (m_told_ l hl0 D cy sa v (xs 1) H.size) (⟨hP, hD, hG, hS, hA, rfl, rfl⟩ : kAt D cy sa A s H _ _ [((v 0), .inr (13, [.int 0, .int 0, .int 0, .int (-1), .int 0, .int 0, .int 0, .int 0, .ref (v 1), .ref (v 2), .ref (v 3), .ref (v 4), .ref (v 5), .ref (v 6), .ref (v 7), .ref (v 8), .ref (v 9), .int 0, .int 0, .int 0, .int 0, .int 0, .int 0, .int 0, .int 0, .int 0, .ref (v 10), .ref (v 11), .ref (v 12), .ref (v 13), .int 0, .ref (v 14), .ref (v 15), .ref (v 16), .ref (v 17), .ref (v 18), .int 0, .int 0, .int 0, .ref (v 19), .ref (v 20), .ref (v 21), .ref (v 22), .ref (v 23), .int 0, .int 0, .int 0, .int 0])), ((v 5), .inl (cy 0, 5, .inl (fun _ => 0)))] [0, 1]) hl.1 rfl rfl ⟨rfl, rfl, ⟨Nat.le_of_ble_eq_true rfl, Nat.le_of_ble_eq_true rfl⟩, ⟨Nat.le_of_ble_eq_true rfl, Nat.le_of_ble_eq_true rfl⟩, Nat.le_of_ble_eq_true rfl⟩ dL_law_374) (fun r7 u8 H locs hwu8 hP hD hS => ?_)
    have hP : va_P D vwCl [(o, .inl (cy 6, 1, .inr (.inl u4))), ((v 0), .inr (13, .int u8.1 :: u8.2))] H := hP
    have hD : va_D A [(o, .inl (cy 6, 1, .inr (.inl u4))), ((v 0), .inr (13, .int u8.1 :: u8.2))] := hD
    refine lv_istore (lv' := [(6, .int r7), (5, .int r3), (0, .ref b), (1, .ref (u 0)), (2, .ref (v 0)), (3, .ref o), (4, .int 0)]) hx hb dL_law_377 hl (by decide) rfl (fun ls hl => ?_)
    refine lv_aload_n hx hb dL_law_379 rfl (lv_at hl 4 rfl) ?_
    refine k_cali [0] (⟨hP, hD, hG, hS, hA, rfl, rfl⟩ : kAt D cy sa A s H _ _ [((v 0), .inr (13, .int u8.1 :: u8.2))] [1]) (wr := [(o, .inl (cy 6, 1, .inr (.inl u4)))]) rfl rfl (by decide) (k_runV 13 1 (As := []) (rest := []) E lk_VRL_127 rfl rfl rfl (m_thrown l hl0 D cy sa v u8.1 u8.2 H.size) (⟨hP, hD, hG, hS, hA, rfl, rfl⟩ : kAt D cy sa A s H _ _ [((v 0), .inr (13, .int u8.1 :: u8.2))] [1]) hl.1 rfl rfl ⟨rfl, rfl, ⟨Nat.le_of_ble_eq_true rfl, Nat.le_of_ble_eq_true rfl⟩, ⟨Nat.le_of_ble_eq_true rfl, Nat.le_of_ble_eq_true rfl⟩, Nat.le_of_ble_eq_true rfl⟩ dL_law_380) (fun r9 u10 H locs hwu10 hP hD hS => ?_)
    have hP : va_P D vwCl [(o, .inl (cy 6, 1, .inr (.inl u4)))] H := hP
    have hD : va_D A [(o, .inl (cy 6, 1, .inr (.inl u4)))] := hD
    rcases hwu4 with ⟨rfl, x9, hx9, hf9⟩ | ⟨rfl, hpx⟩
    · obtain ⟨ht9, hr9⟩ := hwu8.1 (hx9.2)
      obtain rfl : r9 = 0 := hwu10.trans ht9
      have heq : x9 = r7 := hx9.1.trans hr9.symm
      refine lv_iload hx hb dL_law_383 (lv_at hl 1 rfl) ?_
      refine lv_icmp_eq (tgt := 390) hx hb dL_law_385 (by decide) (fun _ => ?_) (fun h => absurd (by decide) h)
      refine lv_iload hx hb dL_law_390 (lv_at hl 1 rfl) ?_
      refine lv_if_ne (tgt := 407) hx hb dL_law_392 (by decide) (fun h => absurd (by decide) h) (fun _ => ?_)
      refine lv_aload_n hx hb dL_law_395 rfl (lv_at hl 5 rfl) ?_
      refine lv_iconst (v := 0) hx hb dL_law_396 (by decide) ?_
      refine va_lald hx hb hG.1 hP 0 6 rfl rfl (by unfold vp_in; decide) dL_law_397 ?_
      refine W.eq (g2 := F0 m 398 ls [.long (u4 0)]) rfl ?_
      refine lv_iload hx hb dL_law_398 (lv_at hl 0 rfl) ?_
      refine lv_i2l (v := (r7 : Int32).toInt64) hx hb dL_law_400 rfl ?_
      refine W.lcmp hx hb dL_law_401 ?_
      refine lv_topi (fun x11 ex11 => ?_)
      obtain rfl : x11 = 0 := ex11.trans (by rw [hf9, heq]; exact k_cmp _)
      refine lv_if_eq (tgt := 407) hx hb dL_law_402 (by decide) (fun _ => ?_) (fun h => absurd (by decide) h)
      refine lv_goto (tgt := 2418) hx hb dL_law_407 (by decide) ?_
      refine lv_iinc (v := 6) (lv' := [(4, .int 6), (6, .int r7), (5, .int 0), (0, .ref b), (1, .ref (u 0)), (2, .ref (v 0)), (3, .ref o)]) hx hb dL_law_2418 hl (k := 6) rfl (by decide) (by decide) rfl (fun ls hl => ?_)
      refine lv_goto (tgt := 23) hx hb dL_law_2421 (by decide) ?_
      exact law_exit E hX hbl hbA hAs hS (i := 6) (by decide) (lv_at hl 3 rfl) (lv_at hl 0 rfl) (by decide) (by decide)
    · obtain rfl : r9 = 1 := hwu10.trans (hwu8.2 (fun h => absurd h hpx))
      refine lv_iload hx hb dL_law_383 (lv_at hl 1 rfl) ?_
      refine lv_icmp_eq (tgt := 390) hx hb dL_law_385 (by decide) (fun _ => ?_) (fun h => absurd (by decide) h)
      refine lv_iload hx hb dL_law_390 (lv_at hl 1 rfl) ?_
      refine lv_if_ne (tgt := 407) hx hb dL_law_392 (by decide) (fun _ => ?_) (fun h => absurd h (by decide))
      refine lv_goto (tgt := 2418) hx hb dL_law_407 (by decide) ?_
      refine lv_iinc (v := 6) (lv' := [(4, .int 6), (6, .int r7), (5, .int 1), (0, .ref b), (1, .ref (u 0)), (2, .ref (v 0)), (3, .ref o)]) hx hb dL_law_2418 hl (k := 6) rfl (by decide) (by decide) rfl (fun ls hl => ?_)
      refine lv_goto (tgt := 23) hx hb dL_law_2421 (by decide) ?_
      exact law_exit E hX hbl hbA hAs hS (i := 6) (by decide) (lv_at hl 3 rfl) (lv_at hl 0 rfl) (by decide) (by decide)

set_option maxHeartbeats 4000000 in
set_option maxRecDepth 100000 in
/-- the law: body -/
theorem law_case_4 {p : Program} {l : Launch} {e : Env} {s : State} {m : MethodId} {below : List Frame} {meth : Method} {c : Code} {D : va_G} {cy : Nat → ClassId} {sa : Nat → Nat} {b : Nat} {xs : Nat → Int32} (hl0 : l.stackTraces = false) (E : kE yL_law cL_law 7 (some .boolean) #[Value.ref b] p s m meth c) (hX : va_X b 6 xs s s.heap) (hbl : b < s.heap.size) (hG : kG D cy sa (fun q => s.heap.size ≤ q) s) (u v : Nat → Nat) (o : Nat) (H : Heap) (locs : List Loc) (hP : va_P D vwCl [((u 0), .inr (12, [.ref (u 1), .int 0, .int (-1), .ref (u 2), .ref (u 3), .ref (u 4), .ref (u 5), .ref (u 6), .ref (u 7), .ref (u 8), .int 0, .ref (u 9), .ref (u 10), .ref (u 11), .ref (u 12), .ref (u 13), .ref (u 14)])), ((u 3), .inr (4, [.ref (u 15), .ref (u 16), .ref (u 17), .ref (u 18), .ref (u 19), .ref (u 20), .ref (u 21), .ref (u 22), .ref (u 23), .ref (u 24), .ref (u 25), .ref (u 26), .int 0, .int 0, .int 0, .int 0, .int 0])), ((v 0), .inr (13, [.int 0, .int 0, .int 0, .int (-1), .int 0, .int 0, .int 0, .int 0, .ref (v 1), .ref (v 2), .ref (v 3), .ref (v 4), .ref (v 5), .ref (v 6), .ref (v 7), .ref (v 8), .ref (v 9), .int 0, .int 0, .int 0, .int 0, .int 0, .int 0, .int 0, .int 0, .int 0, .ref (v 10), .ref (v 11), .ref (v 12), .ref (v 13), .int 0, .ref (v 14), .ref (v 15), .ref (v 16), .ref (v 17), .ref (v 18), .int 0, .int 0, .int 0, .ref (v 19), .ref (v 20), .ref (v 21), .ref (v 22), .ref (v 23), .int 0, .int 0, .int 0, .int 0])), ((v 5), .inl (cy 0, 5, .inl (fun _ => 0))), (o, .inl (cy 6, 1, .inr (.inl (fun _ => 0))))] H) (hD : va_D (fun q => s.heap.size ≤ q) [((u 0), .inr (12, [.ref (u 1), .int 0, .int (-1), .ref (u 2), .ref (u 3), .ref (u 4), .ref (u 5), .ref (u 6), .ref (u 7), .ref (u 8), .int 0, .ref (u 9), .ref (u 10), .ref (u 11), .ref (u 12), .ref (u 13), .ref (u 14)])), ((u 3), .inr (4, [.ref (u 15), .ref (u 16), .ref (u 17), .ref (u 18), .ref (u 19), .ref (u 20), .ref (u 21), .ref (u 22), .ref (u 23), .ref (u 24), .ref (u 25), .ref (u 26), .int 0, .int 0, .int 0, .int 0, .int 0])), ((v 0), .inr (13, [.int 0, .int 0, .int 0, .int (-1), .int 0, .int 0, .int 0, .int 0, .ref (v 1), .ref (v 2), .ref (v 3), .ref (v 4), .ref (v 5), .ref (v 6), .ref (v 7), .ref (v 8), .ref (v 9), .int 0, .int 0, .int 0, .int 0, .int 0, .int 0, .int 0, .int 0, .int 0, .ref (v 10), .ref (v 11), .ref (v 12), .ref (v 13), .int 0, .ref (v 14), .ref (v 15), .ref (v 16), .ref (v 17), .ref (v 18), .int 0, .int 0, .int 0, .ref (v 19), .ref (v 20), .ref (v 21), .ref (v 22), .ref (v 23), .int 0, .int 0, .int 0, .int 0])), ((v 5), .inl (cy 0, 5, .inl (fun _ => 0))), (o, .inl (cy 6, 1, .inr (.inl (fun _ => 0))))]) (hS : va_S (fun q => s.heap.size ≤ q) s.heap H locs) (ls : Array Slot) (hl : lv_has ls 7 [(0, .ref b), (1, .ref (u 0)), (2, .ref (v 0)), (3, .ref o), (4, .int 0)]) : W p l e room_1 s m #[Value.ref b] below meth c H locs 179 322202 (lw_Z below #[Value.ref b] s) (F0 m 410 ls []) := by
  obtain ⟨A, hAe⟩ : ∃ A : Nat → Prop, A = fun q => s.heap.size ≤ q := ⟨_, rfl⟩
  rw [← hAe] at hG hD hS
  have hA : ∀ q, s.heap.size ≤ q → A q := fun q h => by rw [hAe]; exact h
  have hAs : ∀ q, A q → s.heap.size ≤ q := fun q h => by rw [hAe] at h; exact h
  have hbA : ¬ A b := by rw [hAe]; exact Nat.not_le.mpr hbl
  obtain ⟨hx, hb, hml, hown, hts, hr, hlk, hnm⟩ := id E
  have hown : s.vm.findClass RL = some m.cls := hown
  refine lv_aload_n hx hb dL_law_410 rfl (lv_at hl 1 rfl) ?_
  refine lv_aload_n hx hb dL_law_411 rfl (lv_at hl 0 rfl) ?_
  refine lv_iload hx hb dL_law_412 (lv_at hl 4 rfl) ?_
  refine lv_iconst (v := 1) hx hb dL_law_414 (by decide) ?_
  refine lv_iadd hx hb dL_law_415 ?_
  refine lv_topi (fun x1 ex1 => ?_)
  obtain rfl : x1 = 1 := ex1.trans (by decide)
  refine va_sld hx hb hX hbl hbA hS (by unfold vp_in; decide) dL_law_416 ?_
  refine lv_topi (fun x2 ex2 => ?_)
  obtain rfl : x2 = xs 1 := ex2.trans rfl
  refine lv_aload_n hx hb dL_law_417 rfl (lv_at hl 0 rfl) ?_
  refine lv_iload hx hb dL_law_418 (lv_at hl 4 rfl) ?_
  refine lv_iconst (v := 2) hx hb dL_law_420 (by decide) ?_
  refine lv_iadd hx hb dL_law_421 ?_
  refine lv_topi (fun x3 ex3 => ?_)
  obtain rfl : x3 = 2 := ex3.trans (by decide)
  refine va_sld hx hb hX hbl hbA hS (by unfold vp_in; decide) dL_law_422 ?_
  refine lv_topi (fun x4 ex4 => ?_)
  obtain rfl : x4 = xs 2 := ex4.trans rfl
  refine lv_aload_n hx hb dL_law_423 rfl (lv_at hl 3 rfl) ?_
  refine x_cali [2, 3] (⟨hP, hD, hG, hS, hA, rfl, rfl⟩ : kAt D cy sa A s H _ _ [((u 0), .inr (12, [.ref (u 1), .int 0, .int (-1), .ref (u 2), .ref (u 3), .ref (u 4), .ref (u 5), .ref (u 6), .ref (u 7), .ref (u 8), .int 0, .ref (u 9), .ref (u 10), .ref (u 11), .ref (u 12), .ref (u 13), .ref (u 14)])), ((u 3), .inr (4, [.ref (u 15), .ref (u 16), .ref (u 17), .ref (u 18), .ref (u 19), .ref (u 20), .ref (u 21), .ref (u 22), .ref (u 23), .ref (u 24), .ref (u 25), .ref (u 26), .int 0, .int 0, .int 0, .int 0, .int 0])), (o, .inl (cy 6, 1, .inr (.inl (fun _ => 0))))] [0, 1, 4]) (wr := [((v 0), .inr (13, [.int 0, .int 0, .int 0, .int (-1), .int 0, .int 0, .int 0, .int 0, .ref (v 1), .ref (v 2), .ref (v 3), .ref (v 4), .ref (v 5), .ref (v 6), .ref (v 7), .ref (v 8), .ref (v 9), .int 0, .int 0, .int 0, .int 0, .int 0, .int 0, .int 0, .int 0, .int 0, .ref (v 10), .ref (v 11), .ref (v 12), .ref (v 13), .int 0, .ref (v 14), .ref (v 15), .ref (v 16), .ref (v 17), .ref (v 18), .int 0, .int 0, .int 0, .ref (v 19), .ref (v 20), .ref (v 21), .ref (v 22), .ref (v 23), .int 0, .int 0, .int 0, .int 0])), ((v 5), .inl (cy 0, 5, .inl (fun _ => 0)))]) rfl rfl (by decide) (x_runW (As := [.ref (u 0), .int (xs 1), .int (xs 2), .ref o]) (rest := []) E lk_SRL_138 (w_body l hl0 D cy sa u o (xs 1) (xs 2) H.size) (⟨hP, hD, hG, hS, hA, rfl, rfl⟩ : kAt D cy sa A s H _ _ [((u 0), .inr (12, [.ref (u 1), .int 0, .int (-1), .ref (u 2), .ref (u 3), .ref (u 4), .ref (u 5), .ref (u 6), .ref (u 7), .ref (u 8), .int 0, .ref (u 9), .ref (u 10), .ref (u 11), .ref (u 12), .ref (u 13), .ref (u 14)])), ((u 3), .inr (4, [.ref (u 15), .ref (u 16), .ref (u 17), .ref (u 18), .ref (u 19), .ref (u 20), .ref (u 21), .ref (u 22), .ref (u 23), .ref (u 24), .ref (u 25), .ref (u 26), .int 0, .int 0, .int 0, .int 0, .int 0])), (o, .inl (cy 6, 1, .inr (.inl (fun _ => 0))))] [0, 1, 4]) hl.1 rfl rfl ⟨rfl, rfl, ⟨Nat.le_of_ble_eq_true rfl, Nat.le_of_ble_eq_true rfl⟩, ⟨Nat.le_of_ble_eq_true rfl, Nat.le_of_ble_eq_true rfl⟩, Nat.le_of_ble_eq_true rfl⟩ dL_law_424) (fun ce q9 u6 H locs hwu6 hP hD hS h1 h2 h3 => ?_) (fun r5 u6 H locs hwu6 hP hD hS => ?_)
  · have hP : va_P D vwCl [((v 0), .inr (13, [.int 0, .int 0, .int 0, .int (-1), .int 0, .int 0, .int 0, .int 0, .ref (v 1), .ref (v 2), .ref (v 3), .ref (v 4), .ref (v 5), .ref (v 6), .ref (v 7), .ref (v 8), .ref (v 9), .int 0, .int 0, .int 0, .int 0, .int 0, .int 0, .int 0, .int 0, .int 0, .ref (v 10), .ref (v 11), .ref (v 12), .ref (v 13), .int 0, .ref (v 14), .ref (v 15), .ref (v 16), .ref (v 17), .ref (v 18), .int 0, .int 0, .int 0, .ref (v 19), .ref (v 20), .ref (v 21), .ref (v 22), .ref (v 23), .int 0, .int 0, .int 0, .int 0])), ((v 5), .inl (cy 0, 5, .inl (fun _ => 0)))] H := hP
    have hD : va_D A [((v 0), .inr (13, [.int 0, .int 0, .int 0, .int (-1), .int 0, .int 0, .int 0, .int 0, .ref (v 1), .ref (v 2), .ref (v 3), .ref (v 4), .ref (v 5), .ref (v 6), .ref (v 7), .ref (v 8), .ref (v 9), .int 0, .int 0, .int 0, .int 0, .int 0, .int 0, .int 0, .int 0, .int 0, .ref (v 10), .ref (v 11), .ref (v 12), .ref (v 13), .int 0, .ref (v 14), .ref (v 15), .ref (v 16), .ref (v 17), .ref (v 18), .int 0, .int 0, .int 0, .ref (v 19), .ref (v 20), .ref (v 21), .ref (v 22), .ref (v 23), .int 0, .int 0, .int 0, .int 0])), ((v 5), .inl (cy 0, 5, .inl (fun _ => 0)))] := hD
    exact (hwu6).elim
  · have hP : va_P D vwCl [((v 0), .inr (13, [.int 0, .int 0, .int 0, .int (-1), .int 0, .int 0, .int 0, .int 0, .ref (v 1), .ref (v 2), .ref (v 3), .ref (v 4), .ref (v 5), .ref (v 6), .ref (v 7), .ref (v 8), .ref (v 9), .int 0, .int 0, .int 0, .int 0, .int 0, .int 0, .int 0, .int 0, .int 0, .ref (v 10), .ref (v 11), .ref (v 12), .ref (v 13), .int 0, .ref (v 14), .ref (v 15), .ref (v 16), .ref (v 17), .ref (v 18), .int 0, .int 0, .int 0, .ref (v 19), .ref (v 20), .ref (v 21), .ref (v 22), .ref (v 23), .int 0, .int 0, .int 0, .int 0])), ((v 5), .inl (cy 0, 5, .inl (fun _ => 0))), (o, .inl (cy 6, 1, .inr (.inl u6)))] H := hP
    have hD : va_D A [((v 0), .inr (13, [.int 0, .int 0, .int 0, .int (-1), .int 0, .int 0, .int 0, .int 0, .ref (v 1), .ref (v 2), .ref (v 3), .ref (v 4), .ref (v 5), .ref (v 6), .ref (v 7), .ref (v 8), .ref (v 9), .int 0, .int 0, .int 0, .int 0, .int 0, .int 0, .int 0, .int 0, .int 0, .ref (v 10), .ref (v 11), .ref (v 12), .ref (v 13), .int 0, .ref (v 14), .ref (v 15), .ref (v 16), .ref (v 17), .ref (v 18), .int 0, .int 0, .int 0, .ref (v 19), .ref (v 20), .ref (v 21), .ref (v 22), .ref (v 23), .int 0, .int 0, .int 0, .int 0])), ((v 5), .inl (cy 0, 5, .inl (fun _ => 0))), (o, .inl (cy 6, 1, .inr (.inl u6)))] := hD
    refine lv_istore (lv' := [(5, .int r5), (0, .ref b), (1, .ref (u 0)), (2, .ref (v 0)), (3, .ref o), (4, .int 0)]) hx hb dL_law_427 hl (by decide) rfl (fun ls hl => ?_)
    refine lv_aload_n hx hb dL_law_429 rfl (lv_at hl 3 rfl) ?_
    refine lv_aload_n hx hb dL_law_430 rfl (lv_at hl 1 rfl) ?_
    refine lv_iload hx hb dL_law_431 (lv_at hl 5 rfl) ?_
    refine lv_iconst (v := 1) hx hb dL_law_433 (by decide) ?_
    refine lv_iadd hx hb dL_law_434 ?_
    refine lv_topi (fun x7 ex7 => ?_)
    obtain rfl : x7 = 1 := ex7.trans (by decide)
    refine va_sld hx hb hX hbl hbA hS (by unfold vp_in; decide) dL_law_435 ?_
    refine lv_topi (fun x8 ex8 => ?_)
    obtain rfl : x8 = xs 1 := ex8.trans rfl
    refine lv_aload_n hx hb dL_law_436 rfl (lv_at hl 1 rfl) ?_
    refine lv_iload hx hb dL_law_437 (lv_at hl 5 rfl) ?_
    refine lv_iconst (v := 2) hx hb dL_law_439 (by decide) ?_
    refine lv_iadd hx hb dL_law_440 ?_
    refine lv_topi (fun x9 ex9 => ?_)
    obtain rfl : x9 = 2 := ex9.trans (by decide)
    refine va_sld hx hb hX hbl hbA hS (by unfold vp_in; decide) dL_law_441 ?_
    refine lv_topi (fun x10 ex10 => ?_)
    obtain rfl : x10 = xs 2 := ex10.trans rfl
    refine k_cali [2] (⟨hP, hD, hG, hS, hA, rfl, rfl⟩ : kAt D cy sa A s H _ _ [((v 0), .inr (13, [.int 0, .int 0, .int 0, .int (-1), .int 0, .int 0, .int 0, .int 0, .ref (v 1), .ref (v 2), .ref (v 3), .ref (v 4), .ref (v 5), .ref (v 6), .ref (v 7), .ref (v 8), .ref (v 9), .int 0, .int 0, .int 0, .int 0, .int 0, .int 0, .int 0, .int 0, .int 0, .ref (v 10), .ref (v 11), .ref (v 12), .ref (v 13), .int 0, .ref (v 14), .ref (v 15), .ref (v 16), .ref (v 17), .ref (v 18), .int 0, .int 0, .int 0, .ref (v 19), .ref (v 20), .ref (v 21), .ref (v 22), .ref (v 23), .int 0, .int 0, .int 0, .int 0])), ((v 5), .inl (cy 0, 5, .inl (fun _ => 0)))] [0, 1]) (wr := [(o, .inl (cy 6, 1, .inr (.inl u6)))]) rfl rfl (by decide) (k_runV 13 0 (As := [.int (xs 1), .int (xs 2)]) (rest := []) E lk_VRL_141 rfl rfl rfl (m_body_ l hl0 D cy sa v (xs 1) (xs 2) H.size) (⟨hP, hD, hG, hS, hA, rfl, rfl⟩ : kAt D cy sa A s H _ _ [((v 0), .inr (13, [.int 0, .int 0, .int 0, .int (-1), .int 0, .int 0, .int 0, .int 0, .ref (v 1), .ref (v 2), .ref (v 3), .ref (v 4), .ref (v 5), .ref (v 6), .ref (v 7), .ref (v 8), .ref (v 9), .int 0, .int 0, .int 0, .int 0, .int 0, .int 0, .int 0, .int 0, .int 0, .ref (v 10), .ref (v 11), .ref (v 12), .ref (v 13), .int 0, .ref (v 14), .ref (v 15), .ref (v 16), .ref (v 17), .ref (v 18), .int 0, .int 0, .int 0, .ref (v 19), .ref (v 20), .ref (v 21), .ref (v 22), .ref (v 23), .int 0, .int 0, .int 0, .int 0])), ((v 5), .inl (cy 0, 5, .inl (fun _ => 0)))] [0, 1]) hl.1 rfl rfl ⟨rfl, rfl, ⟨Nat.le_of_ble_eq_true rfl, Nat.le_of_ble_eq_true rfl⟩, ⟨Nat.le_of_ble_eq_true rfl, Nat.le_of_ble_eq_true rfl⟩, Nat.le_of_ble_eq_true rfl⟩ dL_law_442) (fun r11 u12 H locs hwu12 hP hD hS => ?_)
    have hP : va_P D vwCl [(o, .inl (cy 6, 1, .inr (.inl u6))), ((v 0), .inr (13, .int u12.1 :: u12.2))] H := hP
    have hD : va_D A [(o, .inl (cy 6, 1, .inr (.inl u6))), ((v 0), .inr (13, .int u12.1 :: u12.2))] := hD
    refine lv_istore (lv' := [(6, .int r11), (5, .int r5), (0, .ref b), (1, .ref (u 0)), (2, .ref (v 0)), (3, .ref o), (4, .int 0)]) hx hb dL_law_445 hl (by decide) rfl (fun ls hl => ?_)
    refine lv_aload_n hx hb dL_law_447 rfl (lv_at hl 4 rfl) ?_
    refine k_cali [0] (⟨hP, hD, hG, hS, hA, rfl, rfl⟩ : kAt D cy sa A s H _ _ [((v 0), .inr (13, .int u12.1 :: u12.2))] [1]) (wr := [(o, .inl (cy 6, 1, .inr (.inl u6)))]) rfl rfl (by decide) (k_runV 13 1 (As := []) (rest := []) E lk_VRL_127 rfl rfl rfl (m_thrown l hl0 D cy sa v u12.1 u12.2 H.size) (⟨hP, hD, hG, hS, hA, rfl, rfl⟩ : kAt D cy sa A s H _ _ [((v 0), .inr (13, .int u12.1 :: u12.2))] [1]) hl.1 rfl rfl ⟨rfl, rfl, ⟨Nat.le_of_ble_eq_true rfl, Nat.le_of_ble_eq_true rfl⟩, ⟨Nat.le_of_ble_eq_true rfl, Nat.le_of_ble_eq_true rfl⟩, Nat.le_of_ble_eq_true rfl⟩ dL_law_448) (fun r13 u14 H locs hwu14 hP hD hS => ?_)
    have hP : va_P D vwCl [(o, .inl (cy 6, 1, .inr (.inl u6)))] H := hP
    have hD : va_D A [(o, .inl (cy 6, 1, .inr (.inl u6)))] := hD
    rcases hwu6 with ⟨rfl, x9, hx9, hf9⟩ | ⟨rfl, hpx⟩
    · exact hx9.elim
    · obtain rfl : r13 = 1 := hwu14.trans (hwu12.2 id)
      refine lv_iload hx hb dL_law_451 (lv_at hl 1 rfl) ?_
      refine lv_icmp_eq (tgt := 458) hx hb dL_law_453 (by decide) (fun _ => ?_) (fun h => absurd (by decide) h)
      refine lv_iload hx hb dL_law_458 (lv_at hl 1 rfl) ?_
      refine lv_if_ne (tgt := 475) hx hb dL_law_460 (by decide) (fun _ => ?_) (fun h => absurd h (by decide))
      refine lv_goto (tgt := 2418) hx hb dL_law_475 (by decide) ?_
      refine lv_iinc (v := 6) (lv' := [(4, .int 6), (6, .int r11), (5, .int 1), (0, .ref b), (1, .ref (u 0)), (2, .ref (v 0)), (3, .ref o)]) hx hb dL_law_2418 hl (k := 6) rfl (by decide) (by decide) rfl (fun ls hl => ?_)
      refine lv_goto (tgt := 23) hx hb dL_law_2421 (by decide) ?_
      exact law_exit E hX hbl hbA hAs hS (i := 6) (by decide) (lv_at hl 3 rfl) (lv_at hl 0 rfl) (by decide) (by decide)

set_option maxHeartbeats 4000000 in
set_option maxRecDepth 100000 in
/-- the law: now -/
theorem law_case_5 {p : Program} {l : Launch} {e : Env} {s : State} {m : MethodId} {below : List Frame} {meth : Method} {c : Code} {D : va_G} {cy : Nat → ClassId} {sa : Nat → Nat} {b : Nat} {xs : Nat → Int32} (hl0 : l.stackTraces = false) (E : kE yL_law cL_law 7 (some .boolean) #[Value.ref b] p s m meth c) (hX : va_X b 6 xs s s.heap) (hbl : b < s.heap.size) (hG : kG D cy sa (fun q => s.heap.size ≤ q) s) (u v : Nat → Nat) (o : Nat) (H : Heap) (locs : List Loc) (hP : va_P D vwCl [((u 0), .inr (12, [.ref (u 1), .int 0, .int (-1), .ref (u 2), .ref (u 3), .ref (u 4), .ref (u 5), .ref (u 6), .ref (u 7), .ref (u 8), .int 0, .ref (u 9), .ref (u 10), .ref (u 11), .ref (u 12), .ref (u 13), .ref (u 14)])), ((u 3), .inr (4, [.ref (u 15), .ref (u 16), .ref (u 17), .ref (u 18), .ref (u 19), .ref (u 20), .ref (u 21), .ref (u 22), .ref (u 23), .ref (u 24), .ref (u 25), .ref (u 26), .int 0, .int 0, .int 0, .int 0, .int 0])), ((v 0), .inr (13, [.int 0, .int 0, .int 0, .int (-1), .int 0, .int 0, .int 0, .int 0, .ref (v 1), .ref (v 2), .ref (v 3), .ref (v 4), .ref (v 5), .ref (v 6), .ref (v 7), .ref (v 8), .ref (v 9), .int 0, .int 0, .int 0, .int 0, .int 0, .int 0, .int 0, .int 0, .int 0, .ref (v 10), .ref (v 11), .ref (v 12), .ref (v 13), .int 0, .ref (v 14), .ref (v 15), .ref (v 16), .ref (v 17), .ref (v 18), .int 0, .int 0, .int 0, .ref (v 19), .ref (v 20), .ref (v 21), .ref (v 22), .ref (v 23), .int 0, .int 0, .int 0, .int 0])), ((v 5), .inl (cy 0, 5, .inl (fun _ => 0))), (o, .inl (cy 6, 1, .inr (.inl (fun _ => 0))))] H) (hD : va_D (fun q => s.heap.size ≤ q) [((u 0), .inr (12, [.ref (u 1), .int 0, .int (-1), .ref (u 2), .ref (u 3), .ref (u 4), .ref (u 5), .ref (u 6), .ref (u 7), .ref (u 8), .int 0, .ref (u 9), .ref (u 10), .ref (u 11), .ref (u 12), .ref (u 13), .ref (u 14)])), ((u 3), .inr (4, [.ref (u 15), .ref (u 16), .ref (u 17), .ref (u 18), .ref (u 19), .ref (u 20), .ref (u 21), .ref (u 22), .ref (u 23), .ref (u 24), .ref (u 25), .ref (u 26), .int 0, .int 0, .int 0, .int 0, .int 0])), ((v 0), .inr (13, [.int 0, .int 0, .int 0, .int (-1), .int 0, .int 0, .int 0, .int 0, .ref (v 1), .ref (v 2), .ref (v 3), .ref (v 4), .ref (v 5), .ref (v 6), .ref (v 7), .ref (v 8), .ref (v 9), .int 0, .int 0, .int 0, .int 0, .int 0, .int 0, .int 0, .int 0, .int 0, .ref (v 10), .ref (v 11), .ref (v 12), .ref (v 13), .int 0, .ref (v 14), .ref (v 15), .ref (v 16), .ref (v 17), .ref (v 18), .int 0, .int 0, .int 0, .ref (v 19), .ref (v 20), .ref (v 21), .ref (v 22), .ref (v 23), .int 0, .int 0, .int 0, .int 0])), ((v 5), .inl (cy 0, 5, .inl (fun _ => 0))), (o, .inl (cy 6, 1, .inr (.inl (fun _ => 0))))]) (hS : va_S (fun q => s.heap.size ≤ q) s.heap H locs) (ls : Array Slot) (hl : lv_has ls 7 [(0, .ref b), (1, .ref (u 0)), (2, .ref (v 0)), (3, .ref o), (4, .int 0)]) : W p l e room_1 s m #[Value.ref b] below meth c H locs 179 322202 (lw_Z below #[Value.ref b] s) (F0 m 478 ls []) := by
  obtain ⟨A, hAe⟩ : ∃ A : Nat → Prop, A = fun q => s.heap.size ≤ q := ⟨_, rfl⟩
  rw [← hAe] at hG hD hS
  have hA : ∀ q, s.heap.size ≤ q → A q := fun q h => by rw [hAe]; exact h
  have hAs : ∀ q, A q → s.heap.size ≤ q := fun q h => by rw [hAe] at h; exact h
  have hbA : ¬ A b := by rw [hAe]; exact Nat.not_le.mpr hbl
  obtain ⟨hx, hb, hml, hown, hts, hr, hlk, hnm⟩ := id E
  have hown : s.vm.findClass RL = some m.cls := hown
  refine lv_aload_n hx hb dL_law_478 rfl (lv_at hl 1 rfl) ?_
  refine lv_aload_n hx hb dL_law_479 rfl (lv_at hl 0 rfl) ?_
  refine lv_iload hx hb dL_law_480 (lv_at hl 4 rfl) ?_
  refine lv_iconst (v := 1) hx hb dL_law_482 (by decide) ?_
  refine lv_iadd hx hb dL_law_483 ?_
  refine lv_topi (fun x1 ex1 => ?_)
  obtain rfl : x1 = 1 := ex1.trans (by decide)
  refine va_sld hx hb hX hbl hbA hS (by unfold vp_in; decide) dL_law_484 ?_
  refine lv_topi (fun x2 ex2 => ?_)
  obtain rfl : x2 = xs 1 := ex2.trans rfl
  refine lv_aload_n hx hb dL_law_485 rfl (lv_at hl 0 rfl) ?_
  refine lv_iload hx hb dL_law_486 (lv_at hl 4 rfl) ?_
  refine lv_iconst (v := 2) hx hb dL_law_488 (by decide) ?_
  refine lv_iadd hx hb dL_law_489 ?_
  refine lv_topi (fun x3 ex3 => ?_)
  obtain rfl : x3 = 2 := ex3.trans (by decide)
  refine va_sld hx hb hX hbl hbA hS (by unfold vp_in; decide) dL_law_490 ?_
  refine lv_topi (fun x4 ex4 => ?_)
  obtain rfl : x4 = xs 2 := ex4.trans rfl
  refine lv_aload_n hx hb dL_law_491 rfl (lv_at hl 3 rfl) ?_
  refine x_cali [2, 3] (⟨hP, hD, hG, hS, hA, rfl, rfl⟩ : kAt D cy sa A s H _ _ [((u 0), .inr (12, [.ref (u 1), .int 0, .int (-1), .ref (u 2), .ref (u 3), .ref (u 4), .ref (u 5), .ref (u 6), .ref (u 7), .ref (u 8), .int 0, .ref (u 9), .ref (u 10), .ref (u 11), .ref (u 12), .ref (u 13), .ref (u 14)])), ((u 3), .inr (4, [.ref (u 15), .ref (u 16), .ref (u 17), .ref (u 18), .ref (u 19), .ref (u 20), .ref (u 21), .ref (u 22), .ref (u 23), .ref (u 24), .ref (u 25), .ref (u 26), .int 0, .int 0, .int 0, .int 0, .int 0])), (o, .inl (cy 6, 1, .inr (.inl (fun _ => 0))))] [0, 1, 4]) (wr := [((v 0), .inr (13, [.int 0, .int 0, .int 0, .int (-1), .int 0, .int 0, .int 0, .int 0, .ref (v 1), .ref (v 2), .ref (v 3), .ref (v 4), .ref (v 5), .ref (v 6), .ref (v 7), .ref (v 8), .ref (v 9), .int 0, .int 0, .int 0, .int 0, .int 0, .int 0, .int 0, .int 0, .int 0, .ref (v 10), .ref (v 11), .ref (v 12), .ref (v 13), .int 0, .ref (v 14), .ref (v 15), .ref (v 16), .ref (v 17), .ref (v 18), .int 0, .int 0, .int 0, .ref (v 19), .ref (v 20), .ref (v 21), .ref (v 22), .ref (v 23), .int 0, .int 0, .int 0, .int 0])), ((v 5), .inl (cy 0, 5, .inl (fun _ => 0)))]) rfl rfl (by decide) (x_runW (As := [.ref (u 0), .int (xs 1), .int (xs 2), .ref o]) (rest := []) E lk_SRL_142 (w_now l hl0 D cy sa u o (xs 1) (xs 2) H.size) (⟨hP, hD, hG, hS, hA, rfl, rfl⟩ : kAt D cy sa A s H _ _ [((u 0), .inr (12, [.ref (u 1), .int 0, .int (-1), .ref (u 2), .ref (u 3), .ref (u 4), .ref (u 5), .ref (u 6), .ref (u 7), .ref (u 8), .int 0, .ref (u 9), .ref (u 10), .ref (u 11), .ref (u 12), .ref (u 13), .ref (u 14)])), ((u 3), .inr (4, [.ref (u 15), .ref (u 16), .ref (u 17), .ref (u 18), .ref (u 19), .ref (u 20), .ref (u 21), .ref (u 22), .ref (u 23), .ref (u 24), .ref (u 25), .ref (u 26), .int 0, .int 0, .int 0, .int 0, .int 0])), (o, .inl (cy 6, 1, .inr (.inl (fun _ => 0))))] [0, 1, 4]) hl.1 rfl rfl ⟨rfl, rfl, ⟨Nat.le_of_ble_eq_true rfl, Nat.le_of_ble_eq_true rfl⟩, ⟨Nat.le_of_ble_eq_true rfl, Nat.le_of_ble_eq_true rfl⟩, Nat.le_of_ble_eq_true rfl⟩ dL_law_492) (fun ce q9 u6 H locs hwu6 hP hD hS h1 h2 h3 => ?_) (fun r5 u6 H locs hwu6 hP hD hS => ?_)
  · have hP : va_P D vwCl [((v 0), .inr (13, [.int 0, .int 0, .int 0, .int (-1), .int 0, .int 0, .int 0, .int 0, .ref (v 1), .ref (v 2), .ref (v 3), .ref (v 4), .ref (v 5), .ref (v 6), .ref (v 7), .ref (v 8), .ref (v 9), .int 0, .int 0, .int 0, .int 0, .int 0, .int 0, .int 0, .int 0, .int 0, .ref (v 10), .ref (v 11), .ref (v 12), .ref (v 13), .int 0, .ref (v 14), .ref (v 15), .ref (v 16), .ref (v 17), .ref (v 18), .int 0, .int 0, .int 0, .ref (v 19), .ref (v 20), .ref (v 21), .ref (v 22), .ref (v 23), .int 0, .int 0, .int 0, .int 0])), ((v 5), .inl (cy 0, 5, .inl (fun _ => 0)))] H := hP
    have hD : va_D A [((v 0), .inr (13, [.int 0, .int 0, .int 0, .int (-1), .int 0, .int 0, .int 0, .int 0, .ref (v 1), .ref (v 2), .ref (v 3), .ref (v 4), .ref (v 5), .ref (v 6), .ref (v 7), .ref (v 8), .ref (v 9), .int 0, .int 0, .int 0, .int 0, .int 0, .int 0, .int 0, .int 0, .int 0, .ref (v 10), .ref (v 11), .ref (v 12), .ref (v 13), .int 0, .ref (v 14), .ref (v 15), .ref (v 16), .ref (v 17), .ref (v 18), .int 0, .int 0, .int 0, .ref (v 19), .ref (v 20), .ref (v 21), .ref (v 22), .ref (v 23), .int 0, .int 0, .int 0, .int 0])), ((v 5), .inl (cy 0, 5, .inl (fun _ => 0)))] := hD
    exact (hwu6).elim
  · have hP : va_P D vwCl [((v 0), .inr (13, [.int 0, .int 0, .int 0, .int (-1), .int 0, .int 0, .int 0, .int 0, .ref (v 1), .ref (v 2), .ref (v 3), .ref (v 4), .ref (v 5), .ref (v 6), .ref (v 7), .ref (v 8), .ref (v 9), .int 0, .int 0, .int 0, .int 0, .int 0, .int 0, .int 0, .int 0, .int 0, .ref (v 10), .ref (v 11), .ref (v 12), .ref (v 13), .int 0, .ref (v 14), .ref (v 15), .ref (v 16), .ref (v 17), .ref (v 18), .int 0, .int 0, .int 0, .ref (v 19), .ref (v 20), .ref (v 21), .ref (v 22), .ref (v 23), .int 0, .int 0, .int 0, .int 0])), ((v 5), .inl (cy 0, 5, .inl (fun _ => 0))), (o, .inl (cy 6, 1, .inr (.inl u6)))] H := hP
    have hD : va_D A [((v 0), .inr (13, [.int 0, .int 0, .int 0, .int (-1), .int 0, .int 0, .int 0, .int 0, .ref (v 1), .ref (v 2), .ref (v 3), .ref (v 4), .ref (v 5), .ref (v 6), .ref (v 7), .ref (v 8), .ref (v 9), .int 0, .int 0, .int 0, .int 0, .int 0, .int 0, .int 0, .int 0, .int 0, .ref (v 10), .ref (v 11), .ref (v 12), .ref (v 13), .int 0, .ref (v 14), .ref (v 15), .ref (v 16), .ref (v 17), .ref (v 18), .int 0, .int 0, .int 0, .ref (v 19), .ref (v 20), .ref (v 21), .ref (v 22), .ref (v 23), .int 0, .int 0, .int 0, .int 0])), ((v 5), .inl (cy 0, 5, .inl (fun _ => 0))), (o, .inl (cy 6, 1, .inr (.inl u6)))] := hD
    refine lv_istore (lv' := [(5, .int r5), (0, .ref b), (1, .ref (u 0)), (2, .ref (v 0)), (3, .ref o), (4, .int 0)]) hx hb dL_law_495 hl (by decide) rfl (fun ls hl => ?_)
    refine lv_aload_n hx hb dL_law_497 rfl (lv_at hl 3 rfl) ?_
    refine lv_aload_n hx hb dL_law_498 rfl (lv_at hl 1 rfl) ?_
    refine lv_iload hx hb dL_law_499 (lv_at hl 5 rfl) ?_
    refine lv_iconst (v := 1) hx hb dL_law_501 (by decide) ?_
    refine lv_iadd hx hb dL_law_502 ?_
    refine lv_topi (fun x7 ex7 => ?_)
    obtain rfl : x7 = 1 := ex7.trans (by decide)
    refine va_sld hx hb hX hbl hbA hS (by unfold vp_in; decide) dL_law_503 ?_
    refine lv_topi (fun x8 ex8 => ?_)
    obtain rfl : x8 = xs 1 := ex8.trans rfl
    refine lv_aload_n hx hb dL_law_504 rfl (lv_at hl 1 rfl) ?_
    refine lv_iload hx hb dL_law_505 (lv_at hl 5 rfl) ?_
    refine lv_iconst (v := 2) hx hb dL_law_507 (by decide) ?_
    refine lv_iadd hx hb dL_law_508 ?_
    refine lv_topi (fun x9 ex9 => ?_)
    obtain rfl : x9 = 2 := ex9.trans (by decide)
    refine va_sld hx hb hX hbl hbA hS (by unfold vp_in; decide) dL_law_509 ?_
    refine lv_topi (fun x10 ex10 => ?_)
    obtain rfl : x10 = xs 2 := ex10.trans rfl
    refine k_cali [2] (⟨hP, hD, hG, hS, hA, rfl, rfl⟩ : kAt D cy sa A s H _ _ [((v 0), .inr (13, [.int 0, .int 0, .int 0, .int (-1), .int 0, .int 0, .int 0, .int 0, .ref (v 1), .ref (v 2), .ref (v 3), .ref (v 4), .ref (v 5), .ref (v 6), .ref (v 7), .ref (v 8), .ref (v 9), .int 0, .int 0, .int 0, .int 0, .int 0, .int 0, .int 0, .int 0, .int 0, .ref (v 10), .ref (v 11), .ref (v 12), .ref (v 13), .int 0, .ref (v 14), .ref (v 15), .ref (v 16), .ref (v 17), .ref (v 18), .int 0, .int 0, .int 0, .ref (v 19), .ref (v 20), .ref (v 21), .ref (v 22), .ref (v 23), .int 0, .int 0, .int 0, .int 0])), ((v 5), .inl (cy 0, 5, .inl (fun _ => 0)))] [0, 1]) (wr := [(o, .inl (cy 6, 1, .inr (.inl u6)))]) rfl rfl (by decide) (k_runV 13 0 (As := [.int (xs 1), .int (xs 2)]) (rest := []) E lk_VRL_144 rfl rfl rfl (m_now_ l hl0 D cy sa v (xs 1) (xs 2) H.size) (⟨hP, hD, hG, hS, hA, rfl, rfl⟩ : kAt D cy sa A s H _ _ [((v 0), .inr (13, [.int 0, .int 0, .int 0, .int (-1), .int 0, .int 0, .int 0, .int 0, .ref (v 1), .ref (v 2), .ref (v 3), .ref (v 4), .ref (v 5), .ref (v 6), .ref (v 7), .ref (v 8), .ref (v 9), .int 0, .int 0, .int 0, .int 0, .int 0, .int 0, .int 0, .int 0, .int 0, .ref (v 10), .ref (v 11), .ref (v 12), .ref (v 13), .int 0, .ref (v 14), .ref (v 15), .ref (v 16), .ref (v 17), .ref (v 18), .int 0, .int 0, .int 0, .ref (v 19), .ref (v 20), .ref (v 21), .ref (v 22), .ref (v 23), .int 0, .int 0, .int 0, .int 0])), ((v 5), .inl (cy 0, 5, .inl (fun _ => 0)))] [0, 1]) hl.1 rfl rfl ⟨rfl, rfl, ⟨Nat.le_of_ble_eq_true rfl, Nat.le_of_ble_eq_true rfl⟩, ⟨Nat.le_of_ble_eq_true rfl, Nat.le_of_ble_eq_true rfl⟩, Nat.le_of_ble_eq_true rfl⟩ dL_law_510) (fun r11 u12 H locs hwu12 hP hD hS => ?_)
    have hP : va_P D vwCl [(o, .inl (cy 6, 1, .inr (.inl u6))), ((v 0), .inr (13, .int u12.1 :: u12.2))] H := hP
    have hD : va_D A [(o, .inl (cy 6, 1, .inr (.inl u6))), ((v 0), .inr (13, .int u12.1 :: u12.2))] := hD
    refine lv_istore (lv' := [(6, .int r11), (5, .int r5), (0, .ref b), (1, .ref (u 0)), (2, .ref (v 0)), (3, .ref o), (4, .int 0)]) hx hb dL_law_513 hl (by decide) rfl (fun ls hl => ?_)
    refine lv_aload_n hx hb dL_law_515 rfl (lv_at hl 4 rfl) ?_
    refine k_cali [0] (⟨hP, hD, hG, hS, hA, rfl, rfl⟩ : kAt D cy sa A s H _ _ [((v 0), .inr (13, .int u12.1 :: u12.2))] [1]) (wr := [(o, .inl (cy 6, 1, .inr (.inl u6)))]) rfl rfl (by decide) (k_runV 13 1 (As := []) (rest := []) E lk_VRL_127 rfl rfl rfl (m_thrown l hl0 D cy sa v u12.1 u12.2 H.size) (⟨hP, hD, hG, hS, hA, rfl, rfl⟩ : kAt D cy sa A s H _ _ [((v 0), .inr (13, .int u12.1 :: u12.2))] [1]) hl.1 rfl rfl ⟨rfl, rfl, ⟨Nat.le_of_ble_eq_true rfl, Nat.le_of_ble_eq_true rfl⟩, ⟨Nat.le_of_ble_eq_true rfl, Nat.le_of_ble_eq_true rfl⟩, Nat.le_of_ble_eq_true rfl⟩ dL_law_516) (fun r13 u14 H locs hwu14 hP hD hS => ?_)
    have hP : va_P D vwCl [(o, .inl (cy 6, 1, .inr (.inl u6)))] H := hP
    have hD : va_D A [(o, .inl (cy 6, 1, .inr (.inl u6)))] := hD
    rcases hwu6 with ⟨rfl, x9, hx9, hf9⟩ | ⟨rfl, hpx⟩
    · exact hx9.elim
    · obtain rfl : r13 = 1 := hwu14.trans (hwu12.2 id)
      refine lv_iload hx hb dL_law_519 (lv_at hl 1 rfl) ?_
      refine lv_icmp_eq (tgt := 526) hx hb dL_law_521 (by decide) (fun _ => ?_) (fun h => absurd (by decide) h)
      refine lv_iload hx hb dL_law_526 (lv_at hl 1 rfl) ?_
      refine lv_if_ne (tgt := 543) hx hb dL_law_528 (by decide) (fun _ => ?_) (fun h => absurd h (by decide))
      refine lv_goto (tgt := 2418) hx hb dL_law_543 (by decide) ?_
      refine lv_iinc (v := 6) (lv' := [(4, .int 6), (6, .int r11), (5, .int 1), (0, .ref b), (1, .ref (u 0)), (2, .ref (v 0)), (3, .ref o)]) hx hb dL_law_2418 hl (k := 6) rfl (by decide) (by decide) rfl (fun ls hl => ?_)
      refine lv_goto (tgt := 23) hx hb dL_law_2421 (by decide) ?_
      exact law_exit E hX hbl hbA hAs hS (i := 6) (by decide) (lv_at hl 3 rfl) (lv_at hl 0 rfl) (by decide) (by decide)

set_option maxHeartbeats 4000000 in
set_option maxRecDepth 100000 in
/-- the law: costs -/
theorem law_case_6 {p : Program} {l : Launch} {e : Env} {s : State} {m : MethodId} {below : List Frame} {meth : Method} {c : Code} {D : va_G} {cy : Nat → ClassId} {sa : Nat → Nat} {b : Nat} {xs : Nat → Int32} (hl0 : l.stackTraces = false) (E : kE yL_law cL_law 7 (some .boolean) #[Value.ref b] p s m meth c) (hX : va_X b 6 xs s s.heap) (hbl : b < s.heap.size) (hG : kG D cy sa (fun q => s.heap.size ≤ q) s) (u v : Nat → Nat) (o : Nat) (H : Heap) (locs : List Loc) (hP : va_P D vwCl [((u 0), .inr (12, [.ref (u 1), .int 0, .int (-1), .ref (u 2), .ref (u 3), .ref (u 4), .ref (u 5), .ref (u 6), .ref (u 7), .ref (u 8), .int 0, .ref (u 9), .ref (u 10), .ref (u 11), .ref (u 12), .ref (u 13), .ref (u 14)])), ((u 3), .inr (4, [.ref (u 15), .ref (u 16), .ref (u 17), .ref (u 18), .ref (u 19), .ref (u 20), .ref (u 21), .ref (u 22), .ref (u 23), .ref (u 24), .ref (u 25), .ref (u 26), .int 0, .int 0, .int 0, .int 0, .int 0])), ((v 0), .inr (13, [.int 0, .int 0, .int 0, .int (-1), .int 0, .int 0, .int 0, .int 0, .ref (v 1), .ref (v 2), .ref (v 3), .ref (v 4), .ref (v 5), .ref (v 6), .ref (v 7), .ref (v 8), .ref (v 9), .int 0, .int 0, .int 0, .int 0, .int 0, .int 0, .int 0, .int 0, .int 0, .ref (v 10), .ref (v 11), .ref (v 12), .ref (v 13), .int 0, .ref (v 14), .ref (v 15), .ref (v 16), .ref (v 17), .ref (v 18), .int 0, .int 0, .int 0, .ref (v 19), .ref (v 20), .ref (v 21), .ref (v 22), .ref (v 23), .int 0, .int 0, .int 0, .int 0])), ((v 5), .inl (cy 0, 5, .inl (fun _ => 0))), (o, .inl (cy 6, 1, .inr (.inl (fun _ => 0))))] H) (hD : va_D (fun q => s.heap.size ≤ q) [((u 0), .inr (12, [.ref (u 1), .int 0, .int (-1), .ref (u 2), .ref (u 3), .ref (u 4), .ref (u 5), .ref (u 6), .ref (u 7), .ref (u 8), .int 0, .ref (u 9), .ref (u 10), .ref (u 11), .ref (u 12), .ref (u 13), .ref (u 14)])), ((u 3), .inr (4, [.ref (u 15), .ref (u 16), .ref (u 17), .ref (u 18), .ref (u 19), .ref (u 20), .ref (u 21), .ref (u 22), .ref (u 23), .ref (u 24), .ref (u 25), .ref (u 26), .int 0, .int 0, .int 0, .int 0, .int 0])), ((v 0), .inr (13, [.int 0, .int 0, .int 0, .int (-1), .int 0, .int 0, .int 0, .int 0, .ref (v 1), .ref (v 2), .ref (v 3), .ref (v 4), .ref (v 5), .ref (v 6), .ref (v 7), .ref (v 8), .ref (v 9), .int 0, .int 0, .int 0, .int 0, .int 0, .int 0, .int 0, .int 0, .int 0, .ref (v 10), .ref (v 11), .ref (v 12), .ref (v 13), .int 0, .ref (v 14), .ref (v 15), .ref (v 16), .ref (v 17), .ref (v 18), .int 0, .int 0, .int 0, .ref (v 19), .ref (v 20), .ref (v 21), .ref (v 22), .ref (v 23), .int 0, .int 0, .int 0, .int 0])), ((v 5), .inl (cy 0, 5, .inl (fun _ => 0))), (o, .inl (cy 6, 1, .inr (.inl (fun _ => 0))))]) (hS : va_S (fun q => s.heap.size ≤ q) s.heap H locs) (ls : Array Slot) (hl : lv_has ls 7 [(0, .ref b), (1, .ref (u 0)), (2, .ref (v 0)), (3, .ref o), (4, .int 0)]) : W p l e room_1 s m #[Value.ref b] below meth c H locs 179 322202 (lw_Z below #[Value.ref b] s) (F0 m 546 ls []) := by
  obtain ⟨A, hAe⟩ : ∃ A : Nat → Prop, A = fun q => s.heap.size ≤ q := ⟨_, rfl⟩
  rw [← hAe] at hG hD hS
  have hA : ∀ q, s.heap.size ≤ q → A q := fun q h => by rw [hAe]; exact h
  have hAs : ∀ q, A q → s.heap.size ≤ q := fun q h => by rw [hAe] at h; exact h
  have hbA : ¬ A b := by rw [hAe]; exact Nat.not_le.mpr hbl
  obtain ⟨hx, hb, hml, hown, hts, hr, hlk, hnm⟩ := id E
  have hown : s.vm.findClass RL = some m.cls := hown
  refine lv_aload_n hx hb dL_law_546 rfl (lv_at hl 1 rfl) ?_
  refine lv_aload_n hx hb dL_law_547 rfl (lv_at hl 0 rfl) ?_
  refine lv_iload hx hb dL_law_548 (lv_at hl 4 rfl) ?_
  refine lv_iconst (v := 1) hx hb dL_law_550 (by decide) ?_
  refine lv_iadd hx hb dL_law_551 ?_
  refine lv_topi (fun x1 ex1 => ?_)
  obtain rfl : x1 = 1 := ex1.trans (by decide)
  refine va_sld hx hb hX hbl hbA hS (by unfold vp_in; decide) dL_law_552 ?_
  refine lv_topi (fun x2 ex2 => ?_)
  obtain rfl : x2 = xs 1 := ex2.trans rfl
  refine lv_aload_n hx hb dL_law_553 rfl (lv_at hl 0 rfl) ?_
  refine lv_iload hx hb dL_law_554 (lv_at hl 4 rfl) ?_
  refine lv_iconst (v := 2) hx hb dL_law_556 (by decide) ?_
  refine lv_iadd hx hb dL_law_557 ?_
  refine lv_topi (fun x3 ex3 => ?_)
  obtain rfl : x3 = 2 := ex3.trans (by decide)
  refine va_sld hx hb hX hbl hbA hS (by unfold vp_in; decide) dL_law_558 ?_
  refine lv_topi (fun x4 ex4 => ?_)
  obtain rfl : x4 = xs 2 := ex4.trans rfl
  refine lv_aload_n hx hb dL_law_559 rfl (lv_at hl 3 rfl) ?_
  refine x_cali [2, 3] (⟨hP, hD, hG, hS, hA, rfl, rfl⟩ : kAt D cy sa A s H _ _ [((u 0), .inr (12, [.ref (u 1), .int 0, .int (-1), .ref (u 2), .ref (u 3), .ref (u 4), .ref (u 5), .ref (u 6), .ref (u 7), .ref (u 8), .int 0, .ref (u 9), .ref (u 10), .ref (u 11), .ref (u 12), .ref (u 13), .ref (u 14)])), ((u 3), .inr (4, [.ref (u 15), .ref (u 16), .ref (u 17), .ref (u 18), .ref (u 19), .ref (u 20), .ref (u 21), .ref (u 22), .ref (u 23), .ref (u 24), .ref (u 25), .ref (u 26), .int 0, .int 0, .int 0, .int 0, .int 0])), (o, .inl (cy 6, 1, .inr (.inl (fun _ => 0))))] [0, 1, 4]) (wr := [((v 0), .inr (13, [.int 0, .int 0, .int 0, .int (-1), .int 0, .int 0, .int 0, .int 0, .ref (v 1), .ref (v 2), .ref (v 3), .ref (v 4), .ref (v 5), .ref (v 6), .ref (v 7), .ref (v 8), .ref (v 9), .int 0, .int 0, .int 0, .int 0, .int 0, .int 0, .int 0, .int 0, .int 0, .ref (v 10), .ref (v 11), .ref (v 12), .ref (v 13), .int 0, .ref (v 14), .ref (v 15), .ref (v 16), .ref (v 17), .ref (v 18), .int 0, .int 0, .int 0, .ref (v 19), .ref (v 20), .ref (v 21), .ref (v 22), .ref (v 23), .int 0, .int 0, .int 0, .int 0])), ((v 5), .inl (cy 0, 5, .inl (fun _ => 0)))]) rfl rfl (by decide) (x_runW (As := [.ref (u 0), .int (xs 1), .int (xs 2), .ref o]) (rest := []) E lk_SRL_145 (w_costs l hl0 D cy sa u o (xs 1) (xs 2) H.size) (⟨hP, hD, hG, hS, hA, rfl, rfl⟩ : kAt D cy sa A s H _ _ [((u 0), .inr (12, [.ref (u 1), .int 0, .int (-1), .ref (u 2), .ref (u 3), .ref (u 4), .ref (u 5), .ref (u 6), .ref (u 7), .ref (u 8), .int 0, .ref (u 9), .ref (u 10), .ref (u 11), .ref (u 12), .ref (u 13), .ref (u 14)])), ((u 3), .inr (4, [.ref (u 15), .ref (u 16), .ref (u 17), .ref (u 18), .ref (u 19), .ref (u 20), .ref (u 21), .ref (u 22), .ref (u 23), .ref (u 24), .ref (u 25), .ref (u 26), .int 0, .int 0, .int 0, .int 0, .int 0])), (o, .inl (cy 6, 1, .inr (.inl (fun _ => 0))))] [0, 1, 4]) hl.1 rfl rfl ⟨rfl, rfl, ⟨Nat.le_of_ble_eq_true rfl, Nat.le_of_ble_eq_true rfl⟩, ⟨Nat.le_of_ble_eq_true rfl, Nat.le_of_ble_eq_true rfl⟩, Nat.le_of_ble_eq_true rfl⟩ dL_law_560) (fun ce q9 u6 H locs hwu6 hP hD hS h1 h2 h3 => ?_) (fun r5 u6 H locs hwu6 hP hD hS => ?_)
  · have hP : va_P D vwCl [((v 0), .inr (13, [.int 0, .int 0, .int 0, .int (-1), .int 0, .int 0, .int 0, .int 0, .ref (v 1), .ref (v 2), .ref (v 3), .ref (v 4), .ref (v 5), .ref (v 6), .ref (v 7), .ref (v 8), .ref (v 9), .int 0, .int 0, .int 0, .int 0, .int 0, .int 0, .int 0, .int 0, .int 0, .ref (v 10), .ref (v 11), .ref (v 12), .ref (v 13), .int 0, .ref (v 14), .ref (v 15), .ref (v 16), .ref (v 17), .ref (v 18), .int 0, .int 0, .int 0, .ref (v 19), .ref (v 20), .ref (v 21), .ref (v 22), .ref (v 23), .int 0, .int 0, .int 0, .int 0])), ((v 5), .inl (cy 0, 5, .inl (fun _ => 0)))] H := hP
    have hD : va_D A [((v 0), .inr (13, [.int 0, .int 0, .int 0, .int (-1), .int 0, .int 0, .int 0, .int 0, .ref (v 1), .ref (v 2), .ref (v 3), .ref (v 4), .ref (v 5), .ref (v 6), .ref (v 7), .ref (v 8), .ref (v 9), .int 0, .int 0, .int 0, .int 0, .int 0, .int 0, .int 0, .int 0, .int 0, .ref (v 10), .ref (v 11), .ref (v 12), .ref (v 13), .int 0, .ref (v 14), .ref (v 15), .ref (v 16), .ref (v 17), .ref (v 18), .int 0, .int 0, .int 0, .ref (v 19), .ref (v 20), .ref (v 21), .ref (v 22), .ref (v 23), .int 0, .int 0, .int 0, .int 0])), ((v 5), .inl (cy 0, 5, .inl (fun _ => 0)))] := hD
    exact (hwu6).elim
  · have hP : va_P D vwCl [((v 0), .inr (13, [.int 0, .int 0, .int 0, .int (-1), .int 0, .int 0, .int 0, .int 0, .ref (v 1), .ref (v 2), .ref (v 3), .ref (v 4), .ref (v 5), .ref (v 6), .ref (v 7), .ref (v 8), .ref (v 9), .int 0, .int 0, .int 0, .int 0, .int 0, .int 0, .int 0, .int 0, .int 0, .ref (v 10), .ref (v 11), .ref (v 12), .ref (v 13), .int 0, .ref (v 14), .ref (v 15), .ref (v 16), .ref (v 17), .ref (v 18), .int 0, .int 0, .int 0, .ref (v 19), .ref (v 20), .ref (v 21), .ref (v 22), .ref (v 23), .int 0, .int 0, .int 0, .int 0])), ((v 5), .inl (cy 0, 5, .inl (fun _ => 0))), (o, .inl (cy 6, 1, .inr (.inl u6)))] H := hP
    have hD : va_D A [((v 0), .inr (13, [.int 0, .int 0, .int 0, .int (-1), .int 0, .int 0, .int 0, .int 0, .ref (v 1), .ref (v 2), .ref (v 3), .ref (v 4), .ref (v 5), .ref (v 6), .ref (v 7), .ref (v 8), .ref (v 9), .int 0, .int 0, .int 0, .int 0, .int 0, .int 0, .int 0, .int 0, .int 0, .ref (v 10), .ref (v 11), .ref (v 12), .ref (v 13), .int 0, .ref (v 14), .ref (v 15), .ref (v 16), .ref (v 17), .ref (v 18), .int 0, .int 0, .int 0, .ref (v 19), .ref (v 20), .ref (v 21), .ref (v 22), .ref (v 23), .int 0, .int 0, .int 0, .int 0])), ((v 5), .inl (cy 0, 5, .inl (fun _ => 0))), (o, .inl (cy 6, 1, .inr (.inl u6)))] := hD
    refine lv_istore (lv' := [(5, .int r5), (0, .ref b), (1, .ref (u 0)), (2, .ref (v 0)), (3, .ref o), (4, .int 0)]) hx hb dL_law_563 hl (by decide) rfl (fun ls hl => ?_)
    refine lv_aload_n hx hb dL_law_565 rfl (lv_at hl 3 rfl) ?_
    refine lv_aload_n hx hb dL_law_566 rfl (lv_at hl 1 rfl) ?_
    refine lv_iload hx hb dL_law_567 (lv_at hl 5 rfl) ?_
    refine lv_iconst (v := 1) hx hb dL_law_569 (by decide) ?_
    refine lv_iadd hx hb dL_law_570 ?_
    refine lv_topi (fun x7 ex7 => ?_)
    obtain rfl : x7 = 1 := ex7.trans (by decide)
    refine va_sld hx hb hX hbl hbA hS (by unfold vp_in; decide) dL_law_571 ?_
    refine lv_topi (fun x8 ex8 => ?_)
    obtain rfl : x8 = xs 1 := ex8.trans rfl
    refine lv_aload_n hx hb dL_law_572 rfl (lv_at hl 1 rfl) ?_
    refine lv_iload hx hb dL_law_573 (lv_at hl 5 rfl) ?_
    refine lv_iconst (v := 2) hx hb dL_law_575 (by decide) ?_
    refine lv_iadd hx hb dL_law_576 ?_
    refine lv_topi (fun x9 ex9 => ?_)
    obtain rfl : x9 = 2 := ex9.trans (by decide)
    refine va_sld hx hb hX hbl hbA hS (by unfold vp_in; decide) dL_law_577 ?_
    refine lv_topi (fun x10 ex10 => ?_)
    obtain rfl : x10 = xs 2 := ex10.trans rfl
    refine k_cali [2] (⟨hP, hD, hG, hS, hA, rfl, rfl⟩ : kAt D cy sa A s H _ _ [((v 0), .inr (13, [.int 0, .int 0, .int 0, .int (-1), .int 0, .int 0, .int 0, .int 0, .ref (v 1), .ref (v 2), .ref (v 3), .ref (v 4), .ref (v 5), .ref (v 6), .ref (v 7), .ref (v 8), .ref (v 9), .int 0, .int 0, .int 0, .int 0, .int 0, .int 0, .int 0, .int 0, .int 0, .ref (v 10), .ref (v 11), .ref (v 12), .ref (v 13), .int 0, .ref (v 14), .ref (v 15), .ref (v 16), .ref (v 17), .ref (v 18), .int 0, .int 0, .int 0, .ref (v 19), .ref (v 20), .ref (v 21), .ref (v 22), .ref (v 23), .int 0, .int 0, .int 0, .int 0])), ((v 5), .inl (cy 0, 5, .inl (fun _ => 0)))] [0, 1]) (wr := [(o, .inl (cy 6, 1, .inr (.inl u6)))]) rfl rfl (by decide) (k_runV 13 0 (As := [.int (xs 1), .int (xs 2)]) (rest := []) E lk_VRL_147 rfl rfl rfl (m_costs_ l hl0 D cy sa v (xs 1) (xs 2) H.size) (⟨hP, hD, hG, hS, hA, rfl, rfl⟩ : kAt D cy sa A s H _ _ [((v 0), .inr (13, [.int 0, .int 0, .int 0, .int (-1), .int 0, .int 0, .int 0, .int 0, .ref (v 1), .ref (v 2), .ref (v 3), .ref (v 4), .ref (v 5), .ref (v 6), .ref (v 7), .ref (v 8), .ref (v 9), .int 0, .int 0, .int 0, .int 0, .int 0, .int 0, .int 0, .int 0, .int 0, .ref (v 10), .ref (v 11), .ref (v 12), .ref (v 13), .int 0, .ref (v 14), .ref (v 15), .ref (v 16), .ref (v 17), .ref (v 18), .int 0, .int 0, .int 0, .ref (v 19), .ref (v 20), .ref (v 21), .ref (v 22), .ref (v 23), .int 0, .int 0, .int 0, .int 0])), ((v 5), .inl (cy 0, 5, .inl (fun _ => 0)))] [0, 1]) hl.1 rfl rfl ⟨rfl, rfl, ⟨Nat.le_of_ble_eq_true rfl, Nat.le_of_ble_eq_true rfl⟩, ⟨Nat.le_of_ble_eq_true rfl, Nat.le_of_ble_eq_true rfl⟩, Nat.le_of_ble_eq_true rfl⟩ dL_law_578) (fun r11 u12 H locs hwu12 hP hD hS => ?_)
    have hP : va_P D vwCl [(o, .inl (cy 6, 1, .inr (.inl u6))), ((v 0), .inr (13, .int u12.1 :: u12.2))] H := hP
    have hD : va_D A [(o, .inl (cy 6, 1, .inr (.inl u6))), ((v 0), .inr (13, .int u12.1 :: u12.2))] := hD
    refine lv_istore (lv' := [(6, .int r11), (5, .int r5), (0, .ref b), (1, .ref (u 0)), (2, .ref (v 0)), (3, .ref o), (4, .int 0)]) hx hb dL_law_581 hl (by decide) rfl (fun ls hl => ?_)
    refine lv_aload_n hx hb dL_law_583 rfl (lv_at hl 4 rfl) ?_
    refine k_cali [0] (⟨hP, hD, hG, hS, hA, rfl, rfl⟩ : kAt D cy sa A s H _ _ [((v 0), .inr (13, .int u12.1 :: u12.2))] [1]) (wr := [(o, .inl (cy 6, 1, .inr (.inl u6)))]) rfl rfl (by decide) (k_runV 13 1 (As := []) (rest := []) E lk_VRL_127 rfl rfl rfl (m_thrown l hl0 D cy sa v u12.1 u12.2 H.size) (⟨hP, hD, hG, hS, hA, rfl, rfl⟩ : kAt D cy sa A s H _ _ [((v 0), .inr (13, .int u12.1 :: u12.2))] [1]) hl.1 rfl rfl ⟨rfl, rfl, ⟨Nat.le_of_ble_eq_true rfl, Nat.le_of_ble_eq_true rfl⟩, ⟨Nat.le_of_ble_eq_true rfl, Nat.le_of_ble_eq_true rfl⟩, Nat.le_of_ble_eq_true rfl⟩ dL_law_584) (fun r13 u14 H locs hwu14 hP hD hS => ?_)
    have hP : va_P D vwCl [(o, .inl (cy 6, 1, .inr (.inl u6)))] H := hP
    have hD : va_D A [(o, .inl (cy 6, 1, .inr (.inl u6)))] := hD
    rcases hwu6 with ⟨rfl, x9, hx9, hf9⟩ | ⟨rfl, hpx⟩
    · exact hx9.elim
    · obtain rfl : r13 = 1 := hwu14.trans (hwu12.2 id)
      refine lv_iload hx hb dL_law_587 (lv_at hl 1 rfl) ?_
      refine lv_icmp_eq (tgt := 594) hx hb dL_law_589 (by decide) (fun _ => ?_) (fun h => absurd (by decide) h)
      refine lv_iload hx hb dL_law_594 (lv_at hl 1 rfl) ?_
      refine lv_if_ne (tgt := 611) hx hb dL_law_596 (by decide) (fun _ => ?_) (fun h => absurd h (by decide))
      refine lv_goto (tgt := 2418) hx hb dL_law_611 (by decide) ?_
      refine lv_iinc (v := 6) (lv' := [(4, .int 6), (6, .int r11), (5, .int 1), (0, .ref b), (1, .ref (u 0)), (2, .ref (v 0)), (3, .ref o)]) hx hb dL_law_2418 hl (k := 6) rfl (by decide) (by decide) rfl (fun ls hl => ?_)
      refine lv_goto (tgt := 23) hx hb dL_law_2421 (by decide) ?_
      exact law_exit E hX hbl hbA hAs hS (i := 6) (by decide) (lv_at hl 3 rfl) (lv_at hl 0 rfl) (by decide) (by decide)

set_option maxHeartbeats 4000000 in
set_option maxRecDepth 100000 in
/-- the law: pass -/
theorem law_case_7 {p : Program} {l : Launch} {e : Env} {s : State} {m : MethodId} {below : List Frame} {meth : Method} {c : Code} {D : va_G} {cy : Nat → ClassId} {sa : Nat → Nat} {b : Nat} {xs : Nat → Int32} (hl0 : l.stackTraces = false) (E : kE yL_law cL_law 7 (some .boolean) #[Value.ref b] p s m meth c) (hX : va_X b 6 xs s s.heap) (hbl : b < s.heap.size) (hG : kG D cy sa (fun q => s.heap.size ≤ q) s) (u v : Nat → Nat) (o : Nat) (H : Heap) (locs : List Loc) (hP : va_P D vwCl [((u 0), .inr (12, [.ref (u 1), .int 0, .int (-1), .ref (u 2), .ref (u 3), .ref (u 4), .ref (u 5), .ref (u 6), .ref (u 7), .ref (u 8), .int 0, .ref (u 9), .ref (u 10), .ref (u 11), .ref (u 12), .ref (u 13), .ref (u 14)])), ((u 3), .inr (4, [.ref (u 15), .ref (u 16), .ref (u 17), .ref (u 18), .ref (u 19), .ref (u 20), .ref (u 21), .ref (u 22), .ref (u 23), .ref (u 24), .ref (u 25), .ref (u 26), .int 0, .int 0, .int 0, .int 0, .int 0])), ((v 0), .inr (13, [.int 0, .int 0, .int 0, .int (-1), .int 0, .int 0, .int 0, .int 0, .ref (v 1), .ref (v 2), .ref (v 3), .ref (v 4), .ref (v 5), .ref (v 6), .ref (v 7), .ref (v 8), .ref (v 9), .int 0, .int 0, .int 0, .int 0, .int 0, .int 0, .int 0, .int 0, .int 0, .ref (v 10), .ref (v 11), .ref (v 12), .ref (v 13), .int 0, .ref (v 14), .ref (v 15), .ref (v 16), .ref (v 17), .ref (v 18), .int 0, .int 0, .int 0, .ref (v 19), .ref (v 20), .ref (v 21), .ref (v 22), .ref (v 23), .int 0, .int 0, .int 0, .int 0])), ((v 5), .inl (cy 0, 5, .inl (fun _ => 0))), (o, .inl (cy 6, 1, .inr (.inl (fun _ => 0))))] H) (hD : va_D (fun q => s.heap.size ≤ q) [((u 0), .inr (12, [.ref (u 1), .int 0, .int (-1), .ref (u 2), .ref (u 3), .ref (u 4), .ref (u 5), .ref (u 6), .ref (u 7), .ref (u 8), .int 0, .ref (u 9), .ref (u 10), .ref (u 11), .ref (u 12), .ref (u 13), .ref (u 14)])), ((u 3), .inr (4, [.ref (u 15), .ref (u 16), .ref (u 17), .ref (u 18), .ref (u 19), .ref (u 20), .ref (u 21), .ref (u 22), .ref (u 23), .ref (u 24), .ref (u 25), .ref (u 26), .int 0, .int 0, .int 0, .int 0, .int 0])), ((v 0), .inr (13, [.int 0, .int 0, .int 0, .int (-1), .int 0, .int 0, .int 0, .int 0, .ref (v 1), .ref (v 2), .ref (v 3), .ref (v 4), .ref (v 5), .ref (v 6), .ref (v 7), .ref (v 8), .ref (v 9), .int 0, .int 0, .int 0, .int 0, .int 0, .int 0, .int 0, .int 0, .int 0, .ref (v 10), .ref (v 11), .ref (v 12), .ref (v 13), .int 0, .ref (v 14), .ref (v 15), .ref (v 16), .ref (v 17), .ref (v 18), .int 0, .int 0, .int 0, .ref (v 19), .ref (v 20), .ref (v 21), .ref (v 22), .ref (v 23), .int 0, .int 0, .int 0, .int 0])), ((v 5), .inl (cy 0, 5, .inl (fun _ => 0))), (o, .inl (cy 6, 1, .inr (.inl (fun _ => 0))))]) (hS : va_S (fun q => s.heap.size ≤ q) s.heap H locs) (ls : Array Slot) (hl : lv_has ls 7 [(0, .ref b), (1, .ref (u 0)), (2, .ref (v 0)), (3, .ref o), (4, .int 0)]) : W p l e room_1 s m #[Value.ref b] below meth c H locs 179 322202 (lw_Z below #[Value.ref b] s) (F0 m 614 ls []) := by
  obtain ⟨A, hAe⟩ : ∃ A : Nat → Prop, A = fun q => s.heap.size ≤ q := ⟨_, rfl⟩
  rw [← hAe] at hG hD hS
  have hA : ∀ q, s.heap.size ≤ q → A q := fun q h => by rw [hAe]; exact h
  have hAs : ∀ q, A q → s.heap.size ≤ q := fun q h => by rw [hAe] at h; exact h
  have hbA : ¬ A b := by rw [hAe]; exact Nat.not_le.mpr hbl
  obtain ⟨hx, hb, hml, hown, hts, hr, hlk, hnm⟩ := id E
  have hown : s.vm.findClass RL = some m.cls := hown
  refine lv_aload_n hx hb dL_law_614 rfl (lv_at hl 1 rfl) ?_
  refine lv_aload_n hx hb dL_law_615 rfl (lv_at hl 0 rfl) ?_
  refine lv_iload hx hb dL_law_616 (lv_at hl 4 rfl) ?_
  refine lv_iconst (v := 1) hx hb dL_law_618 (by decide) ?_
  refine lv_iadd hx hb dL_law_619 ?_
  refine lv_topi (fun x1 ex1 => ?_)
  obtain rfl : x1 = 1 := ex1.trans (by decide)
  refine va_sld hx hb hX hbl hbA hS (by unfold vp_in; decide) dL_law_620 ?_
  refine lv_topi (fun x2 ex2 => ?_)
  obtain rfl : x2 = xs 1 := ex2.trans rfl
  refine lv_aload_n hx hb dL_law_621 rfl (lv_at hl 3 rfl) ?_
  refine x_cali [2, 3] (⟨hP, hD, hG, hS, hA, rfl, rfl⟩ : kAt D cy sa A s H _ _ [((u 0), .inr (12, [.ref (u 1), .int 0, .int (-1), .ref (u 2), .ref (u 3), .ref (u 4), .ref (u 5), .ref (u 6), .ref (u 7), .ref (u 8), .int 0, .ref (u 9), .ref (u 10), .ref (u 11), .ref (u 12), .ref (u 13), .ref (u 14)])), ((u 3), .inr (4, [.ref (u 15), .ref (u 16), .ref (u 17), .ref (u 18), .ref (u 19), .ref (u 20), .ref (u 21), .ref (u 22), .ref (u 23), .ref (u 24), .ref (u 25), .ref (u 26), .int 0, .int 0, .int 0, .int 0, .int 0])), (o, .inl (cy 6, 1, .inr (.inl (fun _ => 0))))] [0, 1, 4]) (wr := [((v 0), .inr (13, [.int 0, .int 0, .int 0, .int (-1), .int 0, .int 0, .int 0, .int 0, .ref (v 1), .ref (v 2), .ref (v 3), .ref (v 4), .ref (v 5), .ref (v 6), .ref (v 7), .ref (v 8), .ref (v 9), .int 0, .int 0, .int 0, .int 0, .int 0, .int 0, .int 0, .int 0, .int 0, .ref (v 10), .ref (v 11), .ref (v 12), .ref (v 13), .int 0, .ref (v 14), .ref (v 15), .ref (v 16), .ref (v 17), .ref (v 18), .int 0, .int 0, .int 0, .ref (v 19), .ref (v 20), .ref (v 21), .ref (v 22), .ref (v 23), .int 0, .int 0, .int 0, .int 0])), ((v 5), .inl (cy 0, 5, .inl (fun _ => 0)))]) rfl rfl (by decide) (x_runW (As := [.ref (u 0), .int (xs 1), .ref o]) (rest := []) E lk_SRL_148 (w_pass l hl0 D cy sa u o (xs 1) H.size) (⟨hP, hD, hG, hS, hA, rfl, rfl⟩ : kAt D cy sa A s H _ _ [((u 0), .inr (12, [.ref (u 1), .int 0, .int (-1), .ref (u 2), .ref (u 3), .ref (u 4), .ref (u 5), .ref (u 6), .ref (u 7), .ref (u 8), .int 0, .ref (u 9), .ref (u 10), .ref (u 11), .ref (u 12), .ref (u 13), .ref (u 14)])), ((u 3), .inr (4, [.ref (u 15), .ref (u 16), .ref (u 17), .ref (u 18), .ref (u 19), .ref (u 20), .ref (u 21), .ref (u 22), .ref (u 23), .ref (u 24), .ref (u 25), .ref (u 26), .int 0, .int 0, .int 0, .int 0, .int 0])), (o, .inl (cy 6, 1, .inr (.inl (fun _ => 0))))] [0, 1, 4]) hl.1 rfl rfl ⟨rfl, rfl, ⟨Nat.le_of_ble_eq_true rfl, Nat.le_of_ble_eq_true rfl⟩, ⟨Nat.le_of_ble_eq_true rfl, Nat.le_of_ble_eq_true rfl⟩, Nat.le_of_ble_eq_true rfl⟩ dL_law_622) (fun ce q9 u4 H locs hwu4 hP hD hS h1 h2 h3 => ?_) (fun r3 u4 H locs hwu4 hP hD hS => ?_)
  · have hP : va_P D vwCl [((v 0), .inr (13, [.int 0, .int 0, .int 0, .int (-1), .int 0, .int 0, .int 0, .int 0, .ref (v 1), .ref (v 2), .ref (v 3), .ref (v 4), .ref (v 5), .ref (v 6), .ref (v 7), .ref (v 8), .ref (v 9), .int 0, .int 0, .int 0, .int 0, .int 0, .int 0, .int 0, .int 0, .int 0, .ref (v 10), .ref (v 11), .ref (v 12), .ref (v 13), .int 0, .ref (v 14), .ref (v 15), .ref (v 16), .ref (v 17), .ref (v 18), .int 0, .int 0, .int 0, .ref (v 19), .ref (v 20), .ref (v 21), .ref (v 22), .ref (v 23), .int 0, .int 0, .int 0, .int 0])), ((v 5), .inl (cy 0, 5, .inl (fun _ => 0)))] H := hP
    have hD : va_D A [((v 0), .inr (13, [.int 0, .int 0, .int 0, .int (-1), .int 0, .int 0, .int 0, .int 0, .ref (v 1), .ref (v 2), .ref (v 3), .ref (v 4), .ref (v 5), .ref (v 6), .ref (v 7), .ref (v 8), .ref (v 9), .int 0, .int 0, .int 0, .int 0, .int 0, .int 0, .int 0, .int 0, .int 0, .ref (v 10), .ref (v 11), .ref (v 12), .ref (v 13), .int 0, .ref (v 14), .ref (v 15), .ref (v 16), .ref (v 17), .ref (v 18), .int 0, .int 0, .int 0, .ref (v 19), .ref (v 20), .ref (v 21), .ref (v 22), .ref (v 23), .int 0, .int 0, .int 0, .int 0])), ((v 5), .inl (cy 0, 5, .inl (fun _ => 0)))] := hD
    exact (hwu4).elim
  · have hP : va_P D vwCl [((v 0), .inr (13, [.int 0, .int 0, .int 0, .int (-1), .int 0, .int 0, .int 0, .int 0, .ref (v 1), .ref (v 2), .ref (v 3), .ref (v 4), .ref (v 5), .ref (v 6), .ref (v 7), .ref (v 8), .ref (v 9), .int 0, .int 0, .int 0, .int 0, .int 0, .int 0, .int 0, .int 0, .int 0, .ref (v 10), .ref (v 11), .ref (v 12), .ref (v 13), .int 0, .ref (v 14), .ref (v 15), .ref (v 16), .ref (v 17), .ref (v 18), .int 0, .int 0, .int 0, .ref (v 19), .ref (v 20), .ref (v 21), .ref (v 22), .ref (v 23), .int 0, .int 0, .int 0, .int 0])), ((v 5), .inl (cy 0, 5, .inl (fun _ => 0))), (o, .inl (cy 6, 1, .inr (.inl u4)))] H := hP
    have hD : va_D A [((v 0), .inr (13, [.int 0, .int 0, .int 0, .int (-1), .int 0, .int 0, .int 0, .int 0, .ref (v 1), .ref (v 2), .ref (v 3), .ref (v 4), .ref (v 5), .ref (v 6), .ref (v 7), .ref (v 8), .ref (v 9), .int 0, .int 0, .int 0, .int 0, .int 0, .int 0, .int 0, .int 0, .int 0, .ref (v 10), .ref (v 11), .ref (v 12), .ref (v 13), .int 0, .ref (v 14), .ref (v 15), .ref (v 16), .ref (v 17), .ref (v 18), .int 0, .int 0, .int 0, .ref (v 19), .ref (v 20), .ref (v 21), .ref (v 22), .ref (v 23), .int 0, .int 0, .int 0, .int 0])), ((v 5), .inl (cy 0, 5, .inl (fun _ => 0))), (o, .inl (cy 6, 1, .inr (.inl u4)))] := hD
    refine lv_istore (lv' := [(5, .int r3), (0, .ref b), (1, .ref (u 0)), (2, .ref (v 0)), (3, .ref o), (4, .int 0)]) hx hb dL_law_625 hl (by decide) rfl (fun ls hl => ?_)
    refine lv_aload_n hx hb dL_law_627 rfl (lv_at hl 3 rfl) ?_
    refine lv_aload_n hx hb dL_law_628 rfl (lv_at hl 1 rfl) ?_
    refine lv_iload hx hb dL_law_629 (lv_at hl 5 rfl) ?_
    refine lv_iconst (v := 1) hx hb dL_law_631 (by decide) ?_
    refine lv_iadd hx hb dL_law_632 ?_
    refine lv_topi (fun x5 ex5 => ?_)
    obtain rfl : x5 = 1 := ex5.trans (by decide)
    refine va_sld hx hb hX hbl hbA hS (by unfold vp_in; decide) dL_law_633 ?_
    refine lv_topi (fun x6 ex6 => ?_)
    obtain rfl : x6 = xs 1 := ex6.trans rfl
    refine k_cali [2] (⟨hP, hD, hG, hS, hA, rfl, rfl⟩ : kAt D cy sa A s H _ _ [((v 0), .inr (13, [.int 0, .int 0, .int 0, .int (-1), .int 0, .int 0, .int 0, .int 0, .ref (v 1), .ref (v 2), .ref (v 3), .ref (v 4), .ref (v 5), .ref (v 6), .ref (v 7), .ref (v 8), .ref (v 9), .int 0, .int 0, .int 0, .int 0, .int 0, .int 0, .int 0, .int 0, .int 0, .ref (v 10), .ref (v 11), .ref (v 12), .ref (v 13), .int 0, .ref (v 14), .ref (v 15), .ref (v 16), .ref (v 17), .ref (v 18), .int 0, .int 0, .int 0, .ref (v 19), .ref (v 20), .ref (v 21), .ref (v 22), .ref (v 23), .int 0, .int 0, .int 0, .int 0])), ((v 5), .inl (cy 0, 5, .inl (fun _ => 0)))] [0, 1]) (wr := [(o, .inl (cy 6, 1, .inr (.inl u4)))]) rfl rfl (by decide) (k_runV 13 0 (As := [.int (xs 1)]) (rest := []) E lk_VRL_150 rfl rfl rfl (m_pass_ l hl0 D cy sa v (xs 1) H.size) (⟨hP, hD, hG, hS, hA, rfl, rfl⟩ : kAt D cy sa A s H _ _ [((v 0), .inr (13, [.int 0, .int 0, .int 0, .int (-1), .int 0, .int 0, .int 0, .int 0, .ref (v 1), .ref (v 2), .ref (v 3), .ref (v 4), .ref (v 5), .ref (v 6), .ref (v 7), .ref (v 8), .ref (v 9), .int 0, .int 0, .int 0, .int 0, .int 0, .int 0, .int 0, .int 0, .int 0, .ref (v 10), .ref (v 11), .ref (v 12), .ref (v 13), .int 0, .ref (v 14), .ref (v 15), .ref (v 16), .ref (v 17), .ref (v 18), .int 0, .int 0, .int 0, .ref (v 19), .ref (v 20), .ref (v 21), .ref (v 22), .ref (v 23), .int 0, .int 0, .int 0, .int 0])), ((v 5), .inl (cy 0, 5, .inl (fun _ => 0)))] [0, 1]) hl.1 rfl rfl ⟨rfl, rfl, ⟨Nat.le_of_ble_eq_true rfl, Nat.le_of_ble_eq_true rfl⟩, ⟨Nat.le_of_ble_eq_true rfl, Nat.le_of_ble_eq_true rfl⟩, Nat.le_of_ble_eq_true rfl⟩ dL_law_634) (fun r7 u8 H locs hwu8 hP hD hS => ?_)
    have hP : va_P D vwCl [(o, .inl (cy 6, 1, .inr (.inl u4))), ((v 0), .inr (13, .int u8.1 :: u8.2))] H := hP
    have hD : va_D A [(o, .inl (cy 6, 1, .inr (.inl u4))), ((v 0), .inr (13, .int u8.1 :: u8.2))] := hD
    refine lv_istore (lv' := [(6, .int r7), (5, .int r3), (0, .ref b), (1, .ref (u 0)), (2, .ref (v 0)), (3, .ref o), (4, .int 0)]) hx hb dL_law_637 hl (by decide) rfl (fun ls hl => ?_)
    refine lv_aload_n hx hb dL_law_639 rfl (lv_at hl 4 rfl) ?_
    refine k_cali [0] (⟨hP, hD, hG, hS, hA, rfl, rfl⟩ : kAt D cy sa A s H _ _ [((v 0), .inr (13, .int u8.1 :: u8.2))] [1]) (wr := [(o, .inl (cy 6, 1, .inr (.inl u4)))]) rfl rfl (by decide) (k_runV 13 1 (As := []) (rest := []) E lk_VRL_127 rfl rfl rfl (m_thrown l hl0 D cy sa v u8.1 u8.2 H.size) (⟨hP, hD, hG, hS, hA, rfl, rfl⟩ : kAt D cy sa A s H _ _ [((v 0), .inr (13, .int u8.1 :: u8.2))] [1]) hl.1 rfl rfl ⟨rfl, rfl, ⟨Nat.le_of_ble_eq_true rfl, Nat.le_of_ble_eq_true rfl⟩, ⟨Nat.le_of_ble_eq_true rfl, Nat.le_of_ble_eq_true rfl⟩, Nat.le_of_ble_eq_true rfl⟩ dL_law_640) (fun r9 u10 H locs hwu10 hP hD hS => ?_)
    have hP : va_P D vwCl [(o, .inl (cy 6, 1, .inr (.inl u4)))] H := hP
    have hD : va_D A [(o, .inl (cy 6, 1, .inr (.inl u4)))] := hD
    rcases hwu4 with ⟨rfl, x9, hx9, hf9⟩ | ⟨rfl, hpx⟩
    · exact hx9.elim
    · obtain rfl : r9 = 1 := hwu10.trans (hwu8.2 id)
      refine lv_iload hx hb dL_law_643 (lv_at hl 1 rfl) ?_
      refine lv_icmp_eq (tgt := 650) hx hb dL_law_645 (by decide) (fun _ => ?_) (fun h => absurd (by decide) h)
      refine lv_iload hx hb dL_law_650 (lv_at hl 1 rfl) ?_
      refine lv_if_ne (tgt := 667) hx hb dL_law_652 (by decide) (fun _ => ?_) (fun h => absurd h (by decide))
      refine lv_goto (tgt := 2418) hx hb dL_law_667 (by decide) ?_
      refine lv_iinc (v := 6) (lv' := [(4, .int 6), (6, .int r7), (5, .int 1), (0, .ref b), (1, .ref (u 0)), (2, .ref (v 0)), (3, .ref o)]) hx hb dL_law_2418 hl (k := 6) rfl (by decide) (by decide) rfl (fun ls hl => ?_)
      refine lv_goto (tgt := 23) hx hb dL_law_2421 (by decide) ?_
      exact law_exit E hX hbl hbA hAs hS (i := 6) (by decide) (lv_at hl 3 rfl) (lv_at hl 0 rfl) (by decide) (by decide)

set_option maxHeartbeats 4000000 in
set_option maxRecDepth 100000 in
/-- the law: mind -/
theorem law_case_8 {p : Program} {l : Launch} {e : Env} {s : State} {m : MethodId} {below : List Frame} {meth : Method} {c : Code} {D : va_G} {cy : Nat → ClassId} {sa : Nat → Nat} {b : Nat} {xs : Nat → Int32} (hl0 : l.stackTraces = false) (E : kE yL_law cL_law 7 (some .boolean) #[Value.ref b] p s m meth c) (hX : va_X b 6 xs s s.heap) (hbl : b < s.heap.size) (hG : kG D cy sa (fun q => s.heap.size ≤ q) s) (u v : Nat → Nat) (o : Nat) (H : Heap) (locs : List Loc) (hP : va_P D vwCl [((u 0), .inr (12, [.ref (u 1), .int 0, .int (-1), .ref (u 2), .ref (u 3), .ref (u 4), .ref (u 5), .ref (u 6), .ref (u 7), .ref (u 8), .int 0, .ref (u 9), .ref (u 10), .ref (u 11), .ref (u 12), .ref (u 13), .ref (u 14)])), ((u 3), .inr (4, [.ref (u 15), .ref (u 16), .ref (u 17), .ref (u 18), .ref (u 19), .ref (u 20), .ref (u 21), .ref (u 22), .ref (u 23), .ref (u 24), .ref (u 25), .ref (u 26), .int 0, .int 0, .int 0, .int 0, .int 0])), ((v 0), .inr (13, [.int 0, .int 0, .int 0, .int (-1), .int 0, .int 0, .int 0, .int 0, .ref (v 1), .ref (v 2), .ref (v 3), .ref (v 4), .ref (v 5), .ref (v 6), .ref (v 7), .ref (v 8), .ref (v 9), .int 0, .int 0, .int 0, .int 0, .int 0, .int 0, .int 0, .int 0, .int 0, .ref (v 10), .ref (v 11), .ref (v 12), .ref (v 13), .int 0, .ref (v 14), .ref (v 15), .ref (v 16), .ref (v 17), .ref (v 18), .int 0, .int 0, .int 0, .ref (v 19), .ref (v 20), .ref (v 21), .ref (v 22), .ref (v 23), .int 0, .int 0, .int 0, .int 0])), ((v 5), .inl (cy 0, 5, .inl (fun _ => 0))), (o, .inl (cy 6, 1, .inr (.inl (fun _ => 0))))] H) (hD : va_D (fun q => s.heap.size ≤ q) [((u 0), .inr (12, [.ref (u 1), .int 0, .int (-1), .ref (u 2), .ref (u 3), .ref (u 4), .ref (u 5), .ref (u 6), .ref (u 7), .ref (u 8), .int 0, .ref (u 9), .ref (u 10), .ref (u 11), .ref (u 12), .ref (u 13), .ref (u 14)])), ((u 3), .inr (4, [.ref (u 15), .ref (u 16), .ref (u 17), .ref (u 18), .ref (u 19), .ref (u 20), .ref (u 21), .ref (u 22), .ref (u 23), .ref (u 24), .ref (u 25), .ref (u 26), .int 0, .int 0, .int 0, .int 0, .int 0])), ((v 0), .inr (13, [.int 0, .int 0, .int 0, .int (-1), .int 0, .int 0, .int 0, .int 0, .ref (v 1), .ref (v 2), .ref (v 3), .ref (v 4), .ref (v 5), .ref (v 6), .ref (v 7), .ref (v 8), .ref (v 9), .int 0, .int 0, .int 0, .int 0, .int 0, .int 0, .int 0, .int 0, .int 0, .ref (v 10), .ref (v 11), .ref (v 12), .ref (v 13), .int 0, .ref (v 14), .ref (v 15), .ref (v 16), .ref (v 17), .ref (v 18), .int 0, .int 0, .int 0, .ref (v 19), .ref (v 20), .ref (v 21), .ref (v 22), .ref (v 23), .int 0, .int 0, .int 0, .int 0])), ((v 5), .inl (cy 0, 5, .inl (fun _ => 0))), (o, .inl (cy 6, 1, .inr (.inl (fun _ => 0))))]) (hS : va_S (fun q => s.heap.size ≤ q) s.heap H locs) (ls : Array Slot) (hl : lv_has ls 7 [(0, .ref b), (1, .ref (u 0)), (2, .ref (v 0)), (3, .ref o), (4, .int 0)]) : W p l e room_1 s m #[Value.ref b] below meth c H locs 179 322202 (lw_Z below #[Value.ref b] s) (F0 m 670 ls []) := by
  obtain ⟨A, hAe⟩ : ∃ A : Nat → Prop, A = fun q => s.heap.size ≤ q := ⟨_, rfl⟩
  rw [← hAe] at hG hD hS
  have hA : ∀ q, s.heap.size ≤ q → A q := fun q h => by rw [hAe]; exact h
  have hAs : ∀ q, A q → s.heap.size ≤ q := fun q h => by rw [hAe] at h; exact h
  have hbA : ¬ A b := by rw [hAe]; exact Nat.not_le.mpr hbl
  obtain ⟨hx, hb, hml, hown, hts, hr, hlk, hnm⟩ := id E
  have hown : s.vm.findClass RL = some m.cls := hown
  refine lv_aload_n hx hb dL_law_670 rfl (lv_at hl 1 rfl) ?_
  refine k_cali [2, 3, 4] (⟨hP, hD, hG, hS, hA, rfl, rfl⟩ : kAt D cy sa A s H _ _ [((u 0), .inr (12, [.ref (u 1), .int 0, .int (-1), .ref (u 2), .ref (u 3), .ref (u 4), .ref (u 5), .ref (u 6), .ref (u 7), .ref (u 8), .int 0, .ref (u 9), .ref (u 10), .ref (u 11), .ref (u 12), .ref (u 13), .ref (u 14)])), ((u 3), .inr (4, [.ref (u 15), .ref (u 16), .ref (u 17), .ref (u 18), .ref (u 19), .ref (u 20), .ref (u 21), .ref (u 22), .ref (u 23), .ref (u 24), .ref (u 25), .ref (u 26), .int 0, .int 0, .int 0, .int 0, .int 0]))] [0, 1]) (wr := [((v 0), .inr (13, [.int 0, .int 0, .int 0, .int (-1), .int 0, .int 0, .int 0, .int 0, .ref (v 1), .ref (v 2), .ref (v 3), .ref (v 4), .ref (v 5), .ref (v 6), .ref (v 7), .ref (v 8), .ref (v 9), .int 0, .int 0, .int 0, .int 0, .int 0, .int 0, .int 0, .int 0, .int 0, .ref (v 10), .ref (v 11), .ref (v 12), .ref (v 13), .int 0, .ref (v 14), .ref (v 15), .ref (v 16), .ref (v 17), .ref (v 18), .int 0, .int 0, .int 0, .ref (v 19), .ref (v 20), .ref (v 21), .ref (v 22), .ref (v 23), .int 0, .int 0, .int 0, .int 0])), ((v 5), .inl (cy 0, 5, .inl (fun _ => 0))), (o, .inl (cy 6, 1, .inr (.inl (fun _ => 0))))]) rfl rfl (by decide) (k_runV 12 0 (As := []) (rest := []) E lk_VRL_151 rfl rfl rfl (c_LM_mind l hl0 D cy sa u  H.size) (⟨hP, hD, hG, hS, hA, rfl, rfl⟩ : kAt D cy sa A s H _ _ [((u 0), .inr (12, [.ref (u 1), .int 0, .int (-1), .ref (u 2), .ref (u 3), .ref (u 4), .ref (u 5), .ref (u 6), .ref (u 7), .ref (u 8), .int 0, .ref (u 9), .ref (u 10), .ref (u 11), .ref (u 12), .ref (u 13), .ref (u 14)])), ((u 3), .inr (4, [.ref (u 15), .ref (u 16), .ref (u 17), .ref (u 18), .ref (u 19), .ref (u 20), .ref (u 21), .ref (u 22), .ref (u 23), .ref (u 24), .ref (u 25), .ref (u 26), .int 0, .int 0, .int 0, .int 0, .int 0]))] [0, 1]) hl.1 rfl rfl ⟨rfl, rfl, ⟨Nat.le_of_ble_eq_true rfl, Nat.le_of_ble_eq_true rfl⟩, ⟨Nat.le_of_ble_eq_true rfl, Nat.le_of_ble_eq_true rfl⟩, Nat.le_of_ble_eq_true rfl⟩ dL_law_671) (fun r1 u2 H locs hwu2 hP hD hS => ?_)
  have hP : va_P D vwCl [((v 0), .inr (13, [.int 0, .int 0, .int 0, .int (-1), .int 0, .int 0, .int 0, .int 0, .ref (v 1), .ref (v 2), .ref (v 3), .ref (v 4), .ref (v 5), .ref (v 6), .ref (v 7), .ref (v 8), .ref (v 9), .int 0, .int 0, .int 0, .int 0, .int 0, .int 0, .int 0, .int 0, .int 0, .ref (v 10), .ref (v 11), .ref (v 12), .ref (v 13), .int 0, .ref (v 14), .ref (v 15), .ref (v 16), .ref (v 17), .ref (v 18), .int 0, .int 0, .int 0, .ref (v 19), .ref (v 20), .ref (v 21), .ref (v 22), .ref (v 23), .int 0, .int 0, .int 0, .int 0])), ((v 5), .inl (cy 0, 5, .inl (fun _ => 0))), (o, .inl (cy 6, 1, .inr (.inl (fun _ => 0))))] H := hP
  have hD : va_D A [((v 0), .inr (13, [.int 0, .int 0, .int 0, .int (-1), .int 0, .int 0, .int 0, .int 0, .ref (v 1), .ref (v 2), .ref (v 3), .ref (v 4), .ref (v 5), .ref (v 6), .ref (v 7), .ref (v 8), .ref (v 9), .int 0, .int 0, .int 0, .int 0, .int 0, .int 0, .int 0, .int 0, .int 0, .ref (v 10), .ref (v 11), .ref (v 12), .ref (v 13), .int 0, .ref (v 14), .ref (v 15), .ref (v 16), .ref (v 17), .ref (v 18), .int 0, .int 0, .int 0, .ref (v 19), .ref (v 20), .ref (v 21), .ref (v 22), .ref (v 23), .int 0, .int 0, .int 0, .int 0])), ((v 5), .inl (cy 0, 5, .inl (fun _ => 0))), (o, .inl (cy 6, 1, .inr (.inl (fun _ => 0))))] := hD
  refine lv_aload_n hx hb dL_law_674 rfl (lv_at hl 2 rfl) ?_
  refine k_cali [2] (⟨hP, hD, hG, hS, hA, rfl, rfl⟩ : kAt D cy sa A s H _ _ [((v 0), .inr (13, [.int 0, .int 0, .int 0, .int (-1), .int 0, .int 0, .int 0, .int 0, .ref (v 1), .ref (v 2), .ref (v 3), .ref (v 4), .ref (v 5), .ref (v 6), .ref (v 7), .ref (v 8), .ref (v 9), .int 0, .int 0, .int 0, .int 0, .int 0, .int 0, .int 0, .int 0, .int 0, .ref (v 10), .ref (v 11), .ref (v 12), .ref (v 13), .int 0, .ref (v 14), .ref (v 15), .ref (v 16), .ref (v 17), .ref (v 18), .int 0, .int 0, .int 0, .ref (v 19), .ref (v 20), .ref (v 21), .ref (v 22), .ref (v 23), .int 0, .int 0, .int 0, .int 0])), ((v 5), .inl (cy 0, 5, .inl (fun _ => 0)))] [0, 1]) (wr := [(o, .inl (cy 6, 1, .inr (.inl (fun _ => 0))))]) rfl rfl (by decide) (k_runV 13 0 (As := []) (rest := [.int r1]) E lk_VRL_154 rfl rfl rfl (m_mind_ l hl0 D cy sa v  H.size) (⟨hP, hD, hG, hS, hA, rfl, rfl⟩ : kAt D cy sa A s H _ _ [((v 0), .inr (13, [.int 0, .int 0, .int 0, .int (-1), .int 0, .int 0, .int 0, .int 0, .ref (v 1), .ref (v 2), .ref (v 3), .ref (v 4), .ref (v 5), .ref (v 6), .ref (v 7), .ref (v 8), .ref (v 9), .int 0, .int 0, .int 0, .int 0, .int 0, .int 0, .int 0, .int 0, .int 0, .ref (v 10), .ref (v 11), .ref (v 12), .ref (v 13), .int 0, .ref (v 14), .ref (v 15), .ref (v 16), .ref (v 17), .ref (v 18), .int 0, .int 0, .int 0, .ref (v 19), .ref (v 20), .ref (v 21), .ref (v 22), .ref (v 23), .int 0, .int 0, .int 0, .int 0])), ((v 5), .inl (cy 0, 5, .inl (fun _ => 0)))] [0, 1]) hl.1 rfl rfl ⟨rfl, rfl, ⟨Nat.le_of_ble_eq_true rfl, Nat.le_of_ble_eq_true rfl⟩, ⟨Nat.le_of_ble_eq_true rfl, Nat.le_of_ble_eq_true rfl⟩, Nat.le_of_ble_eq_true rfl⟩ dL_law_675) (fun r3 u4 H locs hwu4 hP hD hS => ?_)
  have hP : va_P D vwCl [(o, .inl (cy 6, 1, .inr (.inl (fun _ => 0)))), ((v 0), .inr (13, .int u4.1 :: u4.2))] H := hP
  have hD : va_D A [(o, .inl (cy 6, 1, .inr (.inl (fun _ => 0)))), ((v 0), .inr (13, .int u4.1 :: u4.2))] := hD
  have heq : r1 = r3 := hwu2.trans (hwu4.1 trivial).2.symm
  refine lv_icmp_eq (tgt := 2418) hx hb dL_law_678 (by decide) (fun _ => ?_) (fun h => absurd heq h)
  refine lv_iinc (v := 6) (lv' := [(4, .int 6), (0, .ref b), (1, .ref (u 0)), (2, .ref (v 0)), (3, .ref o)]) hx hb dL_law_2418 hl (k := 4) rfl (by decide) (by decide) rfl (fun ls hl => ?_)
  refine lv_goto (tgt := 23) hx hb dL_law_2421 (by decide) ?_
  exact law_exit E hX hbl hbA hAs hS (i := 6) (by decide) (lv_at hl 1 rfl) (lv_at hl 0 rfl) (by decide) (by decide)

set_option maxHeartbeats 4000000 in
set_option maxRecDepth 100000 in
/-- the law: bed -/
theorem law_case_9 {p : Program} {l : Launch} {e : Env} {s : State} {m : MethodId} {below : List Frame} {meth : Method} {c : Code} {D : va_G} {cy : Nat → ClassId} {sa : Nat → Nat} {b : Nat} {xs : Nat → Int32} (hl0 : l.stackTraces = false) (E : kE yL_law cL_law 7 (some .boolean) #[Value.ref b] p s m meth c) (hX : va_X b 6 xs s s.heap) (hbl : b < s.heap.size) (hG : kG D cy sa (fun q => s.heap.size ≤ q) s) (u v : Nat → Nat) (o : Nat) (H : Heap) (locs : List Loc) (hP : va_P D vwCl [((u 0), .inr (12, [.ref (u 1), .int 0, .int (-1), .ref (u 2), .ref (u 3), .ref (u 4), .ref (u 5), .ref (u 6), .ref (u 7), .ref (u 8), .int 0, .ref (u 9), .ref (u 10), .ref (u 11), .ref (u 12), .ref (u 13), .ref (u 14)])), ((u 3), .inr (4, [.ref (u 15), .ref (u 16), .ref (u 17), .ref (u 18), .ref (u 19), .ref (u 20), .ref (u 21), .ref (u 22), .ref (u 23), .ref (u 24), .ref (u 25), .ref (u 26), .int 0, .int 0, .int 0, .int 0, .int 0])), ((v 0), .inr (13, [.int 0, .int 0, .int 0, .int (-1), .int 0, .int 0, .int 0, .int 0, .ref (v 1), .ref (v 2), .ref (v 3), .ref (v 4), .ref (v 5), .ref (v 6), .ref (v 7), .ref (v 8), .ref (v 9), .int 0, .int 0, .int 0, .int 0, .int 0, .int 0, .int 0, .int 0, .int 0, .ref (v 10), .ref (v 11), .ref (v 12), .ref (v 13), .int 0, .ref (v 14), .ref (v 15), .ref (v 16), .ref (v 17), .ref (v 18), .int 0, .int 0, .int 0, .ref (v 19), .ref (v 20), .ref (v 21), .ref (v 22), .ref (v 23), .int 0, .int 0, .int 0, .int 0])), ((v 5), .inl (cy 0, 5, .inl (fun _ => 0))), (o, .inl (cy 6, 1, .inr (.inl (fun _ => 0))))] H) (hD : va_D (fun q => s.heap.size ≤ q) [((u 0), .inr (12, [.ref (u 1), .int 0, .int (-1), .ref (u 2), .ref (u 3), .ref (u 4), .ref (u 5), .ref (u 6), .ref (u 7), .ref (u 8), .int 0, .ref (u 9), .ref (u 10), .ref (u 11), .ref (u 12), .ref (u 13), .ref (u 14)])), ((u 3), .inr (4, [.ref (u 15), .ref (u 16), .ref (u 17), .ref (u 18), .ref (u 19), .ref (u 20), .ref (u 21), .ref (u 22), .ref (u 23), .ref (u 24), .ref (u 25), .ref (u 26), .int 0, .int 0, .int 0, .int 0, .int 0])), ((v 0), .inr (13, [.int 0, .int 0, .int 0, .int (-1), .int 0, .int 0, .int 0, .int 0, .ref (v 1), .ref (v 2), .ref (v 3), .ref (v 4), .ref (v 5), .ref (v 6), .ref (v 7), .ref (v 8), .ref (v 9), .int 0, .int 0, .int 0, .int 0, .int 0, .int 0, .int 0, .int 0, .int 0, .ref (v 10), .ref (v 11), .ref (v 12), .ref (v 13), .int 0, .ref (v 14), .ref (v 15), .ref (v 16), .ref (v 17), .ref (v 18), .int 0, .int 0, .int 0, .ref (v 19), .ref (v 20), .ref (v 21), .ref (v 22), .ref (v 23), .int 0, .int 0, .int 0, .int 0])), ((v 5), .inl (cy 0, 5, .inl (fun _ => 0))), (o, .inl (cy 6, 1, .inr (.inl (fun _ => 0))))]) (hS : va_S (fun q => s.heap.size ≤ q) s.heap H locs) (ls : Array Slot) (hl : lv_has ls 7 [(0, .ref b), (1, .ref (u 0)), (2, .ref (v 0)), (3, .ref o), (4, .int 0)]) : W p l e room_1 s m #[Value.ref b] below meth c H locs 179 322202 (lw_Z below #[Value.ref b] s) (F0 m 683 ls []) := by
  obtain ⟨A, hAe⟩ : ∃ A : Nat → Prop, A = fun q => s.heap.size ≤ q := ⟨_, rfl⟩
  rw [← hAe] at hG hD hS
  have hA : ∀ q, s.heap.size ≤ q → A q := fun q h => by rw [hAe]; exact h
  have hAs : ∀ q, A q → s.heap.size ≤ q := fun q h => by rw [hAe] at h; exact h
  have hbA : ¬ A b := by rw [hAe]; exact Nat.not_le.mpr hbl
  obtain ⟨hx, hb, hml, hown, hts, hr, hlk, hnm⟩ := id E
  have hown : s.vm.findClass RL = some m.cls := hown
  refine lv_aload_n hx hb dL_law_683 rfl (lv_at hl 1 rfl) ?_
  refine lv_aload_n hx hb dL_law_684 rfl (lv_at hl 0 rfl) ?_
  refine lv_iload hx hb dL_law_685 (lv_at hl 4 rfl) ?_
  refine lv_iconst (v := 1) hx hb dL_law_687 (by decide) ?_
  refine lv_iadd hx hb dL_law_688 ?_
  refine lv_topi (fun x1 ex1 => ?_)
  obtain rfl : x1 = 1 := ex1.trans (by decide)
  refine va_sld hx hb hX hbl hbA hS (by unfold vp_in; decide) dL_law_689 ?_
  refine lv_topi (fun x2 ex2 => ?_)
  obtain rfl : x2 = xs 1 := ex2.trans rfl
  refine lv_aload_n hx hb dL_law_690 rfl (lv_at hl 0 rfl) ?_
  refine lv_iload hx hb dL_law_691 (lv_at hl 4 rfl) ?_
  refine lv_iconst (v := 2) hx hb dL_law_693 (by decide) ?_
  refine lv_iadd hx hb dL_law_694 ?_
  refine lv_topi (fun x3 ex3 => ?_)
  obtain rfl : x3 = 2 := ex3.trans (by decide)
  refine va_sld hx hb hX hbl hbA hS (by unfold vp_in; decide) dL_law_695 ?_
  refine lv_topi (fun x4 ex4 => ?_)
  obtain rfl : x4 = xs 2 := ex4.trans rfl
  refine lv_if_eq (tgt := 703) hx hb dL_law_696 (by decide) (fun c5 => ?_) (fun c5 => ?_)
  · refine lv_iconst (v := 0) hx hb dL_law_703 (by decide) ?_
    refine lv_aload_n hx hb dL_law_704 rfl (lv_at hl 3 rfl) ?_
    refine x_cali [2, 3] (⟨hP, hD, hG, hS, hA, rfl, rfl⟩ : kAt D cy sa A s H _ _ [((u 0), .inr (12, [.ref (u 1), .int 0, .int (-1), .ref (u 2), .ref (u 3), .ref (u 4), .ref (u 5), .ref (u 6), .ref (u 7), .ref (u 8), .int 0, .ref (u 9), .ref (u 10), .ref (u 11), .ref (u 12), .ref (u 13), .ref (u 14)])), ((u 3), .inr (4, [.ref (u 15), .ref (u 16), .ref (u 17), .ref (u 18), .ref (u 19), .ref (u 20), .ref (u 21), .ref (u 22), .ref (u 23), .ref (u 24), .ref (u 25), .ref (u 26), .int 0, .int 0, .int 0, .int 0, .int 0])), (o, .inl (cy 6, 1, .inr (.inl (fun _ => 0))))] [0, 1, 4]) (wr := [((v 0), .inr (13, [.int 0, .int 0, .int 0, .int (-1), .int 0, .int 0, .int 0, .int 0, .ref (v 1), .ref (v 2), .ref (v 3), .ref (v 4), .ref (v 5), .ref (v 6), .ref (v 7), .ref (v 8), .ref (v 9), .int 0, .int 0, .int 0, .int 0, .int 0, .int 0, .int 0, .int 0, .int 0, .ref (v 10), .ref (v 11), .ref (v 12), .ref (v 13), .int 0, .ref (v 14), .ref (v 15), .ref (v 16), .ref (v 17), .ref (v 18), .int 0, .int 0, .int 0, .ref (v 19), .ref (v 20), .ref (v 21), .ref (v 22), .ref (v 23), .int 0, .int 0, .int 0, .int 0])), ((v 5), .inl (cy 0, 5, .inl (fun _ => 0)))]) rfl rfl (by decide) (x_runW (As := [.ref (u 0), .int (xs 1), .int 0, .ref o]) (rest := []) E lk_SRL_155 (w_bed l hl0 D cy sa u o (xs 1) 0 H.size) (⟨hP, hD, hG, hS, hA, rfl, rfl⟩ : kAt D cy sa A s H _ _ [((u 0), .inr (12, [.ref (u 1), .int 0, .int (-1), .ref (u 2), .ref (u 3), .ref (u 4), .ref (u 5), .ref (u 6), .ref (u 7), .ref (u 8), .int 0, .ref (u 9), .ref (u 10), .ref (u 11), .ref (u 12), .ref (u 13), .ref (u 14)])), ((u 3), .inr (4, [.ref (u 15), .ref (u 16), .ref (u 17), .ref (u 18), .ref (u 19), .ref (u 20), .ref (u 21), .ref (u 22), .ref (u 23), .ref (u 24), .ref (u 25), .ref (u 26), .int 0, .int 0, .int 0, .int 0, .int 0])), (o, .inl (cy 6, 1, .inr (.inl (fun _ => 0))))] [0, 1, 4]) hl.1 rfl rfl ⟨rfl, rfl, ⟨Nat.le_of_ble_eq_true rfl, Nat.le_of_ble_eq_true rfl⟩, ⟨Nat.le_of_ble_eq_true rfl, Nat.le_of_ble_eq_true rfl⟩, Nat.le_of_ble_eq_true rfl⟩ dL_law_705) (fun ce q9 u7 H locs hwu7 hP hD hS h1 h2 h3 => ?_) (fun r6 u7 H locs hwu7 hP hD hS => ?_)
    · have hP : va_P D vwCl [((v 0), .inr (13, [.int 0, .int 0, .int 0, .int (-1), .int 0, .int 0, .int 0, .int 0, .ref (v 1), .ref (v 2), .ref (v 3), .ref (v 4), .ref (v 5), .ref (v 6), .ref (v 7), .ref (v 8), .ref (v 9), .int 0, .int 0, .int 0, .int 0, .int 0, .int 0, .int 0, .int 0, .int 0, .ref (v 10), .ref (v 11), .ref (v 12), .ref (v 13), .int 0, .ref (v 14), .ref (v 15), .ref (v 16), .ref (v 17), .ref (v 18), .int 0, .int 0, .int 0, .ref (v 19), .ref (v 20), .ref (v 21), .ref (v 22), .ref (v 23), .int 0, .int 0, .int 0, .int 0])), ((v 5), .inl (cy 0, 5, .inl (fun _ => 0)))] H := hP
      have hD : va_D A [((v 0), .inr (13, [.int 0, .int 0, .int 0, .int (-1), .int 0, .int 0, .int 0, .int 0, .ref (v 1), .ref (v 2), .ref (v 3), .ref (v 4), .ref (v 5), .ref (v 6), .ref (v 7), .ref (v 8), .ref (v 9), .int 0, .int 0, .int 0, .int 0, .int 0, .int 0, .int 0, .int 0, .int 0, .ref (v 10), .ref (v 11), .ref (v 12), .ref (v 13), .int 0, .ref (v 14), .ref (v 15), .ref (v 16), .ref (v 17), .ref (v 18), .int 0, .int 0, .int 0, .ref (v 19), .ref (v 20), .ref (v 21), .ref (v 22), .ref (v 23), .int 0, .int 0, .int 0, .int 0])), ((v 5), .inl (cy 0, 5, .inl (fun _ => 0)))] := hD
      exact (hwu7).elim
    · have hP : va_P D vwCl [((v 0), .inr (13, [.int 0, .int 0, .int 0, .int (-1), .int 0, .int 0, .int 0, .int 0, .ref (v 1), .ref (v 2), .ref (v 3), .ref (v 4), .ref (v 5), .ref (v 6), .ref (v 7), .ref (v 8), .ref (v 9), .int 0, .int 0, .int 0, .int 0, .int 0, .int 0, .int 0, .int 0, .int 0, .ref (v 10), .ref (v 11), .ref (v 12), .ref (v 13), .int 0, .ref (v 14), .ref (v 15), .ref (v 16), .ref (v 17), .ref (v 18), .int 0, .int 0, .int 0, .ref (v 19), .ref (v 20), .ref (v 21), .ref (v 22), .ref (v 23), .int 0, .int 0, .int 0, .int 0])), ((v 5), .inl (cy 0, 5, .inl (fun _ => 0))), (o, .inl (cy 6, 1, .inr (.inl u7)))] H := hP
      have hD : va_D A [((v 0), .inr (13, [.int 0, .int 0, .int 0, .int (-1), .int 0, .int 0, .int 0, .int 0, .ref (v 1), .ref (v 2), .ref (v 3), .ref (v 4), .ref (v 5), .ref (v 6), .ref (v 7), .ref (v 8), .ref (v 9), .int 0, .int 0, .int 0, .int 0, .int 0, .int 0, .int 0, .int 0, .int 0, .ref (v 10), .ref (v 11), .ref (v 12), .ref (v 13), .int 0, .ref (v 14), .ref (v 15), .ref (v 16), .ref (v 17), .ref (v 18), .int 0, .int 0, .int 0, .ref (v 19), .ref (v 20), .ref (v 21), .ref (v 22), .ref (v 23), .int 0, .int 0, .int 0, .int 0])), ((v 5), .inl (cy 0, 5, .inl (fun _ => 0))), (o, .inl (cy 6, 1, .inr (.inl u7)))] := hD
      refine lv_istore (lv' := [(5, .int r6), (0, .ref b), (1, .ref (u 0)), (2, .ref (v 0)), (3, .ref o), (4, .int 0)]) hx hb dL_law_708 hl (by decide) rfl (fun ls hl => ?_)
      refine lv_aload_n hx hb dL_law_710 rfl (lv_at hl 3 rfl) ?_
      refine lv_aload_n hx hb dL_law_711 rfl (lv_at hl 1 rfl) ?_
      refine lv_iload hx hb dL_law_712 (lv_at hl 5 rfl) ?_
      refine lv_iconst (v := 1) hx hb dL_law_714 (by decide) ?_
      refine lv_iadd hx hb dL_law_715 ?_
      refine lv_topi (fun x8 ex8 => ?_)
      obtain rfl : x8 = 1 := ex8.trans (by decide)
      refine va_sld hx hb hX hbl hbA hS (by unfold vp_in; decide) dL_law_716 ?_
      refine lv_topi (fun x9 ex9 => ?_)
      obtain rfl : x9 = xs 1 := ex9.trans rfl
      refine lv_aload_n hx hb dL_law_717 rfl (lv_at hl 1 rfl) ?_
      refine lv_iload hx hb dL_law_718 (lv_at hl 5 rfl) ?_
      refine lv_iconst (v := 2) hx hb dL_law_720 (by decide) ?_
      refine lv_iadd hx hb dL_law_721 ?_
      refine lv_topi (fun x10 ex10 => ?_)
      obtain rfl : x10 = 2 := ex10.trans (by decide)
      refine va_sld hx hb hX hbl hbA hS (by unfold vp_in; decide) dL_law_722 ?_
      refine lv_topi (fun x11 ex11 => ?_)
      obtain rfl : x11 = xs 2 := ex11.trans rfl
      refine lv_if_eq (tgt := 730) hx hb dL_law_723 (by decide) (fun _ => ?_) (fun h => absurd c5 h)
      refine lv_iconst (v := 0) hx hb dL_law_730 (by decide) ?_
      refine k_cali [2] (⟨hP, hD, hG, hS, hA, rfl, rfl⟩ : kAt D cy sa A s H _ _ [((v 0), .inr (13, [.int 0, .int 0, .int 0, .int (-1), .int 0, .int 0, .int 0, .int 0, .ref (v 1), .ref (v 2), .ref (v 3), .ref (v 4), .ref (v 5), .ref (v 6), .ref (v 7), .ref (v 8), .ref (v 9), .int 0, .int 0, .int 0, .int 0, .int 0, .int 0, .int 0, .int 0, .int 0, .ref (v 10), .ref (v 11), .ref (v 12), .ref (v 13), .int 0, .ref (v 14), .ref (v 15), .ref (v 16), .ref (v 17), .ref (v 18), .int 0, .int 0, .int 0, .ref (v 19), .ref (v 20), .ref (v 21), .ref (v 22), .ref (v 23), .int 0, .int 0, .int 0, .int 0])), ((v 5), .inl (cy 0, 5, .inl (fun _ => 0)))] [0, 1]) (wr := [(o, .inl (cy 6, 1, .inr (.inl u7)))]) rfl rfl (by decide) (k_runV 13 0 (As := [.int (xs 1), .int 0]) (rest := []) E lk_VRL_158 rfl rfl rfl (m_bed_ l hl0 D cy sa v (xs 1) 0 H.size) (⟨hP, hD, hG, hS, hA, rfl, rfl⟩ : kAt D cy sa A s H _ _ [((v 0), .inr (13, [.int 0, .int 0, .int 0, .int (-1), .int 0, .int 0, .int 0, .int 0, .ref (v 1), .ref (v 2), .ref (v 3), .ref (v 4), .ref (v 5), .ref (v 6), .ref (v 7), .ref (v 8), .ref (v 9), .int 0, .int 0, .int 0, .int 0, .int 0, .int 0, .int 0, .int 0, .int 0, .ref (v 10), .ref (v 11), .ref (v 12), .ref (v 13), .int 0, .ref (v 14), .ref (v 15), .ref (v 16), .ref (v 17), .ref (v 18), .int 0, .int 0, .int 0, .ref (v 19), .ref (v 20), .ref (v 21), .ref (v 22), .ref (v 23), .int 0, .int 0, .int 0, .int 0])), ((v 5), .inl (cy 0, 5, .inl (fun _ => 0)))] [0, 1]) hl.1 rfl rfl ⟨rfl, rfl, ⟨Nat.le_of_ble_eq_true rfl, Nat.le_of_ble_eq_true rfl⟩, ⟨Nat.le_of_ble_eq_true rfl, Nat.le_of_ble_eq_true rfl⟩, Nat.le_of_ble_eq_true rfl⟩ dL_law_731) (fun r12 u13 H locs hwu13 hP hD hS => ?_)
      have hP : va_P D vwCl [(o, .inl (cy 6, 1, .inr (.inl u7))), ((v 0), .inr (13, .int u13.1 :: u13.2))] H := hP
      have hD : va_D A [(o, .inl (cy 6, 1, .inr (.inl u7))), ((v 0), .inr (13, .int u13.1 :: u13.2))] := hD
      refine lv_istore (lv' := [(6, .int r12), (5, .int r6), (0, .ref b), (1, .ref (u 0)), (2, .ref (v 0)), (3, .ref o), (4, .int 0)]) hx hb dL_law_734 hl (by decide) rfl (fun ls hl => ?_)
      refine lv_aload_n hx hb dL_law_736 rfl (lv_at hl 4 rfl) ?_
      refine k_cali [0] (⟨hP, hD, hG, hS, hA, rfl, rfl⟩ : kAt D cy sa A s H _ _ [((v 0), .inr (13, .int u13.1 :: u13.2))] [1]) (wr := [(o, .inl (cy 6, 1, .inr (.inl u7)))]) rfl rfl (by decide) (k_runV 13 1 (As := []) (rest := []) E lk_VRL_127 rfl rfl rfl (m_thrown l hl0 D cy sa v u13.1 u13.2 H.size) (⟨hP, hD, hG, hS, hA, rfl, rfl⟩ : kAt D cy sa A s H _ _ [((v 0), .inr (13, .int u13.1 :: u13.2))] [1]) hl.1 rfl rfl ⟨rfl, rfl, ⟨Nat.le_of_ble_eq_true rfl, Nat.le_of_ble_eq_true rfl⟩, ⟨Nat.le_of_ble_eq_true rfl, Nat.le_of_ble_eq_true rfl⟩, Nat.le_of_ble_eq_true rfl⟩ dL_law_737) (fun r14 u15 H locs hwu15 hP hD hS => ?_)
      have hP : va_P D vwCl [(o, .inl (cy 6, 1, .inr (.inl u7)))] H := hP
      have hD : va_D A [(o, .inl (cy 6, 1, .inr (.inl u7)))] := hD
      rcases hwu7 with ⟨rfl, x9, hx9, hf9⟩ | ⟨rfl, hpx⟩
      · exact hx9.elim
      · obtain rfl : r14 = 1 := hwu15.trans (hwu13.2 id)
        refine lv_iload hx hb dL_law_740 (lv_at hl 1 rfl) ?_
        refine lv_icmp_eq (tgt := 747) hx hb dL_law_742 (by decide) (fun _ => ?_) (fun h => absurd (by decide) h)
        refine lv_iload hx hb dL_law_747 (lv_at hl 1 rfl) ?_
        refine lv_if_ne (tgt := 771) hx hb dL_law_749 (by decide) (fun _ => ?_) (fun h => absurd h (by decide))
        refine lv_goto (tgt := 2418) hx hb dL_law_771 (by decide) ?_
        refine lv_iinc (v := 6) (lv' := [(4, .int 6), (6, .int r12), (5, .int 1), (0, .ref b), (1, .ref (u 0)), (2, .ref (v 0)), (3, .ref o)]) hx hb dL_law_2418 hl (k := 6) rfl (by decide) (by decide) rfl (fun ls hl => ?_)
        refine lv_goto (tgt := 23) hx hb dL_law_2421 (by decide) ?_
        exact law_exit E hX hbl hbA hAs hS (i := 6) (by decide) (lv_at hl 3 rfl) (lv_at hl 0 rfl) (by decide) (by decide)
  · refine lv_iconst (v := 1) hx hb dL_law_699 (by decide) ?_
    refine lv_goto (tgt := 704) hx hb dL_law_700 (by decide) ?_
    refine lv_aload_n hx hb dL_law_704 rfl (lv_at hl 3 rfl) ?_
    refine x_cali [2, 3] (⟨hP, hD, hG, hS, hA, rfl, rfl⟩ : kAt D cy sa A s H _ _ [((u 0), .inr (12, [.ref (u 1), .int 0, .int (-1), .ref (u 2), .ref (u 3), .ref (u 4), .ref (u 5), .ref (u 6), .ref (u 7), .ref (u 8), .int 0, .ref (u 9), .ref (u 10), .ref (u 11), .ref (u 12), .ref (u 13), .ref (u 14)])), ((u 3), .inr (4, [.ref (u 15), .ref (u 16), .ref (u 17), .ref (u 18), .ref (u 19), .ref (u 20), .ref (u 21), .ref (u 22), .ref (u 23), .ref (u 24), .ref (u 25), .ref (u 26), .int 0, .int 0, .int 0, .int 0, .int 0])), (o, .inl (cy 6, 1, .inr (.inl (fun _ => 0))))] [0, 1, 4]) (wr := [((v 0), .inr (13, [.int 0, .int 0, .int 0, .int (-1), .int 0, .int 0, .int 0, .int 0, .ref (v 1), .ref (v 2), .ref (v 3), .ref (v 4), .ref (v 5), .ref (v 6), .ref (v 7), .ref (v 8), .ref (v 9), .int 0, .int 0, .int 0, .int 0, .int 0, .int 0, .int 0, .int 0, .int 0, .ref (v 10), .ref (v 11), .ref (v 12), .ref (v 13), .int 0, .ref (v 14), .ref (v 15), .ref (v 16), .ref (v 17), .ref (v 18), .int 0, .int 0, .int 0, .ref (v 19), .ref (v 20), .ref (v 21), .ref (v 22), .ref (v 23), .int 0, .int 0, .int 0, .int 0])), ((v 5), .inl (cy 0, 5, .inl (fun _ => 0)))]) rfl rfl (by decide) (x_runW (As := [.ref (u 0), .int (xs 1), .int 1, .ref o]) (rest := []) E lk_SRL_155 (w_bed l hl0 D cy sa u o (xs 1) 1 H.size) (⟨hP, hD, hG, hS, hA, rfl, rfl⟩ : kAt D cy sa A s H _ _ [((u 0), .inr (12, [.ref (u 1), .int 0, .int (-1), .ref (u 2), .ref (u 3), .ref (u 4), .ref (u 5), .ref (u 6), .ref (u 7), .ref (u 8), .int 0, .ref (u 9), .ref (u 10), .ref (u 11), .ref (u 12), .ref (u 13), .ref (u 14)])), ((u 3), .inr (4, [.ref (u 15), .ref (u 16), .ref (u 17), .ref (u 18), .ref (u 19), .ref (u 20), .ref (u 21), .ref (u 22), .ref (u 23), .ref (u 24), .ref (u 25), .ref (u 26), .int 0, .int 0, .int 0, .int 0, .int 0])), (o, .inl (cy 6, 1, .inr (.inl (fun _ => 0))))] [0, 1, 4]) hl.1 rfl rfl ⟨rfl, rfl, ⟨Nat.le_of_ble_eq_true rfl, Nat.le_of_ble_eq_true rfl⟩, ⟨Nat.le_of_ble_eq_true rfl, Nat.le_of_ble_eq_true rfl⟩, Nat.le_of_ble_eq_true rfl⟩ dL_law_705) (fun ce q9 u17 H locs hwu17 hP hD hS h1 h2 h3 => ?_) (fun r16 u17 H locs hwu17 hP hD hS => ?_)
    · have hP : va_P D vwCl [((v 0), .inr (13, [.int 0, .int 0, .int 0, .int (-1), .int 0, .int 0, .int 0, .int 0, .ref (v 1), .ref (v 2), .ref (v 3), .ref (v 4), .ref (v 5), .ref (v 6), .ref (v 7), .ref (v 8), .ref (v 9), .int 0, .int 0, .int 0, .int 0, .int 0, .int 0, .int 0, .int 0, .int 0, .ref (v 10), .ref (v 11), .ref (v 12), .ref (v 13), .int 0, .ref (v 14), .ref (v 15), .ref (v 16), .ref (v 17), .ref (v 18), .int 0, .int 0, .int 0, .ref (v 19), .ref (v 20), .ref (v 21), .ref (v 22), .ref (v 23), .int 0, .int 0, .int 0, .int 0])), ((v 5), .inl (cy 0, 5, .inl (fun _ => 0)))] H := hP
      have hD : va_D A [((v 0), .inr (13, [.int 0, .int 0, .int 0, .int (-1), .int 0, .int 0, .int 0, .int 0, .ref (v 1), .ref (v 2), .ref (v 3), .ref (v 4), .ref (v 5), .ref (v 6), .ref (v 7), .ref (v 8), .ref (v 9), .int 0, .int 0, .int 0, .int 0, .int 0, .int 0, .int 0, .int 0, .int 0, .ref (v 10), .ref (v 11), .ref (v 12), .ref (v 13), .int 0, .ref (v 14), .ref (v 15), .ref (v 16), .ref (v 17), .ref (v 18), .int 0, .int 0, .int 0, .ref (v 19), .ref (v 20), .ref (v 21), .ref (v 22), .ref (v 23), .int 0, .int 0, .int 0, .int 0])), ((v 5), .inl (cy 0, 5, .inl (fun _ => 0)))] := hD
      exact (hwu17).elim
    · have hP : va_P D vwCl [((v 0), .inr (13, [.int 0, .int 0, .int 0, .int (-1), .int 0, .int 0, .int 0, .int 0, .ref (v 1), .ref (v 2), .ref (v 3), .ref (v 4), .ref (v 5), .ref (v 6), .ref (v 7), .ref (v 8), .ref (v 9), .int 0, .int 0, .int 0, .int 0, .int 0, .int 0, .int 0, .int 0, .int 0, .ref (v 10), .ref (v 11), .ref (v 12), .ref (v 13), .int 0, .ref (v 14), .ref (v 15), .ref (v 16), .ref (v 17), .ref (v 18), .int 0, .int 0, .int 0, .ref (v 19), .ref (v 20), .ref (v 21), .ref (v 22), .ref (v 23), .int 0, .int 0, .int 0, .int 0])), ((v 5), .inl (cy 0, 5, .inl (fun _ => 0))), (o, .inl (cy 6, 1, .inr (.inl u17)))] H := hP
      have hD : va_D A [((v 0), .inr (13, [.int 0, .int 0, .int 0, .int (-1), .int 0, .int 0, .int 0, .int 0, .ref (v 1), .ref (v 2), .ref (v 3), .ref (v 4), .ref (v 5), .ref (v 6), .ref (v 7), .ref (v 8), .ref (v 9), .int 0, .int 0, .int 0, .int 0, .int 0, .int 0, .int 0, .int 0, .int 0, .ref (v 10), .ref (v 11), .ref (v 12), .ref (v 13), .int 0, .ref (v 14), .ref (v 15), .ref (v 16), .ref (v 17), .ref (v 18), .int 0, .int 0, .int 0, .ref (v 19), .ref (v 20), .ref (v 21), .ref (v 22), .ref (v 23), .int 0, .int 0, .int 0, .int 0])), ((v 5), .inl (cy 0, 5, .inl (fun _ => 0))), (o, .inl (cy 6, 1, .inr (.inl u17)))] := hD
      refine lv_istore (lv' := [(5, .int r16), (0, .ref b), (1, .ref (u 0)), (2, .ref (v 0)), (3, .ref o), (4, .int 0)]) hx hb dL_law_708 hl (by decide) rfl (fun ls hl => ?_)
      refine lv_aload_n hx hb dL_law_710 rfl (lv_at hl 3 rfl) ?_
      refine lv_aload_n hx hb dL_law_711 rfl (lv_at hl 1 rfl) ?_
      refine lv_iload hx hb dL_law_712 (lv_at hl 5 rfl) ?_
      refine lv_iconst (v := 1) hx hb dL_law_714 (by decide) ?_
      refine lv_iadd hx hb dL_law_715 ?_
      refine lv_topi (fun x18 ex18 => ?_)
      obtain rfl : x18 = 1 := ex18.trans (by decide)
      refine va_sld hx hb hX hbl hbA hS (by unfold vp_in; decide) dL_law_716 ?_
      refine lv_topi (fun x19 ex19 => ?_)
      obtain rfl : x19 = xs 1 := ex19.trans rfl
      refine lv_aload_n hx hb dL_law_717 rfl (lv_at hl 1 rfl) ?_
      refine lv_iload hx hb dL_law_718 (lv_at hl 5 rfl) ?_
      refine lv_iconst (v := 2) hx hb dL_law_720 (by decide) ?_
      refine lv_iadd hx hb dL_law_721 ?_
      refine lv_topi (fun x20 ex20 => ?_)
      obtain rfl : x20 = 2 := ex20.trans (by decide)
      refine va_sld hx hb hX hbl hbA hS (by unfold vp_in; decide) dL_law_722 ?_
      refine lv_topi (fun x21 ex21 => ?_)
      obtain rfl : x21 = xs 2 := ex21.trans rfl
      refine lv_if_eq (tgt := 730) hx hb dL_law_723 (by decide) (fun h => absurd h c5) (fun _ => ?_)
      refine lv_iconst (v := 1) hx hb dL_law_726 (by decide) ?_
      refine lv_goto (tgt := 731) hx hb dL_law_727 (by decide) ?_
      refine k_cali [2] (⟨hP, hD, hG, hS, hA, rfl, rfl⟩ : kAt D cy sa A s H _ _ [((v 0), .inr (13, [.int 0, .int 0, .int 0, .int (-1), .int 0, .int 0, .int 0, .int 0, .ref (v 1), .ref (v 2), .ref (v 3), .ref (v 4), .ref (v 5), .ref (v 6), .ref (v 7), .ref (v 8), .ref (v 9), .int 0, .int 0, .int 0, .int 0, .int 0, .int 0, .int 0, .int 0, .int 0, .ref (v 10), .ref (v 11), .ref (v 12), .ref (v 13), .int 0, .ref (v 14), .ref (v 15), .ref (v 16), .ref (v 17), .ref (v 18), .int 0, .int 0, .int 0, .ref (v 19), .ref (v 20), .ref (v 21), .ref (v 22), .ref (v 23), .int 0, .int 0, .int 0, .int 0])), ((v 5), .inl (cy 0, 5, .inl (fun _ => 0)))] [0, 1]) (wr := [(o, .inl (cy 6, 1, .inr (.inl u17)))]) rfl rfl (by decide) (k_runV 13 0 (As := [.int (xs 1), .int 1]) (rest := []) E lk_VRL_158 rfl rfl rfl (m_bed_ l hl0 D cy sa v (xs 1) 1 H.size) (⟨hP, hD, hG, hS, hA, rfl, rfl⟩ : kAt D cy sa A s H _ _ [((v 0), .inr (13, [.int 0, .int 0, .int 0, .int (-1), .int 0, .int 0, .int 0, .int 0, .ref (v 1), .ref (v 2), .ref (v 3), .ref (v 4), .ref (v 5), .ref (v 6), .ref (v 7), .ref (v 8), .ref (v 9), .int 0, .int 0, .int 0, .int 0, .int 0, .int 0, .int 0, .int 0, .int 0, .ref (v 10), .ref (v 11), .ref (v 12), .ref (v 13), .int 0, .ref (v 14), .ref (v 15), .ref (v 16), .ref (v 17), .ref (v 18), .int 0, .int 0, .int 0, .ref (v 19), .ref (v 20), .ref (v 21), .ref (v 22), .ref (v 23), .int 0, .int 0, .int 0, .int 0])), ((v 5), .inl (cy 0, 5, .inl (fun _ => 0)))] [0, 1]) hl.1 rfl rfl ⟨rfl, rfl, ⟨Nat.le_of_ble_eq_true rfl, Nat.le_of_ble_eq_true rfl⟩, ⟨Nat.le_of_ble_eq_true rfl, Nat.le_of_ble_eq_true rfl⟩, Nat.le_of_ble_eq_true rfl⟩ dL_law_731) (fun r22 u23 H locs hwu23 hP hD hS => ?_)
      have hP : va_P D vwCl [(o, .inl (cy 6, 1, .inr (.inl u17))), ((v 0), .inr (13, .int u23.1 :: u23.2))] H := hP
      have hD : va_D A [(o, .inl (cy 6, 1, .inr (.inl u17))), ((v 0), .inr (13, .int u23.1 :: u23.2))] := hD
      refine lv_istore (lv' := [(6, .int r22), (5, .int r16), (0, .ref b), (1, .ref (u 0)), (2, .ref (v 0)), (3, .ref o), (4, .int 0)]) hx hb dL_law_734 hl (by decide) rfl (fun ls hl => ?_)
      refine lv_aload_n hx hb dL_law_736 rfl (lv_at hl 4 rfl) ?_
      refine k_cali [0] (⟨hP, hD, hG, hS, hA, rfl, rfl⟩ : kAt D cy sa A s H _ _ [((v 0), .inr (13, .int u23.1 :: u23.2))] [1]) (wr := [(o, .inl (cy 6, 1, .inr (.inl u17)))]) rfl rfl (by decide) (k_runV 13 1 (As := []) (rest := []) E lk_VRL_127 rfl rfl rfl (m_thrown l hl0 D cy sa v u23.1 u23.2 H.size) (⟨hP, hD, hG, hS, hA, rfl, rfl⟩ : kAt D cy sa A s H _ _ [((v 0), .inr (13, .int u23.1 :: u23.2))] [1]) hl.1 rfl rfl ⟨rfl, rfl, ⟨Nat.le_of_ble_eq_true rfl, Nat.le_of_ble_eq_true rfl⟩, ⟨Nat.le_of_ble_eq_true rfl, Nat.le_of_ble_eq_true rfl⟩, Nat.le_of_ble_eq_true rfl⟩ dL_law_737) (fun r24 u25 H locs hwu25 hP hD hS => ?_)
      have hP : va_P D vwCl [(o, .inl (cy 6, 1, .inr (.inl u17)))] H := hP
      have hD : va_D A [(o, .inl (cy 6, 1, .inr (.inl u17)))] := hD
      rcases hwu17 with ⟨rfl, x9, hx9, hf9⟩ | ⟨rfl, hpx⟩
      · exact hx9.elim
      · obtain rfl : r24 = 1 := hwu25.trans (hwu23.2 id)
        refine lv_iload hx hb dL_law_740 (lv_at hl 1 rfl) ?_
        refine lv_icmp_eq (tgt := 747) hx hb dL_law_742 (by decide) (fun _ => ?_) (fun h => absurd (by decide) h)
        refine lv_iload hx hb dL_law_747 (lv_at hl 1 rfl) ?_
        refine lv_if_ne (tgt := 771) hx hb dL_law_749 (by decide) (fun _ => ?_) (fun h => absurd h (by decide))
        refine lv_goto (tgt := 2418) hx hb dL_law_771 (by decide) ?_
        refine lv_iinc (v := 6) (lv' := [(4, .int 6), (6, .int r22), (5, .int 1), (0, .ref b), (1, .ref (u 0)), (2, .ref (v 0)), (3, .ref o)]) hx hb dL_law_2418 hl (k := 6) rfl (by decide) (by decide) rfl (fun ls hl => ?_)
        refine lv_goto (tgt := 23) hx hb dL_law_2421 (by decide) ?_
        exact law_exit E hX hbl hbA hAs hS (i := 6) (by decide) (lv_at hl 3 rfl) (lv_at hl 0 rfl) (by decide) (by decide)
