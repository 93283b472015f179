theorem wm_529 : Cond.code yX2_has cX2_has 2 (some .boolean) ∈ kWS := kws_at 529 (by decide +kernel) (by decide +kernel)
theorem wm_889 : Cond.methodLink RX11 175 yX2_has ∈ kWS := kws_at 889 (by decide +kernel) (by decide +kernel)
theorem wm_528 : Cond.selects RX2 yX2_has yX2_has ∈ kWS := kws_at 528 (by decide +kernel) (by decide +kernel)
theorem wm_527 : Cond.instanceMethod yX2_has ∈ kWS := kws_at 527 (by decide +kernel) (by decide +kernel)
theorem lk_VRX11_175 : kLV RX11 175 yX2_has (Cond.code yX2_has cX2_has 2 (some .boolean)) 1 := ⟨wm_889, wm_527, wm_528, wm_3, wm_529, ⟨by decide +kernel, by decide +kernel, by decide +kernel⟩⟩
theorem wm_1061 : Cond.classLink RX11 179 "java/util/NoSuchElementException" ∈ kWS := kws_at 1061 (by decide +kernel) (by decide +kernel)
theorem wm_1060 : Cond.code yX11_needBody cX11_needBody 2 none ∈ kWS := kws_at 1060 (by decide +kernel) (by decide +kernel)
theorem wm_1057 : Cond.methodLink RX11 145 yX11_needBody ∈ kWS := kws_at 1057 (by decide +kernel) (by decide +kernel)
theorem wm_s18 : Cond.selects RX11 yX11_needBody yX11_needBody ∈ kWS := kws_sel 18 (by decide +kernel) (by decide +kernel)
theorem wm_1059 : Cond.instanceMethod yX11_needBody ∈ kWS := kws_at 1059 (by decide +kernel) (by decide +kernel)
theorem lk_VRX11_145 : kLV RX11 145 yX11_needBody (Cond.code yX11_needBody cX11_needBody 2 none) 1 := ⟨wm_1057, wm_1059, wm_s18, wm_1, wm_1060, ⟨by decide +kernel, by decide +kernel, by decide +kernel⟩⟩
theorem dX11_needBody_0 : decode cX11_needBody 0 = .ok (.aload_n 0, 1) := by decide +kernel
theorem dX11_needBody_1 : decode cX11_needBody 1 = .ok (.getfield 30, 3) := by decide +kernel
theorem dX11_needBody_4 : decode cX11_needBody 4 = .ok (.iload_n 1, 1) := by decide +kernel
theorem dX11_needBody_5 : decode cX11_needBody 5 = .ok (.invokevirtual 175, 3) := by decide +kernel
theorem dX11_needBody_8 : decode cX11_needBody 8 = .ok (.ifCond .ne 13, 3) := by decide +kernel
theorem dX11_needBody_11 : decode cX11_needBody 11 = .ok (.new 179, 3) := by decide +kernel
theorem dX11_needBody_14 : decode cX11_needBody 14 = .ok (.dup, 1) := by decide +kernel
theorem dX11_needBody_15 : decode cX11_needBody 15 = .ok (.ldc 181, 2) := by decide +kernel
theorem dX11_needBody_17 : decode cX11_needBody 17 = .ok (.invokespecial 183, 3) := by decide +kernel
theorem dX11_needBody_20 : decode cX11_needBody 20 = .ok (.athrow, 1) := by decide +kernel
theorem dX11_needBody_21 : decode cX11_needBody 21 = .ok (.return_, 1) := by decide +kernel
theorem dX11_body_0 : decode cX11_body 0 = .ok (.aload_n 0, 1) := by decide +kernel
theorem dX11_body_1 : decode cX11_body 1 = .ok (.iload_n 1, 1) := by decide +kernel
theorem dX11_body_2 : decode cX11_body 2 = .ok (.invokevirtual 145, 3) := by decide +kernel
theorem dX11_body_5 : decode cX11_body 5 = .ok (.iload_n 2, 1) := by decide +kernel
theorem dX11_body_6 : decode cX11_body 6 = .ok (.tableswitch 126 0 7 #[46, 56, 66, 76, 86, 96, 106, 116], 46) := by decide +kernel
theorem dX11_body_52 : decode cX11_body 52 = .ok (.aload_n 0, 1) := by decide +kernel
theorem dX11_body_53 : decode cX11_body 53 = .ok (.getfield 30, 3) := by decide +kernel
theorem dX11_body_56 : decode cX11_body 56 = .ok (.getfield 148, 3) := by decide +kernel
theorem dX11_body_59 : decode cX11_body 59 = .ok (.iload_n 1, 1) := by decide +kernel
theorem dX11_body_60 : decode cX11_body 60 = .ok (.iaload, 1) := by decide +kernel
theorem dX11_body_61 : decode cX11_body 61 = .ok (.ireturn, 1) := by decide +kernel
theorem dX11_body_62 : decode cX11_body 62 = .ok (.aload_n 0, 1) := by decide +kernel
theorem dX11_body_63 : decode cX11_body 63 = .ok (.getfield 30, 3) := by decide +kernel
theorem dX11_body_66 : decode cX11_body 66 = .ok (.getfield 152, 3) := by decide +kernel
theorem dX11_body_69 : decode cX11_body 69 = .ok (.iload_n 1, 1) := by decide +kernel
theorem dX11_body_70 : decode cX11_body 70 = .ok (.iaload, 1) := by decide +kernel
theorem dX11_body_71 : decode cX11_body 71 = .ok (.ireturn, 1) := by decide +kernel
theorem dX11_body_72 : decode cX11_body 72 = .ok (.aload_n 0, 1) := by decide +kernel
theorem dX11_body_73 : decode cX11_body 73 = .ok (.getfield 30, 3) := by decide +kernel
theorem dX11_body_76 : decode cX11_body 76 = .ok (.getfield 155, 3) := by decide +kernel
theorem dX11_body_79 : decode cX11_body 79 = .ok (.iload_n 1, 1) := by decide +kernel
theorem dX11_body_80 : decode cX11_body 80 = .ok (.iaload, 1) := by decide +kernel
theorem dX11_body_81 : decode cX11_body 81 = .ok (.ireturn, 1) := by decide +kernel
theorem dX11_body_82 : decode cX11_body 82 = .ok (.aload_n 0, 1) := by decide +kernel
theorem dX11_body_83 : decode cX11_body 83 = .ok (.getfield 30, 3) := by decide +kernel
theorem dX11_body_86 : decode cX11_body 86 = .ok (.getfield 158, 3) := by decide +kernel
theorem dX11_body_89 : decode cX11_body 89 = .ok (.iload_n 1, 1) := by decide +kernel
theorem dX11_body_90 : decode cX11_body 90 = .ok (.iaload, 1) := by decide +kernel
theorem dX11_body_91 : decode cX11_body 91 = .ok (.ireturn, 1) := by decide +kernel
theorem dX11_body_92 : decode cX11_body 92 = .ok (.aload_n 0, 1) := by decide +kernel
theorem dX11_body_93 : decode cX11_body 93 = .ok (.getfield 30, 3) := by decide +kernel
theorem dX11_body_96 : decode cX11_body 96 = .ok (.getfield 161, 3) := by decide +kernel
theorem dX11_body_99 : decode cX11_body 99 = .ok (.iload_n 1, 1) := by decide +kernel
theorem dX11_body_100 : decode cX11_body 100 = .ok (.iaload, 1) := by decide +kernel
theorem dX11_body_101 : decode cX11_body 101 = .ok (.ireturn, 1) := by decide +kernel
theorem dX11_body_102 : decode cX11_body 102 = .ok (.aload_n 0, 1) := by decide +kernel
theorem dX11_body_103 : decode cX11_body 103 = .ok (.getfield 30, 3) := by decide +kernel
theorem dX11_body_106 : decode cX11_body 106 = .ok (.getfield 164, 3) := by decide +kernel
theorem dX11_body_109 : decode cX11_body 109 = .ok (.iload_n 1, 1) := by decide +kernel
theorem dX11_body_110 : decode cX11_body 110 = .ok (.iaload, 1) := by decide +kernel
theorem dX11_body_111 : decode cX11_body 111 = .ok (.ireturn, 1) := by decide +kernel
theorem dX11_body_112 : decode cX11_body 112 = .ok (.aload_n 0, 1) := by decide +kernel
theorem dX11_body_113 : decode cX11_body 113 = .ok (.getfield 30, 3) := by decide +kernel
theorem dX11_body_116 : decode cX11_body 116 = .ok (.getfield 167, 3) := by decide +kernel
theorem dX11_body_119 : decode cX11_body 119 = .ok (.iload_n 1, 1) := by decide +kernel
theorem dX11_body_120 : decode cX11_body 120 = .ok (.iaload, 1) := by decide +kernel
theorem dX11_body_121 : decode cX11_body 121 = .ok (.ireturn, 1) := by decide +kernel
theorem dX11_body_122 : decode cX11_body 122 = .ok (.aload_n 0, 1) := by decide +kernel
theorem dX11_body_123 : decode cX11_body 123 = .ok (.getfield 30, 3) := by decide +kernel
theorem dX11_body_126 : decode cX11_body 126 = .ok (.getfield 170, 3) := by decide +kernel
theorem dX11_body_129 : decode cX11_body 129 = .ok (.iload_n 1, 1) := by decide +kernel
theorem dX11_body_130 : decode cX11_body 130 = .ok (.iaload, 1) := by decide +kernel
theorem dX11_body_131 : decode cX11_body 131 = .ok (.ireturn, 1) := by decide +kernel
theorem dX11_body_132 : decode cX11_body 132 = .ok (.new 110, 3) := by decide +kernel
theorem dX11_body_135 : decode cX11_body 135 = .ok (.dup, 1) := by decide +kernel
theorem dX11_body_136 : decode cX11_body 136 = .ok (.ldc 173, 2) := by decide +kernel
theorem dX11_body_138 : decode cX11_body 138 = .ok (.invokespecial 114, 3) := by decide +kernel
theorem dX11_body_141 : decode cX11_body 141 = .ok (.athrow, 1) := by decide +kernel
theorem dX11_now_0 : decode cX11_now 0 = .ok (.aload_n 0, 1) := by decide +kernel
theorem dX11_now_1 : decode cX11_now 1 = .ok (.iload_n 1, 1) := by decide +kernel
theorem dX11_now_2 : decode cX11_now 2 = .ok (.invokevirtual 145, 3) := by decide +kernel
theorem dX11_now_5 : decode cX11_now 5 = .ok (.iload_n 2, 1) := by decide +kernel
theorem dX11_now_6 : decode cX11_now 6 = .ok (.tableswitch 148 0 7 #[46, 56, 66, 79, 92, 104, 116, 132], 46) := by decide +kernel
theorem dX11_now_52 : decode cX11_now 52 = .ok (.aload_n 0, 1) := by decide +kernel
theorem dX11_now_53 : decode cX11_now 53 = .ok (.getfield 40, 3) := by decide +kernel
theorem dX11_now_56 : decode cX11_now 56 = .ok (.getfield 186, 3) := by decide +kernel
theorem dX11_now_59 : decode cX11_now 59 = .ok (.iload_n 1, 1) := by decide +kernel
theorem dX11_now_60 : decode cX11_now 60 = .ok (.iaload, 1) := by decide +kernel
theorem dX11_now_61 : decode cX11_now 61 = .ok (.ireturn, 1) := by decide +kernel
theorem dX11_now_62 : decode cX11_now 62 = .ok (.aload_n 0, 1) := by decide +kernel
theorem dX11_now_63 : decode cX11_now 63 = .ok (.getfield 40, 3) := by decide +kernel
theorem dX11_now_66 : decode cX11_now 66 = .ok (.getfield 189, 3) := by decide +kernel
theorem dX11_now_69 : decode cX11_now 69 = .ok (.iload_n 1, 1) := by decide +kernel
theorem dX11_now_70 : decode cX11_now 70 = .ok (.iaload, 1) := by decide +kernel
theorem dX11_now_71 : decode cX11_now 71 = .ok (.ireturn, 1) := by decide +kernel
theorem dX11_now_72 : decode cX11_now 72 = .ok (.aload_n 0, 1) := by decide +kernel
theorem dX11_now_73 : decode cX11_now 73 = .ok (.getfield 40, 3) := by decide +kernel
theorem dX11_now_76 : decode cX11_now 76 = .ok (.aload_n 0, 1) := by decide +kernel
theorem dX11_now_77 : decode cX11_now 77 = .ok (.getfield 30, 3) := by decide +kernel
theorem dX11_now_80 : decode cX11_now 80 = .ok (.iload_n 1, 1) := by decide +kernel
theorem dX11_now_81 : decode cX11_now 81 = .ok (.invokevirtual 192, 3) := by decide +kernel
theorem dX11_now_84 : decode cX11_now 84 = .ok (.ireturn, 1) := by decide +kernel
theorem dX11_now_85 : decode cX11_now 85 = .ok (.aload_n 0, 1) := by decide +kernel
theorem dX11_now_86 : decode cX11_now 86 = .ok (.getfield 40, 3) := by decide +kernel
theorem dX11_now_89 : decode cX11_now 89 = .ok (.aload_n 0, 1) := by decide +kernel
theorem dX11_now_90 : decode cX11_now 90 = .ok (.getfield 30, 3) := by decide +kernel
theorem dX11_now_93 : decode cX11_now 93 = .ok (.iload_n 1, 1) := by decide +kernel
theorem dX11_now_94 : decode cX11_now 94 = .ok (.invokevirtual 196, 3) := by decide +kernel
theorem dX11_now_97 : decode cX11_now 97 = .ok (.ireturn, 1) := by decide +kernel
theorem dX11_now_98 : decode cX11_now 98 = .ok (.aload_n 0, 1) := by decide +kernel
theorem dX11_now_99 : decode cX11_now 99 = .ok (.getfield 40, 3) := by decide +kernel
theorem dX11_now_102 : decode cX11_now 102 = .ok (.iload_n 1, 1) := by decide +kernel
theorem dX11_now_103 : decode cX11_now 103 = .ok (.invokevirtual 199, 3) := by decide +kernel
theorem dX11_now_106 : decode cX11_now 106 = .ok (.invokestatic 202, 3) := by decide +kernel
theorem dX11_now_109 : decode cX11_now 109 = .ok (.ireturn, 1) := by decide +kernel
theorem dX11_now_110 : decode cX11_now 110 = .ok (.aload_n 0, 1) := by decide +kernel
theorem dX11_now_111 : decode cX11_now 111 = .ok (.getfield 40, 3) := by decide +kernel
theorem dX11_now_114 : decode cX11_now 114 = .ok (.iload_n 1, 1) := by decide +kernel
theorem dX11_now_115 : decode cX11_now 115 = .ok (.invokevirtual 206, 3) := by decide +kernel
theorem dX11_now_118 : decode cX11_now 118 = .ok (.invokestatic 202, 3) := by decide +kernel
theorem dX11_now_121 : decode cX11_now 121 = .ok (.ireturn, 1) := by decide +kernel
theorem dX11_now_122 : decode cX11_now 122 = .ok (.aload_n 0, 1) := by decide +kernel
theorem dX11_now_123 : decode cX11_now 123 = .ok (.getfield 40, 3) := by decide +kernel
theorem dX11_now_126 : decode cX11_now 126 = .ok (.aload_n 0, 1) := by decide +kernel
theorem dX11_now_127 : decode cX11_now 127 = .ok (.getfield 30, 3) := by decide +kernel
theorem dX11_now_130 : decode cX11_now 130 = .ok (.iload_n 1, 1) := by decide +kernel
theorem dX11_now_131 : decode cX11_now 131 = .ok (.invokevirtual 209, 3) := by decide +kernel
theorem dX11_now_134 : decode cX11_now 134 = .ok (.invokestatic 202, 3) := by decide +kernel
theorem dX11_now_137 : decode cX11_now 137 = .ok (.ireturn, 1) := by decide +kernel
theorem dX11_now_138 : decode cX11_now 138 = .ok (.aload_n 0, 1) := by decide +kernel
theorem dX11_now_139 : decode cX11_now 139 = .ok (.getfield 40, 3) := by decide +kernel
theorem dX11_now_142 : decode cX11_now 142 = .ok (.aload_n 0, 1) := by decide +kernel
theorem dX11_now_143 : decode cX11_now 143 = .ok (.getfield 30, 3) := by decide +kernel
theorem dX11_now_146 : decode cX11_now 146 = .ok (.iload_n 1, 1) := by decide +kernel
theorem dX11_now_147 : decode cX11_now 147 = .ok (.invokevirtual 213, 3) := by decide +kernel
theorem dX11_now_150 : decode cX11_now 150 = .ok (.invokestatic 202, 3) := by decide +kernel
theorem dX11_now_153 : decode cX11_now 153 = .ok (.ireturn, 1) := by decide +kernel
theorem dX11_now_154 : decode cX11_now 154 = .ok (.new 110, 3) := by decide +kernel
theorem dX11_now_157 : decode cX11_now 157 = .ok (.dup, 1) := by decide +kernel
theorem dX11_now_158 : decode cX11_now 158 = .ok (.ldc 173, 2) := by decide +kernel
theorem dX11_now_160 : decode cX11_now 160 = .ok (.invokespecial 114, 3) := by decide +kernel
theorem dX11_now_163 : decode cX11_now 163 = .ok (.athrow, 1) := by decide +kernel
theorem dX11_costs_0 : decode cX11_costs 0 = .ok (.aload_n 0, 1) := by decide +kernel
theorem dX11_costs_1 : decode cX11_costs 1 = .ok (.iload_n 1, 1) := by decide +kernel
theorem dX11_costs_2 : decode cX11_costs 2 = .ok (.invokevirtual 145, 3) := by decide +kernel
theorem dX11_costs_5 : decode cX11_costs 5 = .ok (.aload_n 0, 1) := by decide +kernel
theorem dX11_costs_6 : decode cX11_costs 6 = .ok (.iload_n 2, 1) := by decide +kernel
theorem dX11_costs_7 : decode cX11_costs 7 = .ok (.invokevirtual 145, 3) := by decide +kernel
theorem dX11_costs_10 : decode cX11_costs 10 = .ok (.aload_n 0, 1) := by decide +kernel
theorem dX11_costs_11 : decode cX11_costs 11 = .ok (.getfield 30, 3) := by decide +kernel
theorem dX11_costs_14 : decode cX11_costs 14 = .ok (.iload_n 1, 1) := by decide +kernel
theorem dX11_costs_15 : decode cX11_costs 15 = .ok (.iload_n 2, 1) := by decide +kernel
theorem dX11_costs_16 : decode cX11_costs 16 = .ok (.invokevirtual 216, 3) := by decide +kernel
theorem dX11_costs_19 : decode cX11_costs 19 = .ok (.ireturn, 1) := by decide +kernel
theorem dX11_pass_0 : decode cX11_pass 0 = .ok (.aload_n 0, 1) := by decide +kernel
theorem dX11_pass_1 : decode cX11_pass 1 = .ok (.iload_n 1, 1) := by decide +kernel
theorem dX11_pass_2 : decode cX11_pass 2 = .ok (.invokevirtual 145, 3) := by decide +kernel
theorem dX11_pass_5 : decode cX11_pass 5 = .ok (.aload_n 0, 1) := by decide +kernel
theorem dX11_pass_6 : decode cX11_pass 6 = .ok (.getfield 40, 3) := by decide +kernel
theorem dX11_pass_9 : decode cX11_pass 9 = .ok (.getfield 220, 3) := by decide +kernel
theorem dX11_pass_12 : decode cX11_pass 12 = .ok (.ifCond .le 5, 3) := by decide +kernel
theorem dX11_pass_15 : decode cX11_pass 15 = .ok (.iconst (-1), 1) := by decide +kernel
theorem dX11_pass_16 : decode cX11_pass 16 = .ok (.ireturn, 1) := by decide +kernel
theorem dX11_pass_17 : decode cX11_pass 17 = .ok (.aload_n 0, 1) := by decide +kernel
theorem dX11_pass_18 : decode cX11_pass 18 = .ok (.getfield 40, 3) := by decide +kernel
theorem dX11_pass_21 : decode cX11_pass 21 = .ok (.getfield 223, 3) := by decide +kernel
theorem dX11_pass_24 : decode cX11_pass 24 = .ok (.iload_n 1, 1) := by decide +kernel
theorem dX11_pass_25 : decode cX11_pass 25 = .ok (.if_icmp .ne 6, 3) := by decide +kernel
theorem dX11_pass_28 : decode cX11_pass 28 = .ok (.bipush (-2), 2) := by decide +kernel
theorem dX11_pass_30 : decode cX11_pass 30 = .ok (.ireturn, 1) := by decide +kernel
theorem dX11_pass_31 : decode cX11_pass 31 = .ok (.aload_n 0, 1) := by decide +kernel
theorem dX11_pass_32 : decode cX11_pass 32 = .ok (.getfield 40, 3) := by decide +kernel
theorem dX11_pass_35 : decode cX11_pass 35 = .ok (.aload_n 0, 1) := by decide +kernel
theorem dX11_pass_36 : decode cX11_pass 36 = .ok (.getfield 30, 3) := by decide +kernel
theorem dX11_pass_39 : decode cX11_pass 39 = .ok (.iload_n 1, 1) := by decide +kernel
theorem dX11_pass_40 : decode cX11_pass 40 = .ok (.invokevirtual 226, 3) := by decide +kernel
theorem dX11_pass_43 : decode cX11_pass 43 = .ok (.aload_n 0, 1) := by decide +kernel
theorem dX11_pass_44 : decode cX11_pass 44 = .ok (.getfield 40, 3) := by decide +kernel
theorem dX11_pass_47 : decode cX11_pass 47 = .ok (.getfield 220, 3) := by decide +kernel
theorem dX11_pass_50 : decode cX11_pass 50 = .ok (.ireturn, 1) := by decide +kernel
theorem dX11_bed_0 : decode cX11_bed 0 = .ok (.aload_n 0, 1) := by decide +kernel
theorem dX11_bed_1 : decode cX11_bed 1 = .ok (.iload_n 1, 1) := by decide +kernel
theorem dX11_bed_2 : decode cX11_bed 2 = .ok (.invokevirtual 145, 3) := by decide +kernel
theorem dX11_bed_5 : decode cX11_bed 5 = .ok (.aload_n 0, 1) := by decide +kernel
theorem dX11_bed_6 : decode cX11_bed 6 = .ok (.getfield 40, 3) := by decide +kernel
theorem dX11_bed_9 : decode cX11_bed 9 = .ok (.iload_n 1, 1) := by decide +kernel
theorem dX11_bed_10 : decode cX11_bed 10 = .ok (.invokevirtual 206, 3) := by decide +kernel
theorem dX11_bed_13 : decode cX11_bed 13 = .ok (.istore_n 3, 1) := by decide +kernel
theorem dX11_bed_14 : decode cX11_bed 14 = .ok (.iconst 1, 1) := by decide +kernel
theorem dX11_bed_15 : decode cX11_bed 15 = .ok (.iload_n 1, 1) := by decide +kernel
theorem dX11_bed_16 : decode cX11_bed 16 = .ok (.ishl, 1) := by decide +kernel
theorem dX11_bed_17 : decode cX11_bed 17 = .ok (.istore 4, 2) := by decide +kernel
theorem dX11_bed_19 : decode cX11_bed 19 = .ok (.aload_n 0, 1) := by decide +kernel
theorem dX11_bed_20 : decode cX11_bed 20 = .ok (.getfield 40, 3) := by decide +kernel
theorem dX11_bed_23 : decode cX11_bed 23 = .ok (.iload_n 2, 1) := by decide +kernel
theorem dX11_bed_24 : decode cX11_bed 24 = .ok (.ifCond .eq 16, 3) := by decide +kernel
theorem dX11_bed_27 : decode cX11_bed 27 = .ok (.aload_n 0, 1) := by decide +kernel
theorem dX11_bed_28 : decode cX11_bed 28 = .ok (.getfield 40, 3) := by decide +kernel
theorem dX11_bed_31 : decode cX11_bed 31 = .ok (.getfield 230, 3) := by decide +kernel
theorem dX11_bed_34 : decode cX11_bed 34 = .ok (.iload 4, 2) := by decide +kernel
theorem dX11_bed_36 : decode cX11_bed 36 = .ok (.ior, 1) := by decide +kernel
theorem dX11_bed_37 : decode cX11_bed 37 = .ok (.goto 15, 3) := by decide +kernel
theorem dX11_bed_40 : decode cX11_bed 40 = .ok (.aload_n 0, 1) := by decide +kernel
theorem dX11_bed_41 : decode cX11_bed 41 = .ok (.getfield 40, 3) := by decide +kernel
theorem dX11_bed_44 : decode cX11_bed 44 = .ok (.getfield 230, 3) := by decide +kernel
theorem dX11_bed_47 : decode cX11_bed 47 = .ok (.iload 4, 2) := by decide +kernel
theorem dX11_bed_49 : decode cX11_bed 49 = .ok (.iconst (-1), 1) := by decide +kernel
theorem dX11_bed_50 : decode cX11_bed 50 = .ok (.ixor, 1) := by decide +kernel
theorem dX11_bed_51 : decode cX11_bed 51 = .ok (.iand, 1) := by decide +kernel
theorem dX11_bed_52 : decode cX11_bed 52 = .ok (.putfield 230, 3) := by decide +kernel
theorem dX11_bed_55 : decode cX11_bed 55 = .ok (.aload_n 0, 1) := by decide +kernel
theorem dX11_bed_56 : decode cX11_bed 56 = .ok (.getfield 40, 3) := by decide +kernel
theorem dX11_bed_59 : decode cX11_bed 59 = .ok (.getfield 186, 3) := by decide +kernel
theorem dX11_bed_62 : decode cX11_bed 62 = .ok (.iload_n 1, 1) := by decide +kernel
theorem dX11_bed_63 : decode cX11_bed 63 = .ok (.iconst 0, 1) := by decide +kernel
theorem dX11_bed_64 : decode cX11_bed 64 = .ok (.iastore, 1) := by decide +kernel
theorem dX11_bed_65 : decode cX11_bed 65 = .ok (.iload_n 3, 1) := by decide +kernel
theorem dX11_bed_66 : decode cX11_bed 66 = .ok (.ireturn, 1) := by decide +kernel
theorem dX11_passing_0 : decode cX11_passing 0 = .ok (.aload_n 0, 1) := by decide +kernel
theorem dX11_passing_1 : decode cX11_passing 1 = .ok (.iload_n 2, 1) := by decide +kernel
theorem dX11_passing_2 : decode cX11_passing 2 = .ok (.invokevirtual 145, 3) := by decide +kernel
theorem dX11_passing_5 : decode cX11_passing 5 = .ok (.iload_n 1, 1) := by decide +kernel
theorem dX11_passing_6 : decode cX11_passing 6 = .ok (.iconst 0, 1) := by decide +kernel
theorem dX11_passing_7 : decode cX11_passing 7 = .ok (.sipush 479, 3) := by decide +kernel
theorem dX11_passing_10 : decode cX11_passing 10 = .ok (.invokestatic 233, 3) := by decide +kernel
theorem dX11_passing_13 : decode cX11_passing 13 = .ok (.invokestatic 237, 3) := by decide +kernel
theorem dX11_passing_16 : decode cX11_passing 16 = .ok (.aload_n 0, 1) := by decide +kernel
theorem dX11_passing_17 : decode cX11_passing 17 = .ok (.getfield 47, 3) := by decide +kernel
theorem dX11_passing_20 : decode cX11_passing 20 = .ok (.iload_n 1, 1) := by decide +kernel
theorem dX11_passing_21 : decode cX11_passing 21 = .ok (.iload_n 2, 1) := by decide +kernel
theorem dX11_passing_22 : decode cX11_passing 22 = .ok (.invokevirtual 271, 3) := by decide +kernel
theorem dX11_passing_25 : decode cX11_passing 25 = .ok (.ifCond .eq 13, 3) := by decide +kernel
theorem dX11_passing_28 : decode cX11_passing 28 = .ok (.aload_n 0, 1) := by decide +kernel
theorem dX11_passing_29 : decode cX11_passing 29 = .ok (.getfield 47, 3) := by decide +kernel
theorem dX11_passing_32 : decode cX11_passing 32 = .ok (.getfield 275, 3) := by decide +kernel
theorem dX11_passing_35 : decode cX11_passing 35 = .ok (.goto 4, 3) := by decide +kernel
theorem dX11_passing_38 : decode cX11_passing 38 = .ok (.iconst (-1), 1) := by decide +kernel
theorem dX11_passing_39 : decode cX11_passing 39 = .ok (.ireturn, 1) := by decide +kernel
theorem dX11_taught_0 : decode cX11_taught 0 = .ok (.aload_n 0, 1) := by decide +kernel
theorem dX11_taught_1 : decode cX11_taught 1 = .ok (.iload_n 1, 1) := by decide +kernel
theorem dX11_taught_2 : decode cX11_taught 2 = .ok (.invokevirtual 145, 3) := by decide +kernel
theorem dX11_taught_5 : decode cX11_taught 5 = .ok (.iload_n 2, 1) := by decide +kernel
theorem dX11_taught_6 : decode cX11_taught 6 = .ok (.iload_n 3, 1) := by decide +kernel
theorem dX11_taught_7 : decode cX11_taught 7 = .ok (.iload 4, 2) := by decide +kernel
theorem dX11_taught_9 : decode cX11_taught 9 = .ok (.invokestatic 299, 3) := by decide +kernel
theorem dX11_taught_12 : decode cX11_taught 12 = .ok (.aload_n 0, 1) := by decide +kernel
theorem dX11_taught_13 : decode cX11_taught 13 = .ok (.iload_n 1, 1) := by decide +kernel
theorem dX11_taught_14 : decode cX11_taught 14 = .ok (.iload_n 2, 1) := by decide +kernel
theorem dX11_taught_15 : decode cX11_taught 15 = .ok (.invokevirtual 303, 3) := by decide +kernel
theorem dX11_taught_18 : decode cX11_taught 18 = .ok (.invokestatic 237, 3) := by decide +kernel
theorem dX11_taught_21 : decode cX11_taught 21 = .ok (.aload_n 0, 1) := by decide +kernel
theorem dX11_taught_22 : decode cX11_taught 22 = .ok (.iload_n 3, 1) := by decide +kernel
theorem dX11_taught_23 : decode cX11_taught 23 = .ok (.iload 4, 2) := by decide +kernel
theorem dX11_taught_25 : decode cX11_taught 25 = .ok (.invokevirtual 296, 3) := by decide +kernel
theorem dX11_taught_28 : decode cX11_taught 28 = .ok (.aload_n 0, 1) := by decide +kernel
theorem dX11_taught_29 : decode cX11_taught 29 = .ok (.iload_n 1, 1) := by decide +kernel
theorem dX11_taught_30 : decode cX11_taught 30 = .ok (.iload_n 2, 1) := by decide +kernel
theorem dX11_taught_31 : decode cX11_taught 31 = .ok (.iload_n 3, 1) := by decide +kernel
theorem dX11_taught_32 : decode cX11_taught 32 = .ok (.iload 4, 2) := by decide +kernel
theorem dX11_taught_34 : decode cX11_taught 34 = .ok (.invokevirtual 306, 3) := by decide +kernel
theorem dX11_taught_37 : decode cX11_taught 37 = .ok (.isub, 1) := by decide +kernel
theorem dX11_taught_38 : decode cX11_taught 38 = .ok (.ireturn, 1) := by decide +kernel
theorem dX11_trust_0 : decode cX11_trust 0 = .ok (.aload_n 0, 1) := by decide +kernel
theorem dX11_trust_1 : decode cX11_trust 1 = .ok (.iload_n 1, 1) := by decide +kernel
theorem dX11_trust_2 : decode cX11_trust 2 = .ok (.invokevirtual 145, 3) := by decide +kernel
theorem dX11_trust_5 : decode cX11_trust 5 = .ok (.iload_n 2, 1) := by decide +kernel
theorem dX11_trust_6 : decode cX11_trust 6 = .ok (.iconst 1, 1) := by decide +kernel
theorem dX11_trust_7 : decode cX11_trust 7 = .ok (.bipush 20, 2) := by decide +kernel
theorem dX11_trust_9 : decode cX11_trust 9 = .ok (.invokestatic 233, 3) := by decide +kernel
theorem dX11_trust_12 : decode cX11_trust 12 = .ok (.invokestatic 237, 3) := by decide +kernel
theorem dX11_trust_15 : decode cX11_trust 15 = .ok (.aload_n 0, 1) := by decide +kernel
theorem dX11_trust_16 : decode cX11_trust 16 = .ok (.iload_n 1, 1) := by decide +kernel
theorem dX11_trust_17 : decode cX11_trust 17 = .ok (.iload_n 2, 1) := by decide +kernel
theorem dX11_trust_18 : decode cX11_trust 18 = .ok (.invokevirtual 310, 3) := by decide +kernel
theorem dX11_trust_21 : decode cX11_trust 21 = .ok (.ireturn, 1) := by decide +kernel
theorem dX11_answer_0 : decode cX11_answer 0 = .ok (.aload_n 0, 1) := by decide +kernel
theorem dX11_answer_1 : decode cX11_answer 1 = .ok (.iload_n 1, 1) := by decide +kernel
theorem dX11_answer_2 : decode cX11_answer 2 = .ok (.invokevirtual 145, 3) := by decide +kernel
theorem dX11_answer_5 : decode cX11_answer 5 = .ok (.iload_n 2, 1) := by decide +kernel
theorem dX11_answer_6 : decode cX11_answer 6 = .ok (.iconst 1, 1) := by decide +kernel
theorem dX11_answer_7 : decode cX11_answer 7 = .ok (.bipush 20, 2) := by decide +kernel
theorem dX11_answer_9 : decode cX11_answer 9 = .ok (.invokestatic 233, 3) := by decide +kernel
theorem dX11_answer_12 : decode cX11_answer 12 = .ok (.ifCond .eq 29, 3) := by decide +kernel
theorem dX11_answer_15 : decode cX11_answer 15 = .ok (.iload_n 3, 1) := by decide +kernel
theorem dX11_answer_16 : decode cX11_answer 16 = .ok (.iconst 1, 1) := by decide +kernel
theorem dX11_answer_17 : decode cX11_answer 17 = .ok (.bipush 60, 2) := by decide +kernel
theorem dX11_answer_19 : decode cX11_answer 19 = .ok (.invokestatic 233, 3) := by decide +kernel
theorem dX11_answer_22 : decode cX11_answer 22 = .ok (.ifCond .eq 19, 3) := by decide +kernel
theorem dX11_answer_25 : decode cX11_answer 25 = .ok (.iload 4, 2) := by decide +kernel
theorem dX11_answer_27 : decode cX11_answer 27 = .ok (.iconst 0, 1) := by decide +kernel
theorem dX11_answer_28 : decode cX11_answer 28 = .ok (.sipush 9999, 3) := by decide +kernel
theorem dX11_answer_31 : decode cX11_answer 31 = .ok (.invokestatic 233, 3) := by decide +kernel
theorem dX11_answer_34 : decode cX11_answer 34 = .ok (.ifCond .eq 7, 3) := by decide +kernel
theorem dX11_answer_37 : decode cX11_answer 37 = .ok (.iconst 1, 1) := by decide +kernel
theorem dX11_answer_38 : decode cX11_answer 38 = .ok (.goto 4, 3) := by decide +kernel
theorem dX11_answer_41 : decode cX11_answer 41 = .ok (.iconst 0, 1) := by decide +kernel
theorem dX11_answer_42 : decode cX11_answer 42 = .ok (.invokestatic 237, 3) := by decide +kernel
theorem dX11_answer_45 : decode cX11_answer 45 = .ok (.aload_n 0, 1) := by decide +kernel
theorem dX11_answer_46 : decode cX11_answer 46 = .ok (.iload_n 1, 1) := by decide +kernel
theorem dX11_answer_47 : decode cX11_answer 47 = .ok (.iload_n 2, 1) := by decide +kernel
theorem dX11_answer_48 : decode cX11_answer 48 = .ok (.invokevirtual 310, 3) := by decide +kernel
theorem dX11_answer_51 : decode cX11_answer 51 = .ok (.istore 5, 2) := by decide +kernel
theorem dX11_answer_53 : decode cX11_answer 53 = .ok (.iload 5, 2) := by decide +kernel
theorem dX11_answer_55 : decode cX11_answer 55 = .ok (.iconst (-1), 1) := by decide +kernel
theorem dX11_answer_56 : decode cX11_answer 56 = .ok (.if_icmp .eq 30, 3) := by decide +kernel
theorem dX11_answer_59 : decode cX11_answer 59 = .ok (.iload 5, 2) := by decide +kernel
theorem dX11_answer_61 : decode cX11_answer 61 = .ok (.aload_n 0, 1) := by decide +kernel
theorem dX11_answer_62 : decode cX11_answer 62 = .ok (.getfield 30, 3) := by decide +kernel
theorem dX11_answer_65 : decode cX11_answer 65 = .ok (.getfield 161, 3) := by decide +kernel
theorem dX11_answer_68 : decode cX11_answer 68 = .ok (.iload_n 1, 1) := by decide +kernel
theorem dX11_answer_69 : decode cX11_answer 69 = .ok (.iaload, 1) := by decide +kernel
theorem dX11_answer_70 : decode cX11_answer 70 = .ok (.imul, 1) := by decide +kernel
theorem dX11_answer_71 : decode cX11_answer 71 = .ok (.iload_n 3, 1) := by decide +kernel
theorem dX11_answer_72 : decode cX11_answer 72 = .ok (.imul, 1) := by decide +kernel
theorem dX11_answer_73 : decode cX11_answer 73 = .ok (.sipush 1000, 3) := by decide +kernel
theorem dX11_answer_76 : decode cX11_answer 76 = .ok (.iload 4, 2) := by decide +kernel
theorem dX11_answer_78 : decode cX11_answer 78 = .ok (.imul, 1) := by decide +kernel
theorem dX11_answer_79 : decode cX11_answer 79 = .ok (.if_icmp .le 7, 3) := by decide +kernel
theorem dX11_answer_82 : decode cX11_answer 82 = .ok (.iconst 1, 1) := by decide +kernel
theorem dX11_answer_83 : decode cX11_answer 83 = .ok (.goto 4, 3) := by decide +kernel
theorem dX11_answer_86 : decode cX11_answer 86 = .ok (.iconst 0, 1) := by decide +kernel
theorem dX11_answer_87 : decode cX11_answer 87 = .ok (.ireturn, 1) := by decide +kernel
theorem dX11_stay_0 : decode cX11_stay 0 = .ok (.aload_n 0, 1) := by decide +kernel
theorem dX11_stay_1 : decode cX11_stay 1 = .ok (.iload_n 1, 1) := by decide +kernel
theorem dX11_stay_2 : decode cX11_stay 2 = .ok (.invokevirtual 145, 3) := by decide +kernel
theorem dX11_stay_5 : decode cX11_stay 5 = .ok (.aload_n 0, 1) := by decide +kernel
theorem dX11_stay_6 : decode cX11_stay 6 = .ok (.getfield 79, 3) := by decide +kernel
theorem dX11_stay_9 : decode cX11_stay 9 = .ok (.aload_n 0, 1) := by decide +kernel
theorem dX11_stay_10 : decode cX11_stay 10 = .ok (.getfield 30, 3) := by decide +kernel
theorem dX11_stay_13 : decode cX11_stay 13 = .ok (.aload_n 0, 1) := by decide +kernel
theorem dX11_stay_14 : decode cX11_stay 14 = .ok (.getfield 40, 3) := by decide +kernel
theorem dX11_stay_17 : decode cX11_stay 17 = .ok (.iload_n 1, 1) := by decide +kernel
theorem dX11_stay_18 : decode cX11_stay 18 = .ok (.invokevirtual 367, 3) := by decide +kernel
theorem dX11_stay_21 : decode cX11_stay 21 = .ok (.aload_n 0, 1) := by decide +kernel
theorem dX11_stay_22 : decode cX11_stay 22 = .ok (.getfield 79, 3) := by decide +kernel
theorem dX11_stay_25 : decode cX11_stay 25 = .ok (.iconst 0, 1) := by decide +kernel
theorem dX11_stay_26 : decode cX11_stay 26 = .ok (.invokevirtual 370, 3) := by decide +kernel
theorem dX11_stay_29 : decode cX11_stay 29 = .ok (.ireturn, 1) := by decide +kernel
theorem dX11_beds_0 : decode cX11_beds 0 = .ok (.aload_n 0, 1) := by decide +kernel
theorem dX11_beds_1 : decode cX11_beds 1 = .ok (.iload_n 1, 1) := by decide +kernel
theorem dX11_beds_2 : decode cX11_beds 2 = .ok (.invokevirtual 145, 3) := by decide +kernel
theorem dX11_beds_5 : decode cX11_beds 5 = .ok (.iload_n 2, 1) := by decide +kernel
theorem dX11_beds_6 : decode cX11_beds 6 = .ok (.iconst 0, 1) := by decide +kernel
theorem dX11_beds_7 : decode cX11_beds 7 = .ok (.bipush 8, 2) := by decide +kernel
theorem dX11_beds_9 : decode cX11_beds 9 = .ok (.invokestatic 233, 3) := by decide +kernel
theorem dX11_beds_12 : decode cX11_beds 12 = .ok (.ifCond .eq 16, 3) := by decide +kernel
theorem dX11_beds_15 : decode cX11_beds 15 = .ok (.iload_n 3, 1) := by decide +kernel
theorem dX11_beds_16 : decode cX11_beds 16 = .ok (.iconst 0, 1) := by decide +kernel
theorem dX11_beds_17 : decode cX11_beds 17 = .ok (.iconst 1, 1) := by decide +kernel
theorem dX11_beds_18 : decode cX11_beds 18 = .ok (.invokestatic 233, 3) := by decide +kernel
theorem dX11_beds_21 : decode cX11_beds 21 = .ok (.ifCond .eq 7, 3) := by decide +kernel
theorem dX11_beds_24 : decode cX11_beds 24 = .ok (.iconst 1, 1) := by decide +kernel
theorem dX11_beds_25 : decode cX11_beds 25 = .ok (.goto 4, 3) := by decide +kernel
theorem dX11_beds_28 : decode cX11_beds 28 = .ok (.iconst 0, 1) := by decide +kernel
theorem dX11_beds_29 : decode cX11_beds 29 = .ok (.invokestatic 237, 3) := by decide +kernel
theorem dX11_beds_32 : decode cX11_beds 32 = .ok (.iconst 1, 1) := by decide +kernel
theorem dX11_beds_33 : decode cX11_beds 33 = .ok (.aload_n 0, 1) := by decide +kernel
theorem dX11_beds_34 : decode cX11_beds 34 = .ok (.getfield 30, 3) := by decide +kernel
theorem dX11_beds_37 : decode cX11_beds 37 = .ok (.getfield 128, 3) := by decide +kernel
theorem dX11_beds_40 : decode cX11_beds 40 = .ok (.ishl, 1) := by decide +kernel
theorem dX11_beds_41 : decode cX11_beds 41 = .ok (.iconst 1, 1) := by decide +kernel
theorem dX11_beds_42 : decode cX11_beds 42 = .ok (.isub, 1) := by decide +kernel
theorem dX11_beds_43 : decode cX11_beds 43 = .ok (.aload_n 0, 1) := by decide +kernel
theorem dX11_beds_44 : decode cX11_beds 44 = .ok (.getfield 40, 3) := by decide +kernel
theorem dX11_beds_47 : decode cX11_beds 47 = .ok (.getfield 230, 3) := by decide +kernel
theorem dX11_beds_50 : decode cX11_beds 50 = .ok (.iconst (-1), 1) := by decide +kernel
theorem dX11_beds_51 : decode cX11_beds 51 = .ok (.ixor, 1) := by decide +kernel
theorem dX11_beds_52 : decode cX11_beds 52 = .ok (.iand, 1) := by decide +kernel
theorem dX11_beds_53 : decode cX11_beds 53 = .ok (.iconst 1, 1) := by decide +kernel
theorem dX11_beds_54 : decode cX11_beds 54 = .ok (.iload_n 1, 1) := by decide +kernel
theorem dX11_beds_55 : decode cX11_beds 55 = .ok (.ishl, 1) := by decide +kernel
theorem dX11_beds_56 : decode cX11_beds 56 = .ok (.iconst (-1), 1) := by decide +kernel
theorem dX11_beds_57 : decode cX11_beds 57 = .ok (.ixor, 1) := by decide +kernel
theorem dX11_beds_58 : decode cX11_beds 58 = .ok (.iand, 1) := by decide +kernel
theorem dX11_beds_59 : decode cX11_beds 59 = .ok (.istore 4, 2) := by decide +kernel
theorem dX11_beds_61 : decode cX11_beds 61 = .ok (.iload 4, 2) := by decide +kernel
theorem dX11_beds_63 : decode cX11_beds 63 = .ok (.invokestatic 260, 3) := by decide +kernel
theorem dX11_beds_66 : decode cX11_beds 66 = .ok (.iload_n 2, 1) := by decide +kernel
theorem dX11_beds_67 : decode cX11_beds 67 = .ok (.if_icmp .ge 5, 3) := by decide +kernel
theorem dX11_beds_70 : decode cX11_beds 70 = .ok (.iconst (-1), 1) := by decide +kernel
theorem dX11_beds_71 : decode cX11_beds 71 = .ok (.ireturn, 1) := by decide +kernel
theorem dX11_beds_72 : decode cX11_beds 72 = .ok (.aload_n 0, 1) := by decide +kernel
theorem dX11_beds_73 : decode cX11_beds 73 = .ok (.getfield 79, 3) := by decide +kernel
theorem dX11_beds_76 : decode cX11_beds 76 = .ok (.aload_n 0, 1) := by decide +kernel
theorem dX11_beds_77 : decode cX11_beds 77 = .ok (.getfield 30, 3) := by decide +kernel
theorem dX11_beds_80 : decode cX11_beds 80 = .ok (.aload_n 0, 1) := by decide +kernel
theorem dX11_beds_81 : decode cX11_beds 81 = .ok (.getfield 40, 3) := by decide +kernel
theorem dX11_beds_84 : decode cX11_beds 84 = .ok (.iload_n 1, 1) := by decide +kernel
theorem dX11_beds_85 : decode cX11_beds 85 = .ok (.invokevirtual 367, 3) := by decide +kernel
theorem dX11_beds_88 : decode cX11_beds 88 = .ok (.iconst 0, 1) := by decide +kernel
theorem dX11_beds_89 : decode cX11_beds 89 = .ok (.istore 5, 2) := by decide +kernel
theorem dX11_beds_91 : decode cX11_beds 91 = .ok (.iconst (-1), 1) := by decide +kernel
theorem dX11_beds_92 : decode cX11_beds 92 = .ok (.istore 6, 2) := by decide +kernel
theorem dX11_beds_94 : decode cX11_beds 94 = .ok (.iconst 0, 1) := by decide +kernel
theorem dX11_beds_95 : decode cX11_beds 95 = .ok (.istore 7, 2) := by decide +kernel
theorem dX11_beds_97 : decode cX11_beds 97 = .ok (.iload 7, 2) := by decide +kernel
theorem dX11_beds_99 : decode cX11_beds 99 = .ok (.iload 4, 2) := by decide +kernel
theorem dX11_beds_101 : decode cX11_beds 101 = .ok (.if_icmp .gt 57, 3) := by decide +kernel
theorem dX11_beds_104 : decode cX11_beds 104 = .ok (.iload 7, 2) := by decide +kernel
theorem dX11_beds_106 : decode cX11_beds 106 = .ok (.iload 4, 2) := by decide +kernel
theorem dX11_beds_108 : decode cX11_beds 108 = .ok (.iconst (-1), 1) := by decide +kernel
theorem dX11_beds_109 : decode cX11_beds 109 = .ok (.ixor, 1) := by decide +kernel
theorem dX11_beds_110 : decode cX11_beds 110 = .ok (.iand, 1) := by decide +kernel
theorem dX11_beds_111 : decode cX11_beds 111 = .ok (.ifCond .ne 41, 3) := by decide +kernel
theorem dX11_beds_114 : decode cX11_beds 114 = .ok (.iload 7, 2) := by decide +kernel
theorem dX11_beds_116 : decode cX11_beds 116 = .ok (.invokestatic 260, 3) := by decide +kernel
theorem dX11_beds_119 : decode cX11_beds 119 = .ok (.iload_n 2, 1) := by decide +kernel
theorem dX11_beds_120 : decode cX11_beds 120 = .ok (.if_icmp .ne 32, 3) := by decide +kernel
theorem dX11_beds_123 : decode cX11_beds 123 = .ok (.aload_n 0, 1) := by decide +kernel
theorem dX11_beds_124 : decode cX11_beds 124 = .ok (.getfield 79, 3) := by decide +kernel
theorem dX11_beds_127 : decode cX11_beds 127 = .ok (.iload 7, 2) := by decide +kernel
theorem dX11_beds_129 : decode cX11_beds 129 = .ok (.invokevirtual 370, 3) := by decide +kernel
theorem dX11_beds_132 : decode cX11_beds 132 = .ok (.iload 6, 2) := by decide +kernel
theorem dX11_beds_134 : decode cX11_beds 134 = .ok (.if_icmp .le 18, 3) := by decide +kernel
theorem dX11_beds_137 : decode cX11_beds 137 = .ok (.iload 7, 2) := by decide +kernel
theorem dX11_beds_139 : decode cX11_beds 139 = .ok (.istore 5, 2) := by decide +kernel
theorem dX11_beds_141 : decode cX11_beds 141 = .ok (.aload_n 0, 1) := by decide +kernel
theorem dX11_beds_142 : decode cX11_beds 142 = .ok (.getfield 79, 3) := by decide +kernel
theorem dX11_beds_145 : decode cX11_beds 145 = .ok (.iload 7, 2) := by decide +kernel
theorem dX11_beds_147 : decode cX11_beds 147 = .ok (.invokevirtual 370, 3) := by decide +kernel
theorem dX11_beds_150 : decode cX11_beds 150 = .ok (.istore 6, 2) := by decide +kernel
theorem dX11_beds_152 : decode cX11_beds 152 = .ok (.iinc 7 1, 3) := by decide +kernel
theorem dX11_beds_155 : decode cX11_beds 155 = .ok (.goto (-58), 3) := by decide +kernel
theorem dX11_beds_158 : decode cX11_beds 158 = .ok (.iload_n 3, 1) := by decide +kernel
theorem dX11_beds_159 : decode cX11_beds 159 = .ok (.ifCond .ne 8, 3) := by decide +kernel
theorem dX11_beds_162 : decode cX11_beds 162 = .ok (.iload 5, 2) := by decide +kernel
theorem dX11_beds_164 : decode cX11_beds 164 = .ok (.goto 5, 3) := by decide +kernel
theorem dX11_beds_167 : decode cX11_beds 167 = .ok (.iload 6, 2) := by decide +kernel
theorem dX11_beds_169 : decode cX11_beds 169 = .ok (.ireturn, 1) := by decide +kernel
set_option maxHeartbeats 4000000 in
set_option maxRecDepth 100000 in
/-- needBody: nobody is there -/
theorem c_needBody (l : Launch) (hl0 : l.stackTraces = false) (D : va_G) (cy : Nat → ClassId) (sa : Nat → Nat) (u : Nat → Nat) (p0 : Int32) (sz : Nat) : vx_Met l yX11_needBody (Cond.code yX11_needBody cX11_needBody 2 none :: kWS) ({ frames := 11, cells := 1, slots := 6, locals := 360 }) (kPre D cy sa [.ref (u 0), .int p0] [((u 0), .inr (12, [.ref (u 1), .int 0, .int (-1), .ref (u 2), .ref (u 3), .ref (u 4), .ref (u 5), .ref (u 6), .ref (u 7), .ref (u 8), .int 0, .ref (u 9), .ref (u 10), .ref (u 11), .ref (u 12), .ref (u 13), .ref (u 14)])), ((u 3), .inr (4, [.ref (u 15), .ref (u 16), .ref (u 17), .ref (u 18), .ref (u 19), .ref (u 20), .ref (u 21), .ref (u 22), .ref (u 23), .ref (u 24), .ref (u 25), .ref (u 26), .int 0, .int 0, .int 0, .int 0, .int 0]))] sz) (va_Qv (fun (_ : Unit) => False) (kB D (va_A [((u 0), .inr (12, [.ref (u 1), .int 0, .int (-1), .ref (u 2), .ref (u 3), .ref (u 4), .ref (u 5), .ref (u 6), .ref (u 7), .ref (u 8), .int 0, .ref (u 9), .ref (u 10), .ref (u 11), .ref (u 12), .ref (u 13), .ref (u 14)])), ((u 3), .inr (4, [.ref (u 15), .ref (u 16), .ref (u 17), .ref (u 18), .ref (u 19), .ref (u 20), .ref (u 21), .ref (u 22), .ref (u 23), .ref (u 24), .ref (u 25), .ref (u 26), .int 0, .int 0, .int 0, .int 0, .int 0]))] sz) (fun _ => [])) (va_A [((u 0), .inr (12, [.ref (u 1), .int 0, .int (-1), .ref (u 2), .ref (u 3), .ref (u 4), .ref (u 5), .ref (u 6), .ref (u 7), .ref (u 8), .int 0, .ref (u 9), .ref (u 10), .ref (u 11), .ref (u 12), .ref (u 13), .ref (u 14)])), ((u 3), .inr (4, [.ref (u 15), .ref (u 16), .ref (u 17), .ref (u 18), .ref (u 19), .ref (u 20), .ref (u 21), .ref (u 22), .ref (u 23), .ref (u 24), .ref (u 25), .ref (u 26), .int 0, .int 0, .int 0, .int 0, .int 0]))] sz)) (vx_X (fun (_ : Unit) => True) (kBX D (va_A [((u 0), .inr (12, [.ref (u 1), .int 0, .int (-1), .ref (u 2), .ref (u 3), .ref (u 4), .ref (u 5), .ref (u 6), .ref (u 7), .ref (u 8), .int 0, .ref (u 9), .ref (u 10), .ref (u 11), .ref (u 12), .ref (u 13), .ref (u 14)])), ((u 3), .inr (4, [.ref (u 15), .ref (u 16), .ref (u 17), .ref (u 18), .ref (u 19), .ref (u 20), .ref (u 21), .ref (u 22), .ref (u 23), .ref (u 24), .ref (u 25), .ref (u 26), .int 0, .int 0, .int 0, .int 0, .int 0]))] sz) (fun _ => []) (fun _ => "java/util/NoSuchElementException")) (va_A [((u 0), .inr (12, [.ref (u 1), .int 0, .int (-1), .ref (u 2), .ref (u 3), .ref (u 4), .ref (u 5), .ref (u 6), .ref (u 7), .ref (u 8), .int 0, .ref (u 9), .ref (u 10), .ref (u 11), .ref (u 12), .ref (u 13), .ref (u 14)])), ((u 3), .inr (4, [.ref (u 15), .ref (u 16), .ref (u 17), .ref (u 18), .ref (u 19), .ref (u 20), .ref (u 21), .ref (u 22), .ref (u 23), .ref (u 24), .ref (u 25), .ref (u 26), .int 0, .int 0, .int 0, .int 0, .int 0]))] sz)) 1 6 (va_A [((u 0), .inr (12, [.ref (u 1), .int 0, .int (-1), .ref (u 2), .ref (u 3), .ref (u 4), .ref (u 5), .ref (u 6), .ref (u 7), .ref (u 8), .int 0, .ref (u 9), .ref (u 10), .ref (u 11), .ref (u 12), .ref (u 13), .ref (u 14)])), ((u 3), .inr (4, [.ref (u 15), .ref (u 16), .ref (u 17), .ref (u 18), .ref (u 19), .ref (u 20), .ref (u 21), .ref (u 22), .ref (u 23), .ref (u 24), .ref (u 25), .ref (u 26), .int 0, .int 0, .int 0, .int 0, .int 0]))] sz) := by
  refine k_ofX (Qc := fun A => va_Qv (fun (_ : Unit) => False) (kB D A (fun _ => [])) A) (XC := fun A => vx_X (fun (_ : Unit) => True) (kBX D A (fun _ => []) (fun _ => "java/util/NoSuchElementException")) A) (by decide) (Nat.le_of_ble_eq_true rfl) ?_
  intro p e s m below meth c ls A E hxt hA hP hD hG hS hl
  obtain ⟨hx, hb, hml, hown, hts, hr, hlk, hnm⟩ := id E
  have hown : s.vm.findClass RX11 = some m.cls := hown
  have hl : lv_has ls 2 [(0, .ref (u 0)), (1, .int p0)] := hl
  obtain ⟨H, hH⟩ : ∃ H, H = s.heap := ⟨_, rfl⟩
  have hP : va_P D vwCl [((u 0), .inr (12, [.ref (u 1), .int 0, .int (-1), .ref (u 2), .ref (u 3), .ref (u 4), .ref (u 5), .ref (u 6), .ref (u 7), .ref (u 8), .int 0, .ref (u 9), .ref (u 10), .ref (u 11), .ref (u 12), .ref (u 13), .ref (u 14)])), ((u 3), .inr (4, [.ref (u 15), .ref (u 16), .ref (u 17), .ref (u 18), .ref (u 19), .ref (u 20), .ref (u 21), .ref (u 22), .ref (u 23), .ref (u 24), .ref (u 25), .ref (u 26), .int 0, .int 0, .int 0, .int 0, .int 0]))] H := by rw [hH]; exact hP
  have hS : va_S A s.heap H [] := by rw [hH]; exact va_S.rf
  rw [← hH]
  clear hH
  refine lv_aload_n hx hb dX11_needBody_0 rfl (lv_at hl 0 rfl) ?_
  refine va_get (D := D) (ci := 12) (v := .ref (u 3)) (C := RX11) (T := TX11) (N := 17) hx hb hts kin_RX11 hown hG.1 hP 0 rfl rfl 4 (by decide) (hts _ wm_420) (fun _ h9 => h9) rfl dX11_needBody_1 ?_
  refine lv_iload_n hx hb dX11_needBody_4 rfl (lv_at hl 1 rfl) ?_
  refine k_cali [0] (⟨hP, hD, hG, hS, hA, rfl, rfl⟩ : kAt D cy sa A s H _ _ [((u 3), .inr (4, [.ref (u 15), .ref (u 16), .ref (u 17), .ref (u 18), .ref (u 19), .ref (u 20), .ref (u 21), .ref (u 22), .ref (u 23), .ref (u 24), .ref (u 25), .ref (u 26), .int 0, .int 0, .int 0, .int 0, .int 0]))] [1]) (wr := [((u 0), .inr (12, [.ref (u 1), .int 0, .int (-1), .ref (u 2), .ref (u 3), .ref (u 4), .ref (u 5), .ref (u 6), .ref (u 7), .ref (u 8), .int 0, .ref (u 9), .ref (u 10), .ref (u 11), .ref (u 12), .ref (u 13), .ref (u 14)]))]) rfl rfl (by decide) (k_runV 4 1 (As := [.int p0]) (rest := []) E lk_VRX11_175 rfl rfl rfl (c_House_has l hl0 D cy sa (u 3) (.ref (u 15)) (.ref (u 16)) (.ref (u 17)) (.ref (u 18)) (.ref (u 19)) (.ref (u 20)) (.ref (u 21)) (.ref (u 22)) (.ref (u 23)) (.ref (u 24)) (.ref (u 25)) (.ref (u 26)) 0 0 0 0 0 p0 H.size) (⟨hP, hD, hG, hS, hA, rfl, rfl⟩ : kAt D cy sa A s H _ _ [((u 3), .inr (4, [.ref (u 15), .ref (u 16), .ref (u 17), .ref (u 18), .ref (u 19), .ref (u 20), .ref (u 21), .ref (u 22), .ref (u 23), .ref (u 24), .ref (u 25), .ref (u 26), .int 0, .int 0, .int 0, .int 0, .int 0]))] [1]) hl.1 rfl rfl ⟨rfl, rfl, ⟨Nat.le_of_ble_eq_true rfl, Nat.le_of_ble_eq_true rfl⟩, ⟨Nat.le_of_ble_eq_true rfl, Nat.le_of_ble_eq_true rfl⟩, Nat.le_of_ble_eq_true rfl⟩ dX11_needBody_5) (fun r1 u2 H locs hwu2 hP hD hS => ?_)
  have hP : va_P D vwCl [((u 0), .inr (12, [.ref (u 1), .int 0, .int (-1), .ref (u 2), .ref (u 3), .ref (u 4), .ref (u 5), .ref (u 6), .ref (u 7), .ref (u 8), .int 0, .ref (u 9), .ref (u 10), .ref (u 11), .ref (u 12), .ref (u 13), .ref (u 14)])), ((u 3), .inr (4, [.ref (u 15), .ref (u 16), .ref (u 17), .ref (u 18), .ref (u 19), .ref (u 20), .ref (u 21), .ref (u 22), .ref (u 23), .ref (u 24), .ref (u 25), .ref (u 26), .int 0, .int 0, .int 0, .int 0, .int 0]))] H := hP
  have hD : va_D A [((u 0), .inr (12, [.ref (u 1), .int 0, .int (-1), .ref (u 2), .ref (u 3), .ref (u 4), .ref (u 5), .ref (u 6), .ref (u 7), .ref (u 8), .int 0, .ref (u 9), .ref (u 10), .ref (u 11), .ref (u 12), .ref (u 13), .ref (u 14)])), ((u 3), .inr (4, [.ref (u 15), .ref (u 16), .ref (u 17), .ref (u 18), .ref (u 19), .ref (u 20), .ref (u 21), .ref (u 22), .ref (u 23), .ref (u 24), .ref (u 25), .ref (u 26), .int 0, .int 0, .int 0, .int 0, .int 0]))] := hD
  obtain rfl : r1 = 0 := hwu2.trans (if_neg (fun h => h.1 h.2.1))
  refine lv_if_ne (tgt := 21) hx hb dX11_needBody_8 (by decide) (fun h => absurd (by decide) h) (fun _ => ?_)
  exact k_throwN () hl0 E rfl hxt th_179_183_181 hl.1 (hP.sub [] rfl) (hD.sub [] (by decide) rfl) hG hS (trivial) (rfl) dX11_needBody_11 dX11_needBody_14 dX11_needBody_15 dX11_needBody_17 dX11_needBody_20 (Nat.le_of_ble_eq_true rfl) (Nat.le_of_ble_eq_true rfl) (Nat.le_of_ble_eq_true rfl) (Nat.le_of_ble_eq_true rfl) (by decide) (by decide)

set_option maxHeartbeats 4000000 in
set_option maxRecDepth 100000 in
/-- body -/
theorem c_LM_body (l : Launch) (hl0 : l.stackTraces = false) (D : va_G) (cy : Nat → ClassId) (sa : Nat → Nat) (u : Nat → Nat) (p0 p1 : Int32) (sz : Nat) : vx_Met l yX11_body (Cond.code yX11_body cX11_body 3 (some .int) :: kWS) ({ frames := 13, cells := 1, slots := 6, locals := 480 }) (kPre D cy sa [.ref (u 0), .int p0, .int p1] [((u 0), .inr (12, [.ref (u 1), .int 0, .int (-1), .ref (u 2), .ref (u 3), .ref (u 4), .ref (u 5), .ref (u 6), .ref (u 7), .ref (u 8), .int 0, .ref (u 9), .ref (u 10), .ref (u 11), .ref (u 12), .ref (u 13), .ref (u 14)])), ((u 3), .inr (4, [.ref (u 15), .ref (u 16), .ref (u 17), .ref (u 18), .ref (u 19), .ref (u 20), .ref (u 21), .ref (u 22), .ref (u 23), .ref (u 24), .ref (u 25), .ref (u 26), .int 0, .int 0, .int 0, .int 0, .int 0]))] sz) (va_Qi (fun (r : Int32) (_ : Unit) => False) (kB D (va_A [((u 0), .inr (12, [.ref (u 1), .int 0, .int (-1), .ref (u 2), .ref (u 3), .ref (u 4), .ref (u 5), .ref (u 6), .ref (u 7), .ref (u 8), .int 0, .ref (u 9), .ref (u 10), .ref (u 11), .ref (u 12), .ref (u 13), .ref (u 14)])), ((u 3), .inr (4, [.ref (u 15), .ref (u 16), .ref (u 17), .ref (u 18), .ref (u 19), .ref (u 20), .ref (u 21), .ref (u 22), .ref (u 23), .ref (u 24), .ref (u 25), .ref (u 26), .int 0, .int 0, .int 0, .int 0, .int 0]))] sz) (fun _ => [])) (va_A [((u 0), .inr (12, [.ref (u 1), .int 0, .int (-1), .ref (u 2), .ref (u 3), .ref (u 4), .ref (u 5), .ref (u 6), .ref (u 7), .ref (u 8), .int 0, .ref (u 9), .ref (u 10), .ref (u 11), .ref (u 12), .ref (u 13), .ref (u 14)])), ((u 3), .inr (4, [.ref (u 15), .ref (u 16), .ref (u 17), .ref (u 18), .ref (u 19), .ref (u 20), .ref (u 21), .ref (u 22), .ref (u 23), .ref (u 24), .ref (u 25), .ref (u 26), .int 0, .int 0, .int 0, .int 0, .int 0]))] sz)) (vx_X (fun (_ : Unit) => True) (kBX D (va_A [((u 0), .inr (12, [.ref (u 1), .int 0, .int (-1), .ref (u 2), .ref (u 3), .ref (u 4), .ref (u 5), .ref (u 6), .ref (u 7), .ref (u 8), .int 0, .ref (u 9), .ref (u 10), .ref (u 11), .ref (u 12), .ref (u 13), .ref (u 14)])), ((u 3), .inr (4, [.ref (u 15), .ref (u 16), .ref (u 17), .ref (u 18), .ref (u 19), .ref (u 20), .ref (u 21), .ref (u 22), .ref (u 23), .ref (u 24), .ref (u 25), .ref (u 26), .int 0, .int 0, .int 0, .int 0, .int 0]))] sz) (fun _ => []) (fun _ => "java/util/NoSuchElementException")) (va_A [((u 0), .inr (12, [.ref (u 1), .int 0, .int (-1), .ref (u 2), .ref (u 3), .ref (u 4), .ref (u 5), .ref (u 6), .ref (u 7), .ref (u 8), .int 0, .ref (u 9), .ref (u 10), .ref (u 11), .ref (u 12), .ref (u 13), .ref (u 14)])), ((u 3), .inr (4, [.ref (u 15), .ref (u 16), .ref (u 17), .ref (u 18), .ref (u 19), .ref (u 20), .ref (u 21), .ref (u 22), .ref (u 23), .ref (u 24), .ref (u 25), .ref (u 26), .int 0, .int 0, .int 0, .int 0, .int 0]))] sz)) 1 6 (va_A [((u 0), .inr (12, [.ref (u 1), .int 0, .int (-1), .ref (u 2), .ref (u 3), .ref (u 4), .ref (u 5), .ref (u 6), .ref (u 7), .ref (u 8), .int 0, .ref (u 9), .ref (u 10), .ref (u 11), .ref (u 12), .ref (u 13), .ref (u 14)])), ((u 3), .inr (4, [.ref (u 15), .ref (u 16), .ref (u 17), .ref (u 18), .ref (u 19), .ref (u 20), .ref (u 21), .ref (u 22), .ref (u 23), .ref (u 24), .ref (u 25), .ref (u 26), .int 0, .int 0, .int 0, .int 0, .int 0]))] sz) := by
  refine k_ofX (Qc := fun A => va_Qi (fun (r : Int32) (_ : Unit) => False) (kB D A (fun _ => [])) A) (XC := fun A => vx_X (fun (_ : Unit) => True) (kBX D A (fun _ => []) (fun _ => "java/util/NoSuchElementException")) A) (by decide) (Nat.le_of_ble_eq_true rfl) ?_
  intro p e s m below meth c ls A E hxt hA hP hD hG hS hl
  obtain ⟨hx, hb, hml, hown, hts, hr, hlk, hnm⟩ := id E
  have hown : s.vm.findClass RX11 = some m.cls := hown
  have hl : lv_has ls 3 [(0, .ref (u 0)), (1, .int p0), (2, .int p1)] := hl
  obtain ⟨H, hH⟩ : ∃ H, H = s.heap := ⟨_, rfl⟩
  have hP : va_P D vwCl [((u 0), .inr (12, [.ref (u 1), .int 0, .int (-1), .ref (u 2), .ref (u 3), .ref (u 4), .ref (u 5), .ref (u 6), .ref (u 7), .ref (u 8), .int 0, .ref (u 9), .ref (u 10), .ref (u 11), .ref (u 12), .ref (u 13), .ref (u 14)])), ((u 3), .inr (4, [.ref (u 15), .ref (u 16), .ref (u 17), .ref (u 18), .ref (u 19), .ref (u 20), .ref (u 21), .ref (u 22), .ref (u 23), .ref (u 24), .ref (u 25), .ref (u 26), .int 0, .int 0, .int 0, .int 0, .int 0]))] H := by rw [hH]; exact hP
  have hS : va_S A s.heap H [] := by rw [hH]; exact va_S.rf
  rw [← hH]
  clear hH
  refine lv_aload_n hx hb dX11_body_0 rfl (lv_at hl 0 rfl) ?_
  refine lv_iload_n hx hb dX11_body_1 rfl (lv_at hl 1 rfl) ?_
  refine x_calv [] (⟨hP, hD, hG, hS, hA, rfl, rfl⟩ : kAt D cy sa A s H _ _ [((u 0), .inr (12, [.ref (u 1), .int 0, .int (-1), .ref (u 2), .ref (u 3), .ref (u 4), .ref (u 5), .ref (u 6), .ref (u 7), .ref (u 8), .int 0, .ref (u 9), .ref (u 10), .ref (u 11), .ref (u 12), .ref (u 13), .ref (u 14)])), ((u 3), .inr (4, [.ref (u 15), .ref (u 16), .ref (u 17), .ref (u 18), .ref (u 19), .ref (u 20), .ref (u 21), .ref (u 22), .ref (u 23), .ref (u 24), .ref (u 25), .ref (u 26), .int 0, .int 0, .int 0, .int 0, .int 0]))] [0, 1]) (wr := []) rfl rfl (by decide) (x_runV 12 0 (As := [.int p0]) (rest := []) E lk_VRX11_145 rfl rfl rfl (c_needBody l hl0 D cy sa u p0 H.size) (⟨hP, hD, hG, hS, hA, rfl, rfl⟩ : kAt D cy sa A s H _ _ [((u 0), .inr (12, [.ref (u 1), .int 0, .int (-1), .ref (u 2), .ref (u 3), .ref (u 4), .ref (u 5), .ref (u 6), .ref (u 7), .ref (u 8), .int 0, .ref (u 9), .ref (u 10), .ref (u 11), .ref (u 12), .ref (u 13), .ref (u 14)])), ((u 3), .inr (4, [.ref (u 15), .ref (u 16), .ref (u 17), .ref (u 18), .ref (u 19), .ref (u 20), .ref (u 21), .ref (u 22), .ref (u 23), .ref (u 24), .ref (u 25), .ref (u 26), .int 0, .int 0, .int 0, .int 0, .int 0]))] [0, 1]) hl.1 rfl rfl ⟨rfl, rfl, ⟨Nat.le_of_ble_eq_true rfl, Nat.le_of_ble_eq_true rfl⟩, ⟨Nat.le_of_ble_eq_true rfl, Nat.le_of_ble_eq_true rfl⟩, Nat.le_of_ble_eq_true rfl⟩ dX11_body_2) (fun ce q9 u2 H locs hwu2 hP hD hS h1 h2 h3 => ?_) (fun u2 H locs hwu2 hP hD hS => ?_)
  · have hP : va_P D vwCl [] H := hP
    have hD : va_D A [] := hD
    exact x_out () hxt hlk h1 h2 (h3) (trivial) (hP.sub [] rfl) (hD.sub [] (by decide) rfl) hS (by decide) (by decide)
  · exact (hwu2).elim

set_option maxHeartbeats 4000000 in
set_option maxRecDepth 100000 in
/-- now -/
theorem c_LM_now (l : Launch) (hl0 : l.stackTraces = false) (D : va_G) (cy : Nat → ClassId) (sa : Nat → Nat) (u : Nat → Nat) (p0 p1 : Int32) (sz : Nat) : vx_Met l yX11_now (Cond.code yX11_now cX11_now 3 (some .int) :: kWS) ({ frames := 13, cells := 1, slots := 6, locals := 480 }) (kPre D cy sa [.ref (u 0), .int p0, .int p1] [((u 0), .inr (12, [.ref (u 1), .int 0, .int (-1), .ref (u 2), .ref (u 3), .ref (u 4), .ref (u 5), .ref (u 6), .ref (u 7), .ref (u 8), .int 0, .ref (u 9), .ref (u 10), .ref (u 11), .ref (u 12), .ref (u 13), .ref (u 14)])), ((u 3), .inr (4, [.ref (u 15), .ref (u 16), .ref (u 17), .ref (u 18), .ref (u 19), .ref (u 20), .ref (u 21), .ref (u 22), .ref (u 23), .ref (u 24), .ref (u 25), .ref (u 26), .int 0, .int 0, .int 0, .int 0, .int 0]))] sz) (va_Qi (fun (r : Int32) (_ : Unit) => False) (kB D (va_A [((u 0), .inr (12, [.ref (u 1), .int 0, .int (-1), .ref (u 2), .ref (u 3), .ref (u 4), .ref (u 5), .ref (u 6), .ref (u 7), .ref (u 8), .int 0, .ref (u 9), .ref (u 10), .ref (u 11), .ref (u 12), .ref (u 13), .ref (u 14)])), ((u 3), .inr (4, [.ref (u 15), .ref (u 16), .ref (u 17), .ref (u 18), .ref (u 19), .ref (u 20), .ref (u 21), .ref (u 22), .ref (u 23), .ref (u 24), .ref (u 25), .ref (u 26), .int 0, .int 0, .int 0, .int 0, .int 0]))] sz) (fun _ => [])) (va_A [((u 0), .inr (12, [.ref (u 1), .int 0, .int (-1), .ref (u 2), .ref (u 3), .ref (u 4), .ref (u 5), .ref (u 6), .ref (u 7), .ref (u 8), .int 0, .ref (u 9), .ref (u 10), .ref (u 11), .ref (u 12), .ref (u 13), .ref (u 14)])), ((u 3), .inr (4, [.ref (u 15), .ref (u 16), .ref (u 17), .ref (u 18), .ref (u 19), .ref (u 20), .ref (u 21), .ref (u 22), .ref (u 23), .ref (u 24), .ref (u 25), .ref (u 26), .int 0, .int 0, .int 0, .int 0, .int 0]))] sz)) (vx_X (fun (_ : Unit) => True) (kBX D (va_A [((u 0), .inr (12, [.ref (u 1), .int 0, .int (-1), .ref (u 2), .ref (u 3), .ref (u 4), .ref (u 5), .ref (u 6), .ref (u 7), .ref (u 8), .int 0, .ref (u 9), .ref (u 10), .ref (u 11), .ref (u 12), .ref (u 13), .ref (u 14)])), ((u 3), .inr (4, [.ref (u 15), .ref (u 16), .ref (u 17), .ref (u 18), .ref (u 19), .ref (u 20), .ref (u 21), .ref (u 22), .ref (u 23), .ref (u 24), .ref (u 25), .ref (u 26), .int 0, .int 0, .int 0, .int 0, .int 0]))] sz) (fun _ => []) (fun _ => "java/util/NoSuchElementException")) (va_A [((u 0), .inr (12, [.ref (u 1), .int 0, .int (-1), .ref (u 2), .ref (u 3), .ref (u 4), .ref (u 5), .ref (u 6), .ref (u 7), .ref (u 8), .int 0, .ref (u 9), .ref (u 10), .ref (u 11), .ref (u 12), .ref (u 13), .ref (u 14)])), ((u 3), .inr (4, [.ref (u 15), .ref (u 16), .ref (u 17), .ref (u 18), .ref (u 19), .ref (u 20), .ref (u 21), .ref (u 22), .ref (u 23), .ref (u 24), .ref (u 25), .ref (u 26), .int 0, .int 0, .int 0, .int 0, .int 0]))] sz)) 1 6 (va_A [((u 0), .inr (12, [.ref (u 1), .int 0, .int (-1), .ref (u 2), .ref (u 3), .ref (u 4), .ref (u 5), .ref (u 6), .ref (u 7), .ref (u 8), .int 0, .ref (u 9), .ref (u 10), .ref (u 11), .ref (u 12), .ref (u 13), .ref (u 14)])), ((u 3), .inr (4, [.ref (u 15), .ref (u 16), .ref (u 17), .ref (u 18), .ref (u 19), .ref (u 20), .ref (u 21), .ref (u 22), .ref (u 23), .ref (u 24), .ref (u 25), .ref (u 26), .int 0, .int 0, .int 0, .int 0, .int 0]))] sz) := by
  refine k_ofX (Qc := fun A => va_Qi (fun (r : Int32) (_ : Unit) => False) (kB D A (fun _ => [])) A) (XC := fun A => vx_X (fun (_ : Unit) => True) (kBX D A (fun _ => []) (fun _ => "java/util/NoSuchElementException")) A) (by decide) (Nat.le_of_ble_eq_true rfl) ?_
  intro p e s m below meth c ls A E hxt hA hP hD hG hS hl
  obtain ⟨hx, hb, hml, hown, hts, hr, hlk, hnm⟩ := id E
  have hown : s.vm.findClass RX11 = some m.cls := hown
  have hl : lv_has ls 3 [(0, .ref (u 0)), (1, .int p0), (2, .int p1)] := hl
  obtain ⟨H, hH⟩ : ∃ H, H = s.heap := ⟨_, rfl⟩
  have hP : va_P D vwCl [((u 0), .inr (12, [.ref (u 1), .int 0, .int (-1), .ref (u 2), .ref (u 3), .ref (u 4), .ref (u 5), .ref (u 6), .ref (u 7), .ref (u 8), .int 0, .ref (u 9), .ref (u 10), .ref (u 11), .ref (u 12), .ref (u 13), .ref (u 14)])), ((u 3), .inr (4, [.ref (u 15), .ref (u 16), .ref (u 17), .ref (u 18), .ref (u 19), .ref (u 20), .ref (u 21), .ref (u 22), .ref (u 23), .ref (u 24), .ref (u 25), .ref (u 26), .int 0, .int 0, .int 0, .int 0, .int 0]))] H := by rw [hH]; exact hP
  have hS : va_S A s.heap H [] := by rw [hH]; exact va_S.rf
  rw [← hH]
  clear hH
  refine lv_aload_n hx hb dX11_now_0 rfl (lv_at hl 0 rfl) ?_
  refine lv_iload_n hx hb dX11_now_1 rfl (lv_at hl 1 rfl) ?_
  refine x_calv [] (⟨hP, hD, hG, hS, hA, rfl, rfl⟩ : kAt D cy sa A s H _ _ [((u 0), .inr (12, [.ref (u 1), .int 0, .int (-1), .ref (u 2), .ref (u 3), .ref (u 4), .ref (u 5), .ref (u 6), .ref (u 7), .ref (u 8), .int 0, .ref (u 9), .ref (u 10), .ref (u 11), .ref (u 12), .ref (u 13), .ref (u 14)])), ((u 3), .inr (4, [.ref (u 15), .ref (u 16), .ref (u 17), .ref (u 18), .ref (u 19), .ref (u 20), .ref (u 21), .ref (u 22), .ref (u 23), .ref (u 24), .ref (u 25), .ref (u 26), .int 0, .int 0, .int 0, .int 0, .int 0]))] [0, 1]) (wr := []) rfl rfl (by decide) (x_runV 12 0 (As := [.int p0]) (rest := []) E lk_VRX11_145 rfl rfl rfl (c_needBody l hl0 D cy sa u p0 H.size) (⟨hP, hD, hG, hS, hA, rfl, rfl⟩ : kAt D cy sa A s H _ _ [((u 0), .inr (12, [.ref (u 1), .int 0, .int (-1), .ref (u 2), .ref (u 3), .ref (u 4), .ref (u 5), .ref (u 6), .ref (u 7), .ref (u 8), .int 0, .ref (u 9), .ref (u 10), .ref (u 11), .ref (u 12), .ref (u 13), .ref (u 14)])), ((u 3), .inr (4, [.ref (u 15), .ref (u 16), .ref (u 17), .ref (u 18), .ref (u 19), .ref (u 20), .ref (u 21), .ref (u 22), .ref (u 23), .ref (u 24), .ref (u 25), .ref (u 26), .int 0, .int 0, .int 0, .int 0, .int 0]))] [0, 1]) hl.1 rfl rfl ⟨rfl, rfl, ⟨Nat.le_of_ble_eq_true rfl, Nat.le_of_ble_eq_true rfl⟩, ⟨Nat.le_of_ble_eq_true rfl, Nat.le_of_ble_eq_true rfl⟩, Nat.le_of_ble_eq_true rfl⟩ dX11_now_2) (fun ce q9 u2 H locs hwu2 hP hD hS h1 h2 h3 => ?_) (fun u2 H locs hwu2 hP hD hS => ?_)
  · have hP : va_P D vwCl [] H := hP
    have hD : va_D A [] := hD
    exact x_out () hxt hlk h1 h2 (h3) (trivial) (hP.sub [] rfl) (hD.sub [] (by decide) rfl) hS (by decide) (by decide)
  · exact (hwu2).elim

set_option maxHeartbeats 4000000 in
set_option maxRecDepth 100000 in
/-- costs -/
theorem c_LM_costs (l : Launch) (hl0 : l.stackTraces = false) (D : va_G) (cy : Nat → ClassId) (sa : Nat → Nat) (u : Nat → Nat) (p0 p1 : Int32) (sz : Nat) : vx_Met l yX11_costs (Cond.code yX11_costs cX11_costs 3 (some .int) :: kWS) ({ frames := 13, cells := 1, slots := 6, locals := 480 }) (kPre D cy sa [.ref (u 0), .int p0, .int p1] [((u 0), .inr (12, [.ref (u 1), .int 0, .int (-1), .ref (u 2), .ref (u 3), .ref (u 4), .ref (u 5), .ref (u 6), .ref (u 7), .ref (u 8), .int 0, .ref (u 9), .ref (u 10), .ref (u 11), .ref (u 12), .ref (u 13), .ref (u 14)])), ((u 3), .inr (4, [.ref (u 15), .ref (u 16), .ref (u 17), .ref (u 18), .ref (u 19), .ref (u 20), .ref (u 21), .ref (u 22), .ref (u 23), .ref (u 24), .ref (u 25), .ref (u 26), .int 0, .int 0, .int 0, .int 0, .int 0]))] sz) (va_Qi (fun (r : Int32) (_ : Unit) => False) (kB D (va_A [((u 0), .inr (12, [.ref (u 1), .int 0, .int (-1), .ref (u 2), .ref (u 3), .ref (u 4), .ref (u 5), .ref (u 6), .ref (u 7), .ref (u 8), .int 0, .ref (u 9), .ref (u 10), .ref (u 11), .ref (u 12), .ref (u 13), .ref (u 14)])), ((u 3), .inr (4, [.ref (u 15), .ref (u 16), .ref (u 17), .ref (u 18), .ref (u 19), .ref (u 20), .ref (u 21), .ref (u 22), .ref (u 23), .ref (u 24), .ref (u 25), .ref (u 26), .int 0, .int 0, .int 0, .int 0, .int 0]))] sz) (fun _ => [])) (va_A [((u 0), .inr (12, [.ref (u 1), .int 0, .int (-1), .ref (u 2), .ref (u 3), .ref (u 4), .ref (u 5), .ref (u 6), .ref (u 7), .ref (u 8), .int 0, .ref (u 9), .ref (u 10), .ref (u 11), .ref (u 12), .ref (u 13), .ref (u 14)])), ((u 3), .inr (4, [.ref (u 15), .ref (u 16), .ref (u 17), .ref (u 18), .ref (u 19), .ref (u 20), .ref (u 21), .ref (u 22), .ref (u 23), .ref (u 24), .ref (u 25), .ref (u 26), .int 0, .int 0, .int 0, .int 0, .int 0]))] sz)) (vx_X (fun (_ : Unit) => True) (kBX D (va_A [((u 0), .inr (12, [.ref (u 1), .int 0, .int (-1), .ref (u 2), .ref (u 3), .ref (u 4), .ref (u 5), .ref (u 6), .ref (u 7), .ref (u 8), .int 0, .ref (u 9), .ref (u 10), .ref (u 11), .ref (u 12), .ref (u 13), .ref (u 14)])), ((u 3), .inr (4, [.ref (u 15), .ref (u 16), .ref (u 17), .ref (u 18), .ref (u 19), .ref (u 20), .ref (u 21), .ref (u 22), .ref (u 23), .ref (u 24), .ref (u 25), .ref (u 26), .int 0, .int 0, .int 0, .int 0, .int 0]))] sz) (fun _ => []) (fun _ => "java/util/NoSuchElementException")) (va_A [((u 0), .inr (12, [.ref (u 1), .int 0, .int (-1), .ref (u 2), .ref (u 3), .ref (u 4), .ref (u 5), .ref (u 6), .ref (u 7), .ref (u 8), .int 0, .ref (u 9), .ref (u 10), .ref (u 11), .ref (u 12), .ref (u 13), .ref (u 14)])), ((u 3), .inr (4, [.ref (u 15), .ref (u 16), .ref (u 17), .ref (u 18), .ref (u 19), .ref (u 20), .ref (u 21), .ref (u 22), .ref (u 23), .ref (u 24), .ref (u 25), .ref (u 26), .int 0, .int 0, .int 0, .int 0, .int 0]))] sz)) 1 6 (va_A [((u 0), .inr (12, [.ref (u 1), .int 0, .int (-1), .ref (u 2), .ref (u 3), .ref (u 4), .ref (u 5), .ref (u 6), .ref (u 7), .ref (u 8), .int 0, .ref (u 9), .ref (u 10), .ref (u 11), .ref (u 12), .ref (u 13), .ref (u 14)])), ((u 3), .inr (4, [.ref (u 15), .ref (u 16), .ref (u 17), .ref (u 18), .ref (u 19), .ref (u 20), .ref (u 21), .ref (u 22), .ref (u 23), .ref (u 24), .ref (u 25), .ref (u 26), .int 0, .int 0, .int 0, .int 0, .int 0]))] sz) := by
  refine k_ofX (Qc := fun A => va_Qi (fun (r : Int32) (_ : Unit) => False) (kB D A (fun _ => [])) A) (XC := fun A => vx_X (fun (_ : Unit) => True) (kBX D A (fun _ => []) (fun _ => "java/util/NoSuchElementException")) A) (by decide) (Nat.le_of_ble_eq_true rfl) ?_
  intro p e s m below meth c ls A E hxt hA hP hD hG hS hl
  obtain ⟨hx, hb, hml, hown, hts, hr, hlk, hnm⟩ := id E
  have hown : s.vm.findClass RX11 = some m.cls := hown
  have hl : lv_has ls 3 [(0, .ref (u 0)), (1, .int p0), (2, .int p1)] := hl
  obtain ⟨H, hH⟩ : ∃ H, H = s.heap := ⟨_, rfl⟩
  have hP : va_P D vwCl [((u 0), .inr (12, [.ref (u 1), .int 0, .int (-1), .ref (u 2), .ref (u 3), .ref (u 4), .ref (u 5), .ref (u 6), .ref (u 7), .ref (u 8), .int 0, .ref (u 9), .ref (u 10), .ref (u 11), .ref (u 12), .ref (u 13), .ref (u 14)])), ((u 3), .inr (4, [.ref (u 15), .ref (u 16), .ref (u 17), .ref (u 18), .ref (u 19), .ref (u 20), .ref (u 21), .ref (u 22), .ref (u 23), .ref (u 24), .ref (u 25), .ref (u 26), .int 0, .int 0, .int 0, .int 0, .int 0]))] H := by rw [hH]; exact hP
  have hS : va_S A s.heap H [] := by rw [hH]; exact va_S.rf
  rw [← hH]
  clear hH
  refine lv_aload_n hx hb dX11_costs_0 rfl (lv_at hl 0 rfl) ?_
  refine lv_iload_n hx hb dX11_costs_1 rfl (lv_at hl 1 rfl) ?_
  refine x_calv [] (⟨hP, hD, hG, hS, hA, rfl, rfl⟩ : kAt D cy sa A s H _ _ [((u 0), .inr (12, [.ref (u 1), .int 0, .int (-1), .ref (u 2), .ref (u 3), .ref (u 4), .ref (u 5), .ref (u 6), .ref (u 7), .ref (u 8), .int 0, .ref (u 9), .ref (u 10), .ref (u 11), .ref (u 12), .ref (u 13), .ref (u 14)])), ((u 3), .inr (4, [.ref (u 15), .ref (u 16), .ref (u 17), .ref (u 18), .ref (u 19), .ref (u 20), .ref (u 21), .ref (u 22), .ref (u 23), .ref (u 24), .ref (u 25), .ref (u 26), .int 0, .int 0, .int 0, .int 0, .int 0]))] [0, 1]) (wr := []) rfl rfl (by decide) (x_runV 12 0 (As := [.int p0]) (rest := []) E lk_VRX11_145 rfl rfl rfl (c_needBody l hl0 D cy sa u p0 H.size) (⟨hP, hD, hG, hS, hA, rfl, rfl⟩ : kAt D cy sa A s H _ _ [((u 0), .inr (12, [.ref (u 1), .int 0, .int (-1), .ref (u 2), .ref (u 3), .ref (u 4), .ref (u 5), .ref (u 6), .ref (u 7), .ref (u 8), .int 0, .ref (u 9), .ref (u 10), .ref (u 11), .ref (u 12), .ref (u 13), .ref (u 14)])), ((u 3), .inr (4, [.ref (u 15), .ref (u 16), .ref (u 17), .ref (u 18), .ref (u 19), .ref (u 20), .ref (u 21), .ref (u 22), .ref (u 23), .ref (u 24), .ref (u 25), .ref (u 26), .int 0, .int 0, .int 0, .int 0, .int 0]))] [0, 1]) hl.1 rfl rfl ⟨rfl, rfl, ⟨Nat.le_of_ble_eq_true rfl, Nat.le_of_ble_eq_true rfl⟩, ⟨Nat.le_of_ble_eq_true rfl, Nat.le_of_ble_eq_true rfl⟩, Nat.le_of_ble_eq_true rfl⟩ dX11_costs_2) (fun ce q9 u2 H locs hwu2 hP hD hS h1 h2 h3 => ?_) (fun u2 H locs hwu2 hP hD hS => ?_)
  · have hP : va_P D vwCl [] H := hP
    have hD : va_D A [] := hD
    exact x_out () hxt hlk h1 h2 (h3) (trivial) (hP.sub [] rfl) (hD.sub [] (by decide) rfl) hS (by decide) (by decide)
  · exact (hwu2).elim

set_option maxHeartbeats 4000000 in
set_option maxRecDepth 100000 in
/-- pass -/
theorem c_LM_pass (l : Launch) (hl0 : l.stackTraces = false) (D : va_G) (cy : Nat → ClassId) (sa : Nat → Nat) (u : Nat → Nat) (p0 : Int32) (sz : Nat) : vx_Met l yX11_pass (Cond.code yX11_pass cX11_pass 2 (some .int) :: kWS) ({ frames := 13, cells := 1, slots := 6, locals := 480 }) (kPre D cy sa [.ref (u 0), .int p0] [((u 0), .inr (12, [.ref (u 1), .int 0, .int (-1), .ref (u 2), .ref (u 3), .ref (u 4), .ref (u 5), .ref (u 6), .ref (u 7), .ref (u 8), .int 0, .ref (u 9), .ref (u 10), .ref (u 11), .ref (u 12), .ref (u 13), .ref (u 14)])), ((u 3), .inr (4, [.ref (u 15), .ref (u 16), .ref (u 17), .ref (u 18), .ref (u 19), .ref (u 20), .ref (u 21), .ref (u 22), .ref (u 23), .ref (u 24), .ref (u 25), .ref (u 26), .int 0, .int 0, .int 0, .int 0, .int 0]))] sz) (va_Qi (fun (r : Int32) (_ : Unit) => False) (kB D (va_A [((u 0), .inr (12, [.ref (u 1), .int 0, .int (-1), .ref (u 2), .ref (u 3), .ref (u 4), .ref (u 5), .ref (u 6), .ref (u 7), .ref (u 8), .int 0, .ref (u 9), .ref (u 10), .ref (u 11), .ref (u 12), .ref (u 13), .ref (u 14)])), ((u 3), .inr (4, [.ref (u 15), .ref (u 16), .ref (u 17), .ref (u 18), .ref (u 19), .ref (u 20), .ref (u 21), .ref (u 22), .ref (u 23), .ref (u 24), .ref (u 25), .ref (u 26), .int 0, .int 0, .int 0, .int 0, .int 0]))] sz) (fun _ => [])) (va_A [((u 0), .inr (12, [.ref (u 1), .int 0, .int (-1), .ref (u 2), .ref (u 3), .ref (u 4), .ref (u 5), .ref (u 6), .ref (u 7), .ref (u 8), .int 0, .ref (u 9), .ref (u 10), .ref (u 11), .ref (u 12), .ref (u 13), .ref (u 14)])), ((u 3), .inr (4, [.ref (u 15), .ref (u 16), .ref (u 17), .ref (u 18), .ref (u 19), .ref (u 20), .ref (u 21), .ref (u 22), .ref (u 23), .ref (u 24), .ref (u 25), .ref (u 26), .int 0, .int 0, .int 0, .int 0, .int 0]))] sz)) (vx_X (fun (_ : Unit) => True) (kBX D (va_A [((u 0), .inr (12, [.ref (u 1), .int 0, .int (-1), .ref (u 2), .ref (u 3), .ref (u 4), .ref (u 5), .ref (u 6), .ref (u 7), .ref (u 8), .int 0, .ref (u 9), .ref (u 10), .ref (u 11), .ref (u 12), .ref (u 13), .ref (u 14)])), ((u 3), .inr (4, [.ref (u 15), .ref (u 16), .ref (u 17), .ref (u 18), .ref (u 19), .ref (u 20), .ref (u 21), .ref (u 22), .ref (u 23), .ref (u 24), .ref (u 25), .ref (u 26), .int 0, .int 0, .int 0, .int 0, .int 0]))] sz) (fun _ => []) (fun _ => "java/util/NoSuchElementException")) (va_A [((u 0), .inr (12, [.ref (u 1), .int 0, .int (-1), .ref (u 2), .ref (u 3), .ref (u 4), .ref (u 5), .ref (u 6), .ref (u 7), .ref (u 8), .int 0, .ref (u 9), .ref (u 10), .ref (u 11), .ref (u 12), .ref (u 13), .ref (u 14)])), ((u 3), .inr (4, [.ref (u 15), .ref (u 16), .ref (u 17), .ref (u 18), .ref (u 19), .ref (u 20), .ref (u 21), .ref (u 22), .ref (u 23), .ref (u 24), .ref (u 25), .ref (u 26), .int 0, .int 0, .int 0, .int 0, .int 0]))] sz)) 1 6 (va_A [((u 0), .inr (12, [.ref (u 1), .int 0, .int (-1), .ref (u 2), .ref (u 3), .ref (u 4), .ref (u 5), .ref (u 6), .ref (u 7), .ref (u 8), .int 0, .ref (u 9), .ref (u 10), .ref (u 11), .ref (u 12), .ref (u 13), .ref (u 14)])), ((u 3), .inr (4, [.ref (u 15), .ref (u 16), .ref (u 17), .ref (u 18), .ref (u 19), .ref (u 20), .ref (u 21), .ref (u 22), .ref (u 23), .ref (u 24), .ref (u 25), .ref (u 26), .int 0, .int 0, .int 0, .int 0, .int 0]))] sz) := by
  refine k_ofX (Qc := fun A => va_Qi (fun (r : Int32) (_ : Unit) => False) (kB D A (fun _ => [])) A) (XC := fun A => vx_X (fun (_ : Unit) => True) (kBX D A (fun _ => []) (fun _ => "java/util/NoSuchElementException")) A) (by decide) (Nat.le_of_ble_eq_true rfl) ?_
  intro p e s m below meth c ls A E hxt hA hP hD hG hS hl
  obtain ⟨hx, hb, hml, hown, hts, hr, hlk, hnm⟩ := id E
  have hown : s.vm.findClass RX11 = some m.cls := hown
  have hl : lv_has ls 2 [(0, .ref (u 0)), (1, .int p0)] := hl
  obtain ⟨H, hH⟩ : ∃ H, H = s.heap := ⟨_, rfl⟩
  have hP : va_P D vwCl [((u 0), .inr (12, [.ref (u 1), .int 0, .int (-1), .ref (u 2), .ref (u 3), .ref (u 4), .ref (u 5), .ref (u 6), .ref (u 7), .ref (u 8), .int 0, .ref (u 9), .ref (u 10), .ref (u 11), .ref (u 12), .ref (u 13), .ref (u 14)])), ((u 3), .inr (4, [.ref (u 15), .ref (u 16), .ref (u 17), .ref (u 18), .ref (u 19), .ref (u 20), .ref (u 21), .ref (u 22), .ref (u 23), .ref (u 24), .ref (u 25), .ref (u 26), .int 0, .int 0, .int 0, .int 0, .int 0]))] H := by rw [hH]; exact hP
  have hS : va_S A s.heap H [] := by rw [hH]; exact va_S.rf
  rw [← hH]
  clear hH
  refine lv_aload_n hx hb dX11_pass_0 rfl (lv_at hl 0 rfl) ?_
  refine lv_iload_n hx hb dX11_pass_1 rfl (lv_at hl 1 rfl) ?_
  refine x_calv [] (⟨hP, hD, hG, hS, hA, rfl, rfl⟩ : kAt D cy sa A s H _ _ [((u 0), .inr (12, [.ref (u 1), .int 0, .int (-1), .ref (u 2), .ref (u 3), .ref (u 4), .ref (u 5), .ref (u 6), .ref (u 7), .ref (u 8), .int 0, .ref (u 9), .ref (u 10), .ref (u 11), .ref (u 12), .ref (u 13), .ref (u 14)])), ((u 3), .inr (4, [.ref (u 15), .ref (u 16), .ref (u 17), .ref (u 18), .ref (u 19), .ref (u 20), .ref (u 21), .ref (u 22), .ref (u 23), .ref (u 24), .ref (u 25), .ref (u 26), .int 0, .int 0, .int 0, .int 0, .int 0]))] [0, 1]) (wr := []) rfl rfl (by decide) (x_runV 12 0 (As := [.int p0]) (rest := []) E lk_VRX11_145 rfl rfl rfl (c_needBody l hl0 D cy sa u p0 H.size) (⟨hP, hD, hG, hS, hA, rfl, rfl⟩ : kAt D cy sa A s H _ _ [((u 0), .inr (12, [.ref (u 1), .int 0, .int (-1), .ref (u 2), .ref (u 3), .ref (u 4), .ref (u 5), .ref (u 6), .ref (u 7), .ref (u 8), .int 0, .ref (u 9), .ref (u 10), .ref (u 11), .ref (u 12), .ref (u 13), .ref (u 14)])), ((u 3), .inr (4, [.ref (u 15), .ref (u 16), .ref (u 17), .ref (u 18), .ref (u 19), .ref (u 20), .ref (u 21), .ref (u 22), .ref (u 23), .ref (u 24), .ref (u 25), .ref (u 26), .int 0, .int 0, .int 0, .int 0, .int 0]))] [0, 1]) hl.1 rfl rfl ⟨rfl, rfl, ⟨Nat.le_of_ble_eq_true rfl, Nat.le_of_ble_eq_true rfl⟩, ⟨Nat.le_of_ble_eq_true rfl, Nat.le_of_ble_eq_true rfl⟩, Nat.le_of_ble_eq_true rfl⟩ dX11_pass_2) (fun ce q9 u2 H locs hwu2 hP hD hS h1 h2 h3 => ?_) (fun u2 H locs hwu2 hP hD hS => ?_)
  · have hP : va_P D vwCl [] H := hP
    have hD : va_D A [] := hD
    exact x_out () hxt hlk h1 h2 (h3) (trivial) (hP.sub [] rfl) (hD.sub [] (by decide) rfl) hS (by decide) (by decide)
  · exact (hwu2).elim

set_option maxHeartbeats 4000000 in
set_option maxRecDepth 100000 in
/-- bed -/
theorem c_LM_bed (l : Launch) (hl0 : l.stackTraces = false) (D : va_G) (cy : Nat → ClassId) (sa : Nat → Nat) (u : Nat → Nat) (p0 p1 : Int32) (sz : Nat) : vx_Met l yX11_bed (Cond.code yX11_bed cX11_bed 5 (some .boolean) :: kWS) ({ frames := 13, cells := 1, slots := 6, locals := 480 }) (kPre D cy sa [.ref (u 0), .int p0, .int p1] [((u 0), .inr (12, [.ref (u 1), .int 0, .int (-1), .ref (u 2), .ref (u 3), .ref (u 4), .ref (u 5), .ref (u 6), .ref (u 7), .ref (u 8), .int 0, .ref (u 9), .ref (u 10), .ref (u 11), .ref (u 12), .ref (u 13), .ref (u 14)])), ((u 3), .inr (4, [.ref (u 15), .ref (u 16), .ref (u 17), .ref (u 18), .ref (u 19), .ref (u 20), .ref (u 21), .ref (u 22), .ref (u 23), .ref (u 24), .ref (u 25), .ref (u 26), .int 0, .int 0, .int 0, .int 0, .int 0]))] sz) (va_Qi (fun (r : Int32) (_ : Unit) => False) (kB D (va_A [((u 0), .inr (12, [.ref (u 1), .int 0, .int (-1), .ref (u 2), .ref (u 3), .ref (u 4), .ref (u 5), .ref (u 6), .ref (u 7), .ref (u 8), .int 0, .ref (u 9), .ref (u 10), .ref (u 11), .ref (u 12), .ref (u 13), .ref (u 14)])), ((u 3), .inr (4, [.ref (u 15), .ref (u 16), .ref (u 17), .ref (u 18), .ref (u 19), .ref (u 20), .ref (u 21), .ref (u 22), .ref (u 23), .ref (u 24), .ref (u 25), .ref (u 26), .int 0, .int 0, .int 0, .int 0, .int 0]))] sz) (fun _ => [])) (va_A [((u 0), .inr (12, [.ref (u 1), .int 0, .int (-1), .ref (u 2), .ref (u 3), .ref (u 4), .ref (u 5), .ref (u 6), .ref (u 7), .ref (u 8), .int 0, .ref (u 9), .ref (u 10), .ref (u 11), .ref (u 12), .ref (u 13), .ref (u 14)])), ((u 3), .inr (4, [.ref (u 15), .ref (u 16), .ref (u 17), .ref (u 18), .ref (u 19), .ref (u 20), .ref (u 21), .ref (u 22), .ref (u 23), .ref (u 24), .ref (u 25), .ref (u 26), .int 0, .int 0, .int 0, .int 0, .int 0]))] sz)) (vx_X (fun (_ : Unit) => True) (kBX D (va_A [((u 0), .inr (12, [.ref (u 1), .int 0, .int (-1), .ref (u 2), .ref (u 3), .ref (u 4), .ref (u 5), .ref (u 6), .ref (u 7), .ref (u 8), .int 0, .ref (u 9), .ref (u 10), .ref (u 11), .ref (u 12), .ref (u 13), .ref (u 14)])), ((u 3), .inr (4, [.ref (u 15), .ref (u 16), .ref (u 17), .ref (u 18), .ref (u 19), .ref (u 20), .ref (u 21), .ref (u 22), .ref (u 23), .ref (u 24), .ref (u 25), .ref (u 26), .int 0, .int 0, .int 0, .int 0, .int 0]))] sz) (fun _ => []) (fun _ => "java/util/NoSuchElementException")) (va_A [((u 0), .inr (12, [.ref (u 1), .int 0, .int (-1), .ref (u 2), .ref (u 3), .ref (u 4), .ref (u 5), .ref (u 6), .ref (u 7), .ref (u 8), .int 0, .ref (u 9), .ref (u 10), .ref (u 11), .ref (u 12), .ref (u 13), .ref (u 14)])), ((u 3), .inr (4, [.ref (u 15), .ref (u 16), .ref (u 17), .ref (u 18), .ref (u 19), .ref (u 20), .ref (u 21), .ref (u 22), .ref (u 23), .ref (u 24), .ref (u 25), .ref (u 26), .int 0, .int 0, .int 0, .int 0, .int 0]))] sz)) 1 6 (va_A [((u 0), .inr (12, [.ref (u 1), .int 0, .int (-1), .ref (u 2), .ref (u 3), .ref (u 4), .ref (u 5), .ref (u 6), .ref (u 7), .ref (u 8), .int 0, .ref (u 9), .ref (u 10), .ref (u 11), .ref (u 12), .ref (u 13), .ref (u 14)])), ((u 3), .inr (4, [.ref (u 15), .ref (u 16), .ref (u 17), .ref (u 18), .ref (u 19), .ref (u 20), .ref (u 21), .ref (u 22), .ref (u 23), .ref (u 24), .ref (u 25), .ref (u 26), .int 0, .int 0, .int 0, .int 0, .int 0]))] sz) := by
  refine k_ofX (Qc := fun A => va_Qi (fun (r : Int32) (_ : Unit) => False) (kB D A (fun _ => [])) A) (XC := fun A => vx_X (fun (_ : Unit) => True) (kBX D A (fun _ => []) (fun _ => "java/util/NoSuchElementException")) A) (by decide) (Nat.le_of_ble_eq_true rfl) ?_
  intro p e s m below meth c ls A E hxt hA hP hD hG hS hl
  obtain ⟨hx, hb, hml, hown, hts, hr, hlk, hnm⟩ := id E
  have hown : s.vm.findClass RX11 = some m.cls := hown
  have hl : lv_has ls 5 [(0, .ref (u 0)), (1, .int p0), (2, .int p1)] := hl
  obtain ⟨H, hH⟩ : ∃ H, H = s.heap := ⟨_, rfl⟩
  have hP : va_P D vwCl [((u 0), .inr (12, [.ref (u 1), .int 0, .int (-1), .ref (u 2), .ref (u 3), .ref (u 4), .ref (u 5), .ref (u 6), .ref (u 7), .ref (u 8), .int 0, .ref (u 9), .ref (u 10), .ref (u 11), .ref (u 12), .ref (u 13), .ref (u 14)])), ((u 3), .inr (4, [.ref (u 15), .ref (u 16), .ref (u 17), .ref (u 18), .ref (u 19), .ref (u 20), .ref (u 21), .ref (u 22), .ref (u 23), .ref (u 24), .ref (u 25), .ref (u 26), .int 0, .int 0, .int 0, .int 0, .int 0]))] H := by rw [hH]; exact hP
  have hS : va_S A s.heap H [] := by rw [hH]; exact va_S.rf
  rw [← hH]
  clear hH
  refine lv_aload_n hx hb dX11_bed_0 rfl (lv_at hl 0 rfl) ?_
  refine lv_iload_n hx hb dX11_bed_1 rfl (lv_at hl 1 rfl) ?_
  refine x_calv [] (⟨hP, hD, hG, hS, hA, rfl, rfl⟩ : kAt D cy sa A s H _ _ [((u 0), .inr (12, [.ref (u 1), .int 0, .int (-1), .ref (u 2), .ref (u 3), .ref (u 4), .ref (u 5), .ref (u 6), .ref (u 7), .ref (u 8), .int 0, .ref (u 9), .ref (u 10), .ref (u 11), .ref (u 12), .ref (u 13), .ref (u 14)])), ((u 3), .inr (4, [.ref (u 15), .ref (u 16), .ref (u 17), .ref (u 18), .ref (u 19), .ref (u 20), .ref (u 21), .ref (u 22), .ref (u 23), .ref (u 24), .ref (u 25), .ref (u 26), .int 0, .int 0, .int 0, .int 0, .int 0]))] [0, 1]) (wr := []) rfl rfl (by decide) (x_runV 12 0 (As := [.int p0]) (rest := []) E lk_VRX11_145 rfl rfl rfl (c_needBody l hl0 D cy sa u p0 H.size) (⟨hP, hD, hG, hS, hA, rfl, rfl⟩ : kAt D cy sa A s H _ _ [((u 0), .inr (12, [.ref (u 1), .int 0, .int (-1), .ref (u 2), .ref (u 3), .ref (u 4), .ref (u 5), .ref (u 6), .ref (u 7), .ref (u 8), .int 0, .ref (u 9), .ref (u 10), .ref (u 11), .ref (u 12), .ref (u 13), .ref (u 14)])), ((u 3), .inr (4, [.ref (u 15), .ref (u 16), .ref (u 17), .ref (u 18), .ref (u 19), .ref (u 20), .ref (u 21), .ref (u 22), .ref (u 23), .ref (u 24), .ref (u 25), .ref (u 26), .int 0, .int 0, .int 0, .int 0, .int 0]))] [0, 1]) hl.1 rfl rfl ⟨rfl, rfl, ⟨Nat.le_of_ble_eq_true rfl, Nat.le_of_ble_eq_true rfl⟩, ⟨Nat.le_of_ble_eq_true rfl, Nat.le_of_ble_eq_true rfl⟩, Nat.le_of_ble_eq_true rfl⟩ dX11_bed_2) (fun ce q9 u2 H locs hwu2 hP hD hS h1 h2 h3 => ?_) (fun u2 H locs hwu2 hP hD hS => ?_)
  · have hP : va_P D vwCl [] H := hP
    have hD : va_D A [] := hD
    exact x_out () hxt hlk h1 h2 (h3) (trivial) (hP.sub [] rfl) (hD.sub [] (by decide) rfl) hS (by decide) (by decide)
  · exact (hwu2).elim

set_option maxHeartbeats 4000000 in
set_option maxRecDepth 100000 in
/-- passing -/
theorem c_LM_passing (l : Launch) (hl0 : l.stackTraces = false) (D : va_G) (cy : Nat → ClassId) (sa : Nat → Nat) (u : Nat → Nat) (p0 p1 : Int32) (sz : Nat) : vx_Met l yX11_passing (Cond.code yX11_passing cX11_passing 3 (some .int) :: kWS) ({ frames := 13, cells := 1, slots := 6, locals := 480 }) (kPre D cy sa [.ref (u 0), .int p0, .int p1] [((u 0), .inr (12, [.ref (u 1), .int 0, .int (-1), .ref (u 2), .ref (u 3), .ref (u 4), .ref (u 5), .ref (u 6), .ref (u 7), .ref (u 8), .int 0, .ref (u 9), .ref (u 10), .ref (u 11), .ref (u 12), .ref (u 13), .ref (u 14)])), ((u 3), .inr (4, [.ref (u 15), .ref (u 16), .ref (u 17), .ref (u 18), .ref (u 19), .ref (u 20), .ref (u 21), .ref (u 22), .ref (u 23), .ref (u 24), .ref (u 25), .ref (u 26), .int 0, .int 0, .int 0, .int 0, .int 0]))] sz) (va_Qi (fun (r : Int32) (_ : Unit) => False) (kB D (va_A [((u 0), .inr (12, [.ref (u 1), .int 0, .int (-1), .ref (u 2), .ref (u 3), .ref (u 4), .ref (u 5), .ref (u 6), .ref (u 7), .ref (u 8), .int 0, .ref (u 9), .ref (u 10), .ref (u 11), .ref (u 12), .ref (u 13), .ref (u 14)])), ((u 3), .inr (4, [.ref (u 15), .ref (u 16), .ref (u 17), .ref (u 18), .ref (u 19), .ref (u 20), .ref (u 21), .ref (u 22), .ref (u 23), .ref (u 24), .ref (u 25), .ref (u 26), .int 0, .int 0, .int 0, .int 0, .int 0]))] sz) (fun _ => [])) (va_A [((u 0), .inr (12, [.ref (u 1), .int 0, .int (-1), .ref (u 2), .ref (u 3), .ref (u 4), .ref (u 5), .ref (u 6), .ref (u 7), .ref (u 8), .int 0, .ref (u 9), .ref (u 10), .ref (u 11), .ref (u 12), .ref (u 13), .ref (u 14)])), ((u 3), .inr (4, [.ref (u 15), .ref (u 16), .ref (u 17), .ref (u 18), .ref (u 19), .ref (u 20), .ref (u 21), .ref (u 22), .ref (u 23), .ref (u 24), .ref (u 25), .ref (u 26), .int 0, .int 0, .int 0, .int 0, .int 0]))] sz)) (vx_X (fun (_ : Unit) => True) (kBX D (va_A [((u 0), .inr (12, [.ref (u 1), .int 0, .int (-1), .ref (u 2), .ref (u 3), .ref (u 4), .ref (u 5), .ref (u 6), .ref (u 7), .ref (u 8), .int 0, .ref (u 9), .ref (u 10), .ref (u 11), .ref (u 12), .ref (u 13), .ref (u 14)])), ((u 3), .inr (4, [.ref (u 15), .ref (u 16), .ref (u 17), .ref (u 18), .ref (u 19), .ref (u 20), .ref (u 21), .ref (u 22), .ref (u 23), .ref (u 24), .ref (u 25), .ref (u 26), .int 0, .int 0, .int 0, .int 0, .int 0]))] sz) (fun _ => []) (fun _ => "java/util/NoSuchElementException")) (va_A [((u 0), .inr (12, [.ref (u 1), .int 0, .int (-1), .ref (u 2), .ref (u 3), .ref (u 4), .ref (u 5), .ref (u 6), .ref (u 7), .ref (u 8), .int 0, .ref (u 9), .ref (u 10), .ref (u 11), .ref (u 12), .ref (u 13), .ref (u 14)])), ((u 3), .inr (4, [.ref (u 15), .ref (u 16), .ref (u 17), .ref (u 18), .ref (u 19), .ref (u 20), .ref (u 21), .ref (u 22), .ref (u 23), .ref (u 24), .ref (u 25), .ref (u 26), .int 0, .int 0, .int 0, .int 0, .int 0]))] sz)) 1 6 (va_A [((u 0), .inr (12, [.ref (u 1), .int 0, .int (-1), .ref (u 2), .ref (u 3), .ref (u 4), .ref (u 5), .ref (u 6), .ref (u 7), .ref (u 8), .int 0, .ref (u 9), .ref (u 10), .ref (u 11), .ref (u 12), .ref (u 13), .ref (u 14)])), ((u 3), .inr (4, [.ref (u 15), .ref (u 16), .ref (u 17), .ref (u 18), .ref (u 19), .ref (u 20), .ref (u 21), .ref (u 22), .ref (u 23), .ref (u 24), .ref (u 25), .ref (u 26), .int 0, .int 0, .int 0, .int 0, .int 0]))] sz) := by
  refine k_ofX (Qc := fun A => va_Qi (fun (r : Int32) (_ : Unit) => False) (kB D A (fun _ => [])) A) (XC := fun A => vx_X (fun (_ : Unit) => True) (kBX D A (fun _ => []) (fun _ => "java/util/NoSuchElementException")) A) (by decide) (Nat.le_of_ble_eq_true rfl) ?_
  intro p e s m below meth c ls A E hxt hA hP hD hG hS hl
  obtain ⟨hx, hb, hml, hown, hts, hr, hlk, hnm⟩ := id E
  have hown : s.vm.findClass RX11 = some m.cls := hown
  have hl : lv_has ls 3 [(0, .ref (u 0)), (1, .int p0), (2, .int p1)] := hl
  obtain ⟨H, hH⟩ : ∃ H, H = s.heap := ⟨_, rfl⟩
  have hP : va_P D vwCl [((u 0), .inr (12, [.ref (u 1), .int 0, .int (-1), .ref (u 2), .ref (u 3), .ref (u 4), .ref (u 5), .ref (u 6), .ref (u 7), .ref (u 8), .int 0, .ref (u 9), .ref (u 10), .ref (u 11), .ref (u 12), .ref (u 13), .ref (u 14)])), ((u 3), .inr (4, [.ref (u 15), .ref (u 16), .ref (u 17), .ref (u 18), .ref (u 19), .ref (u 20), .ref (u 21), .ref (u 22), .ref (u 23), .ref (u 24), .ref (u 25), .ref (u 26), .int 0, .int 0, .int 0, .int 0, .int 0]))] H := by rw [hH]; exact hP
  have hS : va_S A s.heap H [] := by rw [hH]; exact va_S.rf
  rw [← hH]
  clear hH
  refine lv_aload_n hx hb dX11_passing_0 rfl (lv_at hl 0 rfl) ?_
  refine lv_iload_n hx hb dX11_passing_1 rfl (lv_at hl 2 rfl) ?_
  refine x_calv [] (⟨hP, hD, hG, hS, hA, rfl, rfl⟩ : kAt D cy sa A s H _ _ [((u 0), .inr (12, [.ref (u 1), .int 0, .int (-1), .ref (u 2), .ref (u 3), .ref (u 4), .ref (u 5), .ref (u 6), .ref (u 7), .ref (u 8), .int 0, .ref (u 9), .ref (u 10), .ref (u 11), .ref (u 12), .ref (u 13), .ref (u 14)])), ((u 3), .inr (4, [.ref (u 15), .ref (u 16), .ref (u 17), .ref (u 18), .ref (u 19), .ref (u 20), .ref (u 21), .ref (u 22), .ref (u 23), .ref (u 24), .ref (u 25), .ref (u 26), .int 0, .int 0, .int 0, .int 0, .int 0]))] [0, 1]) (wr := []) rfl rfl (by decide) (x_runV 12 0 (As := [.int p1]) (rest := []) E lk_VRX11_145 rfl rfl rfl (c_needBody l hl0 D cy sa u p1 H.size) (⟨hP, hD, hG, hS, hA, rfl, rfl⟩ : kAt D cy sa A s H _ _ [((u 0), .inr (12, [.ref (u 1), .int 0, .int (-1), .ref (u 2), .ref (u 3), .ref (u 4), .ref (u 5), .ref (u 6), .ref (u 7), .ref (u 8), .int 0, .ref (u 9), .ref (u 10), .ref (u 11), .ref (u 12), .ref (u 13), .ref (u 14)])), ((u 3), .inr (4, [.ref (u 15), .ref (u 16), .ref (u 17), .ref (u 18), .ref (u 19), .ref (u 20), .ref (u 21), .ref (u 22), .ref (u 23), .ref (u 24), .ref (u 25), .ref (u 26), .int 0, .int 0, .int 0, .int 0, .int 0]))] [0, 1]) hl.1 rfl rfl ⟨rfl, rfl, ⟨Nat.le_of_ble_eq_true rfl, Nat.le_of_ble_eq_true rfl⟩, ⟨Nat.le_of_ble_eq_true rfl, Nat.le_of_ble_eq_true rfl⟩, Nat.le_of_ble_eq_true rfl⟩ dX11_passing_2) (fun ce q9 u2 H locs hwu2 hP hD hS h1 h2 h3 => ?_) (fun u2 H locs hwu2 hP hD hS => ?_)
  · have hP : va_P D vwCl [] H := hP
    have hD : va_D A [] := hD
    exact x_out () hxt hlk h1 h2 (h3) (trivial) (hP.sub [] rfl) (hD.sub [] (by decide) rfl) hS (by decide) (by decide)
  · exact (hwu2).elim

set_option maxHeartbeats 4000000 in
set_option maxRecDepth 100000 in
/-- taught -/
theorem c_LM_taught (l : Launch) (hl0 : l.stackTraces = false) (D : va_G) (cy : Nat → ClassId) (sa : Nat → Nat) (u : Nat → Nat) (p0 p1 p2 p3 : Int32) (sz : Nat) : vx_Met l yX11_taught (Cond.code yX11_taught cX11_taught 5 (some .int) :: kWS) ({ frames := 13, cells := 1, slots := 6, locals := 480 }) (kPre D cy sa [.ref (u 0), .int p0, .int p1, .int p2, .int p3] [((u 0), .inr (12, [.ref (u 1), .int 0, .int (-1), .ref (u 2), .ref (u 3), .ref (u 4), .ref (u 5), .ref (u 6), .ref (u 7), .ref (u 8), .int 0, .ref (u 9), .ref (u 10), .ref (u 11), .ref (u 12), .ref (u 13), .ref (u 14)])), ((u 3), .inr (4, [.ref (u 15), .ref (u 16), .ref (u 17), .ref (u 18), .ref (u 19), .ref (u 20), .ref (u 21), .ref (u 22), .ref (u 23), .ref (u 24), .ref (u 25), .ref (u 26), .int 0, .int 0, .int 0, .int 0, .int 0]))] sz) (va_Qi (fun (r : Int32) (_ : Unit) => False) (kB D (va_A [((u 0), .inr (12, [.ref (u 1), .int 0, .int (-1), .ref (u 2), .ref (u 3), .ref (u 4), .ref (u 5), .ref (u 6), .ref (u 7), .ref (u 8), .int 0, .ref (u 9), .ref (u 10), .ref (u 11), .ref (u 12), .ref (u 13), .ref (u 14)])), ((u 3), .inr (4, [.ref (u 15), .ref (u 16), .ref (u 17), .ref (u 18), .ref (u 19), .ref (u 20), .ref (u 21), .ref (u 22), .ref (u 23), .ref (u 24), .ref (u 25), .ref (u 26), .int 0, .int 0, .int 0, .int 0, .int 0]))] sz) (fun _ => [])) (va_A [((u 0), .inr (12, [.ref (u 1), .int 0, .int (-1), .ref (u 2), .ref (u 3), .ref (u 4), .ref (u 5), .ref (u 6), .ref (u 7), .ref (u 8), .int 0, .ref (u 9), .ref (u 10), .ref (u 11), .ref (u 12), .ref (u 13), .ref (u 14)])), ((u 3), .inr (4, [.ref (u 15), .ref (u 16), .ref (u 17), .ref (u 18), .ref (u 19), .ref (u 20), .ref (u 21), .ref (u 22), .ref (u 23), .ref (u 24), .ref (u 25), .ref (u 26), .int 0, .int 0, .int 0, .int 0, .int 0]))] sz)) (vx_X (fun (_ : Unit) => True) (kBX D (va_A [((u 0), .inr (12, [.ref (u 1), .int 0, .int (-1), .ref (u 2), .ref (u 3), .ref (u 4), .ref (u 5), .ref (u 6), .ref (u 7), .ref (u 8), .int 0, .ref (u 9), .ref (u 10), .ref (u 11), .ref (u 12), .ref (u 13), .ref (u 14)])), ((u 3), .inr (4, [.ref (u 15), .ref (u 16), .ref (u 17), .ref (u 18), .ref (u 19), .ref (u 20), .ref (u 21), .ref (u 22), .ref (u 23), .ref (u 24), .ref (u 25), .ref (u 26), .int 0, .int 0, .int 0, .int 0, .int 0]))] sz) (fun _ => []) (fun _ => "java/util/NoSuchElementException")) (va_A [((u 0), .inr (12, [.ref (u 1), .int 0, .int (-1), .ref (u 2), .ref (u 3), .ref (u 4), .ref (u 5), .ref (u 6), .ref (u 7), .ref (u 8), .int 0, .ref (u 9), .ref (u 10), .ref (u 11), .ref (u 12), .ref (u 13), .ref (u 14)])), ((u 3), .inr (4, [.ref (u 15), .ref (u 16), .ref (u 17), .ref (u 18), .ref (u 19), .ref (u 20), .ref (u 21), .ref (u 22), .ref (u 23), .ref (u 24), .ref (u 25), .ref (u 26), .int 0, .int 0, .int 0, .int 0, .int 0]))] sz)) 1 6 (va_A [((u 0), .inr (12, [.ref (u 1), .int 0, .int (-1), .ref (u 2), .ref (u 3), .ref (u 4), .ref (u 5), .ref (u 6), .ref (u 7), .ref (u 8), .int 0, .ref (u 9), .ref (u 10), .ref (u 11), .ref (u 12), .ref (u 13), .ref (u 14)])), ((u 3), .inr (4, [.ref (u 15), .ref (u 16), .ref (u 17), .ref (u 18), .ref (u 19), .ref (u 20), .ref (u 21), .ref (u 22), .ref (u 23), .ref (u 24), .ref (u 25), .ref (u 26), .int 0, .int 0, .int 0, .int 0, .int 0]))] sz) := by
  refine k_ofX (Qc := fun A => va_Qi (fun (r : Int32) (_ : Unit) => False) (kB D A (fun _ => [])) A) (XC := fun A => vx_X (fun (_ : Unit) => True) (kBX D A (fun _ => []) (fun _ => "java/util/NoSuchElementException")) A) (by decide) (Nat.le_of_ble_eq_true rfl) ?_
  intro p e s m below meth c ls A E hxt hA hP hD hG hS hl
  obtain ⟨hx, hb, hml, hown, hts, hr, hlk, hnm⟩ := id E
  have hown : s.vm.findClass RX11 = some m.cls := hown
  have hl : lv_has ls 5 [(0, .ref (u 0)), (1, .int p0), (2, .int p1), (3, .int p2), (4, .int p3)] := hl
  obtain ⟨H, hH⟩ : ∃ H, H = s.heap := ⟨_, rfl⟩
  have hP : va_P D vwCl [((u 0), .inr (12, [.ref (u 1), .int 0, .int (-1), .ref (u 2), .ref (u 3), .ref (u 4), .ref (u 5), .ref (u 6), .ref (u 7), .ref (u 8), .int 0, .ref (u 9), .ref (u 10), .ref (u 11), .ref (u 12), .ref (u 13), .ref (u 14)])), ((u 3), .inr (4, [.ref (u 15), .ref (u 16), .ref (u 17), .ref (u 18), .ref (u 19), .ref (u 20), .ref (u 21), .ref (u 22), .ref (u 23), .ref (u 24), .ref (u 25), .ref (u 26), .int 0, .int 0, .int 0, .int 0, .int 0]))] H := by rw [hH]; exact hP
  have hS : va_S A s.heap H [] := by rw [hH]; exact va_S.rf
  rw [← hH]
  clear hH
  refine lv_aload_n hx hb dX11_taught_0 rfl (lv_at hl 0 rfl) ?_
  refine lv_iload_n hx hb dX11_taught_1 rfl (lv_at hl 1 rfl) ?_
  refine x_calv [] (⟨hP, hD, hG, hS, hA, rfl, rfl⟩ : kAt D cy sa A s H _ _ [((u 0), .inr (12, [.ref (u 1), .int 0, .int (-1), .ref (u 2), .ref (u 3), .ref (u 4), .ref (u 5), .ref (u 6), .ref (u 7), .ref (u 8), .int 0, .ref (u 9), .ref (u 10), .ref (u 11), .ref (u 12), .ref (u 13), .ref (u 14)])), ((u 3), .inr (4, [.ref (u 15), .ref (u 16), .ref (u 17), .ref (u 18), .ref (u 19), .ref (u 20), .ref (u 21), .ref (u 22), .ref (u 23), .ref (u 24), .ref (u 25), .ref (u 26), .int 0, .int 0, .int 0, .int 0, .int 0]))] [0, 1]) (wr := []) rfl rfl (by decide) (x_runV 12 0 (As := [.int p0]) (rest := []) E lk_VRX11_145 rfl rfl rfl (c_needBody l hl0 D cy sa u p0 H.size) (⟨hP, hD, hG, hS, hA, rfl, rfl⟩ : kAt D cy sa A s H _ _ [((u 0), .inr (12, [.ref (u 1), .int 0, .int (-1), .ref (u 2), .ref (u 3), .ref (u 4), .ref (u 5), .ref (u 6), .ref (u 7), .ref (u 8), .int 0, .ref (u 9), .ref (u 10), .ref (u 11), .ref (u 12), .ref (u 13), .ref (u 14)])), ((u 3), .inr (4, [.ref (u 15), .ref (u 16), .ref (u 17), .ref (u 18), .ref (u 19), .ref (u 20), .ref (u 21), .ref (u 22), .ref (u 23), .ref (u 24), .ref (u 25), .ref (u 26), .int 0, .int 0, .int 0, .int 0, .int 0]))] [0, 1]) hl.1 rfl rfl ⟨rfl, rfl, ⟨Nat.le_of_ble_eq_true rfl, Nat.le_of_ble_eq_true rfl⟩, ⟨Nat.le_of_ble_eq_true rfl, Nat.le_of_ble_eq_true rfl⟩, Nat.le_of_ble_eq_true rfl⟩ dX11_taught_2) (fun ce q9 u2 H locs hwu2 hP hD hS h1 h2 h3 => ?_) (fun u2 H locs hwu2 hP hD hS => ?_)
  · have hP : va_P D vwCl [] H := hP
    have hD : va_D A [] := hD
    exact x_out () hxt hlk h1 h2 (h3) (trivial) (hP.sub [] rfl) (hD.sub [] (by decide) rfl) hS (by decide) (by decide)
  · exact (hwu2).elim

set_option maxHeartbeats 4000000 in
set_option maxRecDepth 100000 in
/-- trust -/
theorem c_LM_trust (l : Launch) (hl0 : l.stackTraces = false) (D : va_G) (cy : Nat → ClassId) (sa : Nat → Nat) (u : Nat → Nat) (p0 p1 : Int32) (sz : Nat) : vx_Met l yX11_trust (Cond.code yX11_trust cX11_trust 3 (some .int) :: kWS) ({ frames := 13, cells := 1, slots := 6, locals := 480 }) (kPre D cy sa [.ref (u 0), .int p0, .int p1] [((u 0), .inr (12, [.ref (u 1), .int 0, .int (-1), .ref (u 2), .ref (u 3), .ref (u 4), .ref (u 5), .ref (u 6), .ref (u 7), .ref (u 8), .int 0, .ref (u 9), .ref (u 10), .ref (u 11), .ref (u 12), .ref (u 13), .ref (u 14)])), ((u 3), .inr (4, [.ref (u 15), .ref (u 16), .ref (u 17), .ref (u 18), .ref (u 19), .ref (u 20), .ref (u 21), .ref (u 22), .ref (u 23), .ref (u 24), .ref (u 25), .ref (u 26), .int 0, .int 0, .int 0, .int 0, .int 0]))] sz) (va_Qi (fun (r : Int32) (_ : Unit) => False) (kB D (va_A [((u 0), .inr (12, [.ref (u 1), .int 0, .int (-1), .ref (u 2), .ref (u 3), .ref (u 4), .ref (u 5), .ref (u 6), .ref (u 7), .ref (u 8), .int 0, .ref (u 9), .ref (u 10), .ref (u 11), .ref (u 12), .ref (u 13), .ref (u 14)])), ((u 3), .inr (4, [.ref (u 15), .ref (u 16), .ref (u 17), .ref (u 18), .ref (u 19), .ref (u 20), .ref (u 21), .ref (u 22), .ref (u 23), .ref (u 24), .ref (u 25), .ref (u 26), .int 0, .int 0, .int 0, .int 0, .int 0]))] sz) (fun _ => [])) (va_A [((u 0), .inr (12, [.ref (u 1), .int 0, .int (-1), .ref (u 2), .ref (u 3), .ref (u 4), .ref (u 5), .ref (u 6), .ref (u 7), .ref (u 8), .int 0, .ref (u 9), .ref (u 10), .ref (u 11), .ref (u 12), .ref (u 13), .ref (u 14)])), ((u 3), .inr (4, [.ref (u 15), .ref (u 16), .ref (u 17), .ref (u 18), .ref (u 19), .ref (u 20), .ref (u 21), .ref (u 22), .ref (u 23), .ref (u 24), .ref (u 25), .ref (u 26), .int 0, .int 0, .int 0, .int 0, .int 0]))] sz)) (vx_X (fun (_ : Unit) => True) (kBX D (va_A [((u 0), .inr (12, [.ref (u 1), .int 0, .int (-1), .ref (u 2), .ref (u 3), .ref (u 4), .ref (u 5), .ref (u 6), .ref (u 7), .ref (u 8), .int 0, .ref (u 9), .ref (u 10), .ref (u 11), .ref (u 12), .ref (u 13), .ref (u 14)])), ((u 3), .inr (4, [.ref (u 15), .ref (u 16), .ref (u 17), .ref (u 18), .ref (u 19), .ref (u 20), .ref (u 21), .ref (u 22), .ref (u 23), .ref (u 24), .ref (u 25), .ref (u 26), .int 0, .int 0, .int 0, .int 0, .int 0]))] sz) (fun _ => []) (fun _ => "java/util/NoSuchElementException")) (va_A [((u 0), .inr (12, [.ref (u 1), .int 0, .int (-1), .ref (u 2), .ref (u 3), .ref (u 4), .ref (u 5), .ref (u 6), .ref (u 7), .ref (u 8), .int 0, .ref (u 9), .ref (u 10), .ref (u 11), .ref (u 12), .ref (u 13), .ref (u 14)])), ((u 3), .inr (4, [.ref (u 15), .ref (u 16), .ref (u 17), .ref (u 18), .ref (u 19), .ref (u 20), .ref (u 21), .ref (u 22), .ref (u 23), .ref (u 24), .ref (u 25), .ref (u 26), .int 0, .int 0, .int 0, .int 0, .int 0]))] sz)) 1 6 (va_A [((u 0), .inr (12, [.ref (u 1), .int 0, .int (-1), .ref (u 2), .ref (u 3), .ref (u 4), .ref (u 5), .ref (u 6), .ref (u 7), .ref (u 8), .int 0, .ref (u 9), .ref (u 10), .ref (u 11), .ref (u 12), .ref (u 13), .ref (u 14)])), ((u 3), .inr (4, [.ref (u 15), .ref (u 16), .ref (u 17), .ref (u 18), .ref (u 19), .ref (u 20), .ref (u 21), .ref (u 22), .ref (u 23), .ref (u 24), .ref (u 25), .ref (u 26), .int 0, .int 0, .int 0, .int 0, .int 0]))] sz) := by
  refine k_ofX (Qc := fun A => va_Qi (fun (r : Int32) (_ : Unit) => False) (kB D A (fun _ => [])) A) (XC := fun A => vx_X (fun (_ : Unit) => True) (kBX D A (fun _ => []) (fun _ => "java/util/NoSuchElementException")) A) (by decide) (Nat.le_of_ble_eq_true rfl) ?_
  intro p e s m below meth c ls A E hxt hA hP hD hG hS hl
  obtain ⟨hx, hb, hml, hown, hts, hr, hlk, hnm⟩ := id E
  have hown : s.vm.findClass RX11 = some m.cls := hown
  have hl : lv_has ls 3 [(0, .ref (u 0)), (1, .int p0), (2, .int p1)] := hl
  obtain ⟨H, hH⟩ : ∃ H, H = s.heap := ⟨_, rfl⟩
  have hP : va_P D vwCl [((u 0), .inr (12, [.ref (u 1), .int 0, .int (-1), .ref (u 2), .ref (u 3), .ref (u 4), .ref (u 5), .ref (u 6), .ref (u 7), .ref (u 8), .int 0, .ref (u 9), .ref (u 10), .ref (u 11), .ref (u 12), .ref (u 13), .ref (u 14)])), ((u 3), .inr (4, [.ref (u 15), .ref (u 16), .ref (u 17), .ref (u 18), .ref (u 19), .ref (u 20), .ref (u 21), .ref (u 22), .ref (u 23), .ref (u 24), .ref (u 25), .ref (u 26), .int 0, .int 0, .int 0, .int 0, .int 0]))] H := by rw [hH]; exact hP
  have hS : va_S A s.heap H [] := by rw [hH]; exact va_S.rf
  rw [← hH]
  clear hH
  refine lv_aload_n hx hb dX11_trust_0 rfl (lv_at hl 0 rfl) ?_
  refine lv_iload_n hx hb dX11_trust_1 rfl (lv_at hl 1 rfl) ?_
  refine x_calv [] (⟨hP, hD, hG, hS, hA, rfl, rfl⟩ : kAt D cy sa A s H _ _ [((u 0), .inr (12, [.ref (u 1), .int 0, .int (-1), .ref (u 2), .ref (u 3), .ref (u 4), .ref (u 5), .ref (u 6), .ref (u 7), .ref (u 8), .int 0, .ref (u 9), .ref (u 10), .ref (u 11), .ref (u 12), .ref (u 13), .ref (u 14)])), ((u 3), .inr (4, [.ref (u 15), .ref (u 16), .ref (u 17), .ref (u 18), .ref (u 19), .ref (u 20), .ref (u 21), .ref (u 22), .ref (u 23), .ref (u 24), .ref (u 25), .ref (u 26), .int 0, .int 0, .int 0, .int 0, .int 0]))] [0, 1]) (wr := []) rfl rfl (by decide) (x_runV 12 0 (As := [.int p0]) (rest := []) E lk_VRX11_145 rfl rfl rfl (c_needBody l hl0 D cy sa u p0 H.size) (⟨hP, hD, hG, hS, hA, rfl, rfl⟩ : kAt D cy sa A s H _ _ [((u 0), .inr (12, [.ref (u 1), .int 0, .int (-1), .ref (u 2), .ref (u 3), .ref (u 4), .ref (u 5), .ref (u 6), .ref (u 7), .ref (u 8), .int 0, .ref (u 9), .ref (u 10), .ref (u 11), .ref (u 12), .ref (u 13), .ref (u 14)])), ((u 3), .inr (4, [.ref (u 15), .ref (u 16), .ref (u 17), .ref (u 18), .ref (u 19), .ref (u 20), .ref (u 21), .ref (u 22), .ref (u 23), .ref (u 24), .ref (u 25), .ref (u 26), .int 0, .int 0, .int 0, .int 0, .int 0]))] [0, 1]) hl.1 rfl rfl ⟨rfl, rfl, ⟨Nat.le_of_ble_eq_true rfl, Nat.le_of_ble_eq_true rfl⟩, ⟨Nat.le_of_ble_eq_true rfl, Nat.le_of_ble_eq_true rfl⟩, Nat.le_of_ble_eq_true rfl⟩ dX11_trust_2) (fun ce q9 u2 H locs hwu2 hP hD hS h1 h2 h3 => ?_) (fun u2 H locs hwu2 hP hD hS => ?_)
  · have hP : va_P D vwCl [] H := hP
    have hD : va_D A [] := hD
    exact x_out () hxt hlk h1 h2 (h3) (trivial) (hP.sub [] rfl) (hD.sub [] (by decide) rfl) hS (by decide) (by decide)
  · exact (hwu2).elim

set_option maxHeartbeats 4000000 in
set_option maxRecDepth 100000 in
/-- answer -/
theorem c_LM_answer (l : Launch) (hl0 : l.stackTraces = false) (D : va_G) (cy : Nat → ClassId) (sa : Nat → Nat) (u : Nat → Nat) (p0 p1 p2 p3 : Int32) (sz : Nat) : vx_Met l yX11_answer (Cond.code yX11_answer cX11_answer 6 (some .boolean) :: kWS) ({ frames := 13, cells := 1, slots := 6, locals := 480 }) (kPre D cy sa [.ref (u 0), .int p0, .int p1, .int p2, .int p3] [((u 0), .inr (12, [.ref (u 1), .int 0, .int (-1), .ref (u 2), .ref (u 3), .ref (u 4), .ref (u 5), .ref (u 6), .ref (u 7), .ref (u 8), .int 0, .ref (u 9), .ref (u 10), .ref (u 11), .ref (u 12), .ref (u 13), .ref (u 14)])), ((u 3), .inr (4, [.ref (u 15), .ref (u 16), .ref (u 17), .ref (u 18), .ref (u 19), .ref (u 20), .ref (u 21), .ref (u 22), .ref (u 23), .ref (u 24), .ref (u 25), .ref (u 26), .int 0, .int 0, .int 0, .int 0, .int 0]))] sz) (va_Qi (fun (r : Int32) (_ : Unit) => False) (kB D (va_A [((u 0), .inr (12, [.ref (u 1), .int 0, .int (-1), .ref (u 2), .ref (u 3), .ref (u 4), .ref (u 5), .ref (u 6), .ref (u 7), .ref (u 8), .int 0, .ref (u 9), .ref (u 10), .ref (u 11), .ref (u 12), .ref (u 13), .ref (u 14)])), ((u 3), .inr (4, [.ref (u 15), .ref (u 16), .ref (u 17), .ref (u 18), .ref (u 19), .ref (u 20), .ref (u 21), .ref (u 22), .ref (u 23), .ref (u 24), .ref (u 25), .ref (u 26), .int 0, .int 0, .int 0, .int 0, .int 0]))] sz) (fun _ => [])) (va_A [((u 0), .inr (12, [.ref (u 1), .int 0, .int (-1), .ref (u 2), .ref (u 3), .ref (u 4), .ref (u 5), .ref (u 6), .ref (u 7), .ref (u 8), .int 0, .ref (u 9), .ref (u 10), .ref (u 11), .ref (u 12), .ref (u 13), .ref (u 14)])), ((u 3), .inr (4, [.ref (u 15), .ref (u 16), .ref (u 17), .ref (u 18), .ref (u 19), .ref (u 20), .ref (u 21), .ref (u 22), .ref (u 23), .ref (u 24), .ref (u 25), .ref (u 26), .int 0, .int 0, .int 0, .int 0, .int 0]))] sz)) (vx_X (fun (_ : Unit) => True) (kBX D (va_A [((u 0), .inr (12, [.ref (u 1), .int 0, .int (-1), .ref (u 2), .ref (u 3), .ref (u 4), .ref (u 5), .ref (u 6), .ref (u 7), .ref (u 8), .int 0, .ref (u 9), .ref (u 10), .ref (u 11), .ref (u 12), .ref (u 13), .ref (u 14)])), ((u 3), .inr (4, [.ref (u 15), .ref (u 16), .ref (u 17), .ref (u 18), .ref (u 19), .ref (u 20), .ref (u 21), .ref (u 22), .ref (u 23), .ref (u 24), .ref (u 25), .ref (u 26), .int 0, .int 0, .int 0, .int 0, .int 0]))] sz) (fun _ => []) (fun _ => "java/util/NoSuchElementException")) (va_A [((u 0), .inr (12, [.ref (u 1), .int 0, .int (-1), .ref (u 2), .ref (u 3), .ref (u 4), .ref (u 5), .ref (u 6), .ref (u 7), .ref (u 8), .int 0, .ref (u 9), .ref (u 10), .ref (u 11), .ref (u 12), .ref (u 13), .ref (u 14)])), ((u 3), .inr (4, [.ref (u 15), .ref (u 16), .ref (u 17), .ref (u 18), .ref (u 19), .ref (u 20), .ref (u 21), .ref (u 22), .ref (u 23), .ref (u 24), .ref (u 25), .ref (u 26), .int 0, .int 0, .int 0, .int 0, .int 0]))] sz)) 1 6 (va_A [((u 0), .inr (12, [.ref (u 1), .int 0, .int (-1), .ref (u 2), .ref (u 3), .ref (u 4), .ref (u 5), .ref (u 6), .ref (u 7), .ref (u 8), .int 0, .ref (u 9), .ref (u 10), .ref (u 11), .ref (u 12), .ref (u 13), .ref (u 14)])), ((u 3), .inr (4, [.ref (u 15), .ref (u 16), .ref (u 17), .ref (u 18), .ref (u 19), .ref (u 20), .ref (u 21), .ref (u 22), .ref (u 23), .ref (u 24), .ref (u 25), .ref (u 26), .int 0, .int 0, .int 0, .int 0, .int 0]))] sz) := by
  refine k_ofX (Qc := fun A => va_Qi (fun (r : Int32) (_ : Unit) => False) (kB D A (fun _ => [])) A) (XC := fun A => vx_X (fun (_ : Unit) => True) (kBX D A (fun _ => []) (fun _ => "java/util/NoSuchElementException")) A) (by decide) (Nat.le_of_ble_eq_true rfl) ?_
  intro p e s m below meth c ls A E hxt hA hP hD hG hS hl
  obtain ⟨hx, hb, hml, hown, hts, hr, hlk, hnm⟩ := id E
  have hown : s.vm.findClass RX11 = some m.cls := hown
  have hl : lv_has ls 6 [(0, .ref (u 0)), (1, .int p0), (2, .int p1), (3, .int p2), (4, .int p3)] := hl
  obtain ⟨H, hH⟩ : ∃ H, H = s.heap := ⟨_, rfl⟩
  have hP : va_P D vwCl [((u 0), .inr (12, [.ref (u 1), .int 0, .int (-1), .ref (u 2), .ref (u 3), .ref (u 4), .ref (u 5), .ref (u 6), .ref (u 7), .ref (u 8), .int 0, .ref (u 9), .ref (u 10), .ref (u 11), .ref (u 12), .ref (u 13), .ref (u 14)])), ((u 3), .inr (4, [.ref (u 15), .ref (u 16), .ref (u 17), .ref (u 18), .ref (u 19), .ref (u 20), .ref (u 21), .ref (u 22), .ref (u 23), .ref (u 24), .ref (u 25), .ref (u 26), .int 0, .int 0, .int 0, .int 0, .int 0]))] H := by rw [hH]; exact hP
  have hS : va_S A s.heap H [] := by rw [hH]; exact va_S.rf
  rw [← hH]
  clear hH
  refine lv_aload_n hx hb dX11_answer_0 rfl (lv_at hl 0 rfl) ?_
  refine lv_iload_n hx hb dX11_answer_1 rfl (lv_at hl 1 rfl) ?_
  refine x_calv [] (⟨hP, hD, hG, hS, hA, rfl, rfl⟩ : kAt D cy sa A s H _ _ [((u 0), .inr (12, [.ref (u 1), .int 0, .int (-1), .ref (u 2), .ref (u 3), .ref (u 4), .ref (u 5), .ref (u 6), .ref (u 7), .ref (u 8), .int 0, .ref (u 9), .ref (u 10), .ref (u 11), .ref (u 12), .ref (u 13), .ref (u 14)])), ((u 3), .inr (4, [.ref (u 15), .ref (u 16), .ref (u 17), .ref (u 18), .ref (u 19), .ref (u 20), .ref (u 21), .ref (u 22), .ref (u 23), .ref (u 24), .ref (u 25), .ref (u 26), .int 0, .int 0, .int 0, .int 0, .int 0]))] [0, 1]) (wr := []) rfl rfl (by decide) (x_runV 12 0 (As := [.int p0]) (rest := []) E lk_VRX11_145 rfl rfl rfl (c_needBody l hl0 D cy sa u p0 H.size) (⟨hP, hD, hG, hS, hA, rfl, rfl⟩ : kAt D cy sa A s H _ _ [((u 0), .inr (12, [.ref (u 1), .int 0, .int (-1), .ref (u 2), .ref (u 3), .ref (u 4), .ref (u 5), .ref (u 6), .ref (u 7), .ref (u 8), .int 0, .ref (u 9), .ref (u 10), .ref (u 11), .ref (u 12), .ref (u 13), .ref (u 14)])), ((u 3), .inr (4, [.ref (u 15), .ref (u 16), .ref (u 17), .ref (u 18), .ref (u 19), .ref (u 20), .ref (u 21), .ref (u 22), .ref (u 23), .ref (u 24), .ref (u 25), .ref (u 26), .int 0, .int 0, .int 0, .int 0, .int 0]))] [0, 1]) hl.1 rfl rfl ⟨rfl, rfl, ⟨Nat.le_of_ble_eq_true rfl, Nat.le_of_ble_eq_true rfl⟩, ⟨Nat.le_of_ble_eq_true rfl, Nat.le_of_ble_eq_true rfl⟩, Nat.le_of_ble_eq_true rfl⟩ dX11_answer_2) (fun ce q9 u2 H locs hwu2 hP hD hS h1 h2 h3 => ?_) (fun u2 H locs hwu2 hP hD hS => ?_)
  · have hP : va_P D vwCl [] H := hP
    have hD : va_D A [] := hD
    exact x_out () hxt hlk h1 h2 (h3) (trivial) (hP.sub [] rfl) (hD.sub [] (by decide) rfl) hS (by decide) (by decide)
  · exact (hwu2).elim

set_option maxHeartbeats 4000000 in
set_option maxRecDepth 100000 in
/-- stay -/
theorem c_LM_stay (l : Launch) (hl0 : l.stackTraces = false) (D : va_G) (cy : Nat → ClassId) (sa : Nat → Nat) (u : Nat → Nat) (p0 : Int32) (sz : Nat) : vx_Met l yX11_stay (Cond.code yX11_stay cX11_stay 2 (some .int) :: kWS) ({ frames := 13, cells := 1, slots := 6, locals := 480 }) (kPre D cy sa [.ref (u 0), .int p0] [((u 0), .inr (12, [.ref (u 1), .int 0, .int (-1), .ref (u 2), .ref (u 3), .ref (u 4), .ref (u 5), .ref (u 6), .ref (u 7), .ref (u 8), .int 0, .ref (u 9), .ref (u 10), .ref (u 11), .ref (u 12), .ref (u 13), .ref (u 14)])), ((u 3), .inr (4, [.ref (u 15), .ref (u 16), .ref (u 17), .ref (u 18), .ref (u 19), .ref (u 20), .ref (u 21), .ref (u 22), .ref (u 23), .ref (u 24), .ref (u 25), .ref (u 26), .int 0, .int 0, .int 0, .int 0, .int 0]))] sz) (va_Qi (fun (r : Int32) (_ : Unit) => False) (kB D (va_A [((u 0), .inr (12, [.ref (u 1), .int 0, .int (-1), .ref (u 2), .ref (u 3), .ref (u 4), .ref (u 5), .ref (u 6), .ref (u 7), .ref (u 8), .int 0, .ref (u 9), .ref (u 10), .ref (u 11), .ref (u 12), .ref (u 13), .ref (u 14)])), ((u 3), .inr (4, [.ref (u 15), .ref (u 16), .ref (u 17), .ref (u 18), .ref (u 19), .ref (u 20), .ref (u 21), .ref (u 22), .ref (u 23), .ref (u 24), .ref (u 25), .ref (u 26), .int 0, .int 0, .int 0, .int 0, .int 0]))] sz) (fun _ => [])) (va_A [((u 0), .inr (12, [.ref (u 1), .int 0, .int (-1), .ref (u 2), .ref (u 3), .ref (u 4), .ref (u 5), .ref (u 6), .ref (u 7), .ref (u 8), .int 0, .ref (u 9), .ref (u 10), .ref (u 11), .ref (u 12), .ref (u 13), .ref (u 14)])), ((u 3), .inr (4, [.ref (u 15), .ref (u 16), .ref (u 17), .ref (u 18), .ref (u 19), .ref (u 20), .ref (u 21), .ref (u 22), .ref (u 23), .ref (u 24), .ref (u 25), .ref (u 26), .int 0, .int 0, .int 0, .int 0, .int 0]))] sz)) (vx_X (fun (_ : Unit) => True) (kBX D (va_A [((u 0), .inr (12, [.ref (u 1), .int 0, .int (-1), .ref (u 2), .ref (u 3), .ref (u 4), .ref (u 5), .ref (u 6), .ref (u 7), .ref (u 8), .int 0, .ref (u 9), .ref (u 10), .ref (u 11), .ref (u 12), .ref (u 13), .ref (u 14)])), ((u 3), .inr (4, [.ref (u 15), .ref (u 16), .ref (u 17), .ref (u 18), .ref (u 19), .ref (u 20), .ref (u 21), .ref (u 22), .ref (u 23), .ref (u 24), .ref (u 25), .ref (u 26), .int 0, .int 0, .int 0, .int 0, .int 0]))] sz) (fun _ => []) (fun _ => "java/util/NoSuchElementException")) (va_A [((u 0), .inr (12, [.ref (u 1), .int 0, .int (-1), .ref (u 2), .ref (u 3), .ref (u 4), .ref (u 5), .ref (u 6), .ref (u 7), .ref (u 8), .int 0, .ref (u 9), .ref (u 10), .ref (u 11), .ref (u 12), .ref (u 13), .ref (u 14)])), ((u 3), .inr (4, [.ref (u 15), .ref (u 16), .ref (u 17), .ref (u 18), .ref (u 19), .ref (u 20), .ref (u 21), .ref (u 22), .ref (u 23), .ref (u 24), .ref (u 25), .ref (u 26), .int 0, .int 0, .int 0, .int 0, .int 0]))] sz)) 1 6 (va_A [((u 0), .inr (12, [.ref (u 1), .int 0, .int (-1), .ref (u 2), .ref (u 3), .ref (u 4), .ref (u 5), .ref (u 6), .ref (u 7), .ref (u 8), .int 0, .ref (u 9), .ref (u 10), .ref (u 11), .ref (u 12), .ref (u 13), .ref (u 14)])), ((u 3), .inr (4, [.ref (u 15), .ref (u 16), .ref (u 17), .ref (u 18), .ref (u 19), .ref (u 20), .ref (u 21), .ref (u 22), .ref (u 23), .ref (u 24), .ref (u 25), .ref (u 26), .int 0, .int 0, .int 0, .int 0, .int 0]))] sz) := by
  refine k_ofX (Qc := fun A => va_Qi (fun (r : Int32) (_ : Unit) => False) (kB D A (fun _ => [])) A) (XC := fun A => vx_X (fun (_ : Unit) => True) (kBX D A (fun _ => []) (fun _ => "java/util/NoSuchElementException")) A) (by decide) (Nat.le_of_ble_eq_true rfl) ?_
  intro p e s m below meth c ls A E hxt hA hP hD hG hS hl
  obtain ⟨hx, hb, hml, hown, hts, hr, hlk, hnm⟩ := id E
  have hown : s.vm.findClass RX11 = some m.cls := hown
  have hl : lv_has ls 2 [(0, .ref (u 0)), (1, .int p0)] := hl
  obtain ⟨H, hH⟩ : ∃ H, H = s.heap := ⟨_, rfl⟩
  have hP : va_P D vwCl [((u 0), .inr (12, [.ref (u 1), .int 0, .int (-1), .ref (u 2), .ref (u 3), .ref (u 4), .ref (u 5), .ref (u 6), .ref (u 7), .ref (u 8), .int 0, .ref (u 9), .ref (u 10), .ref (u 11), .ref (u 12), .ref (u 13), .ref (u 14)])), ((u 3), .inr (4, [.ref (u 15), .ref (u 16), .ref (u 17), .ref (u 18), .ref (u 19), .ref (u 20), .ref (u 21), .ref (u 22), .ref (u 23), .ref (u 24), .ref (u 25), .ref (u 26), .int 0, .int 0, .int 0, .int 0, .int 0]))] H := by rw [hH]; exact hP
  have hS : va_S A s.heap H [] := by rw [hH]; exact va_S.rf
  rw [← hH]
  clear hH
  refine lv_aload_n hx hb dX11_stay_0 rfl (lv_at hl 0 rfl) ?_
  refine lv_iload_n hx hb dX11_stay_1 rfl (lv_at hl 1 rfl) ?_
  refine x_calv [] (⟨hP, hD, hG, hS, hA, rfl, rfl⟩ : kAt D cy sa A s H _ _ [((u 0), .inr (12, [.ref (u 1), .int 0, .int (-1), .ref (u 2), .ref (u 3), .ref (u 4), .ref (u 5), .ref (u 6), .ref (u 7), .ref (u 8), .int 0, .ref (u 9), .ref (u 10), .ref (u 11), .ref (u 12), .ref (u 13), .ref (u 14)])), ((u 3), .inr (4, [.ref (u 15), .ref (u 16), .ref (u 17), .ref (u 18), .ref (u 19), .ref (u 20), .ref (u 21), .ref (u 22), .ref (u 23), .ref (u 24), .ref (u 25), .ref (u 26), .int 0, .int 0, .int 0, .int 0, .int 0]))] [0, 1]) (wr := []) rfl rfl (by decide) (x_runV 12 0 (As := [.int p0]) (rest := []) E lk_VRX11_145 rfl rfl rfl (c_needBody l hl0 D cy sa u p0 H.size) (⟨hP, hD, hG, hS, hA, rfl, rfl⟩ : kAt D cy sa A s H _ _ [((u 0), .inr (12, [.ref (u 1), .int 0, .int (-1), .ref (u 2), .ref (u 3), .ref (u 4), .ref (u 5), .ref (u 6), .ref (u 7), .ref (u 8), .int 0, .ref (u 9), .ref (u 10), .ref (u 11), .ref (u 12), .ref (u 13), .ref (u 14)])), ((u 3), .inr (4, [.ref (u 15), .ref (u 16), .ref (u 17), .ref (u 18), .ref (u 19), .ref (u 20), .ref (u 21), .ref (u 22), .ref (u 23), .ref (u 24), .ref (u 25), .ref (u 26), .int 0, .int 0, .int 0, .int 0, .int 0]))] [0, 1]) hl.1 rfl rfl ⟨rfl, rfl, ⟨Nat.le_of_ble_eq_true rfl, Nat.le_of_ble_eq_true rfl⟩, ⟨Nat.le_of_ble_eq_true rfl, Nat.le_of_ble_eq_true rfl⟩, Nat.le_of_ble_eq_true rfl⟩ dX11_stay_2) (fun ce q9 u2 H locs hwu2 hP hD hS h1 h2 h3 => ?_) (fun u2 H locs hwu2 hP hD hS => ?_)
  · have hP : va_P D vwCl [] H := hP
    have hD : va_D A [] := hD
    exact x_out () hxt hlk h1 h2 (h3) (trivial) (hP.sub [] rfl) (hD.sub [] (by decide) rfl) hS (by decide) (by decide)
  · exact (hwu2).elim

set_option maxHeartbeats 4000000 in
set_option maxRecDepth 100000 in
/-- beds -/
theorem c_LM_beds (l : Launch) (hl0 : l.stackTraces = false) (D : va_G) (cy : Nat → ClassId) (sa : Nat → Nat) (u : Nat → Nat) (p0 p1 p2 : Int32) (sz : Nat) : vx_Met l yX11_beds (Cond.code yX11_beds cX11_beds 8 (some .int) :: kWS) ({ frames := 13, cells := 1, slots := 6, locals := 480 }) (kPre D cy sa [.ref (u 0), .int p0, .int p1, .int p2] [((u 0), .inr (12, [.ref (u 1), .int 0, .int (-1), .ref (u 2), .ref (u 3), .ref (u 4), .ref (u 5), .ref (u 6), .ref (u 7), .ref (u 8), .int 0, .ref (u 9), .ref (u 10), .ref (u 11), .ref (u 12), .ref (u 13), .ref (u 14)])), ((u 3), .inr (4, [.ref (u 15), .ref (u 16), .ref (u 17), .ref (u 18), .ref (u 19), .ref (u 20), .ref (u 21), .ref (u 22), .ref (u 23), .ref (u 24), .ref (u 25), .ref (u 26), .int 0, .int 0, .int 0, .int 0, .int 0]))] sz) (va_Qi (fun (r : Int32) (_ : Unit) => False) (kB D (va_A [((u 0), .inr (12, [.ref (u 1), .int 0, .int (-1), .ref (u 2), .ref (u 3), .ref (u 4), .ref (u 5), .ref (u 6), .ref (u 7), .ref (u 8), .int 0, .ref (u 9), .ref (u 10), .ref (u 11), .ref (u 12), .ref (u 13), .ref (u 14)])), ((u 3), .inr (4, [.ref (u 15), .ref (u 16), .ref (u 17), .ref (u 18), .ref (u 19), .ref (u 20), .ref (u 21), .ref (u 22), .ref (u 23), .ref (u 24), .ref (u 25), .ref (u 26), .int 0, .int 0, .int 0, .int 0, .int 0]))] sz) (fun _ => [])) (va_A [((u 0), .inr (12, [.ref (u 1), .int 0, .int (-1), .ref (u 2), .ref (u 3), .ref (u 4), .ref (u 5), .ref (u 6), .ref (u 7), .ref (u 8), .int 0, .ref (u 9), .ref (u 10), .ref (u 11), .ref (u 12), .ref (u 13), .ref (u 14)])), ((u 3), .inr (4, [.ref (u 15), .ref (u 16), .ref (u 17), .ref (u 18), .ref (u 19), .ref (u 20), .ref (u 21), .ref (u 22), .ref (u 23), .ref (u 24), .ref (u 25), .ref (u 26), .int 0, .int 0, .int 0, .int 0, .int 0]))] sz)) (vx_X (fun (_ : Unit) => True) (kBX D (va_A [((u 0), .inr (12, [.ref (u 1), .int 0, .int (-1), .ref (u 2), .ref (u 3), .ref (u 4), .ref (u 5), .ref (u 6), .ref (u 7), .ref (u 8), .int 0, .ref (u 9), .ref (u 10), .ref (u 11), .ref (u 12), .ref (u 13), .ref (u 14)])), ((u 3), .inr (4, [.ref (u 15), .ref (u 16), .ref (u 17), .ref (u 18), .ref (u 19), .ref (u 20), .ref (u 21), .ref (u 22), .ref (u 23), .ref (u 24), .ref (u 25), .ref (u 26), .int 0, .int 0, .int 0, .int 0, .int 0]))] sz) (fun _ => []) (fun _ => "java/util/NoSuchElementException")) (va_A [((u 0), .inr (12, [.ref (u 1), .int 0, .int (-1), .ref (u 2), .ref (u 3), .ref (u 4), .ref (u 5), .ref (u 6), .ref (u 7), .ref (u 8), .int 0, .ref (u 9), .ref (u 10), .ref (u 11), .ref (u 12), .ref (u 13), .ref (u 14)])), ((u 3), .inr (4, [.ref (u 15), .ref (u 16), .ref (u 17), .ref (u 18), .ref (u 19), .ref (u 20), .ref (u 21), .ref (u 22), .ref (u 23), .ref (u 24), .ref (u 25), .ref (u 26), .int 0, .int 0, .int 0, .int 0, .int 0]))] sz)) 1 6 (va_A [((u 0), .inr (12, [.ref (u 1), .int 0, .int (-1), .ref (u 2), .ref (u 3), .ref (u 4), .ref (u 5), .ref (u 6), .ref (u 7), .ref (u 8), .int 0, .ref (u 9), .ref (u 10), .ref (u 11), .ref (u 12), .ref (u 13), .ref (u 14)])), ((u 3), .inr (4, [.ref (u 15), .ref (u 16), .ref (u 17), .ref (u 18), .ref (u 19), .ref (u 20), .ref (u 21), .ref (u 22), .ref (u 23), .ref (u 24), .ref (u 25), .ref (u 26), .int 0, .int 0, .int 0, .int 0, .int 0]))] sz) := by
  refine k_ofX (Qc := fun A => va_Qi (fun (r : Int32) (_ : Unit) => False) (kB D A (fun _ => [])) A) (XC := fun A => vx_X (fun (_ : Unit) => True) (kBX D A (fun _ => []) (fun _ => "java/util/NoSuchElementException")) A) (by decide) (Nat.le_of_ble_eq_true rfl) ?_
  intro p e s m below meth c ls A E hxt hA hP hD hG hS hl
  obtain ⟨hx, hb, hml, hown, hts, hr, hlk, hnm⟩ := id E
  have hown : s.vm.findClass RX11 = some m.cls := hown
  have hl : lv_has ls 8 [(0, .ref (u 0)), (1, .int p0), (2, .int p1), (3, .int p2)] := hl
  obtain ⟨H, hH⟩ : ∃ H, H = s.heap := ⟨_, rfl⟩
  have hP : va_P D vwCl [((u 0), .inr (12, [.ref (u 1), .int 0, .int (-1), .ref (u 2), .ref (u 3), .ref (u 4), .ref (u 5), .ref (u 6), .ref (u 7), .ref (u 8), .int 0, .ref (u 9), .ref (u 10), .ref (u 11), .ref (u 12), .ref (u 13), .ref (u 14)])), ((u 3), .inr (4, [.ref (u 15), .ref (u 16), .ref (u 17), .ref (u 18), .ref (u 19), .ref (u 20), .ref (u 21), .ref (u 22), .ref (u 23), .ref (u 24), .ref (u 25), .ref (u 26), .int 0, .int 0, .int 0, .int 0, .int 0]))] H := by rw [hH]; exact hP
  have hS : va_S A s.heap H [] := by rw [hH]; exact va_S.rf
  rw [← hH]
  clear hH
  refine lv_aload_n hx hb dX11_beds_0 rfl (lv_at hl 0 rfl) ?_
  refine lv_iload_n hx hb dX11_beds_1 rfl (lv_at hl 1 rfl) ?_
  refine x_calv [] (⟨hP, hD, hG, hS, hA, rfl, rfl⟩ : kAt D cy sa A s H _ _ [((u 0), .inr (12, [.ref (u 1), .int 0, .int (-1), .ref (u 2), .ref (u 3), .ref (u 4), .ref (u 5), .ref (u 6), .ref (u 7), .ref (u 8), .int 0, .ref (u 9), .ref (u 10), .ref (u 11), .ref (u 12), .ref (u 13), .ref (u 14)])), ((u 3), .inr (4, [.ref (u 15), .ref (u 16), .ref (u 17), .ref (u 18), .ref (u 19), .ref (u 20), .ref (u 21), .ref (u 22), .ref (u 23), .ref (u 24), .ref (u 25), .ref (u 26), .int 0, .int 0, .int 0, .int 0, .int 0]))] [0, 1]) (wr := []) rfl rfl (by decide) (x_runV 12 0 (As := [.int p0]) (rest := []) E lk_VRX11_145 rfl rfl rfl (c_needBody l hl0 D cy sa u p0 H.size) (⟨hP, hD, hG, hS, hA, rfl, rfl⟩ : kAt D cy sa A s H _ _ [((u 0), .inr (12, [.ref (u 1), .int 0, .int (-1), .ref (u 2), .ref (u 3), .ref (u 4), .ref (u 5), .ref (u 6), .ref (u 7), .ref (u 8), .int 0, .ref (u 9), .ref (u 10), .ref (u 11), .ref (u 12), .ref (u 13), .ref (u 14)])), ((u 3), .inr (4, [.ref (u 15), .ref (u 16), .ref (u 17), .ref (u 18), .ref (u 19), .ref (u 20), .ref (u 21), .ref (u 22), .ref (u 23), .ref (u 24), .ref (u 25), .ref (u 26), .int 0, .int 0, .int 0, .int 0, .int 0]))] [0, 1]) hl.1 rfl rfl ⟨rfl, rfl, ⟨Nat.le_of_ble_eq_true rfl, Nat.le_of_ble_eq_true rfl⟩, ⟨Nat.le_of_ble_eq_true rfl, Nat.le_of_ble_eq_true rfl⟩, Nat.le_of_ble_eq_true rfl⟩ dX11_beds_2) (fun ce q9 u2 H locs hwu2 hP hD hS h1 h2 h3 => ?_) (fun u2 H locs hwu2 hP hD hS => ?_)
  · have hP : va_P D vwCl [] H := hP
    have hD : va_D A [] := hD
    exact x_out () hxt hlk h1 h2 (h3) (trivial) (hP.sub [] rfl) (hD.sub [] (by decide) rfl) hS (by decide) (by decide)
  · exact (hwu2).elim
