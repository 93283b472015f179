theorem wm_1679 : Cond.code yX12_in cX12_in 3 (some .boolean) ∈ kWS := kws_at 1679 (by decide +kernel) (by decide +kernel)
theorem wm_1677 : Cond.methodLink RX12 124 yX12_in ∈ kWS := kws_at 1677 (by decide +kernel) (by decide +kernel)
theorem wm_1678 : Cond.static yX12_in ∈ kWS := kws_at 1678 (by decide +kernel) (by decide +kernel)
theorem wm_12 : Cond.initialized RX12 ∈ kWS := kws_at 12 (by decide +kernel) (by decide +kernel)
theorem lk_SRX12_124 : kLS RX12 124 yX12_in (Cond.code yX12_in cX12_in 3 (some .boolean)) 3 := ⟨wm_1677, wm_1678, wm_12, wm_1679, ⟨by decide +kernel, by decide +kernel, by decide +kernel⟩⟩
theorem wm_1519 : Cond.fieldLink RX12 87 "LentMindsModel" "thrown" "I" ∈ kWS := kws_at 1519 (by decide +kernel) (by decide +kernel)
theorem wm_1531 : Cond.fieldLink RX12 28 "LentMindsModel" "many" "[I" ∈ kWS := kws_at 1531 (by decide +kernel) (by decide +kernel)
theorem wm_1930 : Cond.code yX12_ones cX12_ones 3 (some .int) ∈ kWS := kws_at 1930 (by decide +kernel) (by decide +kernel)
theorem wm_1928 : Cond.methodLink RX12 292 yX12_ones ∈ kWS := kws_at 1928 (by decide +kernel) (by decide +kernel)
theorem wm_1929 : Cond.static yX12_ones ∈ kWS := kws_at 1929 (by decide +kernel) (by decide +kernel)
theorem lk_SRX12_292 : kLS RX12 292 yX12_ones (Cond.code yX12_ones cX12_ones 3 (some .int)) 1 := ⟨wm_1928, wm_1929, wm_12, wm_1930, ⟨by decide +kernel, by decide +kernel, by decide +kernel⟩⟩
theorem wm_1522 : Cond.fieldLink RX12 9 "LentMindsModel" "place" "I" ∈ kWS := kws_at 1522 (by decide +kernel) (by decide +kernel)
theorem wm_1683 : Cond.code yX12_bad cX12_bad 3 (some .boolean) ∈ kWS := kws_at 1683 (by decide +kernel) (by decide +kernel)
theorem wm_1680 : Cond.methodLink RX12 169 yX12_bad ∈ kWS := kws_at 1680 (by decide +kernel) (by decide +kernel)
theorem wm_s42 : Cond.selects RX12 yX12_bad yX12_bad ∈ kWS := kws_sel 42 (by decide +kernel) (by decide +kernel)
theorem wm_1682 : Cond.instanceMethod yX12_bad ∈ kWS := kws_at 1682 (by decide +kernel) (by decide +kernel)
theorem lk_VRX12_169 : kLV RX12 169 yX12_bad (Cond.code yX12_bad cX12_bad 3 (some .boolean)) 2 := ⟨wm_1680, wm_1682, wm_s42, wm_12, wm_1683, ⟨by decide +kernel, by decide +kernel, by decide +kernel⟩⟩
theorem wm_1762 : Cond.code yX12_isBody cX12_isBody 2 (some .boolean) ∈ kWS := kws_at 1762 (by decide +kernel) (by decide +kernel)
theorem wm_1759 : Cond.methodLink RX12 203 yX12_isBody ∈ kWS := kws_at 1759 (by decide +kernel) (by decide +kernel)
theorem wm_s57 : Cond.selects RX12 yX12_isBody yX12_isBody ∈ kWS := kws_sel 57 (by decide +kernel) (by decide +kernel)
theorem wm_1761 : Cond.instanceMethod yX12_isBody ∈ kWS := kws_at 1761 (by decide +kernel) (by decide +kernel)
theorem lk_VRX12_203 : kLV RX12 203 yX12_isBody (Cond.code yX12_isBody cX12_isBody 2 (some .boolean)) 1 := ⟨wm_1759, wm_1761, wm_s57, wm_12, wm_1762, ⟨by decide +kernel, by decide +kernel, by decide +kernel⟩⟩
theorem wm_1542 : Cond.fieldLink RX12 194 "LentMindsModel" "passings" "I" ∈ kWS := kws_at 1542 (by decide +kernel) (by decide +kernel)
theorem wm_1544 : Cond.fieldLink RX12 200 "LentMindsModel" "images" "I" ∈ kWS := kws_at 1544 (by decide +kernel) (by decide +kernel)
theorem wm_1927 : Cond.code yX12_areBodies cX12_areBodies 4 (some .boolean) ∈ kWS := kws_at 1927 (by decide +kernel) (by decide +kernel)
theorem wm_1924 : Cond.methodLink RX12 313 yX12_areBodies ∈ kWS := kws_at 1924 (by decide +kernel) (by decide +kernel)
theorem wm_s77 : Cond.selects RX12 yX12_areBodies yX12_areBodies ∈ kWS := kws_sel 77 (by decide +kernel) (by decide +kernel)
theorem wm_1926 : Cond.instanceMethod yX12_areBodies ∈ kWS := kws_at 1926 (by decide +kernel) (by decide +kernel)
theorem lk_VRX12_313 : kLV RX12 313 yX12_areBodies (Cond.code yX12_areBodies cX12_areBodies 4 (some .boolean)) 3 := ⟨wm_1924, wm_1926, wm_s77, wm_12, wm_1927, ⟨by decide +kernel, by decide +kernel, by decide +kernel⟩⟩
theorem dX12_in_0 : decode cX12_in 0 = .ok (.iload_n 0, 1) := by decide +kernel
theorem dX12_in_1 : decode cX12_in 1 = .ok (.iload_n 1, 1) := by decide +kernel
theorem dX12_in_2 : decode cX12_in 2 = .ok (.if_icmp .lt 12, 3) := by decide +kernel
theorem dX12_in_5 : decode cX12_in 5 = .ok (.iload_n 0, 1) := by decide +kernel
theorem dX12_in_6 : decode cX12_in 6 = .ok (.iload_n 2, 1) := by decide +kernel
theorem dX12_in_7 : decode cX12_in 7 = .ok (.if_icmp .gt 7, 3) := by decide +kernel
theorem dX12_in_10 : decode cX12_in 10 = .ok (.iconst 1, 1) := by decide +kernel
theorem dX12_in_11 : decode cX12_in 11 = .ok (.goto 4, 3) := by decide +kernel
theorem dX12_in_14 : decode cX12_in 14 = .ok (.iconst 0, 1) := by decide +kernel
theorem dX12_in_15 : decode cX12_in 15 = .ok (.ireturn, 1) := by decide +kernel
theorem dX12_isWait_0 : decode cX12_isWait 0 = .ok (.iload_n 0, 1) := by decide +kernel
theorem dX12_isWait_1 : decode cX12_isWait 1 = .ok (.iconst 1, 1) := by decide +kernel
theorem dX12_isWait_2 : decode cX12_isWait 2 = .ok (.bipush 60, 2) := by decide +kernel
theorem dX12_isWait_4 : decode cX12_isWait 4 = .ok (.invokestatic 124, 3) := by decide +kernel
theorem dX12_isWait_7 : decode cX12_isWait 7 = .ok (.ireturn, 1) := by decide +kernel
theorem dX12_more_0 : decode cX12_more 0 = .ok (.iload_n 0, 1) := by decide +kernel
theorem dX12_more_1 : decode cX12_more 1 = .ok (.iload_n 1, 1) := by decide +kernel
theorem dX12_more_2 : decode cX12_more 2 = .ok (.if_icmp .le 7, 3) := by decide +kernel
theorem dX12_more_5 : decode cX12_more 5 = .ok (.iload_n 0, 1) := by decide +kernel
theorem dX12_more_6 : decode cX12_more 6 = .ok (.goto 4, 3) := by decide +kernel
theorem dX12_more_9 : decode cX12_more 9 = .ok (.iload_n 1, 1) := by decide +kernel
theorem dX12_more_10 : decode cX12_more 10 = .ok (.ireturn, 1) := by decide +kernel
theorem dX12_bad_0 : decode cX12_bad 0 = .ok (.iload_n 1, 1) := by decide +kernel
theorem dX12_bad_1 : decode cX12_bad 1 = .ok (.ifCond .eq 15, 3) := by decide +kernel
theorem dX12_bad_4 : decode cX12_bad 4 = .ok (.aload_n 0, 1) := by decide +kernel
theorem dX12_bad_5 : decode cX12_bad 5 = .ok (.getfield 87, 3) := by decide +kernel
theorem dX12_bad_8 : decode cX12_bad 8 = .ok (.ifCond .ne 8, 3) := by decide +kernel
theorem dX12_bad_11 : decode cX12_bad 11 = .ok (.aload_n 0, 1) := by decide +kernel
theorem dX12_bad_12 : decode cX12_bad 12 = .ok (.iload_n 2, 1) := by decide +kernel
theorem dX12_bad_13 : decode cX12_bad 13 = .ok (.putfield 87, 3) := by decide +kernel
theorem dX12_bad_16 : decode cX12_bad 16 = .ok (.aload_n 0, 1) := by decide +kernel
theorem dX12_bad_17 : decode cX12_bad 17 = .ok (.getfield 87, 3) := by decide +kernel
theorem dX12_bad_20 : decode cX12_bad 20 = .ok (.ifCond .eq 7, 3) := by decide +kernel
theorem dX12_bad_23 : decode cX12_bad 23 = .ok (.iconst 1, 1) := by decide +kernel
theorem dX12_bad_24 : decode cX12_bad 24 = .ok (.goto 4, 3) := by decide +kernel
theorem dX12_bad_27 : decode cX12_bad 27 = .ok (.iconst 0, 1) := by decide +kernel
theorem dX12_bad_28 : decode cX12_bad 28 = .ok (.ireturn, 1) := by decide +kernel
theorem dX12_isBody_0 : decode cX12_isBody 0 = .ok (.iload_n 1, 1) := by decide +kernel
theorem dX12_isBody_1 : decode cX12_isBody 1 = .ok (.iconst 0, 1) := by decide +kernel
theorem dX12_isBody_2 : decode cX12_isBody 2 = .ok (.aload_n 0, 1) := by decide +kernel
theorem dX12_isBody_3 : decode cX12_isBody 3 = .ok (.getfield 28, 3) := by decide +kernel
theorem dX12_isBody_6 : decode cX12_isBody 6 = .ok (.iconst 0, 1) := by decide +kernel
theorem dX12_isBody_7 : decode cX12_isBody 7 = .ok (.iaload, 1) := by decide +kernel
theorem dX12_isBody_8 : decode cX12_isBody 8 = .ok (.iconst 1, 1) := by decide +kernel
theorem dX12_isBody_9 : decode cX12_isBody 9 = .ok (.isub, 1) := by decide +kernel
theorem dX12_isBody_10 : decode cX12_isBody 10 = .ok (.invokestatic 124, 3) := by decide +kernel
theorem dX12_isBody_13 : decode cX12_isBody 13 = .ok (.ireturn, 1) := by decide +kernel
theorem dX12_ones_0 : decode cX12_ones 0 = .ok (.iconst 0, 1) := by decide +kernel
theorem dX12_ones_1 : decode cX12_ones 1 = .ok (.istore_n 1, 1) := by decide +kernel
theorem dX12_ones_2 : decode cX12_ones 2 = .ok (.iconst 0, 1) := by decide +kernel
theorem dX12_ones_3 : decode cX12_ones 3 = .ok (.istore_n 2, 1) := by decide +kernel
theorem dX12_ones_4 : decode cX12_ones 4 = .ok (.iload_n 2, 1) := by decide +kernel
theorem dX12_ones_5 : decode cX12_ones 5 = .ok (.bipush 9, 2) := by decide +kernel
theorem dX12_ones_7 : decode cX12_ones 7 = .ok (.if_icmp .ge 17, 3) := by decide +kernel
theorem dX12_ones_10 : decode cX12_ones 10 = .ok (.iload_n 1, 1) := by decide +kernel
theorem dX12_ones_11 : decode cX12_ones 11 = .ok (.iload_n 0, 1) := by decide +kernel
theorem dX12_ones_12 : decode cX12_ones 12 = .ok (.iload_n 2, 1) := by decide +kernel
theorem dX12_ones_13 : decode cX12_ones 13 = .ok (.ishr, 1) := by decide +kernel
theorem dX12_ones_14 : decode cX12_ones 14 = .ok (.iconst 1, 1) := by decide +kernel
theorem dX12_ones_15 : decode cX12_ones 15 = .ok (.iand, 1) := by decide +kernel
theorem dX12_ones_16 : decode cX12_ones 16 = .ok (.iadd, 1) := by decide +kernel
theorem dX12_ones_17 : decode cX12_ones 17 = .ok (.istore_n 1, 1) := by decide +kernel
theorem dX12_ones_18 : decode cX12_ones 18 = .ok (.iinc 2 1, 3) := by decide +kernel
theorem dX12_ones_21 : decode cX12_ones 21 = .ok (.goto (-17), 3) := by decide +kernel
theorem dX12_ones_24 : decode cX12_ones 24 = .ok (.iload_n 1, 1) := by decide +kernel
theorem dX12_ones_25 : decode cX12_ones 25 = .ok (.ireturn, 1) := by decide +kernel
theorem dX12_areBodies_0 : decode cX12_areBodies 0 = .ok (.iload_n 1, 1) := by decide +kernel
theorem dX12_areBodies_1 : decode cX12_areBodies 1 = .ok (.ifCond .lt 31, 3) := by decide +kernel
theorem dX12_areBodies_4 : decode cX12_areBodies 4 = .ok (.iload_n 1, 1) := by decide +kernel
theorem dX12_areBodies_5 : decode cX12_areBodies 5 = .ok (.iconst 1, 1) := by decide +kernel
theorem dX12_areBodies_6 : decode cX12_areBodies 6 = .ok (.aload_n 0, 1) := by decide +kernel
theorem dX12_areBodies_7 : decode cX12_areBodies 7 = .ok (.getfield 28, 3) := by decide +kernel
theorem dX12_areBodies_10 : decode cX12_areBodies 10 = .ok (.iconst 0, 1) := by decide +kernel
theorem dX12_areBodies_11 : decode cX12_areBodies 11 = .ok (.iaload, 1) := by decide +kernel
theorem dX12_areBodies_12 : decode cX12_areBodies 12 = .ok (.ishl, 1) := by decide +kernel
theorem dX12_areBodies_13 : decode cX12_areBodies 13 = .ok (.if_icmp .ge 19, 3) := by decide +kernel
theorem dX12_areBodies_16 : decode cX12_areBodies 16 = .ok (.iload_n 1, 1) := by decide +kernel
theorem dX12_areBodies_17 : decode cX12_areBodies 17 = .ok (.invokestatic 292, 3) := by decide +kernel
theorem dX12_areBodies_20 : decode cX12_areBodies 20 = .ok (.iload_n 2, 1) := by decide +kernel
theorem dX12_areBodies_21 : decode cX12_areBodies 21 = .ok (.iload_n 3, 1) := by decide +kernel
theorem dX12_areBodies_22 : decode cX12_areBodies 22 = .ok (.invokestatic 124, 3) := by decide +kernel
theorem dX12_areBodies_25 : decode cX12_areBodies 25 = .ok (.ifCond .eq 7, 3) := by decide +kernel
theorem dX12_areBodies_28 : decode cX12_areBodies 28 = .ok (.iconst 1, 1) := by decide +kernel
theorem dX12_areBodies_29 : decode cX12_areBodies 29 = .ok (.goto 4, 3) := by decide +kernel
theorem dX12_areBodies_32 : decode cX12_areBodies 32 = .ok (.iconst 0, 1) := by decide +kernel
theorem dX12_areBodies_33 : decode cX12_areBodies 33 = .ok (.ireturn, 1) := by decide +kernel
theorem dX12_fault_0 : decode cX12_fault 0 = .ok (.aload_n 0, 1) := by decide +kernel
theorem dX12_fault_1 : decode cX12_fault 1 = .ok (.iconst 0, 1) := by decide +kernel
theorem dX12_fault_2 : decode cX12_fault 2 = .ok (.putfield 87, 3) := by decide +kernel
theorem dX12_fault_5 : decode cX12_fault 5 = .ok (.aload_n 0, 1) := by decide +kernel
theorem dX12_fault_6 : decode cX12_fault 6 = .ok (.getfield 9, 3) := by decide +kernel
theorem dX12_fault_9 : decode cX12_fault 9 = .ok (.ireturn, 1) := by decide +kernel
theorem dX12_told_0 : decode cX12_told 0 = .ok (.aload_n 0, 1) := by decide +kernel
theorem dX12_told_1 : decode cX12_told 1 = .ok (.iconst 0, 1) := by decide +kernel
theorem dX12_told_2 : decode cX12_told 2 = .ok (.putfield 87, 3) := by decide +kernel
theorem dX12_told_5 : decode cX12_told 5 = .ok (.aload_n 0, 1) := by decide +kernel
theorem dX12_told_6 : decode cX12_told 6 = .ok (.iload_n 1, 1) := by decide +kernel
theorem dX12_told_7 : decode cX12_told 7 = .ok (.iconst 0, 1) := by decide +kernel
theorem dX12_told_8 : decode cX12_told 8 = .ok (.iconst 4, 1) := by decide +kernel
theorem dX12_told_9 : decode cX12_told 9 = .ok (.invokestatic 124, 3) := by decide +kernel
theorem dX12_told_12 : decode cX12_told 12 = .ok (.ifCond .ne 7, 3) := by decide +kernel
theorem dX12_told_15 : decode cX12_told 15 = .ok (.iconst 1, 1) := by decide +kernel
theorem dX12_told_16 : decode cX12_told 16 = .ok (.goto 4, 3) := by decide +kernel
theorem dX12_told_19 : decode cX12_told 19 = .ok (.iconst 0, 1) := by decide +kernel
theorem dX12_told_20 : decode cX12_told 20 = .ok (.iconst 1, 1) := by decide +kernel
theorem dX12_told_21 : decode cX12_told 21 = .ok (.invokevirtual 169, 3) := by decide +kernel
theorem dX12_told_24 : decode cX12_told 24 = .ok (.ifCond .eq 5, 3) := by decide +kernel
theorem dX12_told_27 : decode cX12_told 27 = .ok (.iconst 0, 1) := by decide +kernel
theorem dX12_told_28 : decode cX12_told 28 = .ok (.ireturn, 1) := by decide +kernel
theorem dX12_told_29 : decode cX12_told 29 = .ok (.aload_n 0, 1) := by decide +kernel
theorem dX12_told_30 : decode cX12_told 30 = .ok (.getfield 28, 3) := by decide +kernel
theorem dX12_told_33 : decode cX12_told 33 = .ok (.iload_n 1, 1) := by decide +kernel
theorem dX12_told_34 : decode cX12_told 34 = .ok (.iaload, 1) := by decide +kernel
theorem dX12_told_35 : decode cX12_told 35 = .ok (.ireturn, 1) := by decide +kernel
theorem dX12_body_0 : decode cX12_body 0 = .ok (.aload_n 0, 1) := by decide +kernel
theorem dX12_body_1 : decode cX12_body 1 = .ok (.iconst 0, 1) := by decide +kernel
theorem dX12_body_2 : decode cX12_body 2 = .ok (.putfield 87, 3) := by decide +kernel
theorem dX12_body_5 : decode cX12_body 5 = .ok (.aload_n 0, 1) := by decide +kernel
theorem dX12_body_6 : decode cX12_body 6 = .ok (.aload_n 0, 1) := by decide +kernel
theorem dX12_body_7 : decode cX12_body 7 = .ok (.iload_n 1, 1) := by decide +kernel
theorem dX12_body_8 : decode cX12_body 8 = .ok (.invokevirtual 203, 3) := by decide +kernel
theorem dX12_body_11 : decode cX12_body 11 = .ok (.ifCond .ne 7, 3) := by decide +kernel
theorem dX12_body_14 : decode cX12_body 14 = .ok (.iconst 1, 1) := by decide +kernel
theorem dX12_body_15 : decode cX12_body 15 = .ok (.goto 4, 3) := by decide +kernel
theorem dX12_body_18 : decode cX12_body 18 = .ok (.iconst 0, 1) := by decide +kernel
theorem dX12_body_19 : decode cX12_body 19 = .ok (.iconst 1, 1) := by decide +kernel
theorem dX12_body_20 : decode cX12_body 20 = .ok (.invokevirtual 169, 3) := by decide +kernel
theorem dX12_body_23 : decode cX12_body 23 = .ok (.ifCond .ne 26, 3) := by decide +kernel
theorem dX12_body_26 : decode cX12_body 26 = .ok (.aload_n 0, 1) := by decide +kernel
theorem dX12_body_27 : decode cX12_body 27 = .ok (.iload_n 2, 1) := by decide +kernel
theorem dX12_body_28 : decode cX12_body 28 = .ok (.iconst 0, 1) := by decide +kernel
theorem dX12_body_29 : decode cX12_body 29 = .ok (.bipush 7, 2) := by decide +kernel
theorem dX12_body_31 : decode cX12_body 31 = .ok (.invokestatic 124, 3) := by decide +kernel
theorem dX12_body_34 : decode cX12_body 34 = .ok (.ifCond .ne 7, 3) := by decide +kernel
theorem dX12_body_37 : decode cX12_body 37 = .ok (.iconst 1, 1) := by decide +kernel
theorem dX12_body_38 : decode cX12_body 38 = .ok (.goto 4, 3) := by decide +kernel
theorem dX12_body_41 : decode cX12_body 41 = .ok (.iconst 0, 1) := by decide +kernel
theorem dX12_body_42 : decode cX12_body 42 = .ok (.iconst 2, 1) := by decide +kernel
theorem dX12_body_43 : decode cX12_body 43 = .ok (.invokevirtual 169, 3) := by decide +kernel
theorem dX12_body_46 : decode cX12_body 46 = .ok (.ifCond .eq 5, 3) := by decide +kernel
theorem dX12_body_49 : decode cX12_body 49 = .ok (.iconst 0, 1) := by decide +kernel
theorem dX12_body_50 : decode cX12_body 50 = .ok (.ireturn, 1) := by decide +kernel
theorem dX12_body_51 : decode cX12_body 51 = .ok (.aload_n 0, 1) := by decide +kernel
theorem dX12_body_52 : decode cX12_body 52 = .ok (.getfield 22, 3) := by decide +kernel
theorem dX12_body_55 : decode cX12_body 55 = .ok (.iload_n 1, 1) := by decide +kernel
theorem dX12_body_56 : decode cX12_body 56 = .ok (.aaload, 1) := by decide +kernel
theorem dX12_body_57 : decode cX12_body 57 = .ok (.iload_n 2, 1) := by decide +kernel
theorem dX12_body_58 : decode cX12_body 58 = .ok (.iaload, 1) := by decide +kernel
theorem dX12_body_59 : decode cX12_body 59 = .ok (.ireturn, 1) := by decide +kernel
theorem dX12_now_0 : decode cX12_now 0 = .ok (.aload_n 0, 1) := by decide +kernel
theorem dX12_now_1 : decode cX12_now 1 = .ok (.iconst 0, 1) := by decide +kernel
theorem dX12_now_2 : decode cX12_now 2 = .ok (.putfield 87, 3) := by decide +kernel
theorem dX12_now_5 : decode cX12_now 5 = .ok (.aload_n 0, 1) := by decide +kernel
theorem dX12_now_6 : decode cX12_now 6 = .ok (.aload_n 0, 1) := by decide +kernel
theorem dX12_now_7 : decode cX12_now 7 = .ok (.iload_n 1, 1) := by decide +kernel
theorem dX12_now_8 : decode cX12_now 8 = .ok (.invokevirtual 203, 3) := by decide +kernel
theorem dX12_now_11 : decode cX12_now 11 = .ok (.ifCond .ne 7, 3) := by decide +kernel
theorem dX12_now_14 : decode cX12_now 14 = .ok (.iconst 1, 1) := by decide +kernel
theorem dX12_now_15 : decode cX12_now 15 = .ok (.goto 4, 3) := by decide +kernel
theorem dX12_now_18 : decode cX12_now 18 = .ok (.iconst 0, 1) := by decide +kernel
theorem dX12_now_19 : decode cX12_now 19 = .ok (.iconst 1, 1) := by decide +kernel
theorem dX12_now_20 : decode cX12_now 20 = .ok (.invokevirtual 169, 3) := by decide +kernel
theorem dX12_now_23 : decode cX12_now 23 = .ok (.ifCond .ne 26, 3) := by decide +kernel
theorem dX12_now_26 : decode cX12_now 26 = .ok (.aload_n 0, 1) := by decide +kernel
theorem dX12_now_27 : decode cX12_now 27 = .ok (.iload_n 2, 1) := by decide +kernel
theorem dX12_now_28 : decode cX12_now 28 = .ok (.iconst 0, 1) := by decide +kernel
theorem dX12_now_29 : decode cX12_now 29 = .ok (.bipush 7, 2) := by decide +kernel
theorem dX12_now_31 : decode cX12_now 31 = .ok (.invokestatic 124, 3) := by decide +kernel
theorem dX12_now_34 : decode cX12_now 34 = .ok (.ifCond .ne 7, 3) := by decide +kernel
theorem dX12_now_37 : decode cX12_now 37 = .ok (.iconst 1, 1) := by decide +kernel
theorem dX12_now_38 : decode cX12_now 38 = .ok (.goto 4, 3) := by decide +kernel
theorem dX12_now_41 : decode cX12_now 41 = .ok (.iconst 0, 1) := by decide +kernel
theorem dX12_now_42 : decode cX12_now 42 = .ok (.iconst 2, 1) := by decide +kernel
theorem dX12_now_43 : decode cX12_now 43 = .ok (.invokevirtual 169, 3) := by decide +kernel
theorem dX12_now_46 : decode cX12_now 46 = .ok (.ifCond .eq 5, 3) := by decide +kernel
theorem dX12_now_49 : decode cX12_now 49 = .ok (.iconst 0, 1) := by decide +kernel
theorem dX12_now_50 : decode cX12_now 50 = .ok (.ireturn, 1) := by decide +kernel
theorem dX12_now_51 : decode cX12_now 51 = .ok (.iload_n 2, 1) := by decide +kernel
theorem dX12_now_52 : decode cX12_now 52 = .ok (.tableswitch 109 0 6 #[44, 51, 58, 64, 77, 84, 91], 44) := by decide +kernel
theorem dX12_now_96 : decode cX12_now 96 = .ok (.aload_n 0, 1) := by decide +kernel
theorem dX12_now_97 : decode cX12_now 97 = .ok (.getfield 31, 3) := by decide +kernel
theorem dX12_now_100 : decode cX12_now 100 = .ok (.iload_n 1, 1) := by decide +kernel
theorem dX12_now_101 : decode cX12_now 101 = .ok (.iaload, 1) := by decide +kernel
theorem dX12_now_102 : decode cX12_now 102 = .ok (.ireturn, 1) := by decide +kernel
theorem dX12_now_103 : decode cX12_now 103 = .ok (.aload_n 0, 1) := by decide +kernel
theorem dX12_now_104 : decode cX12_now 104 = .ok (.getfield 34, 3) := by decide +kernel
theorem dX12_now_107 : decode cX12_now 107 = .ok (.iload_n 1, 1) := by decide +kernel
theorem dX12_now_108 : decode cX12_now 108 = .ok (.iaload, 1) := by decide +kernel
theorem dX12_now_109 : decode cX12_now 109 = .ok (.ireturn, 1) := by decide +kernel
theorem dX12_now_110 : decode cX12_now 110 = .ok (.aload_n 0, 1) := by decide +kernel
theorem dX12_now_111 : decode cX12_now 111 = .ok (.iload_n 1, 1) := by decide +kernel
theorem dX12_now_112 : decode cX12_now 112 = .ok (.invokevirtual 217, 3) := by decide +kernel
theorem dX12_now_115 : decode cX12_now 115 = .ok (.ireturn, 1) := by decide +kernel
theorem dX12_now_116 : decode cX12_now 116 = .ok (.aload_n 0, 1) := by decide +kernel
theorem dX12_now_117 : decode cX12_now 117 = .ok (.iload_n 1, 1) := by decide +kernel
theorem dX12_now_118 : decode cX12_now 118 = .ok (.invokevirtual 217, 3) := by decide +kernel
theorem dX12_now_121 : decode cX12_now 121 = .ok (.aload_n 0, 1) := by decide +kernel
theorem dX12_now_122 : decode cX12_now 122 = .ok (.getfield 31, 3) := by decide +kernel
theorem dX12_now_125 : decode cX12_now 125 = .ok (.iload_n 1, 1) := by decide +kernel
theorem dX12_now_126 : decode cX12_now 126 = .ok (.iaload, 1) := by decide +kernel
theorem dX12_now_127 : decode cX12_now 127 = .ok (.isub, 1) := by decide +kernel
theorem dX12_now_128 : decode cX12_now 128 = .ok (.ireturn, 1) := by decide +kernel
theorem dX12_now_129 : decode cX12_now 129 = .ok (.aload_n 0, 1) := by decide +kernel
theorem dX12_now_130 : decode cX12_now 130 = .ok (.getfield 37, 3) := by decide +kernel
theorem dX12_now_133 : decode cX12_now 133 = .ok (.iload_n 1, 1) := by decide +kernel
theorem dX12_now_134 : decode cX12_now 134 = .ok (.iaload, 1) := by decide +kernel
theorem dX12_now_135 : decode cX12_now 135 = .ok (.ireturn, 1) := by decide +kernel
theorem dX12_now_136 : decode cX12_now 136 = .ok (.aload_n 0, 1) := by decide +kernel
theorem dX12_now_137 : decode cX12_now 137 = .ok (.getfield 40, 3) := by decide +kernel
theorem dX12_now_140 : decode cX12_now 140 = .ok (.iload_n 1, 1) := by decide +kernel
theorem dX12_now_141 : decode cX12_now 141 = .ok (.iaload, 1) := by decide +kernel
theorem dX12_now_142 : decode cX12_now 142 = .ok (.ireturn, 1) := by decide +kernel
theorem dX12_now_143 : decode cX12_now 143 = .ok (.aload_n 0, 1) := by decide +kernel
theorem dX12_now_144 : decode cX12_now 144 = .ok (.iload_n 1, 1) := by decide +kernel
theorem dX12_now_145 : decode cX12_now 145 = .ok (.aload_n 0, 1) := by decide +kernel
theorem dX12_now_146 : decode cX12_now 146 = .ok (.getfield 176, 3) := by decide +kernel
theorem dX12_now_149 : decode cX12_now 149 = .ok (.invokevirtual 213, 3) := by decide +kernel
theorem dX12_now_152 : decode cX12_now 152 = .ok (.ifCond .eq 7, 3) := by decide +kernel
theorem dX12_now_155 : decode cX12_now 155 = .ok (.iconst 1, 1) := by decide +kernel
theorem dX12_now_156 : decode cX12_now 156 = .ok (.goto 4, 3) := by decide +kernel
theorem dX12_now_159 : decode cX12_now 159 = .ok (.iconst 0, 1) := by decide +kernel
theorem dX12_now_160 : decode cX12_now 160 = .ok (.ireturn, 1) := by decide +kernel
theorem dX12_now_161 : decode cX12_now 161 = .ok (.aload_n 0, 1) := by decide +kernel
theorem dX12_now_162 : decode cX12_now 162 = .ok (.iload_n 1, 1) := by decide +kernel
theorem dX12_now_163 : decode cX12_now 163 = .ok (.invokevirtual 220, 3) := by decide +kernel
theorem dX12_now_166 : decode cX12_now 166 = .ok (.ifCond .eq 7, 3) := by decide +kernel
theorem dX12_now_169 : decode cX12_now 169 = .ok (.iconst 1, 1) := by decide +kernel
theorem dX12_now_170 : decode cX12_now 170 = .ok (.goto 4, 3) := by decide +kernel
theorem dX12_now_173 : decode cX12_now 173 = .ok (.iconst 0, 1) := by decide +kernel
theorem dX12_now_174 : decode cX12_now 174 = .ok (.ireturn, 1) := by decide +kernel
theorem dX12_costs_0 : decode cX12_costs 0 = .ok (.aload_n 0, 1) := by decide +kernel
theorem dX12_costs_1 : decode cX12_costs 1 = .ok (.iconst 0, 1) := by decide +kernel
theorem dX12_costs_2 : decode cX12_costs 2 = .ok (.putfield 87, 3) := by decide +kernel
theorem dX12_costs_5 : decode cX12_costs 5 = .ok (.aload_n 0, 1) := by decide +kernel
theorem dX12_costs_6 : decode cX12_costs 6 = .ok (.aload_n 0, 1) := by decide +kernel
theorem dX12_costs_7 : decode cX12_costs 7 = .ok (.iload_n 1, 1) := by decide +kernel
theorem dX12_costs_8 : decode cX12_costs 8 = .ok (.invokevirtual 203, 3) := by decide +kernel
theorem dX12_costs_11 : decode cX12_costs 11 = .ok (.ifCond .eq 11, 3) := by decide +kernel
theorem dX12_costs_14 : decode cX12_costs 14 = .ok (.aload_n 0, 1) := by decide +kernel
theorem dX12_costs_15 : decode cX12_costs 15 = .ok (.iload_n 2, 1) := by decide +kernel
theorem dX12_costs_16 : decode cX12_costs 16 = .ok (.invokevirtual 203, 3) := by decide +kernel
theorem dX12_costs_19 : decode cX12_costs 19 = .ok (.ifCond .ne 7, 3) := by decide +kernel
theorem dX12_costs_22 : decode cX12_costs 22 = .ok (.iconst 1, 1) := by decide +kernel
theorem dX12_costs_23 : decode cX12_costs 23 = .ok (.goto 4, 3) := by decide +kernel
theorem dX12_costs_26 : decode cX12_costs 26 = .ok (.iconst 0, 1) := by decide +kernel
theorem dX12_costs_27 : decode cX12_costs 27 = .ok (.iconst 1, 1) := by decide +kernel
theorem dX12_costs_28 : decode cX12_costs 28 = .ok (.invokevirtual 169, 3) := by decide +kernel
theorem dX12_costs_31 : decode cX12_costs 31 = .ok (.ifCond .eq 5, 3) := by decide +kernel
theorem dX12_costs_34 : decode cX12_costs 34 = .ok (.iconst 0, 1) := by decide +kernel
theorem dX12_costs_35 : decode cX12_costs 35 = .ok (.ireturn, 1) := by decide +kernel
theorem dX12_costs_36 : decode cX12_costs 36 = .ok (.aload_n 0, 1) := by decide +kernel
theorem dX12_costs_37 : decode cX12_costs 37 = .ok (.iload_n 1, 1) := by decide +kernel
theorem dX12_costs_38 : decode cX12_costs 38 = .ok (.iload_n 2, 1) := by decide +kernel
theorem dX12_costs_39 : decode cX12_costs 39 = .ok (.invokevirtual 226, 3) := by decide +kernel
theorem dX12_costs_42 : decode cX12_costs 42 = .ok (.ireturn, 1) := by decide +kernel
theorem dX12_pass_0 : decode cX12_pass 0 = .ok (.aload_n 0, 1) := by decide +kernel
theorem dX12_pass_1 : decode cX12_pass 1 = .ok (.iconst 0, 1) := by decide +kernel
theorem dX12_pass_2 : decode cX12_pass 2 = .ok (.putfield 87, 3) := by decide +kernel
theorem dX12_pass_5 : decode cX12_pass 5 = .ok (.aload_n 0, 1) := by decide +kernel
theorem dX12_pass_6 : decode cX12_pass 6 = .ok (.aload_n 0, 1) := by decide +kernel
theorem dX12_pass_7 : decode cX12_pass 7 = .ok (.iload_n 1, 1) := by decide +kernel
theorem dX12_pass_8 : decode cX12_pass 8 = .ok (.invokevirtual 203, 3) := by decide +kernel
theorem dX12_pass_11 : decode cX12_pass 11 = .ok (.ifCond .ne 7, 3) := by decide +kernel
theorem dX12_pass_14 : decode cX12_pass 14 = .ok (.iconst 1, 1) := by decide +kernel
theorem dX12_pass_15 : decode cX12_pass 15 = .ok (.goto 4, 3) := by decide +kernel
theorem dX12_pass_18 : decode cX12_pass 18 = .ok (.iconst 0, 1) := by decide +kernel
theorem dX12_pass_19 : decode cX12_pass 19 = .ok (.iconst 1, 1) := by decide +kernel
theorem dX12_pass_20 : decode cX12_pass 20 = .ok (.invokevirtual 169, 3) := by decide +kernel
theorem dX12_pass_23 : decode cX12_pass 23 = .ok (.ifCond .eq 5, 3) := by decide +kernel
theorem dX12_pass_26 : decode cX12_pass 26 = .ok (.iconst 0, 1) := by decide +kernel
theorem dX12_pass_27 : decode cX12_pass 27 = .ok (.ireturn, 1) := by decide +kernel
theorem dX12_pass_28 : decode cX12_pass 28 = .ok (.aload_n 0, 1) := by decide +kernel
theorem dX12_pass_29 : decode cX12_pass 29 = .ok (.getfield 182, 3) := by decide +kernel
theorem dX12_pass_32 : decode cX12_pass 32 = .ok (.ifCond .le 5, 3) := by decide +kernel
theorem dX12_pass_35 : decode cX12_pass 35 = .ok (.iconst (-1), 1) := by decide +kernel
theorem dX12_pass_36 : decode cX12_pass 36 = .ok (.ireturn, 1) := by decide +kernel
theorem dX12_pass_37 : decode cX12_pass 37 = .ok (.aload_n 0, 1) := by decide +kernel
theorem dX12_pass_38 : decode cX12_pass 38 = .ok (.getfield 179, 3) := by decide +kernel
theorem dX12_pass_41 : decode cX12_pass 41 = .ok (.iload_n 1, 1) := by decide +kernel
theorem dX12_pass_42 : decode cX12_pass 42 = .ok (.if_icmp .ne 6, 3) := by decide +kernel
theorem dX12_pass_45 : decode cX12_pass 45 = .ok (.bipush (-2), 2) := by decide +kernel
theorem dX12_pass_47 : decode cX12_pass 47 = .ok (.ireturn, 1) := by decide +kernel
theorem dX12_pass_48 : decode cX12_pass 48 = .ok (.aload_n 0, 1) := by decide +kernel
theorem dX12_pass_49 : decode cX12_pass 49 = .ok (.iload_n 1, 1) := by decide +kernel
theorem dX12_pass_50 : decode cX12_pass 50 = .ok (.invokevirtual 229, 3) := by decide +kernel
theorem dX12_pass_53 : decode cX12_pass 53 = .ok (.aload_n 0, 1) := by decide +kernel
theorem dX12_pass_54 : decode cX12_pass 54 = .ok (.dup, 1) := by decide +kernel
theorem dX12_pass_55 : decode cX12_pass 55 = .ok (.getfield 191, 3) := by decide +kernel
theorem dX12_pass_58 : decode cX12_pass 58 = .ok (.iconst 1, 1) := by decide +kernel
theorem dX12_pass_59 : decode cX12_pass 59 = .ok (.iadd, 1) := by decide +kernel
theorem dX12_pass_60 : decode cX12_pass 60 = .ok (.putfield 191, 3) := by decide +kernel
theorem dX12_pass_63 : decode cX12_pass 63 = .ok (.aload_n 0, 1) := by decide +kernel
theorem dX12_pass_64 : decode cX12_pass 64 = .ok (.getfield 182, 3) := by decide +kernel
theorem dX12_pass_67 : decode cX12_pass 67 = .ok (.ireturn, 1) := by decide +kernel
theorem dX12_bed_0 : decode cX12_bed 0 = .ok (.aload_n 0, 1) := by decide +kernel
theorem dX12_bed_1 : decode cX12_bed 1 = .ok (.iconst 0, 1) := by decide +kernel
theorem dX12_bed_2 : decode cX12_bed 2 = .ok (.putfield 87, 3) := by decide +kernel
theorem dX12_bed_5 : decode cX12_bed 5 = .ok (.aload_n 0, 1) := by decide +kernel
theorem dX12_bed_6 : decode cX12_bed 6 = .ok (.aload_n 0, 1) := by decide +kernel
theorem dX12_bed_7 : decode cX12_bed 7 = .ok (.iload_n 1, 1) := by decide +kernel
theorem dX12_bed_8 : decode cX12_bed 8 = .ok (.invokevirtual 203, 3) := by decide +kernel
theorem dX12_bed_11 : decode cX12_bed 11 = .ok (.ifCond .ne 7, 3) := by decide +kernel
theorem dX12_bed_14 : decode cX12_bed 14 = .ok (.iconst 1, 1) := by decide +kernel
theorem dX12_bed_15 : decode cX12_bed 15 = .ok (.goto 4, 3) := by decide +kernel
theorem dX12_bed_18 : decode cX12_bed 18 = .ok (.iconst 0, 1) := by decide +kernel
theorem dX12_bed_19 : decode cX12_bed 19 = .ok (.iconst 1, 1) := by decide +kernel
theorem dX12_bed_20 : decode cX12_bed 20 = .ok (.invokevirtual 169, 3) := by decide +kernel
theorem dX12_bed_23 : decode cX12_bed 23 = .ok (.ifCond .eq 5, 3) := by decide +kernel
theorem dX12_bed_26 : decode cX12_bed 26 = .ok (.iconst 0, 1) := by decide +kernel
theorem dX12_bed_27 : decode cX12_bed 27 = .ok (.ireturn, 1) := by decide +kernel
theorem dX12_bed_28 : decode cX12_bed 28 = .ok (.aload_n 0, 1) := by decide +kernel
theorem dX12_bed_29 : decode cX12_bed 29 = .ok (.getfield 40, 3) := by decide +kernel
theorem dX12_bed_32 : decode cX12_bed 32 = .ok (.iload_n 1, 1) := by decide +kernel
theorem dX12_bed_33 : decode cX12_bed 33 = .ok (.iaload, 1) := by decide +kernel
theorem dX12_bed_34 : decode cX12_bed 34 = .ok (.iconst 1, 1) := by decide +kernel
theorem dX12_bed_35 : decode cX12_bed 35 = .ok (.if_icmp .ne 7, 3) := by decide +kernel
theorem dX12_bed_38 : decode cX12_bed 38 = .ok (.iconst 1, 1) := by decide +kernel
theorem dX12_bed_39 : decode cX12_bed 39 = .ok (.goto 4, 3) := by decide +kernel
theorem dX12_bed_42 : decode cX12_bed 42 = .ok (.iconst 0, 1) := by decide +kernel
theorem dX12_bed_43 : decode cX12_bed 43 = .ok (.istore_n 3, 1) := by decide +kernel
theorem dX12_bed_44 : decode cX12_bed 44 = .ok (.aload_n 0, 1) := by decide +kernel
theorem dX12_bed_45 : decode cX12_bed 45 = .ok (.getfield 31, 3) := by decide +kernel
theorem dX12_bed_48 : decode cX12_bed 48 = .ok (.iload_n 1, 1) := by decide +kernel
theorem dX12_bed_49 : decode cX12_bed 49 = .ok (.iconst 0, 1) := by decide +kernel
theorem dX12_bed_50 : decode cX12_bed 50 = .ok (.iastore, 1) := by decide +kernel
theorem dX12_bed_51 : decode cX12_bed 51 = .ok (.aload_n 0, 1) := by decide +kernel
theorem dX12_bed_52 : decode cX12_bed 52 = .ok (.getfield 40, 3) := by decide +kernel
theorem dX12_bed_55 : decode cX12_bed 55 = .ok (.iload_n 1, 1) := by decide +kernel
theorem dX12_bed_56 : decode cX12_bed 56 = .ok (.iload_n 2, 1) := by decide +kernel
theorem dX12_bed_57 : decode cX12_bed 57 = .ok (.ifCond .eq 7, 3) := by decide +kernel
theorem dX12_bed_60 : decode cX12_bed 60 = .ok (.iconst 1, 1) := by decide +kernel
theorem dX12_bed_61 : decode cX12_bed 61 = .ok (.goto 4, 3) := by decide +kernel
theorem dX12_bed_64 : decode cX12_bed 64 = .ok (.iconst 0, 1) := by decide +kernel
theorem dX12_bed_65 : decode cX12_bed 65 = .ok (.iastore, 1) := by decide +kernel
theorem dX12_bed_66 : decode cX12_bed 66 = .ok (.iload_n 3, 1) := by decide +kernel
theorem dX12_bed_67 : decode cX12_bed 67 = .ok (.ireturn, 1) := by decide +kernel
theorem dX12_passing_0 : decode cX12_passing 0 = .ok (.aload_n 0, 1) := by decide +kernel
theorem dX12_passing_1 : decode cX12_passing 1 = .ok (.iconst 0, 1) := by decide +kernel
theorem dX12_passing_2 : decode cX12_passing 2 = .ok (.putfield 87, 3) := by decide +kernel
theorem dX12_passing_5 : decode cX12_passing 5 = .ok (.aload_n 0, 1) := by decide +kernel
theorem dX12_passing_6 : decode cX12_passing 6 = .ok (.aload_n 0, 1) := by decide +kernel
theorem dX12_passing_7 : decode cX12_passing 7 = .ok (.iload_n 2, 1) := by decide +kernel
theorem dX12_passing_8 : decode cX12_passing 8 = .ok (.invokevirtual 203, 3) := by decide +kernel
theorem dX12_passing_11 : decode cX12_passing 11 = .ok (.ifCond .ne 7, 3) := by decide +kernel
theorem dX12_passing_14 : decode cX12_passing 14 = .ok (.iconst 1, 1) := by decide +kernel
theorem dX12_passing_15 : decode cX12_passing 15 = .ok (.goto 4, 3) := by decide +kernel
theorem dX12_passing_18 : decode cX12_passing 18 = .ok (.iconst 0, 1) := by decide +kernel
theorem dX12_passing_19 : decode cX12_passing 19 = .ok (.iconst 1, 1) := by decide +kernel
theorem dX12_passing_20 : decode cX12_passing 20 = .ok (.invokevirtual 169, 3) := by decide +kernel
theorem dX12_passing_23 : decode cX12_passing 23 = .ok (.ifCond .ne 27, 3) := by decide +kernel
theorem dX12_passing_26 : decode cX12_passing 26 = .ok (.aload_n 0, 1) := by decide +kernel
theorem dX12_passing_27 : decode cX12_passing 27 = .ok (.iload_n 1, 1) := by decide +kernel
theorem dX12_passing_28 : decode cX12_passing 28 = .ok (.iconst 0, 1) := by decide +kernel
theorem dX12_passing_29 : decode cX12_passing 29 = .ok (.sipush 479, 3) := by decide +kernel
theorem dX12_passing_32 : decode cX12_passing 32 = .ok (.invokestatic 124, 3) := by decide +kernel
theorem dX12_passing_35 : decode cX12_passing 35 = .ok (.ifCond .ne 7, 3) := by decide +kernel
theorem dX12_passing_38 : decode cX12_passing 38 = .ok (.iconst 1, 1) := by decide +kernel
theorem dX12_passing_39 : decode cX12_passing 39 = .ok (.goto 4, 3) := by decide +kernel
theorem dX12_passing_42 : decode cX12_passing 42 = .ok (.iconst 0, 1) := by decide +kernel
theorem dX12_passing_43 : decode cX12_passing 43 = .ok (.iconst 2, 1) := by decide +kernel
theorem dX12_passing_44 : decode cX12_passing 44 = .ok (.invokevirtual 169, 3) := by decide +kernel
theorem dX12_passing_47 : decode cX12_passing 47 = .ok (.ifCond .eq 5, 3) := by decide +kernel
theorem dX12_passing_50 : decode cX12_passing 50 = .ok (.iconst 0, 1) := by decide +kernel
theorem dX12_passing_51 : decode cX12_passing 51 = .ok (.ireturn, 1) := by decide +kernel
theorem dX12_passing_52 : decode cX12_passing 52 = .ok (.aload_n 0, 1) := by decide +kernel
theorem dX12_passing_53 : decode cX12_passing 53 = .ok (.getfield 194, 3) := by decide +kernel
theorem dX12_passing_56 : decode cX12_passing 56 = .ok (.bipush 30, 2) := by decide +kernel
theorem dX12_passing_58 : decode cX12_passing 58 = .ok (.if_icmp .ne 5, 3) := by decide +kernel
theorem dX12_passing_61 : decode cX12_passing 61 = .ok (.iconst (-1), 1) := by decide +kernel
theorem dX12_passing_62 : decode cX12_passing 62 = .ok (.ireturn, 1) := by decide +kernel
theorem dX12_passing_63 : decode cX12_passing 63 = .ok (.aload_n 0, 1) := by decide +kernel
theorem dX12_passing_64 : decode cX12_passing 64 = .ok (.getfield 43, 3) := by decide +kernel
theorem dX12_passing_67 : decode cX12_passing 67 = .ok (.aload_n 0, 1) := by decide +kernel
theorem dX12_passing_68 : decode cX12_passing 68 = .ok (.getfield 194, 3) := by decide +kernel
theorem dX12_passing_71 : decode cX12_passing 71 = .ok (.aaload, 1) := by decide +kernel
theorem dX12_passing_72 : decode cX12_passing 72 = .ok (.iconst 0, 1) := by decide +kernel
theorem dX12_passing_73 : decode cX12_passing 73 = .ok (.iload_n 1, 1) := by decide +kernel
theorem dX12_passing_74 : decode cX12_passing 74 = .ok (.iastore, 1) := by decide +kernel
theorem dX12_passing_75 : decode cX12_passing 75 = .ok (.aload_n 0, 1) := by decide +kernel
theorem dX12_passing_76 : decode cX12_passing 76 = .ok (.getfield 43, 3) := by decide +kernel
theorem dX12_passing_79 : decode cX12_passing 79 = .ok (.aload_n 0, 1) := by decide +kernel
theorem dX12_passing_80 : decode cX12_passing 80 = .ok (.getfield 194, 3) := by decide +kernel
theorem dX12_passing_83 : decode cX12_passing 83 = .ok (.aaload, 1) := by decide +kernel
theorem dX12_passing_84 : decode cX12_passing 84 = .ok (.iconst 1, 1) := by decide +kernel
theorem dX12_passing_85 : decode cX12_passing 85 = .ok (.iload_n 2, 1) := by decide +kernel
theorem dX12_passing_86 : decode cX12_passing 86 = .ok (.iastore, 1) := by decide +kernel
theorem dX12_passing_87 : decode cX12_passing 87 = .ok (.aload_n 0, 1) := by decide +kernel
theorem dX12_passing_88 : decode cX12_passing 88 = .ok (.dup, 1) := by decide +kernel
theorem dX12_passing_89 : decode cX12_passing 89 = .ok (.getfield 194, 3) := by decide +kernel
theorem dX12_passing_92 : decode cX12_passing 92 = .ok (.iconst 1, 1) := by decide +kernel
theorem dX12_passing_93 : decode cX12_passing 93 = .ok (.iadd, 1) := by decide +kernel
theorem dX12_passing_94 : decode cX12_passing 94 = .ok (.putfield 194, 3) := by decide +kernel
theorem dX12_passing_97 : decode cX12_passing 97 = .ok (.aload_n 0, 1) := by decide +kernel
theorem dX12_passing_98 : decode cX12_passing 98 = .ok (.getfield 194, 3) := by decide +kernel
theorem dX12_passing_101 : decode cX12_passing 101 = .ok (.ireturn, 1) := by decide +kernel
theorem dX12_taught_0 : decode cX12_taught 0 = .ok (.aload_n 0, 1) := by decide +kernel
theorem dX12_taught_1 : decode cX12_taught 1 = .ok (.iconst 0, 1) := by decide +kernel
theorem dX12_taught_2 : decode cX12_taught 2 = .ok (.putfield 87, 3) := by decide +kernel
theorem dX12_taught_5 : decode cX12_taught 5 = .ok (.aload_n 0, 1) := by decide +kernel
theorem dX12_taught_6 : decode cX12_taught 6 = .ok (.aload_n 0, 1) := by decide +kernel
theorem dX12_taught_7 : decode cX12_taught 7 = .ok (.iload_n 1, 1) := by decide +kernel
theorem dX12_taught_8 : decode cX12_taught 8 = .ok (.invokevirtual 203, 3) := by decide +kernel
theorem dX12_taught_11 : decode cX12_taught 11 = .ok (.ifCond .ne 7, 3) := by decide +kernel
theorem dX12_taught_14 : decode cX12_taught 14 = .ok (.iconst 1, 1) := by decide +kernel
theorem dX12_taught_15 : decode cX12_taught 15 = .ok (.goto 4, 3) := by decide +kernel
theorem dX12_taught_18 : decode cX12_taught 18 = .ok (.iconst 0, 1) := by decide +kernel
theorem dX12_taught_19 : decode cX12_taught 19 = .ok (.iconst 1, 1) := by decide +kernel
theorem dX12_taught_20 : decode cX12_taught 20 = .ok (.invokevirtual 169, 3) := by decide +kernel
theorem dX12_taught_23 : decode cX12_taught 23 = .ok (.ifCond .ne 53, 3) := by decide +kernel
theorem dX12_taught_26 : decode cX12_taught 26 = .ok (.aload_n 0, 1) := by decide +kernel
theorem dX12_taught_27 : decode cX12_taught 27 = .ok (.iload_n 2, 1) := by decide +kernel
theorem dX12_taught_28 : decode cX12_taught 28 = .ok (.iconst 1, 1) := by decide +kernel
theorem dX12_taught_29 : decode cX12_taught 29 = .ok (.sipush 239, 3) := by decide +kernel
theorem dX12_taught_32 : decode cX12_taught 32 = .ok (.invokestatic 124, 3) := by decide +kernel
theorem dX12_taught_35 : decode cX12_taught 35 = .ok (.ifCond .eq 29, 3) := by decide +kernel
theorem dX12_taught_38 : decode cX12_taught 38 = .ok (.iload_n 3, 1) := by decide +kernel
theorem dX12_taught_39 : decode cX12_taught 39 = .ok (.iconst 0, 1) := by decide +kernel
theorem dX12_taught_40 : decode cX12_taught 40 = .ok (.iconst 4, 1) := by decide +kernel
theorem dX12_taught_41 : decode cX12_taught 41 = .ok (.invokestatic 124, 3) := by decide +kernel
theorem dX12_taught_44 : decode cX12_taught 44 = .ok (.ifCond .eq 20, 3) := by decide +kernel
theorem dX12_taught_47 : decode cX12_taught 47 = .ok (.iload 4, 2) := by decide +kernel
theorem dX12_taught_49 : decode cX12_taught 49 = .ok (.invokestatic 276, 3) := by decide +kernel
theorem dX12_taught_52 : decode cX12_taught 52 = .ok (.ifCond .eq 12, 3) := by decide +kernel
theorem dX12_taught_55 : decode cX12_taught 55 = .ok (.aload_n 0, 1) := by decide +kernel
theorem dX12_taught_56 : decode cX12_taught 56 = .ok (.iload_n 1, 1) := by decide +kernel
theorem dX12_taught_57 : decode cX12_taught 57 = .ok (.iload_n 2, 1) := by decide +kernel
theorem dX12_taught_58 : decode cX12_taught 58 = .ok (.invokevirtual 282, 3) := by decide +kernel
theorem dX12_taught_61 : decode cX12_taught 61 = .ok (.ifCond .ne 7, 3) := by decide +kernel
theorem dX12_taught_64 : decode cX12_taught 64 = .ok (.iconst 1, 1) := by decide +kernel
theorem dX12_taught_65 : decode cX12_taught 65 = .ok (.goto 4, 3) := by decide +kernel
theorem dX12_taught_68 : decode cX12_taught 68 = .ok (.iconst 0, 1) := by decide +kernel
theorem dX12_taught_69 : decode cX12_taught 69 = .ok (.iconst 2, 1) := by decide +kernel
theorem dX12_taught_70 : decode cX12_taught 70 = .ok (.invokevirtual 169, 3) := by decide +kernel
theorem dX12_taught_73 : decode cX12_taught 73 = .ok (.ifCond .eq 5, 3) := by decide +kernel
theorem dX12_taught_76 : decode cX12_taught 76 = .ok (.iconst 0, 1) := by decide +kernel
theorem dX12_taught_77 : decode cX12_taught 77 = .ok (.ireturn, 1) := by decide +kernel
theorem dX12_taught_78 : decode cX12_taught 78 = .ok (.aload_n 0, 1) := by decide +kernel
theorem dX12_taught_79 : decode cX12_taught 79 = .ok (.iload_n 1, 1) := by decide +kernel
theorem dX12_taught_80 : decode cX12_taught 80 = .ok (.iload_n 2, 1) := by decide +kernel
theorem dX12_taught_81 : decode cX12_taught 81 = .ok (.iload_n 3, 1) := by decide +kernel
theorem dX12_taught_82 : decode cX12_taught 82 = .ok (.iload 4, 2) := by decide +kernel
theorem dX12_taught_84 : decode cX12_taught 84 = .ok (.invokevirtual 285, 3) := by decide +kernel
theorem dX12_taught_87 : decode cX12_taught 87 = .ok (.ireturn, 1) := by decide +kernel
theorem dX12_trust_0 : decode cX12_trust 0 = .ok (.aload_n 0, 1) := by decide +kernel
theorem dX12_trust_1 : decode cX12_trust 1 = .ok (.iconst 0, 1) := by decide +kernel
theorem dX12_trust_2 : decode cX12_trust 2 = .ok (.putfield 87, 3) := by decide +kernel
theorem dX12_trust_5 : decode cX12_trust 5 = .ok (.aload_n 0, 1) := by decide +kernel
theorem dX12_trust_6 : decode cX12_trust 6 = .ok (.aload_n 0, 1) := by decide +kernel
theorem dX12_trust_7 : decode cX12_trust 7 = .ok (.iload_n 1, 1) := by decide +kernel
theorem dX12_trust_8 : decode cX12_trust 8 = .ok (.invokevirtual 203, 3) := by decide +kernel
theorem dX12_trust_11 : decode cX12_trust 11 = .ok (.ifCond .ne 7, 3) := by decide +kernel
theorem dX12_trust_14 : decode cX12_trust 14 = .ok (.iconst 1, 1) := by decide +kernel
theorem dX12_trust_15 : decode cX12_trust 15 = .ok (.goto 4, 3) := by decide +kernel
theorem dX12_trust_18 : decode cX12_trust 18 = .ok (.iconst 0, 1) := by decide +kernel
theorem dX12_trust_19 : decode cX12_trust 19 = .ok (.iconst 1, 1) := by decide +kernel
theorem dX12_trust_20 : decode cX12_trust 20 = .ok (.invokevirtual 169, 3) := by decide +kernel
theorem dX12_trust_23 : decode cX12_trust 23 = .ok (.ifCond .ne 26, 3) := by decide +kernel
theorem dX12_trust_26 : decode cX12_trust 26 = .ok (.aload_n 0, 1) := by decide +kernel
theorem dX12_trust_27 : decode cX12_trust 27 = .ok (.iload_n 2, 1) := by decide +kernel
theorem dX12_trust_28 : decode cX12_trust 28 = .ok (.iconst 1, 1) := by decide +kernel
theorem dX12_trust_29 : decode cX12_trust 29 = .ok (.bipush 20, 2) := by decide +kernel
theorem dX12_trust_31 : decode cX12_trust 31 = .ok (.invokestatic 124, 3) := by decide +kernel
theorem dX12_trust_34 : decode cX12_trust 34 = .ok (.ifCond .ne 7, 3) := by decide +kernel
theorem dX12_trust_37 : decode cX12_trust 37 = .ok (.iconst 1, 1) := by decide +kernel
theorem dX12_trust_38 : decode cX12_trust 38 = .ok (.goto 4, 3) := by decide +kernel
theorem dX12_trust_41 : decode cX12_trust 41 = .ok (.iconst 0, 1) := by decide +kernel
theorem dX12_trust_42 : decode cX12_trust 42 = .ok (.iconst 2, 1) := by decide +kernel
theorem dX12_trust_43 : decode cX12_trust 43 = .ok (.invokevirtual 169, 3) := by decide +kernel
theorem dX12_trust_46 : decode cX12_trust 46 = .ok (.ifCond .eq 5, 3) := by decide +kernel
theorem dX12_trust_49 : decode cX12_trust 49 = .ok (.iconst 0, 1) := by decide +kernel
theorem dX12_trust_50 : decode cX12_trust 50 = .ok (.ireturn, 1) := by decide +kernel
theorem dX12_trust_51 : decode cX12_trust 51 = .ok (.aload_n 0, 1) := by decide +kernel
theorem dX12_trust_52 : decode cX12_trust 52 = .ok (.iload_n 1, 1) := by decide +kernel
theorem dX12_trust_53 : decode cX12_trust 53 = .ok (.iload_n 2, 1) := by decide +kernel
theorem dX12_trust_54 : decode cX12_trust 54 = .ok (.invokevirtual 289, 3) := by decide +kernel
theorem dX12_trust_57 : decode cX12_trust 57 = .ok (.ireturn, 1) := by decide +kernel
theorem dX12_answer_0 : decode cX12_answer 0 = .ok (.aload_n 0, 1) := by decide +kernel
theorem dX12_answer_1 : decode cX12_answer 1 = .ok (.iconst 0, 1) := by decide +kernel
theorem dX12_answer_2 : decode cX12_answer 2 = .ok (.putfield 87, 3) := by decide +kernel
theorem dX12_answer_5 : decode cX12_answer 5 = .ok (.aload_n 0, 1) := by decide +kernel
theorem dX12_answer_6 : decode cX12_answer 6 = .ok (.aload_n 0, 1) := by decide +kernel
theorem dX12_answer_7 : decode cX12_answer 7 = .ok (.iload_n 1, 1) := by decide +kernel
theorem dX12_answer_8 : decode cX12_answer 8 = .ok (.invokevirtual 203, 3) := by decide +kernel
theorem dX12_answer_11 : decode cX12_answer 11 = .ok (.ifCond .ne 7, 3) := by decide +kernel
theorem dX12_answer_14 : decode cX12_answer 14 = .ok (.iconst 1, 1) := by decide +kernel
theorem dX12_answer_15 : decode cX12_answer 15 = .ok (.goto 4, 3) := by decide +kernel
theorem dX12_answer_18 : decode cX12_answer 18 = .ok (.iconst 0, 1) := by decide +kernel
theorem dX12_answer_19 : decode cX12_answer 19 = .ok (.iconst 1, 1) := by decide +kernel
theorem dX12_answer_20 : decode cX12_answer 20 = .ok (.invokevirtual 169, 3) := by decide +kernel
theorem dX12_answer_23 : decode cX12_answer 23 = .ok (.ifCond .ne 48, 3) := by decide +kernel
theorem dX12_answer_26 : decode cX12_answer 26 = .ok (.aload_n 0, 1) := by decide +kernel
theorem dX12_answer_27 : decode cX12_answer 27 = .ok (.iload_n 2, 1) := by decide +kernel
theorem dX12_answer_28 : decode cX12_answer 28 = .ok (.iconst 1, 1) := by decide +kernel
theorem dX12_answer_29 : decode cX12_answer 29 = .ok (.bipush 20, 2) := by decide +kernel
theorem dX12_answer_31 : decode cX12_answer 31 = .ok (.invokestatic 124, 3) := by decide +kernel
theorem dX12_answer_34 : decode cX12_answer 34 = .ok (.ifCond .eq 25, 3) := by decide +kernel
theorem dX12_answer_37 : decode cX12_answer 37 = .ok (.iload_n 3, 1) := by decide +kernel
theorem dX12_answer_38 : decode cX12_answer 38 = .ok (.iconst 1, 1) := by decide +kernel
theorem dX12_answer_39 : decode cX12_answer 39 = .ok (.bipush 60, 2) := by decide +kernel
theorem dX12_answer_41 : decode cX12_answer 41 = .ok (.invokestatic 124, 3) := by decide +kernel
theorem dX12_answer_44 : decode cX12_answer 44 = .ok (.ifCond .eq 15, 3) := by decide +kernel
theorem dX12_answer_47 : decode cX12_answer 47 = .ok (.iload 4, 2) := by decide +kernel
theorem dX12_answer_49 : decode cX12_answer 49 = .ok (.iconst 0, 1) := by decide +kernel
theorem dX12_answer_50 : decode cX12_answer 50 = .ok (.sipush 9999, 3) := by decide +kernel
theorem dX12_answer_53 : decode cX12_answer 53 = .ok (.invokestatic 124, 3) := by decide +kernel
theorem dX12_answer_56 : decode cX12_answer 56 = .ok (.ifCond .ne 7, 3) := by decide +kernel
theorem dX12_answer_59 : decode cX12_answer 59 = .ok (.iconst 1, 1) := by decide +kernel
theorem dX12_answer_60 : decode cX12_answer 60 = .ok (.goto 4, 3) := by decide +kernel
theorem dX12_answer_63 : decode cX12_answer 63 = .ok (.iconst 0, 1) := by decide +kernel
theorem dX12_answer_64 : decode cX12_answer 64 = .ok (.iconst 2, 1) := by decide +kernel
theorem dX12_answer_65 : decode cX12_answer 65 = .ok (.invokevirtual 169, 3) := by decide +kernel
theorem dX12_answer_68 : decode cX12_answer 68 = .ok (.ifCond .eq 5, 3) := by decide +kernel
theorem dX12_answer_71 : decode cX12_answer 71 = .ok (.iconst 0, 1) := by decide +kernel
theorem dX12_answer_72 : decode cX12_answer 72 = .ok (.ireturn, 1) := by decide +kernel
theorem dX12_answer_73 : decode cX12_answer 73 = .ok (.aload_n 0, 1) := by decide +kernel
theorem dX12_answer_74 : decode cX12_answer 74 = .ok (.iload_n 1, 1) := by decide +kernel
theorem dX12_answer_75 : decode cX12_answer 75 = .ok (.iload_n 2, 1) := by decide +kernel
theorem dX12_answer_76 : decode cX12_answer 76 = .ok (.invokevirtual 289, 3) := by decide +kernel
theorem dX12_answer_79 : decode cX12_answer 79 = .ok (.aload_n 0, 1) := by decide +kernel
theorem dX12_answer_80 : decode cX12_answer 80 = .ok (.getfield 22, 3) := by decide +kernel
theorem dX12_answer_83 : decode cX12_answer 83 = .ok (.iload_n 1, 1) := by decide +kernel
theorem dX12_answer_84 : decode cX12_answer 84 = .ok (.aaload, 1) := by decide +kernel
theorem dX12_answer_85 : decode cX12_answer 85 = .ok (.iconst 4, 1) := by decide +kernel
theorem dX12_answer_86 : decode cX12_answer 86 = .ok (.iaload, 1) := by decide +kernel
theorem dX12_answer_87 : decode cX12_answer 87 = .ok (.imul, 1) := by decide +kernel
theorem dX12_answer_88 : decode cX12_answer 88 = .ok (.iload_n 3, 1) := by decide +kernel
theorem dX12_answer_89 : decode cX12_answer 89 = .ok (.imul, 1) := by decide +kernel
theorem dX12_answer_90 : decode cX12_answer 90 = .ok (.sipush 1000, 3) := by decide +kernel
theorem dX12_answer_93 : decode cX12_answer 93 = .ok (.iload 4, 2) := by decide +kernel
theorem dX12_answer_95 : decode cX12_answer 95 = .ok (.imul, 1) := by decide +kernel
theorem dX12_answer_96 : decode cX12_answer 96 = .ok (.if_icmp .le 17, 3) := by decide +kernel
theorem dX12_answer_99 : decode cX12_answer 99 = .ok (.aload_n 0, 1) := by decide +kernel
theorem dX12_answer_100 : decode cX12_answer 100 = .ok (.iload_n 1, 1) := by decide +kernel
theorem dX12_answer_101 : decode cX12_answer 101 = .ok (.iload_n 2, 1) := by decide +kernel
theorem dX12_answer_102 : decode cX12_answer 102 = .ok (.invokevirtual 289, 3) := by decide +kernel
theorem dX12_answer_105 : decode cX12_answer 105 = .ok (.iconst (-1), 1) := by decide +kernel
theorem dX12_answer_106 : decode cX12_answer 106 = .ok (.if_icmp .eq 7, 3) := by decide +kernel
theorem dX12_answer_109 : decode cX12_answer 109 = .ok (.iconst 1, 1) := by decide +kernel
theorem dX12_answer_110 : decode cX12_answer 110 = .ok (.goto 4, 3) := by decide +kernel
theorem dX12_answer_113 : decode cX12_answer 113 = .ok (.iconst 0, 1) := by decide +kernel
theorem dX12_answer_114 : decode cX12_answer 114 = .ok (.ireturn, 1) := by decide +kernel
theorem dX12_stay_0 : decode cX12_stay 0 = .ok (.aload_n 0, 1) := by decide +kernel
theorem dX12_stay_1 : decode cX12_stay 1 = .ok (.iconst 0, 1) := by decide +kernel
theorem dX12_stay_2 : decode cX12_stay 2 = .ok (.putfield 87, 3) := by decide +kernel
theorem dX12_stay_5 : decode cX12_stay 5 = .ok (.aload_n 0, 1) := by decide +kernel
theorem dX12_stay_6 : decode cX12_stay 6 = .ok (.aload_n 0, 1) := by decide +kernel
theorem dX12_stay_7 : decode cX12_stay 7 = .ok (.iload_n 1, 1) := by decide +kernel
theorem dX12_stay_8 : decode cX12_stay 8 = .ok (.invokevirtual 203, 3) := by decide +kernel
theorem dX12_stay_11 : decode cX12_stay 11 = .ok (.ifCond .ne 7, 3) := by decide +kernel
theorem dX12_stay_14 : decode cX12_stay 14 = .ok (.iconst 1, 1) := by decide +kernel
theorem dX12_stay_15 : decode cX12_stay 15 = .ok (.goto 4, 3) := by decide +kernel
theorem dX12_stay_18 : decode cX12_stay 18 = .ok (.iconst 0, 1) := by decide +kernel
theorem dX12_stay_19 : decode cX12_stay 19 = .ok (.iconst 1, 1) := by decide +kernel
theorem dX12_stay_20 : decode cX12_stay 20 = .ok (.invokevirtual 169, 3) := by decide +kernel
theorem dX12_stay_23 : decode cX12_stay 23 = .ok (.ifCond .eq 5, 3) := by decide +kernel
theorem dX12_stay_26 : decode cX12_stay 26 = .ok (.iconst 0, 1) := by decide +kernel
theorem dX12_stay_27 : decode cX12_stay 27 = .ok (.ireturn, 1) := by decide +kernel
theorem dX12_stay_28 : decode cX12_stay 28 = .ok (.aload_n 0, 1) := by decide +kernel
theorem dX12_stay_29 : decode cX12_stay 29 = .ok (.iload_n 1, 1) := by decide +kernel
theorem dX12_stay_30 : decode cX12_stay 30 = .ok (.invokevirtual 337, 3) := by decide +kernel
theorem dX12_stay_33 : decode cX12_stay 33 = .ok (.ireturn, 1) := by decide +kernel
theorem dX12_beds_0 : decode cX12_beds 0 = .ok (.aload_n 0, 1) := by decide +kernel
theorem dX12_beds_1 : decode cX12_beds 1 = .ok (.iconst 0, 1) := by decide +kernel
theorem dX12_beds_2 : decode cX12_beds 2 = .ok (.putfield 87, 3) := by decide +kernel
theorem dX12_beds_5 : decode cX12_beds 5 = .ok (.aload_n 0, 1) := by decide +kernel
theorem dX12_beds_6 : decode cX12_beds 6 = .ok (.aload_n 0, 1) := by decide +kernel
theorem dX12_beds_7 : decode cX12_beds 7 = .ok (.iload_n 1, 1) := by decide +kernel
theorem dX12_beds_8 : decode cX12_beds 8 = .ok (.invokevirtual 203, 3) := by decide +kernel
theorem dX12_beds_11 : decode cX12_beds 11 = .ok (.ifCond .ne 7, 3) := by decide +kernel
theorem dX12_beds_14 : decode cX12_beds 14 = .ok (.iconst 1, 1) := by decide +kernel
theorem dX12_beds_15 : decode cX12_beds 15 = .ok (.goto 4, 3) := by decide +kernel
theorem dX12_beds_18 : decode cX12_beds 18 = .ok (.iconst 0, 1) := by decide +kernel
theorem dX12_beds_19 : decode cX12_beds 19 = .ok (.iconst 1, 1) := by decide +kernel
theorem dX12_beds_20 : decode cX12_beds 20 = .ok (.invokevirtual 169, 3) := by decide +kernel
theorem dX12_beds_23 : decode cX12_beds 23 = .ok (.ifCond .ne 35, 3) := by decide +kernel
theorem dX12_beds_26 : decode cX12_beds 26 = .ok (.aload_n 0, 1) := by decide +kernel
theorem dX12_beds_27 : decode cX12_beds 27 = .ok (.iload_n 2, 1) := by decide +kernel
theorem dX12_beds_28 : decode cX12_beds 28 = .ok (.iconst 0, 1) := by decide +kernel
theorem dX12_beds_29 : decode cX12_beds 29 = .ok (.bipush 8, 2) := by decide +kernel
theorem dX12_beds_31 : decode cX12_beds 31 = .ok (.invokestatic 124, 3) := by decide +kernel
theorem dX12_beds_34 : decode cX12_beds 34 = .ok (.ifCond .eq 12, 3) := by decide +kernel
theorem dX12_beds_37 : decode cX12_beds 37 = .ok (.iload_n 3, 1) := by decide +kernel
theorem dX12_beds_38 : decode cX12_beds 38 = .ok (.iconst 0, 1) := by decide +kernel
theorem dX12_beds_39 : decode cX12_beds 39 = .ok (.iconst 1, 1) := by decide +kernel
theorem dX12_beds_40 : decode cX12_beds 40 = .ok (.invokestatic 124, 3) := by decide +kernel
theorem dX12_beds_43 : decode cX12_beds 43 = .ok (.ifCond .ne 7, 3) := by decide +kernel
theorem dX12_beds_46 : decode cX12_beds 46 = .ok (.iconst 1, 1) := by decide +kernel
theorem dX12_beds_47 : decode cX12_beds 47 = .ok (.goto 4, 3) := by decide +kernel
theorem dX12_beds_50 : decode cX12_beds 50 = .ok (.iconst 0, 1) := by decide +kernel
theorem dX12_beds_51 : decode cX12_beds 51 = .ok (.iconst 2, 1) := by decide +kernel
theorem dX12_beds_52 : decode cX12_beds 52 = .ok (.invokevirtual 169, 3) := by decide +kernel
theorem dX12_beds_55 : decode cX12_beds 55 = .ok (.ifCond .eq 5, 3) := by decide +kernel
theorem dX12_beds_58 : decode cX12_beds 58 = .ok (.iconst 0, 1) := by decide +kernel
theorem dX12_beds_59 : decode cX12_beds 59 = .ok (.ireturn, 1) := by decide +kernel
theorem dX12_beds_60 : decode cX12_beds 60 = .ok (.iconst (-1), 1) := by decide +kernel
theorem dX12_beds_61 : decode cX12_beds 61 = .ok (.istore 4, 2) := by decide +kernel
theorem dX12_beds_63 : decode cX12_beds 63 = .ok (.iconst 0, 1) := by decide +kernel
theorem dX12_beds_64 : decode cX12_beds 64 = .ok (.istore 5, 2) := by decide +kernel
theorem dX12_beds_66 : decode cX12_beds 66 = .ok (.iconst 0, 1) := by decide +kernel
theorem dX12_beds_67 : decode cX12_beds 67 = .ok (.istore 6, 2) := by decide +kernel
theorem dX12_beds_69 : decode cX12_beds 69 = .ok (.iload 6, 2) := by decide +kernel
theorem dX12_beds_71 : decode cX12_beds 71 = .ok (.iconst 1, 1) := by decide +kernel
theorem dX12_beds_72 : decode cX12_beds 72 = .ok (.aload_n 0, 1) := by decide +kernel
theorem dX12_beds_73 : decode cX12_beds 73 = .ok (.getfield 28, 3) := by decide +kernel
theorem dX12_beds_76 : decode cX12_beds 76 = .ok (.iconst 0, 1) := by decide +kernel
theorem dX12_beds_77 : decode cX12_beds 77 = .ok (.iaload, 1) := by decide +kernel
theorem dX12_beds_78 : decode cX12_beds 78 = .ok (.ishl, 1) := by decide +kernel
theorem dX12_beds_79 : decode cX12_beds 79 = .ok (.if_icmp .ge 211, 3) := by decide +kernel
theorem dX12_beds_82 : decode cX12_beds 82 = .ok (.iload 6, 2) := by decide +kernel
theorem dX12_beds_84 : decode cX12_beds 84 = .ok (.invokestatic 292, 3) := by decide +kernel
theorem dX12_beds_87 : decode cX12_beds 87 = .ok (.iload_n 2, 1) := by decide +kernel
theorem dX12_beds_88 : decode cX12_beds 88 = .ok (.if_icmp .ne 16, 3) := by decide +kernel
theorem dX12_beds_91 : decode cX12_beds 91 = .ok (.iload 6, 2) := by decide +kernel
theorem dX12_beds_93 : decode cX12_beds 93 = .ok (.iload_n 1, 1) := by decide +kernel
theorem dX12_beds_94 : decode cX12_beds 94 = .ok (.ishr, 1) := by decide +kernel
theorem dX12_beds_95 : decode cX12_beds 95 = .ok (.iconst 1, 1) := by decide +kernel
theorem dX12_beds_96 : decode cX12_beds 96 = .ok (.iand, 1) := by decide +kernel
theorem dX12_beds_97 : decode cX12_beds 97 = .ok (.ifCond .ne 7, 3) := by decide +kernel
theorem dX12_beds_100 : decode cX12_beds 100 = .ok (.iconst 1, 1) := by decide +kernel
theorem dX12_beds_101 : decode cX12_beds 101 = .ok (.goto 4, 3) := by decide +kernel
theorem dX12_beds_104 : decode cX12_beds 104 = .ok (.iconst 0, 1) := by decide +kernel
theorem dX12_beds_105 : decode cX12_beds 105 = .ok (.istore 7, 2) := by decide +kernel
theorem dX12_beds_107 : decode cX12_beds 107 = .ok (.iconst 0, 1) := by decide +kernel
theorem dX12_beds_108 : decode cX12_beds 108 = .ok (.istore 8, 2) := by decide +kernel
theorem dX12_beds_110 : decode cX12_beds 110 = .ok (.iload 8, 2) := by decide +kernel
theorem dX12_beds_112 : decode cX12_beds 112 = .ok (.aload_n 0, 1) := by decide +kernel
theorem dX12_beds_113 : decode cX12_beds 113 = .ok (.getfield 28, 3) := by decide +kernel
theorem dX12_beds_116 : decode cX12_beds 116 = .ok (.iconst 0, 1) := by decide +kernel
theorem dX12_beds_117 : decode cX12_beds 117 = .ok (.iaload, 1) := by decide +kernel
theorem dX12_beds_118 : decode cX12_beds 118 = .ok (.if_icmp .ge 41, 3) := by decide +kernel
theorem dX12_beds_121 : decode cX12_beds 121 = .ok (.iload 7, 2) := by decide +kernel
theorem dX12_beds_123 : decode cX12_beds 123 = .ok (.ifCond .eq 36, 3) := by decide +kernel
theorem dX12_beds_126 : decode cX12_beds 126 = .ok (.iload 6, 2) := by decide +kernel
theorem dX12_beds_128 : decode cX12_beds 128 = .ok (.iload 8, 2) := by decide +kernel
theorem dX12_beds_130 : decode cX12_beds 130 = .ok (.ishr, 1) := by decide +kernel
theorem dX12_beds_131 : decode cX12_beds 131 = .ok (.iconst 1, 1) := by decide +kernel
theorem dX12_beds_132 : decode cX12_beds 132 = .ok (.iand, 1) := by decide +kernel
theorem dX12_beds_133 : decode cX12_beds 133 = .ok (.ifCond .eq 13, 3) := by decide +kernel
theorem dX12_beds_136 : decode cX12_beds 136 = .ok (.aload_n 0, 1) := by decide +kernel
theorem dX12_beds_137 : decode cX12_beds 137 = .ok (.getfield 40, 3) := by decide +kernel
theorem dX12_beds_140 : decode cX12_beds 140 = .ok (.iload 8, 2) := by decide +kernel
theorem dX12_beds_142 : decode cX12_beds 142 = .ok (.iaload, 1) := by decide +kernel
theorem dX12_beds_143 : decode cX12_beds 143 = .ok (.ifCond .ne 7, 3) := by decide +kernel
theorem dX12_beds_146 : decode cX12_beds 146 = .ok (.iconst 1, 1) := by decide +kernel
theorem dX12_beds_147 : decode cX12_beds 147 = .ok (.goto 4, 3) := by decide +kernel
theorem dX12_beds_150 : decode cX12_beds 150 = .ok (.iconst 0, 1) := by decide +kernel
theorem dX12_beds_151 : decode cX12_beds 151 = .ok (.istore 7, 2) := by decide +kernel
theorem dX12_beds_153 : decode cX12_beds 153 = .ok (.iinc 8 1, 3) := by decide +kernel
theorem dX12_beds_156 : decode cX12_beds 156 = .ok (.goto (-46), 3) := by decide +kernel
theorem dX12_beds_159 : decode cX12_beds 159 = .ok (.iload 7, 2) := by decide +kernel
theorem dX12_beds_161 : decode cX12_beds 161 = .ok (.ifCond .ne 6, 3) := by decide +kernel
theorem dX12_beds_164 : decode cX12_beds 164 = .ok (.goto 120, 3) := by decide +kernel
theorem dX12_beds_167 : decode cX12_beds 167 = .ok (.iconst 0, 1) := by decide +kernel
theorem dX12_beds_168 : decode cX12_beds 168 = .ok (.istore 8, 2) := by decide +kernel
theorem dX12_beds_170 : decode cX12_beds 170 = .ok (.iload 8, 2) := by decide +kernel
theorem dX12_beds_172 : decode cX12_beds 172 = .ok (.aload_n 0, 1) := by decide +kernel
theorem dX12_beds_173 : decode cX12_beds 173 = .ok (.getfield 28, 3) := by decide +kernel
theorem dX12_beds_176 : decode cX12_beds 176 = .ok (.iconst 0, 1) := by decide +kernel
theorem dX12_beds_177 : decode cX12_beds 177 = .ok (.iaload, 1) := by decide +kernel
theorem dX12_beds_178 : decode cX12_beds 178 = .ok (.if_icmp .ge 26, 3) := by decide +kernel
theorem dX12_beds_181 : decode cX12_beds 181 = .ok (.aload_n 0, 1) := by decide +kernel
theorem dX12_beds_182 : decode cX12_beds 182 = .ok (.getfield 40, 3) := by decide +kernel
theorem dX12_beds_185 : decode cX12_beds 185 = .ok (.iload 8, 2) := by decide +kernel
theorem dX12_beds_187 : decode cX12_beds 187 = .ok (.dup2, 1) := by decide +kernel
theorem dX12_beds_188 : decode cX12_beds 188 = .ok (.iaload, 1) := by decide +kernel
theorem dX12_beds_189 : decode cX12_beds 189 = .ok (.iload 6, 2) := by decide +kernel
theorem dX12_beds_191 : decode cX12_beds 191 = .ok (.iload 8, 2) := by decide +kernel
theorem dX12_beds_193 : decode cX12_beds 193 = .ok (.ishr, 1) := by decide +kernel
theorem dX12_beds_194 : decode cX12_beds 194 = .ok (.iconst 1, 1) := by decide +kernel
theorem dX12_beds_195 : decode cX12_beds 195 = .ok (.iand, 1) := by decide +kernel
theorem dX12_beds_196 : decode cX12_beds 196 = .ok (.ior, 1) := by decide +kernel
theorem dX12_beds_197 : decode cX12_beds 197 = .ok (.iastore, 1) := by decide +kernel
theorem dX12_beds_198 : decode cX12_beds 198 = .ok (.iinc 8 1, 3) := by decide +kernel
theorem dX12_beds_201 : decode cX12_beds 201 = .ok (.goto (-31), 3) := by decide +kernel
theorem dX12_beds_204 : decode cX12_beds 204 = .ok (.aload_n 0, 1) := by decide +kernel
theorem dX12_beds_205 : decode cX12_beds 205 = .ok (.iload_n 1, 1) := by decide +kernel
theorem dX12_beds_206 : decode cX12_beds 206 = .ok (.invokevirtual 337, 3) := by decide +kernel
theorem dX12_beds_209 : decode cX12_beds 209 = .ok (.istore 8, 2) := by decide +kernel
theorem dX12_beds_211 : decode cX12_beds 211 = .ok (.iconst 0, 1) := by decide +kernel
theorem dX12_beds_212 : decode cX12_beds 212 = .ok (.istore 9, 2) := by decide +kernel
theorem dX12_beds_214 : decode cX12_beds 214 = .ok (.iload 9, 2) := by decide +kernel
theorem dX12_beds_216 : decode cX12_beds 216 = .ok (.aload_n 0, 1) := by decide +kernel
theorem dX12_beds_217 : decode cX12_beds 217 = .ok (.getfield 28, 3) := by decide +kernel
theorem dX12_beds_220 : decode cX12_beds 220 = .ok (.iconst 0, 1) := by decide +kernel
theorem dX12_beds_221 : decode cX12_beds 221 = .ok (.iaload, 1) := by decide +kernel
theorem dX12_beds_222 : decode cX12_beds 222 = .ok (.if_icmp .ge 38, 3) := by decide +kernel
theorem dX12_beds_225 : decode cX12_beds 225 = .ok (.aload_n 0, 1) := by decide +kernel
theorem dX12_beds_226 : decode cX12_beds 226 = .ok (.getfield 40, 3) := by decide +kernel
theorem dX12_beds_229 : decode cX12_beds 229 = .ok (.iload 9, 2) := by decide +kernel
theorem dX12_beds_231 : decode cX12_beds 231 = .ok (.iload 6, 2) := by decide +kernel
theorem dX12_beds_233 : decode cX12_beds 233 = .ok (.iload 9, 2) := by decide +kernel
theorem dX12_beds_235 : decode cX12_beds 235 = .ok (.ishr, 1) := by decide +kernel
theorem dX12_beds_236 : decode cX12_beds 236 = .ok (.iconst 1, 1) := by decide +kernel
theorem dX12_beds_237 : decode cX12_beds 237 = .ok (.iand, 1) := by decide +kernel
theorem dX12_beds_238 : decode cX12_beds 238 = .ok (.iconst 1, 1) := by decide +kernel
theorem dX12_beds_239 : decode cX12_beds 239 = .ok (.if_icmp .ne 7, 3) := by decide +kernel
theorem dX12_beds_242 : decode cX12_beds 242 = .ok (.iconst 0, 1) := by decide +kernel
theorem dX12_beds_243 : decode cX12_beds 243 = .ok (.goto 10, 3) := by decide +kernel
theorem dX12_beds_246 : decode cX12_beds 246 = .ok (.aload_n 0, 1) := by decide +kernel
theorem dX12_beds_247 : decode cX12_beds 247 = .ok (.getfield 40, 3) := by decide +kernel
theorem dX12_beds_250 : decode cX12_beds 250 = .ok (.iload 9, 2) := by decide +kernel
theorem dX12_beds_252 : decode cX12_beds 252 = .ok (.iaload, 1) := by decide +kernel
theorem dX12_beds_253 : decode cX12_beds 253 = .ok (.iastore, 1) := by decide +kernel
theorem dX12_beds_254 : decode cX12_beds 254 = .ok (.iinc 9 1, 3) := by decide +kernel
theorem dX12_beds_257 : decode cX12_beds 257 = .ok (.goto (-43), 3) := by decide +kernel
theorem dX12_beds_260 : decode cX12_beds 260 = .ok (.iload 4, 2) := by decide +kernel
theorem dX12_beds_262 : decode cX12_beds 262 = .ok (.iconst (-1), 1) := by decide +kernel
theorem dX12_beds_263 : decode cX12_beds 263 = .ok (.if_icmp .eq 13, 3) := by decide +kernel
theorem dX12_beds_266 : decode cX12_beds 266 = .ok (.iload 8, 2) := by decide +kernel
theorem dX12_beds_268 : decode cX12_beds 268 = .ok (.iload 5, 2) := by decide +kernel
theorem dX12_beds_270 : decode cX12_beds 270 = .ok (.if_icmp .gt 6, 3) := by decide +kernel
theorem dX12_beds_273 : decode cX12_beds 273 = .ok (.goto 11, 3) := by decide +kernel
theorem dX12_beds_276 : decode cX12_beds 276 = .ok (.iload 6, 2) := by decide +kernel
theorem dX12_beds_278 : decode cX12_beds 278 = .ok (.istore 4, 2) := by decide +kernel
theorem dX12_beds_280 : decode cX12_beds 280 = .ok (.iload 8, 2) := by decide +kernel
theorem dX12_beds_282 : decode cX12_beds 282 = .ok (.istore 5, 2) := by decide +kernel
theorem dX12_beds_284 : decode cX12_beds 284 = .ok (.iinc 6 1, 3) := by decide +kernel
theorem dX12_beds_287 : decode cX12_beds 287 = .ok (.goto (-218), 3) := by decide +kernel
theorem dX12_beds_290 : decode cX12_beds 290 = .ok (.iload 4, 2) := by decide +kernel
theorem dX12_beds_292 : decode cX12_beds 292 = .ok (.iconst (-1), 1) := by decide +kernel
theorem dX12_beds_293 : decode cX12_beds 293 = .ok (.if_icmp .ne 7, 3) := by decide +kernel
theorem dX12_beds_296 : decode cX12_beds 296 = .ok (.iconst (-1), 1) := by decide +kernel
theorem dX12_beds_297 : decode cX12_beds 297 = .ok (.goto 14, 3) := by decide +kernel
theorem dX12_beds_300 : decode cX12_beds 300 = .ok (.iload_n 3, 1) := by decide +kernel
theorem dX12_beds_301 : decode cX12_beds 301 = .ok (.ifCond .ne 8, 3) := by decide +kernel
theorem dX12_beds_304 : decode cX12_beds 304 = .ok (.iload 4, 2) := by decide +kernel
theorem dX12_beds_306 : decode cX12_beds 306 = .ok (.goto 5, 3) := by decide +kernel
theorem dX12_beds_309 : decode cX12_beds 309 = .ok (.iload 5, 2) := by decide +kernel
theorem dX12_beds_311 : decode cX12_beds 311 = .ok (.ireturn, 1) := by decide +kernel
theorem dX12_mind_0 : decode cX12_mind 0 = .ok (.aload_n 0, 1) := by decide +kernel
theorem dX12_mind_1 : decode cX12_mind 1 = .ok (.iconst 0, 1) := by decide +kernel
theorem dX12_mind_2 : decode cX12_mind 2 = .ok (.putfield 87, 3) := by decide +kernel
theorem dX12_mind_5 : decode cX12_mind 5 = .ok (.aload_n 0, 1) := by decide +kernel
theorem dX12_mind_6 : decode cX12_mind 6 = .ok (.getfield 28, 3) := by decide +kernel
theorem dX12_mind_9 : decode cX12_mind 9 = .ok (.iconst 0, 1) := by decide +kernel
theorem dX12_mind_10 : decode cX12_mind 10 = .ok (.iaload, 1) := by decide +kernel
theorem dX12_mind_11 : decode cX12_mind 11 = .ok (.ifCond .ne 7, 3) := by decide +kernel
theorem dX12_mind_14 : decode cX12_mind 14 = .ok (.iconst (-1), 1) := by decide +kernel
theorem dX12_mind_15 : decode cX12_mind 15 = .ok (.goto 15, 3) := by decide +kernel
theorem dX12_mind_18 : decode cX12_mind 18 = .ok (.bipush 100, 2) := by decide +kernel
theorem dX12_mind_20 : decode cX12_mind 20 = .ok (.aload_n 0, 1) := by decide +kernel
theorem dX12_mind_21 : decode cX12_mind 21 = .ok (.getfield 182, 3) := by decide +kernel
theorem dX12_mind_24 : decode cX12_mind 24 = .ok (.imul, 1) := by decide +kernel
theorem dX12_mind_25 : decode cX12_mind 25 = .ok (.aload_n 0, 1) := by decide +kernel
theorem dX12_mind_26 : decode cX12_mind 26 = .ok (.getfield 179, 3) := by decide +kernel
theorem dX12_mind_29 : decode cX12_mind 29 = .ok (.iadd, 1) := by decide +kernel
theorem dX12_mind_30 : decode cX12_mind 30 = .ok (.ireturn, 1) := by decide +kernel
theorem dX12_clear_0 : decode cX12_clear 0 = .ok (.aload_n 0, 1) := by decide +kernel
theorem dX12_clear_1 : decode cX12_clear 1 = .ok (.iconst 0, 1) := by decide +kernel
theorem dX12_clear_2 : decode cX12_clear 2 = .ok (.putfield 87, 3) := by decide +kernel
theorem dX12_clear_5 : decode cX12_clear 5 = .ok (.aload_n 0, 1) := by decide +kernel
theorem dX12_clear_6 : decode cX12_clear 6 = .ok (.getfield 194, 3) := by decide +kernel
theorem dX12_clear_9 : decode cX12_clear 9 = .ok (.istore_n 1, 1) := by decide +kernel
theorem dX12_clear_10 : decode cX12_clear 10 = .ok (.aload_n 0, 1) := by decide +kernel
theorem dX12_clear_11 : decode cX12_clear 11 = .ok (.iconst 0, 1) := by decide +kernel
theorem dX12_clear_12 : decode cX12_clear 12 = .ok (.putfield 194, 3) := by decide +kernel
theorem dX12_clear_15 : decode cX12_clear 15 = .ok (.iload_n 1, 1) := by decide +kernel
theorem dX12_clear_16 : decode cX12_clear 16 = .ok (.ireturn, 1) := by decide +kernel
theorem dX12_restore_0 : decode cX12_restore 0 = .ok (.aload_n 0, 1) := by decide +kernel
theorem dX12_restore_1 : decode cX12_restore 1 = .ok (.iconst 0, 1) := by decide +kernel
theorem dX12_restore_2 : decode cX12_restore 2 = .ok (.putfield 87, 3) := by decide +kernel
theorem dX12_restore_5 : decode cX12_restore 5 = .ok (.aload_n 0, 1) := by decide +kernel
theorem dX12_restore_6 : decode cX12_restore 6 = .ok (.getfield 200, 3) := by decide +kernel
theorem dX12_restore_9 : decode cX12_restore 9 = .ok (.ifCond .ne 5, 3) := by decide +kernel
theorem dX12_restore_12 : decode cX12_restore 12 = .ok (.iconst (-1), 1) := by decide +kernel
theorem dX12_restore_13 : decode cX12_restore 13 = .ok (.ireturn, 1) := by decide +kernel
theorem dX12_restore_14 : decode cX12_restore 14 = .ok (.aload_n 0, 1) := by decide +kernel
theorem dX12_restore_15 : decode cX12_restore 15 = .ok (.dup, 1) := by decide +kernel
theorem dX12_restore_16 : decode cX12_restore 16 = .ok (.getfield 200, 3) := by decide +kernel
theorem dX12_restore_19 : decode cX12_restore 19 = .ok (.iconst 1, 1) := by decide +kernel
theorem dX12_restore_20 : decode cX12_restore 20 = .ok (.isub, 1) := by decide +kernel
theorem dX12_restore_21 : decode cX12_restore 21 = .ok (.putfield 200, 3) := by decide +kernel
theorem dX12_restore_24 : decode cX12_restore 24 = .ok (.aload_n 0, 1) := by decide +kernel
theorem dX12_restore_25 : decode cX12_restore 25 = .ok (.aload_n 0, 1) := by decide +kernel
theorem dX12_restore_26 : decode cX12_restore 26 = .ok (.getfield 49, 3) := by decide +kernel
theorem dX12_restore_29 : decode cX12_restore 29 = .ok (.aload_n 0, 1) := by decide +kernel
theorem dX12_restore_30 : decode cX12_restore 30 = .ok (.getfield 200, 3) := by decide +kernel
theorem dX12_restore_33 : decode cX12_restore 33 = .ok (.aaload, 1) := by decide +kernel
theorem dX12_restore_34 : decode cX12_restore 34 = .ok (.iconst 1, 1) := by decide +kernel
theorem dX12_restore_35 : decode cX12_restore 35 = .ok (.invokevirtual 255, 3) := by decide +kernel
theorem dX12_restore_38 : decode cX12_restore 38 = .ok (.aload_n 0, 1) := by decide +kernel
theorem dX12_restore_39 : decode cX12_restore 39 = .ok (.aload_n 0, 1) := by decide +kernel
theorem dX12_restore_40 : decode cX12_restore 40 = .ok (.getfield 49, 3) := by decide +kernel
theorem dX12_restore_43 : decode cX12_restore 43 = .ok (.aload_n 0, 1) := by decide +kernel
theorem dX12_restore_44 : decode cX12_restore 44 = .ok (.getfield 200, 3) := by decide +kernel
theorem dX12_restore_47 : decode cX12_restore 47 = .ok (.aaload, 1) := by decide +kernel
theorem dX12_restore_48 : decode cX12_restore 48 = .ok (.iconst 1, 1) := by decide +kernel
theorem dX12_restore_49 : decode cX12_restore 49 = .ok (.invokevirtual 359, 3) := by decide +kernel
theorem dX12_restore_52 : decode cX12_restore 52 = .ok (.aload_n 0, 1) := by decide +kernel
theorem dX12_restore_53 : decode cX12_restore 53 = .ok (.getfield 200, 3) := by decide +kernel
theorem dX12_restore_56 : decode cX12_restore 56 = .ok (.ireturn, 1) := by decide +kernel
theorem dX12_can_0 : decode cX12_can 0 = .ok (.aload_n 0, 1) := by decide +kernel
theorem dX12_can_1 : decode cX12_can 1 = .ok (.iconst 0, 1) := by decide +kernel
theorem dX12_can_2 : decode cX12_can 2 = .ok (.putfield 87, 3) := by decide +kernel
theorem dX12_can_5 : decode cX12_can 5 = .ok (.aload_n 0, 1) := by decide +kernel
theorem dX12_can_6 : decode cX12_can 6 = .ok (.aload_n 0, 1) := by decide +kernel
theorem dX12_can_7 : decode cX12_can 7 = .ok (.iload_n 1, 1) := by decide +kernel
theorem dX12_can_8 : decode cX12_can 8 = .ok (.iconst 1, 1) := by decide +kernel
theorem dX12_can_9 : decode cX12_can 9 = .ok (.iconst 4, 1) := by decide +kernel
theorem dX12_can_10 : decode cX12_can 10 = .ok (.invokevirtual 313, 3) := by decide +kernel
theorem dX12_can_13 : decode cX12_can 13 = .ok (.ifCond .ne 7, 3) := by decide +kernel
theorem dX12_can_16 : decode cX12_can 16 = .ok (.iconst 1, 1) := by decide +kernel
theorem dX12_can_17 : decode cX12_can 17 = .ok (.goto 4, 3) := by decide +kernel
theorem dX12_can_20 : decode cX12_can 20 = .ok (.iconst 0, 1) := by decide +kernel
theorem dX12_can_21 : decode cX12_can 21 = .ok (.iconst 1, 1) := by decide +kernel
theorem dX12_can_22 : decode cX12_can 22 = .ok (.invokevirtual 169, 3) := by decide +kernel
theorem dX12_can_25 : decode cX12_can 25 = .ok (.ifCond .eq 5, 3) := by decide +kernel
theorem dX12_can_28 : decode cX12_can 28 = .ok (.iconst 0, 1) := by decide +kernel
theorem dX12_can_29 : decode cX12_can 29 = .ok (.ireturn, 1) := by decide +kernel
theorem dX12_can_30 : decode cX12_can 30 = .ok (.aload_n 0, 1) := by decide +kernel
theorem dX12_can_31 : decode cX12_can 31 = .ok (.iload_n 1, 1) := by decide +kernel
theorem dX12_can_32 : decode cX12_can 32 = .ok (.invokevirtual 316, 3) := by decide +kernel
theorem dX12_can_35 : decode cX12_can 35 = .ok (.ireturn, 1) := by decide +kernel
theorem dX12_step_0 : decode cX12_step 0 = .ok (.aload_n 0, 1) := by decide +kernel
theorem dX12_step_1 : decode cX12_step 1 = .ok (.iconst 0, 1) := by decide +kernel
theorem dX12_step_2 : decode cX12_step 2 = .ok (.putfield 87, 3) := by decide +kernel
theorem dX12_step_5 : decode cX12_step 5 = .ok (.aload_n 0, 1) := by decide +kernel
theorem dX12_step_6 : decode cX12_step 6 = .ok (.aload_n 0, 1) := by decide +kernel
theorem dX12_step_7 : decode cX12_step 7 = .ok (.iload_n 1, 1) := by decide +kernel
theorem dX12_step_8 : decode cX12_step 8 = .ok (.iconst 1, 1) := by decide +kernel
theorem dX12_step_9 : decode cX12_step 9 = .ok (.iconst 4, 1) := by decide +kernel
theorem dX12_step_10 : decode cX12_step 10 = .ok (.invokevirtual 313, 3) := by decide +kernel
theorem dX12_step_13 : decode cX12_step 13 = .ok (.ifCond .eq 14, 3) := by decide +kernel
theorem dX12_step_16 : decode cX12_step 16 = .ok (.iload_n 2, 1) := by decide +kernel
theorem dX12_step_17 : decode cX12_step 17 = .ok (.iconst 0, 1) := by decide +kernel
theorem dX12_step_18 : decode cX12_step 18 = .ok (.sipush 999, 3) := by decide +kernel
theorem dX12_step_21 : decode cX12_step 21 = .ok (.invokestatic 124, 3) := by decide +kernel
theorem dX12_step_24 : decode cX12_step 24 = .ok (.ifCond .ne 7, 3) := by decide +kernel
theorem dX12_step_27 : decode cX12_step 27 = .ok (.iconst 1, 1) := by decide +kernel
theorem dX12_step_28 : decode cX12_step 28 = .ok (.goto 4, 3) := by decide +kernel
theorem dX12_step_31 : decode cX12_step 31 = .ok (.iconst 0, 1) := by decide +kernel
theorem dX12_step_32 : decode cX12_step 32 = .ok (.iconst 1, 1) := by decide +kernel
theorem dX12_step_33 : decode cX12_step 33 = .ok (.invokevirtual 169, 3) := by decide +kernel
theorem dX12_step_36 : decode cX12_step 36 = .ok (.ifCond .eq 5, 3) := by decide +kernel
theorem dX12_step_39 : decode cX12_step 39 = .ok (.iconst 0, 1) := by decide +kernel
theorem dX12_step_40 : decode cX12_step 40 = .ok (.ireturn, 1) := by decide +kernel
theorem dX12_step_41 : decode cX12_step 41 = .ok (.aload_n 0, 1) := by decide +kernel
theorem dX12_step_42 : decode cX12_step 42 = .ok (.iload_n 1, 1) := by decide +kernel
theorem dX12_step_43 : decode cX12_step 43 = .ok (.invokevirtual 316, 3) := by decide +kernel
theorem dX12_step_46 : decode cX12_step 46 = .ok (.ifCond .ne 5, 3) := by decide +kernel
theorem dX12_step_49 : decode cX12_step 49 = .ok (.iconst (-1), 1) := by decide +kernel
theorem dX12_step_50 : decode cX12_step 50 = .ok (.ireturn, 1) := by decide +kernel
theorem dX12_step_51 : decode cX12_step 51 = .ok (.iconst 0, 1) := by decide +kernel
theorem dX12_step_52 : decode cX12_step 52 = .ok (.istore_n 3, 1) := by decide +kernel
theorem dX12_step_53 : decode cX12_step 53 = .ok (.iconst (-1), 1) := by decide +kernel
theorem dX12_step_54 : decode cX12_step 54 = .ok (.istore 4, 2) := by decide +kernel
theorem dX12_step_56 : decode cX12_step 56 = .ok (.iconst 0, 1) := by decide +kernel
theorem dX12_step_57 : decode cX12_step 57 = .ok (.istore 5, 2) := by decide +kernel
theorem dX12_step_59 : decode cX12_step 59 = .ok (.iload 5, 2) := by decide +kernel
theorem dX12_step_61 : decode cX12_step 61 = .ok (.iload_n 2, 1) := by decide +kernel
theorem dX12_step_62 : decode cX12_step 62 = .ok (.if_icmp .gt 24, 3) := by decide +kernel
theorem dX12_step_65 : decode cX12_step 65 = .ok (.aload_n 0, 1) := by decide +kernel
theorem dX12_step_66 : decode cX12_step 66 = .ok (.iload_n 3, 1) := by decide +kernel
theorem dX12_step_67 : decode cX12_step 67 = .ok (.invokevirtual 304, 3) := by decide +kernel
theorem dX12_step_70 : decode cX12_step 70 = .ok (.istore 4, 2) := by decide +kernel
theorem dX12_step_72 : decode cX12_step 72 = .ok (.aload_n 0, 1) := by decide +kernel
theorem dX12_step_73 : decode cX12_step 73 = .ok (.iload_n 3, 1) := by decide +kernel
theorem dX12_step_74 : decode cX12_step 74 = .ok (.iload 4, 2) := by decide +kernel
theorem dX12_step_76 : decode cX12_step 76 = .ok (.invokevirtual 301, 3) := by decide +kernel
theorem dX12_step_79 : decode cX12_step 79 = .ok (.istore_n 3, 1) := by decide +kernel
theorem dX12_step_80 : decode cX12_step 80 = .ok (.iinc 5 1, 3) := by decide +kernel
theorem dX12_step_83 : decode cX12_step 83 = .ok (.goto (-24), 3) := by decide +kernel
theorem dX12_step_86 : decode cX12_step 86 = .ok (.aload_n 0, 1) := by decide +kernel
theorem dX12_step_87 : decode cX12_step 87 = .ok (.getfield 58, 3) := by decide +kernel
theorem dX12_step_90 : decode cX12_step 90 = .ok (.iload 4, 2) := by decide +kernel
theorem dX12_step_92 : decode cX12_step 92 = .ok (.iaload, 1) := by decide +kernel
theorem dX12_step_93 : decode cX12_step 93 = .ok (.ireturn, 1) := by decide +kernel
theorem dX12_round_0 : decode cX12_round 0 = .ok (.aload_n 0, 1) := by decide +kernel
theorem dX12_round_1 : decode cX12_round 1 = .ok (.iconst 0, 1) := by decide +kernel
theorem dX12_round_2 : decode cX12_round 2 = .ok (.putfield 87, 3) := by decide +kernel
theorem dX12_round_5 : decode cX12_round 5 = .ok (.aload_n 0, 1) := by decide +kernel
theorem dX12_round_6 : decode cX12_round 6 = .ok (.aload_n 0, 1) := by decide +kernel
theorem dX12_round_7 : decode cX12_round 7 = .ok (.iload_n 1, 1) := by decide +kernel
theorem dX12_round_8 : decode cX12_round 8 = .ok (.iconst 1, 1) := by decide +kernel
theorem dX12_round_9 : decode cX12_round 9 = .ok (.iconst 4, 1) := by decide +kernel
theorem dX12_round_10 : decode cX12_round 10 = .ok (.invokevirtual 313, 3) := by decide +kernel
theorem dX12_round_13 : decode cX12_round 13 = .ok (.ifCond .eq 12, 3) := by decide +kernel
theorem dX12_round_16 : decode cX12_round 16 = .ok (.iload_n 2, 1) := by decide +kernel
theorem dX12_round_17 : decode cX12_round 17 = .ok (.iconst 0, 1) := by decide +kernel
theorem dX12_round_18 : decode cX12_round 18 = .ok (.iconst 2, 1) := by decide +kernel
theorem dX12_round_19 : decode cX12_round 19 = .ok (.invokestatic 124, 3) := by decide +kernel
theorem dX12_round_22 : decode cX12_round 22 = .ok (.ifCond .ne 7, 3) := by decide +kernel
theorem dX12_round_25 : decode cX12_round 25 = .ok (.iconst 1, 1) := by decide +kernel
theorem dX12_round_26 : decode cX12_round 26 = .ok (.goto 4, 3) := by decide +kernel
theorem dX12_round_29 : decode cX12_round 29 = .ok (.iconst 0, 1) := by decide +kernel
theorem dX12_round_30 : decode cX12_round 30 = .ok (.iconst 1, 1) := by decide +kernel
theorem dX12_round_31 : decode cX12_round 31 = .ok (.invokevirtual 169, 3) := by decide +kernel
theorem dX12_round_34 : decode cX12_round 34 = .ok (.ifCond .eq 5, 3) := by decide +kernel
theorem dX12_round_37 : decode cX12_round 37 = .ok (.iconst 0, 1) := by decide +kernel
theorem dX12_round_38 : decode cX12_round 38 = .ok (.ireturn, 1) := by decide +kernel
theorem dX12_round_39 : decode cX12_round 39 = .ok (.aload_n 0, 1) := by decide +kernel
theorem dX12_round_40 : decode cX12_round 40 = .ok (.iload_n 1, 1) := by decide +kernel
theorem dX12_round_41 : decode cX12_round 41 = .ok (.invokevirtual 316, 3) := by decide +kernel
theorem dX12_round_44 : decode cX12_round 44 = .ok (.ifCond .ne 5, 3) := by decide +kernel
theorem dX12_round_47 : decode cX12_round 47 = .ok (.iconst (-1), 1) := by decide +kernel
theorem dX12_round_48 : decode cX12_round 48 = .ok (.ireturn, 1) := by decide +kernel
theorem dX12_round_49 : decode cX12_round 49 = .ok (.aload_n 0, 1) := by decide +kernel
theorem dX12_round_50 : decode cX12_round 50 = .ok (.invokevirtual 328, 3) := by decide +kernel
theorem dX12_round_53 : decode cX12_round 53 = .ok (.iload_n 2, 1) := by decide +kernel
theorem dX12_round_54 : decode cX12_round 54 = .ok (.iconst 2, 1) := by decide +kernel
theorem dX12_round_55 : decode cX12_round 55 = .ok (.if_icmp .ge 19, 3) := by decide +kernel
theorem dX12_round_58 : decode cX12_round 58 = .ok (.iload_n 2, 1) := by decide +kernel
theorem dX12_round_59 : decode cX12_round 59 = .ok (.ifCond .ne 10, 3) := by decide +kernel
theorem dX12_round_62 : decode cX12_round 62 = .ok (.aload_n 0, 1) := by decide +kernel
theorem dX12_round_63 : decode cX12_round 63 = .ok (.getfield 319, 3) := by decide +kernel
theorem dX12_round_66 : decode cX12_round 66 = .ok (.goto 7, 3) := by decide +kernel
theorem dX12_round_69 : decode cX12_round 69 = .ok (.aload_n 0, 1) := by decide +kernel
theorem dX12_round_70 : decode cX12_round 70 = .ok (.getfield 322, 3) := by decide +kernel
theorem dX12_round_73 : decode cX12_round 73 = .ok (.ireturn, 1) := by decide +kernel
theorem dX12_round_74 : decode cX12_round 74 = .ok (.iconst 0, 1) := by decide +kernel
theorem dX12_round_75 : decode cX12_round 75 = .ok (.istore_n 3, 1) := by decide +kernel
theorem dX12_round_76 : decode cX12_round 76 = .ok (.iconst 0, 1) := by decide +kernel
theorem dX12_round_77 : decode cX12_round 77 = .ok (.istore 4, 2) := by decide +kernel
theorem dX12_round_79 : decode cX12_round 79 = .ok (.iconst 0, 1) := by decide +kernel
theorem dX12_round_80 : decode cX12_round 80 = .ok (.istore 5, 2) := by decide +kernel
theorem dX12_round_82 : decode cX12_round 82 = .ok (.iload 5, 2) := by decide +kernel
theorem dX12_round_84 : decode cX12_round 84 = .ok (.aload_n 0, 1) := by decide +kernel
theorem dX12_round_85 : decode cX12_round 85 = .ok (.getfield 325, 3) := by decide +kernel
theorem dX12_round_88 : decode cX12_round 88 = .ok (.if_icmp .ge 69, 3) := by decide +kernel
theorem dX12_round_91 : decode cX12_round 91 = .ok (.aload_n 0, 1) := by decide +kernel
theorem dX12_round_92 : decode cX12_round 92 = .ok (.iload_n 3, 1) := by decide +kernel
theorem dX12_round_93 : decode cX12_round 93 = .ok (.invokevirtual 304, 3) := by decide +kernel
theorem dX12_round_96 : decode cX12_round 96 = .ok (.istore 6, 2) := by decide +kernel
theorem dX12_round_98 : decode cX12_round 98 = .ok (.aload_n 0, 1) := by decide +kernel
theorem dX12_round_99 : decode cX12_round 99 = .ok (.iload_n 3, 1) := by decide +kernel
theorem dX12_round_100 : decode cX12_round 100 = .ok (.invokevirtual 298, 3) := by decide +kernel
theorem dX12_round_103 : decode cX12_round 103 = .ok (.iload 4, 2) := by decide +kernel
theorem dX12_round_105 : decode cX12_round 105 = .ok (.iload 5, 2) := by decide +kernel
theorem dX12_round_107 : decode cX12_round 107 = .ok (.aload_n 0, 1) := by decide +kernel
theorem dX12_round_108 : decode cX12_round 108 = .ok (.getfield 319, 3) := by decide +kernel
theorem dX12_round_111 : decode cX12_round 111 = .ok (.if_icmp .lt 28, 3) := by decide +kernel
theorem dX12_round_114 : decode cX12_round 114 = .ok (.iconst 1, 1) := by decide +kernel
theorem dX12_round_115 : decode cX12_round 115 = .ok (.aload_n 0, 1) := by decide +kernel
theorem dX12_round_116 : decode cX12_round 116 = .ok (.aload_n 0, 1) := by decide +kernel
theorem dX12_round_117 : decode cX12_round 117 = .ok (.getfield 58, 3) := by decide +kernel
theorem dX12_round_120 : decode cX12_round 120 = .ok (.aload_n 0, 1) := by decide +kernel
theorem dX12_round_121 : decode cX12_round 121 = .ok (.getfield 248, 3) := by decide +kernel
theorem dX12_round_124 : decode cX12_round 124 = .ok (.iaload, 1) := by decide +kernel
theorem dX12_round_125 : decode cX12_round 125 = .ok (.aload_n 0, 1) := by decide +kernel
theorem dX12_round_126 : decode cX12_round 126 = .ok (.getfield 58, 3) := by decide +kernel
theorem dX12_round_129 : decode cX12_round 129 = .ok (.iload 6, 2) := by decide +kernel
theorem dX12_round_131 : decode cX12_round 131 = .ok (.iaload, 1) := by decide +kernel
theorem dX12_round_132 : decode cX12_round 132 = .ok (.invokevirtual 226, 3) := by decide +kernel
theorem dX12_round_135 : decode cX12_round 135 = .ok (.iadd, 1) := by decide +kernel
theorem dX12_round_136 : decode cX12_round 136 = .ok (.goto 4, 3) := by decide +kernel
theorem dX12_round_139 : decode cX12_round 139 = .ok (.iconst 0, 1) := by decide +kernel
theorem dX12_round_140 : decode cX12_round 140 = .ok (.iadd, 1) := by decide +kernel
theorem dX12_round_141 : decode cX12_round 141 = .ok (.istore 4, 2) := by decide +kernel
theorem dX12_round_143 : decode cX12_round 143 = .ok (.aload_n 0, 1) := by decide +kernel
theorem dX12_round_144 : decode cX12_round 144 = .ok (.iload_n 3, 1) := by decide +kernel
theorem dX12_round_145 : decode cX12_round 145 = .ok (.iload 6, 2) := by decide +kernel
theorem dX12_round_147 : decode cX12_round 147 = .ok (.invokevirtual 301, 3) := by decide +kernel
theorem dX12_round_150 : decode cX12_round 150 = .ok (.istore_n 3, 1) := by decide +kernel
theorem dX12_round_151 : decode cX12_round 151 = .ok (.iinc 5 1, 3) := by decide +kernel
theorem dX12_round_154 : decode cX12_round 154 = .ok (.goto (-72), 3) := by decide +kernel
theorem dX12_round_157 : decode cX12_round 157 = .ok (.iload 4, 2) := by decide +kernel
theorem dX12_round_159 : decode cX12_round 159 = .ok (.ireturn, 1) := by decide +kernel
theorem dX12_density_0 : decode cX12_density 0 = .ok (.aload_n 0, 1) := by decide +kernel
theorem dX12_density_1 : decode cX12_density 1 = .ok (.iconst 0, 1) := by decide +kernel
theorem dX12_density_2 : decode cX12_density 2 = .ok (.putfield 87, 3) := by decide +kernel
theorem dX12_density_5 : decode cX12_density 5 = .ok (.aload_n 0, 1) := by decide +kernel
theorem dX12_density_6 : decode cX12_density 6 = .ok (.aload_n 0, 1) := by decide +kernel
theorem dX12_density_7 : decode cX12_density 7 = .ok (.iload_n 1, 1) := by decide +kernel
theorem dX12_density_8 : decode cX12_density 8 = .ok (.iconst 1, 1) := by decide +kernel
theorem dX12_density_9 : decode cX12_density 9 = .ok (.iconst 4, 1) := by decide +kernel
theorem dX12_density_10 : decode cX12_density 10 = .ok (.invokevirtual 313, 3) := by decide +kernel
theorem dX12_density_13 : decode cX12_density 13 = .ok (.ifCond .ne 7, 3) := by decide +kernel
theorem dX12_density_16 : decode cX12_density 16 = .ok (.iconst 1, 1) := by decide +kernel
theorem dX12_density_17 : decode cX12_density 17 = .ok (.goto 4, 3) := by decide +kernel
theorem dX12_density_20 : decode cX12_density 20 = .ok (.iconst 0, 1) := by decide +kernel
theorem dX12_density_21 : decode cX12_density 21 = .ok (.iconst 1, 1) := by decide +kernel
theorem dX12_density_22 : decode cX12_density 22 = .ok (.invokevirtual 169, 3) := by decide +kernel
theorem dX12_density_25 : decode cX12_density 25 = .ok (.ifCond .eq 5, 3) := by decide +kernel
theorem dX12_density_28 : decode cX12_density 28 = .ok (.iconst 0, 1) := by decide +kernel
theorem dX12_density_29 : decode cX12_density 29 = .ok (.ireturn, 1) := by decide +kernel
theorem dX12_density_30 : decode cX12_density 30 = .ok (.aload_n 0, 1) := by decide +kernel
theorem dX12_density_31 : decode cX12_density 31 = .ok (.iload_n 1, 1) := by decide +kernel
theorem dX12_density_32 : decode cX12_density 32 = .ok (.invokevirtual 307, 3) := by decide +kernel
theorem dX12_density_35 : decode cX12_density 35 = .ok (.iconst 0, 1) := by decide +kernel
theorem dX12_density_36 : decode cX12_density 36 = .ok (.istore_n 2, 1) := by decide +kernel
theorem dX12_density_37 : decode cX12_density 37 = .ok (.iconst 0, 1) := by decide +kernel
theorem dX12_density_38 : decode cX12_density 38 = .ok (.istore_n 3, 1) := by decide +kernel
theorem dX12_density_39 : decode cX12_density 39 = .ok (.iload_n 3, 1) := by decide +kernel
theorem dX12_density_40 : decode cX12_density 40 = .ok (.aload_n 0, 1) := by decide +kernel
theorem dX12_density_41 : decode cX12_density 41 = .ok (.getfield 295, 3) := by decide +kernel
theorem dX12_density_44 : decode cX12_density 44 = .ok (.if_icmp .ge 24, 3) := by decide +kernel
theorem dX12_density_47 : decode cX12_density 47 = .ok (.iload_n 2, 1) := by decide +kernel
theorem dX12_density_48 : decode cX12_density 48 = .ok (.sipush 1000, 3) := by decide +kernel
theorem dX12_density_51 : decode cX12_density 51 = .ok (.aload_n 0, 1) := by decide +kernel
theorem dX12_density_52 : decode cX12_density 52 = .ok (.getfield 61, 3) := by decide +kernel
theorem dX12_density_55 : decode cX12_density 55 = .ok (.iload_n 3, 1) := by decide +kernel
theorem dX12_density_56 : decode cX12_density 56 = .ok (.iaload, 1) := by decide +kernel
theorem dX12_density_57 : decode cX12_density 57 = .ok (.iconst 1, 1) := by decide +kernel
theorem dX12_density_58 : decode cX12_density 58 = .ok (.iadd, 1) := by decide +kernel
theorem dX12_density_59 : decode cX12_density 59 = .ok (.idiv, 1) := by decide +kernel
theorem dX12_density_60 : decode cX12_density 60 = .ok (.iadd, 1) := by decide +kernel
theorem dX12_density_61 : decode cX12_density 61 = .ok (.istore_n 2, 1) := by decide +kernel
theorem dX12_density_62 : decode cX12_density 62 = .ok (.iinc 3 1, 3) := by decide +kernel
theorem dX12_density_65 : decode cX12_density 65 = .ok (.goto (-26), 3) := by decide +kernel
theorem dX12_density_68 : decode cX12_density 68 = .ok (.iload_n 2, 1) := by decide +kernel
theorem dX12_density_69 : decode cX12_density 69 = .ok (.ireturn, 1) := by decide +kernel
theorem dX12_two_0 : decode cX12_two 0 = .ok (.aload_n 0, 1) := by decide +kernel
theorem dX12_two_1 : decode cX12_two 1 = .ok (.iconst 0, 1) := by decide +kernel
theorem dX12_two_2 : decode cX12_two 2 = .ok (.putfield 87, 3) := by decide +kernel
theorem dX12_two_5 : decode cX12_two 5 = .ok (.aload_n 0, 1) := by decide +kernel
theorem dX12_two_6 : decode cX12_two 6 = .ok (.aload_n 0, 1) := by decide +kernel
theorem dX12_two_7 : decode cX12_two 7 = .ok (.iload_n 1, 1) := by decide +kernel
theorem dX12_two_8 : decode cX12_two 8 = .ok (.iconst 2, 1) := by decide +kernel
theorem dX12_two_9 : decode cX12_two 9 = .ok (.bipush 6, 2) := by decide +kernel
theorem dX12_two_11 : decode cX12_two 11 = .ok (.invokevirtual 313, 3) := by decide +kernel
theorem dX12_two_14 : decode cX12_two 14 = .ok (.ifCond .ne 7, 3) := by decide +kernel
theorem dX12_two_17 : decode cX12_two 17 = .ok (.iconst 1, 1) := by decide +kernel
theorem dX12_two_18 : decode cX12_two 18 = .ok (.goto 4, 3) := by decide +kernel
theorem dX12_two_21 : decode cX12_two 21 = .ok (.iconst 0, 1) := by decide +kernel
theorem dX12_two_22 : decode cX12_two 22 = .ok (.iconst 1, 1) := by decide +kernel
theorem dX12_two_23 : decode cX12_two 23 = .ok (.invokevirtual 169, 3) := by decide +kernel
theorem dX12_two_26 : decode cX12_two 26 = .ok (.ifCond .eq 5, 3) := by decide +kernel
theorem dX12_two_29 : decode cX12_two 29 = .ok (.iconst 0, 1) := by decide +kernel
theorem dX12_two_30 : decode cX12_two 30 = .ok (.ireturn, 1) := by decide +kernel
theorem dX12_two_31 : decode cX12_two 31 = .ok (.iconst 0, 1) := by decide +kernel
theorem dX12_two_32 : decode cX12_two 32 = .ok (.istore_n 2, 1) := by decide +kernel
theorem dX12_two_33 : decode cX12_two 33 = .ok (.iload_n 1, 1) := by decide +kernel
theorem dX12_two_34 : decode cX12_two 34 = .ok (.iload_n 2, 1) := by decide +kernel
theorem dX12_two_35 : decode cX12_two 35 = .ok (.ishr, 1) := by decide +kernel
theorem dX12_two_36 : decode cX12_two 36 = .ok (.iconst 1, 1) := by decide +kernel
theorem dX12_two_37 : decode cX12_two 37 = .ok (.iand, 1) := by decide +kernel
theorem dX12_two_38 : decode cX12_two 38 = .ok (.ifCond .ne 9, 3) := by decide +kernel
theorem dX12_two_41 : decode cX12_two 41 = .ok (.iinc 2 1, 3) := by decide +kernel
theorem dX12_two_44 : decode cX12_two 44 = .ok (.goto (-11), 3) := by decide +kernel
theorem dX12_two_47 : decode cX12_two 47 = .ok (.iconst 1, 1) := by decide +kernel
theorem dX12_two_48 : decode cX12_two 48 = .ok (.istore_n 3, 1) := by decide +kernel
theorem dX12_two_49 : decode cX12_two 49 = .ok (.iload_n 3, 1) := by decide +kernel
theorem dX12_two_50 : decode cX12_two 50 = .ok (.iload_n 1, 1) := by decide +kernel
theorem dX12_two_51 : decode cX12_two 51 = .ok (.if_icmp .ge 70, 3) := by decide +kernel
theorem dX12_two_54 : decode cX12_two 54 = .ok (.iload_n 3, 1) := by decide +kernel
theorem dX12_two_55 : decode cX12_two 55 = .ok (.iload_n 1, 1) := by decide +kernel
theorem dX12_two_56 : decode cX12_two 56 = .ok (.iconst (-1), 1) := by decide +kernel
theorem dX12_two_57 : decode cX12_two 57 = .ok (.ixor, 1) := by decide +kernel
theorem dX12_two_58 : decode cX12_two 58 = .ok (.iand, 1) := by decide +kernel
theorem dX12_two_59 : decode cX12_two 59 = .ok (.ifCond .ne 56, 3) := by decide +kernel
theorem dX12_two_62 : decode cX12_two 62 = .ok (.iload_n 3, 1) := by decide +kernel
theorem dX12_two_63 : decode cX12_two 63 = .ok (.iload_n 2, 1) := by decide +kernel
theorem dX12_two_64 : decode cX12_two 64 = .ok (.ishr, 1) := by decide +kernel
theorem dX12_two_65 : decode cX12_two 65 = .ok (.iconst 1, 1) := by decide +kernel
theorem dX12_two_66 : decode cX12_two 66 = .ok (.iand, 1) := by decide +kernel
theorem dX12_two_67 : decode cX12_two 67 = .ok (.ifCond .eq 48, 3) := by decide +kernel
theorem dX12_two_70 : decode cX12_two 70 = .ok (.iload_n 3, 1) := by decide +kernel
theorem dX12_two_71 : decode cX12_two 71 = .ok (.invokestatic 292, 3) := by decide +kernel
theorem dX12_two_74 : decode cX12_two 74 = .ok (.iconst 4, 1) := by decide +kernel
theorem dX12_two_75 : decode cX12_two 75 = .ok (.if_icmp .gt 40, 3) := by decide +kernel
theorem dX12_two_78 : decode cX12_two 78 = .ok (.iload_n 1, 1) := by decide +kernel
theorem dX12_two_79 : decode cX12_two 79 = .ok (.iload_n 3, 1) := by decide +kernel
theorem dX12_two_80 : decode cX12_two 80 = .ok (.iconst (-1), 1) := by decide +kernel
theorem dX12_two_81 : decode cX12_two 81 = .ok (.ixor, 1) := by decide +kernel
theorem dX12_two_82 : decode cX12_two 82 = .ok (.iand, 1) := by decide +kernel
theorem dX12_two_83 : decode cX12_two 83 = .ok (.invokestatic 292, 3) := by decide +kernel
theorem dX12_two_86 : decode cX12_two 86 = .ok (.iconst 4, 1) := by decide +kernel
theorem dX12_two_87 : decode cX12_two 87 = .ok (.if_icmp .le 6, 3) := by decide +kernel
theorem dX12_two_90 : decode cX12_two 90 = .ok (.goto 25, 3) := by decide +kernel
theorem dX12_two_93 : decode cX12_two 93 = .ok (.aload_n 0, 1) := by decide +kernel
theorem dX12_two_94 : decode cX12_two 94 = .ok (.iload_n 3, 1) := by decide +kernel
theorem dX12_two_95 : decode cX12_two 95 = .ok (.invokevirtual 316, 3) := by decide +kernel
theorem dX12_two_98 : decode cX12_two 98 = .ok (.ifCond .eq 17, 3) := by decide +kernel
theorem dX12_two_101 : decode cX12_two 101 = .ok (.aload_n 0, 1) := by decide +kernel
theorem dX12_two_102 : decode cX12_two 102 = .ok (.iload_n 1, 1) := by decide +kernel
theorem dX12_two_103 : decode cX12_two 103 = .ok (.iload_n 3, 1) := by decide +kernel
theorem dX12_two_104 : decode cX12_two 104 = .ok (.iconst (-1), 1) := by decide +kernel
theorem dX12_two_105 : decode cX12_two 105 = .ok (.ixor, 1) := by decide +kernel
theorem dX12_two_106 : decode cX12_two 106 = .ok (.iand, 1) := by decide +kernel
theorem dX12_two_107 : decode cX12_two 107 = .ok (.invokevirtual 316, 3) := by decide +kernel
theorem dX12_two_110 : decode cX12_two 110 = .ok (.ifCond .eq 5, 3) := by decide +kernel
theorem dX12_two_113 : decode cX12_two 113 = .ok (.iload_n 3, 1) := by decide +kernel
theorem dX12_two_114 : decode cX12_two 114 = .ok (.ireturn, 1) := by decide +kernel
theorem dX12_two_115 : decode cX12_two 115 = .ok (.iinc 3 1, 3) := by decide +kernel
theorem dX12_two_118 : decode cX12_two 118 = .ok (.goto (-69), 3) := by decide +kernel
theorem dX12_two_121 : decode cX12_two 121 = .ok (.iconst (-1), 1) := by decide +kernel
theorem dX12_two_122 : decode cX12_two 122 = .ok (.ireturn, 1) := by decide +kernel
theorem dX12_back_0 : decode cX12_back 0 = .ok (.aload_n 0, 1) := by decide +kernel
theorem dX12_back_1 : decode cX12_back 1 = .ok (.iconst 0, 1) := by decide +kernel
theorem dX12_back_2 : decode cX12_back 2 = .ok (.putfield 87, 3) := by decide +kernel
theorem dX12_back_5 : decode cX12_back 5 = .ok (.aload_n 0, 1) := by decide +kernel
theorem dX12_back_6 : decode cX12_back 6 = .ok (.aload_n 0, 1) := by decide +kernel
theorem dX12_back_7 : decode cX12_back 7 = .ok (.iload_n 1, 1) := by decide +kernel
theorem dX12_back_8 : decode cX12_back 8 = .ok (.iconst 1, 1) := by decide +kernel
theorem dX12_back_9 : decode cX12_back 9 = .ok (.iconst 3, 1) := by decide +kernel
theorem dX12_back_10 : decode cX12_back 10 = .ok (.invokevirtual 313, 3) := by decide +kernel
theorem dX12_back_13 : decode cX12_back 13 = .ok (.ifCond .eq 22, 3) := by decide +kernel
theorem dX12_back_16 : decode cX12_back 16 = .ok (.iload_n 2, 1) := by decide +kernel
theorem dX12_back_17 : decode cX12_back 17 = .ok (.iconst 1, 1) := by decide +kernel
theorem dX12_back_18 : decode cX12_back 18 = .ok (.bipush 40, 2) := by decide +kernel
theorem dX12_back_20 : decode cX12_back 20 = .ok (.invokestatic 124, 3) := by decide +kernel
theorem dX12_back_23 : decode cX12_back 23 = .ok (.ifCond .eq 12, 3) := by decide +kernel
theorem dX12_back_26 : decode cX12_back 26 = .ok (.iload_n 3, 1) := by decide +kernel
theorem dX12_back_27 : decode cX12_back 27 = .ok (.iconst 0, 1) := by decide +kernel
theorem dX12_back_28 : decode cX12_back 28 = .ok (.iconst 1, 1) := by decide +kernel
theorem dX12_back_29 : decode cX12_back 29 = .ok (.invokestatic 124, 3) := by decide +kernel
theorem dX12_back_32 : decode cX12_back 32 = .ok (.ifCond .ne 7, 3) := by decide +kernel
theorem dX12_back_35 : decode cX12_back 35 = .ok (.iconst 1, 1) := by decide +kernel
theorem dX12_back_36 : decode cX12_back 36 = .ok (.goto 4, 3) := by decide +kernel
theorem dX12_back_39 : decode cX12_back 39 = .ok (.iconst 0, 1) := by decide +kernel
theorem dX12_back_40 : decode cX12_back 40 = .ok (.iconst 1, 1) := by decide +kernel
theorem dX12_back_41 : decode cX12_back 41 = .ok (.invokevirtual 169, 3) := by decide +kernel
theorem dX12_back_44 : decode cX12_back 44 = .ok (.ifCond .eq 5, 3) := by decide +kernel
theorem dX12_back_47 : decode cX12_back 47 = .ok (.iconst 0, 1) := by decide +kernel
theorem dX12_back_48 : decode cX12_back 48 = .ok (.ireturn, 1) := by decide +kernel
theorem dX12_back_49 : decode cX12_back 49 = .ok (.aload_n 0, 1) := by decide +kernel
theorem dX12_back_50 : decode cX12_back 50 = .ok (.iload_n 1, 1) := by decide +kernel
theorem dX12_back_51 : decode cX12_back 51 = .ok (.invokevirtual 307, 3) := by decide +kernel
theorem dX12_back_54 : decode cX12_back 54 = .ok (.iconst 0, 1) := by decide +kernel
theorem dX12_back_55 : decode cX12_back 55 = .ok (.istore 4, 2) := by decide +kernel
theorem dX12_back_57 : decode cX12_back 57 = .ok (.iload 4, 2) := by decide +kernel
theorem dX12_back_59 : decode cX12_back 59 = .ok (.ldc 80, 2) := by decide +kernel
theorem dX12_back_61 : decode cX12_back 61 = .ok (.if_icmp .ge 17, 3) := by decide +kernel
theorem dX12_back_64 : decode cX12_back 64 = .ok (.aload_n 0, 1) := by decide +kernel
theorem dX12_back_65 : decode cX12_back 65 = .ok (.getfield 81, 3) := by decide +kernel
theorem dX12_back_68 : decode cX12_back 68 = .ok (.iload 4, 2) := by decide +kernel
theorem dX12_back_70 : decode cX12_back 70 = .ok (.iconst (-1), 1) := by decide +kernel
theorem dX12_back_71 : decode cX12_back 71 = .ok (.iastore, 1) := by decide +kernel
theorem dX12_back_72 : decode cX12_back 72 = .ok (.iinc 4 1, 3) := by decide +kernel
theorem dX12_back_75 : decode cX12_back 75 = .ok (.goto (-18), 3) := by decide +kernel
theorem dX12_back_78 : decode cX12_back 78 = .ok (.aload_n 0, 1) := by decide +kernel
theorem dX12_back_79 : decode cX12_back 79 = .ok (.iconst 0, 1) := by decide +kernel
theorem dX12_back_80 : decode cX12_back 80 = .ok (.iconst 0, 1) := by decide +kernel
theorem dX12_back_81 : decode cX12_back 81 = .ok (.iconst 0, 1) := by decide +kernel
theorem dX12_back_82 : decode cX12_back 82 = .ok (.iconst 0, 1) := by decide +kernel
theorem dX12_back_83 : decode cX12_back 83 = .ok (.iconst 0, 1) := by decide +kernel
theorem dX12_back_84 : decode cX12_back 84 = .ok (.iload_n 2, 1) := by decide +kernel
theorem dX12_back_85 : decode cX12_back 85 = .ok (.invokevirtual 356, 3) := by decide +kernel
theorem dX12_back_88 : decode cX12_back 88 = .ok (.istore 4, 2) := by decide +kernel
theorem dX12_back_90 : decode cX12_back 90 = .ok (.iload_n 3, 1) := by decide +kernel
theorem dX12_back_91 : decode cX12_back 91 = .ok (.ifCond .ne 8, 3) := by decide +kernel
theorem dX12_back_94 : decode cX12_back 94 = .ok (.iload 4, 2) := by decide +kernel
theorem dX12_back_96 : decode cX12_back 96 = .ok (.goto 14, 3) := by decide +kernel
theorem dX12_back_99 : decode cX12_back 99 = .ok (.aload_n 0, 1) := by decide +kernel
theorem dX12_back_100 : decode cX12_back 100 = .ok (.getfield 58, 3) := by decide +kernel
theorem dX12_back_103 : decode cX12_back 103 = .ok (.aload_n 0, 1) := by decide +kernel
theorem dX12_back_104 : decode cX12_back 104 = .ok (.getfield 84, 3) := by decide +kernel
theorem dX12_back_107 : decode cX12_back 107 = .ok (.iconst 0, 1) := by decide +kernel
theorem dX12_back_108 : decode cX12_back 108 = .ok (.iaload, 1) := by decide +kernel
theorem dX12_back_109 : decode cX12_back 109 = .ok (.iaload, 1) := by decide +kernel
theorem dX12_back_110 : decode cX12_back 110 = .ok (.ireturn, 1) := by decide +kernel
set_option maxHeartbeats 4000000 in
set_option maxRecDepth 100000 in
/-- the reference: in -/
theorem m_in (l : Launch) (hl0 : l.stackTraces = false) (D : va_G) (cy : Nat → ClassId) (sa : Nat → Nat) (p0 p1 p2 : Int32) (sz : Nat) : Met l yX12_in (Cond.code yX12_in cX12_in 3 (some .boolean) :: kWS) ({ frames := 10, cells := 0, slots := 0, locals := 300 }) (kPre D cy sa [.int p0, .int p1, .int p2] [] sz) (va_Qi (fun (r : Int32) (_ : Unit) => r = if p1 ≤ p0 ∧ p0 ≤ p2 then 1 else 0) (kB D (va_A [] sz) (fun _ => [])) (va_A [] sz)) 0 0 (va_A [] sz) := by
  refine k_ofW (y := yX12_in) (cc := cX12_in) (maxL := 3) (ret := (some .boolean)) (av := [.int p0, .int p1, .int p2]) (ws := []) (Qc := fun A => va_Qi (fun (r : Int32) (_ : Unit) => r = if p1 ≤ p0 ∧ p0 ≤ p2 then 1 else 0) (kB D A (fun _ => [])) A) (by decide) (Nat.le_of_ble_eq_true rfl) ?_
  intro p e s m below meth c ls A E hA hP hD hG hS hl
  obtain ⟨hx, hb, hml, hown, hts, hr, hlk, hnm⟩ := id E
  have hown : s.vm.findClass RX12 = some m.cls := hown
  have hl : lv_has ls 3 [(0, .int p0), (1, .int p1), (2, .int p2)] := hl
  obtain ⟨H, hH⟩ : ∃ H, H = s.heap := ⟨_, rfl⟩
  have hP : va_P D vwCl [] H := by rw [hH]; exact hP
  have hS : va_S A s.heap H [] := by rw [hH]; exact va_S.rf
  rw [← hH]
  clear hH
  refine lv_iload_n hx hb dX12_in_0 rfl (lv_at hl 0 rfl) ?_
  refine lv_iload_n hx hb dX12_in_1 rfl (lv_at hl 1 rfl) ?_
  refine lv_icmp_lt (tgt := 14) hx hb dX12_in_2 (by decide) (fun c1 => ?_) (fun c1 => ?_)
  · refine lv_iconst (v := 0) hx hb dX12_in_14 (by decide) ?_
    exact k_zret () hx hb hr hlk (k_nz (by decide)) (by first | exact if_pos (by (simp only [k_lt, k_le, k_eq, k_L0, k_L1, k_L2, k_L3, k_L4, k_L5, k_L6, k_L7, k_L8, k_L9, k_L10, k_L15, k_L20, k_L30, k_L31, k_L40, k_L41, k_L60, k_L61, k_L99, k_L120, k_L239, k_L240, k_L479, k_L480, k_L500, k_L720, k_L999, k_L1000, k_L9999, k_Lm1] at c1 ⊢; omega)) | exact (if_pos (by (simp only [k_lt, k_le, k_eq, k_L0, k_L1, k_L2, k_L3, k_L4, k_L5, k_L6, k_L7, k_L8, k_L9, k_L10, k_L15, k_L20, k_L30, k_L31, k_L40, k_L41, k_L60, k_L61, k_L99, k_L120, k_L239, k_L240, k_L479, k_L480, k_L500, k_L720, k_L999, k_L1000, k_L9999, k_Lm1] at c1 ⊢; omega))).symm | exact if_neg (by (simp only [k_lt, k_le, k_eq, k_L0, k_L1, k_L2, k_L3, k_L4, k_L5, k_L6, k_L7, k_L8, k_L9, k_L10, k_L15, k_L20, k_L30, k_L31, k_L40, k_L41, k_L60, k_L61, k_L99, k_L120, k_L239, k_L240, k_L479, k_L480, k_L500, k_L720, k_L999, k_L1000, k_L9999, k_Lm1] at c1 ⊢; omega)) | exact (if_neg (by (simp only [k_lt, k_le, k_eq, k_L0, k_L1, k_L2, k_L3, k_L4, k_L5, k_L6, k_L7, k_L8, k_L9, k_L10, k_L15, k_L20, k_L30, k_L31, k_L40, k_L41, k_L60, k_L61, k_L99, k_L120, k_L239, k_L240, k_L479, k_L480, k_L500, k_L720, k_L999, k_L1000, k_L9999, k_Lm1] at c1 ⊢; omega))).symm) (hP.sub [] rfl) (hD.sub [] (by decide) rfl) hS (by decide) (by decide) dX12_in_15
  · refine lv_iload_n hx hb dX12_in_5 rfl (lv_at hl 0 rfl) ?_
    refine lv_iload_n hx hb dX12_in_6 rfl (lv_at hl 2 rfl) ?_
    refine lv_icmp_gt (tgt := 14) hx hb dX12_in_7 (by decide) (fun c2 => ?_) (fun c2 => ?_)
    · refine lv_iconst (v := 0) hx hb dX12_in_14 (by decide) ?_
      exact k_zret () hx hb hr hlk (k_nz (by decide)) (by first | exact if_pos (by (simp only [k_lt, k_le, k_eq, k_L0, k_L1, k_L2, k_L3, k_L4, k_L5, k_L6, k_L7, k_L8, k_L9, k_L10, k_L15, k_L20, k_L30, k_L31, k_L40, k_L41, k_L60, k_L61, k_L99, k_L120, k_L239, k_L240, k_L479, k_L480, k_L500, k_L720, k_L999, k_L1000, k_L9999, k_Lm1] at c1 c2 ⊢; omega)) | exact (if_pos (by (simp only [k_lt, k_le, k_eq, k_L0, k_L1, k_L2, k_L3, k_L4, k_L5, k_L6, k_L7, k_L8, k_L9, k_L10, k_L15, k_L20, k_L30, k_L31, k_L40, k_L41, k_L60, k_L61, k_L99, k_L120, k_L239, k_L240, k_L479, k_L480, k_L500, k_L720, k_L999, k_L1000, k_L9999, k_Lm1] at c1 c2 ⊢; omega))).symm | exact if_neg (by (simp only [k_lt, k_le, k_eq, k_L0, k_L1, k_L2, k_L3, k_L4, k_L5, k_L6, k_L7, k_L8, k_L9, k_L10, k_L15, k_L20, k_L30, k_L31, k_L40, k_L41, k_L60, k_L61, k_L99, k_L120, k_L239, k_L240, k_L479, k_L480, k_L500, k_L720, k_L999, k_L1000, k_L9999, k_Lm1] at c1 c2 ⊢; omega)) | exact (if_neg (by (simp only [k_lt, k_le, k_eq, k_L0, k_L1, k_L2, k_L3, k_L4, k_L5, k_L6, k_L7, k_L8, k_L9, k_L10, k_L15, k_L20, k_L30, k_L31, k_L40, k_L41, k_L60, k_L61, k_L99, k_L120, k_L239, k_L240, k_L479, k_L480, k_L500, k_L720, k_L999, k_L1000, k_L9999, k_Lm1] at c1 c2 ⊢; omega))).symm) (hP.sub [] rfl) (hD.sub [] (by decide) rfl) hS (by decide) (by decide) dX12_in_15
    · refine lv_iconst (v := 1) hx hb dX12_in_10 (by decide) ?_
      refine lv_goto (tgt := 15) hx hb dX12_in_11 (by decide) ?_
      exact k_zret () hx hb hr hlk (k_nz (by decide)) (by first | exact if_pos (by (simp only [k_lt, k_le, k_eq, k_L0, k_L1, k_L2, k_L3, k_L4, k_L5, k_L6, k_L7, k_L8, k_L9, k_L10, k_L15, k_L20, k_L30, k_L31, k_L40, k_L41, k_L60, k_L61, k_L99, k_L120, k_L239, k_L240, k_L479, k_L480, k_L500, k_L720, k_L999, k_L1000, k_L9999, k_Lm1] at c1 c2 ⊢; omega)) | exact (if_pos (by (simp only [k_lt, k_le, k_eq, k_L0, k_L1, k_L2, k_L3, k_L4, k_L5, k_L6, k_L7, k_L8, k_L9, k_L10, k_L15, k_L20, k_L30, k_L31, k_L40, k_L41, k_L60, k_L61, k_L99, k_L120, k_L239, k_L240, k_L479, k_L480, k_L500, k_L720, k_L999, k_L1000, k_L9999, k_Lm1] at c1 c2 ⊢; omega))).symm | exact if_neg (by (simp only [k_lt, k_le, k_eq, k_L0, k_L1, k_L2, k_L3, k_L4, k_L5, k_L6, k_L7, k_L8, k_L9, k_L10, k_L15, k_L20, k_L30, k_L31, k_L40, k_L41, k_L60, k_L61, k_L99, k_L120, k_L239, k_L240, k_L479, k_L480, k_L500, k_L720, k_L999, k_L1000, k_L9999, k_Lm1] at c1 c2 ⊢; omega)) | exact (if_neg (by (simp only [k_lt, k_le, k_eq, k_L0, k_L1, k_L2, k_L3, k_L4, k_L5, k_L6, k_L7, k_L8, k_L9, k_L10, k_L15, k_L20, k_L30, k_L31, k_L40, k_L41, k_L60, k_L61, k_L99, k_L120, k_L239, k_L240, k_L479, k_L480, k_L500, k_L720, k_L999, k_L1000, k_L9999, k_Lm1] at c1 c2 ⊢; omega))).symm) (hP.sub [] rfl) (hD.sub [] (by decide) rfl) hS (by decide) (by decide) dX12_in_15

set_option maxHeartbeats 4000000 in
set_option maxRecDepth 100000 in
/-- the reference: isWait -/
theorem m_isWait (l : Launch) (hl0 : l.stackTraces = false) (D : va_G) (cy : Nat → ClassId) (sa : Nat → Nat) (p0 : Int32) (sz : Nat) : Met l yX12_isWait (Cond.code yX12_isWait cX12_isWait 1 (some .boolean) :: kWS) ({ frames := 11, cells := 0, slots := 0, locals := 360 }) (kPre D cy sa [.int p0] [] sz) (va_Qi (fun (r : Int32) (_ : Unit) => r = if 1 ≤ p0 ∧ p0 ≤ 60 then 1 else 0) (kB D (va_A [] sz) (fun _ => [])) (va_A [] sz)) 0 0 (va_A [] sz) := by
  refine k_ofW (y := yX12_isWait) (cc := cX12_isWait) (maxL := 1) (ret := (some .boolean)) (av := [.int p0]) (ws := []) (Qc := fun A => va_Qi (fun (r : Int32) (_ : Unit) => r = if 1 ≤ p0 ∧ p0 ≤ 60 then 1 else 0) (kB D A (fun _ => [])) A) (by decide) (Nat.le_of_ble_eq_true rfl) ?_
  intro p e s m below meth c ls A E hA hP hD hG hS hl
  obtain ⟨hx, hb, hml, hown, hts, hr, hlk, hnm⟩ := id E
  have hown : s.vm.findClass RX12 = some m.cls := hown
  have hl : lv_has ls 1 [(0, .int p0)] := hl
  obtain ⟨H, hH⟩ : ∃ H, H = s.heap := ⟨_, rfl⟩
  have hP : va_P D vwCl [] H := by rw [hH]; exact hP
  have hS : va_S A s.heap H [] := by rw [hH]; exact va_S.rf
  rw [← hH]
  clear hH
  refine lv_iload_n hx hb dX12_isWait_0 rfl (lv_at hl 0 rfl) ?_
  refine lv_iconst (v := 1) hx hb dX12_isWait_1 (by decide) ?_
  refine lv_bipush (v := 60) hx hb dX12_isWait_2 (by decide) ?_
  refine k_cali [] (⟨hP, hD, hG, hS, hA, rfl, rfl⟩ : kAt D cy sa A s H _ _ [] []) (wr := []) rfl rfl (by decide) (k_runS (As := [.int p0, .int 1, .int 60]) (rest := []) E lk_SRX12_124 (m_in l hl0 D cy sa p0 1 60 H.size) (⟨hP, hD, hG, hS, hA, rfl, rfl⟩ : kAt D cy sa A s H _ _ [] []) hl.1 rfl rfl ⟨rfl, rfl, ⟨Nat.le_of_ble_eq_true rfl, Nat.le_of_ble_eq_true rfl⟩, ⟨Nat.le_of_ble_eq_true rfl, Nat.le_of_ble_eq_true rfl⟩, Nat.le_of_ble_eq_true rfl⟩ dX12_isWait_4) (fun r1 u2 H locs hwu2 hP hD hS => ?_)
  have hP : va_P D vwCl [] H := hP
  have hD : va_D A [] := hD
  rcases k_if hwu2 with ⟨c3, rfl⟩ | ⟨c3, rfl⟩
  · exact k_zret () hx hb hr hlk (k_nz (by decide)) (by first | exact if_pos (by (simp only [k_lt, k_le, k_eq, k_L0, k_L1, k_L2, k_L3, k_L4, k_L5, k_L6, k_L7, k_L8, k_L9, k_L10, k_L15, k_L20, k_L30, k_L31, k_L40, k_L41, k_L60, k_L61, k_L99, k_L120, k_L239, k_L240, k_L479, k_L480, k_L500, k_L720, k_L999, k_L1000, k_L9999, k_Lm1] at c3 ⊢; omega)) | exact (if_pos (by (simp only [k_lt, k_le, k_eq, k_L0, k_L1, k_L2, k_L3, k_L4, k_L5, k_L6, k_L7, k_L8, k_L9, k_L10, k_L15, k_L20, k_L30, k_L31, k_L40, k_L41, k_L60, k_L61, k_L99, k_L120, k_L239, k_L240, k_L479, k_L480, k_L500, k_L720, k_L999, k_L1000, k_L9999, k_Lm1] at c3 ⊢; omega))).symm | exact if_neg (by (simp only [k_lt, k_le, k_eq, k_L0, k_L1, k_L2, k_L3, k_L4, k_L5, k_L6, k_L7, k_L8, k_L9, k_L10, k_L15, k_L20, k_L30, k_L31, k_L40, k_L41, k_L60, k_L61, k_L99, k_L120, k_L239, k_L240, k_L479, k_L480, k_L500, k_L720, k_L999, k_L1000, k_L9999, k_Lm1] at c3 ⊢; omega)) | exact (if_neg (by (simp only [k_lt, k_le, k_eq, k_L0, k_L1, k_L2, k_L3, k_L4, k_L5, k_L6, k_L7, k_L8, k_L9, k_L10, k_L15, k_L20, k_L30, k_L31, k_L40, k_L41, k_L60, k_L61, k_L99, k_L120, k_L239, k_L240, k_L479, k_L480, k_L500, k_L720, k_L999, k_L1000, k_L9999, k_Lm1] at c3 ⊢; omega))).symm) (hP.sub [] rfl) (hD.sub [] (by decide) rfl) hS (by decide) (by decide) dX12_isWait_7
  · exact k_zret () hx hb hr hlk (k_nz (by decide)) (by first | exact if_pos (by (simp only [k_lt, k_le, k_eq, k_L0, k_L1, k_L2, k_L3, k_L4, k_L5, k_L6, k_L7, k_L8, k_L9, k_L10, k_L15, k_L20, k_L30, k_L31, k_L40, k_L41, k_L60, k_L61, k_L99, k_L120, k_L239, k_L240, k_L479, k_L480, k_L500, k_L720, k_L999, k_L1000, k_L9999, k_Lm1] at c3 ⊢; omega)) | exact (if_pos (by (simp only [k_lt, k_le, k_eq, k_L0, k_L1, k_L2, k_L3, k_L4, k_L5, k_L6, k_L7, k_L8, k_L9, k_L10, k_L15, k_L20, k_L30, k_L31, k_L40, k_L41, k_L60, k_L61, k_L99, k_L120, k_L239, k_L240, k_L479, k_L480, k_L500, k_L720, k_L999, k_L1000, k_L9999, k_Lm1] at c3 ⊢; omega))).symm | exact if_neg (by (simp only [k_lt, k_le, k_eq, k_L0, k_L1, k_L2, k_L3, k_L4, k_L5, k_L6, k_L7, k_L8, k_L9, k_L10, k_L15, k_L20, k_L30, k_L31, k_L40, k_L41, k_L60, k_L61, k_L99, k_L120, k_L239, k_L240, k_L479, k_L480, k_L500, k_L720, k_L999, k_L1000, k_L9999, k_Lm1] at c3 ⊢; omega)) | exact (if_neg (by (simp only [k_lt, k_le, k_eq, k_L0, k_L1, k_L2, k_L3, k_L4, k_L5, k_L6, k_L7, k_L8, k_L9, k_L10, k_L15, k_L20, k_L30, k_L31, k_L40, k_L41, k_L60, k_L61, k_L99, k_L120, k_L239, k_L240, k_L479, k_L480, k_L500, k_L720, k_L999, k_L1000, k_L9999, k_Lm1] at c3 ⊢; omega))).symm) (hP.sub [] rfl) (hD.sub [] (by decide) rfl) hS (by decide) (by decide) dX12_isWait_7

set_option maxHeartbeats 4000000 in
set_option maxRecDepth 100000 in
/-- the reference: more -/
theorem m_more (l : Launch) (hl0 : l.stackTraces = false) (D : va_G) (cy : Nat → ClassId) (sa : Nat → Nat) (p0 p1 : Int32) (sz : Nat) : Met l yX12_more (Cond.code yX12_more cX12_more 2 (some .int) :: kWS) ({ frames := 10, cells := 0, slots := 0, locals := 300 }) (kPre D cy sa [.int p0, .int p1] [] sz) (va_Qi (fun (r : Int32) (_ : Unit) => r = if p1 < p0 then p0 else p1) (kB D (va_A [] sz) (fun _ => [])) (va_A [] sz)) 0 0 (va_A [] sz) := by
  refine k_ofW (y := yX12_more) (cc := cX12_more) (maxL := 2) (ret := (some .int)) (av := [.int p0, .int p1]) (ws := []) (Qc := fun A => va_Qi (fun (r : Int32) (_ : Unit) => r = if p1 < p0 then p0 else p1) (kB D A (fun _ => [])) A) (by decide) (Nat.le_of_ble_eq_true rfl) ?_
  intro p e s m below meth c ls A E hA hP hD hG hS hl
  obtain ⟨hx, hb, hml, hown, hts, hr, hlk, hnm⟩ := id E
  have hown : s.vm.findClass RX12 = some m.cls := hown
  have hl : lv_has ls 2 [(0, .int p0), (1, .int p1)] := hl
  obtain ⟨H, hH⟩ : ∃ H, H = s.heap := ⟨_, rfl⟩
  have hP : va_P D vwCl [] H := by rw [hH]; exact hP
  have hS : va_S A s.heap H [] := by rw [hH]; exact va_S.rf
  rw [← hH]
  clear hH
  refine lv_iload_n hx hb dX12_more_0 rfl (lv_at hl 0 rfl) ?_
  refine lv_iload_n hx hb dX12_more_1 rfl (lv_at hl 1 rfl) ?_
  refine lv_icmp_le (tgt := 9) hx hb dX12_more_2 (by decide) (fun c1 => ?_) (fun c1 => ?_)
  · refine lv_iload_n hx hb dX12_more_9 rfl (lv_at hl 1 rfl) ?_
    exact k_iret () hx hb hr hlk (by first | exact (if_pos (by (simp only [k_lt, k_le, k_eq, k_L0, k_L1, k_L2, k_L3, k_L4, k_L5, k_L6, k_L7, k_L8, k_L9, k_L10, k_L15, k_L20, k_L30, k_L31, k_L40, k_L41, k_L60, k_L61, k_L99, k_L120, k_L239, k_L240, k_L479, k_L480, k_L500, k_L720, k_L999, k_L1000, k_L9999, k_Lm1] at c1 ⊢; omega))).symm | exact (if_neg (by (simp only [k_lt, k_le, k_eq, k_L0, k_L1, k_L2, k_L3, k_L4, k_L5, k_L6, k_L7, k_L8, k_L9, k_L10, k_L15, k_L20, k_L30, k_L31, k_L40, k_L41, k_L60, k_L61, k_L99, k_L120, k_L239, k_L240, k_L479, k_L480, k_L500, k_L720, k_L999, k_L1000, k_L9999, k_Lm1] at c1 ⊢; omega))).symm) (hP.sub [] rfl) (hD.sub [] (by decide) rfl) hS (by decide) (by decide) dX12_more_10
  · refine lv_iload_n hx hb dX12_more_5 rfl (lv_at hl 0 rfl) ?_
    refine lv_goto (tgt := 10) hx hb dX12_more_6 (by decide) ?_
    exact k_iret () hx hb hr hlk (by first | exact (if_pos (by (simp only [k_lt, k_le, k_eq, k_L0, k_L1, k_L2, k_L3, k_L4, k_L5, k_L6, k_L7, k_L8, k_L9, k_L10, k_L15, k_L20, k_L30, k_L31, k_L40, k_L41, k_L60, k_L61, k_L99, k_L120, k_L239, k_L240, k_L479, k_L480, k_L500, k_L720, k_L999, k_L1000, k_L9999, k_Lm1] at c1 ⊢; omega))).symm | exact (if_neg (by (simp only [k_lt, k_le, k_eq, k_L0, k_L1, k_L2, k_L3, k_L4, k_L5, k_L6, k_L7, k_L8, k_L9, k_L10, k_L15, k_L20, k_L30, k_L31, k_L40, k_L41, k_L60, k_L61, k_L99, k_L120, k_L239, k_L240, k_L479, k_L480, k_L500, k_L720, k_L999, k_L1000, k_L9999, k_Lm1] at c1 ⊢; omega))).symm) (hP.sub [] rfl) (hD.sub [] (by decide) rfl) hS (by decide) (by decide) dX12_more_10

set_option maxHeartbeats 4000000 in
set_option maxRecDepth 100000 in
/-- the reference: bad0 -/
theorem m_bad0 (l : Launch) (hl0 : l.stackTraces = false) (D : va_G) (cy : Nat → ClassId) (sa : Nat → Nat) (v : Nat → Nat) (p1 : Int32) (sz : Nat) : Met l yX12_bad (Cond.code yX12_bad cX12_bad 3 (some .boolean) :: kWS) ({ frames := 10, cells := 0, slots := 0, locals := 300 }) (kPre D cy sa [.ref (v 0), .int 0, .int p1] [((v 0), .inr (13, [.int 0, .int 0, .int 0, .int (-1), .int 0, .int 0, .int 0, .int 0, .ref (v 1), .ref (v 2), .ref (v 3), .ref (v 4), .ref (v 5), .ref (v 6), .ref (v 7), .ref (v 8), .ref (v 9), .int 0, .int 0, .int 0, .int 0, .int 0, .int 0, .int 0, .int 0, .int 0, .ref (v 10), .ref (v 11), .ref (v 12), .ref (v 13), .int 0, .ref (v 14), .ref (v 15), .ref (v 16), .ref (v 17), .ref (v 18), .int 0, .int 0, .int 0, .ref (v 19), .ref (v 20), .ref (v 21), .ref (v 22), .ref (v 23), .int 0, .int 0, .int 0, .int 0]))] sz) (va_Qi (fun (r : Int32) (_ : Unit) => r = 0) (kB D (va_A [((v 0), .inr (13, [.int 0, .int 0, .int 0, .int (-1), .int 0, .int 0, .int 0, .int 0, .ref (v 1), .ref (v 2), .ref (v 3), .ref (v 4), .ref (v 5), .ref (v 6), .ref (v 7), .ref (v 8), .ref (v 9), .int 0, .int 0, .int 0, .int 0, .int 0, .int 0, .int 0, .int 0, .int 0, .ref (v 10), .ref (v 11), .ref (v 12), .ref (v 13), .int 0, .ref (v 14), .ref (v 15), .ref (v 16), .ref (v 17), .ref (v 18), .int 0, .int 0, .int 0, .ref (v 19), .ref (v 20), .ref (v 21), .ref (v 22), .ref (v 23), .int 0, .int 0, .int 0, .int 0]))] sz) (fun _ => [((v 0), .inr (13, [.int 0, .int 0, .int 0, .int (-1), .int 0, .int 0, .int 0, .int 0, .ref (v 1), .ref (v 2), .ref (v 3), .ref (v 4), .ref (v 5), .ref (v 6), .ref (v 7), .ref (v 8), .ref (v 9), .int 0, .int 0, .int 0, .int 0, .int 0, .int 0, .int 0, .int 0, .int 0, .ref (v 10), .ref (v 11), .ref (v 12), .ref (v 13), .int 0, .ref (v 14), .ref (v 15), .ref (v 16), .ref (v 17), .ref (v 18), .int 0, .int 0, .int 0, .ref (v 19), .ref (v 20), .ref (v 21), .ref (v 22), .ref (v 23), .int 0, .int 0, .int 0, .int 0]))])) (va_A [((v 0), .inr (13, [.int 0, .int 0, .int 0, .int (-1), .int 0, .int 0, .int 0, .int 0, .ref (v 1), .ref (v 2), .ref (v 3), .ref (v 4), .ref (v 5), .ref (v 6), .ref (v 7), .ref (v 8), .ref (v 9), .int 0, .int 0, .int 0, .int 0, .int 0, .int 0, .int 0, .int 0, .int 0, .ref (v 10), .ref (v 11), .ref (v 12), .ref (v 13), .int 0, .ref (v 14), .ref (v 15), .ref (v 16), .ref (v 17), .ref (v 18), .int 0, .int 0, .int 0, .ref (v 19), .ref (v 20), .ref (v 21), .ref (v 22), .ref (v 23), .int 0, .int 0, .int 0, .int 0]))] sz)) 0 0 (va_A [((v 0), .inr (13, [.int 0, .int 0, .int 0, .int (-1), .int 0, .int 0, .int 0, .int 0, .ref (v 1), .ref (v 2), .ref (v 3), .ref (v 4), .ref (v 5), .ref (v 6), .ref (v 7), .ref (v 8), .ref (v 9), .int 0, .int 0, .int 0, .int 0, .int 0, .int 0, .int 0, .int 0, .int 0, .ref (v 10), .ref (v 11), .ref (v 12), .ref (v 13), .int 0, .ref (v 14), .ref (v 15), .ref (v 16), .ref (v 17), .ref (v 18), .int 0, .int 0, .int 0, .ref (v 19), .ref (v 20), .ref (v 21), .ref (v 22), .ref (v 23), .int 0, .int 0, .int 0, .int 0]))] sz) := by
  refine k_ofW (y := yX12_bad) (cc := cX12_bad) (maxL := 3) (ret := (some .boolean)) (av := [.ref (v 0), .int 0, .int p1]) (ws := [((v 0), .inr (13, [.int 0, .int 0, .int 0, .int (-1), .int 0, .int 0, .int 0, .int 0, .ref (v 1), .ref (v 2), .ref (v 3), .ref (v 4), .ref (v 5), .ref (v 6), .ref (v 7), .ref (v 8), .ref (v 9), .int 0, .int 0, .int 0, .int 0, .int 0, .int 0, .int 0, .int 0, .int 0, .ref (v 10), .ref (v 11), .ref (v 12), .ref (v 13), .int 0, .ref (v 14), .ref (v 15), .ref (v 16), .ref (v 17), .ref (v 18), .int 0, .int 0, .int 0, .ref (v 19), .ref (v 20), .ref (v 21), .ref (v 22), .ref (v 23), .int 0, .int 0, .int 0, .int 0]))]) (Qc := fun A => va_Qi (fun (r : Int32) (_ : Unit) => r = 0) (kB D A (fun _ => [((v 0), .inr (13, [.int 0, .int 0, .int 0, .int (-1), .int 0, .int 0, .int 0, .int 0, .ref (v 1), .ref (v 2), .ref (v 3), .ref (v 4), .ref (v 5), .ref (v 6), .ref (v 7), .ref (v 8), .ref (v 9), .int 0, .int 0, .int 0, .int 0, .int 0, .int 0, .int 0, .int 0, .int 0, .ref (v 10), .ref (v 11), .ref (v 12), .ref (v 13), .int 0, .ref (v 14), .ref (v 15), .ref (v 16), .ref (v 17), .ref (v 18), .int 0, .int 0, .int 0, .ref (v 19), .ref (v 20), .ref (v 21), .ref (v 22), .ref (v 23), .int 0, .int 0, .int 0, .int 0]))])) A) (by decide) (Nat.le_of_ble_eq_true rfl) ?_
  intro p e s m below meth c ls A E hA hP hD hG hS hl
  obtain ⟨hx, hb, hml, hown, hts, hr, hlk, hnm⟩ := id E
  have hown : s.vm.findClass RX12 = some m.cls := hown
  have hl : lv_has ls 3 [(0, .ref (v 0)), (1, .int 0), (2, .int p1)] := hl
  obtain ⟨H, hH⟩ : ∃ H, H = s.heap := ⟨_, rfl⟩
  have hP : va_P D vwCl [((v 0), .inr (13, [.int 0, .int 0, .int 0, .int (-1), .int 0, .int 0, .int 0, .int 0, .ref (v 1), .ref (v 2), .ref (v 3), .ref (v 4), .ref (v 5), .ref (v 6), .ref (v 7), .ref (v 8), .ref (v 9), .int 0, .int 0, .int 0, .int 0, .int 0, .int 0, .int 0, .int 0, .int 0, .ref (v 10), .ref (v 11), .ref (v 12), .ref (v 13), .int 0, .ref (v 14), .ref (v 15), .ref (v 16), .ref (v 17), .ref (v 18), .int 0, .int 0, .int 0, .ref (v 19), .ref (v 20), .ref (v 21), .ref (v 22), .ref (v 23), .int 0, .int 0, .int 0, .int 0]))] H := by rw [hH]; exact hP
  have hS : va_S A s.heap H [] := by rw [hH]; exact va_S.rf
  rw [← hH]
  clear hH
  refine lv_iload_n hx hb dX12_bad_0 rfl (lv_at hl 1 rfl) ?_
  refine lv_if_eq (tgt := 16) hx hb dX12_bad_1 (by decide) (fun _ => ?_) (fun h => absurd (by decide) h)
  refine lv_aload_n hx hb dX12_bad_16 rfl (lv_at hl 0 rfl) ?_
  refine va_get (D := D) (ci := 13) (v := .int 0) (C := RX12) (T := TX12) (N := 48) hx hb hts kin_RX12 hown hG.1 hP 0 rfl rfl 0 (by decide) (hts _ wm_1519) (fun _ h9 => h9) rfl dX12_bad_17 ?_
  refine lv_if_eq (tgt := 27) hx hb dX12_bad_20 (by decide) (fun _ => ?_) (fun h => absurd (by decide) h)
  refine lv_iconst (v := 0) hx hb dX12_bad_27 (by decide) ?_
  exact k_zret () hx hb hr hlk (k_nz (by decide)) (rfl) (hP.sub [0] rfl) (hD.sub [0] (by decide) rfl) hS (by decide) (by decide) dX12_bad_28

set_option maxHeartbeats 4000000 in
set_option maxRecDepth 100000 in
/-- the reference: bad1 -/
theorem m_bad1 (l : Launch) (hl0 : l.stackTraces = false) (D : va_G) (cy : Nat → ClassId) (sa : Nat → Nat) (v : Nat → Nat) (sz : Nat) : Met l yX12_bad (Cond.code yX12_bad cX12_bad 3 (some .boolean) :: kWS) ({ frames := 10, cells := 0, slots := 0, locals := 300 }) (kPre D cy sa [.ref (v 0), .int 1, .int 1] [((v 0), .inr (13, [.int 0, .int 0, .int 0, .int (-1), .int 0, .int 0, .int 0, .int 0, .ref (v 1), .ref (v 2), .ref (v 3), .ref (v 4), .ref (v 5), .ref (v 6), .ref (v 7), .ref (v 8), .ref (v 9), .int 0, .int 0, .int 0, .int 0, .int 0, .int 0, .int 0, .int 0, .int 0, .ref (v 10), .ref (v 11), .ref (v 12), .ref (v 13), .int 0, .ref (v 14), .ref (v 15), .ref (v 16), .ref (v 17), .ref (v 18), .int 0, .int 0, .int 0, .ref (v 19), .ref (v 20), .ref (v 21), .ref (v 22), .ref (v 23), .int 0, .int 0, .int 0, .int 0]))] sz) (va_Qi (fun (r : Int32) (_ : Unit) => r = 1) (kB D (va_A [((v 0), .inr (13, [.int 0, .int 0, .int 0, .int (-1), .int 0, .int 0, .int 0, .int 0, .ref (v 1), .ref (v 2), .ref (v 3), .ref (v 4), .ref (v 5), .ref (v 6), .ref (v 7), .ref (v 8), .ref (v 9), .int 0, .int 0, .int 0, .int 0, .int 0, .int 0, .int 0, .int 0, .int 0, .ref (v 10), .ref (v 11), .ref (v 12), .ref (v 13), .int 0, .ref (v 14), .ref (v 15), .ref (v 16), .ref (v 17), .ref (v 18), .int 0, .int 0, .int 0, .ref (v 19), .ref (v 20), .ref (v 21), .ref (v 22), .ref (v 23), .int 0, .int 0, .int 0, .int 0]))] sz) (fun _ => [((v 0), .inr (13, [.int 1, .int 0, .int 0, .int (-1), .int 0, .int 0, .int 0, .int 0, .ref (v 1), .ref (v 2), .ref (v 3), .ref (v 4), .ref (v 5), .ref (v 6), .ref (v 7), .ref (v 8), .ref (v 9), .int 0, .int 0, .int 0, .int 0, .int 0, .int 0, .int 0, .int 0, .int 0, .ref (v 10), .ref (v 11), .ref (v 12), .ref (v 13), .int 0, .ref (v 14), .ref (v 15), .ref (v 16), .ref (v 17), .ref (v 18), .int 0, .int 0, .int 0, .ref (v 19), .ref (v 20), .ref (v 21), .ref (v 22), .ref (v 23), .int 0, .int 0, .int 0, .int 0]))])) (va_A [((v 0), .inr (13, [.int 0, .int 0, .int 0, .int (-1), .int 0, .int 0, .int 0, .int 0, .ref (v 1), .ref (v 2), .ref (v 3), .ref (v 4), .ref (v 5), .ref (v 6), .ref (v 7), .ref (v 8), .ref (v 9), .int 0, .int 0, .int 0, .int 0, .int 0, .int 0, .int 0, .int 0, .int 0, .ref (v 10), .ref (v 11), .ref (v 12), .ref (v 13), .int 0, .ref (v 14), .ref (v 15), .ref (v 16), .ref (v 17), .ref (v 18), .int 0, .int 0, .int 0, .ref (v 19), .ref (v 20), .ref (v 21), .ref (v 22), .ref (v 23), .int 0, .int 0, .int 0, .int 0]))] sz)) 0 0 (va_A [((v 0), .inr (13, [.int 0, .int 0, .int 0, .int (-1), .int 0, .int 0, .int 0, .int 0, .ref (v 1), .ref (v 2), .ref (v 3), .ref (v 4), .ref (v 5), .ref (v 6), .ref (v 7), .ref (v 8), .ref (v 9), .int 0, .int 0, .int 0, .int 0, .int 0, .int 0, .int 0, .int 0, .int 0, .ref (v 10), .ref (v 11), .ref (v 12), .ref (v 13), .int 0, .ref (v 14), .ref (v 15), .ref (v 16), .ref (v 17), .ref (v 18), .int 0, .int 0, .int 0, .ref (v 19), .ref (v 20), .ref (v 21), .ref (v 22), .ref (v 23), .int 0, .int 0, .int 0, .int 0]))] sz) := by
  refine k_ofW (y := yX12_bad) (cc := cX12_bad) (maxL := 3) (ret := (some .boolean)) (av := [.ref (v 0), .int 1, .int 1]) (ws := [((v 0), .inr (13, [.int 0, .int 0, .int 0, .int (-1), .int 0, .int 0, .int 0, .int 0, .ref (v 1), .ref (v 2), .ref (v 3), .ref (v 4), .ref (v 5), .ref (v 6), .ref (v 7), .ref (v 8), .ref (v 9), .int 0, .int 0, .int 0, .int 0, .int 0, .int 0, .int 0, .int 0, .int 0, .ref (v 10), .ref (v 11), .ref (v 12), .ref (v 13), .int 0, .ref (v 14), .ref (v 15), .ref (v 16), .ref (v 17), .ref (v 18), .int 0, .int 0, .int 0, .ref (v 19), .ref (v 20), .ref (v 21), .ref (v 22), .ref (v 23), .int 0, .int 0, .int 0, .int 0]))]) (Qc := fun A => va_Qi (fun (r : Int32) (_ : Unit) => r = 1) (kB D A (fun _ => [((v 0), .inr (13, [.int 1, .int 0, .int 0, .int (-1), .int 0, .int 0, .int 0, .int 0, .ref (v 1), .ref (v 2), .ref (v 3), .ref (v 4), .ref (v 5), .ref (v 6), .ref (v 7), .ref (v 8), .ref (v 9), .int 0, .int 0, .int 0, .int 0, .int 0, .int 0, .int 0, .int 0, .int 0, .ref (v 10), .ref (v 11), .ref (v 12), .ref (v 13), .int 0, .ref (v 14), .ref (v 15), .ref (v 16), .ref (v 17), .ref (v 18), .int 0, .int 0, .int 0, .ref (v 19), .ref (v 20), .ref (v 21), .ref (v 22), .ref (v 23), .int 0, .int 0, .int 0, .int 0]))])) A) (by decide) (Nat.le_of_ble_eq_true rfl) ?_
  intro p e s m below meth c ls A E hA hP hD hG hS hl
  obtain ⟨hx, hb, hml, hown, hts, hr, hlk, hnm⟩ := id E
  have hown : s.vm.findClass RX12 = some m.cls := hown
  have hl : lv_has ls 3 [(0, .ref (v 0)), (1, .int 1), (2, .int 1)] := hl
  obtain ⟨H, hH⟩ : ∃ H, H = s.heap := ⟨_, rfl⟩
  have hP : va_P D vwCl [((v 0), .inr (13, [.int 0, .int 0, .int 0, .int (-1), .int 0, .int 0, .int 0, .int 0, .ref (v 1), .ref (v 2), .ref (v 3), .ref (v 4), .ref (v 5), .ref (v 6), .ref (v 7), .ref (v 8), .ref (v 9), .int 0, .int 0, .int 0, .int 0, .int 0, .int 0, .int 0, .int 0, .int 0, .ref (v 10), .ref (v 11), .ref (v 12), .ref (v 13), .int 0, .ref (v 14), .ref (v 15), .ref (v 16), .ref (v 17), .ref (v 18), .int 0, .int 0, .int 0, .ref (v 19), .ref (v 20), .ref (v 21), .ref (v 22), .ref (v 23), .int 0, .int 0, .int 0, .int 0]))] H := by rw [hH]; exact hP
  have hS : va_S A s.heap H [] := by rw [hH]; exact va_S.rf
  rw [← hH]
  clear hH
  refine lv_iload_n hx hb dX12_bad_0 rfl (lv_at hl 1 rfl) ?_
  refine lv_if_eq (tgt := 16) hx hb dX12_bad_1 (by decide) (fun h => absurd h (by decide)) (fun _ => ?_)
  refine lv_aload_n hx hb dX12_bad_4 rfl (lv_at hl 0 rfl) ?_
  refine va_get (D := D) (ci := 13) (v := .int 0) (C := RX12) (T := TX12) (N := 48) hx hb hts kin_RX12 hown hG.1 hP 0 rfl rfl 0 (by decide) (hts _ wm_1519) (fun _ h9 => h9) rfl dX12_bad_5 ?_
  refine lv_if_ne (tgt := 16) hx hb dX12_bad_8 (by decide) (fun h => absurd (by decide) h) (fun _ => ?_)
  refine lv_aload_n hx hb dX12_bad_11 rfl (lv_at hl 0 rfl) ?_
  refine lv_iload_n hx hb dX12_bad_12 rfl (lv_at hl 2 rfl) ?_
  refine va_put (D := D) (ci := 13) (v := .int 1) (ty := .int) (C := RX12) (T := TX12) (N := 48) hx hb hts kin_RX12 tyX12 tyX12_ok nmX12 hown hG.1 hP hD hS 0 rfl rfl 0 (by decide) (hts _ wm_1519) (fun _ h9 => h9) rfl (by decide +kernel) rfl rfl (Nat.le_of_ble_eq_true rfl) dX12_bad_13 (fun H locs hP hD hS => ?_)
  have hP : va_P D vwCl [((v 0), .inr (13, [.int 1, .int 0, .int 0, .int (-1), .int 0, .int 0, .int 0, .int 0, .ref (v 1), .ref (v 2), .ref (v 3), .ref (v 4), .ref (v 5), .ref (v 6), .ref (v 7), .ref (v 8), .ref (v 9), .int 0, .int 0, .int 0, .int 0, .int 0, .int 0, .int 0, .int 0, .int 0, .ref (v 10), .ref (v 11), .ref (v 12), .ref (v 13), .int 0, .ref (v 14), .ref (v 15), .ref (v 16), .ref (v 17), .ref (v 18), .int 0, .int 0, .int 0, .ref (v 19), .ref (v 20), .ref (v 21), .ref (v 22), .ref (v 23), .int 0, .int 0, .int 0, .int 0]))] H := hP
  have hD : va_D A [((v 0), .inr (13, [.int 1, .int 0, .int 0, .int (-1), .int 0, .int 0, .int 0, .int 0, .ref (v 1), .ref (v 2), .ref (v 3), .ref (v 4), .ref (v 5), .ref (v 6), .ref (v 7), .ref (v 8), .ref (v 9), .int 0, .int 0, .int 0, .int 0, .int 0, .int 0, .int 0, .int 0, .int 0, .ref (v 10), .ref (v 11), .ref (v 12), .ref (v 13), .int 0, .ref (v 14), .ref (v 15), .ref (v 16), .ref (v 17), .ref (v 18), .int 0, .int 0, .int 0, .ref (v 19), .ref (v 20), .ref (v 21), .ref (v 22), .ref (v 23), .int 0, .int 0, .int 0, .int 0]))] := hD
  refine lv_aload_n hx hb dX12_bad_16 rfl (lv_at hl 0 rfl) ?_
  refine va_get (D := D) (ci := 13) (v := .int 1) (C := RX12) (T := TX12) (N := 48) hx hb hts kin_RX12 hown hG.1 hP 0 rfl rfl 0 (by decide) (hts _ wm_1519) (fun _ h9 => h9) rfl dX12_bad_17 ?_
  refine lv_if_eq (tgt := 27) hx hb dX12_bad_20 (by decide) (fun h => absurd h (by decide)) (fun _ => ?_)
  refine lv_iconst (v := 1) hx hb dX12_bad_23 (by decide) ?_
  refine lv_goto (tgt := 28) hx hb dX12_bad_24 (by decide) ?_
  exact k_zret () hx hb hr hlk (k_nz (by decide)) (rfl) (hP.sub [0] rfl) (hD.sub [0] (by decide) rfl) hS (by decide) (by decide) dX12_bad_28

set_option maxHeartbeats 4000000 in
set_option maxRecDepth 100000 in
/-- the reference: bad2 -/
theorem m_bad2 (l : Launch) (hl0 : l.stackTraces = false) (D : va_G) (cy : Nat → ClassId) (sa : Nat → Nat) (v : Nat → Nat) (sz : Nat) : Met l yX12_bad (Cond.code yX12_bad cX12_bad 3 (some .boolean) :: kWS) ({ frames := 10, cells := 0, slots := 0, locals := 300 }) (kPre D cy sa [.ref (v 0), .int 1, .int 2] [((v 0), .inr (13, [.int 0, .int 0, .int 0, .int (-1), .int 0, .int 0, .int 0, .int 0, .ref (v 1), .ref (v 2), .ref (v 3), .ref (v 4), .ref (v 5), .ref (v 6), .ref (v 7), .ref (v 8), .ref (v 9), .int 0, .int 0, .int 0, .int 0, .int 0, .int 0, .int 0, .int 0, .int 0, .ref (v 10), .ref (v 11), .ref (v 12), .ref (v 13), .int 0, .ref (v 14), .ref (v 15), .ref (v 16), .ref (v 17), .ref (v 18), .int 0, .int 0, .int 0, .ref (v 19), .ref (v 20), .ref (v 21), .ref (v 22), .ref (v 23), .int 0, .int 0, .int 0, .int 0]))] sz) (va_Qi (fun (r : Int32) (_ : Unit) => r = 1) (kB D (va_A [((v 0), .inr (13, [.int 0, .int 0, .int 0, .int (-1), .int 0, .int 0, .int 0, .int 0, .ref (v 1), .ref (v 2), .ref (v 3), .ref (v 4), .ref (v 5), .ref (v 6), .ref (v 7), .ref (v 8), .ref (v 9), .int 0, .int 0, .int 0, .int 0, .int 0, .int 0, .int 0, .int 0, .int 0, .ref (v 10), .ref (v 11), .ref (v 12), .ref (v 13), .int 0, .ref (v 14), .ref (v 15), .ref (v 16), .ref (v 17), .ref (v 18), .int 0, .int 0, .int 0, .ref (v 19), .ref (v 20), .ref (v 21), .ref (v 22), .ref (v 23), .int 0, .int 0, .int 0, .int 0]))] sz) (fun _ => [((v 0), .inr (13, [.int 2, .int 0, .int 0, .int (-1), .int 0, .int 0, .int 0, .int 0, .ref (v 1), .ref (v 2), .ref (v 3), .ref (v 4), .ref (v 5), .ref (v 6), .ref (v 7), .ref (v 8), .ref (v 9), .int 0, .int 0, .int 0, .int 0, .int 0, .int 0, .int 0, .int 0, .int 0, .ref (v 10), .ref (v 11), .ref (v 12), .ref (v 13), .int 0, .ref (v 14), .ref (v 15), .ref (v 16), .ref (v 17), .ref (v 18), .int 0, .int 0, .int 0, .ref (v 19), .ref (v 20), .ref (v 21), .ref (v 22), .ref (v 23), .int 0, .int 0, .int 0, .int 0]))])) (va_A [((v 0), .inr (13, [.int 0, .int 0, .int 0, .int (-1), .int 0, .int 0, .int 0, .int 0, .ref (v 1), .ref (v 2), .ref (v 3), .ref (v 4), .ref (v 5), .ref (v 6), .ref (v 7), .ref (v 8), .ref (v 9), .int 0, .int 0, .int 0, .int 0, .int 0, .int 0, .int 0, .int 0, .int 0, .ref (v 10), .ref (v 11), .ref (v 12), .ref (v 13), .int 0, .ref (v 14), .ref (v 15), .ref (v 16), .ref (v 17), .ref (v 18), .int 0, .int 0, .int 0, .ref (v 19), .ref (v 20), .ref (v 21), .ref (v 22), .ref (v 23), .int 0, .int 0, .int 0, .int 0]))] sz)) 0 0 (va_A [((v 0), .inr (13, [.int 0, .int 0, .int 0, .int (-1), .int 0, .int 0, .int 0, .int 0, .ref (v 1), .ref (v 2), .ref (v 3), .ref (v 4), .ref (v 5), .ref (v 6), .ref (v 7), .ref (v 8), .ref (v 9), .int 0, .int 0, .int 0, .int 0, .int 0, .int 0, .int 0, .int 0, .int 0, .ref (v 10), .ref (v 11), .ref (v 12), .ref (v 13), .int 0, .ref (v 14), .ref (v 15), .ref (v 16), .ref (v 17), .ref (v 18), .int 0, .int 0, .int 0, .ref (v 19), .ref (v 20), .ref (v 21), .ref (v 22), .ref (v 23), .int 0, .int 0, .int 0, .int 0]))] sz) := by
  refine k_ofW (y := yX12_bad) (cc := cX12_bad) (maxL := 3) (ret := (some .boolean)) (av := [.ref (v 0), .int 1, .int 2]) (ws := [((v 0), .inr (13, [.int 0, .int 0, .int 0, .int (-1), .int 0, .int 0, .int 0, .int 0, .ref (v 1), .ref (v 2), .ref (v 3), .ref (v 4), .ref (v 5), .ref (v 6), .ref (v 7), .ref (v 8), .ref (v 9), .int 0, .int 0, .int 0, .int 0, .int 0, .int 0, .int 0, .int 0, .int 0, .ref (v 10), .ref (v 11), .ref (v 12), .ref (v 13), .int 0, .ref (v 14), .ref (v 15), .ref (v 16), .ref (v 17), .ref (v 18), .int 0, .int 0, .int 0, .ref (v 19), .ref (v 20), .ref (v 21), .ref (v 22), .ref (v 23), .int 0, .int 0, .int 0, .int 0]))]) (Qc := fun A => va_Qi (fun (r : Int32) (_ : Unit) => r = 1) (kB D A (fun _ => [((v 0), .inr (13, [.int 2, .int 0, .int 0, .int (-1), .int 0, .int 0, .int 0, .int 0, .ref (v 1), .ref (v 2), .ref (v 3), .ref (v 4), .ref (v 5), .ref (v 6), .ref (v 7), .ref (v 8), .ref (v 9), .int 0, .int 0, .int 0, .int 0, .int 0, .int 0, .int 0, .int 0, .int 0, .ref (v 10), .ref (v 11), .ref (v 12), .ref (v 13), .int 0, .ref (v 14), .ref (v 15), .ref (v 16), .ref (v 17), .ref (v 18), .int 0, .int 0, .int 0, .ref (v 19), .ref (v 20), .ref (v 21), .ref (v 22), .ref (v 23), .int 0, .int 0, .int 0, .int 0]))])) A) (by decide) (Nat.le_of_ble_eq_true rfl) ?_
  intro p e s m below meth c ls A E hA hP hD hG hS hl
  obtain ⟨hx, hb, hml, hown, hts, hr, hlk, hnm⟩ := id E
  have hown : s.vm.findClass RX12 = some m.cls := hown
  have hl : lv_has ls 3 [(0, .ref (v 0)), (1, .int 1), (2, .int 2)] := hl
  obtain ⟨H, hH⟩ : ∃ H, H = s.heap := ⟨_, rfl⟩
  have hP : va_P D vwCl [((v 0), .inr (13, [.int 0, .int 0, .int 0, .int (-1), .int 0, .int 0, .int 0, .int 0, .ref (v 1), .ref (v 2), .ref (v 3), .ref (v 4), .ref (v 5), .ref (v 6), .ref (v 7), .ref (v 8), .ref (v 9), .int 0, .int 0, .int 0, .int 0, .int 0, .int 0, .int 0, .int 0, .int 0, .ref (v 10), .ref (v 11), .ref (v 12), .ref (v 13), .int 0, .ref (v 14), .ref (v 15), .ref (v 16), .ref (v 17), .ref (v 18), .int 0, .int 0, .int 0, .ref (v 19), .ref (v 20), .ref (v 21), .ref (v 22), .ref (v 23), .int 0, .int 0, .int 0, .int 0]))] H := by rw [hH]; exact hP
  have hS : va_S A s.heap H [] := by rw [hH]; exact va_S.rf
  rw [← hH]
  clear hH
  refine lv_iload_n hx hb dX12_bad_0 rfl (lv_at hl 1 rfl) ?_
  refine lv_if_eq (tgt := 16) hx hb dX12_bad_1 (by decide) (fun h => absurd h (by decide)) (fun _ => ?_)
  refine lv_aload_n hx hb dX12_bad_4 rfl (lv_at hl 0 rfl) ?_
  refine va_get (D := D) (ci := 13) (v := .int 0) (C := RX12) (T := TX12) (N := 48) hx hb hts kin_RX12 hown hG.1 hP 0 rfl rfl 0 (by decide) (hts _ wm_1519) (fun _ h9 => h9) rfl dX12_bad_5 ?_
  refine lv_if_ne (tgt := 16) hx hb dX12_bad_8 (by decide) (fun h => absurd (by decide) h) (fun _ => ?_)
  refine lv_aload_n hx hb dX12_bad_11 rfl (lv_at hl 0 rfl) ?_
  refine lv_iload_n hx hb dX12_bad_12 rfl (lv_at hl 2 rfl) ?_
  refine va_put (D := D) (ci := 13) (v := .int 2) (ty := .int) (C := RX12) (T := TX12) (N := 48) hx hb hts kin_RX12 tyX12 tyX12_ok nmX12 hown hG.1 hP hD hS 0 rfl rfl 0 (by decide) (hts _ wm_1519) (fun _ h9 => h9) rfl (by decide +kernel) rfl rfl (Nat.le_of_ble_eq_true rfl) dX12_bad_13 (fun H locs hP hD hS => ?_)
  have hP : va_P D vwCl [((v 0), .inr (13, [.int 2, .int 0, .int 0, .int (-1), .int 0, .int 0, .int 0, .int 0, .ref (v 1), .ref (v 2), .ref (v 3), .ref (v 4), .ref (v 5), .ref (v 6), .ref (v 7), .ref (v 8), .ref (v 9), .int 0, .int 0, .int 0, .int 0, .int 0, .int 0, .int 0, .int 0, .int 0, .ref (v 10), .ref (v 11), .ref (v 12), .ref (v 13), .int 0, .ref (v 14), .ref (v 15), .ref (v 16), .ref (v 17), .ref (v 18), .int 0, .int 0, .int 0, .ref (v 19), .ref (v 20), .ref (v 21), .ref (v 22), .ref (v 23), .int 0, .int 0, .int 0, .int 0]))] H := hP
  have hD : va_D A [((v 0), .inr (13, [.int 2, .int 0, .int 0, .int (-1), .int 0, .int 0, .int 0, .int 0, .ref (v 1), .ref (v 2), .ref (v 3), .ref (v 4), .ref (v 5), .ref (v 6), .ref (v 7), .ref (v 8), .ref (v 9), .int 0, .int 0, .int 0, .int 0, .int 0, .int 0, .int 0, .int 0, .int 0, .ref (v 10), .ref (v 11), .ref (v 12), .ref (v 13), .int 0, .ref (v 14), .ref (v 15), .ref (v 16), .ref (v 17), .ref (v 18), .int 0, .int 0, .int 0, .ref (v 19), .ref (v 20), .ref (v 21), .ref (v 22), .ref (v 23), .int 0, .int 0, .int 0, .int 0]))] := hD
  refine lv_aload_n hx hb dX12_bad_16 rfl (lv_at hl 0 rfl) ?_
  refine va_get (D := D) (ci := 13) (v := .int 2) (C := RX12) (T := TX12) (N := 48) hx hb hts kin_RX12 hown hG.1 hP 0 rfl rfl 0 (by decide) (hts _ wm_1519) (fun _ h9 => h9) rfl dX12_bad_17 ?_
  refine lv_if_eq (tgt := 27) hx hb dX12_bad_20 (by decide) (fun h => absurd h (by decide)) (fun _ => ?_)
  refine lv_iconst (v := 1) hx hb dX12_bad_23 (by decide) ?_
  refine lv_goto (tgt := 28) hx hb dX12_bad_24 (by decide) ?_
  exact k_zret () hx hb hr hlk (k_nz (by decide)) (rfl) (hP.sub [0] rfl) (hD.sub [0] (by decide) rfl) hS (by decide) (by decide) dX12_bad_28

set_option maxHeartbeats 4000000 in
set_option maxRecDepth 100000 in
/-- the reference: isBody -/
theorem m_isBody (l : Launch) (hl0 : l.stackTraces = false) (D : va_G) (cy : Nat → ClassId) (sa : Nat → Nat) (v : Nat → Nat) (p0 : Int32) (sz : Nat) : Met l yX12_isBody (Cond.code yX12_isBody cX12_isBody 2 (some .boolean) :: kWS) ({ frames := 11, cells := 0, slots := 0, locals := 360 }) (kPre D cy sa [.ref (v 0), .int p0] [((v 0), .inr (13, [.int 0, .int 0, .int 0, .int (-1), .int 0, .int 0, .int 0, .int 0, .ref (v 1), .ref (v 2), .ref (v 3), .ref (v 4), .ref (v 5), .ref (v 6), .ref (v 7), .ref (v 8), .ref (v 9), .int 0, .int 0, .int 0, .int 0, .int 0, .int 0, .int 0, .int 0, .int 0, .ref (v 10), .ref (v 11), .ref (v 12), .ref (v 13), .int 0, .ref (v 14), .ref (v 15), .ref (v 16), .ref (v 17), .ref (v 18), .int 0, .int 0, .int 0, .ref (v 19), .ref (v 20), .ref (v 21), .ref (v 22), .ref (v 23), .int 0, .int 0, .int 0, .int 0])), ((v 5), .inl (cy 0, 5, .inl (fun _ => 0)))] sz) (va_Qi (fun (r : Int32) (_ : Unit) => r = 0) (kB D (va_A [((v 0), .inr (13, [.int 0, .int 0, .int 0, .int (-1), .int 0, .int 0, .int 0, .int 0, .ref (v 1), .ref (v 2), .ref (v 3), .ref (v 4), .ref (v 5), .ref (v 6), .ref (v 7), .ref (v 8), .ref (v 9), .int 0, .int 0, .int 0, .int 0, .int 0, .int 0, .int 0, .int 0, .int 0, .ref (v 10), .ref (v 11), .ref (v 12), .ref (v 13), .int 0, .ref (v 14), .ref (v 15), .ref (v 16), .ref (v 17), .ref (v 18), .int 0, .int 0, .int 0, .ref (v 19), .ref (v 20), .ref (v 21), .ref (v 22), .ref (v 23), .int 0, .int 0, .int 0, .int 0])), ((v 5), .inl (cy 0, 5, .inl (fun _ => 0)))] sz) (fun _ => [((v 0), .inr (13, [.int 0, .int 0, .int 0, .int (-1), .int 0, .int 0, .int 0, .int 0, .ref (v 1), .ref (v 2), .ref (v 3), .ref (v 4), .ref (v 5), .ref (v 6), .ref (v 7), .ref (v 8), .ref (v 9), .int 0, .int 0, .int 0, .int 0, .int 0, .int 0, .int 0, .int 0, .int 0, .ref (v 10), .ref (v 11), .ref (v 12), .ref (v 13), .int 0, .ref (v 14), .ref (v 15), .ref (v 16), .ref (v 17), .ref (v 18), .int 0, .int 0, .int 0, .ref (v 19), .ref (v 20), .ref (v 21), .ref (v 22), .ref (v 23), .int 0, .int 0, .int 0, .int 0])), ((v 5), .inl (cy 0, 5, .inl (fun _ => 0)))])) (va_A [((v 0), .inr (13, [.int 0, .int 0, .int 0, .int (-1), .int 0, .int 0, .int 0, .int 0, .ref (v 1), .ref (v 2), .ref (v 3), .ref (v 4), .ref (v 5), .ref (v 6), .ref (v 7), .ref (v 8), .ref (v 9), .int 0, .int 0, .int 0, .int 0, .int 0, .int 0, .int 0, .int 0, .int 0, .ref (v 10), .ref (v 11), .ref (v 12), .ref (v 13), .int 0, .ref (v 14), .ref (v 15), .ref (v 16), .ref (v 17), .ref (v 18), .int 0, .int 0, .int 0, .ref (v 19), .ref (v 20), .ref (v 21), .ref (v 22), .ref (v 23), .int 0, .int 0, .int 0, .int 0])), ((v 5), .inl (cy 0, 5, .inl (fun _ => 0)))] sz)) 0 0 (va_A [((v 0), .inr (13, [.int 0, .int 0, .int 0, .int (-1), .int 0, .int 0, .int 0, .int 0, .ref (v 1), .ref (v 2), .ref (v 3), .ref (v 4), .ref (v 5), .ref (v 6), .ref (v 7), .ref (v 8), .ref (v 9), .int 0, .int 0, .int 0, .int 0, .int 0, .int 0, .int 0, .int 0, .int 0, .ref (v 10), .ref (v 11), .ref (v 12), .ref (v 13), .int 0, .ref (v 14), .ref (v 15), .ref (v 16), .ref (v 17), .ref (v 18), .int 0, .int 0, .int 0, .ref (v 19), .ref (v 20), .ref (v 21), .ref (v 22), .ref (v 23), .int 0, .int 0, .int 0, .int 0])), ((v 5), .inl (cy 0, 5, .inl (fun _ => 0)))] sz) := by
  refine k_ofW (y := yX12_isBody) (cc := cX12_isBody) (maxL := 2) (ret := (some .boolean)) (av := [.ref (v 0), .int p0]) (ws := [((v 0), .inr (13, [.int 0, .int 0, .int 0, .int (-1), .int 0, .int 0, .int 0, .int 0, .ref (v 1), .ref (v 2), .ref (v 3), .ref (v 4), .ref (v 5), .ref (v 6), .ref (v 7), .ref (v 8), .ref (v 9), .int 0, .int 0, .int 0, .int 0, .int 0, .int 0, .int 0, .int 0, .int 0, .ref (v 10), .ref (v 11), .ref (v 12), .ref (v 13), .int 0, .ref (v 14), .ref (v 15), .ref (v 16), .ref (v 17), .ref (v 18), .int 0, .int 0, .int 0, .ref (v 19), .ref (v 20), .ref (v 21), .ref (v 22), .ref (v 23), .int 0, .int 0, .int 0, .int 0])), ((v 5), .inl (cy 0, 5, .inl (fun _ => 0)))]) (Qc := fun A => va_Qi (fun (r : Int32) (_ : Unit) => r = 0) (kB D A (fun _ => [((v 0), .inr (13, [.int 0, .int 0, .int 0, .int (-1), .int 0, .int 0, .int 0, .int 0, .ref (v 1), .ref (v 2), .ref (v 3), .ref (v 4), .ref (v 5), .ref (v 6), .ref (v 7), .ref (v 8), .ref (v 9), .int 0, .int 0, .int 0, .int 0, .int 0, .int 0, .int 0, .int 0, .int 0, .ref (v 10), .ref (v 11), .ref (v 12), .ref (v 13), .int 0, .ref (v 14), .ref (v 15), .ref (v 16), .ref (v 17), .ref (v 18), .int 0, .int 0, .int 0, .ref (v 19), .ref (v 20), .ref (v 21), .ref (v 22), .ref (v 23), .int 0, .int 0, .int 0, .int 0])), ((v 5), .inl (cy 0, 5, .inl (fun _ => 0)))])) A) (by decide) (Nat.le_of_ble_eq_true rfl) ?_
  intro p e s m below meth c ls A E hA hP hD hG hS hl
  obtain ⟨hx, hb, hml, hown, hts, hr, hlk, hnm⟩ := id E
  have hown : s.vm.findClass RX12 = some m.cls := hown
  have hl : lv_has ls 2 [(0, .ref (v 0)), (1, .int p0)] := hl
  obtain ⟨H, hH⟩ : ∃ H, H = s.heap := ⟨_, rfl⟩
  have hP : va_P D vwCl [((v 0), .inr (13, [.int 0, .int 0, .int 0, .int (-1), .int 0, .int 0, .int 0, .int 0, .ref (v 1), .ref (v 2), .ref (v 3), .ref (v 4), .ref (v 5), .ref (v 6), .ref (v 7), .ref (v 8), .ref (v 9), .int 0, .int 0, .int 0, .int 0, .int 0, .int 0, .int 0, .int 0, .int 0, .ref (v 10), .ref (v 11), .ref (v 12), .ref (v 13), .int 0, .ref (v 14), .ref (v 15), .ref (v 16), .ref (v 17), .ref (v 18), .int 0, .int 0, .int 0, .ref (v 19), .ref (v 20), .ref (v 21), .ref (v 22), .ref (v 23), .int 0, .int 0, .int 0, .int 0])), ((v 5), .inl (cy 0, 5, .inl (fun _ => 0)))] H := by rw [hH]; exact hP
  have hS : va_S A s.heap H [] := by rw [hH]; exact va_S.rf
  rw [← hH]
  clear hH
  refine lv_iload_n hx hb dX12_isBody_0 rfl (lv_at hl 1 rfl) ?_
  refine lv_iconst (v := 0) hx hb dX12_isBody_1 (by decide) ?_
  refine lv_aload_n hx hb dX12_isBody_2 rfl (lv_at hl 0 rfl) ?_
  refine va_get (D := D) (ci := 13) (v := .ref (v 5)) (C := RX12) (T := TX12) (N := 48) hx hb hts kin_RX12 hown hG.1 hP 0 rfl rfl 12 (by decide) (hts _ wm_1531) (fun _ h9 => h9) rfl dX12_isBody_3 ?_
  refine lv_iconst (v := 0) hx hb dX12_isBody_6 (by decide) ?_
  refine va_iald hx hb hG.1 hP 1 0 rfl rfl (by unfold vp_in; decide) dX12_isBody_7 ?_
  refine lv_topi (fun x1 ex1 => ?_)
  obtain rfl : x1 = 0 := ex1.trans (rfl)
  refine lv_iconst (v := 1) hx hb dX12_isBody_8 (by decide) ?_
  refine lv_isub hx hb dX12_isBody_9 ?_
  refine lv_topi (fun x2 ex2 => ?_)
  obtain rfl : x2 = (-1) := ex2.trans (by decide)
  refine k_cali [0, 1] (⟨hP, hD, hG, hS, hA, rfl, rfl⟩ : kAt D cy sa A s H _ _ [] []) (wr := [((v 0), .inr (13, [.int 0, .int 0, .int 0, .int (-1), .int 0, .int 0, .int 0, .int 0, .ref (v 1), .ref (v 2), .ref (v 3), .ref (v 4), .ref (v 5), .ref (v 6), .ref (v 7), .ref (v 8), .ref (v 9), .int 0, .int 0, .int 0, .int 0, .int 0, .int 0, .int 0, .int 0, .int 0, .ref (v 10), .ref (v 11), .ref (v 12), .ref (v 13), .int 0, .ref (v 14), .ref (v 15), .ref (v 16), .ref (v 17), .ref (v 18), .int 0, .int 0, .int 0, .ref (v 19), .ref (v 20), .ref (v 21), .ref (v 22), .ref (v 23), .int 0, .int 0, .int 0, .int 0])), ((v 5), .inl (cy 0, 5, .inl (fun _ => 0)))]) rfl rfl (by decide) (k_runS (As := [.int p0, .int 0, .int (-1)]) (rest := []) E lk_SRX12_124 (m_in l hl0 D cy sa p0 0 (-1) H.size) (⟨hP, hD, hG, hS, hA, rfl, rfl⟩ : kAt D cy sa A s H _ _ [] []) hl.1 rfl rfl ⟨rfl, rfl, ⟨Nat.le_of_ble_eq_true rfl, Nat.le_of_ble_eq_true rfl⟩, ⟨Nat.le_of_ble_eq_true rfl, Nat.le_of_ble_eq_true rfl⟩, Nat.le_of_ble_eq_true rfl⟩ dX12_isBody_10) (fun r3 u4 H locs hwu4 hP hD hS => ?_)
  have hP : va_P D vwCl [((v 0), .inr (13, [.int 0, .int 0, .int 0, .int (-1), .int 0, .int 0, .int 0, .int 0, .ref (v 1), .ref (v 2), .ref (v 3), .ref (v 4), .ref (v 5), .ref (v 6), .ref (v 7), .ref (v 8), .ref (v 9), .int 0, .int 0, .int 0, .int 0, .int 0, .int 0, .int 0, .int 0, .int 0, .ref (v 10), .ref (v 11), .ref (v 12), .ref (v 13), .int 0, .ref (v 14), .ref (v 15), .ref (v 16), .ref (v 17), .ref (v 18), .int 0, .int 0, .int 0, .ref (v 19), .ref (v 20), .ref (v 21), .ref (v 22), .ref (v 23), .int 0, .int 0, .int 0, .int 0])), ((v 5), .inl (cy 0, 5, .inl (fun _ => 0)))] H := hP
  have hD : va_D A [((v 0), .inr (13, [.int 0, .int 0, .int 0, .int (-1), .int 0, .int 0, .int 0, .int 0, .ref (v 1), .ref (v 2), .ref (v 3), .ref (v 4), .ref (v 5), .ref (v 6), .ref (v 7), .ref (v 8), .ref (v 9), .int 0, .int 0, .int 0, .int 0, .int 0, .int 0, .int 0, .int 0, .int 0, .ref (v 10), .ref (v 11), .ref (v 12), .ref (v 13), .int 0, .ref (v 14), .ref (v 15), .ref (v 16), .ref (v 17), .ref (v 18), .int 0, .int 0, .int 0, .ref (v 19), .ref (v 20), .ref (v 21), .ref (v 22), .ref (v 23), .int 0, .int 0, .int 0, .int 0])), ((v 5), .inl (cy 0, 5, .inl (fun _ => 0)))] := hD
  obtain rfl : r3 = 0 := hwu4.trans (if_neg (by (simp only [k_lt, k_le, k_eq, k_L0, k_L1, k_L2, k_L3, k_L4, k_L5, k_L6, k_L7, k_L8, k_L9, k_L10, k_L15, k_L20, k_L30, k_L31, k_L40, k_L41, k_L60, k_L61, k_L99, k_L120, k_L239, k_L240, k_L479, k_L480, k_L500, k_L720, k_L999, k_L1000, k_L9999, k_Lm1]; omega)))
  exact k_zret () hx hb hr hlk (k_nz (by decide)) (rfl) (hP.sub [0, 1] rfl) (hD.sub [0, 1] (by decide) rfl) hS (by decide) (by decide) dX12_isBody_13

set_option maxHeartbeats 4000000 in
set_option maxRecDepth 100000 in
/-- the reference: ones0 -/
theorem m_ones0 (l : Launch) (hl0 : l.stackTraces = false) (D : va_G) (cy : Nat → ClassId) (sa : Nat → Nat)  (sz : Nat) : Met l yX12_ones (Cond.code yX12_ones cX12_ones 3 (some .int) :: kWS) ({ frames := 10, cells := 0, slots := 0, locals := 300 }) (kPre D cy sa [.int 0] [] sz) (va_Qi (fun (r : Int32) (_ : Unit) => r = 0) (kB D (va_A [] sz) (fun _ => [])) (va_A [] sz)) 0 0 (va_A [] sz) := by
  refine k_ofW (y := yX12_ones) (cc := cX12_ones) (maxL := 3) (ret := (some .int)) (av := [.int 0]) (ws := []) (Qc := fun A => va_Qi (fun (r : Int32) (_ : Unit) => r = 0) (kB D A (fun _ => [])) A) (by decide) (Nat.le_of_ble_eq_true rfl) ?_
  intro p e s m below meth c ls A E hA hP hD hG hS hl
  obtain ⟨hx, hb, hml, hown, hts, hr, hlk, hnm⟩ := id E
  have hown : s.vm.findClass RX12 = some m.cls := hown
  have hl : lv_has ls 3 [(0, .int 0)] := hl
  obtain ⟨H, hH⟩ : ∃ H, H = s.heap := ⟨_, rfl⟩
  have hP : va_P D vwCl [] H := by rw [hH]; exact hP
  have hS : va_S A s.heap H [] := by rw [hH]; exact va_S.rf
  rw [← hH]
  clear hH
  refine lv_iconst (v := 0) hx hb dX12_ones_0 (by decide) ?_
  refine lv_istore_n (lv' := [(1, .int 0), (0, .int 0)]) hx hb dX12_ones_1 rfl hl (by decide) rfl (fun ls hl => ?_)
  refine lv_iconst (v := 0) hx hb dX12_ones_2 (by decide) ?_
  refine lv_istore_n (lv' := [(2, .int 0), (1, .int 0), (0, .int 0)]) hx hb dX12_ones_3 rfl hl (by decide) rfl (fun ls hl => ?_)
  refine lv_iload_n hx hb dX12_ones_4 rfl (lv_at hl 0 rfl) ?_
  refine lv_bipush (v := 9) hx hb dX12_ones_5 (by decide) ?_
  refine lv_icmp_ge (tgt := 24) hx hb dX12_ones_7 (by decide) (fun h => absurd h (by decide)) (fun _ => ?_)
  refine lv_iload_n hx hb dX12_ones_10 rfl (lv_at hl 1 rfl) ?_
  refine lv_iload_n hx hb dX12_ones_11 rfl (lv_at hl 2 rfl) ?_
  refine lv_iload_n hx hb dX12_ones_12 rfl (lv_at hl 0 rfl) ?_
  refine lv_ishr hx hb dX12_ones_13 ?_
  refine lv_topi (fun x1 ex1 => ?_)
  obtain rfl : x1 = 0 := ex1.trans (by decide)
  refine lv_iconst (v := 1) hx hb dX12_ones_14 (by decide) ?_
  refine lv_iand hx hb dX12_ones_15 ?_
  refine lv_topi (fun x2 ex2 => ?_)
  obtain rfl : x2 = 0 := ex2.trans (by decide)
  refine lv_iadd hx hb dX12_ones_16 ?_
  refine lv_topi (fun x3 ex3 => ?_)
  obtain rfl : x3 = 0 := ex3.trans (by decide)
  refine lv_istore_n (lv' := [(1, .int 0), (2, .int 0), (0, .int 0)]) hx hb dX12_ones_17 rfl hl (by decide) rfl (fun ls hl => ?_)
  refine lv_iinc (v := 1) (lv' := [(2, .int 1), (1, .int 0), (0, .int 0)]) hx hb dX12_ones_18 hl (k := 1) rfl (by decide) (by decide) rfl (fun ls hl => ?_)
  refine lv_goto (tgt := 4) hx hb dX12_ones_21 (by decide) ?_
  refine lv_iload_n hx hb dX12_ones_4 rfl (lv_at hl 0 rfl) ?_
  refine lv_bipush (v := 9) hx hb dX12_ones_5 (by decide) ?_
  refine lv_icmp_ge (tgt := 24) hx hb dX12_ones_7 (by decide) (fun h => absurd h (by decide)) (fun _ => ?_)
  refine lv_iload_n hx hb dX12_ones_10 rfl (lv_at hl 1 rfl) ?_
  refine lv_iload_n hx hb dX12_ones_11 rfl (lv_at hl 2 rfl) ?_
  refine lv_iload_n hx hb dX12_ones_12 rfl (lv_at hl 0 rfl) ?_
  refine lv_ishr hx hb dX12_ones_13 ?_
  refine lv_topi (fun x4 ex4 => ?_)
  obtain rfl : x4 = 0 := ex4.trans (by decide)
  refine lv_iconst (v := 1) hx hb dX12_ones_14 (by decide) ?_
  refine lv_iand hx hb dX12_ones_15 ?_
  refine lv_topi (fun x5 ex5 => ?_)
  obtain rfl : x5 = 0 := ex5.trans (by decide)
  refine lv_iadd hx hb dX12_ones_16 ?_
  refine lv_topi (fun x6 ex6 => ?_)
  obtain rfl : x6 = 0 := ex6.trans (by decide)
  refine lv_istore_n (lv' := [(1, .int 0), (2, .int 1), (0, .int 0)]) hx hb dX12_ones_17 rfl hl (by decide) rfl (fun ls hl => ?_)
  refine lv_iinc (v := 2) (lv' := [(2, .int 2), (1, .int 0), (0, .int 0)]) hx hb dX12_ones_18 hl (k := 1) rfl (by decide) (by decide) rfl (fun ls hl => ?_)
  refine lv_goto (tgt := 4) hx hb dX12_ones_21 (by decide) ?_
  refine lv_iload_n hx hb dX12_ones_4 rfl (lv_at hl 0 rfl) ?_
  refine lv_bipush (v := 9) hx hb dX12_ones_5 (by decide) ?_
  refine lv_icmp_ge (tgt := 24) hx hb dX12_ones_7 (by decide) (fun h => absurd h (by decide)) (fun _ => ?_)
  refine lv_iload_n hx hb dX12_ones_10 rfl (lv_at hl 1 rfl) ?_
  refine lv_iload_n hx hb dX12_ones_11 rfl (lv_at hl 2 rfl) ?_
  refine lv_iload_n hx hb dX12_ones_12 rfl (lv_at hl 0 rfl) ?_
  refine lv_ishr hx hb dX12_ones_13 ?_
  refine lv_topi (fun x7 ex7 => ?_)
  obtain rfl : x7 = 0 := ex7.trans (by decide)
  refine lv_iconst (v := 1) hx hb dX12_ones_14 (by decide) ?_
  refine lv_iand hx hb dX12_ones_15 ?_
  refine lv_topi (fun x8 ex8 => ?_)
  obtain rfl : x8 = 0 := ex8.trans (by decide)
  refine lv_iadd hx hb dX12_ones_16 ?_
  refine lv_topi (fun x9 ex9 => ?_)
  obtain rfl : x9 = 0 := ex9.trans (by decide)
  refine lv_istore_n (lv' := [(1, .int 0), (2, .int 2), (0, .int 0)]) hx hb dX12_ones_17 rfl hl (by decide) rfl (fun ls hl => ?_)
  refine lv_iinc (v := 3) (lv' := [(2, .int 3), (1, .int 0), (0, .int 0)]) hx hb dX12_ones_18 hl (k := 1) rfl (by decide) (by decide) rfl (fun ls hl => ?_)
  refine lv_goto (tgt := 4) hx hb dX12_ones_21 (by decide) ?_
  refine lv_iload_n hx hb dX12_ones_4 rfl (lv_at hl 0 rfl) ?_
  refine lv_bipush (v := 9) hx hb dX12_ones_5 (by decide) ?_
  refine lv_icmp_ge (tgt := 24) hx hb dX12_ones_7 (by decide) (fun h => absurd h (by decide)) (fun _ => ?_)
  refine lv_iload_n hx hb dX12_ones_10 rfl (lv_at hl 1 rfl) ?_
  refine lv_iload_n hx hb dX12_ones_11 rfl (lv_at hl 2 rfl) ?_
  refine lv_iload_n hx hb dX12_ones_12 rfl (lv_at hl 0 rfl) ?_
  refine lv_ishr hx hb dX12_ones_13 ?_
  refine lv_topi (fun x10 ex10 => ?_)
  obtain rfl : x10 = 0 := ex10.trans (by decide)
  refine lv_iconst (v := 1) hx hb dX12_ones_14 (by decide) ?_
  refine lv_iand hx hb dX12_ones_15 ?_
  refine lv_topi (fun x11 ex11 => ?_)
  obtain rfl : x11 = 0 := ex11.trans (by decide)
  refine lv_iadd hx hb dX12_ones_16 ?_
  refine lv_topi (fun x12 ex12 => ?_)
  obtain rfl : x12 = 0 := ex12.trans (by decide)
  refine lv_istore_n (lv' := [(1, .int 0), (2, .int 3), (0, .int 0)]) hx hb dX12_ones_17 rfl hl (by decide) rfl (fun ls hl => ?_)
  refine lv_iinc (v := 4) (lv' := [(2, .int 4), (1, .int 0), (0, .int 0)]) hx hb dX12_ones_18 hl (k := 1) rfl (by decide) (by decide) rfl (fun ls hl => ?_)
  refine lv_goto (tgt := 4) hx hb dX12_ones_21 (by decide) ?_
  refine lv_iload_n hx hb dX12_ones_4 rfl (lv_at hl 0 rfl) ?_
  refine lv_bipush (v := 9) hx hb dX12_ones_5 (by decide) ?_
  refine lv_icmp_ge (tgt := 24) hx hb dX12_ones_7 (by decide) (fun h => absurd h (by decide)) (fun _ => ?_)
  refine lv_iload_n hx hb dX12_ones_10 rfl (lv_at hl 1 rfl) ?_
  refine lv_iload_n hx hb dX12_ones_11 rfl (lv_at hl 2 rfl) ?_
  refine lv_iload_n hx hb dX12_ones_12 rfl (lv_at hl 0 rfl) ?_
  refine lv_ishr hx hb dX12_ones_13 ?_
  refine lv_topi (fun x13 ex13 => ?_)
  obtain rfl : x13 = 0 := ex13.trans (by decide)
  refine lv_iconst (v := 1) hx hb dX12_ones_14 (by decide) ?_
  refine lv_iand hx hb dX12_ones_15 ?_
  refine lv_topi (fun x14 ex14 => ?_)
  obtain rfl : x14 = 0 := ex14.trans (by decide)
  refine lv_iadd hx hb dX12_ones_16 ?_
  refine lv_topi (fun x15 ex15 => ?_)
  obtain rfl : x15 = 0 := ex15.trans (by decide)
  refine lv_istore_n (lv' := [(1, .int 0), (2, .int 4), (0, .int 0)]) hx hb dX12_ones_17 rfl hl (by decide) rfl (fun ls hl => ?_)
  refine lv_iinc (v := 5) (lv' := [(2, .int 5), (1, .int 0), (0, .int 0)]) hx hb dX12_ones_18 hl (k := 1) rfl (by decide) (by decide) rfl (fun ls hl => ?_)
  refine lv_goto (tgt := 4) hx hb dX12_ones_21 (by decide) ?_
  refine lv_iload_n hx hb dX12_ones_4 rfl (lv_at hl 0 rfl) ?_
  refine lv_bipush (v := 9) hx hb dX12_ones_5 (by decide) ?_
  refine lv_icmp_ge (tgt := 24) hx hb dX12_ones_7 (by decide) (fun h => absurd h (by decide)) (fun _ => ?_)
  refine lv_iload_n hx hb dX12_ones_10 rfl (lv_at hl 1 rfl) ?_
  refine lv_iload_n hx hb dX12_ones_11 rfl (lv_at hl 2 rfl) ?_
  refine lv_iload_n hx hb dX12_ones_12 rfl (lv_at hl 0 rfl) ?_
  refine lv_ishr hx hb dX12_ones_13 ?_
  refine lv_topi (fun x16 ex16 => ?_)
  obtain rfl : x16 = 0 := ex16.trans (by decide)
  refine lv_iconst (v := 1) hx hb dX12_ones_14 (by decide) ?_
  refine lv_iand hx hb dX12_ones_15 ?_
  refine lv_topi (fun x17 ex17 => ?_)
  obtain rfl : x17 = 0 := ex17.trans (by decide)
  refine lv_iadd hx hb dX12_ones_16 ?_
  refine lv_topi (fun x18 ex18 => ?_)
  obtain rfl : x18 = 0 := ex18.trans (by decide)
  refine lv_istore_n (lv' := [(1, .int 0), (2, .int 5), (0, .int 0)]) hx hb dX12_ones_17 rfl hl (by decide) rfl (fun ls hl => ?_)
  refine lv_iinc (v := 6) (lv' := [(2, .int 6), (1, .int 0), (0, .int 0)]) hx hb dX12_ones_18 hl (k := 1) rfl (by decide) (by decide) rfl (fun ls hl => ?_)
  refine lv_goto (tgt := 4) hx hb dX12_ones_21 (by decide) ?_
  refine lv_iload_n hx hb dX12_ones_4 rfl (lv_at hl 0 rfl) ?_
  refine lv_bipush (v := 9) hx hb dX12_ones_5 (by decide) ?_
  refine lv_icmp_ge (tgt := 24) hx hb dX12_ones_7 (by decide) (fun h => absurd h (by decide)) (fun _ => ?_)
  refine lv_iload_n hx hb dX12_ones_10 rfl (lv_at hl 1 rfl) ?_
  refine lv_iload_n hx hb dX12_ones_11 rfl (lv_at hl 2 rfl) ?_
  refine lv_iload_n hx hb dX12_ones_12 rfl (lv_at hl 0 rfl) ?_
  refine lv_ishr hx hb dX12_ones_13 ?_
  refine lv_topi (fun x19 ex19 => ?_)
  obtain rfl : x19 = 0 := ex19.trans (by decide)
  refine lv_iconst (v := 1) hx hb dX12_ones_14 (by decide) ?_
  refine lv_iand hx hb dX12_ones_15 ?_
  refine lv_topi (fun x20 ex20 => ?_)
  obtain rfl : x20 = 0 := ex20.trans (by decide)
  refine lv_iadd hx hb dX12_ones_16 ?_
  refine lv_topi (fun x21 ex21 => ?_)
  obtain rfl : x21 = 0 := ex21.trans (by decide)
  refine lv_istore_n (lv' := [(1, .int 0), (2, .int 6), (0, .int 0)]) hx hb dX12_ones_17 rfl hl (by decide) rfl (fun ls hl => ?_)
  refine lv_iinc (v := 7) (lv' := [(2, .int 7), (1, .int 0), (0, .int 0)]) hx hb dX12_ones_18 hl (k := 1) rfl (by decide) (by decide) rfl (fun ls hl => ?_)
  refine lv_goto (tgt := 4) hx hb dX12_ones_21 (by decide) ?_
  refine lv_iload_n hx hb dX12_ones_4 rfl (lv_at hl 0 rfl) ?_
  refine lv_bipush (v := 9) hx hb dX12_ones_5 (by decide) ?_
  refine lv_icmp_ge (tgt := 24) hx hb dX12_ones_7 (by decide) (fun h => absurd h (by decide)) (fun _ => ?_)
  refine lv_iload_n hx hb dX12_ones_10 rfl (lv_at hl 1 rfl) ?_
  refine lv_iload_n hx hb dX12_ones_11 rfl (lv_at hl 2 rfl) ?_
  refine lv_iload_n hx hb dX12_ones_12 rfl (lv_at hl 0 rfl) ?_
  refine lv_ishr hx hb dX12_ones_13 ?_
  refine lv_topi (fun x22 ex22 => ?_)
  obtain rfl : x22 = 0 := ex22.trans (by decide)
  refine lv_iconst (v := 1) hx hb dX12_ones_14 (by decide) ?_
  refine lv_iand hx hb dX12_ones_15 ?_
  refine lv_topi (fun x23 ex23 => ?_)
  obtain rfl : x23 = 0 := ex23.trans (by decide)
  refine lv_iadd hx hb dX12_ones_16 ?_
  refine lv_topi (fun x24 ex24 => ?_)
  obtain rfl : x24 = 0 := ex24.trans (by decide)
  refine lv_istore_n (lv' := [(1, .int 0), (2, .int 7), (0, .int 0)]) hx hb dX12_ones_17 rfl hl (by decide) rfl (fun ls hl => ?_)
  refine lv_iinc (v := 8) (lv' := [(2, .int 8), (1, .int 0), (0, .int 0)]) hx hb dX12_ones_18 hl (k := 1) rfl (by decide) (by decide) rfl (fun ls hl => ?_)
  refine lv_goto (tgt := 4) hx hb dX12_ones_21 (by decide) ?_
  refine lv_iload_n hx hb dX12_ones_4 rfl (lv_at hl 0 rfl) ?_
  refine lv_bipush (v := 9) hx hb dX12_ones_5 (by decide) ?_
  refine lv_icmp_ge (tgt := 24) hx hb dX12_ones_7 (by decide) (fun h => absurd h (by decide)) (fun _ => ?_)
  refine lv_iload_n hx hb dX12_ones_10 rfl (lv_at hl 1 rfl) ?_
  refine lv_iload_n hx hb dX12_ones_11 rfl (lv_at hl 2 rfl) ?_
  refine lv_iload_n hx hb dX12_ones_12 rfl (lv_at hl 0 rfl) ?_
  refine lv_ishr hx hb dX12_ones_13 ?_
  refine lv_topi (fun x25 ex25 => ?_)
  obtain rfl : x25 = 0 := ex25.trans (by decide)
  refine lv_iconst (v := 1) hx hb dX12_ones_14 (by decide) ?_
  refine lv_iand hx hb dX12_ones_15 ?_
  refine lv_topi (fun x26 ex26 => ?_)
  obtain rfl : x26 = 0 := ex26.trans (by decide)
  refine lv_iadd hx hb dX12_ones_16 ?_
  refine lv_topi (fun x27 ex27 => ?_)
  obtain rfl : x27 = 0 := ex27.trans (by decide)
  refine lv_istore_n (lv' := [(1, .int 0), (2, .int 8), (0, .int 0)]) hx hb dX12_ones_17 rfl hl (by decide) rfl (fun ls hl => ?_)
  refine lv_iinc (v := 9) (lv' := [(2, .int 9), (1, .int 0), (0, .int 0)]) hx hb dX12_ones_18 hl (k := 1) rfl (by decide) (by decide) rfl (fun ls hl => ?_)
  refine lv_goto (tgt := 4) hx hb dX12_ones_21 (by decide) ?_
  refine lv_iload_n hx hb dX12_ones_4 rfl (lv_at hl 0 rfl) ?_
  refine lv_bipush (v := 9) hx hb dX12_ones_5 (by decide) ?_
  refine lv_icmp_ge (tgt := 24) hx hb dX12_ones_7 (by decide) (fun _ => ?_) (fun h => absurd (by decide) h)
  refine lv_iload_n hx hb dX12_ones_24 rfl (lv_at hl 1 rfl) ?_
  exact k_iret () hx hb hr hlk (rfl) (hP.sub [] rfl) (hD.sub [] (by decide) rfl) hS (by decide) (by decide) dX12_ones_25

set_option maxHeartbeats 4000000 in
set_option maxRecDepth 100000 in
/-- the reference: areBodies_14 -/
theorem m_areBodies_14 (l : Launch) (hl0 : l.stackTraces = false) (D : va_G) (cy : Nat → ClassId) (sa : Nat → Nat) (v : Nat → Nat) (p0 : Int32) (sz : Nat) : Met l yX12_areBodies (Cond.code yX12_areBodies cX12_areBodies 4 (some .boolean) :: kWS) ({ frames := 11, cells := 0, slots := 0, locals := 360 }) (kPre D cy sa [.ref (v 0), .int p0, .int 1, .int 4] [((v 0), .inr (13, [.int 0, .int 0, .int 0, .int (-1), .int 0, .int 0, .int 0, .int 0, .ref (v 1), .ref (v 2), .ref (v 3), .ref (v 4), .ref (v 5), .ref (v 6), .ref (v 7), .ref (v 8), .ref (v 9), .int 0, .int 0, .int 0, .int 0, .int 0, .int 0, .int 0, .int 0, .int 0, .ref (v 10), .ref (v 11), .ref (v 12), .ref (v 13), .int 0, .ref (v 14), .ref (v 15), .ref (v 16), .ref (v 17), .ref (v 18), .int 0, .int 0, .int 0, .ref (v 19), .ref (v 20), .ref (v 21), .ref (v 22), .ref (v 23), .int 0, .int 0, .int 0, .int 0])), ((v 5), .inl (cy 0, 5, .inl (fun _ => 0)))] sz) (va_Qi (fun (r : Int32) (_ : Unit) => r = 0) (kB D (va_A [((v 0), .inr (13, [.int 0, .int 0, .int 0, .int (-1), .int 0, .int 0, .int 0, .int 0, .ref (v 1), .ref (v 2), .ref (v 3), .ref (v 4), .ref (v 5), .ref (v 6), .ref (v 7), .ref (v 8), .ref (v 9), .int 0, .int 0, .int 0, .int 0, .int 0, .int 0, .int 0, .int 0, .int 0, .ref (v 10), .ref (v 11), .ref (v 12), .ref (v 13), .int 0, .ref (v 14), .ref (v 15), .ref (v 16), .ref (v 17), .ref (v 18), .int 0, .int 0, .int 0, .ref (v 19), .ref (v 20), .ref (v 21), .ref (v 22), .ref (v 23), .int 0, .int 0, .int 0, .int 0])), ((v 5), .inl (cy 0, 5, .inl (fun _ => 0)))] sz) (fun _ => [((v 0), .inr (13, [.int 0, .int 0, .int 0, .int (-1), .int 0, .int 0, .int 0, .int 0, .ref (v 1), .ref (v 2), .ref (v 3), .ref (v 4), .ref (v 5), .ref (v 6), .ref (v 7), .ref (v 8), .ref (v 9), .int 0, .int 0, .int 0, .int 0, .int 0, .int 0, .int 0, .int 0, .int 0, .ref (v 10), .ref (v 11), .ref (v 12), .ref (v 13), .int 0, .ref (v 14), .ref (v 15), .ref (v 16), .ref (v 17), .ref (v 18), .int 0, .int 0, .int 0, .ref (v 19), .ref (v 20), .ref (v 21), .ref (v 22), .ref (v 23), .int 0, .int 0, .int 0, .int 0])), ((v 5), .inl (cy 0, 5, .inl (fun _ => 0)))])) (va_A [((v 0), .inr (13, [.int 0, .int 0, .int 0, .int (-1), .int 0, .int 0, .int 0, .int 0, .ref (v 1), .ref (v 2), .ref (v 3), .ref (v 4), .ref (v 5), .ref (v 6), .ref (v 7), .ref (v 8), .ref (v 9), .int 0, .int 0, .int 0, .int 0, .int 0, .int 0, .int 0, .int 0, .int 0, .ref (v 10), .ref (v 11), .ref (v 12), .ref (v 13), .int 0, .ref (v 14), .ref (v 15), .ref (v 16), .ref (v 17), .ref (v 18), .int 0, .int 0, .int 0, .ref (v 19), .ref (v 20), .ref (v 21), .ref (v 22), .ref (v 23), .int 0, .int 0, .int 0, .int 0])), ((v 5), .inl (cy 0, 5, .inl (fun _ => 0)))] sz)) 0 0 (va_A [((v 0), .inr (13, [.int 0, .int 0, .int 0, .int (-1), .int 0, .int 0, .int 0, .int 0, .ref (v 1), .ref (v 2), .ref (v 3), .ref (v 4), .ref (v 5), .ref (v 6), .ref (v 7), .ref (v 8), .ref (v 9), .int 0, .int 0, .int 0, .int 0, .int 0, .int 0, .int 0, .int 0, .int 0, .ref (v 10), .ref (v 11), .ref (v 12), .ref (v 13), .int 0, .ref (v 14), .ref (v 15), .ref (v 16), .ref (v 17), .ref (v 18), .int 0, .int 0, .int 0, .ref (v 19), .ref (v 20), .ref (v 21), .ref (v 22), .ref (v 23), .int 0, .int 0, .int 0, .int 0])), ((v 5), .inl (cy 0, 5, .inl (fun _ => 0)))] sz) := by
  refine k_ofW (y := yX12_areBodies) (cc := cX12_areBodies) (maxL := 4) (ret := (some .boolean)) (av := [.ref (v 0), .int p0, .int 1, .int 4]) (ws := [((v 0), .inr (13, [.int 0, .int 0, .int 0, .int (-1), .int 0, .int 0, .int 0, .int 0, .ref (v 1), .ref (v 2), .ref (v 3), .ref (v 4), .ref (v 5), .ref (v 6), .ref (v 7), .ref (v 8), .ref (v 9), .int 0, .int 0, .int 0, .int 0, .int 0, .int 0, .int 0, .int 0, .int 0, .ref (v 10), .ref (v 11), .ref (v 12), .ref (v 13), .int 0, .ref (v 14), .ref (v 15), .ref (v 16), .ref (v 17), .ref (v 18), .int 0, .int 0, .int 0, .ref (v 19), .ref (v 20), .ref (v 21), .ref (v 22), .ref (v 23), .int 0, .int 0, .int 0, .int 0])), ((v 5), .inl (cy 0, 5, .inl (fun _ => 0)))]) (Qc := fun A => va_Qi (fun (r : Int32) (_ : Unit) => r = 0) (kB D A (fun _ => [((v 0), .inr (13, [.int 0, .int 0, .int 0, .int (-1), .int 0, .int 0, .int 0, .int 0, .ref (v 1), .ref (v 2), .ref (v 3), .ref (v 4), .ref (v 5), .ref (v 6), .ref (v 7), .ref (v 8), .ref (v 9), .int 0, .int 0, .int 0, .int 0, .int 0, .int 0, .int 0, .int 0, .int 0, .ref (v 10), .ref (v 11), .ref (v 12), .ref (v 13), .int 0, .ref (v 14), .ref (v 15), .ref (v 16), .ref (v 17), .ref (v 18), .int 0, .int 0, .int 0, .ref (v 19), .ref (v 20), .ref (v 21), .ref (v 22), .ref (v 23), .int 0, .int 0, .int 0, .int 0])), ((v 5), .inl (cy 0, 5, .inl (fun _ => 0)))])) A) (by decide) (Nat.le_of_ble_eq_true rfl) ?_
  intro p e s m below meth c ls A E hA hP hD hG hS hl
  obtain ⟨hx, hb, hml, hown, hts, hr, hlk, hnm⟩ := id E
  have hown : s.vm.findClass RX12 = some m.cls := hown
  have hl : lv_has ls 4 [(0, .ref (v 0)), (1, .int p0), (2, .int 1), (3, .int 4)] := hl
  obtain ⟨H, hH⟩ : ∃ H, H = s.heap := ⟨_, rfl⟩
  have hP : va_P D vwCl [((v 0), .inr (13, [.int 0, .int 0, .int 0, .int (-1), .int 0, .int 0, .int 0, .int 0, .ref (v 1), .ref (v 2), .ref (v 3), .ref (v 4), .ref (v 5), .ref (v 6), .ref (v 7), .ref (v 8), .ref (v 9), .int 0, .int 0, .int 0, .int 0, .int 0, .int 0, .int 0, .int 0, .int 0, .ref (v 10), .ref (v 11), .ref (v 12), .ref (v 13), .int 0, .ref (v 14), .ref (v 15), .ref (v 16), .ref (v 17), .ref (v 18), .int 0, .int 0, .int 0, .ref (v 19), .ref (v 20), .ref (v 21), .ref (v 22), .ref (v 23), .int 0, .int 0, .int 0, .int 0])), ((v 5), .inl (cy 0, 5, .inl (fun _ => 0)))] H := by rw [hH]; exact hP
  have hS : va_S A s.heap H [] := by rw [hH]; exact va_S.rf
  rw [← hH]
  clear hH
  refine lv_iload_n hx hb dX12_areBodies_0 rfl (lv_at hl 1 rfl) ?_
  refine lv_if_lt (tgt := 32) hx hb dX12_areBodies_1 (by decide) (fun c1 => ?_) (fun c1 => ?_)
  · refine lv_iconst (v := 0) hx hb dX12_areBodies_32 (by decide) ?_
    exact k_zret () hx hb hr hlk (k_nz (by decide)) (rfl) (hP.sub [0, 1] rfl) (hD.sub [0, 1] (by decide) rfl) hS (by decide) (by decide) dX12_areBodies_33
  · refine lv_iload_n hx hb dX12_areBodies_4 rfl (lv_at hl 1 rfl) ?_
    refine lv_iconst (v := 1) hx hb dX12_areBodies_5 (by decide) ?_
    refine lv_aload_n hx hb dX12_areBodies_6 rfl (lv_at hl 0 rfl) ?_
    refine va_get (D := D) (ci := 13) (v := .ref (v 5)) (C := RX12) (T := TX12) (N := 48) hx hb hts kin_RX12 hown hG.1 hP 0 rfl rfl 12 (by decide) (hts _ wm_1531) (fun _ h9 => h9) rfl dX12_areBodies_7 ?_
    refine lv_iconst (v := 0) hx hb dX12_areBodies_10 (by decide) ?_
    refine va_iald hx hb hG.1 hP 1 0 rfl rfl (by unfold vp_in; decide) dX12_areBodies_11 ?_
    refine lv_topi (fun x2 ex2 => ?_)
    obtain rfl : x2 = 0 := ex2.trans (rfl)
    refine lv_ishl hx hb dX12_areBodies_12 ?_
    refine lv_topi (fun x3 ex3 => ?_)
    obtain rfl : x3 = 1 := ex3.trans (by decide)
    refine lv_icmp_ge (tgt := 32) hx hb dX12_areBodies_13 (by decide) (fun c4 => ?_) (fun c4 => ?_)
    · refine lv_iconst (v := 0) hx hb dX12_areBodies_32 (by decide) ?_
      exact k_zret () hx hb hr hlk (k_nz (by decide)) (rfl) (hP.sub [0, 1] rfl) (hD.sub [0, 1] (by decide) rfl) hS (by decide) (by decide) dX12_areBodies_33
    · obtain rfl : p0 = 0 := by (simp only [k_lt, k_le, k_eq, k_L0, k_L1, k_L2, k_L3, k_L4, k_L5, k_L6, k_L7, k_L8, k_L9, k_L10, k_L15, k_L20, k_L30, k_L31, k_L40, k_L41, k_L60, k_L61, k_L99, k_L120, k_L239, k_L240, k_L479, k_L480, k_L500, k_L720, k_L999, k_L1000, k_L9999, k_Lm1] at c1 c4 ⊢; omega)
      refine lv_iload_n hx hb dX12_areBodies_16 rfl (lv_at hl 1 rfl) ?_
      refine k_cali [0, 1] (⟨hP, hD, hG, hS, hA, rfl, rfl⟩ : kAt D cy sa A s H _ _ [] []) (wr := [((v 0), .inr (13, [.int 0, .int 0, .int 0, .int (-1), .int 0, .int 0, .int 0, .int 0, .ref (v 1), .ref (v 2), .ref (v 3), .ref (v 4), .ref (v 5), .ref (v 6), .ref (v 7), .ref (v 8), .ref (v 9), .int 0, .int 0, .int 0, .int 0, .int 0, .int 0, .int 0, .int 0, .int 0, .ref (v 10), .ref (v 11), .ref (v 12), .ref (v 13), .int 0, .ref (v 14), .ref (v 15), .ref (v 16), .ref (v 17), .ref (v 18), .int 0, .int 0, .int 0, .ref (v 19), .ref (v 20), .ref (v 21), .ref (v 22), .ref (v 23), .int 0, .int 0, .int 0, .int 0])), ((v 5), .inl (cy 0, 5, .inl (fun _ => 0)))]) rfl rfl (by decide) (k_runS (As := [.int 0]) (rest := []) E lk_SRX12_292 (m_ones0 l hl0 D cy sa  H.size) (⟨hP, hD, hG, hS, hA, rfl, rfl⟩ : kAt D cy sa A s H _ _ [] []) hl.1 rfl rfl ⟨rfl, rfl, ⟨Nat.le_of_ble_eq_true rfl, Nat.le_of_ble_eq_true rfl⟩, ⟨Nat.le_of_ble_eq_true rfl, Nat.le_of_ble_eq_true rfl⟩, Nat.le_of_ble_eq_true rfl⟩ dX12_areBodies_17) (fun r5 u6 H locs hwu6 hP hD hS => ?_)
      have hP : va_P D vwCl [((v 0), .inr (13, [.int 0, .int 0, .int 0, .int (-1), .int 0, .int 0, .int 0, .int 0, .ref (v 1), .ref (v 2), .ref (v 3), .ref (v 4), .ref (v 5), .ref (v 6), .ref (v 7), .ref (v 8), .ref (v 9), .int 0, .int 0, .int 0, .int 0, .int 0, .int 0, .int 0, .int 0, .int 0, .ref (v 10), .ref (v 11), .ref (v 12), .ref (v 13), .int 0, .ref (v 14), .ref (v 15), .ref (v 16), .ref (v 17), .ref (v 18), .int 0, .int 0, .int 0, .ref (v 19), .ref (v 20), .ref (v 21), .ref (v 22), .ref (v 23), .int 0, .int 0, .int 0, .int 0])), ((v 5), .inl (cy 0, 5, .inl (fun _ => 0)))] H := hP
      have hD : va_D A [((v 0), .inr (13, [.int 0, .int 0, .int 0, .int (-1), .int 0, .int 0, .int 0, .int 0, .ref (v 1), .ref (v 2), .ref (v 3), .ref (v 4), .ref (v 5), .ref (v 6), .ref (v 7), .ref (v 8), .ref (v 9), .int 0, .int 0, .int 0, .int 0, .int 0, .int 0, .int 0, .int 0, .int 0, .ref (v 10), .ref (v 11), .ref (v 12), .ref (v 13), .int 0, .ref (v 14), .ref (v 15), .ref (v 16), .ref (v 17), .ref (v 18), .int 0, .int 0, .int 0, .ref (v 19), .ref (v 20), .ref (v 21), .ref (v 22), .ref (v 23), .int 0, .int 0, .int 0, .int 0])), ((v 5), .inl (cy 0, 5, .inl (fun _ => 0)))] := hD
      obtain rfl : r5 = 0 := hwu6
      refine lv_iload_n hx hb dX12_areBodies_20 rfl (lv_at hl 2 rfl) ?_
      refine lv_iload_n hx hb dX12_areBodies_21 rfl (lv_at hl 3 rfl) ?_
      refine k_cali [0, 1] (⟨hP, hD, hG, hS, hA, rfl, rfl⟩ : kAt D cy sa A s H _ _ [] []) (wr := [((v 0), .inr (13, [.int 0, .int 0, .int 0, .int (-1), .int 0, .int 0, .int 0, .int 0, .ref (v 1), .ref (v 2), .ref (v 3), .ref (v 4), .ref (v 5), .ref (v 6), .ref (v 7), .ref (v 8), .ref (v 9), .int 0, .int 0, .int 0, .int 0, .int 0, .int 0, .int 0, .int 0, .int 0, .ref (v 10), .ref (v 11), .ref (v 12), .ref (v 13), .int 0, .ref (v 14), .ref (v 15), .ref (v 16), .ref (v 17), .ref (v 18), .int 0, .int 0, .int 0, .ref (v 19), .ref (v 20), .ref (v 21), .ref (v 22), .ref (v 23), .int 0, .int 0, .int 0, .int 0])), ((v 5), .inl (cy 0, 5, .inl (fun _ => 0)))]) rfl rfl (by decide) (k_runS (As := [.int 0, .int 1, .int 4]) (rest := []) E lk_SRX12_124 (m_in l hl0 D cy sa 0 1 4 H.size) (⟨hP, hD, hG, hS, hA, rfl, rfl⟩ : kAt D cy sa A s H _ _ [] []) hl.1 rfl rfl ⟨rfl, rfl, ⟨Nat.le_of_ble_eq_true rfl, Nat.le_of_ble_eq_true rfl⟩, ⟨Nat.le_of_ble_eq_true rfl, Nat.le_of_ble_eq_true rfl⟩, Nat.le_of_ble_eq_true rfl⟩ dX12_areBodies_22) (fun r7 u8 H locs hwu8 hP hD hS => ?_)
      have hP : va_P D vwCl [((v 0), .inr (13, [.int 0, .int 0, .int 0, .int (-1), .int 0, .int 0, .int 0, .int 0, .ref (v 1), .ref (v 2), .ref (v 3), .ref (v 4), .ref (v 5), .ref (v 6), .ref (v 7), .ref (v 8), .ref (v 9), .int 0, .int 0, .int 0, .int 0, .int 0, .int 0, .int 0, .int 0, .int 0, .ref (v 10), .ref (v 11), .ref (v 12), .ref (v 13), .int 0, .ref (v 14), .ref (v 15), .ref (v 16), .ref (v 17), .ref (v 18), .int 0, .int 0, .int 0, .ref (v 19), .ref (v 20), .ref (v 21), .ref (v 22), .ref (v 23), .int 0, .int 0, .int 0, .int 0])), ((v 5), .inl (cy 0, 5, .inl (fun _ => 0)))] H := hP
      have hD : va_D A [((v 0), .inr (13, [.int 0, .int 0, .int 0, .int (-1), .int 0, .int 0, .int 0, .int 0, .ref (v 1), .ref (v 2), .ref (v 3), .ref (v 4), .ref (v 5), .ref (v 6), .ref (v 7), .ref (v 8), .ref (v 9), .int 0, .int 0, .int 0, .int 0, .int 0, .int 0, .int 0, .int 0, .int 0, .ref (v 10), .ref (v 11), .ref (v 12), .ref (v 13), .int 0, .ref (v 14), .ref (v 15), .ref (v 16), .ref (v 17), .ref (v 18), .int 0, .int 0, .int 0, .ref (v 19), .ref (v 20), .ref (v 21), .ref (v 22), .ref (v 23), .int 0, .int 0, .int 0, .int 0])), ((v 5), .inl (cy 0, 5, .inl (fun _ => 0)))] := hD
      obtain rfl : r7 = 0 := hwu8.trans (if_neg (by decide))
      refine lv_if_eq (tgt := 32) hx hb dX12_areBodies_25 (by decide) (fun _ => ?_) (fun h => absurd (by decide) h)
      refine lv_iconst (v := 0) hx hb dX12_areBodies_32 (by decide) ?_
      exact k_zret () hx hb hr hlk (k_nz (by decide)) (rfl) (hP.sub [0, 1] rfl) (hD.sub [0, 1] (by decide) rfl) hS (by decide) (by decide) dX12_areBodies_33

set_option maxHeartbeats 4000000 in
set_option maxRecDepth 100000 in
/-- the reference: areBodies_26 -/
theorem m_areBodies_26 (l : Launch) (hl0 : l.stackTraces = false) (D : va_G) (cy : Nat → ClassId) (sa : Nat → Nat) (v : Nat → Nat) (p0 : Int32) (sz : Nat) : Met l yX12_areBodies (Cond.code yX12_areBodies cX12_areBodies 4 (some .boolean) :: kWS) ({ frames := 11, cells := 0, slots := 0, locals := 360 }) (kPre D cy sa [.ref (v 0), .int p0, .int 2, .int 6] [((v 0), .inr (13, [.int 0, .int 0, .int 0, .int (-1), .int 0, .int 0, .int 0, .int 0, .ref (v 1), .ref (v 2), .ref (v 3), .ref (v 4), .ref (v 5), .ref (v 6), .ref (v 7), .ref (v 8), .ref (v 9), .int 0, .int 0, .int 0, .int 0, .int 0, .int 0, .int 0, .int 0, .int 0, .ref (v 10), .ref (v 11), .ref (v 12), .ref (v 13), .int 0, .ref (v 14), .ref (v 15), .ref (v 16), .ref (v 17), .ref (v 18), .int 0, .int 0, .int 0, .ref (v 19), .ref (v 20), .ref (v 21), .ref (v 22), .ref (v 23), .int 0, .int 0, .int 0, .int 0])), ((v 5), .inl (cy 0, 5, .inl (fun _ => 0)))] sz) (va_Qi (fun (r : Int32) (_ : Unit) => r = 0) (kB D (va_A [((v 0), .inr (13, [.int 0, .int 0, .int 0, .int (-1), .int 0, .int 0, .int 0, .int 0, .ref (v 1), .ref (v 2), .ref (v 3), .ref (v 4), .ref (v 5), .ref (v 6), .ref (v 7), .ref (v 8), .ref (v 9), .int 0, .int 0, .int 0, .int 0, .int 0, .int 0, .int 0, .int 0, .int 0, .ref (v 10), .ref (v 11), .ref (v 12), .ref (v 13), .int 0, .ref (v 14), .ref (v 15), .ref (v 16), .ref (v 17), .ref (v 18), .int 0, .int 0, .int 0, .ref (v 19), .ref (v 20), .ref (v 21), .ref (v 22), .ref (v 23), .int 0, .int 0, .int 0, .int 0])), ((v 5), .inl (cy 0, 5, .inl (fun _ => 0)))] sz) (fun _ => [((v 0), .inr (13, [.int 0, .int 0, .int 0, .int (-1), .int 0, .int 0, .int 0, .int 0, .ref (v 1), .ref (v 2), .ref (v 3), .ref (v 4), .ref (v 5), .ref (v 6), .ref (v 7), .ref (v 8), .ref (v 9), .int 0, .int 0, .int 0, .int 0, .int 0, .int 0, .int 0, .int 0, .int 0, .ref (v 10), .ref (v 11), .ref (v 12), .ref (v 13), .int 0, .ref (v 14), .ref (v 15), .ref (v 16), .ref (v 17), .ref (v 18), .int 0, .int 0, .int 0, .ref (v 19), .ref (v 20), .ref (v 21), .ref (v 22), .ref (v 23), .int 0, .int 0, .int 0, .int 0])), ((v 5), .inl (cy 0, 5, .inl (fun _ => 0)))])) (va_A [((v 0), .inr (13, [.int 0, .int 0, .int 0, .int (-1), .int 0, .int 0, .int 0, .int 0, .ref (v 1), .ref (v 2), .ref (v 3), .ref (v 4), .ref (v 5), .ref (v 6), .ref (v 7), .ref (v 8), .ref (v 9), .int 0, .int 0, .int 0, .int 0, .int 0, .int 0, .int 0, .int 0, .int 0, .ref (v 10), .ref (v 11), .ref (v 12), .ref (v 13), .int 0, .ref (v 14), .ref (v 15), .ref (v 16), .ref (v 17), .ref (v 18), .int 0, .int 0, .int 0, .ref (v 19), .ref (v 20), .ref (v 21), .ref (v 22), .ref (v 23), .int 0, .int 0, .int 0, .int 0])), ((v 5), .inl (cy 0, 5, .inl (fun _ => 0)))] sz)) 0 0 (va_A [((v 0), .inr (13, [.int 0, .int 0, .int 0, .int (-1), .int 0, .int 0, .int 0, .int 0, .ref (v 1), .ref (v 2), .ref (v 3), .ref (v 4), .ref (v 5), .ref (v 6), .ref (v 7), .ref (v 8), .ref (v 9), .int 0, .int 0, .int 0, .int 0, .int 0, .int 0, .int 0, .int 0, .int 0, .ref (v 10), .ref (v 11), .ref (v 12), .ref (v 13), .int 0, .ref (v 14), .ref (v 15), .ref (v 16), .ref (v 17), .ref (v 18), .int 0, .int 0, .int 0, .ref (v 19), .ref (v 20), .ref (v 21), .ref (v 22), .ref (v 23), .int 0, .int 0, .int 0, .int 0])), ((v 5), .inl (cy 0, 5, .inl (fun _ => 0)))] sz) := by
  refine k_ofW (y := yX12_areBodies) (cc := cX12_areBodies) (maxL := 4) (ret := (some .boolean)) (av := [.ref (v 0), .int p0, .int 2, .int 6]) (ws := [((v 0), .inr (13, [.int 0, .int 0, .int 0, .int (-1), .int 0, .int 0, .int 0, .int 0, .ref (v 1), .ref (v 2), .ref (v 3), .ref (v 4), .ref (v 5), .ref (v 6), .ref (v 7), .ref (v 8), .ref (v 9), .int 0, .int 0, .int 0, .int 0, .int 0, .int 0, .int 0, .int 0, .int 0, .ref (v 10), .ref (v 11), .ref (v 12), .ref (v 13), .int 0, .ref (v 14), .ref (v 15), .ref (v 16), .ref (v 17), .ref (v 18), .int 0, .int 0, .int 0, .ref (v 19), .ref (v 20), .ref (v 21), .ref (v 22), .ref (v 23), .int 0, .int 0, .int 0, .int 0])), ((v 5), .inl (cy 0, 5, .inl (fun _ => 0)))]) (Qc := fun A => va_Qi (fun (r : Int32) (_ : Unit) => r = 0) (kB D A (fun _ => [((v 0), .inr (13, [.int 0, .int 0, .int 0, .int (-1), .int 0, .int 0, .int 0, .int 0, .ref (v 1), .ref (v 2), .ref (v 3), .ref (v 4), .ref (v 5), .ref (v 6), .ref (v 7), .ref (v 8), .ref (v 9), .int 0, .int 0, .int 0, .int 0, .int 0, .int 0, .int 0, .int 0, .int 0, .ref (v 10), .ref (v 11), .ref (v 12), .ref (v 13), .int 0, .ref (v 14), .ref (v 15), .ref (v 16), .ref (v 17), .ref (v 18), .int 0, .int 0, .int 0, .ref (v 19), .ref (v 20), .ref (v 21), .ref (v 22), .ref (v 23), .int 0, .int 0, .int 0, .int 0])), ((v 5), .inl (cy 0, 5, .inl (fun _ => 0)))])) A) (by decide) (Nat.le_of_ble_eq_true rfl) ?_
  intro p e s m below meth c ls A E hA hP hD hG hS hl
  obtain ⟨hx, hb, hml, hown, hts, hr, hlk, hnm⟩ := id E
  have hown : s.vm.findClass RX12 = some m.cls := hown
  have hl : lv_has ls 4 [(0, .ref (v 0)), (1, .int p0), (2, .int 2), (3, .int 6)] := hl
  obtain ⟨H, hH⟩ : ∃ H, H = s.heap := ⟨_, rfl⟩
  have hP : va_P D vwCl [((v 0), .inr (13, [.int 0, .int 0, .int 0, .int (-1), .int 0, .int 0, .int 0, .int 0, .ref (v 1), .ref (v 2), .ref (v 3), .ref (v 4), .ref (v 5), .ref (v 6), .ref (v 7), .ref (v 8), .ref (v 9), .int 0, .int 0, .int 0, .int 0, .int 0, .int 0, .int 0, .int 0, .int 0, .ref (v 10), .ref (v 11), .ref (v 12), .ref (v 13), .int 0, .ref (v 14), .ref (v 15), .ref (v 16), .ref (v 17), .ref (v 18), .int 0, .int 0, .int 0, .ref (v 19), .ref (v 20), .ref (v 21), .ref (v 22), .ref (v 23), .int 0, .int 0, .int 0, .int 0])), ((v 5), .inl (cy 0, 5, .inl (fun _ => 0)))] H := by rw [hH]; exact hP
  have hS : va_S A s.heap H [] := by rw [hH]; exact va_S.rf
  rw [← hH]
  clear hH
  refine lv_iload_n hx hb dX12_areBodies_0 rfl (lv_at hl 1 rfl) ?_
  refine lv_if_lt (tgt := 32) hx hb dX12_areBodies_1 (by decide) (fun c1 => ?_) (fun c1 => ?_)
  · refine lv_iconst (v := 0) hx hb dX12_areBodies_32 (by decide) ?_
    exact k_zret () hx hb hr hlk (k_nz (by decide)) (rfl) (hP.sub [0, 1] rfl) (hD.sub [0, 1] (by decide) rfl) hS (by decide) (by decide) dX12_areBodies_33
  · refine lv_iload_n hx hb dX12_areBodies_4 rfl (lv_at hl 1 rfl) ?_
    refine lv_iconst (v := 1) hx hb dX12_areBodies_5 (by decide) ?_
    refine lv_aload_n hx hb dX12_areBodies_6 rfl (lv_at hl 0 rfl) ?_
    refine va_get (D := D) (ci := 13) (v := .ref (v 5)) (C := RX12) (T := TX12) (N := 48) hx hb hts kin_RX12 hown hG.1 hP 0 rfl rfl 12 (by decide) (hts _ wm_1531) (fun _ h9 => h9) rfl dX12_areBodies_7 ?_
    refine lv_iconst (v := 0) hx hb dX12_areBodies_10 (by decide) ?_
    refine va_iald hx hb hG.1 hP 1 0 rfl rfl (by unfold vp_in; decide) dX12_areBodies_11 ?_
    refine lv_topi (fun x2 ex2 => ?_)
    obtain rfl : x2 = 0 := ex2.trans (rfl)
    refine lv_ishl hx hb dX12_areBodies_12 ?_
    refine lv_topi (fun x3 ex3 => ?_)
    obtain rfl : x3 = 1 := ex3.trans (by decide)
    refine lv_icmp_ge (tgt := 32) hx hb dX12_areBodies_13 (by decide) (fun c4 => ?_) (fun c4 => ?_)
    · refine lv_iconst (v := 0) hx hb dX12_areBodies_32 (by decide) ?_
      exact k_zret () hx hb hr hlk (k_nz (by decide)) (rfl) (hP.sub [0, 1] rfl) (hD.sub [0, 1] (by decide) rfl) hS (by decide) (by decide) dX12_areBodies_33
    · obtain rfl : p0 = 0 := by (simp only [k_lt, k_le, k_eq, k_L0, k_L1, k_L2, k_L3, k_L4, k_L5, k_L6, k_L7, k_L8, k_L9, k_L10, k_L15, k_L20, k_L30, k_L31, k_L40, k_L41, k_L60, k_L61, k_L99, k_L120, k_L239, k_L240, k_L479, k_L480, k_L500, k_L720, k_L999, k_L1000, k_L9999, k_Lm1] at c1 c4 ⊢; omega)
      refine lv_iload_n hx hb dX12_areBodies_16 rfl (lv_at hl 1 rfl) ?_
      refine k_cali [0, 1] (⟨hP, hD, hG, hS, hA, rfl, rfl⟩ : kAt D cy sa A s H _ _ [] []) (wr := [((v 0), .inr (13, [.int 0, .int 0, .int 0, .int (-1), .int 0, .int 0, .int 0, .int 0, .ref (v 1), .ref (v 2), .ref (v 3), .ref (v 4), .ref (v 5), .ref (v 6), .ref (v 7), .ref (v 8), .ref (v 9), .int 0, .int 0, .int 0, .int 0, .int 0, .int 0, .int 0, .int 0, .int 0, .ref (v 10), .ref (v 11), .ref (v 12), .ref (v 13), .int 0, .ref (v 14), .ref (v 15), .ref (v 16), .ref (v 17), .ref (v 18), .int 0, .int 0, .int 0, .ref (v 19), .ref (v 20), .ref (v 21), .ref (v 22), .ref (v 23), .int 0, .int 0, .int 0, .int 0])), ((v 5), .inl (cy 0, 5, .inl (fun _ => 0)))]) rfl rfl (by decide) (k_runS (As := [.int 0]) (rest := []) E lk_SRX12_292 (m_ones0 l hl0 D cy sa  H.size) (⟨hP, hD, hG, hS, hA, rfl, rfl⟩ : kAt D cy sa A s H _ _ [] []) hl.1 rfl rfl ⟨rfl, rfl, ⟨Nat.le_of_ble_eq_true rfl, Nat.le_of_ble_eq_true rfl⟩, ⟨Nat.le_of_ble_eq_true rfl, Nat.le_of_ble_eq_true rfl⟩, Nat.le_of_ble_eq_true rfl⟩ dX12_areBodies_17) (fun r5 u6 H locs hwu6 hP hD hS => ?_)
      have hP : va_P D vwCl [((v 0), .inr (13, [.int 0, .int 0, .int 0, .int (-1), .int 0, .int 0, .int 0, .int 0, .ref (v 1), .ref (v 2), .ref (v 3), .ref (v 4), .ref (v 5), .ref (v 6), .ref (v 7), .ref (v 8), .ref (v 9), .int 0, .int 0, .int 0, .int 0, .int 0, .int 0, .int 0, .int 0, .int 0, .ref (v 10), .ref (v 11), .ref (v 12), .ref (v 13), .int 0, .ref (v 14), .ref (v 15), .ref (v 16), .ref (v 17), .ref (v 18), .int 0, .int 0, .int 0, .ref (v 19), .ref (v 20), .ref (v 21), .ref (v 22), .ref (v 23), .int 0, .int 0, .int 0, .int 0])), ((v 5), .inl (cy 0, 5, .inl (fun _ => 0)))] H := hP
      have hD : va_D A [((v 0), .inr (13, [.int 0, .int 0, .int 0, .int (-1), .int 0, .int 0, .int 0, .int 0, .ref (v 1), .ref (v 2), .ref (v 3), .ref (v 4), .ref (v 5), .ref (v 6), .ref (v 7), .ref (v 8), .ref (v 9), .int 0, .int 0, .int 0, .int 0, .int 0, .int 0, .int 0, .int 0, .int 0, .ref (v 10), .ref (v 11), .ref (v 12), .ref (v 13), .int 0, .ref (v 14), .ref (v 15), .ref (v 16), .ref (v 17), .ref (v 18), .int 0, .int 0, .int 0, .ref (v 19), .ref (v 20), .ref (v 21), .ref (v 22), .ref (v 23), .int 0, .int 0, .int 0, .int 0])), ((v 5), .inl (cy 0, 5, .inl (fun _ => 0)))] := hD
      obtain rfl : r5 = 0 := hwu6
      refine lv_iload_n hx hb dX12_areBodies_20 rfl (lv_at hl 2 rfl) ?_
      refine lv_iload_n hx hb dX12_areBodies_21 rfl (lv_at hl 3 rfl) ?_
      refine k_cali [0, 1] (⟨hP, hD, hG, hS, hA, rfl, rfl⟩ : kAt D cy sa A s H _ _ [] []) (wr := [((v 0), .inr (13, [.int 0, .int 0, .int 0, .int (-1), .int 0, .int 0, .int 0, .int 0, .ref (v 1), .ref (v 2), .ref (v 3), .ref (v 4), .ref (v 5), .ref (v 6), .ref (v 7), .ref (v 8), .ref (v 9), .int 0, .int 0, .int 0, .int 0, .int 0, .int 0, .int 0, .int 0, .int 0, .ref (v 10), .ref (v 11), .ref (v 12), .ref (v 13), .int 0, .ref (v 14), .ref (v 15), .ref (v 16), .ref (v 17), .ref (v 18), .int 0, .int 0, .int 0, .ref (v 19), .ref (v 20), .ref (v 21), .ref (v 22), .ref (v 23), .int 0, .int 0, .int 0, .int 0])), ((v 5), .inl (cy 0, 5, .inl (fun _ => 0)))]) rfl rfl (by decide) (k_runS (As := [.int 0, .int 2, .int 6]) (rest := []) E lk_SRX12_124 (m_in l hl0 D cy sa 0 2 6 H.size) (⟨hP, hD, hG, hS, hA, rfl, rfl⟩ : kAt D cy sa A s H _ _ [] []) hl.1 rfl rfl ⟨rfl, rfl, ⟨Nat.le_of_ble_eq_true rfl, Nat.le_of_ble_eq_true rfl⟩, ⟨Nat.le_of_ble_eq_true rfl, Nat.le_of_ble_eq_true rfl⟩, Nat.le_of_ble_eq_true rfl⟩ dX12_areBodies_22) (fun r7 u8 H locs hwu8 hP hD hS => ?_)
      have hP : va_P D vwCl [((v 0), .inr (13, [.int 0, .int 0, .int 0, .int (-1), .int 0, .int 0, .int 0, .int 0, .ref (v 1), .ref (v 2), .ref (v 3), .ref (v 4), .ref (v 5), .ref (v 6), .ref (v 7), .ref (v 8), .ref (v 9), .int 0, .int 0, .int 0, .int 0, .int 0, .int 0, .int 0, .int 0, .int 0, .ref (v 10), .ref (v 11), .ref (v 12), .ref (v 13), .int 0, .ref (v 14), .ref (v 15), .ref (v 16), .ref (v 17), .ref (v 18), .int 0, .int 0, .int 0, .ref (v 19), .ref (v 20), .ref (v 21), .ref (v 22), .ref (v 23), .int 0, .int 0, .int 0, .int 0])), ((v 5), .inl (cy 0, 5, .inl (fun _ => 0)))] H := hP
      have hD : va_D A [((v 0), .inr (13, [.int 0, .int 0, .int 0, .int (-1), .int 0, .int 0, .int 0, .int 0, .ref (v 1), .ref (v 2), .ref (v 3), .ref (v 4), .ref (v 5), .ref (v 6), .ref (v 7), .ref (v 8), .ref (v 9), .int 0, .int 0, .int 0, .int 0, .int 0, .int 0, .int 0, .int 0, .int 0, .ref (v 10), .ref (v 11), .ref (v 12), .ref (v 13), .int 0, .ref (v 14), .ref (v 15), .ref (v 16), .ref (v 17), .ref (v 18), .int 0, .int 0, .int 0, .ref (v 19), .ref (v 20), .ref (v 21), .ref (v 22), .ref (v 23), .int 0, .int 0, .int 0, .int 0])), ((v 5), .inl (cy 0, 5, .inl (fun _ => 0)))] := hD
      obtain rfl : r7 = 0 := hwu8.trans (if_neg (by decide))
      refine lv_if_eq (tgt := 32) hx hb dX12_areBodies_25 (by decide) (fun _ => ?_) (fun h => absurd (by decide) h)
      refine lv_iconst (v := 0) hx hb dX12_areBodies_32 (by decide) ?_
      exact k_zret () hx hb hr hlk (k_nz (by decide)) (rfl) (hP.sub [0, 1] rfl) (hD.sub [0, 1] (by decide) rfl) hS (by decide) (by decide) dX12_areBodies_33

set_option maxHeartbeats 4000000 in
set_option maxRecDepth 100000 in
/-- the reference: areBodies_13 -/
theorem m_areBodies_13 (l : Launch) (hl0 : l.stackTraces = false) (D : va_G) (cy : Nat → ClassId) (sa : Nat → Nat) (v : Nat → Nat) (p0 : Int32) (sz : Nat) : Met l yX12_areBodies (Cond.code yX12_areBodies cX12_areBodies 4 (some .boolean) :: kWS) ({ frames := 11, cells := 0, slots := 0, locals := 360 }) (kPre D cy sa [.ref (v 0), .int p0, .int 1, .int 3] [((v 0), .inr (13, [.int 0, .int 0, .int 0, .int (-1), .int 0, .int 0, .int 0, .int 0, .ref (v 1), .ref (v 2), .ref (v 3), .ref (v 4), .ref (v 5), .ref (v 6), .ref (v 7), .ref (v 8), .ref (v 9), .int 0, .int 0, .int 0, .int 0, .int 0, .int 0, .int 0, .int 0, .int 0, .ref (v 10), .ref (v 11), .ref (v 12), .ref (v 13), .int 0, .ref (v 14), .ref (v 15), .ref (v 16), .ref (v 17), .ref (v 18), .int 0, .int 0, .int 0, .ref (v 19), .ref (v 20), .ref (v 21), .ref (v 22), .ref (v 23), .int 0, .int 0, .int 0, .int 0])), ((v 5), .inl (cy 0, 5, .inl (fun _ => 0)))] sz) (va_Qi (fun (r : Int32) (_ : Unit) => r = 0) (kB D (va_A [((v 0), .inr (13, [.int 0, .int 0, .int 0, .int (-1), .int 0, .int 0, .int 0, .int 0, .ref (v 1), .ref (v 2), .ref (v 3), .ref (v 4), .ref (v 5), .ref (v 6), .ref (v 7), .ref (v 8), .ref (v 9), .int 0, .int 0, .int 0, .int 0, .int 0, .int 0, .int 0, .int 0, .int 0, .ref (v 10), .ref (v 11), .ref (v 12), .ref (v 13), .int 0, .ref (v 14), .ref (v 15), .ref (v 16), .ref (v 17), .ref (v 18), .int 0, .int 0, .int 0, .ref (v 19), .ref (v 20), .ref (v 21), .ref (v 22), .ref (v 23), .int 0, .int 0, .int 0, .int 0])), ((v 5), .inl (cy 0, 5, .inl (fun _ => 0)))] sz) (fun _ => [((v 0), .inr (13, [.int 0, .int 0, .int 0, .int (-1), .int 0, .int 0, .int 0, .int 0, .ref (v 1), .ref (v 2), .ref (v 3), .ref (v 4), .ref (v 5), .ref (v 6), .ref (v 7), .ref (v 8), .ref (v 9), .int 0, .int 0, .int 0, .int 0, .int 0, .int 0, .int 0, .int 0, .int 0, .ref (v 10), .ref (v 11), .ref (v 12), .ref (v 13), .int 0, .ref (v 14), .ref (v 15), .ref (v 16), .ref (v 17), .ref (v 18), .int 0, .int 0, .int 0, .ref (v 19), .ref (v 20), .ref (v 21), .ref (v 22), .ref (v 23), .int 0, .int 0, .int 0, .int 0])), ((v 5), .inl (cy 0, 5, .inl (fun _ => 0)))])) (va_A [((v 0), .inr (13, [.int 0, .int 0, .int 0, .int (-1), .int 0, .int 0, .int 0, .int 0, .ref (v 1), .ref (v 2), .ref (v 3), .ref (v 4), .ref (v 5), .ref (v 6), .ref (v 7), .ref (v 8), .ref (v 9), .int 0, .int 0, .int 0, .int 0, .int 0, .int 0, .int 0, .int 0, .int 0, .ref (v 10), .ref (v 11), .ref (v 12), .ref (v 13), .int 0, .ref (v 14), .ref (v 15), .ref (v 16), .ref (v 17), .ref (v 18), .int 0, .int 0, .int 0, .ref (v 19), .ref (v 20), .ref (v 21), .ref (v 22), .ref (v 23), .int 0, .int 0, .int 0, .int 0])), ((v 5), .inl (cy 0, 5, .inl (fun _ => 0)))] sz)) 0 0 (va_A [((v 0), .inr (13, [.int 0, .int 0, .int 0, .int (-1), .int 0, .int 0, .int 0, .int 0, .ref (v 1), .ref (v 2), .ref (v 3), .ref (v 4), .ref (v 5), .ref (v 6), .ref (v 7), .ref (v 8), .ref (v 9), .int 0, .int 0, .int 0, .int 0, .int 0, .int 0, .int 0, .int 0, .int 0, .ref (v 10), .ref (v 11), .ref (v 12), .ref (v 13), .int 0, .ref (v 14), .ref (v 15), .ref (v 16), .ref (v 17), .ref (v 18), .int 0, .int 0, .int 0, .ref (v 19), .ref (v 20), .ref (v 21), .ref (v 22), .ref (v 23), .int 0, .int 0, .int 0, .int 0])), ((v 5), .inl (cy 0, 5, .inl (fun _ => 0)))] sz) := by
  refine k_ofW (y := yX12_areBodies) (cc := cX12_areBodies) (maxL := 4) (ret := (some .boolean)) (av := [.ref (v 0), .int p0, .int 1, .int 3]) (ws := [((v 0), .inr (13, [.int 0, .int 0, .int 0, .int (-1), .int 0, .int 0, .int 0, .int 0, .ref (v 1), .ref (v 2), .ref (v 3), .ref (v 4), .ref (v 5), .ref (v 6), .ref (v 7), .ref (v 8), .ref (v 9), .int 0, .int 0, .int 0, .int 0, .int 0, .int 0, .int 0, .int 0, .int 0, .ref (v 10), .ref (v 11), .ref (v 12), .ref (v 13), .int 0, .ref (v 14), .ref (v 15), .ref (v 16), .ref (v 17), .ref (v 18), .int 0, .int 0, .int 0, .ref (v 19), .ref (v 20), .ref (v 21), .ref (v 22), .ref (v 23), .int 0, .int 0, .int 0, .int 0])), ((v 5), .inl (cy 0, 5, .inl (fun _ => 0)))]) (Qc := fun A => va_Qi (fun (r : Int32) (_ : Unit) => r = 0) (kB D A (fun _ => [((v 0), .inr (13, [.int 0, .int 0, .int 0, .int (-1), .int 0, .int 0, .int 0, .int 0, .ref (v 1), .ref (v 2), .ref (v 3), .ref (v 4), .ref (v 5), .ref (v 6), .ref (v 7), .ref (v 8), .ref (v 9), .int 0, .int 0, .int 0, .int 0, .int 0, .int 0, .int 0, .int 0, .int 0, .ref (v 10), .ref (v 11), .ref (v 12), .ref (v 13), .int 0, .ref (v 14), .ref (v 15), .ref (v 16), .ref (v 17), .ref (v 18), .int 0, .int 0, .int 0, .ref (v 19), .ref (v 20), .ref (v 21), .ref (v 22), .ref (v 23), .int 0, .int 0, .int 0, .int 0])), ((v 5), .inl (cy 0, 5, .inl (fun _ => 0)))])) A) (by decide) (Nat.le_of_ble_eq_true rfl) ?_
  intro p e s m below meth c ls A E hA hP hD hG hS hl
  obtain ⟨hx, hb, hml, hown, hts, hr, hlk, hnm⟩ := id E
  have hown : s.vm.findClass RX12 = some m.cls := hown
  have hl : lv_has ls 4 [(0, .ref (v 0)), (1, .int p0), (2, .int 1), (3, .int 3)] := hl
  obtain ⟨H, hH⟩ : ∃ H, H = s.heap := ⟨_, rfl⟩
  have hP : va_P D vwCl [((v 0), .inr (13, [.int 0, .int 0, .int 0, .int (-1), .int 0, .int 0, .int 0, .int 0, .ref (v 1), .ref (v 2), .ref (v 3), .ref (v 4), .ref (v 5), .ref (v 6), .ref (v 7), .ref (v 8), .ref (v 9), .int 0, .int 0, .int 0, .int 0, .int 0, .int 0, .int 0, .int 0, .int 0, .ref (v 10), .ref (v 11), .ref (v 12), .ref (v 13), .int 0, .ref (v 14), .ref (v 15), .ref (v 16), .ref (v 17), .ref (v 18), .int 0, .int 0, .int 0, .ref (v 19), .ref (v 20), .ref (v 21), .ref (v 22), .ref (v 23), .int 0, .int 0, .int 0, .int 0])), ((v 5), .inl (cy 0, 5, .inl (fun _ => 0)))] H := by rw [hH]; exact hP
  have hS : va_S A s.heap H [] := by rw [hH]; exact va_S.rf
  rw [← hH]
  clear hH
  refine lv_iload_n hx hb dX12_areBodies_0 rfl (lv_at hl 1 rfl) ?_
  refine lv_if_lt (tgt := 32) hx hb dX12_areBodies_1 (by decide) (fun c1 => ?_) (fun c1 => ?_)
  · refine lv_iconst (v := 0) hx hb dX12_areBodies_32 (by decide) ?_
    exact k_zret () hx hb hr hlk (k_nz (by decide)) (rfl) (hP.sub [0, 1] rfl) (hD.sub [0, 1] (by decide) rfl) hS (by decide) (by decide) dX12_areBodies_33
  · refine lv_iload_n hx hb dX12_areBodies_4 rfl (lv_at hl 1 rfl) ?_
    refine lv_iconst (v := 1) hx hb dX12_areBodies_5 (by decide) ?_
    refine lv_aload_n hx hb dX12_areBodies_6 rfl (lv_at hl 0 rfl) ?_
    refine va_get (D := D) (ci := 13) (v := .ref (v 5)) (C := RX12) (T := TX12) (N := 48) hx hb hts kin_RX12 hown hG.1 hP 0 rfl rfl 12 (by decide) (hts _ wm_1531) (fun _ h9 => h9) rfl dX12_areBodies_7 ?_
    refine lv_iconst (v := 0) hx hb dX12_areBodies_10 (by decide) ?_
    refine va_iald hx hb hG.1 hP 1 0 rfl rfl (by unfold vp_in; decide) dX12_areBodies_11 ?_
    refine lv_topi (fun x2 ex2 => ?_)
    obtain rfl : x2 = 0 := ex2.trans (rfl)
    refine lv_ishl hx hb dX12_areBodies_12 ?_
    refine lv_topi (fun x3 ex3 => ?_)
    obtain rfl : x3 = 1 := ex3.trans (by decide)
    refine lv_icmp_ge (tgt := 32) hx hb dX12_areBodies_13 (by decide) (fun c4 => ?_) (fun c4 => ?_)
    · refine lv_iconst (v := 0) hx hb dX12_areBodies_32 (by decide) ?_
      exact k_zret () hx hb hr hlk (k_nz (by decide)) (rfl) (hP.sub [0, 1] rfl) (hD.sub [0, 1] (by decide) rfl) hS (by decide) (by decide) dX12_areBodies_33
    · obtain rfl : p0 = 0 := by (simp only [k_lt, k_le, k_eq, k_L0, k_L1, k_L2, k_L3, k_L4, k_L5, k_L6, k_L7, k_L8, k_L9, k_L10, k_L15, k_L20, k_L30, k_L31, k_L40, k_L41, k_L60, k_L61, k_L99, k_L120, k_L239, k_L240, k_L479, k_L480, k_L500, k_L720, k_L999, k_L1000, k_L9999, k_Lm1] at c1 c4 ⊢; omega)
      refine lv_iload_n hx hb dX12_areBodies_16 rfl (lv_at hl 1 rfl) ?_
      refine k_cali [0, 1] (⟨hP, hD, hG, hS, hA, rfl, rfl⟩ : kAt D cy sa A s H _ _ [] []) (wr := [((v 0), .inr (13, [.int 0, .int 0, .int 0, .int (-1), .int 0, .int 0, .int 0, .int 0, .ref (v 1), .ref (v 2), .ref (v 3), .ref (v 4), .ref (v 5), .ref (v 6), .ref (v 7), .ref (v 8), .ref (v 9), .int 0, .int 0, .int 0, .int 0, .int 0, .int 0, .int 0, .int 0, .int 0, .ref (v 10), .ref (v 11), .ref (v 12), .ref (v 13), .int 0, .ref (v 14), .ref (v 15), .ref (v 16), .ref (v 17), .ref (v 18), .int 0, .int 0, .int 0, .ref (v 19), .ref (v 20), .ref (v 21), .ref (v 22), .ref (v 23), .int 0, .int 0, .int 0, .int 0])), ((v 5), .inl (cy 0, 5, .inl (fun _ => 0)))]) rfl rfl (by decide) (k_runS (As := [.int 0]) (rest := []) E lk_SRX12_292 (m_ones0 l hl0 D cy sa  H.size) (⟨hP, hD, hG, hS, hA, rfl, rfl⟩ : kAt D cy sa A s H _ _ [] []) hl.1 rfl rfl ⟨rfl, rfl, ⟨Nat.le_of_ble_eq_true rfl, Nat.le_of_ble_eq_true rfl⟩, ⟨Nat.le_of_ble_eq_true rfl, Nat.le_of_ble_eq_true rfl⟩, Nat.le_of_ble_eq_true rfl⟩ dX12_areBodies_17) (fun r5 u6 H locs hwu6 hP hD hS => ?_)
      have hP : va_P D vwCl [((v 0), .inr (13, [.int 0, .int 0, .int 0, .int (-1), .int 0, .int 0, .int 0, .int 0, .ref (v 1), .ref (v 2), .ref (v 3), .ref (v 4), .ref (v 5), .ref (v 6), .ref (v 7), .ref (v 8), .ref (v 9), .int 0, .int 0, .int 0, .int 0, .int 0, .int 0, .int 0, .int 0, .int 0, .ref (v 10), .ref (v 11), .ref (v 12), .ref (v 13), .int 0, .ref (v 14), .ref (v 15), .ref (v 16), .ref (v 17), .ref (v 18), .int 0, .int 0, .int 0, .ref (v 19), .ref (v 20), .ref (v 21), .ref (v 22), .ref (v 23), .int 0, .int 0, .int 0, .int 0])), ((v 5), .inl (cy 0, 5, .inl (fun _ => 0)))] H := hP
      have hD : va_D A [((v 0), .inr (13, [.int 0, .int 0, .int 0, .int (-1), .int 0, .int 0, .int 0, .int 0, .ref (v 1), .ref (v 2), .ref (v 3), .ref (v 4), .ref (v 5), .ref (v 6), .ref (v 7), .ref (v 8), .ref (v 9), .int 0, .int 0, .int 0, .int 0, .int 0, .int 0, .int 0, .int 0, .int 0, .ref (v 10), .ref (v 11), .ref (v 12), .ref (v 13), .int 0, .ref (v 14), .ref (v 15), .ref (v 16), .ref (v 17), .ref (v 18), .int 0, .int 0, .int 0, .ref (v 19), .ref (v 20), .ref (v 21), .ref (v 22), .ref (v 23), .int 0, .int 0, .int 0, .int 0])), ((v 5), .inl (cy 0, 5, .inl (fun _ => 0)))] := hD
      obtain rfl : r5 = 0 := hwu6
      refine lv_iload_n hx hb dX12_areBodies_20 rfl (lv_at hl 2 rfl) ?_
      refine lv_iload_n hx hb dX12_areBodies_21 rfl (lv_at hl 3 rfl) ?_
      refine k_cali [0, 1] (⟨hP, hD, hG, hS, hA, rfl, rfl⟩ : kAt D cy sa A s H _ _ [] []) (wr := [((v 0), .inr (13, [.int 0, .int 0, .int 0, .int (-1), .int 0, .int 0, .int 0, .int 0, .ref (v 1), .ref (v 2), .ref (v 3), .ref (v 4), .ref (v 5), .ref (v 6), .ref (v 7), .ref (v 8), .ref (v 9), .int 0, .int 0, .int 0, .int 0, .int 0, .int 0, .int 0, .int 0, .int 0, .ref (v 10), .ref (v 11), .ref (v 12), .ref (v 13), .int 0, .ref (v 14), .ref (v 15), .ref (v 16), .ref (v 17), .ref (v 18), .int 0, .int 0, .int 0, .ref (v 19), .ref (v 20), .ref (v 21), .ref (v 22), .ref (v 23), .int 0, .int 0, .int 0, .int 0])), ((v 5), .inl (cy 0, 5, .inl (fun _ => 0)))]) rfl rfl (by decide) (k_runS (As := [.int 0, .int 1, .int 3]) (rest := []) E lk_SRX12_124 (m_in l hl0 D cy sa 0 1 3 H.size) (⟨hP, hD, hG, hS, hA, rfl, rfl⟩ : kAt D cy sa A s H _ _ [] []) hl.1 rfl rfl ⟨rfl, rfl, ⟨Nat.le_of_ble_eq_true rfl, Nat.le_of_ble_eq_true rfl⟩, ⟨Nat.le_of_ble_eq_true rfl, Nat.le_of_ble_eq_true rfl⟩, Nat.le_of_ble_eq_true rfl⟩ dX12_areBodies_22) (fun r7 u8 H locs hwu8 hP hD hS => ?_)
      have hP : va_P D vwCl [((v 0), .inr (13, [.int 0, .int 0, .int 0, .int (-1), .int 0, .int 0, .int 0, .int 0, .ref (v 1), .ref (v 2), .ref (v 3), .ref (v 4), .ref (v 5), .ref (v 6), .ref (v 7), .ref (v 8), .ref (v 9), .int 0, .int 0, .int 0, .int 0, .int 0, .int 0, .int 0, .int 0, .int 0, .ref (v 10), .ref (v 11), .ref (v 12), .ref (v 13), .int 0, .ref (v 14), .ref (v 15), .ref (v 16), .ref (v 17), .ref (v 18), .int 0, .int 0, .int 0, .ref (v 19), .ref (v 20), .ref (v 21), .ref (v 22), .ref (v 23), .int 0, .int 0, .int 0, .int 0])), ((v 5), .inl (cy 0, 5, .inl (fun _ => 0)))] H := hP
      have hD : va_D A [((v 0), .inr (13, [.int 0, .int 0, .int 0, .int (-1), .int 0, .int 0, .int 0, .int 0, .ref (v 1), .ref (v 2), .ref (v 3), .ref (v 4), .ref (v 5), .ref (v 6), .ref (v 7), .ref (v 8), .ref (v 9), .int 0, .int 0, .int 0, .int 0, .int 0, .int 0, .int 0, .int 0, .int 0, .ref (v 10), .ref (v 11), .ref (v 12), .ref (v 13), .int 0, .ref (v 14), .ref (v 15), .ref (v 16), .ref (v 17), .ref (v 18), .int 0, .int 0, .int 0, .ref (v 19), .ref (v 20), .ref (v 21), .ref (v 22), .ref (v 23), .int 0, .int 0, .int 0, .int 0])), ((v 5), .inl (cy 0, 5, .inl (fun _ => 0)))] := hD
      obtain rfl : r7 = 0 := hwu8.trans (if_neg (by decide))
      refine lv_if_eq (tgt := 32) hx hb dX12_areBodies_25 (by decide) (fun _ => ?_) (fun h => absurd (by decide) h)
      refine lv_iconst (v := 0) hx hb dX12_areBodies_32 (by decide) ?_
      exact k_zret () hx hb hr hlk (k_nz (by decide)) (rfl) (hP.sub [0, 1] rfl) (hD.sub [0, 1] (by decide) rfl) hS (by decide) (by decide) dX12_areBodies_33

set_option maxHeartbeats 4000000 in
set_option maxRecDepth 100000 in
/-- the reference: fault -/
theorem m_fault_ (l : Launch) (hl0 : l.stackTraces = false) (D : va_G) (cy : Nat → ClassId) (sa : Nat → Nat) (v : Nat → Nat) (sz : Nat) : Met l yX12_fault (Cond.code yX12_fault cX12_fault 1 (some .int) :: kWS) ({ frames := 13, cells := 0, slots := 0, locals := 480 }) (kPre D cy sa [.ref (v 0)] [((v 0), .inr (13, [.int 0, .int 0, .int 0, .int (-1), .int 0, .int 0, .int 0, .int 0, .ref (v 1), .ref (v 2), .ref (v 3), .ref (v 4), .ref (v 5), .ref (v 6), .ref (v 7), .ref (v 8), .ref (v 9), .int 0, .int 0, .int 0, .int 0, .int 0, .int 0, .int 0, .int 0, .int 0, .ref (v 10), .ref (v 11), .ref (v 12), .ref (v 13), .int 0, .ref (v 14), .ref (v 15), .ref (v 16), .ref (v 17), .ref (v 18), .int 0, .int 0, .int 0, .ref (v 19), .ref (v 20), .ref (v 21), .ref (v 22), .ref (v 23), .int 0, .int 0, .int 0, .int 0]))] sz) (va_Qi (fun (r : Int32) (x : Int32 × List Value) => ((True) → x.1 = 0 ∧ r = -1) ∧ (¬ (True) → x.1 = 1)) (kB D (va_A [((v 0), .inr (13, [.int 0, .int 0, .int 0, .int (-1), .int 0, .int 0, .int 0, .int 0, .ref (v 1), .ref (v 2), .ref (v 3), .ref (v 4), .ref (v 5), .ref (v 6), .ref (v 7), .ref (v 8), .ref (v 9), .int 0, .int 0, .int 0, .int 0, .int 0, .int 0, .int 0, .int 0, .int 0, .ref (v 10), .ref (v 11), .ref (v 12), .ref (v 13), .int 0, .ref (v 14), .ref (v 15), .ref (v 16), .ref (v 17), .ref (v 18), .int 0, .int 0, .int 0, .ref (v 19), .ref (v 20), .ref (v 21), .ref (v 22), .ref (v 23), .int 0, .int 0, .int 0, .int 0]))] sz) (fun x => [((v 0), .inr (13, .int x.1 :: x.2))])) (va_A [((v 0), .inr (13, [.int 0, .int 0, .int 0, .int (-1), .int 0, .int 0, .int 0, .int 0, .ref (v 1), .ref (v 2), .ref (v 3), .ref (v 4), .ref (v 5), .ref (v 6), .ref (v 7), .ref (v 8), .ref (v 9), .int 0, .int 0, .int 0, .int 0, .int 0, .int 0, .int 0, .int 0, .int 0, .ref (v 10), .ref (v 11), .ref (v 12), .ref (v 13), .int 0, .ref (v 14), .ref (v 15), .ref (v 16), .ref (v 17), .ref (v 18), .int 0, .int 0, .int 0, .ref (v 19), .ref (v 20), .ref (v 21), .ref (v 22), .ref (v 23), .int 0, .int 0, .int 0, .int 0]))] sz)) 0 0 (va_A [((v 0), .inr (13, [.int 0, .int 0, .int 0, .int (-1), .int 0, .int 0, .int 0, .int 0, .ref (v 1), .ref (v 2), .ref (v 3), .ref (v 4), .ref (v 5), .ref (v 6), .ref (v 7), .ref (v 8), .ref (v 9), .int 0, .int 0, .int 0, .int 0, .int 0, .int 0, .int 0, .int 0, .int 0, .ref (v 10), .ref (v 11), .ref (v 12), .ref (v 13), .int 0, .ref (v 14), .ref (v 15), .ref (v 16), .ref (v 17), .ref (v 18), .int 0, .int 0, .int 0, .ref (v 19), .ref (v 20), .ref (v 21), .ref (v 22), .ref (v 23), .int 0, .int 0, .int 0, .int 0]))] sz) := by
  refine k_ofW (y := yX12_fault) (cc := cX12_fault) (maxL := 1) (ret := (some .int)) (av := [.ref (v 0)]) (ws := [((v 0), .inr (13, [.int 0, .int 0, .int 0, .int (-1), .int 0, .int 0, .int 0, .int 0, .ref (v 1), .ref (v 2), .ref (v 3), .ref (v 4), .ref (v 5), .ref (v 6), .ref (v 7), .ref (v 8), .ref (v 9), .int 0, .int 0, .int 0, .int 0, .int 0, .int 0, .int 0, .int 0, .int 0, .ref (v 10), .ref (v 11), .ref (v 12), .ref (v 13), .int 0, .ref (v 14), .ref (v 15), .ref (v 16), .ref (v 17), .ref (v 18), .int 0, .int 0, .int 0, .ref (v 19), .ref (v 20), .ref (v 21), .ref (v 22), .ref (v 23), .int 0, .int 0, .int 0, .int 0]))]) (Qc := fun A => va_Qi (fun (r : Int32) (x : Int32 × List Value) => ((True) → x.1 = 0 ∧ r = -1) ∧ (¬ (True) → x.1 = 1)) (kB D A (fun x => [((v 0), .inr (13, .int x.1 :: x.2))])) A) (by decide) (Nat.le_of_ble_eq_true rfl) ?_
  intro p e s m below meth c ls A E hA hP hD hG hS hl
  obtain ⟨hx, hb, hml, hown, hts, hr, hlk, hnm⟩ := id E
  have hown : s.vm.findClass RX12 = some m.cls := hown
  have hl : lv_has ls 1 [(0, .ref (v 0))] := hl
  obtain ⟨H, hH⟩ : ∃ H, H = s.heap := ⟨_, rfl⟩
  have hP : va_P D vwCl [((v 0), .inr (13, [.int 0, .int 0, .int 0, .int (-1), .int 0, .int 0, .int 0, .int 0, .ref (v 1), .ref (v 2), .ref (v 3), .ref (v 4), .ref (v 5), .ref (v 6), .ref (v 7), .ref (v 8), .ref (v 9), .int 0, .int 0, .int 0, .int 0, .int 0, .int 0, .int 0, .int 0, .int 0, .ref (v 10), .ref (v 11), .ref (v 12), .ref (v 13), .int 0, .ref (v 14), .ref (v 15), .ref (v 16), .ref (v 17), .ref (v 18), .int 0, .int 0, .int 0, .ref (v 19), .ref (v 20), .ref (v 21), .ref (v 22), .ref (v 23), .int 0, .int 0, .int 0, .int 0]))] H := by rw [hH]; exact hP
  have hS : va_S A s.heap H [] := by rw [hH]; exact va_S.rf
  rw [← hH]
  clear hH
  refine lv_aload_n hx hb dX12_fault_0 rfl (lv_at hl 0 rfl) ?_
  refine lv_iconst (v := 0) hx hb dX12_fault_1 (by decide) ?_
  refine va_put (D := D) (ci := 13) (v := .int 0) (ty := .int) (C := RX12) (T := TX12) (N := 48) hx hb hts kin_RX12 tyX12 tyX12_ok nmX12 hown hG.1 hP hD hS 0 rfl rfl 0 (by decide) (hts _ wm_1519) (fun _ h9 => h9) rfl (by decide +kernel) rfl rfl (Nat.le_of_ble_eq_true rfl) dX12_fault_2 (fun H locs hP hD hS => ?_)
  have hP : va_P D vwCl [((v 0), .inr (13, [.int 0, .int 0, .int 0, .int (-1), .int 0, .int 0, .int 0, .int 0, .ref (v 1), .ref (v 2), .ref (v 3), .ref (v 4), .ref (v 5), .ref (v 6), .ref (v 7), .ref (v 8), .ref (v 9), .int 0, .int 0, .int 0, .int 0, .int 0, .int 0, .int 0, .int 0, .int 0, .ref (v 10), .ref (v 11), .ref (v 12), .ref (v 13), .int 0, .ref (v 14), .ref (v 15), .ref (v 16), .ref (v 17), .ref (v 18), .int 0, .int 0, .int 0, .ref (v 19), .ref (v 20), .ref (v 21), .ref (v 22), .ref (v 23), .int 0, .int 0, .int 0, .int 0]))] H := hP
  have hD : va_D A [((v 0), .inr (13, [.int 0, .int 0, .int 0, .int (-1), .int 0, .int 0, .int 0, .int 0, .ref (v 1), .ref (v 2), .ref (v 3), .ref (v 4), .ref (v 5), .ref (v 6), .ref (v 7), .ref (v 8), .ref (v 9), .int 0, .int 0, .int 0, .int 0, .int 0, .int 0, .int 0, .int 0, .int 0, .ref (v 10), .ref (v 11), .ref (v 12), .ref (v 13), .int 0, .ref (v 14), .ref (v 15), .ref (v 16), .ref (v 17), .ref (v 18), .int 0, .int 0, .int 0, .ref (v 19), .ref (v 20), .ref (v 21), .ref (v 22), .ref (v 23), .int 0, .int 0, .int 0, .int 0]))] := hD
  refine lv_aload_n hx hb dX12_fault_5 rfl (lv_at hl 0 rfl) ?_
  refine va_get (D := D) (ci := 13) (v := .int (-1)) (C := RX12) (T := TX12) (N := 48) hx hb hts kin_RX12 hown hG.1 hP 0 rfl rfl 3 (by decide) (hts _ wm_1522) (fun _ h9 => h9) rfl dX12_fault_6 ?_
  exact k_iret (0, [.int 0, .int 0, .int (-1), .int 0, .int 0, .int 0, .int 0, .ref (v 1), .ref (v 2), .ref (v 3), .ref (v 4), .ref (v 5), .ref (v 6), .ref (v 7), .ref (v 8), .ref (v 9), .int 0, .int 0, .int 0, .int 0, .int 0, .int 0, .int 0, .int 0, .int 0, .ref (v 10), .ref (v 11), .ref (v 12), .ref (v 13), .int 0, .ref (v 14), .ref (v 15), .ref (v 16), .ref (v 17), .ref (v 18), .int 0, .int 0, .int 0, .ref (v 19), .ref (v 20), .ref (v 21), .ref (v 22), .ref (v 23), .int 0, .int 0, .int 0, .int 0]) hx hb hr hlk (by refine ⟨fun h => ?_, fun h => ?_⟩ <;> first | exact False.elim h | exact ⟨rfl, rfl⟩ | rfl | exact absurd trivial h | (exfalso; simp only [k_lt, k_le, k_eq, k_L0, k_L1, k_L2, k_L3, k_L4, k_L5, k_L6, k_L7, k_L8, k_L9, k_L10, k_L15, k_L20, k_L30, k_L31, k_L40, k_L41, k_L60, k_L61, k_L99, k_L120, k_L239, k_L240, k_L479, k_L480, k_L500, k_L720, k_L999, k_L1000, k_L9999, k_Lm1] at h; omega) | (refine ⟨rfl, ?_⟩; rfl)) (hP.sub [0] rfl) (hD.sub [0] (by decide) rfl) hS (by decide) (by decide) dX12_fault_9

set_option maxHeartbeats 4000000 in
set_option maxRecDepth 100000 in
/-- the reference: told -/
theorem m_told_ (l : Launch) (hl0 : l.stackTraces = false) (D : va_G) (cy : Nat → ClassId) (sa : Nat → Nat) (v : Nat → Nat) (p0 : Int32) (sz : Nat) : Met l yX12_told (Cond.code yX12_told cX12_told 2 (some .int) :: kWS) ({ frames := 13, cells := 0, slots := 0, locals := 480 }) (kPre D cy sa [.ref (v 0), .int p0] [((v 0), .inr (13, [.int 0, .int 0, .int 0, .int (-1), .int 0, .int 0, .int 0, .int 0, .ref (v 1), .ref (v 2), .ref (v 3), .ref (v 4), .ref (v 5), .ref (v 6), .ref (v 7), .ref (v 8), .ref (v 9), .int 0, .int 0, .int 0, .int 0, .int 0, .int 0, .int 0, .int 0, .int 0, .ref (v 10), .ref (v 11), .ref (v 12), .ref (v 13), .int 0, .ref (v 14), .ref (v 15), .ref (v 16), .ref (v 17), .ref (v 18), .int 0, .int 0, .int 0, .ref (v 19), .ref (v 20), .ref (v 21), .ref (v 22), .ref (v 23), .int 0, .int 0, .int 0, .int 0])), ((v 5), .inl (cy 0, 5, .inl (fun _ => 0)))] sz) (va_Qi (fun (r : Int32) (x : Int32 × List Value) => ((0 ≤ p0 ∧ p0 ≤ 4) → x.1 = 0 ∧ r = 0) ∧ (¬ (0 ≤ p0 ∧ p0 ≤ 4) → x.1 = 1)) (kB D (va_A [((v 0), .inr (13, [.int 0, .int 0, .int 0, .int (-1), .int 0, .int 0, .int 0, .int 0, .ref (v 1), .ref (v 2), .ref (v 3), .ref (v 4), .ref (v 5), .ref (v 6), .ref (v 7), .ref (v 8), .ref (v 9), .int 0, .int 0, .int 0, .int 0, .int 0, .int 0, .int 0, .int 0, .int 0, .ref (v 10), .ref (v 11), .ref (v 12), .ref (v 13), .int 0, .ref (v 14), .ref (v 15), .ref (v 16), .ref (v 17), .ref (v 18), .int 0, .int 0, .int 0, .ref (v 19), .ref (v 20), .ref (v 21), .ref (v 22), .ref (v 23), .int 0, .int 0, .int 0, .int 0])), ((v 5), .inl (cy 0, 5, .inl (fun _ => 0)))] sz) (fun x => [((v 0), .inr (13, .int x.1 :: x.2))])) (va_A [((v 0), .inr (13, [.int 0, .int 0, .int 0, .int (-1), .int 0, .int 0, .int 0, .int 0, .ref (v 1), .ref (v 2), .ref (v 3), .ref (v 4), .ref (v 5), .ref (v 6), .ref (v 7), .ref (v 8), .ref (v 9), .int 0, .int 0, .int 0, .int 0, .int 0, .int 0, .int 0, .int 0, .int 0, .ref (v 10), .ref (v 11), .ref (v 12), .ref (v 13), .int 0, .ref (v 14), .ref (v 15), .ref (v 16), .ref (v 17), .ref (v 18), .int 0, .int 0, .int 0, .ref (v 19), .ref (v 20), .ref (v 21), .ref (v 22), .ref (v 23), .int 0, .int 0, .int 0, .int 0])), ((v 5), .inl (cy 0, 5, .inl (fun _ => 0)))] sz)) 0 0 (va_A [((v 0), .inr (13, [.int 0, .int 0, .int 0, .int (-1), .int 0, .int 0, .int 0, .int 0, .ref (v 1), .ref (v 2), .ref (v 3), .ref (v 4), .ref (v 5), .ref (v 6), .ref (v 7), .ref (v 8), .ref (v 9), .int 0, .int 0, .int 0, .int 0, .int 0, .int 0, .int 0, .int 0, .int 0, .ref (v 10), .ref (v 11), .ref (v 12), .ref (v 13), .int 0, .ref (v 14), .ref (v 15), .ref (v 16), .ref (v 17), .ref (v 18), .int 0, .int 0, .int 0, .ref (v 19), .ref (v 20), .ref (v 21), .ref (v 22), .ref (v 23), .int 0, .int 0, .int 0, .int 0])), ((v 5), .inl (cy 0, 5, .inl (fun _ => 0)))] sz) := by
  refine k_ofW (y := yX12_told) (cc := cX12_told) (maxL := 2) (ret := (some .int)) (av := [.ref (v 0), .int p0]) (ws := [((v 0), .inr (13, [.int 0, .int 0, .int 0, .int (-1), .int 0, .int 0, .int 0, .int 0, .ref (v 1), .ref (v 2), .ref (v 3), .ref (v 4), .ref (v 5), .ref (v 6), .ref (v 7), .ref (v 8), .ref (v 9), .int 0, .int 0, .int 0, .int 0, .int 0, .int 0, .int 0, .int 0, .int 0, .ref (v 10), .ref (v 11), .ref (v 12), .ref (v 13), .int 0, .ref (v 14), .ref (v 15), .ref (v 16), .ref (v 17), .ref (v 18), .int 0, .int 0, .int 0, .ref (v 19), .ref (v 20), .ref (v 21), .ref (v 22), .ref (v 23), .int 0, .int 0, .int 0, .int 0])), ((v 5), .inl (cy 0, 5, .inl (fun _ => 0)))]) (Qc := fun A => va_Qi (fun (r : Int32) (x : Int32 × List Value) => ((0 ≤ p0 ∧ p0 ≤ 4) → x.1 = 0 ∧ r = 0) ∧ (¬ (0 ≤ p0 ∧ p0 ≤ 4) → x.1 = 1)) (kB D A (fun x => [((v 0), .inr (13, .int x.1 :: x.2))])) A) (by decide) (Nat.le_of_ble_eq_true rfl) ?_
  intro p e s m below meth c ls A E hA hP hD hG hS hl
  obtain ⟨hx, hb, hml, hown, hts, hr, hlk, hnm⟩ := id E
  have hown : s.vm.findClass RX12 = some m.cls := hown
  have hl : lv_has ls 2 [(0, .ref (v 0)), (1, .int p0)] := hl
  obtain ⟨H, hH⟩ : ∃ H, H = s.heap := ⟨_, rfl⟩
  have hP : va_P D vwCl [((v 0), .inr (13, [.int 0, .int 0, .int 0, .int (-1), .int 0, .int 0, .int 0, .int 0, .ref (v 1), .ref (v 2), .ref (v 3), .ref (v 4), .ref (v 5), .ref (v 6), .ref (v 7), .ref (v 8), .ref (v 9), .int 0, .int 0, .int 0, .int 0, .int 0, .int 0, .int 0, .int 0, .int 0, .ref (v 10), .ref (v 11), .ref (v 12), .ref (v 13), .int 0, .ref (v 14), .ref (v 15), .ref (v 16), .ref (v 17), .ref (v 18), .int 0, .int 0, .int 0, .ref (v 19), .ref (v 20), .ref (v 21), .ref (v 22), .ref (v 23), .int 0, .int 0, .int 0, .int 0])), ((v 5), .inl (cy 0, 5, .inl (fun _ => 0)))] H := by rw [hH]; exact hP
  have hS : va_S A s.heap H [] := by rw [hH]; exact va_S.rf
  rw [← hH]
  clear hH
  refine lv_aload_n hx hb dX12_told_0 rfl (lv_at hl 0 rfl) ?_
  refine lv_iconst (v := 0) hx hb dX12_told_1 (by decide) ?_
  refine va_put (D := D) (ci := 13) (v := .int 0) (ty := .int) (C := RX12) (T := TX12) (N := 48) hx hb hts kin_RX12 tyX12 tyX12_ok nmX12 hown hG.1 hP hD hS 0 rfl rfl 0 (by decide) (hts _ wm_1519) (fun _ h9 => h9) rfl (by decide +kernel) rfl rfl (Nat.le_of_ble_eq_true rfl) dX12_told_2 (fun H locs hP hD hS => ?_)
  have hP : va_P D vwCl [((v 0), .inr (13, [.int 0, .int 0, .int 0, .int (-1), .int 0, .int 0, .int 0, .int 0, .ref (v 1), .ref (v 2), .ref (v 3), .ref (v 4), .ref (v 5), .ref (v 6), .ref (v 7), .ref (v 8), .ref (v 9), .int 0, .int 0, .int 0, .int 0, .int 0, .int 0, .int 0, .int 0, .int 0, .ref (v 10), .ref (v 11), .ref (v 12), .ref (v 13), .int 0, .ref (v 14), .ref (v 15), .ref (v 16), .ref (v 17), .ref (v 18), .int 0, .int 0, .int 0, .ref (v 19), .ref (v 20), .ref (v 21), .ref (v 22), .ref (v 23), .int 0, .int 0, .int 0, .int 0])), ((v 5), .inl (cy 0, 5, .inl (fun _ => 0)))] H := hP
  have hD : va_D A [((v 0), .inr (13, [.int 0, .int 0, .int 0, .int (-1), .int 0, .int 0, .int 0, .int 0, .ref (v 1), .ref (v 2), .ref (v 3), .ref (v 4), .ref (v 5), .ref (v 6), .ref (v 7), .ref (v 8), .ref (v 9), .int 0, .int 0, .int 0, .int 0, .int 0, .int 0, .int 0, .int 0, .int 0, .ref (v 10), .ref (v 11), .ref (v 12), .ref (v 13), .int 0, .ref (v 14), .ref (v 15), .ref (v 16), .ref (v 17), .ref (v 18), .int 0, .int 0, .int 0, .ref (v 19), .ref (v 20), .ref (v 21), .ref (v 22), .ref (v 23), .int 0, .int 0, .int 0, .int 0])), ((v 5), .inl (cy 0, 5, .inl (fun _ => 0)))] := hD
  refine lv_aload_n hx hb dX12_told_5 rfl (lv_at hl 0 rfl) ?_
  refine lv_iload_n hx hb dX12_told_6 rfl (lv_at hl 1 rfl) ?_
  refine lv_iconst (v := 0) hx hb dX12_told_7 (by decide) ?_
  refine lv_iconst (v := 4) hx hb dX12_told_8 (by decide) ?_
  refine k_cali [0, 1] (⟨hP, hD, hG, hS, hA, rfl, rfl⟩ : kAt D cy sa A s H _ _ [] []) (wr := [((v 0), .inr (13, [.int 0, .int 0, .int 0, .int (-1), .int 0, .int 0, .int 0, .int 0, .ref (v 1), .ref (v 2), .ref (v 3), .ref (v 4), .ref (v 5), .ref (v 6), .ref (v 7), .ref (v 8), .ref (v 9), .int 0, .int 0, .int 0, .int 0, .int 0, .int 0, .int 0, .int 0, .int 0, .ref (v 10), .ref (v 11), .ref (v 12), .ref (v 13), .int 0, .ref (v 14), .ref (v 15), .ref (v 16), .ref (v 17), .ref (v 18), .int 0, .int 0, .int 0, .ref (v 19), .ref (v 20), .ref (v 21), .ref (v 22), .ref (v 23), .int 0, .int 0, .int 0, .int 0])), ((v 5), .inl (cy 0, 5, .inl (fun _ => 0)))]) rfl rfl (by decide) (k_runS (As := [.int p0, .int 0, .int 4]) (rest := [.ref (v 0)]) E lk_SRX12_124 (m_in l hl0 D cy sa p0 0 4 H.size) (⟨hP, hD, hG, hS, hA, rfl, rfl⟩ : kAt D cy sa A s H _ _ [] []) hl.1 rfl rfl ⟨rfl, rfl, ⟨Nat.le_of_ble_eq_true rfl, Nat.le_of_ble_eq_true rfl⟩, ⟨Nat.le_of_ble_eq_true rfl, Nat.le_of_ble_eq_true rfl⟩, Nat.le_of_ble_eq_true rfl⟩ dX12_told_9) (fun r1 u2 H locs hwu2 hP hD hS => ?_)
  have hP : va_P D vwCl [((v 0), .inr (13, [.int 0, .int 0, .int 0, .int (-1), .int 0, .int 0, .int 0, .int 0, .ref (v 1), .ref (v 2), .ref (v 3), .ref (v 4), .ref (v 5), .ref (v 6), .ref (v 7), .ref (v 8), .ref (v 9), .int 0, .int 0, .int 0, .int 0, .int 0, .int 0, .int 0, .int 0, .int 0, .ref (v 10), .ref (v 11), .ref (v 12), .ref (v 13), .int 0, .ref (v 14), .ref (v 15), .ref (v 16), .ref (v 17), .ref (v 18), .int 0, .int 0, .int 0, .ref (v 19), .ref (v 20), .ref (v 21), .ref (v 22), .ref (v 23), .int 0, .int 0, .int 0, .int 0])), ((v 5), .inl (cy 0, 5, .inl (fun _ => 0)))] H := hP
  have hD : va_D A [((v 0), .inr (13, [.int 0, .int 0, .int 0, .int (-1), .int 0, .int 0, .int 0, .int 0, .ref (v 1), .ref (v 2), .ref (v 3), .ref (v 4), .ref (v 5), .ref (v 6), .ref (v 7), .ref (v 8), .ref (v 9), .int 0, .int 0, .int 0, .int 0, .int 0, .int 0, .int 0, .int 0, .int 0, .ref (v 10), .ref (v 11), .ref (v 12), .ref (v 13), .int 0, .ref (v 14), .ref (v 15), .ref (v 16), .ref (v 17), .ref (v 18), .int 0, .int 0, .int 0, .ref (v 19), .ref (v 20), .ref (v 21), .ref (v 22), .ref (v 23), .int 0, .int 0, .int 0, .int 0])), ((v 5), .inl (cy 0, 5, .inl (fun _ => 0)))] := hD
  rcases k_if hwu2 with ⟨c3, rfl⟩ | ⟨c3, rfl⟩
  · refine lv_if_ne (tgt := 19) hx hb dX12_told_12 (by decide) (fun _ => ?_) (fun h => absurd h (by decide))
    refine lv_iconst (v := 0) hx hb dX12_told_19 (by decide) ?_
    refine lv_iconst (v := 1) hx hb dX12_told_20 (by decide) ?_
    refine k_cali [1] (⟨hP, hD, hG, hS, hA, rfl, rfl⟩ : kAt D cy sa A s H _ _ [((v 0), .inr (13, [.int 0, .int 0, .int 0, .int (-1), .int 0, .int 0, .int 0, .int 0, .ref (v 1), .ref (v 2), .ref (v 3), .ref (v 4), .ref (v 5), .ref (v 6), .ref (v 7), .ref (v 8), .ref (v 9), .int 0, .int 0, .int 0, .int 0, .int 0, .int 0, .int 0, .int 0, .int 0, .ref (v 10), .ref (v 11), .ref (v 12), .ref (v 13), .int 0, .ref (v 14), .ref (v 15), .ref (v 16), .ref (v 17), .ref (v 18), .int 0, .int 0, .int 0, .ref (v 19), .ref (v 20), .ref (v 21), .ref (v 22), .ref (v 23), .int 0, .int 0, .int 0, .int 0]))] [0]) (wr := [((v 5), .inl (cy 0, 5, .inl (fun _ => 0)))]) rfl rfl (by decide) (k_runV 13 0 (As := [.int 0, .int 1]) (rest := []) E lk_VRX12_169 rfl rfl rfl (m_bad0 l hl0 D cy sa v 1 H.size) (⟨hP, hD, hG, hS, hA, rfl, rfl⟩ : kAt D cy sa A s H _ _ [((v 0), .inr (13, [.int 0, .int 0, .int 0, .int (-1), .int 0, .int 0, .int 0, .int 0, .ref (v 1), .ref (v 2), .ref (v 3), .ref (v 4), .ref (v 5), .ref (v 6), .ref (v 7), .ref (v 8), .ref (v 9), .int 0, .int 0, .int 0, .int 0, .int 0, .int 0, .int 0, .int 0, .int 0, .ref (v 10), .ref (v 11), .ref (v 12), .ref (v 13), .int 0, .ref (v 14), .ref (v 15), .ref (v 16), .ref (v 17), .ref (v 18), .int 0, .int 0, .int 0, .ref (v 19), .ref (v 20), .ref (v 21), .ref (v 22), .ref (v 23), .int 0, .int 0, .int 0, .int 0]))] [0]) hl.1 rfl rfl ⟨rfl, rfl, ⟨Nat.le_of_ble_eq_true rfl, Nat.le_of_ble_eq_true rfl⟩, ⟨Nat.le_of_ble_eq_true rfl, Nat.le_of_ble_eq_true rfl⟩, Nat.le_of_ble_eq_true rfl⟩ dX12_told_21) (fun r4 u5 H locs hwu5 hP hD hS => ?_)
    have hP : va_P D vwCl [((v 5), .inl (cy 0, 5, .inl (fun _ => 0))), ((v 0), .inr (13, [.int 0, .int 0, .int 0, .int (-1), .int 0, .int 0, .int 0, .int 0, .ref (v 1), .ref (v 2), .ref (v 3), .ref (v 4), .ref (v 5), .ref (v 6), .ref (v 7), .ref (v 8), .ref (v 9), .int 0, .int 0, .int 0, .int 0, .int 0, .int 0, .int 0, .int 0, .int 0, .ref (v 10), .ref (v 11), .ref (v 12), .ref (v 13), .int 0, .ref (v 14), .ref (v 15), .ref (v 16), .ref (v 17), .ref (v 18), .int 0, .int 0, .int 0, .ref (v 19), .ref (v 20), .ref (v 21), .ref (v 22), .ref (v 23), .int 0, .int 0, .int 0, .int 0]))] H := hP
    have hD : va_D A [((v 5), .inl (cy 0, 5, .inl (fun _ => 0))), ((v 0), .inr (13, [.int 0, .int 0, .int 0, .int (-1), .int 0, .int 0, .int 0, .int 0, .ref (v 1), .ref (v 2), .ref (v 3), .ref (v 4), .ref (v 5), .ref (v 6), .ref (v 7), .ref (v 8), .ref (v 9), .int 0, .int 0, .int 0, .int 0, .int 0, .int 0, .int 0, .int 0, .int 0, .ref (v 10), .ref (v 11), .ref (v 12), .ref (v 13), .int 0, .ref (v 14), .ref (v 15), .ref (v 16), .ref (v 17), .ref (v 18), .int 0, .int 0, .int 0, .ref (v 19), .ref (v 20), .ref (v 21), .ref (v 22), .ref (v 23), .int 0, .int 0, .int 0, .int 0]))] := hD
    obtain rfl : r4 = 0 := hwu5
    refine lv_if_eq (tgt := 29) hx hb dX12_told_24 (by decide) (fun _ => ?_) (fun h => absurd (by decide) h)
    refine lv_aload_n hx hb dX12_told_29 rfl (lv_at hl 0 rfl) ?_
    refine va_get (D := D) (ci := 13) (v := .ref (v 5)) (C := RX12) (T := TX12) (N := 48) hx hb hts kin_RX12 hown hG.1 hP 1 rfl rfl 12 (by decide) (hts _ wm_1531) (fun _ h9 => h9) rfl dX12_told_30 ?_
    refine lv_iload_n hx hb dX12_told_33 rfl (lv_at hl 1 rfl) ?_
    refine va_iald hx hb hG.1 hP 0 0 rfl rfl (by rw [vp_in_iff]; simp only [k_lt, k_le, k_eq, k_L0, k_L1, k_L2, k_L3, k_L4, k_L5, k_L6, k_L7, k_L8, k_L9, k_L10, k_L15, k_L20, k_L30, k_L31, k_L40, k_L41, k_L60, k_L61, k_L99, k_L120, k_L239, k_L240, k_L479, k_L480, k_L500, k_L720, k_L999, k_L1000, k_L9999, k_Lm1] at c3 ⊢; omega) dX12_told_34 ?_
    refine lv_topi (fun x6 ex6 => ?_)
    obtain rfl : x6 = 0 := ex6.trans (rfl)
    exact k_iret (0, [.int 0, .int 0, .int (-1), .int 0, .int 0, .int 0, .int 0, .ref (v 1), .ref (v 2), .ref (v 3), .ref (v 4), .ref (v 5), .ref (v 6), .ref (v 7), .ref (v 8), .ref (v 9), .int 0, .int 0, .int 0, .int 0, .int 0, .int 0, .int 0, .int 0, .int 0, .ref (v 10), .ref (v 11), .ref (v 12), .ref (v 13), .int 0, .ref (v 14), .ref (v 15), .ref (v 16), .ref (v 17), .ref (v 18), .int 0, .int 0, .int 0, .ref (v 19), .ref (v 20), .ref (v 21), .ref (v 22), .ref (v 23), .int 0, .int 0, .int 0, .int 0]) hx hb hr hlk (by refine ⟨fun h => ?_, fun h => ?_⟩ <;> first | exact False.elim h | exact ⟨rfl, rfl⟩ | rfl | exact absurd trivial h | (exfalso; simp only [k_lt, k_le, k_eq, k_L0, k_L1, k_L2, k_L3, k_L4, k_L5, k_L6, k_L7, k_L8, k_L9, k_L10, k_L15, k_L20, k_L30, k_L31, k_L40, k_L41, k_L60, k_L61, k_L99, k_L120, k_L239, k_L240, k_L479, k_L480, k_L500, k_L720, k_L999, k_L1000, k_L9999, k_Lm1] at c3 h; omega) | (refine ⟨rfl, ?_⟩; rfl)) (hP.sub [1] rfl) (hD.sub [1] (by decide) rfl) hS (by decide) (by decide) dX12_told_35
  · refine lv_if_ne (tgt := 19) hx hb dX12_told_12 (by decide) (fun h => absurd (by decide) h) (fun _ => ?_)
    refine lv_iconst (v := 1) hx hb dX12_told_15 (by decide) ?_
    refine lv_goto (tgt := 20) hx hb dX12_told_16 (by decide) ?_
    refine lv_iconst (v := 1) hx hb dX12_told_20 (by decide) ?_
    refine k_cali [1] (⟨hP, hD, hG, hS, hA, rfl, rfl⟩ : kAt D cy sa A s H _ _ [((v 0), .inr (13, [.int 0, .int 0, .int 0, .int (-1), .int 0, .int 0, .int 0, .int 0, .ref (v 1), .ref (v 2), .ref (v 3), .ref (v 4), .ref (v 5), .ref (v 6), .ref (v 7), .ref (v 8), .ref (v 9), .int 0, .int 0, .int 0, .int 0, .int 0, .int 0, .int 0, .int 0, .int 0, .ref (v 10), .ref (v 11), .ref (v 12), .ref (v 13), .int 0, .ref (v 14), .ref (v 15), .ref (v 16), .ref (v 17), .ref (v 18), .int 0, .int 0, .int 0, .ref (v 19), .ref (v 20), .ref (v 21), .ref (v 22), .ref (v 23), .int 0, .int 0, .int 0, .int 0]))] [0]) (wr := [((v 5), .inl (cy 0, 5, .inl (fun _ => 0)))]) rfl rfl (by decide) (k_runV 13 0 (As := [.int 1, .int 1]) (rest := []) E lk_VRX12_169 rfl rfl rfl (m_bad1 l hl0 D cy sa v H.size) (⟨hP, hD, hG, hS, hA, rfl, rfl⟩ : kAt D cy sa A s H _ _ [((v 0), .inr (13, [.int 0, .int 0, .int 0, .int (-1), .int 0, .int 0, .int 0, .int 0, .ref (v 1), .ref (v 2), .ref (v 3), .ref (v 4), .ref (v 5), .ref (v 6), .ref (v 7), .ref (v 8), .ref (v 9), .int 0, .int 0, .int 0, .int 0, .int 0, .int 0, .int 0, .int 0, .int 0, .ref (v 10), .ref (v 11), .ref (v 12), .ref (v 13), .int 0, .ref (v 14), .ref (v 15), .ref (v 16), .ref (v 17), .ref (v 18), .int 0, .int 0, .int 0, .ref (v 19), .ref (v 20), .ref (v 21), .ref (v 22), .ref (v 23), .int 0, .int 0, .int 0, .int 0]))] [0]) hl.1 rfl rfl ⟨rfl, rfl, ⟨Nat.le_of_ble_eq_true rfl, Nat.le_of_ble_eq_true rfl⟩, ⟨Nat.le_of_ble_eq_true rfl, Nat.le_of_ble_eq_true rfl⟩, Nat.le_of_ble_eq_true rfl⟩ dX12_told_21) (fun r7 u8 H locs hwu8 hP hD hS => ?_)
    have hP : va_P D vwCl [((v 5), .inl (cy 0, 5, .inl (fun _ => 0))), ((v 0), .inr (13, [.int 1, .int 0, .int 0, .int (-1), .int 0, .int 0, .int 0, .int 0, .ref (v 1), .ref (v 2), .ref (v 3), .ref (v 4), .ref (v 5), .ref (v 6), .ref (v 7), .ref (v 8), .ref (v 9), .int 0, .int 0, .int 0, .int 0, .int 0, .int 0, .int 0, .int 0, .int 0, .ref (v 10), .ref (v 11), .ref (v 12), .ref (v 13), .int 0, .ref (v 14), .ref (v 15), .ref (v 16), .ref (v 17), .ref (v 18), .int 0, .int 0, .int 0, .ref (v 19), .ref (v 20), .ref (v 21), .ref (v 22), .ref (v 23), .int 0, .int 0, .int 0, .int 0]))] H := hP
    have hD : va_D A [((v 5), .inl (cy 0, 5, .inl (fun _ => 0))), ((v 0), .inr (13, [.int 1, .int 0, .int 0, .int (-1), .int 0, .int 0, .int 0, .int 0, .ref (v 1), .ref (v 2), .ref (v 3), .ref (v 4), .ref (v 5), .ref (v 6), .ref (v 7), .ref (v 8), .ref (v 9), .int 0, .int 0, .int 0, .int 0, .int 0, .int 0, .int 0, .int 0, .int 0, .ref (v 10), .ref (v 11), .ref (v 12), .ref (v 13), .int 0, .ref (v 14), .ref (v 15), .ref (v 16), .ref (v 17), .ref (v 18), .int 0, .int 0, .int 0, .ref (v 19), .ref (v 20), .ref (v 21), .ref (v 22), .ref (v 23), .int 0, .int 0, .int 0, .int 0]))] := hD
    obtain rfl : r7 = 1 := hwu8
    refine lv_if_eq (tgt := 29) hx hb dX12_told_24 (by decide) (fun h => absurd h (by decide)) (fun _ => ?_)
    refine lv_iconst (v := 0) hx hb dX12_told_27 (by decide) ?_
    exact k_iret (1, [.int 0, .int 0, .int (-1), .int 0, .int 0, .int 0, .int 0, .ref (v 1), .ref (v 2), .ref (v 3), .ref (v 4), .ref (v 5), .ref (v 6), .ref (v 7), .ref (v 8), .ref (v 9), .int 0, .int 0, .int 0, .int 0, .int 0, .int 0, .int 0, .int 0, .int 0, .ref (v 10), .ref (v 11), .ref (v 12), .ref (v 13), .int 0, .ref (v 14), .ref (v 15), .ref (v 16), .ref (v 17), .ref (v 18), .int 0, .int 0, .int 0, .ref (v 19), .ref (v 20), .ref (v 21), .ref (v 22), .ref (v 23), .int 0, .int 0, .int 0, .int 0]) hx hb hr hlk (by refine ⟨fun h => ?_, fun h => ?_⟩ <;> first | exact False.elim h | exact ⟨rfl, rfl⟩ | rfl | exact absurd trivial h | (exfalso; simp only [k_lt, k_le, k_eq, k_L0, k_L1, k_L2, k_L3, k_L4, k_L5, k_L6, k_L7, k_L8, k_L9, k_L10, k_L15, k_L20, k_L30, k_L31, k_L40, k_L41, k_L60, k_L61, k_L99, k_L120, k_L239, k_L240, k_L479, k_L480, k_L500, k_L720, k_L999, k_L1000, k_L9999, k_Lm1] at c3 h; omega) | (refine ⟨rfl, ?_⟩; rfl)) (hP.sub [1] rfl) (hD.sub [1] (by decide) rfl) hS (by decide) (by decide) dX12_told_28

set_option maxHeartbeats 4000000 in
set_option maxRecDepth 100000 in
/-- the reference: body -/
theorem m_body_ (l : Launch) (hl0 : l.stackTraces = false) (D : va_G) (cy : Nat → ClassId) (sa : Nat → Nat) (v : Nat → Nat) (p0 p1 : Int32) (sz : Nat) : Met l yX12_body (Cond.code yX12_body cX12_body 3 (some .int) :: kWS) ({ frames := 13, cells := 0, slots := 0, locals := 480 }) (kPre D cy sa [.ref (v 0), .int p0, .int p1] [((v 0), .inr (13, [.int 0, .int 0, .int 0, .int (-1), .int 0, .int 0, .int 0, .int 0, .ref (v 1), .ref (v 2), .ref (v 3), .ref (v 4), .ref (v 5), .ref (v 6), .ref (v 7), .ref (v 8), .ref (v 9), .int 0, .int 0, .int 0, .int 0, .int 0, .int 0, .int 0, .int 0, .int 0, .ref (v 10), .ref (v 11), .ref (v 12), .ref (v 13), .int 0, .ref (v 14), .ref (v 15), .ref (v 16), .ref (v 17), .ref (v 18), .int 0, .int 0, .int 0, .ref (v 19), .ref (v 20), .ref (v 21), .ref (v 22), .ref (v 23), .int 0, .int 0, .int 0, .int 0])), ((v 5), .inl (cy 0, 5, .inl (fun _ => 0)))] sz) (va_Qi (fun (r : Int32) (x : Int32 × List Value) => ((False) → x.1 = 0 ∧ False) ∧ (¬ (False) → x.1 = 1)) (kB D (va_A [((v 0), .inr (13, [.int 0, .int 0, .int 0, .int (-1), .int 0, .int 0, .int 0, .int 0, .ref (v 1), .ref (v 2), .ref (v 3), .ref (v 4), .ref (v 5), .ref (v 6), .ref (v 7), .ref (v 8), .ref (v 9), .int 0, .int 0, .int 0, .int 0, .int 0, .int 0, .int 0, .int 0, .int 0, .ref (v 10), .ref (v 11), .ref (v 12), .ref (v 13), .int 0, .ref (v 14), .ref (v 15), .ref (v 16), .ref (v 17), .ref (v 18), .int 0, .int 0, .int 0, .ref (v 19), .ref (v 20), .ref (v 21), .ref (v 22), .ref (v 23), .int 0, .int 0, .int 0, .int 0])), ((v 5), .inl (cy 0, 5, .inl (fun _ => 0)))] sz) (fun x => [((v 0), .inr (13, .int x.1 :: x.2))])) (va_A [((v 0), .inr (13, [.int 0, .int 0, .int 0, .int (-1), .int 0, .int 0, .int 0, .int 0, .ref (v 1), .ref (v 2), .ref (v 3), .ref (v 4), .ref (v 5), .ref (v 6), .ref (v 7), .ref (v 8), .ref (v 9), .int 0, .int 0, .int 0, .int 0, .int 0, .int 0, .int 0, .int 0, .int 0, .ref (v 10), .ref (v 11), .ref (v 12), .ref (v 13), .int 0, .ref (v 14), .ref (v 15), .ref (v 16), .ref (v 17), .ref (v 18), .int 0, .int 0, .int 0, .ref (v 19), .ref (v 20), .ref (v 21), .ref (v 22), .ref (v 23), .int 0, .int 0, .int 0, .int 0])), ((v 5), .inl (cy 0, 5, .inl (fun _ => 0)))] sz)) 0 0 (va_A [((v 0), .inr (13, [.int 0, .int 0, .int 0, .int (-1), .int 0, .int 0, .int 0, .int 0, .ref (v 1), .ref (v 2), .ref (v 3), .ref (v 4), .ref (v 5), .ref (v 6), .ref (v 7), .ref (v 8), .ref (v 9), .int 0, .int 0, .int 0, .int 0, .int 0, .int 0, .int 0, .int 0, .int 0, .ref (v 10), .ref (v 11), .ref (v 12), .ref (v 13), .int 0, .ref (v 14), .ref (v 15), .ref (v 16), .ref (v 17), .ref (v 18), .int 0, .int 0, .int 0, .ref (v 19), .ref (v 20), .ref (v 21), .ref (v 22), .ref (v 23), .int 0, .int 0, .int 0, .int 0])), ((v 5), .inl (cy 0, 5, .inl (fun _ => 0)))] sz) := by
  refine k_ofW (y := yX12_body) (cc := cX12_body) (maxL := 3) (ret := (some .int)) (av := [.ref (v 0), .int p0, .int p1]) (ws := [((v 0), .inr (13, [.int 0, .int 0, .int 0, .int (-1), .int 0, .int 0, .int 0, .int 0, .ref (v 1), .ref (v 2), .ref (v 3), .ref (v 4), .ref (v 5), .ref (v 6), .ref (v 7), .ref (v 8), .ref (v 9), .int 0, .int 0, .int 0, .int 0, .int 0, .int 0, .int 0, .int 0, .int 0, .ref (v 10), .ref (v 11), .ref (v 12), .ref (v 13), .int 0, .ref (v 14), .ref (v 15), .ref (v 16), .ref (v 17), .ref (v 18), .int 0, .int 0, .int 0, .ref (v 19), .ref (v 20), .ref (v 21), .ref (v 22), .ref (v 23), .int 0, .int 0, .int 0, .int 0])), ((v 5), .inl (cy 0, 5, .inl (fun _ => 0)))]) (Qc := fun A => va_Qi (fun (r : Int32) (x : Int32 × List Value) => ((False) → x.1 = 0 ∧ False) ∧ (¬ (False) → x.1 = 1)) (kB D A (fun x => [((v 0), .inr (13, .int x.1 :: x.2))])) A) (by decide) (Nat.le_of_ble_eq_true rfl) ?_
  intro p e s m below meth c ls A E hA hP hD hG hS hl
  obtain ⟨hx, hb, hml, hown, hts, hr, hlk, hnm⟩ := id E
  have hown : s.vm.findClass RX12 = some m.cls := hown
  have hl : lv_has ls 3 [(0, .ref (v 0)), (1, .int p0), (2, .int p1)] := hl
  obtain ⟨H, hH⟩ : ∃ H, H = s.heap := ⟨_, rfl⟩
  have hP : va_P D vwCl [((v 0), .inr (13, [.int 0, .int 0, .int 0, .int (-1), .int 0, .int 0, .int 0, .int 0, .ref (v 1), .ref (v 2), .ref (v 3), .ref (v 4), .ref (v 5), .ref (v 6), .ref (v 7), .ref (v 8), .ref (v 9), .int 0, .int 0, .int 0, .int 0, .int 0, .int 0, .int 0, .int 0, .int 0, .ref (v 10), .ref (v 11), .ref (v 12), .ref (v 13), .int 0, .ref (v 14), .ref (v 15), .ref (v 16), .ref (v 17), .ref (v 18), .int 0, .int 0, .int 0, .ref (v 19), .ref (v 20), .ref (v 21), .ref (v 22), .ref (v 23), .int 0, .int 0, .int 0, .int 0])), ((v 5), .inl (cy 0, 5, .inl (fun _ => 0)))] H := by rw [hH]; exact hP
  have hS : va_S A s.heap H [] := by rw [hH]; exact va_S.rf
  rw [← hH]
  clear hH
  refine lv_aload_n hx hb dX12_body_0 rfl (lv_at hl 0 rfl) ?_
  refine lv_iconst (v := 0) hx hb dX12_body_1 (by decide) ?_
  refine va_put (D := D) (ci := 13) (v := .int 0) (ty := .int) (C := RX12) (T := TX12) (N := 48) hx hb hts kin_RX12 tyX12 tyX12_ok nmX12 hown hG.1 hP hD hS 0 rfl rfl 0 (by decide) (hts _ wm_1519) (fun _ h9 => h9) rfl (by decide +kernel) rfl rfl (Nat.le_of_ble_eq_true rfl) dX12_body_2 (fun H locs hP hD hS => ?_)
  have hP : va_P D vwCl [((v 0), .inr (13, [.int 0, .int 0, .int 0, .int (-1), .int 0, .int 0, .int 0, .int 0, .ref (v 1), .ref (v 2), .ref (v 3), .ref (v 4), .ref (v 5), .ref (v 6), .ref (v 7), .ref (v 8), .ref (v 9), .int 0, .int 0, .int 0, .int 0, .int 0, .int 0, .int 0, .int 0, .int 0, .ref (v 10), .ref (v 11), .ref (v 12), .ref (v 13), .int 0, .ref (v 14), .ref (v 15), .ref (v 16), .ref (v 17), .ref (v 18), .int 0, .int 0, .int 0, .ref (v 19), .ref (v 20), .ref (v 21), .ref (v 22), .ref (v 23), .int 0, .int 0, .int 0, .int 0])), ((v 5), .inl (cy 0, 5, .inl (fun _ => 0)))] H := hP
  have hD : va_D A [((v 0), .inr (13, [.int 0, .int 0, .int 0, .int (-1), .int 0, .int 0, .int 0, .int 0, .ref (v 1), .ref (v 2), .ref (v 3), .ref (v 4), .ref (v 5), .ref (v 6), .ref (v 7), .ref (v 8), .ref (v 9), .int 0, .int 0, .int 0, .int 0, .int 0, .int 0, .int 0, .int 0, .int 0, .ref (v 10), .ref (v 11), .ref (v 12), .ref (v 13), .int 0, .ref (v 14), .ref (v 15), .ref (v 16), .ref (v 17), .ref (v 18), .int 0, .int 0, .int 0, .ref (v 19), .ref (v 20), .ref (v 21), .ref (v 22), .ref (v 23), .int 0, .int 0, .int 0, .int 0])), ((v 5), .inl (cy 0, 5, .inl (fun _ => 0)))] := hD
  refine lv_aload_n hx hb dX12_body_5 rfl (lv_at hl 0 rfl) ?_
  refine lv_aload_n hx hb dX12_body_6 rfl (lv_at hl 0 rfl) ?_
  refine lv_iload_n hx hb dX12_body_7 rfl (lv_at hl 1 rfl) ?_
  refine k_cali [] (⟨hP, hD, hG, hS, hA, rfl, rfl⟩ : kAt D cy sa A s H _ _ [((v 0), .inr (13, [.int 0, .int 0, .int 0, .int (-1), .int 0, .int 0, .int 0, .int 0, .ref (v 1), .ref (v 2), .ref (v 3), .ref (v 4), .ref (v 5), .ref (v 6), .ref (v 7), .ref (v 8), .ref (v 9), .int 0, .int 0, .int 0, .int 0, .int 0, .int 0, .int 0, .int 0, .int 0, .ref (v 10), .ref (v 11), .ref (v 12), .ref (v 13), .int 0, .ref (v 14), .ref (v 15), .ref (v 16), .ref (v 17), .ref (v 18), .int 0, .int 0, .int 0, .ref (v 19), .ref (v 20), .ref (v 21), .ref (v 22), .ref (v 23), .int 0, .int 0, .int 0, .int 0])), ((v 5), .inl (cy 0, 5, .inl (fun _ => 0)))] [0, 1]) (wr := []) rfl rfl (by decide) (k_runV 13 0 (As := [.int p0]) (rest := [.ref (v 0)]) E lk_VRX12_203 rfl rfl rfl (m_isBody l hl0 D cy sa v p0 H.size) (⟨hP, hD, hG, hS, hA, rfl, rfl⟩ : kAt D cy sa A s H _ _ [((v 0), .inr (13, [.int 0, .int 0, .int 0, .int (-1), .int 0, .int 0, .int 0, .int 0, .ref (v 1), .ref (v 2), .ref (v 3), .ref (v 4), .ref (v 5), .ref (v 6), .ref (v 7), .ref (v 8), .ref (v 9), .int 0, .int 0, .int 0, .int 0, .int 0, .int 0, .int 0, .int 0, .int 0, .ref (v 10), .ref (v 11), .ref (v 12), .ref (v 13), .int 0, .ref (v 14), .ref (v 15), .ref (v 16), .ref (v 17), .ref (v 18), .int 0, .int 0, .int 0, .ref (v 19), .ref (v 20), .ref (v 21), .ref (v 22), .ref (v 23), .int 0, .int 0, .int 0, .int 0])), ((v 5), .inl (cy 0, 5, .inl (fun _ => 0)))] [0, 1]) hl.1 rfl rfl ⟨rfl, rfl, ⟨Nat.le_of_ble_eq_true rfl, Nat.le_of_ble_eq_true rfl⟩, ⟨Nat.le_of_ble_eq_true rfl, Nat.le_of_ble_eq_true rfl⟩, Nat.le_of_ble_eq_true rfl⟩ dX12_body_8) (fun r1 u2 H locs hwu2 hP hD hS => ?_)
  have hP : va_P D vwCl [((v 0), .inr (13, [.int 0, .int 0, .int 0, .int (-1), .int 0, .int 0, .int 0, .int 0, .ref (v 1), .ref (v 2), .ref (v 3), .ref (v 4), .ref (v 5), .ref (v 6), .ref (v 7), .ref (v 8), .ref (v 9), .int 0, .int 0, .int 0, .int 0, .int 0, .int 0, .int 0, .int 0, .int 0, .ref (v 10), .ref (v 11), .ref (v 12), .ref (v 13), .int 0, .ref (v 14), .ref (v 15), .ref (v 16), .ref (v 17), .ref (v 18), .int 0, .int 0, .int 0, .ref (v 19), .ref (v 20), .ref (v 21), .ref (v 22), .ref (v 23), .int 0, .int 0, .int 0, .int 0])), ((v 5), .inl (cy 0, 5, .inl (fun _ => 0)))] H := hP
  have hD : va_D A [((v 0), .inr (13, [.int 0, .int 0, .int 0, .int (-1), .int 0, .int 0, .int 0, .int 0, .ref (v 1), .ref (v 2), .ref (v 3), .ref (v 4), .ref (v 5), .ref (v 6), .ref (v 7), .ref (v 8), .ref (v 9), .int 0, .int 0, .int 0, .int 0, .int 0, .int 0, .int 0, .int 0, .int 0, .ref (v 10), .ref (v 11), .ref (v 12), .ref (v 13), .int 0, .ref (v 14), .ref (v 15), .ref (v 16), .ref (v 17), .ref (v 18), .int 0, .int 0, .int 0, .ref (v 19), .ref (v 20), .ref (v 21), .ref (v 22), .ref (v 23), .int 0, .int 0, .int 0, .int 0])), ((v 5), .inl (cy 0, 5, .inl (fun _ => 0)))] := hD
  obtain rfl : r1 = 0 := hwu2
  refine lv_if_ne (tgt := 18) hx hb dX12_body_11 (by decide) (fun h => absurd (by decide) h) (fun _ => ?_)
  refine lv_iconst (v := 1) hx hb dX12_body_14 (by decide) ?_
  refine lv_goto (tgt := 19) hx hb dX12_body_15 (by decide) ?_
  refine lv_iconst (v := 1) hx hb dX12_body_19 (by decide) ?_
  refine k_cali [1] (⟨hP, hD, hG, hS, hA, rfl, rfl⟩ : kAt D cy sa A s H _ _ [((v 0), .inr (13, [.int 0, .int 0, .int 0, .int (-1), .int 0, .int 0, .int 0, .int 0, .ref (v 1), .ref (v 2), .ref (v 3), .ref (v 4), .ref (v 5), .ref (v 6), .ref (v 7), .ref (v 8), .ref (v 9), .int 0, .int 0, .int 0, .int 0, .int 0, .int 0, .int 0, .int 0, .int 0, .ref (v 10), .ref (v 11), .ref (v 12), .ref (v 13), .int 0, .ref (v 14), .ref (v 15), .ref (v 16), .ref (v 17), .ref (v 18), .int 0, .int 0, .int 0, .ref (v 19), .ref (v 20), .ref (v 21), .ref (v 22), .ref (v 23), .int 0, .int 0, .int 0, .int 0]))] [0]) (wr := [((v 5), .inl (cy 0, 5, .inl (fun _ => 0)))]) rfl rfl (by decide) (k_runV 13 0 (As := [.int 1, .int 1]) (rest := []) E lk_VRX12_169 rfl rfl rfl (m_bad1 l hl0 D cy sa v H.size) (⟨hP, hD, hG, hS, hA, rfl, rfl⟩ : kAt D cy sa A s H _ _ [((v 0), .inr (13, [.int 0, .int 0, .int 0, .int (-1), .int 0, .int 0, .int 0, .int 0, .ref (v 1), .ref (v 2), .ref (v 3), .ref (v 4), .ref (v 5), .ref (v 6), .ref (v 7), .ref (v 8), .ref (v 9), .int 0, .int 0, .int 0, .int 0, .int 0, .int 0, .int 0, .int 0, .int 0, .ref (v 10), .ref (v 11), .ref (v 12), .ref (v 13), .int 0, .ref (v 14), .ref (v 15), .ref (v 16), .ref (v 17), .ref (v 18), .int 0, .int 0, .int 0, .ref (v 19), .ref (v 20), .ref (v 21), .ref (v 22), .ref (v 23), .int 0, .int 0, .int 0, .int 0]))] [0]) hl.1 rfl rfl ⟨rfl, rfl, ⟨Nat.le_of_ble_eq_true rfl, Nat.le_of_ble_eq_true rfl⟩, ⟨Nat.le_of_ble_eq_true rfl, Nat.le_of_ble_eq_true rfl⟩, Nat.le_of_ble_eq_true rfl⟩ dX12_body_20) (fun r3 u4 H locs hwu4 hP hD hS => ?_)
  have hP : va_P D vwCl [((v 5), .inl (cy 0, 5, .inl (fun _ => 0))), ((v 0), .inr (13, [.int 1, .int 0, .int 0, .int (-1), .int 0, .int 0, .int 0, .int 0, .ref (v 1), .ref (v 2), .ref (v 3), .ref (v 4), .ref (v 5), .ref (v 6), .ref (v 7), .ref (v 8), .ref (v 9), .int 0, .int 0, .int 0, .int 0, .int 0, .int 0, .int 0, .int 0, .int 0, .ref (v 10), .ref (v 11), .ref (v 12), .ref (v 13), .int 0, .ref (v 14), .ref (v 15), .ref (v 16), .ref (v 17), .ref (v 18), .int 0, .int 0, .int 0, .ref (v 19), .ref (v 20), .ref (v 21), .ref (v 22), .ref (v 23), .int 0, .int 0, .int 0, .int 0]))] H := hP
  have hD : va_D A [((v 5), .inl (cy 0, 5, .inl (fun _ => 0))), ((v 0), .inr (13, [.int 1, .int 0, .int 0, .int (-1), .int 0, .int 0, .int 0, .int 0, .ref (v 1), .ref (v 2), .ref (v 3), .ref (v 4), .ref (v 5), .ref (v 6), .ref (v 7), .ref (v 8), .ref (v 9), .int 0, .int 0, .int 0, .int 0, .int 0, .int 0, .int 0, .int 0, .int 0, .ref (v 10), .ref (v 11), .ref (v 12), .ref (v 13), .int 0, .ref (v 14), .ref (v 15), .ref (v 16), .ref (v 17), .ref (v 18), .int 0, .int 0, .int 0, .ref (v 19), .ref (v 20), .ref (v 21), .ref (v 22), .ref (v 23), .int 0, .int 0, .int 0, .int 0]))] := hD
  obtain rfl : r3 = 1 := hwu4
  refine lv_if_ne (tgt := 49) hx hb dX12_body_23 (by decide) (fun _ => ?_) (fun h => absurd h (by decide))
  refine lv_iconst (v := 0) hx hb dX12_body_49 (by decide) ?_
  exact k_iret (1, [.int 0, .int 0, .int (-1), .int 0, .int 0, .int 0, .int 0, .ref (v 1), .ref (v 2), .ref (v 3), .ref (v 4), .ref (v 5), .ref (v 6), .ref (v 7), .ref (v 8), .ref (v 9), .int 0, .int 0, .int 0, .int 0, .int 0, .int 0, .int 0, .int 0, .int 0, .ref (v 10), .ref (v 11), .ref (v 12), .ref (v 13), .int 0, .ref (v 14), .ref (v 15), .ref (v 16), .ref (v 17), .ref (v 18), .int 0, .int 0, .int 0, .ref (v 19), .ref (v 20), .ref (v 21), .ref (v 22), .ref (v 23), .int 0, .int 0, .int 0, .int 0]) hx hb hr hlk (by refine ⟨fun h => ?_, fun h => ?_⟩ <;> first | exact False.elim h | exact ⟨rfl, rfl⟩ | rfl | exact absurd trivial h | (exfalso; simp only [k_lt, k_le, k_eq, k_L0, k_L1, k_L2, k_L3, k_L4, k_L5, k_L6, k_L7, k_L8, k_L9, k_L10, k_L15, k_L20, k_L30, k_L31, k_L40, k_L41, k_L60, k_L61, k_L99, k_L120, k_L239, k_L240, k_L479, k_L480, k_L500, k_L720, k_L999, k_L1000, k_L9999, k_Lm1] at h; omega) | (refine ⟨rfl, ?_⟩; rfl)) (hP.sub [1] rfl) (hD.sub [1] (by decide) rfl) hS (by decide) (by decide) dX12_body_50

set_option maxHeartbeats 4000000 in
set_option maxRecDepth 100000 in
/-- the reference: now -/
theorem m_now_ (l : Launch) (hl0 : l.stackTraces = false) (D : va_G) (cy : Nat → ClassId) (sa : Nat → Nat) (v : Nat → Nat) (p0 p1 : Int32) (sz : Nat) : Met l yX12_now (Cond.code yX12_now cX12_now 3 (some .int) :: kWS) ({ frames := 13, cells := 0, slots := 0, locals := 480 }) (kPre D cy sa [.ref (v 0), .int p0, .int p1] [((v 0), .inr (13, [.int 0, .int 0, .int 0, .int (-1), .int 0, .int 0, .int 0, .int 0, .ref (v 1), .ref (v 2), .ref (v 3), .ref (v 4), .ref (v 5), .ref (v 6), .ref (v 7), .ref (v 8), .ref (v 9), .int 0, .int 0, .int 0, .int 0, .int 0, .int 0, .int 0, .int 0, .int 0, .ref (v 10), .ref (v 11), .ref (v 12), .ref (v 13), .int 0, .ref (v 14), .ref (v 15), .ref (v 16), .ref (v 17), .ref (v 18), .int 0, .int 0, .int 0, .ref (v 19), .ref (v 20), .ref (v 21), .ref (v 22), .ref (v 23), .int 0, .int 0, .int 0, .int 0])), ((v 5), .inl (cy 0, 5, .inl (fun _ => 0)))] sz) (va_Qi (fun (r : Int32) (x : Int32 × List Value) => ((False) → x.1 = 0 ∧ False) ∧ (¬ (False) → x.1 = 1)) (kB D (va_A [((v 0), .inr (13, [.int 0, .int 0, .int 0, .int (-1), .int 0, .int 0, .int 0, .int 0, .ref (v 1), .ref (v 2), .ref (v 3), .ref (v 4), .ref (v 5), .ref (v 6), .ref (v 7), .ref (v 8), .ref (v 9), .int 0, .int 0, .int 0, .int 0, .int 0, .int 0, .int 0, .int 0, .int 0, .ref (v 10), .ref (v 11), .ref (v 12), .ref (v 13), .int 0, .ref (v 14), .ref (v 15), .ref (v 16), .ref (v 17), .ref (v 18), .int 0, .int 0, .int 0, .ref (v 19), .ref (v 20), .ref (v 21), .ref (v 22), .ref (v 23), .int 0, .int 0, .int 0, .int 0])), ((v 5), .inl (cy 0, 5, .inl (fun _ => 0)))] sz) (fun x => [((v 0), .inr (13, .int x.1 :: x.2))])) (va_A [((v 0), .inr (13, [.int 0, .int 0, .int 0, .int (-1), .int 0, .int 0, .int 0, .int 0, .ref (v 1), .ref (v 2), .ref (v 3), .ref (v 4), .ref (v 5), .ref (v 6), .ref (v 7), .ref (v 8), .ref (v 9), .int 0, .int 0, .int 0, .int 0, .int 0, .int 0, .int 0, .int 0, .int 0, .ref (v 10), .ref (v 11), .ref (v 12), .ref (v 13), .int 0, .ref (v 14), .ref (v 15), .ref (v 16), .ref (v 17), .ref (v 18), .int 0, .int 0, .int 0, .ref (v 19), .ref (v 20), .ref (v 21), .ref (v 22), .ref (v 23), .int 0, .int 0, .int 0, .int 0])), ((v 5), .inl (cy 0, 5, .inl (fun _ => 0)))] sz)) 0 0 (va_A [((v 0), .inr (13, [.int 0, .int 0, .int 0, .int (-1), .int 0, .int 0, .int 0, .int 0, .ref (v 1), .ref (v 2), .ref (v 3), .ref (v 4), .ref (v 5), .ref (v 6), .ref (v 7), .ref (v 8), .ref (v 9), .int 0, .int 0, .int 0, .int 0, .int 0, .int 0, .int 0, .int 0, .int 0, .ref (v 10), .ref (v 11), .ref (v 12), .ref (v 13), .int 0, .ref (v 14), .ref (v 15), .ref (v 16), .ref (v 17), .ref (v 18), .int 0, .int 0, .int 0, .ref (v 19), .ref (v 20), .ref (v 21), .ref (v 22), .ref (v 23), .int 0, .int 0, .int 0, .int 0])), ((v 5), .inl (cy 0, 5, .inl (fun _ => 0)))] sz) := by
  refine k_ofW (y := yX12_now) (cc := cX12_now) (maxL := 3) (ret := (some .int)) (av := [.ref (v 0), .int p0, .int p1]) (ws := [((v 0), .inr (13, [.int 0, .int 0, .int 0, .int (-1), .int 0, .int 0, .int 0, .int 0, .ref (v 1), .ref (v 2), .ref (v 3), .ref (v 4), .ref (v 5), .ref (v 6), .ref (v 7), .ref (v 8), .ref (v 9), .int 0, .int 0, .int 0, .int 0, .int 0, .int 0, .int 0, .int 0, .int 0, .ref (v 10), .ref (v 11), .ref (v 12), .ref (v 13), .int 0, .ref (v 14), .ref (v 15), .ref (v 16), .ref (v 17), .ref (v 18), .int 0, .int 0, .int 0, .ref (v 19), .ref (v 20), .ref (v 21), .ref (v 22), .ref (v 23), .int 0, .int 0, .int 0, .int 0])), ((v 5), .inl (cy 0, 5, .inl (fun _ => 0)))]) (Qc := fun A => va_Qi (fun (r : Int32) (x : Int32 × List Value) => ((False) → x.1 = 0 ∧ False) ∧ (¬ (False) → x.1 = 1)) (kB D A (fun x => [((v 0), .inr (13, .int x.1 :: x.2))])) A) (by decide) (Nat.le_of_ble_eq_true rfl) ?_
  intro p e s m below meth c ls A E hA hP hD hG hS hl
  obtain ⟨hx, hb, hml, hown, hts, hr, hlk, hnm⟩ := id E
  have hown : s.vm.findClass RX12 = some m.cls := hown
  have hl : lv_has ls 3 [(0, .ref (v 0)), (1, .int p0), (2, .int p1)] := hl
  obtain ⟨H, hH⟩ : ∃ H, H = s.heap := ⟨_, rfl⟩
  have hP : va_P D vwCl [((v 0), .inr (13, [.int 0, .int 0, .int 0, .int (-1), .int 0, .int 0, .int 0, .int 0, .ref (v 1), .ref (v 2), .ref (v 3), .ref (v 4), .ref (v 5), .ref (v 6), .ref (v 7), .ref (v 8), .ref (v 9), .int 0, .int 0, .int 0, .int 0, .int 0, .int 0, .int 0, .int 0, .int 0, .ref (v 10), .ref (v 11), .ref (v 12), .ref (v 13), .int 0, .ref (v 14), .ref (v 15), .ref (v 16), .ref (v 17), .ref (v 18), .int 0, .int 0, .int 0, .ref (v 19), .ref (v 20), .ref (v 21), .ref (v 22), .ref (v 23), .int 0, .int 0, .int 0, .int 0])), ((v 5), .inl (cy 0, 5, .inl (fun _ => 0)))] H := by rw [hH]; exact hP
  have hS : va_S A s.heap H [] := by rw [hH]; exact va_S.rf
  rw [← hH]
  clear hH
  refine lv_aload_n hx hb dX12_now_0 rfl (lv_at hl 0 rfl) ?_
  refine lv_iconst (v := 0) hx hb dX12_now_1 (by decide) ?_
  refine va_put (D := D) (ci := 13) (v := .int 0) (ty := .int) (C := RX12) (T := TX12) (N := 48) hx hb hts kin_RX12 tyX12 tyX12_ok nmX12 hown hG.1 hP hD hS 0 rfl rfl 0 (by decide) (hts _ wm_1519) (fun _ h9 => h9) rfl (by decide +kernel) rfl rfl (Nat.le_of_ble_eq_true rfl) dX12_now_2 (fun H locs hP hD hS => ?_)
  have hP : va_P D vwCl [((v 0), .inr (13, [.int 0, .int 0, .int 0, .int (-1), .int 0, .int 0, .int 0, .int 0, .ref (v 1), .ref (v 2), .ref (v 3), .ref (v 4), .ref (v 5), .ref (v 6), .ref (v 7), .ref (v 8), .ref (v 9), .int 0, .int 0, .int 0, .int 0, .int 0, .int 0, .int 0, .int 0, .int 0, .ref (v 10), .ref (v 11), .ref (v 12), .ref (v 13), .int 0, .ref (v 14), .ref (v 15), .ref (v 16), .ref (v 17), .ref (v 18), .int 0, .int 0, .int 0, .ref (v 19), .ref (v 20), .ref (v 21), .ref (v 22), .ref (v 23), .int 0, .int 0, .int 0, .int 0])), ((v 5), .inl (cy 0, 5, .inl (fun _ => 0)))] H := hP
  have hD : va_D A [((v 0), .inr (13, [.int 0, .int 0, .int 0, .int (-1), .int 0, .int 0, .int 0, .int 0, .ref (v 1), .ref (v 2), .ref (v 3), .ref (v 4), .ref (v 5), .ref (v 6), .ref (v 7), .ref (v 8), .ref (v 9), .int 0, .int 0, .int 0, .int 0, .int 0, .int 0, .int 0, .int 0, .int 0, .ref (v 10), .ref (v 11), .ref (v 12), .ref (v 13), .int 0, .ref (v 14), .ref (v 15), .ref (v 16), .ref (v 17), .ref (v 18), .int 0, .int 0, .int 0, .ref (v 19), .ref (v 20), .ref (v 21), .ref (v 22), .ref (v 23), .int 0, .int 0, .int 0, .int 0])), ((v 5), .inl (cy 0, 5, .inl (fun _ => 0)))] := hD
  refine lv_aload_n hx hb dX12_now_5 rfl (lv_at hl 0 rfl) ?_
  refine lv_aload_n hx hb dX12_now_6 rfl (lv_at hl 0 rfl) ?_
  refine lv_iload_n hx hb dX12_now_7 rfl (lv_at hl 1 rfl) ?_
  refine k_cali [] (⟨hP, hD, hG, hS, hA, rfl, rfl⟩ : kAt D cy sa A s H _ _ [((v 0), .inr (13, [.int 0, .int 0, .int 0, .int (-1), .int 0, .int 0, .int 0, .int 0, .ref (v 1), .ref (v 2), .ref (v 3), .ref (v 4), .ref (v 5), .ref (v 6), .ref (v 7), .ref (v 8), .ref (v 9), .int 0, .int 0, .int 0, .int 0, .int 0, .int 0, .int 0, .int 0, .int 0, .ref (v 10), .ref (v 11), .ref (v 12), .ref (v 13), .int 0, .ref (v 14), .ref (v 15), .ref (v 16), .ref (v 17), .ref (v 18), .int 0, .int 0, .int 0, .ref (v 19), .ref (v 20), .ref (v 21), .ref (v 22), .ref (v 23), .int 0, .int 0, .int 0, .int 0])), ((v 5), .inl (cy 0, 5, .inl (fun _ => 0)))] [0, 1]) (wr := []) rfl rfl (by decide) (k_runV 13 0 (As := [.int p0]) (rest := [.ref (v 0)]) E lk_VRX12_203 rfl rfl rfl (m_isBody l hl0 D cy sa v p0 H.size) (⟨hP, hD, hG, hS, hA, rfl, rfl⟩ : kAt D cy sa A s H _ _ [((v 0), .inr (13, [.int 0, .int 0, .int 0, .int (-1), .int 0, .int 0, .int 0, .int 0, .ref (v 1), .ref (v 2), .ref (v 3), .ref (v 4), .ref (v 5), .ref (v 6), .ref (v 7), .ref (v 8), .ref (v 9), .int 0, .int 0, .int 0, .int 0, .int 0, .int 0, .int 0, .int 0, .int 0, .ref (v 10), .ref (v 11), .ref (v 12), .ref (v 13), .int 0, .ref (v 14), .ref (v 15), .ref (v 16), .ref (v 17), .ref (v 18), .int 0, .int 0, .int 0, .ref (v 19), .ref (v 20), .ref (v 21), .ref (v 22), .ref (v 23), .int 0, .int 0, .int 0, .int 0])), ((v 5), .inl (cy 0, 5, .inl (fun _ => 0)))] [0, 1]) hl.1 rfl rfl ⟨rfl, rfl, ⟨Nat.le_of_ble_eq_true rfl, Nat.le_of_ble_eq_true rfl⟩, ⟨Nat.le_of_ble_eq_true rfl, Nat.le_of_ble_eq_true rfl⟩, Nat.le_of_ble_eq_true rfl⟩ dX12_now_8) (fun r1 u2 H locs hwu2 hP hD hS => ?_)
  have hP : va_P D vwCl [((v 0), .inr (13, [.int 0, .int 0, .int 0, .int (-1), .int 0, .int 0, .int 0, .int 0, .ref (v 1), .ref (v 2), .ref (v 3), .ref (v 4), .ref (v 5), .ref (v 6), .ref (v 7), .ref (v 8), .ref (v 9), .int 0, .int 0, .int 0, .int 0, .int 0, .int 0, .int 0, .int 0, .int 0, .ref (v 10), .ref (v 11), .ref (v 12), .ref (v 13), .int 0, .ref (v 14), .ref (v 15), .ref (v 16), .ref (v 17), .ref (v 18), .int 0, .int 0, .int 0, .ref (v 19), .ref (v 20), .ref (v 21), .ref (v 22), .ref (v 23), .int 0, .int 0, .int 0, .int 0])), ((v 5), .inl (cy 0, 5, .inl (fun _ => 0)))] H := hP
  have hD : va_D A [((v 0), .inr (13, [.int 0, .int 0, .int 0, .int (-1), .int 0, .int 0, .int 0, .int 0, .ref (v 1), .ref (v 2), .ref (v 3), .ref (v 4), .ref (v 5), .ref (v 6), .ref (v 7), .ref (v 8), .ref (v 9), .int 0, .int 0, .int 0, .int 0, .int 0, .int 0, .int 0, .int 0, .int 0, .ref (v 10), .ref (v 11), .ref (v 12), .ref (v 13), .int 0, .ref (v 14), .ref (v 15), .ref (v 16), .ref (v 17), .ref (v 18), .int 0, .int 0, .int 0, .ref (v 19), .ref (v 20), .ref (v 21), .ref (v 22), .ref (v 23), .int 0, .int 0, .int 0, .int 0])), ((v 5), .inl (cy 0, 5, .inl (fun _ => 0)))] := hD
  obtain rfl : r1 = 0 := hwu2
  refine lv_if_ne (tgt := 18) hx hb dX12_now_11 (by decide) (fun h => absurd (by decide) h) (fun _ => ?_)
  refine lv_iconst (v := 1) hx hb dX12_now_14 (by decide) ?_
  refine lv_goto (tgt := 19) hx hb dX12_now_15 (by decide) ?_
  refine lv_iconst (v := 1) hx hb dX12_now_19 (by decide) ?_
  refine k_cali [1] (⟨hP, hD, hG, hS, hA, rfl, rfl⟩ : kAt D cy sa A s H _ _ [((v 0), .inr (13, [.int 0, .int 0, .int 0, .int (-1), .int 0, .int 0, .int 0, .int 0, .ref (v 1), .ref (v 2), .ref (v 3), .ref (v 4), .ref (v 5), .ref (v 6), .ref (v 7), .ref (v 8), .ref (v 9), .int 0, .int 0, .int 0, .int 0, .int 0, .int 0, .int 0, .int 0, .int 0, .ref (v 10), .ref (v 11), .ref (v 12), .ref (v 13), .int 0, .ref (v 14), .ref (v 15), .ref (v 16), .ref (v 17), .ref (v 18), .int 0, .int 0, .int 0, .ref (v 19), .ref (v 20), .ref (v 21), .ref (v 22), .ref (v 23), .int 0, .int 0, .int 0, .int 0]))] [0]) (wr := [((v 5), .inl (cy 0, 5, .inl (fun _ => 0)))]) rfl rfl (by decide) (k_runV 13 0 (As := [.int 1, .int 1]) (rest := []) E lk_VRX12_169 rfl rfl rfl (m_bad1 l hl0 D cy sa v H.size) (⟨hP, hD, hG, hS, hA, rfl, rfl⟩ : kAt D cy sa A s H _ _ [((v 0), .inr (13, [.int 0, .int 0, .int 0, .int (-1), .int 0, .int 0, .int 0, .int 0, .ref (v 1), .ref (v 2), .ref (v 3), .ref (v 4), .ref (v 5), .ref (v 6), .ref (v 7), .ref (v 8), .ref (v 9), .int 0, .int 0, .int 0, .int 0, .int 0, .int 0, .int 0, .int 0, .int 0, .ref (v 10), .ref (v 11), .ref (v 12), .ref (v 13), .int 0, .ref (v 14), .ref (v 15), .ref (v 16), .ref (v 17), .ref (v 18), .int 0, .int 0, .int 0, .ref (v 19), .ref (v 20), .ref (v 21), .ref (v 22), .ref (v 23), .int 0, .int 0, .int 0, .int 0]))] [0]) hl.1 rfl rfl ⟨rfl, rfl, ⟨Nat.le_of_ble_eq_true rfl, Nat.le_of_ble_eq_true rfl⟩, ⟨Nat.le_of_ble_eq_true rfl, Nat.le_of_ble_eq_true rfl⟩, Nat.le_of_ble_eq_true rfl⟩ dX12_now_20) (fun r3 u4 H locs hwu4 hP hD hS => ?_)
  have hP : va_P D vwCl [((v 5), .inl (cy 0, 5, .inl (fun _ => 0))), ((v 0), .inr (13, [.int 1, .int 0, .int 0, .int (-1), .int 0, .int 0, .int 0, .int 0, .ref (v 1), .ref (v 2), .ref (v 3), .ref (v 4), .ref (v 5), .ref (v 6), .ref (v 7), .ref (v 8), .ref (v 9), .int 0, .int 0, .int 0, .int 0, .int 0, .int 0, .int 0, .int 0, .int 0, .ref (v 10), .ref (v 11), .ref (v 12), .ref (v 13), .int 0, .ref (v 14), .ref (v 15), .ref (v 16), .ref (v 17), .ref (v 18), .int 0, .int 0, .int 0, .ref (v 19), .ref (v 20), .ref (v 21), .ref (v 22), .ref (v 23), .int 0, .int 0, .int 0, .int 0]))] H := hP
  have hD : va_D A [((v 5), .inl (cy 0, 5, .inl (fun _ => 0))), ((v 0), .inr (13, [.int 1, .int 0, .int 0, .int (-1), .int 0, .int 0, .int 0, .int 0, .ref (v 1), .ref (v 2), .ref (v 3), .ref (v 4), .ref (v 5), .ref (v 6), .ref (v 7), .ref (v 8), .ref (v 9), .int 0, .int 0, .int 0, .int 0, .int 0, .int 0, .int 0, .int 0, .int 0, .ref (v 10), .ref (v 11), .ref (v 12), .ref (v 13), .int 0, .ref (v 14), .ref (v 15), .ref (v 16), .ref (v 17), .ref (v 18), .int 0, .int 0, .int 0, .ref (v 19), .ref (v 20), .ref (v 21), .ref (v 22), .ref (v 23), .int 0, .int 0, .int 0, .int 0]))] := hD
  obtain rfl : r3 = 1 := hwu4
  refine lv_if_ne (tgt := 49) hx hb dX12_now_23 (by decide) (fun _ => ?_) (fun h => absurd h (by decide))
  refine lv_iconst (v := 0) hx hb dX12_now_49 (by decide) ?_
  exact k_iret (1, [.int 0, .int 0, .int (-1), .int 0, .int 0, .int 0, .int 0, .ref (v 1), .ref (v 2), .ref (v 3), .ref (v 4), .ref (v 5), .ref (v 6), .ref (v 7), .ref (v 8), .ref (v 9), .int 0, .int 0, .int 0, .int 0, .int 0, .int 0, .int 0, .int 0, .int 0, .ref (v 10), .ref (v 11), .ref (v 12), .ref (v 13), .int 0, .ref (v 14), .ref (v 15), .ref (v 16), .ref (v 17), .ref (v 18), .int 0, .int 0, .int 0, .ref (v 19), .ref (v 20), .ref (v 21), .ref (v 22), .ref (v 23), .int 0, .int 0, .int 0, .int 0]) hx hb hr hlk (by refine ⟨fun h => ?_, fun h => ?_⟩ <;> first | exact False.elim h | exact ⟨rfl, rfl⟩ | rfl | exact absurd trivial h | (exfalso; simp only [k_lt, k_le, k_eq, k_L0, k_L1, k_L2, k_L3, k_L4, k_L5, k_L6, k_L7, k_L8, k_L9, k_L10, k_L15, k_L20, k_L30, k_L31, k_L40, k_L41, k_L60, k_L61, k_L99, k_L120, k_L239, k_L240, k_L479, k_L480, k_L500, k_L720, k_L999, k_L1000, k_L9999, k_Lm1] at h; omega) | (refine ⟨rfl, ?_⟩; rfl)) (hP.sub [1] rfl) (hD.sub [1] (by decide) rfl) hS (by decide) (by decide) dX12_now_50

set_option maxHeartbeats 4000000 in
set_option maxRecDepth 100000 in
/-- the reference: costs -/
theorem m_costs_ (l : Launch) (hl0 : l.stackTraces = false) (D : va_G) (cy : Nat → ClassId) (sa : Nat → Nat) (v : Nat → Nat) (p0 p1 : Int32) (sz : Nat) : Met l yX12_costs (Cond.code yX12_costs cX12_costs 3 (some .int) :: kWS) ({ frames := 13, cells := 0, slots := 0, locals := 480 }) (kPre D cy sa [.ref (v 0), .int p0, .int p1] [((v 0), .inr (13, [.int 0, .int 0, .int 0, .int (-1), .int 0, .int 0, .int 0, .int 0, .ref (v 1), .ref (v 2), .ref (v 3), .ref (v 4), .ref (v 5), .ref (v 6), .ref (v 7), .ref (v 8), .ref (v 9), .int 0, .int 0, .int 0, .int 0, .int 0, .int 0, .int 0, .int 0, .int 0, .ref (v 10), .ref (v 11), .ref (v 12), .ref (v 13), .int 0, .ref (v 14), .ref (v 15), .ref (v 16), .ref (v 17), .ref (v 18), .int 0, .int 0, .int 0, .ref (v 19), .ref (v 20), .ref (v 21), .ref (v 22), .ref (v 23), .int 0, .int 0, .int 0, .int 0])), ((v 5), .inl (cy 0, 5, .inl (fun _ => 0)))] sz) (va_Qi (fun (r : Int32) (x : Int32 × List Value) => ((False) → x.1 = 0 ∧ False) ∧ (¬ (False) → x.1 = 1)) (kB D (va_A [((v 0), .inr (13, [.int 0, .int 0, .int 0, .int (-1), .int 0, .int 0, .int 0, .int 0, .ref (v 1), .ref (v 2), .ref (v 3), .ref (v 4), .ref (v 5), .ref (v 6), .ref (v 7), .ref (v 8), .ref (v 9), .int 0, .int 0, .int 0, .int 0, .int 0, .int 0, .int 0, .int 0, .int 0, .ref (v 10), .ref (v 11), .ref (v 12), .ref (v 13), .int 0, .ref (v 14), .ref (v 15), .ref (v 16), .ref (v 17), .ref (v 18), .int 0, .int 0, .int 0, .ref (v 19), .ref (v 20), .ref (v 21), .ref (v 22), .ref (v 23), .int 0, .int 0, .int 0, .int 0])), ((v 5), .inl (cy 0, 5, .inl (fun _ => 0)))] sz) (fun x => [((v 0), .inr (13, .int x.1 :: x.2))])) (va_A [((v 0), .inr (13, [.int 0, .int 0, .int 0, .int (-1), .int 0, .int 0, .int 0, .int 0, .ref (v 1), .ref (v 2), .ref (v 3), .ref (v 4), .ref (v 5), .ref (v 6), .ref (v 7), .ref (v 8), .ref (v 9), .int 0, .int 0, .int 0, .int 0, .int 0, .int 0, .int 0, .int 0, .int 0, .ref (v 10), .ref (v 11), .ref (v 12), .ref (v 13), .int 0, .ref (v 14), .ref (v 15), .ref (v 16), .ref (v 17), .ref (v 18), .int 0, .int 0, .int 0, .ref (v 19), .ref (v 20), .ref (v 21), .ref (v 22), .ref (v 23), .int 0, .int 0, .int 0, .int 0])), ((v 5), .inl (cy 0, 5, .inl (fun _ => 0)))] sz)) 0 0 (va_A [((v 0), .inr (13, [.int 0, .int 0, .int 0, .int (-1), .int 0, .int 0, .int 0, .int 0, .ref (v 1), .ref (v 2), .ref (v 3), .ref (v 4), .ref (v 5), .ref (v 6), .ref (v 7), .ref (v 8), .ref (v 9), .int 0, .int 0, .int 0, .int 0, .int 0, .int 0, .int 0, .int 0, .int 0, .ref (v 10), .ref (v 11), .ref (v 12), .ref (v 13), .int 0, .ref (v 14), .ref (v 15), .ref (v 16), .ref (v 17), .ref (v 18), .int 0, .int 0, .int 0, .ref (v 19), .ref (v 20), .ref (v 21), .ref (v 22), .ref (v 23), .int 0, .int 0, .int 0, .int 0])), ((v 5), .inl (cy 0, 5, .inl (fun _ => 0)))] sz) := by
  refine k_ofW (y := yX12_costs) (cc := cX12_costs) (maxL := 3) (ret := (some .int)) (av := [.ref (v 0), .int p0, .int p1]) (ws := [((v 0), .inr (13, [.int 0, .int 0, .int 0, .int (-1), .int 0, .int 0, .int 0, .int 0, .ref (v 1), .ref (v 2), .ref (v 3), .ref (v 4), .ref (v 5), .ref (v 6), .ref (v 7), .ref (v 8), .ref (v 9), .int 0, .int 0, .int 0, .int 0, .int 0, .int 0, .int 0, .int 0, .int 0, .ref (v 10), .ref (v 11), .ref (v 12), .ref (v 13), .int 0, .ref (v 14), .ref (v 15), .ref (v 16), .ref (v 17), .ref (v 18), .int 0, .int 0, .int 0, .ref (v 19), .ref (v 20), .ref (v 21), .ref (v 22), .ref (v 23), .int 0, .int 0, .int 0, .int 0])), ((v 5), .inl (cy 0, 5, .inl (fun _ => 0)))]) (Qc := fun A => va_Qi (fun (r : Int32) (x : Int32 × List Value) => ((False) → x.1 = 0 ∧ False) ∧ (¬ (False) → x.1 = 1)) (kB D A (fun x => [((v 0), .inr (13, .int x.1 :: x.2))])) A) (by decide) (Nat.le_of_ble_eq_true rfl) ?_
  intro p e s m below meth c ls A E hA hP hD hG hS hl
  obtain ⟨hx, hb, hml, hown, hts, hr, hlk, hnm⟩ := id E
  have hown : s.vm.findClass RX12 = some m.cls := hown
  have hl : lv_has ls 3 [(0, .ref (v 0)), (1, .int p0), (2, .int p1)] := hl
  obtain ⟨H, hH⟩ : ∃ H, H = s.heap := ⟨_, rfl⟩
  have hP : va_P D vwCl [((v 0), .inr (13, [.int 0, .int 0, .int 0, .int (-1), .int 0, .int 0, .int 0, .int 0, .ref (v 1), .ref (v 2), .ref (v 3), .ref (v 4), .ref (v 5), .ref (v 6), .ref (v 7), .ref (v 8), .ref (v 9), .int 0, .int 0, .int 0, .int 0, .int 0, .int 0, .int 0, .int 0, .int 0, .ref (v 10), .ref (v 11), .ref (v 12), .ref (v 13), .int 0, .ref (v 14), .ref (v 15), .ref (v 16), .ref (v 17), .ref (v 18), .int 0, .int 0, .int 0, .ref (v 19), .ref (v 20), .ref (v 21), .ref (v 22), .ref (v 23), .int 0, .int 0, .int 0, .int 0])), ((v 5), .inl (cy 0, 5, .inl (fun _ => 0)))] H := by rw [hH]; exact hP
  have hS : va_S A s.heap H [] := by rw [hH]; exact va_S.rf
  rw [← hH]
  clear hH
  refine lv_aload_n hx hb dX12_costs_0 rfl (lv_at hl 0 rfl) ?_
  refine lv_iconst (v := 0) hx hb dX12_costs_1 (by decide) ?_
  refine va_put (D := D) (ci := 13) (v := .int 0) (ty := .int) (C := RX12) (T := TX12) (N := 48) hx hb hts kin_RX12 tyX12 tyX12_ok nmX12 hown hG.1 hP hD hS 0 rfl rfl 0 (by decide) (hts _ wm_1519) (fun _ h9 => h9) rfl (by decide +kernel) rfl rfl (Nat.le_of_ble_eq_true rfl) dX12_costs_2 (fun H locs hP hD hS => ?_)
  have hP : va_P D vwCl [((v 0), .inr (13, [.int 0, .int 0, .int 0, .int (-1), .int 0, .int 0, .int 0, .int 0, .ref (v 1), .ref (v 2), .ref (v 3), .ref (v 4), .ref (v 5), .ref (v 6), .ref (v 7), .ref (v 8), .ref (v 9), .int 0, .int 0, .int 0, .int 0, .int 0, .int 0, .int 0, .int 0, .int 0, .ref (v 10), .ref (v 11), .ref (v 12), .ref (v 13), .int 0, .ref (v 14), .ref (v 15), .ref (v 16), .ref (v 17), .ref (v 18), .int 0, .int 0, .int 0, .ref (v 19), .ref (v 20), .ref (v 21), .ref (v 22), .ref (v 23), .int 0, .int 0, .int 0, .int 0])), ((v 5), .inl (cy 0, 5, .inl (fun _ => 0)))] H := hP
  have hD : va_D A [((v 0), .inr (13, [.int 0, .int 0, .int 0, .int (-1), .int 0, .int 0, .int 0, .int 0, .ref (v 1), .ref (v 2), .ref (v 3), .ref (v 4), .ref (v 5), .ref (v 6), .ref (v 7), .ref (v 8), .ref (v 9), .int 0, .int 0, .int 0, .int 0, .int 0, .int 0, .int 0, .int 0, .int 0, .ref (v 10), .ref (v 11), .ref (v 12), .ref (v 13), .int 0, .ref (v 14), .ref (v 15), .ref (v 16), .ref (v 17), .ref (v 18), .int 0, .int 0, .int 0, .ref (v 19), .ref (v 20), .ref (v 21), .ref (v 22), .ref (v 23), .int 0, .int 0, .int 0, .int 0])), ((v 5), .inl (cy 0, 5, .inl (fun _ => 0)))] := hD
  refine lv_aload_n hx hb dX12_costs_5 rfl (lv_at hl 0 rfl) ?_
  refine lv_aload_n hx hb dX12_costs_6 rfl (lv_at hl 0 rfl) ?_
  refine lv_iload_n hx hb dX12_costs_7 rfl (lv_at hl 1 rfl) ?_
  refine k_cali [] (⟨hP, hD, hG, hS, hA, rfl, rfl⟩ : kAt D cy sa A s H _ _ [((v 0), .inr (13, [.int 0, .int 0, .int 0, .int (-1), .int 0, .int 0, .int 0, .int 0, .ref (v 1), .ref (v 2), .ref (v 3), .ref (v 4), .ref (v 5), .ref (v 6), .ref (v 7), .ref (v 8), .ref (v 9), .int 0, .int 0, .int 0, .int 0, .int 0, .int 0, .int 0, .int 0, .int 0, .ref (v 10), .ref (v 11), .ref (v 12), .ref (v 13), .int 0, .ref (v 14), .ref (v 15), .ref (v 16), .ref (v 17), .ref (v 18), .int 0, .int 0, .int 0, .ref (v 19), .ref (v 20), .ref (v 21), .ref (v 22), .ref (v 23), .int 0, .int 0, .int 0, .int 0])), ((v 5), .inl (cy 0, 5, .inl (fun _ => 0)))] [0, 1]) (wr := []) rfl rfl (by decide) (k_runV 13 0 (As := [.int p0]) (rest := [.ref (v 0)]) E lk_VRX12_203 rfl rfl rfl (m_isBody l hl0 D cy sa v p0 H.size) (⟨hP, hD, hG, hS, hA, rfl, rfl⟩ : kAt D cy sa A s H _ _ [((v 0), .inr (13, [.int 0, .int 0, .int 0, .int (-1), .int 0, .int 0, .int 0, .int 0, .ref (v 1), .ref (v 2), .ref (v 3), .ref (v 4), .ref (v 5), .ref (v 6), .ref (v 7), .ref (v 8), .ref (v 9), .int 0, .int 0, .int 0, .int 0, .int 0, .int 0, .int 0, .int 0, .int 0, .ref (v 10), .ref (v 11), .ref (v 12), .ref (v 13), .int 0, .ref (v 14), .ref (v 15), .ref (v 16), .ref (v 17), .ref (v 18), .int 0, .int 0, .int 0, .ref (v 19), .ref (v 20), .ref (v 21), .ref (v 22), .ref (v 23), .int 0, .int 0, .int 0, .int 0])), ((v 5), .inl (cy 0, 5, .inl (fun _ => 0)))] [0, 1]) hl.1 rfl rfl ⟨rfl, rfl, ⟨Nat.le_of_ble_eq_true rfl, Nat.le_of_ble_eq_true rfl⟩, ⟨Nat.le_of_ble_eq_true rfl, Nat.le_of_ble_eq_true rfl⟩, Nat.le_of_ble_eq_true rfl⟩ dX12_costs_8) (fun r1 u2 H locs hwu2 hP hD hS => ?_)
  have hP : va_P D vwCl [((v 0), .inr (13, [.int 0, .int 0, .int 0, .int (-1), .int 0, .int 0, .int 0, .int 0, .ref (v 1), .ref (v 2), .ref (v 3), .ref (v 4), .ref (v 5), .ref (v 6), .ref (v 7), .ref (v 8), .ref (v 9), .int 0, .int 0, .int 0, .int 0, .int 0, .int 0, .int 0, .int 0, .int 0, .ref (v 10), .ref (v 11), .ref (v 12), .ref (v 13), .int 0, .ref (v 14), .ref (v 15), .ref (v 16), .ref (v 17), .ref (v 18), .int 0, .int 0, .int 0, .ref (v 19), .ref (v 20), .ref (v 21), .ref (v 22), .ref (v 23), .int 0, .int 0, .int 0, .int 0])), ((v 5), .inl (cy 0, 5, .inl (fun _ => 0)))] H := hP
  have hD : va_D A [((v 0), .inr (13, [.int 0, .int 0, .int 0, .int (-1), .int 0, .int 0, .int 0, .int 0, .ref (v 1), .ref (v 2), .ref (v 3), .ref (v 4), .ref (v 5), .ref (v 6), .ref (v 7), .ref (v 8), .ref (v 9), .int 0, .int 0, .int 0, .int 0, .int 0, .int 0, .int 0, .int 0, .int 0, .ref (v 10), .ref (v 11), .ref (v 12), .ref (v 13), .int 0, .ref (v 14), .ref (v 15), .ref (v 16), .ref (v 17), .ref (v 18), .int 0, .int 0, .int 0, .ref (v 19), .ref (v 20), .ref (v 21), .ref (v 22), .ref (v 23), .int 0, .int 0, .int 0, .int 0])), ((v 5), .inl (cy 0, 5, .inl (fun _ => 0)))] := hD
  obtain rfl : r1 = 0 := hwu2
  refine lv_if_eq (tgt := 22) hx hb dX12_costs_11 (by decide) (fun _ => ?_) (fun h => absurd (by decide) h)
  refine lv_iconst (v := 1) hx hb dX12_costs_22 (by decide) ?_
  refine lv_goto (tgt := 27) hx hb dX12_costs_23 (by decide) ?_
  refine lv_iconst (v := 1) hx hb dX12_costs_27 (by decide) ?_
  refine k_cali [1] (⟨hP, hD, hG, hS, hA, rfl, rfl⟩ : kAt D cy sa A s H _ _ [((v 0), .inr (13, [.int 0, .int 0, .int 0, .int (-1), .int 0, .int 0, .int 0, .int 0, .ref (v 1), .ref (v 2), .ref (v 3), .ref (v 4), .ref (v 5), .ref (v 6), .ref (v 7), .ref (v 8), .ref (v 9), .int 0, .int 0, .int 0, .int 0, .int 0, .int 0, .int 0, .int 0, .int 0, .ref (v 10), .ref (v 11), .ref (v 12), .ref (v 13), .int 0, .ref (v 14), .ref (v 15), .ref (v 16), .ref (v 17), .ref (v 18), .int 0, .int 0, .int 0, .ref (v 19), .ref (v 20), .ref (v 21), .ref (v 22), .ref (v 23), .int 0, .int 0, .int 0, .int 0]))] [0]) (wr := [((v 5), .inl (cy 0, 5, .inl (fun _ => 0)))]) rfl rfl (by decide) (k_runV 13 0 (As := [.int 1, .int 1]) (rest := []) E lk_VRX12_169 rfl rfl rfl (m_bad1 l hl0 D cy sa v H.size) (⟨hP, hD, hG, hS, hA, rfl, rfl⟩ : kAt D cy sa A s H _ _ [((v 0), .inr (13, [.int 0, .int 0, .int 0, .int (-1), .int 0, .int 0, .int 0, .int 0, .ref (v 1), .ref (v 2), .ref (v 3), .ref (v 4), .ref (v 5), .ref (v 6), .ref (v 7), .ref (v 8), .ref (v 9), .int 0, .int 0, .int 0, .int 0, .int 0, .int 0, .int 0, .int 0, .int 0, .ref (v 10), .ref (v 11), .ref (v 12), .ref (v 13), .int 0, .ref (v 14), .ref (v 15), .ref (v 16), .ref (v 17), .ref (v 18), .int 0, .int 0, .int 0, .ref (v 19), .ref (v 20), .ref (v 21), .ref (v 22), .ref (v 23), .int 0, .int 0, .int 0, .int 0]))] [0]) hl.1 rfl rfl ⟨rfl, rfl, ⟨Nat.le_of_ble_eq_true rfl, Nat.le_of_ble_eq_true rfl⟩, ⟨Nat.le_of_ble_eq_true rfl, Nat.le_of_ble_eq_true rfl⟩, Nat.le_of_ble_eq_true rfl⟩ dX12_costs_28) (fun r3 u4 H locs hwu4 hP hD hS => ?_)
  have hP : va_P D vwCl [((v 5), .inl (cy 0, 5, .inl (fun _ => 0))), ((v 0), .inr (13, [.int 1, .int 0, .int 0, .int (-1), .int 0, .int 0, .int 0, .int 0, .ref (v 1), .ref (v 2), .ref (v 3), .ref (v 4), .ref (v 5), .ref (v 6), .ref (v 7), .ref (v 8), .ref (v 9), .int 0, .int 0, .int 0, .int 0, .int 0, .int 0, .int 0, .int 0, .int 0, .ref (v 10), .ref (v 11), .ref (v 12), .ref (v 13), .int 0, .ref (v 14), .ref (v 15), .ref (v 16), .ref (v 17), .ref (v 18), .int 0, .int 0, .int 0, .ref (v 19), .ref (v 20), .ref (v 21), .ref (v 22), .ref (v 23), .int 0, .int 0, .int 0, .int 0]))] H := hP
  have hD : va_D A [((v 5), .inl (cy 0, 5, .inl (fun _ => 0))), ((v 0), .inr (13, [.int 1, .int 0, .int 0, .int (-1), .int 0, .int 0, .int 0, .int 0, .ref (v 1), .ref (v 2), .ref (v 3), .ref (v 4), .ref (v 5), .ref (v 6), .ref (v 7), .ref (v 8), .ref (v 9), .int 0, .int 0, .int 0, .int 0, .int 0, .int 0, .int 0, .int 0, .int 0, .ref (v 10), .ref (v 11), .ref (v 12), .ref (v 13), .int 0, .ref (v 14), .ref (v 15), .ref (v 16), .ref (v 17), .ref (v 18), .int 0, .int 0, .int 0, .ref (v 19), .ref (v 20), .ref (v 21), .ref (v 22), .ref (v 23), .int 0, .int 0, .int 0, .int 0]))] := hD
  obtain rfl : r3 = 1 := hwu4
  refine lv_if_eq (tgt := 36) hx hb dX12_costs_31 (by decide) (fun h => absurd h (by decide)) (fun _ => ?_)
  refine lv_iconst (v := 0) hx hb dX12_costs_34 (by decide) ?_
  exact k_iret (1, [.int 0, .int 0, .int (-1), .int 0, .int 0, .int 0, .int 0, .ref (v 1), .ref (v 2), .ref (v 3), .ref (v 4), .ref (v 5), .ref (v 6), .ref (v 7), .ref (v 8), .ref (v 9), .int 0, .int 0, .int 0, .int 0, .int 0, .int 0, .int 0, .int 0, .int 0, .ref (v 10), .ref (v 11), .ref (v 12), .ref (v 13), .int 0, .ref (v 14), .ref (v 15), .ref (v 16), .ref (v 17), .ref (v 18), .int 0, .int 0, .int 0, .ref (v 19), .ref (v 20), .ref (v 21), .ref (v 22), .ref (v 23), .int 0, .int 0, .int 0, .int 0]) hx hb hr hlk (by refine ⟨fun h => ?_, fun h => ?_⟩ <;> first | exact False.elim h | exact ⟨rfl, rfl⟩ | rfl | exact absurd trivial h | (exfalso; simp only [k_lt, k_le, k_eq, k_L0, k_L1, k_L2, k_L3, k_L4, k_L5, k_L6, k_L7, k_L8, k_L9, k_L10, k_L15, k_L20, k_L30, k_L31, k_L40, k_L41, k_L60, k_L61, k_L99, k_L120, k_L239, k_L240, k_L479, k_L480, k_L500, k_L720, k_L999, k_L1000, k_L9999, k_Lm1] at h; omega) | (refine ⟨rfl, ?_⟩; rfl)) (hP.sub [1] rfl) (hD.sub [1] (by decide) rfl) hS (by decide) (by decide) dX12_costs_35

set_option maxHeartbeats 4000000 in
set_option maxRecDepth 100000 in
/-- the reference: pass -/
theorem m_pass_ (l : Launch) (hl0 : l.stackTraces = false) (D : va_G) (cy : Nat → ClassId) (sa : Nat → Nat) (v : Nat → Nat) (p0 : Int32) (sz : Nat) : Met l yX12_pass (Cond.code yX12_pass cX12_pass 2 (some .int) :: kWS) ({ frames := 13, cells := 0, slots := 0, locals := 480 }) (kPre D cy sa [.ref (v 0), .int p0] [((v 0), .inr (13, [.int 0, .int 0, .int 0, .int (-1), .int 0, .int 0, .int 0, .int 0, .ref (v 1), .ref (v 2), .ref (v 3), .ref (v 4), .ref (v 5), .ref (v 6), .ref (v 7), .ref (v 8), .ref (v 9), .int 0, .int 0, .int 0, .int 0, .int 0, .int 0, .int 0, .int 0, .int 0, .ref (v 10), .ref (v 11), .ref (v 12), .ref (v 13), .int 0, .ref (v 14), .ref (v 15), .ref (v 16), .ref (v 17), .ref (v 18), .int 0, .int 0, .int 0, .ref (v 19), .ref (v 20), .ref (v 21), .ref (v 22), .ref (v 23), .int 0, .int 0, .int 0, .int 0])), ((v 5), .inl (cy 0, 5, .inl (fun _ => 0)))] sz) (va_Qi (fun (r : Int32) (x : Int32 × List Value) => ((False) → x.1 = 0 ∧ False) ∧ (¬ (False) → x.1 = 1)) (kB D (va_A [((v 0), .inr (13, [.int 0, .int 0, .int 0, .int (-1), .int 0, .int 0, .int 0, .int 0, .ref (v 1), .ref (v 2), .ref (v 3), .ref (v 4), .ref (v 5), .ref (v 6), .ref (v 7), .ref (v 8), .ref (v 9), .int 0, .int 0, .int 0, .int 0, .int 0, .int 0, .int 0, .int 0, .int 0, .ref (v 10), .ref (v 11), .ref (v 12), .ref (v 13), .int 0, .ref (v 14), .ref (v 15), .ref (v 16), .ref (v 17), .ref (v 18), .int 0, .int 0, .int 0, .ref (v 19), .ref (v 20), .ref (v 21), .ref (v 22), .ref (v 23), .int 0, .int 0, .int 0, .int 0])), ((v 5), .inl (cy 0, 5, .inl (fun _ => 0)))] sz) (fun x => [((v 0), .inr (13, .int x.1 :: x.2))])) (va_A [((v 0), .inr (13, [.int 0, .int 0, .int 0, .int (-1), .int 0, .int 0, .int 0, .int 0, .ref (v 1), .ref (v 2), .ref (v 3), .ref (v 4), .ref (v 5), .ref (v 6), .ref (v 7), .ref (v 8), .ref (v 9), .int 0, .int 0, .int 0, .int 0, .int 0, .int 0, .int 0, .int 0, .int 0, .ref (v 10), .ref (v 11), .ref (v 12), .ref (v 13), .int 0, .ref (v 14), .ref (v 15), .ref (v 16), .ref (v 17), .ref (v 18), .int 0, .int 0, .int 0, .ref (v 19), .ref (v 20), .ref (v 21), .ref (v 22), .ref (v 23), .int 0, .int 0, .int 0, .int 0])), ((v 5), .inl (cy 0, 5, .inl (fun _ => 0)))] sz)) 0 0 (va_A [((v 0), .inr (13, [.int 0, .int 0, .int 0, .int (-1), .int 0, .int 0, .int 0, .int 0, .ref (v 1), .ref (v 2), .ref (v 3), .ref (v 4), .ref (v 5), .ref (v 6), .ref (v 7), .ref (v 8), .ref (v 9), .int 0, .int 0, .int 0, .int 0, .int 0, .int 0, .int 0, .int 0, .int 0, .ref (v 10), .ref (v 11), .ref (v 12), .ref (v 13), .int 0, .ref (v 14), .ref (v 15), .ref (v 16), .ref (v 17), .ref (v 18), .int 0, .int 0, .int 0, .ref (v 19), .ref (v 20), .ref (v 21), .ref (v 22), .ref (v 23), .int 0, .int 0, .int 0, .int 0])), ((v 5), .inl (cy 0, 5, .inl (fun _ => 0)))] sz) := by
  refine k_ofW (y := yX12_pass) (cc := cX12_pass) (maxL := 2) (ret := (some .int)) (av := [.ref (v 0), .int p0]) (ws := [((v 0), .inr (13, [.int 0, .int 0, .int 0, .int (-1), .int 0, .int 0, .int 0, .int 0, .ref (v 1), .ref (v 2), .ref (v 3), .ref (v 4), .ref (v 5), .ref (v 6), .ref (v 7), .ref (v 8), .ref (v 9), .int 0, .int 0, .int 0, .int 0, .int 0, .int 0, .int 0, .int 0, .int 0, .ref (v 10), .ref (v 11), .ref (v 12), .ref (v 13), .int 0, .ref (v 14), .ref (v 15), .ref (v 16), .ref (v 17), .ref (v 18), .int 0, .int 0, .int 0, .ref (v 19), .ref (v 20), .ref (v 21), .ref (v 22), .ref (v 23), .int 0, .int 0, .int 0, .int 0])), ((v 5), .inl (cy 0, 5, .inl (fun _ => 0)))]) (Qc := fun A => va_Qi (fun (r : Int32) (x : Int32 × List Value) => ((False) → x.1 = 0 ∧ False) ∧ (¬ (False) → x.1 = 1)) (kB D A (fun x => [((v 0), .inr (13, .int x.1 :: x.2))])) A) (by decide) (Nat.le_of_ble_eq_true rfl) ?_
  intro p e s m below meth c ls A E hA hP hD hG hS hl
  obtain ⟨hx, hb, hml, hown, hts, hr, hlk, hnm⟩ := id E
  have hown : s.vm.findClass RX12 = some m.cls := hown
  have hl : lv_has ls 2 [(0, .ref (v 0)), (1, .int p0)] := hl
  obtain ⟨H, hH⟩ : ∃ H, H = s.heap := ⟨_, rfl⟩
  have hP : va_P D vwCl [((v 0), .inr (13, [.int 0, .int 0, .int 0, .int (-1), .int 0, .int 0, .int 0, .int 0, .ref (v 1), .ref (v 2), .ref (v 3), .ref (v 4), .ref (v 5), .ref (v 6), .ref (v 7), .ref (v 8), .ref (v 9), .int 0, .int 0, .int 0, .int 0, .int 0, .int 0, .int 0, .int 0, .int 0, .ref (v 10), .ref (v 11), .ref (v 12), .ref (v 13), .int 0, .ref (v 14), .ref (v 15), .ref (v 16), .ref (v 17), .ref (v 18), .int 0, .int 0, .int 0, .ref (v 19), .ref (v 20), .ref (v 21), .ref (v 22), .ref (v 23), .int 0, .int 0, .int 0, .int 0])), ((v 5), .inl (cy 0, 5, .inl (fun _ => 0)))] H := by rw [hH]; exact hP
  have hS : va_S A s.heap H [] := by rw [hH]; exact va_S.rf
  rw [← hH]
  clear hH
  refine lv_aload_n hx hb dX12_pass_0 rfl (lv_at hl 0 rfl) ?_
  refine lv_iconst (v := 0) hx hb dX12_pass_1 (by decide) ?_
  refine va_put (D := D) (ci := 13) (v := .int 0) (ty := .int) (C := RX12) (T := TX12) (N := 48) hx hb hts kin_RX12 tyX12 tyX12_ok nmX12 hown hG.1 hP hD hS 0 rfl rfl 0 (by decide) (hts _ wm_1519) (fun _ h9 => h9) rfl (by decide +kernel) rfl rfl (Nat.le_of_ble_eq_true rfl) dX12_pass_2 (fun H locs hP hD hS => ?_)
  have hP : va_P D vwCl [((v 0), .inr (13, [.int 0, .int 0, .int 0, .int (-1), .int 0, .int 0, .int 0, .int 0, .ref (v 1), .ref (v 2), .ref (v 3), .ref (v 4), .ref (v 5), .ref (v 6), .ref (v 7), .ref (v 8), .ref (v 9), .int 0, .int 0, .int 0, .int 0, .int 0, .int 0, .int 0, .int 0, .int 0, .ref (v 10), .ref (v 11), .ref (v 12), .ref (v 13), .int 0, .ref (v 14), .ref (v 15), .ref (v 16), .ref (v 17), .ref (v 18), .int 0, .int 0, .int 0, .ref (v 19), .ref (v 20), .ref (v 21), .ref (v 22), .ref (v 23), .int 0, .int 0, .int 0, .int 0])), ((v 5), .inl (cy 0, 5, .inl (fun _ => 0)))] H := hP
  have hD : va_D A [((v 0), .inr (13, [.int 0, .int 0, .int 0, .int (-1), .int 0, .int 0, .int 0, .int 0, .ref (v 1), .ref (v 2), .ref (v 3), .ref (v 4), .ref (v 5), .ref (v 6), .ref (v 7), .ref (v 8), .ref (v 9), .int 0, .int 0, .int 0, .int 0, .int 0, .int 0, .int 0, .int 0, .int 0, .ref (v 10), .ref (v 11), .ref (v 12), .ref (v 13), .int 0, .ref (v 14), .ref (v 15), .ref (v 16), .ref (v 17), .ref (v 18), .int 0, .int 0, .int 0, .ref (v 19), .ref (v 20), .ref (v 21), .ref (v 22), .ref (v 23), .int 0, .int 0, .int 0, .int 0])), ((v 5), .inl (cy 0, 5, .inl (fun _ => 0)))] := hD
  refine lv_aload_n hx hb dX12_pass_5 rfl (lv_at hl 0 rfl) ?_
  refine lv_aload_n hx hb dX12_pass_6 rfl (lv_at hl 0 rfl) ?_
  refine lv_iload_n hx hb dX12_pass_7 rfl (lv_at hl 1 rfl) ?_
  refine k_cali [] (⟨hP, hD, hG, hS, hA, rfl, rfl⟩ : kAt D cy sa A s H _ _ [((v 0), .inr (13, [.int 0, .int 0, .int 0, .int (-1), .int 0, .int 0, .int 0, .int 0, .ref (v 1), .ref (v 2), .ref (v 3), .ref (v 4), .ref (v 5), .ref (v 6), .ref (v 7), .ref (v 8), .ref (v 9), .int 0, .int 0, .int 0, .int 0, .int 0, .int 0, .int 0, .int 0, .int 0, .ref (v 10), .ref (v 11), .ref (v 12), .ref (v 13), .int 0, .ref (v 14), .ref (v 15), .ref (v 16), .ref (v 17), .ref (v 18), .int 0, .int 0, .int 0, .ref (v 19), .ref (v 20), .ref (v 21), .ref (v 22), .ref (v 23), .int 0, .int 0, .int 0, .int 0])), ((v 5), .inl (cy 0, 5, .inl (fun _ => 0)))] [0, 1]) (wr := []) rfl rfl (by decide) (k_runV 13 0 (As := [.int p0]) (rest := [.ref (v 0)]) E lk_VRX12_203 rfl rfl rfl (m_isBody l hl0 D cy sa v p0 H.size) (⟨hP, hD, hG, hS, hA, rfl, rfl⟩ : kAt D cy sa A s H _ _ [((v 0), .inr (13, [.int 0, .int 0, .int 0, .int (-1), .int 0, .int 0, .int 0, .int 0, .ref (v 1), .ref (v 2), .ref (v 3), .ref (v 4), .ref (v 5), .ref (v 6), .ref (v 7), .ref (v 8), .ref (v 9), .int 0, .int 0, .int 0, .int 0, .int 0, .int 0, .int 0, .int 0, .int 0, .ref (v 10), .ref (v 11), .ref (v 12), .ref (v 13), .int 0, .ref (v 14), .ref (v 15), .ref (v 16), .ref (v 17), .ref (v 18), .int 0, .int 0, .int 0, .ref (v 19), .ref (v 20), .ref (v 21), .ref (v 22), .ref (v 23), .int 0, .int 0, .int 0, .int 0])), ((v 5), .inl (cy 0, 5, .inl (fun _ => 0)))] [0, 1]) hl.1 rfl rfl ⟨rfl, rfl, ⟨Nat.le_of_ble_eq_true rfl, Nat.le_of_ble_eq_true rfl⟩, ⟨Nat.le_of_ble_eq_true rfl, Nat.le_of_ble_eq_true rfl⟩, Nat.le_of_ble_eq_true rfl⟩ dX12_pass_8) (fun r1 u2 H locs hwu2 hP hD hS => ?_)
  have hP : va_P D vwCl [((v 0), .inr (13, [.int 0, .int 0, .int 0, .int (-1), .int 0, .int 0, .int 0, .int 0, .ref (v 1), .ref (v 2), .ref (v 3), .ref (v 4), .ref (v 5), .ref (v 6), .ref (v 7), .ref (v 8), .ref (v 9), .int 0, .int 0, .int 0, .int 0, .int 0, .int 0, .int 0, .int 0, .int 0, .ref (v 10), .ref (v 11), .ref (v 12), .ref (v 13), .int 0, .ref (v 14), .ref (v 15), .ref (v 16), .ref (v 17), .ref (v 18), .int 0, .int 0, .int 0, .ref (v 19), .ref (v 20), .ref (v 21), .ref (v 22), .ref (v 23), .int 0, .int 0, .int 0, .int 0])), ((v 5), .inl (cy 0, 5, .inl (fun _ => 0)))] H := hP
  have hD : va_D A [((v 0), .inr (13, [.int 0, .int 0, .int 0, .int (-1), .int 0, .int 0, .int 0, .int 0, .ref (v 1), .ref (v 2), .ref (v 3), .ref (v 4), .ref (v 5), .ref (v 6), .ref (v 7), .ref (v 8), .ref (v 9), .int 0, .int 0, .int 0, .int 0, .int 0, .int 0, .int 0, .int 0, .int 0, .ref (v 10), .ref (v 11), .ref (v 12), .ref (v 13), .int 0, .ref (v 14), .ref (v 15), .ref (v 16), .ref (v 17), .ref (v 18), .int 0, .int 0, .int 0, .ref (v 19), .ref (v 20), .ref (v 21), .ref (v 22), .ref (v 23), .int 0, .int 0, .int 0, .int 0])), ((v 5), .inl (cy 0, 5, .inl (fun _ => 0)))] := hD
  obtain rfl : r1 = 0 := hwu2
  refine lv_if_ne (tgt := 18) hx hb dX12_pass_11 (by decide) (fun h => absurd (by decide) h) (fun _ => ?_)
  refine lv_iconst (v := 1) hx hb dX12_pass_14 (by decide) ?_
  refine lv_goto (tgt := 19) hx hb dX12_pass_15 (by decide) ?_
  refine lv_iconst (v := 1) hx hb dX12_pass_19 (by decide) ?_
  refine k_cali [1] (⟨hP, hD, hG, hS, hA, rfl, rfl⟩ : kAt D cy sa A s H _ _ [((v 0), .inr (13, [.int 0, .int 0, .int 0, .int (-1), .int 0, .int 0, .int 0, .int 0, .ref (v 1), .ref (v 2), .ref (v 3), .ref (v 4), .ref (v 5), .ref (v 6), .ref (v 7), .ref (v 8), .ref (v 9), .int 0, .int 0, .int 0, .int 0, .int 0, .int 0, .int 0, .int 0, .int 0, .ref (v 10), .ref (v 11), .ref (v 12), .ref (v 13), .int 0, .ref (v 14), .ref (v 15), .ref (v 16), .ref (v 17), .ref (v 18), .int 0, .int 0, .int 0, .ref (v 19), .ref (v 20), .ref (v 21), .ref (v 22), .ref (v 23), .int 0, .int 0, .int 0, .int 0]))] [0]) (wr := [((v 5), .inl (cy 0, 5, .inl (fun _ => 0)))]) rfl rfl (by decide) (k_runV 13 0 (As := [.int 1, .int 1]) (rest := []) E lk_VRX12_169 rfl rfl rfl (m_bad1 l hl0 D cy sa v H.size) (⟨hP, hD, hG, hS, hA, rfl, rfl⟩ : kAt D cy sa A s H _ _ [((v 0), .inr (13, [.int 0, .int 0, .int 0, .int (-1), .int 0, .int 0, .int 0, .int 0, .ref (v 1), .ref (v 2), .ref (v 3), .ref (v 4), .ref (v 5), .ref (v 6), .ref (v 7), .ref (v 8), .ref (v 9), .int 0, .int 0, .int 0, .int 0, .int 0, .int 0, .int 0, .int 0, .int 0, .ref (v 10), .ref (v 11), .ref (v 12), .ref (v 13), .int 0, .ref (v 14), .ref (v 15), .ref (v 16), .ref (v 17), .ref (v 18), .int 0, .int 0, .int 0, .ref (v 19), .ref (v 20), .ref (v 21), .ref (v 22), .ref (v 23), .int 0, .int 0, .int 0, .int 0]))] [0]) hl.1 rfl rfl ⟨rfl, rfl, ⟨Nat.le_of_ble_eq_true rfl, Nat.le_of_ble_eq_true rfl⟩, ⟨Nat.le_of_ble_eq_true rfl, Nat.le_of_ble_eq_true rfl⟩, Nat.le_of_ble_eq_true rfl⟩ dX12_pass_20) (fun r3 u4 H locs hwu4 hP hD hS => ?_)
  have hP : va_P D vwCl [((v 5), .inl (cy 0, 5, .inl (fun _ => 0))), ((v 0), .inr (13, [.int 1, .int 0, .int 0, .int (-1), .int 0, .int 0, .int 0, .int 0, .ref (v 1), .ref (v 2), .ref (v 3), .ref (v 4), .ref (v 5), .ref (v 6), .ref (v 7), .ref (v 8), .ref (v 9), .int 0, .int 0, .int 0, .int 0, .int 0, .int 0, .int 0, .int 0, .int 0, .ref (v 10), .ref (v 11), .ref (v 12), .ref (v 13), .int 0, .ref (v 14), .ref (v 15), .ref (v 16), .ref (v 17), .ref (v 18), .int 0, .int 0, .int 0, .ref (v 19), .ref (v 20), .ref (v 21), .ref (v 22), .ref (v 23), .int 0, .int 0, .int 0, .int 0]))] H := hP
  have hD : va_D A [((v 5), .inl (cy 0, 5, .inl (fun _ => 0))), ((v 0), .inr (13, [.int 1, .int 0, .int 0, .int (-1), .int 0, .int 0, .int 0, .int 0, .ref (v 1), .ref (v 2), .ref (v 3), .ref (v 4), .ref (v 5), .ref (v 6), .ref (v 7), .ref (v 8), .ref (v 9), .int 0, .int 0, .int 0, .int 0, .int 0, .int 0, .int 0, .int 0, .int 0, .ref (v 10), .ref (v 11), .ref (v 12), .ref (v 13), .int 0, .ref (v 14), .ref (v 15), .ref (v 16), .ref (v 17), .ref (v 18), .int 0, .int 0, .int 0, .ref (v 19), .ref (v 20), .ref (v 21), .ref (v 22), .ref (v 23), .int 0, .int 0, .int 0, .int 0]))] := hD
  obtain rfl : r3 = 1 := hwu4
  refine lv_if_eq (tgt := 28) hx hb dX12_pass_23 (by decide) (fun h => absurd h (by decide)) (fun _ => ?_)
  refine lv_iconst (v := 0) hx hb dX12_pass_26 (by decide) ?_
  exact k_iret (1, [.int 0, .int 0, .int (-1), .int 0, .int 0, .int 0, .int 0, .ref (v 1), .ref (v 2), .ref (v 3), .ref (v 4), .ref (v 5), .ref (v 6), .ref (v 7), .ref (v 8), .ref (v 9), .int 0, .int 0, .int 0, .int 0, .int 0, .int 0, .int 0, .int 0, .int 0, .ref (v 10), .ref (v 11), .ref (v 12), .ref (v 13), .int 0, .ref (v 14), .ref (v 15), .ref (v 16), .ref (v 17), .ref (v 18), .int 0, .int 0, .int 0, .ref (v 19), .ref (v 20), .ref (v 21), .ref (v 22), .ref (v 23), .int 0, .int 0, .int 0, .int 0]) hx hb hr hlk (by refine ⟨fun h => ?_, fun h => ?_⟩ <;> first | exact False.elim h | exact ⟨rfl, rfl⟩ | rfl | exact absurd trivial h | (exfalso; simp only [k_lt, k_le, k_eq, k_L0, k_L1, k_L2, k_L3, k_L4, k_L5, k_L6, k_L7, k_L8, k_L9, k_L10, k_L15, k_L20, k_L30, k_L31, k_L40, k_L41, k_L60, k_L61, k_L99, k_L120, k_L239, k_L240, k_L479, k_L480, k_L500, k_L720, k_L999, k_L1000, k_L9999, k_Lm1] at h; omega) | (refine ⟨rfl, ?_⟩; rfl)) (hP.sub [1] rfl) (hD.sub [1] (by decide) rfl) hS (by decide) (by decide) dX12_pass_27

set_option maxHeartbeats 4000000 in
set_option maxRecDepth 100000 in
/-- the reference: bed -/
theorem m_bed_ (l : Launch) (hl0 : l.stackTraces = false) (D : va_G) (cy : Nat → ClassId) (sa : Nat → Nat) (v : Nat → Nat) (p0 p1 : Int32) (sz : Nat) : Met l yX12_bed (Cond.code yX12_bed cX12_bed 4 (some .boolean) :: kWS) ({ frames := 13, cells := 0, slots := 0, locals := 480 }) (kPre D cy sa [.ref (v 0), .int p0, .int p1] [((v 0), .inr (13, [.int 0, .int 0, .int 0, .int (-1), .int 0, .int 0, .int 0, .int 0, .ref (v 1), .ref (v 2), .ref (v 3), .ref (v 4), .ref (v 5), .ref (v 6), .ref (v 7), .ref (v 8), .ref (v 9), .int 0, .int 0, .int 0, .int 0, .int 0, .int 0, .int 0, .int 0, .int 0, .ref (v 10), .ref (v 11), .ref (v 12), .ref (v 13), .int 0, .ref (v 14), .ref (v 15), .ref (v 16), .ref (v 17), .ref (v 18), .int 0, .int 0, .int 0, .ref (v 19), .ref (v 20), .ref (v 21), .ref (v 22), .ref (v 23), .int 0, .int 0, .int 0, .int 0])), ((v 5), .inl (cy 0, 5, .inl (fun _ => 0)))] sz) (va_Qi (fun (r : Int32) (x : Int32 × List Value) => ((False) → x.1 = 0 ∧ False) ∧ (¬ (False) → x.1 = 1)) (kB D (va_A [((v 0), .inr (13, [.int 0, .int 0, .int 0, .int (-1), .int 0, .int 0, .int 0, .int 0, .ref (v 1), .ref (v 2), .ref (v 3), .ref (v 4), .ref (v 5), .ref (v 6), .ref (v 7), .ref (v 8), .ref (v 9), .int 0, .int 0, .int 0, .int 0, .int 0, .int 0, .int 0, .int 0, .int 0, .ref (v 10), .ref (v 11), .ref (v 12), .ref (v 13), .int 0, .ref (v 14), .ref (v 15), .ref (v 16), .ref (v 17), .ref (v 18), .int 0, .int 0, .int 0, .ref (v 19), .ref (v 20), .ref (v 21), .ref (v 22), .ref (v 23), .int 0, .int 0, .int 0, .int 0])), ((v 5), .inl (cy 0, 5, .inl (fun _ => 0)))] sz) (fun x => [((v 0), .inr (13, .int x.1 :: x.2))])) (va_A [((v 0), .inr (13, [.int 0, .int 0, .int 0, .int (-1), .int 0, .int 0, .int 0, .int 0, .ref (v 1), .ref (v 2), .ref (v 3), .ref (v 4), .ref (v 5), .ref (v 6), .ref (v 7), .ref (v 8), .ref (v 9), .int 0, .int 0, .int 0, .int 0, .int 0, .int 0, .int 0, .int 0, .int 0, .ref (v 10), .ref (v 11), .ref (v 12), .ref (v 13), .int 0, .ref (v 14), .ref (v 15), .ref (v 16), .ref (v 17), .ref (v 18), .int 0, .int 0, .int 0, .ref (v 19), .ref (v 20), .ref (v 21), .ref (v 22), .ref (v 23), .int 0, .int 0, .int 0, .int 0])), ((v 5), .inl (cy 0, 5, .inl (fun _ => 0)))] sz)) 0 0 (va_A [((v 0), .inr (13, [.int 0, .int 0, .int 0, .int (-1), .int 0, .int 0, .int 0, .int 0, .ref (v 1), .ref (v 2), .ref (v 3), .ref (v 4), .ref (v 5), .ref (v 6), .ref (v 7), .ref (v 8), .ref (v 9), .int 0, .int 0, .int 0, .int 0, .int 0, .int 0, .int 0, .int 0, .int 0, .ref (v 10), .ref (v 11), .ref (v 12), .ref (v 13), .int 0, .ref (v 14), .ref (v 15), .ref (v 16), .ref (v 17), .ref (v 18), .int 0, .int 0, .int 0, .ref (v 19), .ref (v 20), .ref (v 21), .ref (v 22), .ref (v 23), .int 0, .int 0, .int 0, .int 0])), ((v 5), .inl (cy 0, 5, .inl (fun _ => 0)))] sz) := by
  refine k_ofW (y := yX12_bed) (cc := cX12_bed) (maxL := 4) (ret := (some .boolean)) (av := [.ref (v 0), .int p0, .int p1]) (ws := [((v 0), .inr (13, [.int 0, .int 0, .int 0, .int (-1), .int 0, .int 0, .int 0, .int 0, .ref (v 1), .ref (v 2), .ref (v 3), .ref (v 4), .ref (v 5), .ref (v 6), .ref (v 7), .ref (v 8), .ref (v 9), .int 0, .int 0, .int 0, .int 0, .int 0, .int 0, .int 0, .int 0, .int 0, .ref (v 10), .ref (v 11), .ref (v 12), .ref (v 13), .int 0, .ref (v 14), .ref (v 15), .ref (v 16), .ref (v 17), .ref (v 18), .int 0, .int 0, .int 0, .ref (v 19), .ref (v 20), .ref (v 21), .ref (v 22), .ref (v 23), .int 0, .int 0, .int 0, .int 0])), ((v 5), .inl (cy 0, 5, .inl (fun _ => 0)))]) (Qc := fun A => va_Qi (fun (r : Int32) (x : Int32 × List Value) => ((False) → x.1 = 0 ∧ False) ∧ (¬ (False) → x.1 = 1)) (kB D A (fun x => [((v 0), .inr (13, .int x.1 :: x.2))])) A) (by decide) (Nat.le_of_ble_eq_true rfl) ?_
  intro p e s m below meth c ls A E hA hP hD hG hS hl
  obtain ⟨hx, hb, hml, hown, hts, hr, hlk, hnm⟩ := id E
  have hown : s.vm.findClass RX12 = some m.cls := hown
  have hl : lv_has ls 4 [(0, .ref (v 0)), (1, .int p0), (2, .int p1)] := hl
  obtain ⟨H, hH⟩ : ∃ H, H = s.heap := ⟨_, rfl⟩
  have hP : va_P D vwCl [((v 0), .inr (13, [.int 0, .int 0, .int 0, .int (-1), .int 0, .int 0, .int 0, .int 0, .ref (v 1), .ref (v 2), .ref (v 3), .ref (v 4), .ref (v 5), .ref (v 6), .ref (v 7), .ref (v 8), .ref (v 9), .int 0, .int 0, .int 0, .int 0, .int 0, .int 0, .int 0, .int 0, .int 0, .ref (v 10), .ref (v 11), .ref (v 12), .ref (v 13), .int 0, .ref (v 14), .ref (v 15), .ref (v 16), .ref (v 17), .ref (v 18), .int 0, .int 0, .int 0, .ref (v 19), .ref (v 20), .ref (v 21), .ref (v 22), .ref (v 23), .int 0, .int 0, .int 0, .int 0])), ((v 5), .inl (cy 0, 5, .inl (fun _ => 0)))] H := by rw [hH]; exact hP
  have hS : va_S A s.heap H [] := by rw [hH]; exact va_S.rf
  rw [← hH]
  clear hH
  refine lv_aload_n hx hb dX12_bed_0 rfl (lv_at hl 0 rfl) ?_
  refine lv_iconst (v := 0) hx hb dX12_bed_1 (by decide) ?_
  refine va_put (D := D) (ci := 13) (v := .int 0) (ty := .int) (C := RX12) (T := TX12) (N := 48) hx hb hts kin_RX12 tyX12 tyX12_ok nmX12 hown hG.1 hP hD hS 0 rfl rfl 0 (by decide) (hts _ wm_1519) (fun _ h9 => h9) rfl (by decide +kernel) rfl rfl (Nat.le_of_ble_eq_true rfl) dX12_bed_2 (fun H locs hP hD hS => ?_)
  have hP : va_P D vwCl [((v 0), .inr (13, [.int 0, .int 0, .int 0, .int (-1), .int 0, .int 0, .int 0, .int 0, .ref (v 1), .ref (v 2), .ref (v 3), .ref (v 4), .ref (v 5), .ref (v 6), .ref (v 7), .ref (v 8), .ref (v 9), .int 0, .int 0, .int 0, .int 0, .int 0, .int 0, .int 0, .int 0, .int 0, .ref (v 10), .ref (v 11), .ref (v 12), .ref (v 13), .int 0, .ref (v 14), .ref (v 15), .ref (v 16), .ref (v 17), .ref (v 18), .int 0, .int 0, .int 0, .ref (v 19), .ref (v 20), .ref (v 21), .ref (v 22), .ref (v 23), .int 0, .int 0, .int 0, .int 0])), ((v 5), .inl (cy 0, 5, .inl (fun _ => 0)))] H := hP
  have hD : va_D A [((v 0), .inr (13, [.int 0, .int 0, .int 0, .int (-1), .int 0, .int 0, .int 0, .int 0, .ref (v 1), .ref (v 2), .ref (v 3), .ref (v 4), .ref (v 5), .ref (v 6), .ref (v 7), .ref (v 8), .ref (v 9), .int 0, .int 0, .int 0, .int 0, .int 0, .int 0, .int 0, .int 0, .int 0, .ref (v 10), .ref (v 11), .ref (v 12), .ref (v 13), .int 0, .ref (v 14), .ref (v 15), .ref (v 16), .ref (v 17), .ref (v 18), .int 0, .int 0, .int 0, .ref (v 19), .ref (v 20), .ref (v 21), .ref (v 22), .ref (v 23), .int 0, .int 0, .int 0, .int 0])), ((v 5), .inl (cy 0, 5, .inl (fun _ => 0)))] := hD
  refine lv_aload_n hx hb dX12_bed_5 rfl (lv_at hl 0 rfl) ?_
  refine lv_aload_n hx hb dX12_bed_6 rfl (lv_at hl 0 rfl) ?_
  refine lv_iload_n hx hb dX12_bed_7 rfl (lv_at hl 1 rfl) ?_
  refine k_cali [] (⟨hP, hD, hG, hS, hA, rfl, rfl⟩ : kAt D cy sa A s H _ _ [((v 0), .inr (13, [.int 0, .int 0, .int 0, .int (-1), .int 0, .int 0, .int 0, .int 0, .ref (v 1), .ref (v 2), .ref (v 3), .ref (v 4), .ref (v 5), .ref (v 6), .ref (v 7), .ref (v 8), .ref (v 9), .int 0, .int 0, .int 0, .int 0, .int 0, .int 0, .int 0, .int 0, .int 0, .ref (v 10), .ref (v 11), .ref (v 12), .ref (v 13), .int 0, .ref (v 14), .ref (v 15), .ref (v 16), .ref (v 17), .ref (v 18), .int 0, .int 0, .int 0, .ref (v 19), .ref (v 20), .ref (v 21), .ref (v 22), .ref (v 23), .int 0, .int 0, .int 0, .int 0])), ((v 5), .inl (cy 0, 5, .inl (fun _ => 0)))] [0, 1]) (wr := []) rfl rfl (by decide) (k_runV 13 0 (As := [.int p0]) (rest := [.ref (v 0)]) E lk_VRX12_203 rfl rfl rfl (m_isBody l hl0 D cy sa v p0 H.size) (⟨hP, hD, hG, hS, hA, rfl, rfl⟩ : kAt D cy sa A s H _ _ [((v 0), .inr (13, [.int 0, .int 0, .int 0, .int (-1), .int 0, .int 0, .int 0, .int 0, .ref (v 1), .ref (v 2), .ref (v 3), .ref (v 4), .ref (v 5), .ref (v 6), .ref (v 7), .ref (v 8), .ref (v 9), .int 0, .int 0, .int 0, .int 0, .int 0, .int 0, .int 0, .int 0, .int 0, .ref (v 10), .ref (v 11), .ref (v 12), .ref (v 13), .int 0, .ref (v 14), .ref (v 15), .ref (v 16), .ref (v 17), .ref (v 18), .int 0, .int 0, .int 0, .ref (v 19), .ref (v 20), .ref (v 21), .ref (v 22), .ref (v 23), .int 0, .int 0, .int 0, .int 0])), ((v 5), .inl (cy 0, 5, .inl (fun _ => 0)))] [0, 1]) hl.1 rfl rfl ⟨rfl, rfl, ⟨Nat.le_of_ble_eq_true rfl, Nat.le_of_ble_eq_true rfl⟩, ⟨Nat.le_of_ble_eq_true rfl, Nat.le_of_ble_eq_true rfl⟩, Nat.le_of_ble_eq_true rfl⟩ dX12_bed_8) (fun r1 u2 H locs hwu2 hP hD hS => ?_)
  have hP : va_P D vwCl [((v 0), .inr (13, [.int 0, .int 0, .int 0, .int (-1), .int 0, .int 0, .int 0, .int 0, .ref (v 1), .ref (v 2), .ref (v 3), .ref (v 4), .ref (v 5), .ref (v 6), .ref (v 7), .ref (v 8), .ref (v 9), .int 0, .int 0, .int 0, .int 0, .int 0, .int 0, .int 0, .int 0, .int 0, .ref (v 10), .ref (v 11), .ref (v 12), .ref (v 13), .int 0, .ref (v 14), .ref (v 15), .ref (v 16), .ref (v 17), .ref (v 18), .int 0, .int 0, .int 0, .ref (v 19), .ref (v 20), .ref (v 21), .ref (v 22), .ref (v 23), .int 0, .int 0, .int 0, .int 0])), ((v 5), .inl (cy 0, 5, .inl (fun _ => 0)))] H := hP
  have hD : va_D A [((v 0), .inr (13, [.int 0, .int 0, .int 0, .int (-1), .int 0, .int 0, .int 0, .int 0, .ref (v 1), .ref (v 2), .ref (v 3), .ref (v 4), .ref (v 5), .ref (v 6), .ref (v 7), .ref (v 8), .ref (v 9), .int 0, .int 0, .int 0, .int 0, .int 0, .int 0, .int 0, .int 0, .int 0, .ref (v 10), .ref (v 11), .ref (v 12), .ref (v 13), .int 0, .ref (v 14), .ref (v 15), .ref (v 16), .ref (v 17), .ref (v 18), .int 0, .int 0, .int 0, .ref (v 19), .ref (v 20), .ref (v 21), .ref (v 22), .ref (v 23), .int 0, .int 0, .int 0, .int 0])), ((v 5), .inl (cy 0, 5, .inl (fun _ => 0)))] := hD
  obtain rfl : r1 = 0 := hwu2
  refine lv_if_ne (tgt := 18) hx hb dX12_bed_11 (by decide) (fun h => absurd (by decide) h) (fun _ => ?_)
  refine lv_iconst (v := 1) hx hb dX12_bed_14 (by decide) ?_
  refine lv_goto (tgt := 19) hx hb dX12_bed_15 (by decide) ?_
  refine lv_iconst (v := 1) hx hb dX12_bed_19 (by decide) ?_
  refine k_cali [1] (⟨hP, hD, hG, hS, hA, rfl, rfl⟩ : kAt D cy sa A s H _ _ [((v 0), .inr (13, [.int 0, .int 0, .int 0, .int (-1), .int 0, .int 0, .int 0, .int 0, .ref (v 1), .ref (v 2), .ref (v 3), .ref (v 4), .ref (v 5), .ref (v 6), .ref (v 7), .ref (v 8), .ref (v 9), .int 0, .int 0, .int 0, .int 0, .int 0, .int 0, .int 0, .int 0, .int 0, .ref (v 10), .ref (v 11), .ref (v 12), .ref (v 13), .int 0, .ref (v 14), .ref (v 15), .ref (v 16), .ref (v 17), .ref (v 18), .int 0, .int 0, .int 0, .ref (v 19), .ref (v 20), .ref (v 21), .ref (v 22), .ref (v 23), .int 0, .int 0, .int 0, .int 0]))] [0]) (wr := [((v 5), .inl (cy 0, 5, .inl (fun _ => 0)))]) rfl rfl (by decide) (k_runV 13 0 (As := [.int 1, .int 1]) (rest := []) E lk_VRX12_169 rfl rfl rfl (m_bad1 l hl0 D cy sa v H.size) (⟨hP, hD, hG, hS, hA, rfl, rfl⟩ : kAt D cy sa A s H _ _ [((v 0), .inr (13, [.int 0, .int 0, .int 0, .int (-1), .int 0, .int 0, .int 0, .int 0, .ref (v 1), .ref (v 2), .ref (v 3), .ref (v 4), .ref (v 5), .ref (v 6), .ref (v 7), .ref (v 8), .ref (v 9), .int 0, .int 0, .int 0, .int 0, .int 0, .int 0, .int 0, .int 0, .int 0, .ref (v 10), .ref (v 11), .ref (v 12), .ref (v 13), .int 0, .ref (v 14), .ref (v 15), .ref (v 16), .ref (v 17), .ref (v 18), .int 0, .int 0, .int 0, .ref (v 19), .ref (v 20), .ref (v 21), .ref (v 22), .ref (v 23), .int 0, .int 0, .int 0, .int 0]))] [0]) hl.1 rfl rfl ⟨rfl, rfl, ⟨Nat.le_of_ble_eq_true rfl, Nat.le_of_ble_eq_true rfl⟩, ⟨Nat.le_of_ble_eq_true rfl, Nat.le_of_ble_eq_true rfl⟩, Nat.le_of_ble_eq_true rfl⟩ dX12_bed_20) (fun r3 u4 H locs hwu4 hP hD hS => ?_)
  have hP : va_P D vwCl [((v 5), .inl (cy 0, 5, .inl (fun _ => 0))), ((v 0), .inr (13, [.int 1, .int 0, .int 0, .int (-1), .int 0, .int 0, .int 0, .int 0, .ref (v 1), .ref (v 2), .ref (v 3), .ref (v 4), .ref (v 5), .ref (v 6), .ref (v 7), .ref (v 8), .ref (v 9), .int 0, .int 0, .int 0, .int 0, .int 0, .int 0, .int 0, .int 0, .int 0, .ref (v 10), .ref (v 11), .ref (v 12), .ref (v 13), .int 0, .ref (v 14), .ref (v 15), .ref (v 16), .ref (v 17), .ref (v 18), .int 0, .int 0, .int 0, .ref (v 19), .ref (v 20), .ref (v 21), .ref (v 22), .ref (v 23), .int 0, .int 0, .int 0, .int 0]))] H := hP
  have hD : va_D A [((v 5), .inl (cy 0, 5, .inl (fun _ => 0))), ((v 0), .inr (13, [.int 1, .int 0, .int 0, .int (-1), .int 0, .int 0, .int 0, .int 0, .ref (v 1), .ref (v 2), .ref (v 3), .ref (v 4), .ref (v 5), .ref (v 6), .ref (v 7), .ref (v 8), .ref (v 9), .int 0, .int 0, .int 0, .int 0, .int 0, .int 0, .int 0, .int 0, .int 0, .ref (v 10), .ref (v 11), .ref (v 12), .ref (v 13), .int 0, .ref (v 14), .ref (v 15), .ref (v 16), .ref (v 17), .ref (v 18), .int 0, .int 0, .int 0, .ref (v 19), .ref (v 20), .ref (v 21), .ref (v 22), .ref (v 23), .int 0, .int 0, .int 0, .int 0]))] := hD
  obtain rfl : r3 = 1 := hwu4
  refine lv_if_eq (tgt := 28) hx hb dX12_bed_23 (by decide) (fun h => absurd h (by decide)) (fun _ => ?_)
  refine lv_iconst (v := 0) hx hb dX12_bed_26 (by decide) ?_
  exact k_zret (1, [.int 0, .int 0, .int (-1), .int 0, .int 0, .int 0, .int 0, .ref (v 1), .ref (v 2), .ref (v 3), .ref (v 4), .ref (v 5), .ref (v 6), .ref (v 7), .ref (v 8), .ref (v 9), .int 0, .int 0, .int 0, .int 0, .int 0, .int 0, .int 0, .int 0, .int 0, .ref (v 10), .ref (v 11), .ref (v 12), .ref (v 13), .int 0, .ref (v 14), .ref (v 15), .ref (v 16), .ref (v 17), .ref (v 18), .int 0, .int 0, .int 0, .ref (v 19), .ref (v 20), .ref (v 21), .ref (v 22), .ref (v 23), .int 0, .int 0, .int 0, .int 0]) hx hb hr hlk (k_nz (by decide)) (by refine ⟨fun h => ?_, fun h => ?_⟩ <;> first | exact False.elim h | exact ⟨rfl, rfl⟩ | rfl | exact absurd trivial h | (exfalso; simp only [k_lt, k_le, k_eq, k_L0, k_L1, k_L2, k_L3, k_L4, k_L5, k_L6, k_L7, k_L8, k_L9, k_L10, k_L15, k_L20, k_L30, k_L31, k_L40, k_L41, k_L60, k_L61, k_L99, k_L120, k_L239, k_L240, k_L479, k_L480, k_L500, k_L720, k_L999, k_L1000, k_L9999, k_Lm1] at h; omega) | (refine ⟨rfl, ?_⟩; rfl)) (hP.sub [1] rfl) (hD.sub [1] (by decide) rfl) hS (by decide) (by decide) dX12_bed_27

set_option maxHeartbeats 4000000 in
set_option maxRecDepth 100000 in
/-- the reference: passing -/
theorem m_passing_ (l : Launch) (hl0 : l.stackTraces = false) (D : va_G) (cy : Nat → ClassId) (sa : Nat → Nat) (v : Nat → Nat) (p0 p1 : Int32) (sz : Nat) : Met l yX12_passing (Cond.code yX12_passing cX12_passing 3 (some .int) :: kWS) ({ frames := 13, cells := 0, slots := 0, locals := 480 }) (kPre D cy sa [.ref (v 0), .int p0, .int p1] [((v 0), .inr (13, [.int 0, .int 0, .int 0, .int (-1), .int 0, .int 0, .int 0, .int 0, .ref (v 1), .ref (v 2), .ref (v 3), .ref (v 4), .ref (v 5), .ref (v 6), .ref (v 7), .ref (v 8), .ref (v 9), .int 0, .int 0, .int 0, .int 0, .int 0, .int 0, .int 0, .int 0, .int 0, .ref (v 10), .ref (v 11), .ref (v 12), .ref (v 13), .int 0, .ref (v 14), .ref (v 15), .ref (v 16), .ref (v 17), .ref (v 18), .int 0, .int 0, .int 0, .ref (v 19), .ref (v 20), .ref (v 21), .ref (v 22), .ref (v 23), .int 0, .int 0, .int 0, .int 0])), ((v 5), .inl (cy 0, 5, .inl (fun _ => 0)))] sz) (va_Qi (fun (r : Int32) (x : Int32 × List Value) => ((False) → x.1 = 0 ∧ False) ∧ (¬ (False) → x.1 = 1)) (kB D (va_A [((v 0), .inr (13, [.int 0, .int 0, .int 0, .int (-1), .int 0, .int 0, .int 0, .int 0, .ref (v 1), .ref (v 2), .ref (v 3), .ref (v 4), .ref (v 5), .ref (v 6), .ref (v 7), .ref (v 8), .ref (v 9), .int 0, .int 0, .int 0, .int 0, .int 0, .int 0, .int 0, .int 0, .int 0, .ref (v 10), .ref (v 11), .ref (v 12), .ref (v 13), .int 0, .ref (v 14), .ref (v 15), .ref (v 16), .ref (v 17), .ref (v 18), .int 0, .int 0, .int 0, .ref (v 19), .ref (v 20), .ref (v 21), .ref (v 22), .ref (v 23), .int 0, .int 0, .int 0, .int 0])), ((v 5), .inl (cy 0, 5, .inl (fun _ => 0)))] sz) (fun x => [((v 0), .inr (13, .int x.1 :: x.2))])) (va_A [((v 0), .inr (13, [.int 0, .int 0, .int 0, .int (-1), .int 0, .int 0, .int 0, .int 0, .ref (v 1), .ref (v 2), .ref (v 3), .ref (v 4), .ref (v 5), .ref (v 6), .ref (v 7), .ref (v 8), .ref (v 9), .int 0, .int 0, .int 0, .int 0, .int 0, .int 0, .int 0, .int 0, .int 0, .ref (v 10), .ref (v 11), .ref (v 12), .ref (v 13), .int 0, .ref (v 14), .ref (v 15), .ref (v 16), .ref (v 17), .ref (v 18), .int 0, .int 0, .int 0, .ref (v 19), .ref (v 20), .ref (v 21), .ref (v 22), .ref (v 23), .int 0, .int 0, .int 0, .int 0])), ((v 5), .inl (cy 0, 5, .inl (fun _ => 0)))] sz)) 0 0 (va_A [((v 0), .inr (13, [.int 0, .int 0, .int 0, .int (-1), .int 0, .int 0, .int 0, .int 0, .ref (v 1), .ref (v 2), .ref (v 3), .ref (v 4), .ref (v 5), .ref (v 6), .ref (v 7), .ref (v 8), .ref (v 9), .int 0, .int 0, .int 0, .int 0, .int 0, .int 0, .int 0, .int 0, .int 0, .ref (v 10), .ref (v 11), .ref (v 12), .ref (v 13), .int 0, .ref (v 14), .ref (v 15), .ref (v 16), .ref (v 17), .ref (v 18), .int 0, .int 0, .int 0, .ref (v 19), .ref (v 20), .ref (v 21), .ref (v 22), .ref (v 23), .int 0, .int 0, .int 0, .int 0])), ((v 5), .inl (cy 0, 5, .inl (fun _ => 0)))] sz) := by
  refine k_ofW (y := yX12_passing) (cc := cX12_passing) (maxL := 3) (ret := (some .int)) (av := [.ref (v 0), .int p0, .int p1]) (ws := [((v 0), .inr (13, [.int 0, .int 0, .int 0, .int (-1), .int 0, .int 0, .int 0, .int 0, .ref (v 1), .ref (v 2), .ref (v 3), .ref (v 4), .ref (v 5), .ref (v 6), .ref (v 7), .ref (v 8), .ref (v 9), .int 0, .int 0, .int 0, .int 0, .int 0, .int 0, .int 0, .int 0, .int 0, .ref (v 10), .ref (v 11), .ref (v 12), .ref (v 13), .int 0, .ref (v 14), .ref (v 15), .ref (v 16), .ref (v 17), .ref (v 18), .int 0, .int 0, .int 0, .ref (v 19), .ref (v 20), .ref (v 21), .ref (v 22), .ref (v 23), .int 0, .int 0, .int 0, .int 0])), ((v 5), .inl (cy 0, 5, .inl (fun _ => 0)))]) (Qc := fun A => va_Qi (fun (r : Int32) (x : Int32 × List Value) => ((False) → x.1 = 0 ∧ False) ∧ (¬ (False) → x.1 = 1)) (kB D A (fun x => [((v 0), .inr (13, .int x.1 :: x.2))])) A) (by decide) (Nat.le_of_ble_eq_true rfl) ?_
  intro p e s m below meth c ls A E hA hP hD hG hS hl
  obtain ⟨hx, hb, hml, hown, hts, hr, hlk, hnm⟩ := id E
  have hown : s.vm.findClass RX12 = some m.cls := hown
  have hl : lv_has ls 3 [(0, .ref (v 0)), (1, .int p0), (2, .int p1)] := hl
  obtain ⟨H, hH⟩ : ∃ H, H = s.heap := ⟨_, rfl⟩
  have hP : va_P D vwCl [((v 0), .inr (13, [.int 0, .int 0, .int 0, .int (-1), .int 0, .int 0, .int 0, .int 0, .ref (v 1), .ref (v 2), .ref (v 3), .ref (v 4), .ref (v 5), .ref (v 6), .ref (v 7), .ref (v 8), .ref (v 9), .int 0, .int 0, .int 0, .int 0, .int 0, .int 0, .int 0, .int 0, .int 0, .ref (v 10), .ref (v 11), .ref (v 12), .ref (v 13), .int 0, .ref (v 14), .ref (v 15), .ref (v 16), .ref (v 17), .ref (v 18), .int 0, .int 0, .int 0, .ref (v 19), .ref (v 20), .ref (v 21), .ref (v 22), .ref (v 23), .int 0, .int 0, .int 0, .int 0])), ((v 5), .inl (cy 0, 5, .inl (fun _ => 0)))] H := by rw [hH]; exact hP
  have hS : va_S A s.heap H [] := by rw [hH]; exact va_S.rf
  rw [← hH]
  clear hH
  refine lv_aload_n hx hb dX12_passing_0 rfl (lv_at hl 0 rfl) ?_
  refine lv_iconst (v := 0) hx hb dX12_passing_1 (by decide) ?_
  refine va_put (D := D) (ci := 13) (v := .int 0) (ty := .int) (C := RX12) (T := TX12) (N := 48) hx hb hts kin_RX12 tyX12 tyX12_ok nmX12 hown hG.1 hP hD hS 0 rfl rfl 0 (by decide) (hts _ wm_1519) (fun _ h9 => h9) rfl (by decide +kernel) rfl rfl (Nat.le_of_ble_eq_true rfl) dX12_passing_2 (fun H locs hP hD hS => ?_)
  have hP : va_P D vwCl [((v 0), .inr (13, [.int 0, .int 0, .int 0, .int (-1), .int 0, .int 0, .int 0, .int 0, .ref (v 1), .ref (v 2), .ref (v 3), .ref (v 4), .ref (v 5), .ref (v 6), .ref (v 7), .ref (v 8), .ref (v 9), .int 0, .int 0, .int 0, .int 0, .int 0, .int 0, .int 0, .int 0, .int 0, .ref (v 10), .ref (v 11), .ref (v 12), .ref (v 13), .int 0, .ref (v 14), .ref (v 15), .ref (v 16), .ref (v 17), .ref (v 18), .int 0, .int 0, .int 0, .ref (v 19), .ref (v 20), .ref (v 21), .ref (v 22), .ref (v 23), .int 0, .int 0, .int 0, .int 0])), ((v 5), .inl (cy 0, 5, .inl (fun _ => 0)))] H := hP
  have hD : va_D A [((v 0), .inr (13, [.int 0, .int 0, .int 0, .int (-1), .int 0, .int 0, .int 0, .int 0, .ref (v 1), .ref (v 2), .ref (v 3), .ref (v 4), .ref (v 5), .ref (v 6), .ref (v 7), .ref (v 8), .ref (v 9), .int 0, .int 0, .int 0, .int 0, .int 0, .int 0, .int 0, .int 0, .int 0, .ref (v 10), .ref (v 11), .ref (v 12), .ref (v 13), .int 0, .ref (v 14), .ref (v 15), .ref (v 16), .ref (v 17), .ref (v 18), .int 0, .int 0, .int 0, .ref (v 19), .ref (v 20), .ref (v 21), .ref (v 22), .ref (v 23), .int 0, .int 0, .int 0, .int 0])), ((v 5), .inl (cy 0, 5, .inl (fun _ => 0)))] := hD
  refine lv_aload_n hx hb dX12_passing_5 rfl (lv_at hl 0 rfl) ?_
  refine lv_aload_n hx hb dX12_passing_6 rfl (lv_at hl 0 rfl) ?_
  refine lv_iload_n hx hb dX12_passing_7 rfl (lv_at hl 2 rfl) ?_
  refine k_cali [] (⟨hP, hD, hG, hS, hA, rfl, rfl⟩ : kAt D cy sa A s H _ _ [((v 0), .inr (13, [.int 0, .int 0, .int 0, .int (-1), .int 0, .int 0, .int 0, .int 0, .ref (v 1), .ref (v 2), .ref (v 3), .ref (v 4), .ref (v 5), .ref (v 6), .ref (v 7), .ref (v 8), .ref (v 9), .int 0, .int 0, .int 0, .int 0, .int 0, .int 0, .int 0, .int 0, .int 0, .ref (v 10), .ref (v 11), .ref (v 12), .ref (v 13), .int 0, .ref (v 14), .ref (v 15), .ref (v 16), .ref (v 17), .ref (v 18), .int 0, .int 0, .int 0, .ref (v 19), .ref (v 20), .ref (v 21), .ref (v 22), .ref (v 23), .int 0, .int 0, .int 0, .int 0])), ((v 5), .inl (cy 0, 5, .inl (fun _ => 0)))] [0, 1]) (wr := []) rfl rfl (by decide) (k_runV 13 0 (As := [.int p1]) (rest := [.ref (v 0)]) E lk_VRX12_203 rfl rfl rfl (m_isBody l hl0 D cy sa v p1 H.size) (⟨hP, hD, hG, hS, hA, rfl, rfl⟩ : kAt D cy sa A s H _ _ [((v 0), .inr (13, [.int 0, .int 0, .int 0, .int (-1), .int 0, .int 0, .int 0, .int 0, .ref (v 1), .ref (v 2), .ref (v 3), .ref (v 4), .ref (v 5), .ref (v 6), .ref (v 7), .ref (v 8), .ref (v 9), .int 0, .int 0, .int 0, .int 0, .int 0, .int 0, .int 0, .int 0, .int 0, .ref (v 10), .ref (v 11), .ref (v 12), .ref (v 13), .int 0, .ref (v 14), .ref (v 15), .ref (v 16), .ref (v 17), .ref (v 18), .int 0, .int 0, .int 0, .ref (v 19), .ref (v 20), .ref (v 21), .ref (v 22), .ref (v 23), .int 0, .int 0, .int 0, .int 0])), ((v 5), .inl (cy 0, 5, .inl (fun _ => 0)))] [0, 1]) hl.1 rfl rfl ⟨rfl, rfl, ⟨Nat.le_of_ble_eq_true rfl, Nat.le_of_ble_eq_true rfl⟩, ⟨Nat.le_of_ble_eq_true rfl, Nat.le_of_ble_eq_true rfl⟩, Nat.le_of_ble_eq_true rfl⟩ dX12_passing_8) (fun r1 u2 H locs hwu2 hP hD hS => ?_)
  have hP : va_P D vwCl [((v 0), .inr (13, [.int 0, .int 0, .int 0, .int (-1), .int 0, .int 0, .int 0, .int 0, .ref (v 1), .ref (v 2), .ref (v 3), .ref (v 4), .ref (v 5), .ref (v 6), .ref (v 7), .ref (v 8), .ref (v 9), .int 0, .int 0, .int 0, .int 0, .int 0, .int 0, .int 0, .int 0, .int 0, .ref (v 10), .ref (v 11), .ref (v 12), .ref (v 13), .int 0, .ref (v 14), .ref (v 15), .ref (v 16), .ref (v 17), .ref (v 18), .int 0, .int 0, .int 0, .ref (v 19), .ref (v 20), .ref (v 21), .ref (v 22), .ref (v 23), .int 0, .int 0, .int 0, .int 0])), ((v 5), .inl (cy 0, 5, .inl (fun _ => 0)))] H := hP
  have hD : va_D A [((v 0), .inr (13, [.int 0, .int 0, .int 0, .int (-1), .int 0, .int 0, .int 0, .int 0, .ref (v 1), .ref (v 2), .ref (v 3), .ref (v 4), .ref (v 5), .ref (v 6), .ref (v 7), .ref (v 8), .ref (v 9), .int 0, .int 0, .int 0, .int 0, .int 0, .int 0, .int 0, .int 0, .int 0, .ref (v 10), .ref (v 11), .ref (v 12), .ref (v 13), .int 0, .ref (v 14), .ref (v 15), .ref (v 16), .ref (v 17), .ref (v 18), .int 0, .int 0, .int 0, .ref (v 19), .ref (v 20), .ref (v 21), .ref (v 22), .ref (v 23), .int 0, .int 0, .int 0, .int 0])), ((v 5), .inl (cy 0, 5, .inl (fun _ => 0)))] := hD
  obtain rfl : r1 = 0 := hwu2
  refine lv_if_ne (tgt := 18) hx hb dX12_passing_11 (by decide) (fun h => absurd (by decide) h) (fun _ => ?_)
  refine lv_iconst (v := 1) hx hb dX12_passing_14 (by decide) ?_
  refine lv_goto (tgt := 19) hx hb dX12_passing_15 (by decide) ?_
  refine lv_iconst (v := 1) hx hb dX12_passing_19 (by decide) ?_
  refine k_cali [1] (⟨hP, hD, hG, hS, hA, rfl, rfl⟩ : kAt D cy sa A s H _ _ [((v 0), .inr (13, [.int 0, .int 0, .int 0, .int (-1), .int 0, .int 0, .int 0, .int 0, .ref (v 1), .ref (v 2), .ref (v 3), .ref (v 4), .ref (v 5), .ref (v 6), .ref (v 7), .ref (v 8), .ref (v 9), .int 0, .int 0, .int 0, .int 0, .int 0, .int 0, .int 0, .int 0, .int 0, .ref (v 10), .ref (v 11), .ref (v 12), .ref (v 13), .int 0, .ref (v 14), .ref (v 15), .ref (v 16), .ref (v 17), .ref (v 18), .int 0, .int 0, .int 0, .ref (v 19), .ref (v 20), .ref (v 21), .ref (v 22), .ref (v 23), .int 0, .int 0, .int 0, .int 0]))] [0]) (wr := [((v 5), .inl (cy 0, 5, .inl (fun _ => 0)))]) rfl rfl (by decide) (k_runV 13 0 (As := [.int 1, .int 1]) (rest := []) E lk_VRX12_169 rfl rfl rfl (m_bad1 l hl0 D cy sa v H.size) (⟨hP, hD, hG, hS, hA, rfl, rfl⟩ : kAt D cy sa A s H _ _ [((v 0), .inr (13, [.int 0, .int 0, .int 0, .int (-1), .int 0, .int 0, .int 0, .int 0, .ref (v 1), .ref (v 2), .ref (v 3), .ref (v 4), .ref (v 5), .ref (v 6), .ref (v 7), .ref (v 8), .ref (v 9), .int 0, .int 0, .int 0, .int 0, .int 0, .int 0, .int 0, .int 0, .int 0, .ref (v 10), .ref (v 11), .ref (v 12), .ref (v 13), .int 0, .ref (v 14), .ref (v 15), .ref (v 16), .ref (v 17), .ref (v 18), .int 0, .int 0, .int 0, .ref (v 19), .ref (v 20), .ref (v 21), .ref (v 22), .ref (v 23), .int 0, .int 0, .int 0, .int 0]))] [0]) hl.1 rfl rfl ⟨rfl, rfl, ⟨Nat.le_of_ble_eq_true rfl, Nat.le_of_ble_eq_true rfl⟩, ⟨Nat.le_of_ble_eq_true rfl, Nat.le_of_ble_eq_true rfl⟩, Nat.le_of_ble_eq_true rfl⟩ dX12_passing_20) (fun r3 u4 H locs hwu4 hP hD hS => ?_)
  have hP : va_P D vwCl [((v 5), .inl (cy 0, 5, .inl (fun _ => 0))), ((v 0), .inr (13, [.int 1, .int 0, .int 0, .int (-1), .int 0, .int 0, .int 0, .int 0, .ref (v 1), .ref (v 2), .ref (v 3), .ref (v 4), .ref (v 5), .ref (v 6), .ref (v 7), .ref (v 8), .ref (v 9), .int 0, .int 0, .int 0, .int 0, .int 0, .int 0, .int 0, .int 0, .int 0, .ref (v 10), .ref (v 11), .ref (v 12), .ref (v 13), .int 0, .ref (v 14), .ref (v 15), .ref (v 16), .ref (v 17), .ref (v 18), .int 0, .int 0, .int 0, .ref (v 19), .ref (v 20), .ref (v 21), .ref (v 22), .ref (v 23), .int 0, .int 0, .int 0, .int 0]))] H := hP
  have hD : va_D A [((v 5), .inl (cy 0, 5, .inl (fun _ => 0))), ((v 0), .inr (13, [.int 1, .int 0, .int 0, .int (-1), .int 0, .int 0, .int 0, .int 0, .ref (v 1), .ref (v 2), .ref (v 3), .ref (v 4), .ref (v 5), .ref (v 6), .ref (v 7), .ref (v 8), .ref (v 9), .int 0, .int 0, .int 0, .int 0, .int 0, .int 0, .int 0, .int 0, .int 0, .ref (v 10), .ref (v 11), .ref (v 12), .ref (v 13), .int 0, .ref (v 14), .ref (v 15), .ref (v 16), .ref (v 17), .ref (v 18), .int 0, .int 0, .int 0, .ref (v 19), .ref (v 20), .ref (v 21), .ref (v 22), .ref (v 23), .int 0, .int 0, .int 0, .int 0]))] := hD
  obtain rfl : r3 = 1 := hwu4
  refine lv_if_ne (tgt := 50) hx hb dX12_passing_23 (by decide) (fun _ => ?_) (fun h => absurd h (by decide))
  refine lv_iconst (v := 0) hx hb dX12_passing_50 (by decide) ?_
  exact k_iret (1, [.int 0, .int 0, .int (-1), .int 0, .int 0, .int 0, .int 0, .ref (v 1), .ref (v 2), .ref (v 3), .ref (v 4), .ref (v 5), .ref (v 6), .ref (v 7), .ref (v 8), .ref (v 9), .int 0, .int 0, .int 0, .int 0, .int 0, .int 0, .int 0, .int 0, .int 0, .ref (v 10), .ref (v 11), .ref (v 12), .ref (v 13), .int 0, .ref (v 14), .ref (v 15), .ref (v 16), .ref (v 17), .ref (v 18), .int 0, .int 0, .int 0, .ref (v 19), .ref (v 20), .ref (v 21), .ref (v 22), .ref (v 23), .int 0, .int 0, .int 0, .int 0]) hx hb hr hlk (by refine ⟨fun h => ?_, fun h => ?_⟩ <;> first | exact False.elim h | exact ⟨rfl, rfl⟩ | rfl | exact absurd trivial h | (exfalso; simp only [k_lt, k_le, k_eq, k_L0, k_L1, k_L2, k_L3, k_L4, k_L5, k_L6, k_L7, k_L8, k_L9, k_L10, k_L15, k_L20, k_L30, k_L31, k_L40, k_L41, k_L60, k_L61, k_L99, k_L120, k_L239, k_L240, k_L479, k_L480, k_L500, k_L720, k_L999, k_L1000, k_L9999, k_Lm1] at h; omega) | (refine ⟨rfl, ?_⟩; rfl)) (hP.sub [1] rfl) (hD.sub [1] (by decide) rfl) hS (by decide) (by decide) dX12_passing_51

set_option maxHeartbeats 4000000 in
set_option maxRecDepth 100000 in
/-- the reference: taught -/
theorem m_taught_ (l : Launch) (hl0 : l.stackTraces = false) (D : va_G) (cy : Nat → ClassId) (sa : Nat → Nat) (v : Nat → Nat) (p0 p1 p2 p3 : Int32) (sz : Nat) : Met l yX12_taught (Cond.code yX12_taught cX12_taught 5 (some .int) :: kWS) ({ frames := 13, cells := 0, slots := 0, locals := 480 }) (kPre D cy sa [.ref (v 0), .int p0, .int p1, .int p2, .int p3] [((v 0), .inr (13, [.int 0, .int 0, .int 0, .int (-1), .int 0, .int 0, .int 0, .int 0, .ref (v 1), .ref (v 2), .ref (v 3), .ref (v 4), .ref (v 5), .ref (v 6), .ref (v 7), .ref (v 8), .ref (v 9), .int 0, .int 0, .int 0, .int 0, .int 0, .int 0, .int 0, .int 0, .int 0, .ref (v 10), .ref (v 11), .ref (v 12), .ref (v 13), .int 0, .ref (v 14), .ref (v 15), .ref (v 16), .ref (v 17), .ref (v 18), .int 0, .int 0, .int 0, .ref (v 19), .ref (v 20), .ref (v 21), .ref (v 22), .ref (v 23), .int 0, .int 0, .int 0, .int 0])), ((v 5), .inl (cy 0, 5, .inl (fun _ => 0)))] sz) (va_Qi (fun (r : Int32) (x : Int32 × List Value) => ((False) → x.1 = 0 ∧ False) ∧ (¬ (False) → x.1 = 1)) (kB D (va_A [((v 0), .inr (13, [.int 0, .int 0, .int 0, .int (-1), .int 0, .int 0, .int 0, .int 0, .ref (v 1), .ref (v 2), .ref (v 3), .ref (v 4), .ref (v 5), .ref (v 6), .ref (v 7), .ref (v 8), .ref (v 9), .int 0, .int 0, .int 0, .int 0, .int 0, .int 0, .int 0, .int 0, .int 0, .ref (v 10), .ref (v 11), .ref (v 12), .ref (v 13), .int 0, .ref (v 14), .ref (v 15), .ref (v 16), .ref (v 17), .ref (v 18), .int 0, .int 0, .int 0, .ref (v 19), .ref (v 20), .ref (v 21), .ref (v 22), .ref (v 23), .int 0, .int 0, .int 0, .int 0])), ((v 5), .inl (cy 0, 5, .inl (fun _ => 0)))] sz) (fun x => [((v 0), .inr (13, .int x.1 :: x.2))])) (va_A [((v 0), .inr (13, [.int 0, .int 0, .int 0, .int (-1), .int 0, .int 0, .int 0, .int 0, .ref (v 1), .ref (v 2), .ref (v 3), .ref (v 4), .ref (v 5), .ref (v 6), .ref (v 7), .ref (v 8), .ref (v 9), .int 0, .int 0, .int 0, .int 0, .int 0, .int 0, .int 0, .int 0, .int 0, .ref (v 10), .ref (v 11), .ref (v 12), .ref (v 13), .int 0, .ref (v 14), .ref (v 15), .ref (v 16), .ref (v 17), .ref (v 18), .int 0, .int 0, .int 0, .ref (v 19), .ref (v 20), .ref (v 21), .ref (v 22), .ref (v 23), .int 0, .int 0, .int 0, .int 0])), ((v 5), .inl (cy 0, 5, .inl (fun _ => 0)))] sz)) 0 0 (va_A [((v 0), .inr (13, [.int 0, .int 0, .int 0, .int (-1), .int 0, .int 0, .int 0, .int 0, .ref (v 1), .ref (v 2), .ref (v 3), .ref (v 4), .ref (v 5), .ref (v 6), .ref (v 7), .ref (v 8), .ref (v 9), .int 0, .int 0, .int 0, .int 0, .int 0, .int 0, .int 0, .int 0, .int 0, .ref (v 10), .ref (v 11), .ref (v 12), .ref (v 13), .int 0, .ref (v 14), .ref (v 15), .ref (v 16), .ref (v 17), .ref (v 18), .int 0, .int 0, .int 0, .ref (v 19), .ref (v 20), .ref (v 21), .ref (v 22), .ref (v 23), .int 0, .int 0, .int 0, .int 0])), ((v 5), .inl (cy 0, 5, .inl (fun _ => 0)))] sz) := by
  refine k_ofW (y := yX12_taught) (cc := cX12_taught) (maxL := 5) (ret := (some .int)) (av := [.ref (v 0), .int p0, .int p1, .int p2, .int p3]) (ws := [((v 0), .inr (13, [.int 0, .int 0, .int 0, .int (-1), .int 0, .int 0, .int 0, .int 0, .ref (v 1), .ref (v 2), .ref (v 3), .ref (v 4), .ref (v 5), .ref (v 6), .ref (v 7), .ref (v 8), .ref (v 9), .int 0, .int 0, .int 0, .int 0, .int 0, .int 0, .int 0, .int 0, .int 0, .ref (v 10), .ref (v 11), .ref (v 12), .ref (v 13), .int 0, .ref (v 14), .ref (v 15), .ref (v 16), .ref (v 17), .ref (v 18), .int 0, .int 0, .int 0, .ref (v 19), .ref (v 20), .ref (v 21), .ref (v 22), .ref (v 23), .int 0, .int 0, .int 0, .int 0])), ((v 5), .inl (cy 0, 5, .inl (fun _ => 0)))]) (Qc := fun A => va_Qi (fun (r : Int32) (x : Int32 × List Value) => ((False) → x.1 = 0 ∧ False) ∧ (¬ (False) → x.1 = 1)) (kB D A (fun x => [((v 0), .inr (13, .int x.1 :: x.2))])) A) (by decide) (Nat.le_of_ble_eq_true rfl) ?_
  intro p e s m below meth c ls A E hA hP hD hG hS hl
  obtain ⟨hx, hb, hml, hown, hts, hr, hlk, hnm⟩ := id E
  have hown : s.vm.findClass RX12 = some m.cls := hown
  have hl : lv_has ls 5 [(0, .ref (v 0)), (1, .int p0), (2, .int p1), (3, .int p2), (4, .int p3)] := hl
  obtain ⟨H, hH⟩ : ∃ H, H = s.heap := ⟨_, rfl⟩
  have hP : va_P D vwCl [((v 0), .inr (13, [.int 0, .int 0, .int 0, .int (-1), .int 0, .int 0, .int 0, .int 0, .ref (v 1), .ref (v 2), .ref (v 3), .ref (v 4), .ref (v 5), .ref (v 6), .ref (v 7), .ref (v 8), .ref (v 9), .int 0, .int 0, .int 0, .int 0, .int 0, .int 0, .int 0, .int 0, .int 0, .ref (v 10), .ref (v 11), .ref (v 12), .ref (v 13), .int 0, .ref (v 14), .ref (v 15), .ref (v 16), .ref (v 17), .ref (v 18), .int 0, .int 0, .int 0, .ref (v 19), .ref (v 20), .ref (v 21), .ref (v 22), .ref (v 23), .int 0, .int 0, .int 0, .int 0])), ((v 5), .inl (cy 0, 5, .inl (fun _ => 0)))] H := by rw [hH]; exact hP
  have hS : va_S A s.heap H [] := by rw [hH]; exact va_S.rf
  rw [← hH]
  clear hH
  refine lv_aload_n hx hb dX12_taught_0 rfl (lv_at hl 0 rfl) ?_
  refine lv_iconst (v := 0) hx hb dX12_taught_1 (by decide) ?_
  refine va_put (D := D) (ci := 13) (v := .int 0) (ty := .int) (C := RX12) (T := TX12) (N := 48) hx hb hts kin_RX12 tyX12 tyX12_ok nmX12 hown hG.1 hP hD hS 0 rfl rfl 0 (by decide) (hts _ wm_1519) (fun _ h9 => h9) rfl (by decide +kernel) rfl rfl (Nat.le_of_ble_eq_true rfl) dX12_taught_2 (fun H locs hP hD hS => ?_)
  have hP : va_P D vwCl [((v 0), .inr (13, [.int 0, .int 0, .int 0, .int (-1), .int 0, .int 0, .int 0, .int 0, .ref (v 1), .ref (v 2), .ref (v 3), .ref (v 4), .ref (v 5), .ref (v 6), .ref (v 7), .ref (v 8), .ref (v 9), .int 0, .int 0, .int 0, .int 0, .int 0, .int 0, .int 0, .int 0, .int 0, .ref (v 10), .ref (v 11), .ref (v 12), .ref (v 13), .int 0, .ref (v 14), .ref (v 15), .ref (v 16), .ref (v 17), .ref (v 18), .int 0, .int 0, .int 0, .ref (v 19), .ref (v 20), .ref (v 21), .ref (v 22), .ref (v 23), .int 0, .int 0, .int 0, .int 0])), ((v 5), .inl (cy 0, 5, .inl (fun _ => 0)))] H := hP
  have hD : va_D A [((v 0), .inr (13, [.int 0, .int 0, .int 0, .int (-1), .int 0, .int 0, .int 0, .int 0, .ref (v 1), .ref (v 2), .ref (v 3), .ref (v 4), .ref (v 5), .ref (v 6), .ref (v 7), .ref (v 8), .ref (v 9), .int 0, .int 0, .int 0, .int 0, .int 0, .int 0, .int 0, .int 0, .int 0, .ref (v 10), .ref (v 11), .ref (v 12), .ref (v 13), .int 0, .ref (v 14), .ref (v 15), .ref (v 16), .ref (v 17), .ref (v 18), .int 0, .int 0, .int 0, .ref (v 19), .ref (v 20), .ref (v 21), .ref (v 22), .ref (v 23), .int 0, .int 0, .int 0, .int 0])), ((v 5), .inl (cy 0, 5, .inl (fun _ => 0)))] := hD
  refine lv_aload_n hx hb dX12_taught_5 rfl (lv_at hl 0 rfl) ?_
  refine lv_aload_n hx hb dX12_taught_6 rfl (lv_at hl 0 rfl) ?_
  refine lv_iload_n hx hb dX12_taught_7 rfl (lv_at hl 1 rfl) ?_
  refine k_cali [] (⟨hP, hD, hG, hS, hA, rfl, rfl⟩ : kAt D cy sa A s H _ _ [((v 0), .inr (13, [.int 0, .int 0, .int 0, .int (-1), .int 0, .int 0, .int 0, .int 0, .ref (v 1), .ref (v 2), .ref (v 3), .ref (v 4), .ref (v 5), .ref (v 6), .ref (v 7), .ref (v 8), .ref (v 9), .int 0, .int 0, .int 0, .int 0, .int 0, .int 0, .int 0, .int 0, .int 0, .ref (v 10), .ref (v 11), .ref (v 12), .ref (v 13), .int 0, .ref (v 14), .ref (v 15), .ref (v 16), .ref (v 17), .ref (v 18), .int 0, .int 0, .int 0, .ref (v 19), .ref (v 20), .ref (v 21), .ref (v 22), .ref (v 23), .int 0, .int 0, .int 0, .int 0])), ((v 5), .inl (cy 0, 5, .inl (fun _ => 0)))] [0, 1]) (wr := []) rfl rfl (by decide) (k_runV 13 0 (As := [.int p0]) (rest := [.ref (v 0)]) E lk_VRX12_203 rfl rfl rfl (m_isBody l hl0 D cy sa v p0 H.size) (⟨hP, hD, hG, hS, hA, rfl, rfl⟩ : kAt D cy sa A s H _ _ [((v 0), .inr (13, [.int 0, .int 0, .int 0, .int (-1), .int 0, .int 0, .int 0, .int 0, .ref (v 1), .ref (v 2), .ref (v 3), .ref (v 4), .ref (v 5), .ref (v 6), .ref (v 7), .ref (v 8), .ref (v 9), .int 0, .int 0, .int 0, .int 0, .int 0, .int 0, .int 0, .int 0, .int 0, .ref (v 10), .ref (v 11), .ref (v 12), .ref (v 13), .int 0, .ref (v 14), .ref (v 15), .ref (v 16), .ref (v 17), .ref (v 18), .int 0, .int 0, .int 0, .ref (v 19), .ref (v 20), .ref (v 21), .ref (v 22), .ref (v 23), .int 0, .int 0, .int 0, .int 0])), ((v 5), .inl (cy 0, 5, .inl (fun _ => 0)))] [0, 1]) hl.1 rfl rfl ⟨rfl, rfl, ⟨Nat.le_of_ble_eq_true rfl, Nat.le_of_ble_eq_true rfl⟩, ⟨Nat.le_of_ble_eq_true rfl, Nat.le_of_ble_eq_true rfl⟩, Nat.le_of_ble_eq_true rfl⟩ dX12_taught_8) (fun r1 u2 H locs hwu2 hP hD hS => ?_)
  have hP : va_P D vwCl [((v 0), .inr (13, [.int 0, .int 0, .int 0, .int (-1), .int 0, .int 0, .int 0, .int 0, .ref (v 1), .ref (v 2), .ref (v 3), .ref (v 4), .ref (v 5), .ref (v 6), .ref (v 7), .ref (v 8), .ref (v 9), .int 0, .int 0, .int 0, .int 0, .int 0, .int 0, .int 0, .int 0, .int 0, .ref (v 10), .ref (v 11), .ref (v 12), .ref (v 13), .int 0, .ref (v 14), .ref (v 15), .ref (v 16), .ref (v 17), .ref (v 18), .int 0, .int 0, .int 0, .ref (v 19), .ref (v 20), .ref (v 21), .ref (v 22), .ref (v 23), .int 0, .int 0, .int 0, .int 0])), ((v 5), .inl (cy 0, 5, .inl (fun _ => 0)))] H := hP
  have hD : va_D A [((v 0), .inr (13, [.int 0, .int 0, .int 0, .int (-1), .int 0, .int 0, .int 0, .int 0, .ref (v 1), .ref (v 2), .ref (v 3), .ref (v 4), .ref (v 5), .ref (v 6), .ref (v 7), .ref (v 8), .ref (v 9), .int 0, .int 0, .int 0, .int 0, .int 0, .int 0, .int 0, .int 0, .int 0, .ref (v 10), .ref (v 11), .ref (v 12), .ref (v 13), .int 0, .ref (v 14), .ref (v 15), .ref (v 16), .ref (v 17), .ref (v 18), .int 0, .int 0, .int 0, .ref (v 19), .ref (v 20), .ref (v 21), .ref (v 22), .ref (v 23), .int 0, .int 0, .int 0, .int 0])), ((v 5), .inl (cy 0, 5, .inl (fun _ => 0)))] := hD
  obtain rfl : r1 = 0 := hwu2
  refine lv_if_ne (tgt := 18) hx hb dX12_taught_11 (by decide) (fun h => absurd (by decide) h) (fun _ => ?_)
  refine lv_iconst (v := 1) hx hb dX12_taught_14 (by decide) ?_
  refine lv_goto (tgt := 19) hx hb dX12_taught_15 (by decide) ?_
  refine lv_iconst (v := 1) hx hb dX12_taught_19 (by decide) ?_
  refine k_cali [1] (⟨hP, hD, hG, hS, hA, rfl, rfl⟩ : kAt D cy sa A s H _ _ [((v 0), .inr (13, [.int 0, .int 0, .int 0, .int (-1), .int 0, .int 0, .int 0, .int 0, .ref (v 1), .ref (v 2), .ref (v 3), .ref (v 4), .ref (v 5), .ref (v 6), .ref (v 7), .ref (v 8), .ref (v 9), .int 0, .int 0, .int 0, .int 0, .int 0, .int 0, .int 0, .int 0, .int 0, .ref (v 10), .ref (v 11), .ref (v 12), .ref (v 13), .int 0, .ref (v 14), .ref (v 15), .ref (v 16), .ref (v 17), .ref (v 18), .int 0, .int 0, .int 0, .ref (v 19), .ref (v 20), .ref (v 21), .ref (v 22), .ref (v 23), .int 0, .int 0, .int 0, .int 0]))] [0]) (wr := [((v 5), .inl (cy 0, 5, .inl (fun _ => 0)))]) rfl rfl (by decide) (k_runV 13 0 (As := [.int 1, .int 1]) (rest := []) E lk_VRX12_169 rfl rfl rfl (m_bad1 l hl0 D cy sa v H.size) (⟨hP, hD, hG, hS, hA, rfl, rfl⟩ : kAt D cy sa A s H _ _ [((v 0), .inr (13, [.int 0, .int 0, .int 0, .int (-1), .int 0, .int 0, .int 0, .int 0, .ref (v 1), .ref (v 2), .ref (v 3), .ref (v 4), .ref (v 5), .ref (v 6), .ref (v 7), .ref (v 8), .ref (v 9), .int 0, .int 0, .int 0, .int 0, .int 0, .int 0, .int 0, .int 0, .int 0, .ref (v 10), .ref (v 11), .ref (v 12), .ref (v 13), .int 0, .ref (v 14), .ref (v 15), .ref (v 16), .ref (v 17), .ref (v 18), .int 0, .int 0, .int 0, .ref (v 19), .ref (v 20), .ref (v 21), .ref (v 22), .ref (v 23), .int 0, .int 0, .int 0, .int 0]))] [0]) hl.1 rfl rfl ⟨rfl, rfl, ⟨Nat.le_of_ble_eq_true rfl, Nat.le_of_ble_eq_true rfl⟩, ⟨Nat.le_of_ble_eq_true rfl, Nat.le_of_ble_eq_true rfl⟩, Nat.le_of_ble_eq_true rfl⟩ dX12_taught_20) (fun r3 u4 H locs hwu4 hP hD hS => ?_)
  have hP : va_P D vwCl [((v 5), .inl (cy 0, 5, .inl (fun _ => 0))), ((v 0), .inr (13, [.int 1, .int 0, .int 0, .int (-1), .int 0, .int 0, .int 0, .int 0, .ref (v 1), .ref (v 2), .ref (v 3), .ref (v 4), .ref (v 5), .ref (v 6), .ref (v 7), .ref (v 8), .ref (v 9), .int 0, .int 0, .int 0, .int 0, .int 0, .int 0, .int 0, .int 0, .int 0, .ref (v 10), .ref (v 11), .ref (v 12), .ref (v 13), .int 0, .ref (v 14), .ref (v 15), .ref (v 16), .ref (v 17), .ref (v 18), .int 0, .int 0, .int 0, .ref (v 19), .ref (v 20), .ref (v 21), .ref (v 22), .ref (v 23), .int 0, .int 0, .int 0, .int 0]))] H := hP
  have hD : va_D A [((v 5), .inl (cy 0, 5, .inl (fun _ => 0))), ((v 0), .inr (13, [.int 1, .int 0, .int 0, .int (-1), .int 0, .int 0, .int 0, .int 0, .ref (v 1), .ref (v 2), .ref (v 3), .ref (v 4), .ref (v 5), .ref (v 6), .ref (v 7), .ref (v 8), .ref (v 9), .int 0, .int 0, .int 0, .int 0, .int 0, .int 0, .int 0, .int 0, .int 0, .ref (v 10), .ref (v 11), .ref (v 12), .ref (v 13), .int 0, .ref (v 14), .ref (v 15), .ref (v 16), .ref (v 17), .ref (v 18), .int 0, .int 0, .int 0, .ref (v 19), .ref (v 20), .ref (v 21), .ref (v 22), .ref (v 23), .int 0, .int 0, .int 0, .int 0]))] := hD
  obtain rfl : r3 = 1 := hwu4
  refine lv_if_ne (tgt := 76) hx hb dX12_taught_23 (by decide) (fun _ => ?_) (fun h => absurd h (by decide))
  refine lv_iconst (v := 0) hx hb dX12_taught_76 (by decide) ?_
  exact k_iret (1, [.int 0, .int 0, .int (-1), .int 0, .int 0, .int 0, .int 0, .ref (v 1), .ref (v 2), .ref (v 3), .ref (v 4), .ref (v 5), .ref (v 6), .ref (v 7), .ref (v 8), .ref (v 9), .int 0, .int 0, .int 0, .int 0, .int 0, .int 0, .int 0, .int 0, .int 0, .ref (v 10), .ref (v 11), .ref (v 12), .ref (v 13), .int 0, .ref (v 14), .ref (v 15), .ref (v 16), .ref (v 17), .ref (v 18), .int 0, .int 0, .int 0, .ref (v 19), .ref (v 20), .ref (v 21), .ref (v 22), .ref (v 23), .int 0, .int 0, .int 0, .int 0]) hx hb hr hlk (by refine ⟨fun h => ?_, fun h => ?_⟩ <;> first | exact False.elim h | exact ⟨rfl, rfl⟩ | rfl | exact absurd trivial h | (exfalso; simp only [k_lt, k_le, k_eq, k_L0, k_L1, k_L2, k_L3, k_L4, k_L5, k_L6, k_L7, k_L8, k_L9, k_L10, k_L15, k_L20, k_L30, k_L31, k_L40, k_L41, k_L60, k_L61, k_L99, k_L120, k_L239, k_L240, k_L479, k_L480, k_L500, k_L720, k_L999, k_L1000, k_L9999, k_Lm1] at h; omega) | (refine ⟨rfl, ?_⟩; rfl)) (hP.sub [1] rfl) (hD.sub [1] (by decide) rfl) hS (by decide) (by decide) dX12_taught_77

set_option maxHeartbeats 4000000 in
set_option maxRecDepth 100000 in
/-- the reference: trust -/
theorem m_trust_ (l : Launch) (hl0 : l.stackTraces = false) (D : va_G) (cy : Nat → ClassId) (sa : Nat → Nat) (v : Nat → Nat) (p0 p1 : Int32) (sz : Nat) : Met l yX12_trust (Cond.code yX12_trust cX12_trust 3 (some .int) :: kWS) ({ frames := 13, cells := 0, slots := 0, locals := 480 }) (kPre D cy sa [.ref (v 0), .int p0, .int p1] [((v 0), .inr (13, [.int 0, .int 0, .int 0, .int (-1), .int 0, .int 0, .int 0, .int 0, .ref (v 1), .ref (v 2), .ref (v 3), .ref (v 4), .ref (v 5), .ref (v 6), .ref (v 7), .ref (v 8), .ref (v 9), .int 0, .int 0, .int 0, .int 0, .int 0, .int 0, .int 0, .int 0, .int 0, .ref (v 10), .ref (v 11), .ref (v 12), .ref (v 13), .int 0, .ref (v 14), .ref (v 15), .ref (v 16), .ref (v 17), .ref (v 18), .int 0, .int 0, .int 0, .ref (v 19), .ref (v 20), .ref (v 21), .ref (v 22), .ref (v 23), .int 0, .int 0, .int 0, .int 0])), ((v 5), .inl (cy 0, 5, .inl (fun _ => 0)))] sz) (va_Qi (fun (r : Int32) (x : Int32 × List Value) => ((False) → x.1 = 0 ∧ False) ∧ (¬ (False) → x.1 = 1)) (kB D (va_A [((v 0), .inr (13, [.int 0, .int 0, .int 0, .int (-1), .int 0, .int 0, .int 0, .int 0, .ref (v 1), .ref (v 2), .ref (v 3), .ref (v 4), .ref (v 5), .ref (v 6), .ref (v 7), .ref (v 8), .ref (v 9), .int 0, .int 0, .int 0, .int 0, .int 0, .int 0, .int 0, .int 0, .int 0, .ref (v 10), .ref (v 11), .ref (v 12), .ref (v 13), .int 0, .ref (v 14), .ref (v 15), .ref (v 16), .ref (v 17), .ref (v 18), .int 0, .int 0, .int 0, .ref (v 19), .ref (v 20), .ref (v 21), .ref (v 22), .ref (v 23), .int 0, .int 0, .int 0, .int 0])), ((v 5), .inl (cy 0, 5, .inl (fun _ => 0)))] sz) (fun x => [((v 0), .inr (13, .int x.1 :: x.2))])) (va_A [((v 0), .inr (13, [.int 0, .int 0, .int 0, .int (-1), .int 0, .int 0, .int 0, .int 0, .ref (v 1), .ref (v 2), .ref (v 3), .ref (v 4), .ref (v 5), .ref (v 6), .ref (v 7), .ref (v 8), .ref (v 9), .int 0, .int 0, .int 0, .int 0, .int 0, .int 0, .int 0, .int 0, .int 0, .ref (v 10), .ref (v 11), .ref (v 12), .ref (v 13), .int 0, .ref (v 14), .ref (v 15), .ref (v 16), .ref (v 17), .ref (v 18), .int 0, .int 0, .int 0, .ref (v 19), .ref (v 20), .ref (v 21), .ref (v 22), .ref (v 23), .int 0, .int 0, .int 0, .int 0])), ((v 5), .inl (cy 0, 5, .inl (fun _ => 0)))] sz)) 0 0 (va_A [((v 0), .inr (13, [.int 0, .int 0, .int 0, .int (-1), .int 0, .int 0, .int 0, .int 0, .ref (v 1), .ref (v 2), .ref (v 3), .ref (v 4), .ref (v 5), .ref (v 6), .ref (v 7), .ref (v 8), .ref (v 9), .int 0, .int 0, .int 0, .int 0, .int 0, .int 0, .int 0, .int 0, .int 0, .ref (v 10), .ref (v 11), .ref (v 12), .ref (v 13), .int 0, .ref (v 14), .ref (v 15), .ref (v 16), .ref (v 17), .ref (v 18), .int 0, .int 0, .int 0, .ref (v 19), .ref (v 20), .ref (v 21), .ref (v 22), .ref (v 23), .int 0, .int 0, .int 0, .int 0])), ((v 5), .inl (cy 0, 5, .inl (fun _ => 0)))] sz) := by
  refine k_ofW (y := yX12_trust) (cc := cX12_trust) (maxL := 3) (ret := (some .int)) (av := [.ref (v 0), .int p0, .int p1]) (ws := [((v 0), .inr (13, [.int 0, .int 0, .int 0, .int (-1), .int 0, .int 0, .int 0, .int 0, .ref (v 1), .ref (v 2), .ref (v 3), .ref (v 4), .ref (v 5), .ref (v 6), .ref (v 7), .ref (v 8), .ref (v 9), .int 0, .int 0, .int 0, .int 0, .int 0, .int 0, .int 0, .int 0, .int 0, .ref (v 10), .ref (v 11), .ref (v 12), .ref (v 13), .int 0, .ref (v 14), .ref (v 15), .ref (v 16), .ref (v 17), .ref (v 18), .int 0, .int 0, .int 0, .ref (v 19), .ref (v 20), .ref (v 21), .ref (v 22), .ref (v 23), .int 0, .int 0, .int 0, .int 0])), ((v 5), .inl (cy 0, 5, .inl (fun _ => 0)))]) (Qc := fun A => va_Qi (fun (r : Int32) (x : Int32 × List Value) => ((False) → x.1 = 0 ∧ False) ∧ (¬ (False) → x.1 = 1)) (kB D A (fun x => [((v 0), .inr (13, .int x.1 :: x.2))])) A) (by decide) (Nat.le_of_ble_eq_true rfl) ?_
  intro p e s m below meth c ls A E hA hP hD hG hS hl
  obtain ⟨hx, hb, hml, hown, hts, hr, hlk, hnm⟩ := id E
  have hown : s.vm.findClass RX12 = some m.cls := hown
  have hl : lv_has ls 3 [(0, .ref (v 0)), (1, .int p0), (2, .int p1)] := hl
  obtain ⟨H, hH⟩ : ∃ H, H = s.heap := ⟨_, rfl⟩
  have hP : va_P D vwCl [((v 0), .inr (13, [.int 0, .int 0, .int 0, .int (-1), .int 0, .int 0, .int 0, .int 0, .ref (v 1), .ref (v 2), .ref (v 3), .ref (v 4), .ref (v 5), .ref (v 6), .ref (v 7), .ref (v 8), .ref (v 9), .int 0, .int 0, .int 0, .int 0, .int 0, .int 0, .int 0, .int 0, .int 0, .ref (v 10), .ref (v 11), .ref (v 12), .ref (v 13), .int 0, .ref (v 14), .ref (v 15), .ref (v 16), .ref (v 17), .ref (v 18), .int 0, .int 0, .int 0, .ref (v 19), .ref (v 20), .ref (v 21), .ref (v 22), .ref (v 23), .int 0, .int 0, .int 0, .int 0])), ((v 5), .inl (cy 0, 5, .inl (fun _ => 0)))] H := by rw [hH]; exact hP
  have hS : va_S A s.heap H [] := by rw [hH]; exact va_S.rf
  rw [← hH]
  clear hH
  refine lv_aload_n hx hb dX12_trust_0 rfl (lv_at hl 0 rfl) ?_
  refine lv_iconst (v := 0) hx hb dX12_trust_1 (by decide) ?_
  refine va_put (D := D) (ci := 13) (v := .int 0) (ty := .int) (C := RX12) (T := TX12) (N := 48) hx hb hts kin_RX12 tyX12 tyX12_ok nmX12 hown hG.1 hP hD hS 0 rfl rfl 0 (by decide) (hts _ wm_1519) (fun _ h9 => h9) rfl (by decide +kernel) rfl rfl (Nat.le_of_ble_eq_true rfl) dX12_trust_2 (fun H locs hP hD hS => ?_)
  have hP : va_P D vwCl [((v 0), .inr (13, [.int 0, .int 0, .int 0, .int (-1), .int 0, .int 0, .int 0, .int 0, .ref (v 1), .ref (v 2), .ref (v 3), .ref (v 4), .ref (v 5), .ref (v 6), .ref (v 7), .ref (v 8), .ref (v 9), .int 0, .int 0, .int 0, .int 0, .int 0, .int 0, .int 0, .int 0, .int 0, .ref (v 10), .ref (v 11), .ref (v 12), .ref (v 13), .int 0, .ref (v 14), .ref (v 15), .ref (v 16), .ref (v 17), .ref (v 18), .int 0, .int 0, .int 0, .ref (v 19), .ref (v 20), .ref (v 21), .ref (v 22), .ref (v 23), .int 0, .int 0, .int 0, .int 0])), ((v 5), .inl (cy 0, 5, .inl (fun _ => 0)))] H := hP
  have hD : va_D A [((v 0), .inr (13, [.int 0, .int 0, .int 0, .int (-1), .int 0, .int 0, .int 0, .int 0, .ref (v 1), .ref (v 2), .ref (v 3), .ref (v 4), .ref (v 5), .ref (v 6), .ref (v 7), .ref (v 8), .ref (v 9), .int 0, .int 0, .int 0, .int 0, .int 0, .int 0, .int 0, .int 0, .int 0, .ref (v 10), .ref (v 11), .ref (v 12), .ref (v 13), .int 0, .ref (v 14), .ref (v 15), .ref (v 16), .ref (v 17), .ref (v 18), .int 0, .int 0, .int 0, .ref (v 19), .ref (v 20), .ref (v 21), .ref (v 22), .ref (v 23), .int 0, .int 0, .int 0, .int 0])), ((v 5), .inl (cy 0, 5, .inl (fun _ => 0)))] := hD
  refine lv_aload_n hx hb dX12_trust_5 rfl (lv_at hl 0 rfl) ?_
  refine lv_aload_n hx hb dX12_trust_6 rfl (lv_at hl 0 rfl) ?_
  refine lv_iload_n hx hb dX12_trust_7 rfl (lv_at hl 1 rfl) ?_
  refine k_cali [] (⟨hP, hD, hG, hS, hA, rfl, rfl⟩ : kAt D cy sa A s H _ _ [((v 0), .inr (13, [.int 0, .int 0, .int 0, .int (-1), .int 0, .int 0, .int 0, .int 0, .ref (v 1), .ref (v 2), .ref (v 3), .ref (v 4), .ref (v 5), .ref (v 6), .ref (v 7), .ref (v 8), .ref (v 9), .int 0, .int 0, .int 0, .int 0, .int 0, .int 0, .int 0, .int 0, .int 0, .ref (v 10), .ref (v 11), .ref (v 12), .ref (v 13), .int 0, .ref (v 14), .ref (v 15), .ref (v 16), .ref (v 17), .ref (v 18), .int 0, .int 0, .int 0, .ref (v 19), .ref (v 20), .ref (v 21), .ref (v 22), .ref (v 23), .int 0, .int 0, .int 0, .int 0])), ((v 5), .inl (cy 0, 5, .inl (fun _ => 0)))] [0, 1]) (wr := []) rfl rfl (by decide) (k_runV 13 0 (As := [.int p0]) (rest := [.ref (v 0)]) E lk_VRX12_203 rfl rfl rfl (m_isBody l hl0 D cy sa v p0 H.size) (⟨hP, hD, hG, hS, hA, rfl, rfl⟩ : kAt D cy sa A s H _ _ [((v 0), .inr (13, [.int 0, .int 0, .int 0, .int (-1), .int 0, .int 0, .int 0, .int 0, .ref (v 1), .ref (v 2), .ref (v 3), .ref (v 4), .ref (v 5), .ref (v 6), .ref (v 7), .ref (v 8), .ref (v 9), .int 0, .int 0, .int 0, .int 0, .int 0, .int 0, .int 0, .int 0, .int 0, .ref (v 10), .ref (v 11), .ref (v 12), .ref (v 13), .int 0, .ref (v 14), .ref (v 15), .ref (v 16), .ref (v 17), .ref (v 18), .int 0, .int 0, .int 0, .ref (v 19), .ref (v 20), .ref (v 21), .ref (v 22), .ref (v 23), .int 0, .int 0, .int 0, .int 0])), ((v 5), .inl (cy 0, 5, .inl (fun _ => 0)))] [0, 1]) hl.1 rfl rfl ⟨rfl, rfl, ⟨Nat.le_of_ble_eq_true rfl, Nat.le_of_ble_eq_true rfl⟩, ⟨Nat.le_of_ble_eq_true rfl, Nat.le_of_ble_eq_true rfl⟩, Nat.le_of_ble_eq_true rfl⟩ dX12_trust_8) (fun r1 u2 H locs hwu2 hP hD hS => ?_)
  have hP : va_P D vwCl [((v 0), .inr (13, [.int 0, .int 0, .int 0, .int (-1), .int 0, .int 0, .int 0, .int 0, .ref (v 1), .ref (v 2), .ref (v 3), .ref (v 4), .ref (v 5), .ref (v 6), .ref (v 7), .ref (v 8), .ref (v 9), .int 0, .int 0, .int 0, .int 0, .int 0, .int 0, .int 0, .int 0, .int 0, .ref (v 10), .ref (v 11), .ref (v 12), .ref (v 13), .int 0, .ref (v 14), .ref (v 15), .ref (v 16), .ref (v 17), .ref (v 18), .int 0, .int 0, .int 0, .ref (v 19), .ref (v 20), .ref (v 21), .ref (v 22), .ref (v 23), .int 0, .int 0, .int 0, .int 0])), ((v 5), .inl (cy 0, 5, .inl (fun _ => 0)))] H := hP
  have hD : va_D A [((v 0), .inr (13, [.int 0, .int 0, .int 0, .int (-1), .int 0, .int 0, .int 0, .int 0, .ref (v 1), .ref (v 2), .ref (v 3), .ref (v 4), .ref (v 5), .ref (v 6), .ref (v 7), .ref (v 8), .ref (v 9), .int 0, .int 0, .int 0, .int 0, .int 0, .int 0, .int 0, .int 0, .int 0, .ref (v 10), .ref (v 11), .ref (v 12), .ref (v 13), .int 0, .ref (v 14), .ref (v 15), .ref (v 16), .ref (v 17), .ref (v 18), .int 0, .int 0, .int 0, .ref (v 19), .ref (v 20), .ref (v 21), .ref (v 22), .ref (v 23), .int 0, .int 0, .int 0, .int 0])), ((v 5), .inl (cy 0, 5, .inl (fun _ => 0)))] := hD
  obtain rfl : r1 = 0 := hwu2
  refine lv_if_ne (tgt := 18) hx hb dX12_trust_11 (by decide) (fun h => absurd (by decide) h) (fun _ => ?_)
  refine lv_iconst (v := 1) hx hb dX12_trust_14 (by decide) ?_
  refine lv_goto (tgt := 19) hx hb dX12_trust_15 (by decide) ?_
  refine lv_iconst (v := 1) hx hb dX12_trust_19 (by decide) ?_
  refine k_cali [1] (⟨hP, hD, hG, hS, hA, rfl, rfl⟩ : kAt D cy sa A s H _ _ [((v 0), .inr (13, [.int 0, .int 0, .int 0, .int (-1), .int 0, .int 0, .int 0, .int 0, .ref (v 1), .ref (v 2), .ref (v 3), .ref (v 4), .ref (v 5), .ref (v 6), .ref (v 7), .ref (v 8), .ref (v 9), .int 0, .int 0, .int 0, .int 0, .int 0, .int 0, .int 0, .int 0, .int 0, .ref (v 10), .ref (v 11), .ref (v 12), .ref (v 13), .int 0, .ref (v 14), .ref (v 15), .ref (v 16), .ref (v 17), .ref (v 18), .int 0, .int 0, .int 0, .ref (v 19), .ref (v 20), .ref (v 21), .ref (v 22), .ref (v 23), .int 0, .int 0, .int 0, .int 0]))] [0]) (wr := [((v 5), .inl (cy 0, 5, .inl (fun _ => 0)))]) rfl rfl (by decide) (k_runV 13 0 (As := [.int 1, .int 1]) (rest := []) E lk_VRX12_169 rfl rfl rfl (m_bad1 l hl0 D cy sa v H.size) (⟨hP, hD, hG, hS, hA, rfl, rfl⟩ : kAt D cy sa A s H _ _ [((v 0), .inr (13, [.int 0, .int 0, .int 0, .int (-1), .int 0, .int 0, .int 0, .int 0, .ref (v 1), .ref (v 2), .ref (v 3), .ref (v 4), .ref (v 5), .ref (v 6), .ref (v 7), .ref (v 8), .ref (v 9), .int 0, .int 0, .int 0, .int 0, .int 0, .int 0, .int 0, .int 0, .int 0, .ref (v 10), .ref (v 11), .ref (v 12), .ref (v 13), .int 0, .ref (v 14), .ref (v 15), .ref (v 16), .ref (v 17), .ref (v 18), .int 0, .int 0, .int 0, .ref (v 19), .ref (v 20), .ref (v 21), .ref (v 22), .ref (v 23), .int 0, .int 0, .int 0, .int 0]))] [0]) hl.1 rfl rfl ⟨rfl, rfl, ⟨Nat.le_of_ble_eq_true rfl, Nat.le_of_ble_eq_true rfl⟩, ⟨Nat.le_of_ble_eq_true rfl, Nat.le_of_ble_eq_true rfl⟩, Nat.le_of_ble_eq_true rfl⟩ dX12_trust_20) (fun r3 u4 H locs hwu4 hP hD hS => ?_)
  have hP : va_P D vwCl [((v 5), .inl (cy 0, 5, .inl (fun _ => 0))), ((v 0), .inr (13, [.int 1, .int 0, .int 0, .int (-1), .int 0, .int 0, .int 0, .int 0, .ref (v 1), .ref (v 2), .ref (v 3), .ref (v 4), .ref (v 5), .ref (v 6), .ref (v 7), .ref (v 8), .ref (v 9), .int 0, .int 0, .int 0, .int 0, .int 0, .int 0, .int 0, .int 0, .int 0, .ref (v 10), .ref (v 11), .ref (v 12), .ref (v 13), .int 0, .ref (v 14), .ref (v 15), .ref (v 16), .ref (v 17), .ref (v 18), .int 0, .int 0, .int 0, .ref (v 19), .ref (v 20), .ref (v 21), .ref (v 22), .ref (v 23), .int 0, .int 0, .int 0, .int 0]))] H := hP
  have hD : va_D A [((v 5), .inl (cy 0, 5, .inl (fun _ => 0))), ((v 0), .inr (13, [.int 1, .int 0, .int 0, .int (-1), .int 0, .int 0, .int 0, .int 0, .ref (v 1), .ref (v 2), .ref (v 3), .ref (v 4), .ref (v 5), .ref (v 6), .ref (v 7), .ref (v 8), .ref (v 9), .int 0, .int 0, .int 0, .int 0, .int 0, .int 0, .int 0, .int 0, .int 0, .ref (v 10), .ref (v 11), .ref (v 12), .ref (v 13), .int 0, .ref (v 14), .ref (v 15), .ref (v 16), .ref (v 17), .ref (v 18), .int 0, .int 0, .int 0, .ref (v 19), .ref (v 20), .ref (v 21), .ref (v 22), .ref (v 23), .int 0, .int 0, .int 0, .int 0]))] := hD
  obtain rfl : r3 = 1 := hwu4
  refine lv_if_ne (tgt := 49) hx hb dX12_trust_23 (by decide) (fun _ => ?_) (fun h => absurd h (by decide))
  refine lv_iconst (v := 0) hx hb dX12_trust_49 (by decide) ?_
  exact k_iret (1, [.int 0, .int 0, .int (-1), .int 0, .int 0, .int 0, .int 0, .ref (v 1), .ref (v 2), .ref (v 3), .ref (v 4), .ref (v 5), .ref (v 6), .ref (v 7), .ref (v 8), .ref (v 9), .int 0, .int 0, .int 0, .int 0, .int 0, .int 0, .int 0, .int 0, .int 0, .ref (v 10), .ref (v 11), .ref (v 12), .ref (v 13), .int 0, .ref (v 14), .ref (v 15), .ref (v 16), .ref (v 17), .ref (v 18), .int 0, .int 0, .int 0, .ref (v 19), .ref (v 20), .ref (v 21), .ref (v 22), .ref (v 23), .int 0, .int 0, .int 0, .int 0]) hx hb hr hlk (by refine ⟨fun h => ?_, fun h => ?_⟩ <;> first | exact False.elim h | exact ⟨rfl, rfl⟩ | rfl | exact absurd trivial h | (exfalso; simp only [k_lt, k_le, k_eq, k_L0, k_L1, k_L2, k_L3, k_L4, k_L5, k_L6, k_L7, k_L8, k_L9, k_L10, k_L15, k_L20, k_L30, k_L31, k_L40, k_L41, k_L60, k_L61, k_L99, k_L120, k_L239, k_L240, k_L479, k_L480, k_L500, k_L720, k_L999, k_L1000, k_L9999, k_Lm1] at h; omega) | (refine ⟨rfl, ?_⟩; rfl)) (hP.sub [1] rfl) (hD.sub [1] (by decide) rfl) hS (by decide) (by decide) dX12_trust_50

set_option maxHeartbeats 4000000 in
set_option maxRecDepth 100000 in
/-- the reference: answer -/
theorem m_answer_ (l : Launch) (hl0 : l.stackTraces = false) (D : va_G) (cy : Nat → ClassId) (sa : Nat → Nat) (v : Nat → Nat) (p0 p1 p2 p3 : Int32) (sz : Nat) : Met l yX12_answer (Cond.code yX12_answer cX12_answer 5 (some .boolean) :: kWS) ({ frames := 13, cells := 0, slots := 0, locals := 480 }) (kPre D cy sa [.ref (v 0), .int p0, .int p1, .int p2, .int p3] [((v 0), .inr (13, [.int 0, .int 0, .int 0, .int (-1), .int 0, .int 0, .int 0, .int 0, .ref (v 1), .ref (v 2), .ref (v 3), .ref (v 4), .ref (v 5), .ref (v 6), .ref (v 7), .ref (v 8), .ref (v 9), .int 0, .int 0, .int 0, .int 0, .int 0, .int 0, .int 0, .int 0, .int 0, .ref (v 10), .ref (v 11), .ref (v 12), .ref (v 13), .int 0, .ref (v 14), .ref (v 15), .ref (v 16), .ref (v 17), .ref (v 18), .int 0, .int 0, .int 0, .ref (v 19), .ref (v 20), .ref (v 21), .ref (v 22), .ref (v 23), .int 0, .int 0, .int 0, .int 0])), ((v 5), .inl (cy 0, 5, .inl (fun _ => 0)))] sz) (va_Qi (fun (r : Int32) (x : Int32 × List Value) => ((False) → x.1 = 0 ∧ False) ∧ (¬ (False) → x.1 = 1)) (kB D (va_A [((v 0), .inr (13, [.int 0, .int 0, .int 0, .int (-1), .int 0, .int 0, .int 0, .int 0, .ref (v 1), .ref (v 2), .ref (v 3), .ref (v 4), .ref (v 5), .ref (v 6), .ref (v 7), .ref (v 8), .ref (v 9), .int 0, .int 0, .int 0, .int 0, .int 0, .int 0, .int 0, .int 0, .int 0, .ref (v 10), .ref (v 11), .ref (v 12), .ref (v 13), .int 0, .ref (v 14), .ref (v 15), .ref (v 16), .ref (v 17), .ref (v 18), .int 0, .int 0, .int 0, .ref (v 19), .ref (v 20), .ref (v 21), .ref (v 22), .ref (v 23), .int 0, .int 0, .int 0, .int 0])), ((v 5), .inl (cy 0, 5, .inl (fun _ => 0)))] sz) (fun x => [((v 0), .inr (13, .int x.1 :: x.2))])) (va_A [((v 0), .inr (13, [.int 0, .int 0, .int 0, .int (-1), .int 0, .int 0, .int 0, .int 0, .ref (v 1), .ref (v 2), .ref (v 3), .ref (v 4), .ref (v 5), .ref (v 6), .ref (v 7), .ref (v 8), .ref (v 9), .int 0, .int 0, .int 0, .int 0, .int 0, .int 0, .int 0, .int 0, .int 0, .ref (v 10), .ref (v 11), .ref (v 12), .ref (v 13), .int 0, .ref (v 14), .ref (v 15), .ref (v 16), .ref (v 17), .ref (v 18), .int 0, .int 0, .int 0, .ref (v 19), .ref (v 20), .ref (v 21), .ref (v 22), .ref (v 23), .int 0, .int 0, .int 0, .int 0])), ((v 5), .inl (cy 0, 5, .inl (fun _ => 0)))] sz)) 0 0 (va_A [((v 0), .inr (13, [.int 0, .int 0, .int 0, .int (-1), .int 0, .int 0, .int 0, .int 0, .ref (v 1), .ref (v 2), .ref (v 3), .ref (v 4), .ref (v 5), .ref (v 6), .ref (v 7), .ref (v 8), .ref (v 9), .int 0, .int 0, .int 0, .int 0, .int 0, .int 0, .int 0, .int 0, .int 0, .ref (v 10), .ref (v 11), .ref (v 12), .ref (v 13), .int 0, .ref (v 14), .ref (v 15), .ref (v 16), .ref (v 17), .ref (v 18), .int 0, .int 0, .int 0, .ref (v 19), .ref (v 20), .ref (v 21), .ref (v 22), .ref (v 23), .int 0, .int 0, .int 0, .int 0])), ((v 5), .inl (cy 0, 5, .inl (fun _ => 0)))] sz) := by
  refine k_ofW (y := yX12_answer) (cc := cX12_answer) (maxL := 5) (ret := (some .boolean)) (av := [.ref (v 0), .int p0, .int p1, .int p2, .int p3]) (ws := [((v 0), .inr (13, [.int 0, .int 0, .int 0, .int (-1), .int 0, .int 0, .int 0, .int 0, .ref (v 1), .ref (v 2), .ref (v 3), .ref (v 4), .ref (v 5), .ref (v 6), .ref (v 7), .ref (v 8), .ref (v 9), .int 0, .int 0, .int 0, .int 0, .int 0, .int 0, .int 0, .int 0, .int 0, .ref (v 10), .ref (v 11), .ref (v 12), .ref (v 13), .int 0, .ref (v 14), .ref (v 15), .ref (v 16), .ref (v 17), .ref (v 18), .int 0, .int 0, .int 0, .ref (v 19), .ref (v 20), .ref (v 21), .ref (v 22), .ref (v 23), .int 0, .int 0, .int 0, .int 0])), ((v 5), .inl (cy 0, 5, .inl (fun _ => 0)))]) (Qc := fun A => va_Qi (fun (r : Int32) (x : Int32 × List Value) => ((False) → x.1 = 0 ∧ False) ∧ (¬ (False) → x.1 = 1)) (kB D A (fun x => [((v 0), .inr (13, .int x.1 :: x.2))])) A) (by decide) (Nat.le_of_ble_eq_true rfl) ?_
  intro p e s m below meth c ls A E hA hP hD hG hS hl
  obtain ⟨hx, hb, hml, hown, hts, hr, hlk, hnm⟩ := id E
  have hown : s.vm.findClass RX12 = some m.cls := hown
  have hl : lv_has ls 5 [(0, .ref (v 0)), (1, .int p0), (2, .int p1), (3, .int p2), (4, .int p3)] := hl
  obtain ⟨H, hH⟩ : ∃ H, H = s.heap := ⟨_, rfl⟩
  have hP : va_P D vwCl [((v 0), .inr (13, [.int 0, .int 0, .int 0, .int (-1), .int 0, .int 0, .int 0, .int 0, .ref (v 1), .ref (v 2), .ref (v 3), .ref (v 4), .ref (v 5), .ref (v 6), .ref (v 7), .ref (v 8), .ref (v 9), .int 0, .int 0, .int 0, .int 0, .int 0, .int 0, .int 0, .int 0, .int 0, .ref (v 10), .ref (v 11), .ref (v 12), .ref (v 13), .int 0, .ref (v 14), .ref (v 15), .ref (v 16), .ref (v 17), .ref (v 18), .int 0, .int 0, .int 0, .ref (v 19), .ref (v 20), .ref (v 21), .ref (v 22), .ref (v 23), .int 0, .int 0, .int 0, .int 0])), ((v 5), .inl (cy 0, 5, .inl (fun _ => 0)))] H := by rw [hH]; exact hP
  have hS : va_S A s.heap H [] := by rw [hH]; exact va_S.rf
  rw [← hH]
  clear hH
  refine lv_aload_n hx hb dX12_answer_0 rfl (lv_at hl 0 rfl) ?_
  refine lv_iconst (v := 0) hx hb dX12_answer_1 (by decide) ?_
  refine va_put (D := D) (ci := 13) (v := .int 0) (ty := .int) (C := RX12) (T := TX12) (N := 48) hx hb hts kin_RX12 tyX12 tyX12_ok nmX12 hown hG.1 hP hD hS 0 rfl rfl 0 (by decide) (hts _ wm_1519) (fun _ h9 => h9) rfl (by decide +kernel) rfl rfl (Nat.le_of_ble_eq_true rfl) dX12_answer_2 (fun H locs hP hD hS => ?_)
  have hP : va_P D vwCl [((v 0), .inr (13, [.int 0, .int 0, .int 0, .int (-1), .int 0, .int 0, .int 0, .int 0, .ref (v 1), .ref (v 2), .ref (v 3), .ref (v 4), .ref (v 5), .ref (v 6), .ref (v 7), .ref (v 8), .ref (v 9), .int 0, .int 0, .int 0, .int 0, .int 0, .int 0, .int 0, .int 0, .int 0, .ref (v 10), .ref (v 11), .ref (v 12), .ref (v 13), .int 0, .ref (v 14), .ref (v 15), .ref (v 16), .ref (v 17), .ref (v 18), .int 0, .int 0, .int 0, .ref (v 19), .ref (v 20), .ref (v 21), .ref (v 22), .ref (v 23), .int 0, .int 0, .int 0, .int 0])), ((v 5), .inl (cy 0, 5, .inl (fun _ => 0)))] H := hP
  have hD : va_D A [((v 0), .inr (13, [.int 0, .int 0, .int 0, .int (-1), .int 0, .int 0, .int 0, .int 0, .ref (v 1), .ref (v 2), .ref (v 3), .ref (v 4), .ref (v 5), .ref (v 6), .ref (v 7), .ref (v 8), .ref (v 9), .int 0, .int 0, .int 0, .int 0, .int 0, .int 0, .int 0, .int 0, .int 0, .ref (v 10), .ref (v 11), .ref (v 12), .ref (v 13), .int 0, .ref (v 14), .ref (v 15), .ref (v 16), .ref (v 17), .ref (v 18), .int 0, .int 0, .int 0, .ref (v 19), .ref (v 20), .ref (v 21), .ref (v 22), .ref (v 23), .int 0, .int 0, .int 0, .int 0])), ((v 5), .inl (cy 0, 5, .inl (fun _ => 0)))] := hD
  refine lv_aload_n hx hb dX12_answer_5 rfl (lv_at hl 0 rfl) ?_
  refine lv_aload_n hx hb dX12_answer_6 rfl (lv_at hl 0 rfl) ?_
  refine lv_iload_n hx hb dX12_answer_7 rfl (lv_at hl 1 rfl) ?_
  refine k_cali [] (⟨hP, hD, hG, hS, hA, rfl, rfl⟩ : kAt D cy sa A s H _ _ [((v 0), .inr (13, [.int 0, .int 0, .int 0, .int (-1), .int 0, .int 0, .int 0, .int 0, .ref (v 1), .ref (v 2), .ref (v 3), .ref (v 4), .ref (v 5), .ref (v 6), .ref (v 7), .ref (v 8), .ref (v 9), .int 0, .int 0, .int 0, .int 0, .int 0, .int 0, .int 0, .int 0, .int 0, .ref (v 10), .ref (v 11), .ref (v 12), .ref (v 13), .int 0, .ref (v 14), .ref (v 15), .ref (v 16), .ref (v 17), .ref (v 18), .int 0, .int 0, .int 0, .ref (v 19), .ref (v 20), .ref (v 21), .ref (v 22), .ref (v 23), .int 0, .int 0, .int 0, .int 0])), ((v 5), .inl (cy 0, 5, .inl (fun _ => 0)))] [0, 1]) (wr := []) rfl rfl (by decide) (k_runV 13 0 (As := [.int p0]) (rest := [.ref (v 0)]) E lk_VRX12_203 rfl rfl rfl (m_isBody l hl0 D cy sa v p0 H.size) (⟨hP, hD, hG, hS, hA, rfl, rfl⟩ : kAt D cy sa A s H _ _ [((v 0), .inr (13, [.int 0, .int 0, .int 0, .int (-1), .int 0, .int 0, .int 0, .int 0, .ref (v 1), .ref (v 2), .ref (v 3), .ref (v 4), .ref (v 5), .ref (v 6), .ref (v 7), .ref (v 8), .ref (v 9), .int 0, .int 0, .int 0, .int 0, .int 0, .int 0, .int 0, .int 0, .int 0, .ref (v 10), .ref (v 11), .ref (v 12), .ref (v 13), .int 0, .ref (v 14), .ref (v 15), .ref (v 16), .ref (v 17), .ref (v 18), .int 0, .int 0, .int 0, .ref (v 19), .ref (v 20), .ref (v 21), .ref (v 22), .ref (v 23), .int 0, .int 0, .int 0, .int 0])), ((v 5), .inl (cy 0, 5, .inl (fun _ => 0)))] [0, 1]) hl.1 rfl rfl ⟨rfl, rfl, ⟨Nat.le_of_ble_eq_true rfl, Nat.le_of_ble_eq_true rfl⟩, ⟨Nat.le_of_ble_eq_true rfl, Nat.le_of_ble_eq_true rfl⟩, Nat.le_of_ble_eq_true rfl⟩ dX12_answer_8) (fun r1 u2 H locs hwu2 hP hD hS => ?_)
  have hP : va_P D vwCl [((v 0), .inr (13, [.int 0, .int 0, .int 0, .int (-1), .int 0, .int 0, .int 0, .int 0, .ref (v 1), .ref (v 2), .ref (v 3), .ref (v 4), .ref (v 5), .ref (v 6), .ref (v 7), .ref (v 8), .ref (v 9), .int 0, .int 0, .int 0, .int 0, .int 0, .int 0, .int 0, .int 0, .int 0, .ref (v 10), .ref (v 11), .ref (v 12), .ref (v 13), .int 0, .ref (v 14), .ref (v 15), .ref (v 16), .ref (v 17), .ref (v 18), .int 0, .int 0, .int 0, .ref (v 19), .ref (v 20), .ref (v 21), .ref (v 22), .ref (v 23), .int 0, .int 0, .int 0, .int 0])), ((v 5), .inl (cy 0, 5, .inl (fun _ => 0)))] H := hP
  have hD : va_D A [((v 0), .inr (13, [.int 0, .int 0, .int 0, .int (-1), .int 0, .int 0, .int 0, .int 0, .ref (v 1), .ref (v 2), .ref (v 3), .ref (v 4), .ref (v 5), .ref (v 6), .ref (v 7), .ref (v 8), .ref (v 9), .int 0, .int 0, .int 0, .int 0, .int 0, .int 0, .int 0, .int 0, .int 0, .ref (v 10), .ref (v 11), .ref (v 12), .ref (v 13), .int 0, .ref (v 14), .ref (v 15), .ref (v 16), .ref (v 17), .ref (v 18), .int 0, .int 0, .int 0, .ref (v 19), .ref (v 20), .ref (v 21), .ref (v 22), .ref (v 23), .int 0, .int 0, .int 0, .int 0])), ((v 5), .inl (cy 0, 5, .inl (fun _ => 0)))] := hD
  obtain rfl : r1 = 0 := hwu2
  refine lv_if_ne (tgt := 18) hx hb dX12_answer_11 (by decide) (fun h => absurd (by decide) h) (fun _ => ?_)
  refine lv_iconst (v := 1) hx hb dX12_answer_14 (by decide) ?_
  refine lv_goto (tgt := 19) hx hb dX12_answer_15 (by decide) ?_
  refine lv_iconst (v := 1) hx hb dX12_answer_19 (by decide) ?_
  refine k_cali [1] (⟨hP, hD, hG, hS, hA, rfl, rfl⟩ : kAt D cy sa A s H _ _ [((v 0), .inr (13, [.int 0, .int 0, .int 0, .int (-1), .int 0, .int 0, .int 0, .int 0, .ref (v 1), .ref (v 2), .ref (v 3), .ref (v 4), .ref (v 5), .ref (v 6), .ref (v 7), .ref (v 8), .ref (v 9), .int 0, .int 0, .int 0, .int 0, .int 0, .int 0, .int 0, .int 0, .int 0, .ref (v 10), .ref (v 11), .ref (v 12), .ref (v 13), .int 0, .ref (v 14), .ref (v 15), .ref (v 16), .ref (v 17), .ref (v 18), .int 0, .int 0, .int 0, .ref (v 19), .ref (v 20), .ref (v 21), .ref (v 22), .ref (v 23), .int 0, .int 0, .int 0, .int 0]))] [0]) (wr := [((v 5), .inl (cy 0, 5, .inl (fun _ => 0)))]) rfl rfl (by decide) (k_runV 13 0 (As := [.int 1, .int 1]) (rest := []) E lk_VRX12_169 rfl rfl rfl (m_bad1 l hl0 D cy sa v H.size) (⟨hP, hD, hG, hS, hA, rfl, rfl⟩ : kAt D cy sa A s H _ _ [((v 0), .inr (13, [.int 0, .int 0, .int 0, .int (-1), .int 0, .int 0, .int 0, .int 0, .ref (v 1), .ref (v 2), .ref (v 3), .ref (v 4), .ref (v 5), .ref (v 6), .ref (v 7), .ref (v 8), .ref (v 9), .int 0, .int 0, .int 0, .int 0, .int 0, .int 0, .int 0, .int 0, .int 0, .ref (v 10), .ref (v 11), .ref (v 12), .ref (v 13), .int 0, .ref (v 14), .ref (v 15), .ref (v 16), .ref (v 17), .ref (v 18), .int 0, .int 0, .int 0, .ref (v 19), .ref (v 20), .ref (v 21), .ref (v 22), .ref (v 23), .int 0, .int 0, .int 0, .int 0]))] [0]) hl.1 rfl rfl ⟨rfl, rfl, ⟨Nat.le_of_ble_eq_true rfl, Nat.le_of_ble_eq_true rfl⟩, ⟨Nat.le_of_ble_eq_true rfl, Nat.le_of_ble_eq_true rfl⟩, Nat.le_of_ble_eq_true rfl⟩ dX12_answer_20) (fun r3 u4 H locs hwu4 hP hD hS => ?_)
  have hP : va_P D vwCl [((v 5), .inl (cy 0, 5, .inl (fun _ => 0))), ((v 0), .inr (13, [.int 1, .int 0, .int 0, .int (-1), .int 0, .int 0, .int 0, .int 0, .ref (v 1), .ref (v 2), .ref (v 3), .ref (v 4), .ref (v 5), .ref (v 6), .ref (v 7), .ref (v 8), .ref (v 9), .int 0, .int 0, .int 0, .int 0, .int 0, .int 0, .int 0, .int 0, .int 0, .ref (v 10), .ref (v 11), .ref (v 12), .ref (v 13), .int 0, .ref (v 14), .ref (v 15), .ref (v 16), .ref (v 17), .ref (v 18), .int 0, .int 0, .int 0, .ref (v 19), .ref (v 20), .ref (v 21), .ref (v 22), .ref (v 23), .int 0, .int 0, .int 0, .int 0]))] H := hP
  have hD : va_D A [((v 5), .inl (cy 0, 5, .inl (fun _ => 0))), ((v 0), .inr (13, [.int 1, .int 0, .int 0, .int (-1), .int 0, .int 0, .int 0, .int 0, .ref (v 1), .ref (v 2), .ref (v 3), .ref (v 4), .ref (v 5), .ref (v 6), .ref (v 7), .ref (v 8), .ref (v 9), .int 0, .int 0, .int 0, .int 0, .int 0, .int 0, .int 0, .int 0, .int 0, .ref (v 10), .ref (v 11), .ref (v 12), .ref (v 13), .int 0, .ref (v 14), .ref (v 15), .ref (v 16), .ref (v 17), .ref (v 18), .int 0, .int 0, .int 0, .ref (v 19), .ref (v 20), .ref (v 21), .ref (v 22), .ref (v 23), .int 0, .int 0, .int 0, .int 0]))] := hD
  obtain rfl : r3 = 1 := hwu4
  refine lv_if_ne (tgt := 71) hx hb dX12_answer_23 (by decide) (fun _ => ?_) (fun h => absurd h (by decide))
  refine lv_iconst (v := 0) hx hb dX12_answer_71 (by decide) ?_
  exact k_zret (1, [.int 0, .int 0, .int (-1), .int 0, .int 0, .int 0, .int 0, .ref (v 1), .ref (v 2), .ref (v 3), .ref (v 4), .ref (v 5), .ref (v 6), .ref (v 7), .ref (v 8), .ref (v 9), .int 0, .int 0, .int 0, .int 0, .int 0, .int 0, .int 0, .int 0, .int 0, .ref (v 10), .ref (v 11), .ref (v 12), .ref (v 13), .int 0, .ref (v 14), .ref (v 15), .ref (v 16), .ref (v 17), .ref (v 18), .int 0, .int 0, .int 0, .ref (v 19), .ref (v 20), .ref (v 21), .ref (v 22), .ref (v 23), .int 0, .int 0, .int 0, .int 0]) hx hb hr hlk (k_nz (by decide)) (by refine ⟨fun h => ?_, fun h => ?_⟩ <;> first | exact False.elim h | exact ⟨rfl, rfl⟩ | rfl | exact absurd trivial h | (exfalso; simp only [k_lt, k_le, k_eq, k_L0, k_L1, k_L2, k_L3, k_L4, k_L5, k_L6, k_L7, k_L8, k_L9, k_L10, k_L15, k_L20, k_L30, k_L31, k_L40, k_L41, k_L60, k_L61, k_L99, k_L120, k_L239, k_L240, k_L479, k_L480, k_L500, k_L720, k_L999, k_L1000, k_L9999, k_Lm1] at h; omega) | (refine ⟨rfl, ?_⟩; rfl)) (hP.sub [1] rfl) (hD.sub [1] (by decide) rfl) hS (by decide) (by decide) dX12_answer_72

set_option maxHeartbeats 4000000 in
set_option maxRecDepth 100000 in
/-- the reference: stay -/
theorem m_stay_ (l : Launch) (hl0 : l.stackTraces = false) (D : va_G) (cy : Nat → ClassId) (sa : Nat → Nat) (v : Nat → Nat) (p0 : Int32) (sz : Nat) : Met l yX12_stay (Cond.code yX12_stay cX12_stay 2 (some .int) :: kWS) ({ frames := 13, cells := 0, slots := 0, locals := 480 }) (kPre D cy sa [.ref (v 0), .int p0] [((v 0), .inr (13, [.int 0, .int 0, .int 0, .int (-1), .int 0, .int 0, .int 0, .int 0, .ref (v 1), .ref (v 2), .ref (v 3), .ref (v 4), .ref (v 5), .ref (v 6), .ref (v 7), .ref (v 8), .ref (v 9), .int 0, .int 0, .int 0, .int 0, .int 0, .int 0, .int 0, .int 0, .int 0, .ref (v 10), .ref (v 11), .ref (v 12), .ref (v 13), .int 0, .ref (v 14), .ref (v 15), .ref (v 16), .ref (v 17), .ref (v 18), .int 0, .int 0, .int 0, .ref (v 19), .ref (v 20), .ref (v 21), .ref (v 22), .ref (v 23), .int 0, .int 0, .int 0, .int 0])), ((v 5), .inl (cy 0, 5, .inl (fun _ => 0)))] sz) (va_Qi (fun (r : Int32) (x : Int32 × List Value) => ((False) → x.1 = 0 ∧ False) ∧ (¬ (False) → x.1 = 1)) (kB D (va_A [((v 0), .inr (13, [.int 0, .int 0, .int 0, .int (-1), .int 0, .int 0, .int 0, .int 0, .ref (v 1), .ref (v 2), .ref (v 3), .ref (v 4), .ref (v 5), .ref (v 6), .ref (v 7), .ref (v 8), .ref (v 9), .int 0, .int 0, .int 0, .int 0, .int 0, .int 0, .int 0, .int 0, .int 0, .ref (v 10), .ref (v 11), .ref (v 12), .ref (v 13), .int 0, .ref (v 14), .ref (v 15), .ref (v 16), .ref (v 17), .ref (v 18), .int 0, .int 0, .int 0, .ref (v 19), .ref (v 20), .ref (v 21), .ref (v 22), .ref (v 23), .int 0, .int 0, .int 0, .int 0])), ((v 5), .inl (cy 0, 5, .inl (fun _ => 0)))] sz) (fun x => [((v 0), .inr (13, .int x.1 :: x.2))])) (va_A [((v 0), .inr (13, [.int 0, .int 0, .int 0, .int (-1), .int 0, .int 0, .int 0, .int 0, .ref (v 1), .ref (v 2), .ref (v 3), .ref (v 4), .ref (v 5), .ref (v 6), .ref (v 7), .ref (v 8), .ref (v 9), .int 0, .int 0, .int 0, .int 0, .int 0, .int 0, .int 0, .int 0, .int 0, .ref (v 10), .ref (v 11), .ref (v 12), .ref (v 13), .int 0, .ref (v 14), .ref (v 15), .ref (v 16), .ref (v 17), .ref (v 18), .int 0, .int 0, .int 0, .ref (v 19), .ref (v 20), .ref (v 21), .ref (v 22), .ref (v 23), .int 0, .int 0, .int 0, .int 0])), ((v 5), .inl (cy 0, 5, .inl (fun _ => 0)))] sz)) 0 0 (va_A [((v 0), .inr (13, [.int 0, .int 0, .int 0, .int (-1), .int 0, .int 0, .int 0, .int 0, .ref (v 1), .ref (v 2), .ref (v 3), .ref (v 4), .ref (v 5), .ref (v 6), .ref (v 7), .ref (v 8), .ref (v 9), .int 0, .int 0, .int 0, .int 0, .int 0, .int 0, .int 0, .int 0, .int 0, .ref (v 10), .ref (v 11), .ref (v 12), .ref (v 13), .int 0, .ref (v 14), .ref (v 15), .ref (v 16), .ref (v 17), .ref (v 18), .int 0, .int 0, .int 0, .ref (v 19), .ref (v 20), .ref (v 21), .ref (v 22), .ref (v 23), .int 0, .int 0, .int 0, .int 0])), ((v 5), .inl (cy 0, 5, .inl (fun _ => 0)))] sz) := by
  refine k_ofW (y := yX12_stay) (cc := cX12_stay) (maxL := 2) (ret := (some .int)) (av := [.ref (v 0), .int p0]) (ws := [((v 0), .inr (13, [.int 0, .int 0, .int 0, .int (-1), .int 0, .int 0, .int 0, .int 0, .ref (v 1), .ref (v 2), .ref (v 3), .ref (v 4), .ref (v 5), .ref (v 6), .ref (v 7), .ref (v 8), .ref (v 9), .int 0, .int 0, .int 0, .int 0, .int 0, .int 0, .int 0, .int 0, .int 0, .ref (v 10), .ref (v 11), .ref (v 12), .ref (v 13), .int 0, .ref (v 14), .ref (v 15), .ref (v 16), .ref (v 17), .ref (v 18), .int 0, .int 0, .int 0, .ref (v 19), .ref (v 20), .ref (v 21), .ref (v 22), .ref (v 23), .int 0, .int 0, .int 0, .int 0])), ((v 5), .inl (cy 0, 5, .inl (fun _ => 0)))]) (Qc := fun A => va_Qi (fun (r : Int32) (x : Int32 × List Value) => ((False) → x.1 = 0 ∧ False) ∧ (¬ (False) → x.1 = 1)) (kB D A (fun x => [((v 0), .inr (13, .int x.1 :: x.2))])) A) (by decide) (Nat.le_of_ble_eq_true rfl) ?_
  intro p e s m below meth c ls A E hA hP hD hG hS hl
  obtain ⟨hx, hb, hml, hown, hts, hr, hlk, hnm⟩ := id E
  have hown : s.vm.findClass RX12 = some m.cls := hown
  have hl : lv_has ls 2 [(0, .ref (v 0)), (1, .int p0)] := hl
  obtain ⟨H, hH⟩ : ∃ H, H = s.heap := ⟨_, rfl⟩
  have hP : va_P D vwCl [((v 0), .inr (13, [.int 0, .int 0, .int 0, .int (-1), .int 0, .int 0, .int 0, .int 0, .ref (v 1), .ref (v 2), .ref (v 3), .ref (v 4), .ref (v 5), .ref (v 6), .ref (v 7), .ref (v 8), .ref (v 9), .int 0, .int 0, .int 0, .int 0, .int 0, .int 0, .int 0, .int 0, .int 0, .ref (v 10), .ref (v 11), .ref (v 12), .ref (v 13), .int 0, .ref (v 14), .ref (v 15), .ref (v 16), .ref (v 17), .ref (v 18), .int 0, .int 0, .int 0, .ref (v 19), .ref (v 20), .ref (v 21), .ref (v 22), .ref (v 23), .int 0, .int 0, .int 0, .int 0])), ((v 5), .inl (cy 0, 5, .inl (fun _ => 0)))] H := by rw [hH]; exact hP
  have hS : va_S A s.heap H [] := by rw [hH]; exact va_S.rf
  rw [← hH]
  clear hH
  refine lv_aload_n hx hb dX12_stay_0 rfl (lv_at hl 0 rfl) ?_
  refine lv_iconst (v := 0) hx hb dX12_stay_1 (by decide) ?_
  refine va_put (D := D) (ci := 13) (v := .int 0) (ty := .int) (C := RX12) (T := TX12) (N := 48) hx hb hts kin_RX12 tyX12 tyX12_ok nmX12 hown hG.1 hP hD hS 0 rfl rfl 0 (by decide) (hts _ wm_1519) (fun _ h9 => h9) rfl (by decide +kernel) rfl rfl (Nat.le_of_ble_eq_true rfl) dX12_stay_2 (fun H locs hP hD hS => ?_)
  have hP : va_P D vwCl [((v 0), .inr (13, [.int 0, .int 0, .int 0, .int (-1), .int 0, .int 0, .int 0, .int 0, .ref (v 1), .ref (v 2), .ref (v 3), .ref (v 4), .ref (v 5), .ref (v 6), .ref (v 7), .ref (v 8), .ref (v 9), .int 0, .int 0, .int 0, .int 0, .int 0, .int 0, .int 0, .int 0, .int 0, .ref (v 10), .ref (v 11), .ref (v 12), .ref (v 13), .int 0, .ref (v 14), .ref (v 15), .ref (v 16), .ref (v 17), .ref (v 18), .int 0, .int 0, .int 0, .ref (v 19), .ref (v 20), .ref (v 21), .ref (v 22), .ref (v 23), .int 0, .int 0, .int 0, .int 0])), ((v 5), .inl (cy 0, 5, .inl (fun _ => 0)))] H := hP
  have hD : va_D A [((v 0), .inr (13, [.int 0, .int 0, .int 0, .int (-1), .int 0, .int 0, .int 0, .int 0, .ref (v 1), .ref (v 2), .ref (v 3), .ref (v 4), .ref (v 5), .ref (v 6), .ref (v 7), .ref (v 8), .ref (v 9), .int 0, .int 0, .int 0, .int 0, .int 0, .int 0, .int 0, .int 0, .int 0, .ref (v 10), .ref (v 11), .ref (v 12), .ref (v 13), .int 0, .ref (v 14), .ref (v 15), .ref (v 16), .ref (v 17), .ref (v 18), .int 0, .int 0, .int 0, .ref (v 19), .ref (v 20), .ref (v 21), .ref (v 22), .ref (v 23), .int 0, .int 0, .int 0, .int 0])), ((v 5), .inl (cy 0, 5, .inl (fun _ => 0)))] := hD
  refine lv_aload_n hx hb dX12_stay_5 rfl (lv_at hl 0 rfl) ?_
  refine lv_aload_n hx hb dX12_stay_6 rfl (lv_at hl 0 rfl) ?_
  refine lv_iload_n hx hb dX12_stay_7 rfl (lv_at hl 1 rfl) ?_
  refine k_cali [] (⟨hP, hD, hG, hS, hA, rfl, rfl⟩ : kAt D cy sa A s H _ _ [((v 0), .inr (13, [.int 0, .int 0, .int 0, .int (-1), .int 0, .int 0, .int 0, .int 0, .ref (v 1), .ref (v 2), .ref (v 3), .ref (v 4), .ref (v 5), .ref (v 6), .ref (v 7), .ref (v 8), .ref (v 9), .int 0, .int 0, .int 0, .int 0, .int 0, .int 0, .int 0, .int 0, .int 0, .ref (v 10), .ref (v 11), .ref (v 12), .ref (v 13), .int 0, .ref (v 14), .ref (v 15), .ref (v 16), .ref (v 17), .ref (v 18), .int 0, .int 0, .int 0, .ref (v 19), .ref (v 20), .ref (v 21), .ref (v 22), .ref (v 23), .int 0, .int 0, .int 0, .int 0])), ((v 5), .inl (cy 0, 5, .inl (fun _ => 0)))] [0, 1]) (wr := []) rfl rfl (by decide) (k_runV 13 0 (As := [.int p0]) (rest := [.ref (v 0)]) E lk_VRX12_203 rfl rfl rfl (m_isBody l hl0 D cy sa v p0 H.size) (⟨hP, hD, hG, hS, hA, rfl, rfl⟩ : kAt D cy sa A s H _ _ [((v 0), .inr (13, [.int 0, .int 0, .int 0, .int (-1), .int 0, .int 0, .int 0, .int 0, .ref (v 1), .ref (v 2), .ref (v 3), .ref (v 4), .ref (v 5), .ref (v 6), .ref (v 7), .ref (v 8), .ref (v 9), .int 0, .int 0, .int 0, .int 0, .int 0, .int 0, .int 0, .int 0, .int 0, .ref (v 10), .ref (v 11), .ref (v 12), .ref (v 13), .int 0, .ref (v 14), .ref (v 15), .ref (v 16), .ref (v 17), .ref (v 18), .int 0, .int 0, .int 0, .ref (v 19), .ref (v 20), .ref (v 21), .ref (v 22), .ref (v 23), .int 0, .int 0, .int 0, .int 0])), ((v 5), .inl (cy 0, 5, .inl (fun _ => 0)))] [0, 1]) hl.1 rfl rfl ⟨rfl, rfl, ⟨Nat.le_of_ble_eq_true rfl, Nat.le_of_ble_eq_true rfl⟩, ⟨Nat.le_of_ble_eq_true rfl, Nat.le_of_ble_eq_true rfl⟩, Nat.le_of_ble_eq_true rfl⟩ dX12_stay_8) (fun r1 u2 H locs hwu2 hP hD hS => ?_)
  have hP : va_P D vwCl [((v 0), .inr (13, [.int 0, .int 0, .int 0, .int (-1), .int 0, .int 0, .int 0, .int 0, .ref (v 1), .ref (v 2), .ref (v 3), .ref (v 4), .ref (v 5), .ref (v 6), .ref (v 7), .ref (v 8), .ref (v 9), .int 0, .int 0, .int 0, .int 0, .int 0, .int 0, .int 0, .int 0, .int 0, .ref (v 10), .ref (v 11), .ref (v 12), .ref (v 13), .int 0, .ref (v 14), .ref (v 15), .ref (v 16), .ref (v 17), .ref (v 18), .int 0, .int 0, .int 0, .ref (v 19), .ref (v 20), .ref (v 21), .ref (v 22), .ref (v 23), .int 0, .int 0, .int 0, .int 0])), ((v 5), .inl (cy 0, 5, .inl (fun _ => 0)))] H := hP
  have hD : va_D A [((v 0), .inr (13, [.int 0, .int 0, .int 0, .int (-1), .int 0, .int 0, .int 0, .int 0, .ref (v 1), .ref (v 2), .ref (v 3), .ref (v 4), .ref (v 5), .ref (v 6), .ref (v 7), .ref (v 8), .ref (v 9), .int 0, .int 0, .int 0, .int 0, .int 0, .int 0, .int 0, .int 0, .int 0, .ref (v 10), .ref (v 11), .ref (v 12), .ref (v 13), .int 0, .ref (v 14), .ref (v 15), .ref (v 16), .ref (v 17), .ref (v 18), .int 0, .int 0, .int 0, .ref (v 19), .ref (v 20), .ref (v 21), .ref (v 22), .ref (v 23), .int 0, .int 0, .int 0, .int 0])), ((v 5), .inl (cy 0, 5, .inl (fun _ => 0)))] := hD
  obtain rfl : r1 = 0 := hwu2
  refine lv_if_ne (tgt := 18) hx hb dX12_stay_11 (by decide) (fun h => absurd (by decide) h) (fun _ => ?_)
  refine lv_iconst (v := 1) hx hb dX12_stay_14 (by decide) ?_
  refine lv_goto (tgt := 19) hx hb dX12_stay_15 (by decide) ?_
  refine lv_iconst (v := 1) hx hb dX12_stay_19 (by decide) ?_
  refine k_cali [1] (⟨hP, hD, hG, hS, hA, rfl, rfl⟩ : kAt D cy sa A s H _ _ [((v 0), .inr (13, [.int 0, .int 0, .int 0, .int (-1), .int 0, .int 0, .int 0, .int 0, .ref (v 1), .ref (v 2), .ref (v 3), .ref (v 4), .ref (v 5), .ref (v 6), .ref (v 7), .ref (v 8), .ref (v 9), .int 0, .int 0, .int 0, .int 0, .int 0, .int 0, .int 0, .int 0, .int 0, .ref (v 10), .ref (v 11), .ref (v 12), .ref (v 13), .int 0, .ref (v 14), .ref (v 15), .ref (v 16), .ref (v 17), .ref (v 18), .int 0, .int 0, .int 0, .ref (v 19), .ref (v 20), .ref (v 21), .ref (v 22), .ref (v 23), .int 0, .int 0, .int 0, .int 0]))] [0]) (wr := [((v 5), .inl (cy 0, 5, .inl (fun _ => 0)))]) rfl rfl (by decide) (k_runV 13 0 (As := [.int 1, .int 1]) (rest := []) E lk_VRX12_169 rfl rfl rfl (m_bad1 l hl0 D cy sa v H.size) (⟨hP, hD, hG, hS, hA, rfl, rfl⟩ : kAt D cy sa A s H _ _ [((v 0), .inr (13, [.int 0, .int 0, .int 0, .int (-1), .int 0, .int 0, .int 0, .int 0, .ref (v 1), .ref (v 2), .ref (v 3), .ref (v 4), .ref (v 5), .ref (v 6), .ref (v 7), .ref (v 8), .ref (v 9), .int 0, .int 0, .int 0, .int 0, .int 0, .int 0, .int 0, .int 0, .int 0, .ref (v 10), .ref (v 11), .ref (v 12), .ref (v 13), .int 0, .ref (v 14), .ref (v 15), .ref (v 16), .ref (v 17), .ref (v 18), .int 0, .int 0, .int 0, .ref (v 19), .ref (v 20), .ref (v 21), .ref (v 22), .ref (v 23), .int 0, .int 0, .int 0, .int 0]))] [0]) hl.1 rfl rfl ⟨rfl, rfl, ⟨Nat.le_of_ble_eq_true rfl, Nat.le_of_ble_eq_true rfl⟩, ⟨Nat.le_of_ble_eq_true rfl, Nat.le_of_ble_eq_true rfl⟩, Nat.le_of_ble_eq_true rfl⟩ dX12_stay_20) (fun r3 u4 H locs hwu4 hP hD hS => ?_)
  have hP : va_P D vwCl [((v 5), .inl (cy 0, 5, .inl (fun _ => 0))), ((v 0), .inr (13, [.int 1, .int 0, .int 0, .int (-1), .int 0, .int 0, .int 0, .int 0, .ref (v 1), .ref (v 2), .ref (v 3), .ref (v 4), .ref (v 5), .ref (v 6), .ref (v 7), .ref (v 8), .ref (v 9), .int 0, .int 0, .int 0, .int 0, .int 0, .int 0, .int 0, .int 0, .int 0, .ref (v 10), .ref (v 11), .ref (v 12), .ref (v 13), .int 0, .ref (v 14), .ref (v 15), .ref (v 16), .ref (v 17), .ref (v 18), .int 0, .int 0, .int 0, .ref (v 19), .ref (v 20), .ref (v 21), .ref (v 22), .ref (v 23), .int 0, .int 0, .int 0, .int 0]))] H := hP
  have hD : va_D A [((v 5), .inl (cy 0, 5, .inl (fun _ => 0))), ((v 0), .inr (13, [.int 1, .int 0, .int 0, .int (-1), .int 0, .int 0, .int 0, .int 0, .ref (v 1), .ref (v 2), .ref (v 3), .ref (v 4), .ref (v 5), .ref (v 6), .ref (v 7), .ref (v 8), .ref (v 9), .int 0, .int 0, .int 0, .int 0, .int 0, .int 0, .int 0, .int 0, .int 0, .ref (v 10), .ref (v 11), .ref (v 12), .ref (v 13), .int 0, .ref (v 14), .ref (v 15), .ref (v 16), .ref (v 17), .ref (v 18), .int 0, .int 0, .int 0, .ref (v 19), .ref (v 20), .ref (v 21), .ref (v 22), .ref (v 23), .int 0, .int 0, .int 0, .int 0]))] := hD
  obtain rfl : r3 = 1 := hwu4
  refine lv_if_eq (tgt := 28) hx hb dX12_stay_23 (by decide) (fun h => absurd h (by decide)) (fun _ => ?_)
  refine lv_iconst (v := 0) hx hb dX12_stay_26 (by decide) ?_
  exact k_iret (1, [.int 0, .int 0, .int (-1), .int 0, .int 0, .int 0, .int 0, .ref (v 1), .ref (v 2), .ref (v 3), .ref (v 4), .ref (v 5), .ref (v 6), .ref (v 7), .ref (v 8), .ref (v 9), .int 0, .int 0, .int 0, .int 0, .int 0, .int 0, .int 0, .int 0, .int 0, .ref (v 10), .ref (v 11), .ref (v 12), .ref (v 13), .int 0, .ref (v 14), .ref (v 15), .ref (v 16), .ref (v 17), .ref (v 18), .int 0, .int 0, .int 0, .ref (v 19), .ref (v 20), .ref (v 21), .ref (v 22), .ref (v 23), .int 0, .int 0, .int 0, .int 0]) hx hb hr hlk (by refine ⟨fun h => ?_, fun h => ?_⟩ <;> first | exact False.elim h | exact ⟨rfl, rfl⟩ | rfl | exact absurd trivial h | (exfalso; simp only [k_lt, k_le, k_eq, k_L0, k_L1, k_L2, k_L3, k_L4, k_L5, k_L6, k_L7, k_L8, k_L9, k_L10, k_L15, k_L20, k_L30, k_L31, k_L40, k_L41, k_L60, k_L61, k_L99, k_L120, k_L239, k_L240, k_L479, k_L480, k_L500, k_L720, k_L999, k_L1000, k_L9999, k_Lm1] at h; omega) | (refine ⟨rfl, ?_⟩; rfl)) (hP.sub [1] rfl) (hD.sub [1] (by decide) rfl) hS (by decide) (by decide) dX12_stay_27

set_option maxHeartbeats 4000000 in
set_option maxRecDepth 100000 in
/-- the reference: beds -/
theorem m_beds_ (l : Launch) (hl0 : l.stackTraces = false) (D : va_G) (cy : Nat → ClassId) (sa : Nat → Nat) (v : Nat → Nat) (p0 p1 p2 : Int32) (sz : Nat) : Met l yX12_beds (Cond.code yX12_beds cX12_beds 10 (some .int) :: kWS) ({ frames := 13, cells := 0, slots := 0, locals := 480 }) (kPre D cy sa [.ref (v 0), .int p0, .int p1, .int p2] [((v 0), .inr (13, [.int 0, .int 0, .int 0, .int (-1), .int 0, .int 0, .int 0, .int 0, .ref (v 1), .ref (v 2), .ref (v 3), .ref (v 4), .ref (v 5), .ref (v 6), .ref (v 7), .ref (v 8), .ref (v 9), .int 0, .int 0, .int 0, .int 0, .int 0, .int 0, .int 0, .int 0, .int 0, .ref (v 10), .ref (v 11), .ref (v 12), .ref (v 13), .int 0, .ref (v 14), .ref (v 15), .ref (v 16), .ref (v 17), .ref (v 18), .int 0, .int 0, .int 0, .ref (v 19), .ref (v 20), .ref (v 21), .ref (v 22), .ref (v 23), .int 0, .int 0, .int 0, .int 0])), ((v 5), .inl (cy 0, 5, .inl (fun _ => 0)))] sz) (va_Qi (fun (r : Int32) (x : Int32 × List Value) => ((False) → x.1 = 0 ∧ False) ∧ (¬ (False) → x.1 = 1)) (kB D (va_A [((v 0), .inr (13, [.int 0, .int 0, .int 0, .int (-1), .int 0, .int 0, .int 0, .int 0, .ref (v 1), .ref (v 2), .ref (v 3), .ref (v 4), .ref (v 5), .ref (v 6), .ref (v 7), .ref (v 8), .ref (v 9), .int 0, .int 0, .int 0, .int 0, .int 0, .int 0, .int 0, .int 0, .int 0, .ref (v 10), .ref (v 11), .ref (v 12), .ref (v 13), .int 0, .ref (v 14), .ref (v 15), .ref (v 16), .ref (v 17), .ref (v 18), .int 0, .int 0, .int 0, .ref (v 19), .ref (v 20), .ref (v 21), .ref (v 22), .ref (v 23), .int 0, .int 0, .int 0, .int 0])), ((v 5), .inl (cy 0, 5, .inl (fun _ => 0)))] sz) (fun x => [((v 0), .inr (13, .int x.1 :: x.2))])) (va_A [((v 0), .inr (13, [.int 0, .int 0, .int 0, .int (-1), .int 0, .int 0, .int 0, .int 0, .ref (v 1), .ref (v 2), .ref (v 3), .ref (v 4), .ref (v 5), .ref (v 6), .ref (v 7), .ref (v 8), .ref (v 9), .int 0, .int 0, .int 0, .int 0, .int 0, .int 0, .int 0, .int 0, .int 0, .ref (v 10), .ref (v 11), .ref (v 12), .ref (v 13), .int 0, .ref (v 14), .ref (v 15), .ref (v 16), .ref (v 17), .ref (v 18), .int 0, .int 0, .int 0, .ref (v 19), .ref (v 20), .ref (v 21), .ref (v 22), .ref (v 23), .int 0, .int 0, .int 0, .int 0])), ((v 5), .inl (cy 0, 5, .inl (fun _ => 0)))] sz)) 0 0 (va_A [((v 0), .inr (13, [.int 0, .int 0, .int 0, .int (-1), .int 0, .int 0, .int 0, .int 0, .ref (v 1), .ref (v 2), .ref (v 3), .ref (v 4), .ref (v 5), .ref (v 6), .ref (v 7), .ref (v 8), .ref (v 9), .int 0, .int 0, .int 0, .int 0, .int 0, .int 0, .int 0, .int 0, .int 0, .ref (v 10), .ref (v 11), .ref (v 12), .ref (v 13), .int 0, .ref (v 14), .ref (v 15), .ref (v 16), .ref (v 17), .ref (v 18), .int 0, .int 0, .int 0, .ref (v 19), .ref (v 20), .ref (v 21), .ref (v 22), .ref (v 23), .int 0, .int 0, .int 0, .int 0])), ((v 5), .inl (cy 0, 5, .inl (fun _ => 0)))] sz) := by
  refine k_ofW (y := yX12_beds) (cc := cX12_beds) (maxL := 10) (ret := (some .int)) (av := [.ref (v 0), .int p0, .int p1, .int p2]) (ws := [((v 0), .inr (13, [.int 0, .int 0, .int 0, .int (-1), .int 0, .int 0, .int 0, .int 0, .ref (v 1), .ref (v 2), .ref (v 3), .ref (v 4), .ref (v 5), .ref (v 6), .ref (v 7), .ref (v 8), .ref (v 9), .int 0, .int 0, .int 0, .int 0, .int 0, .int 0, .int 0, .int 0, .int 0, .ref (v 10), .ref (v 11), .ref (v 12), .ref (v 13), .int 0, .ref (v 14), .ref (v 15), .ref (v 16), .ref (v 17), .ref (v 18), .int 0, .int 0, .int 0, .ref (v 19), .ref (v 20), .ref (v 21), .ref (v 22), .ref (v 23), .int 0, .int 0, .int 0, .int 0])), ((v 5), .inl (cy 0, 5, .inl (fun _ => 0)))]) (Qc := fun A => va_Qi (fun (r : Int32) (x : Int32 × List Value) => ((False) → x.1 = 0 ∧ False) ∧ (¬ (False) → x.1 = 1)) (kB D A (fun x => [((v 0), .inr (13, .int x.1 :: x.2))])) A) (by decide) (Nat.le_of_ble_eq_true rfl) ?_
  intro p e s m below meth c ls A E hA hP hD hG hS hl
  obtain ⟨hx, hb, hml, hown, hts, hr, hlk, hnm⟩ := id E
  have hown : s.vm.findClass RX12 = some m.cls := hown
  have hl : lv_has ls 10 [(0, .ref (v 0)), (1, .int p0), (2, .int p1), (3, .int p2)] := hl
  obtain ⟨H, hH⟩ : ∃ H, H = s.heap := ⟨_, rfl⟩
  have hP : va_P D vwCl [((v 0), .inr (13, [.int 0, .int 0, .int 0, .int (-1), .int 0, .int 0, .int 0, .int 0, .ref (v 1), .ref (v 2), .ref (v 3), .ref (v 4), .ref (v 5), .ref (v 6), .ref (v 7), .ref (v 8), .ref (v 9), .int 0, .int 0, .int 0, .int 0, .int 0, .int 0, .int 0, .int 0, .int 0, .ref (v 10), .ref (v 11), .ref (v 12), .ref (v 13), .int 0, .ref (v 14), .ref (v 15), .ref (v 16), .ref (v 17), .ref (v 18), .int 0, .int 0, .int 0, .ref (v 19), .ref (v 20), .ref (v 21), .ref (v 22), .ref (v 23), .int 0, .int 0, .int 0, .int 0])), ((v 5), .inl (cy 0, 5, .inl (fun _ => 0)))] H := by rw [hH]; exact hP
  have hS : va_S A s.heap H [] := by rw [hH]; exact va_S.rf
  rw [← hH]
  clear hH
  refine lv_aload_n hx hb dX12_beds_0 rfl (lv_at hl 0 rfl) ?_
  refine lv_iconst (v := 0) hx hb dX12_beds_1 (by decide) ?_
  refine va_put (D := D) (ci := 13) (v := .int 0) (ty := .int) (C := RX12) (T := TX12) (N := 48) hx hb hts kin_RX12 tyX12 tyX12_ok nmX12 hown hG.1 hP hD hS 0 rfl rfl 0 (by decide) (hts _ wm_1519) (fun _ h9 => h9) rfl (by decide +kernel) rfl rfl (Nat.le_of_ble_eq_true rfl) dX12_beds_2 (fun H locs hP hD hS => ?_)
  have hP : va_P D vwCl [((v 0), .inr (13, [.int 0, .int 0, .int 0, .int (-1), .int 0, .int 0, .int 0, .int 0, .ref (v 1), .ref (v 2), .ref (v 3), .ref (v 4), .ref (v 5), .ref (v 6), .ref (v 7), .ref (v 8), .ref (v 9), .int 0, .int 0, .int 0, .int 0, .int 0, .int 0, .int 0, .int 0, .int 0, .ref (v 10), .ref (v 11), .ref (v 12), .ref (v 13), .int 0, .ref (v 14), .ref (v 15), .ref (v 16), .ref (v 17), .ref (v 18), .int 0, .int 0, .int 0, .ref (v 19), .ref (v 20), .ref (v 21), .ref (v 22), .ref (v 23), .int 0, .int 0, .int 0, .int 0])), ((v 5), .inl (cy 0, 5, .inl (fun _ => 0)))] H := hP
  have hD : va_D A [((v 0), .inr (13, [.int 0, .int 0, .int 0, .int (-1), .int 0, .int 0, .int 0, .int 0, .ref (v 1), .ref (v 2), .ref (v 3), .ref (v 4), .ref (v 5), .ref (v 6), .ref (v 7), .ref (v 8), .ref (v 9), .int 0, .int 0, .int 0, .int 0, .int 0, .int 0, .int 0, .int 0, .int 0, .ref (v 10), .ref (v 11), .ref (v 12), .ref (v 13), .int 0, .ref (v 14), .ref (v 15), .ref (v 16), .ref (v 17), .ref (v 18), .int 0, .int 0, .int 0, .ref (v 19), .ref (v 20), .ref (v 21), .ref (v 22), .ref (v 23), .int 0, .int 0, .int 0, .int 0])), ((v 5), .inl (cy 0, 5, .inl (fun _ => 0)))] := hD
  refine lv_aload_n hx hb dX12_beds_5 rfl (lv_at hl 0 rfl) ?_
  refine lv_aload_n hx hb dX12_beds_6 rfl (lv_at hl 0 rfl) ?_
  refine lv_iload_n hx hb dX12_beds_7 rfl (lv_at hl 1 rfl) ?_
  refine k_cali [] (⟨hP, hD, hG, hS, hA, rfl, rfl⟩ : kAt D cy sa A s H _ _ [((v 0), .inr (13, [.int 0, .int 0, .int 0, .int (-1), .int 0, .int 0, .int 0, .int 0, .ref (v 1), .ref (v 2), .ref (v 3), .ref (v 4), .ref (v 5), .ref (v 6), .ref (v 7), .ref (v 8), .ref (v 9), .int 0, .int 0, .int 0, .int 0, .int 0, .int 0, .int 0, .int 0, .int 0, .ref (v 10), .ref (v 11), .ref (v 12), .ref (v 13), .int 0, .ref (v 14), .ref (v 15), .ref (v 16), .ref (v 17), .ref (v 18), .int 0, .int 0, .int 0, .ref (v 19), .ref (v 20), .ref (v 21), .ref (v 22), .ref (v 23), .int 0, .int 0, .int 0, .int 0])), ((v 5), .inl (cy 0, 5, .inl (fun _ => 0)))] [0, 1]) (wr := []) rfl rfl (by decide) (k_runV 13 0 (As := [.int p0]) (rest := [.ref (v 0)]) E lk_VRX12_203 rfl rfl rfl (m_isBody l hl0 D cy sa v p0 H.size) (⟨hP, hD, hG, hS, hA, rfl, rfl⟩ : kAt D cy sa A s H _ _ [((v 0), .inr (13, [.int 0, .int 0, .int 0, .int (-1), .int 0, .int 0, .int 0, .int 0, .ref (v 1), .ref (v 2), .ref (v 3), .ref (v 4), .ref (v 5), .ref (v 6), .ref (v 7), .ref (v 8), .ref (v 9), .int 0, .int 0, .int 0, .int 0, .int 0, .int 0, .int 0, .int 0, .int 0, .ref (v 10), .ref (v 11), .ref (v 12), .ref (v 13), .int 0, .ref (v 14), .ref (v 15), .ref (v 16), .ref (v 17), .ref (v 18), .int 0, .int 0, .int 0, .ref (v 19), .ref (v 20), .ref (v 21), .ref (v 22), .ref (v 23), .int 0, .int 0, .int 0, .int 0])), ((v 5), .inl (cy 0, 5, .inl (fun _ => 0)))] [0, 1]) hl.1 rfl rfl ⟨rfl, rfl, ⟨Nat.le_of_ble_eq_true rfl, Nat.le_of_ble_eq_true rfl⟩, ⟨Nat.le_of_ble_eq_true rfl, Nat.le_of_ble_eq_true rfl⟩, Nat.le_of_ble_eq_true rfl⟩ dX12_beds_8) (fun r1 u2 H locs hwu2 hP hD hS => ?_)
  have hP : va_P D vwCl [((v 0), .inr (13, [.int 0, .int 0, .int 0, .int (-1), .int 0, .int 0, .int 0, .int 0, .ref (v 1), .ref (v 2), .ref (v 3), .ref (v 4), .ref (v 5), .ref (v 6), .ref (v 7), .ref (v 8), .ref (v 9), .int 0, .int 0, .int 0, .int 0, .int 0, .int 0, .int 0, .int 0, .int 0, .ref (v 10), .ref (v 11), .ref (v 12), .ref (v 13), .int 0, .ref (v 14), .ref (v 15), .ref (v 16), .ref (v 17), .ref (v 18), .int 0, .int 0, .int 0, .ref (v 19), .ref (v 20), .ref (v 21), .ref (v 22), .ref (v 23), .int 0, .int 0, .int 0, .int 0])), ((v 5), .inl (cy 0, 5, .inl (fun _ => 0)))] H := hP
  have hD : va_D A [((v 0), .inr (13, [.int 0, .int 0, .int 0, .int (-1), .int 0, .int 0, .int 0, .int 0, .ref (v 1), .ref (v 2), .ref (v 3), .ref (v 4), .ref (v 5), .ref (v 6), .ref (v 7), .ref (v 8), .ref (v 9), .int 0, .int 0, .int 0, .int 0, .int 0, .int 0, .int 0, .int 0, .int 0, .ref (v 10), .ref (v 11), .ref (v 12), .ref (v 13), .int 0, .ref (v 14), .ref (v 15), .ref (v 16), .ref (v 17), .ref (v 18), .int 0, .int 0, .int 0, .ref (v 19), .ref (v 20), .ref (v 21), .ref (v 22), .ref (v 23), .int 0, .int 0, .int 0, .int 0])), ((v 5), .inl (cy 0, 5, .inl (fun _ => 0)))] := hD
  obtain rfl : r1 = 0 := hwu2
  refine lv_if_ne (tgt := 18) hx hb dX12_beds_11 (by decide) (fun h => absurd (by decide) h) (fun _ => ?_)
  refine lv_iconst (v := 1) hx hb dX12_beds_14 (by decide) ?_
  refine lv_goto (tgt := 19) hx hb dX12_beds_15 (by decide) ?_
  refine lv_iconst (v := 1) hx hb dX12_beds_19 (by decide) ?_
  refine k_cali [1] (⟨hP, hD, hG, hS, hA, rfl, rfl⟩ : kAt D cy sa A s H _ _ [((v 0), .inr (13, [.int 0, .int 0, .int 0, .int (-1), .int 0, .int 0, .int 0, .int 0, .ref (v 1), .ref (v 2), .ref (v 3), .ref (v 4), .ref (v 5), .ref (v 6), .ref (v 7), .ref (v 8), .ref (v 9), .int 0, .int 0, .int 0, .int 0, .int 0, .int 0, .int 0, .int 0, .int 0, .ref (v 10), .ref (v 11), .ref (v 12), .ref (v 13), .int 0, .ref (v 14), .ref (v 15), .ref (v 16), .ref (v 17), .ref (v 18), .int 0, .int 0, .int 0, .ref (v 19), .ref (v 20), .ref (v 21), .ref (v 22), .ref (v 23), .int 0, .int 0, .int 0, .int 0]))] [0]) (wr := [((v 5), .inl (cy 0, 5, .inl (fun _ => 0)))]) rfl rfl (by decide) (k_runV 13 0 (As := [.int 1, .int 1]) (rest := []) E lk_VRX12_169 rfl rfl rfl (m_bad1 l hl0 D cy sa v H.size) (⟨hP, hD, hG, hS, hA, rfl, rfl⟩ : kAt D cy sa A s H _ _ [((v 0), .inr (13, [.int 0, .int 0, .int 0, .int (-1), .int 0, .int 0, .int 0, .int 0, .ref (v 1), .ref (v 2), .ref (v 3), .ref (v 4), .ref (v 5), .ref (v 6), .ref (v 7), .ref (v 8), .ref (v 9), .int 0, .int 0, .int 0, .int 0, .int 0, .int 0, .int 0, .int 0, .int 0, .ref (v 10), .ref (v 11), .ref (v 12), .ref (v 13), .int 0, .ref (v 14), .ref (v 15), .ref (v 16), .ref (v 17), .ref (v 18), .int 0, .int 0, .int 0, .ref (v 19), .ref (v 20), .ref (v 21), .ref (v 22), .ref (v 23), .int 0, .int 0, .int 0, .int 0]))] [0]) hl.1 rfl rfl ⟨rfl, rfl, ⟨Nat.le_of_ble_eq_true rfl, Nat.le_of_ble_eq_true rfl⟩, ⟨Nat.le_of_ble_eq_true rfl, Nat.le_of_ble_eq_true rfl⟩, Nat.le_of_ble_eq_true rfl⟩ dX12_beds_20) (fun r3 u4 H locs hwu4 hP hD hS => ?_)
  have hP : va_P D vwCl [((v 5), .inl (cy 0, 5, .inl (fun _ => 0))), ((v 0), .inr (13, [.int 1, .int 0, .int 0, .int (-1), .int 0, .int 0, .int 0, .int 0, .ref (v 1), .ref (v 2), .ref (v 3), .ref (v 4), .ref (v 5), .ref (v 6), .ref (v 7), .ref (v 8), .ref (v 9), .int 0, .int 0, .int 0, .int 0, .int 0, .int 0, .int 0, .int 0, .int 0, .ref (v 10), .ref (v 11), .ref (v 12), .ref (v 13), .int 0, .ref (v 14), .ref (v 15), .ref (v 16), .ref (v 17), .ref (v 18), .int 0, .int 0, .int 0, .ref (v 19), .ref (v 20), .ref (v 21), .ref (v 22), .ref (v 23), .int 0, .int 0, .int 0, .int 0]))] H := hP
  have hD : va_D A [((v 5), .inl (cy 0, 5, .inl (fun _ => 0))), ((v 0), .inr (13, [.int 1, .int 0, .int 0, .int (-1), .int 0, .int 0, .int 0, .int 0, .ref (v 1), .ref (v 2), .ref (v 3), .ref (v 4), .ref (v 5), .ref (v 6), .ref (v 7), .ref (v 8), .ref (v 9), .int 0, .int 0, .int 0, .int 0, .int 0, .int 0, .int 0, .int 0, .int 0, .ref (v 10), .ref (v 11), .ref (v 12), .ref (v 13), .int 0, .ref (v 14), .ref (v 15), .ref (v 16), .ref (v 17), .ref (v 18), .int 0, .int 0, .int 0, .ref (v 19), .ref (v 20), .ref (v 21), .ref (v 22), .ref (v 23), .int 0, .int 0, .int 0, .int 0]))] := hD
  obtain rfl : r3 = 1 := hwu4
  refine lv_if_ne (tgt := 58) hx hb dX12_beds_23 (by decide) (fun _ => ?_) (fun h => absurd h (by decide))
  refine lv_iconst (v := 0) hx hb dX12_beds_58 (by decide) ?_
  exact k_iret (1, [.int 0, .int 0, .int (-1), .int 0, .int 0, .int 0, .int 0, .ref (v 1), .ref (v 2), .ref (v 3), .ref (v 4), .ref (v 5), .ref (v 6), .ref (v 7), .ref (v 8), .ref (v 9), .int 0, .int 0, .int 0, .int 0, .int 0, .int 0, .int 0, .int 0, .int 0, .ref (v 10), .ref (v 11), .ref (v 12), .ref (v 13), .int 0, .ref (v 14), .ref (v 15), .ref (v 16), .ref (v 17), .ref (v 18), .int 0, .int 0, .int 0, .ref (v 19), .ref (v 20), .ref (v 21), .ref (v 22), .ref (v 23), .int 0, .int 0, .int 0, .int 0]) hx hb hr hlk (by refine ⟨fun h => ?_, fun h => ?_⟩ <;> first | exact False.elim h | exact ⟨rfl, rfl⟩ | rfl | exact absurd trivial h | (exfalso; simp only [k_lt, k_le, k_eq, k_L0, k_L1, k_L2, k_L3, k_L4, k_L5, k_L6, k_L7, k_L8, k_L9, k_L10, k_L15, k_L20, k_L30, k_L31, k_L40, k_L41, k_L60, k_L61, k_L99, k_L120, k_L239, k_L240, k_L479, k_L480, k_L500, k_L720, k_L999, k_L1000, k_L9999, k_Lm1] at h; omega) | (refine ⟨rfl, ?_⟩; rfl)) (hP.sub [1] rfl) (hD.sub [1] (by decide) rfl) hS (by decide) (by decide) dX12_beds_59

set_option maxHeartbeats 4000000 in
set_option maxRecDepth 100000 in
/-- the reference: mind -/
theorem m_mind_ (l : Launch) (hl0 : l.stackTraces = false) (D : va_G) (cy : Nat → ClassId) (sa : Nat → Nat) (v : Nat → Nat) (sz : Nat) : Met l yX12_mind (Cond.code yX12_mind cX12_mind 1 (some .int) :: kWS) ({ frames := 13, cells := 0, slots := 0, locals := 480 }) (kPre D cy sa [.ref (v 0)] [((v 0), .inr (13, [.int 0, .int 0, .int 0, .int (-1), .int 0, .int 0, .int 0, .int 0, .ref (v 1), .ref (v 2), .ref (v 3), .ref (v 4), .ref (v 5), .ref (v 6), .ref (v 7), .ref (v 8), .ref (v 9), .int 0, .int 0, .int 0, .int 0, .int 0, .int 0, .int 0, .int 0, .int 0, .ref (v 10), .ref (v 11), .ref (v 12), .ref (v 13), .int 0, .ref (v 14), .ref (v 15), .ref (v 16), .ref (v 17), .ref (v 18), .int 0, .int 0, .int 0, .ref (v 19), .ref (v 20), .ref (v 21), .ref (v 22), .ref (v 23), .int 0, .int 0, .int 0, .int 0])), ((v 5), .inl (cy 0, 5, .inl (fun _ => 0)))] sz) (va_Qi (fun (r : Int32) (x : Int32 × List Value) => ((True) → x.1 = 0 ∧ r = -1) ∧ (¬ (True) → x.1 = 1)) (kB D (va_A [((v 0), .inr (13, [.int 0, .int 0, .int 0, .int (-1), .int 0, .int 0, .int 0, .int 0, .ref (v 1), .ref (v 2), .ref (v 3), .ref (v 4), .ref (v 5), .ref (v 6), .ref (v 7), .ref (v 8), .ref (v 9), .int 0, .int 0, .int 0, .int 0, .int 0, .int 0, .int 0, .int 0, .int 0, .ref (v 10), .ref (v 11), .ref (v 12), .ref (v 13), .int 0, .ref (v 14), .ref (v 15), .ref (v 16), .ref (v 17), .ref (v 18), .int 0, .int 0, .int 0, .ref (v 19), .ref (v 20), .ref (v 21), .ref (v 22), .ref (v 23), .int 0, .int 0, .int 0, .int 0])), ((v 5), .inl (cy 0, 5, .inl (fun _ => 0)))] sz) (fun x => [((v 0), .inr (13, .int x.1 :: x.2))])) (va_A [((v 0), .inr (13, [.int 0, .int 0, .int 0, .int (-1), .int 0, .int 0, .int 0, .int 0, .ref (v 1), .ref (v 2), .ref (v 3), .ref (v 4), .ref (v 5), .ref (v 6), .ref (v 7), .ref (v 8), .ref (v 9), .int 0, .int 0, .int 0, .int 0, .int 0, .int 0, .int 0, .int 0, .int 0, .ref (v 10), .ref (v 11), .ref (v 12), .ref (v 13), .int 0, .ref (v 14), .ref (v 15), .ref (v 16), .ref (v 17), .ref (v 18), .int 0, .int 0, .int 0, .ref (v 19), .ref (v 20), .ref (v 21), .ref (v 22), .ref (v 23), .int 0, .int 0, .int 0, .int 0])), ((v 5), .inl (cy 0, 5, .inl (fun _ => 0)))] sz)) 0 0 (va_A [((v 0), .inr (13, [.int 0, .int 0, .int 0, .int (-1), .int 0, .int 0, .int 0, .int 0, .ref (v 1), .ref (v 2), .ref (v 3), .ref (v 4), .ref (v 5), .ref (v 6), .ref (v 7), .ref (v 8), .ref (v 9), .int 0, .int 0, .int 0, .int 0, .int 0, .int 0, .int 0, .int 0, .int 0, .ref (v 10), .ref (v 11), .ref (v 12), .ref (v 13), .int 0, .ref (v 14), .ref (v 15), .ref (v 16), .ref (v 17), .ref (v 18), .int 0, .int 0, .int 0, .ref (v 19), .ref (v 20), .ref (v 21), .ref (v 22), .ref (v 23), .int 0, .int 0, .int 0, .int 0])), ((v 5), .inl (cy 0, 5, .inl (fun _ => 0)))] sz) := by
  refine k_ofW (y := yX12_mind) (cc := cX12_mind) (maxL := 1) (ret := (some .int)) (av := [.ref (v 0)]) (ws := [((v 0), .inr (13, [.int 0, .int 0, .int 0, .int (-1), .int 0, .int 0, .int 0, .int 0, .ref (v 1), .ref (v 2), .ref (v 3), .ref (v 4), .ref (v 5), .ref (v 6), .ref (v 7), .ref (v 8), .ref (v 9), .int 0, .int 0, .int 0, .int 0, .int 0, .int 0, .int 0, .int 0, .int 0, .ref (v 10), .ref (v 11), .ref (v 12), .ref (v 13), .int 0, .ref (v 14), .ref (v 15), .ref (v 16), .ref (v 17), .ref (v 18), .int 0, .int 0, .int 0, .ref (v 19), .ref (v 20), .ref (v 21), .ref (v 22), .ref (v 23), .int 0, .int 0, .int 0, .int 0])), ((v 5), .inl (cy 0, 5, .inl (fun _ => 0)))]) (Qc := fun A => va_Qi (fun (r : Int32) (x : Int32 × List Value) => ((True) → x.1 = 0 ∧ r = -1) ∧ (¬ (True) → x.1 = 1)) (kB D A (fun x => [((v 0), .inr (13, .int x.1 :: x.2))])) A) (by decide) (Nat.le_of_ble_eq_true rfl) ?_
  intro p e s m below meth c ls A E hA hP hD hG hS hl
  obtain ⟨hx, hb, hml, hown, hts, hr, hlk, hnm⟩ := id E
  have hown : s.vm.findClass RX12 = some m.cls := hown
  have hl : lv_has ls 1 [(0, .ref (v 0))] := hl
  obtain ⟨H, hH⟩ : ∃ H, H = s.heap := ⟨_, rfl⟩
  have hP : va_P D vwCl [((v 0), .inr (13, [.int 0, .int 0, .int 0, .int (-1), .int 0, .int 0, .int 0, .int 0, .ref (v 1), .ref (v 2), .ref (v 3), .ref (v 4), .ref (v 5), .ref (v 6), .ref (v 7), .ref (v 8), .ref (v 9), .int 0, .int 0, .int 0, .int 0, .int 0, .int 0, .int 0, .int 0, .int 0, .ref (v 10), .ref (v 11), .ref (v 12), .ref (v 13), .int 0, .ref (v 14), .ref (v 15), .ref (v 16), .ref (v 17), .ref (v 18), .int 0, .int 0, .int 0, .ref (v 19), .ref (v 20), .ref (v 21), .ref (v 22), .ref (v 23), .int 0, .int 0, .int 0, .int 0])), ((v 5), .inl (cy 0, 5, .inl (fun _ => 0)))] H := by rw [hH]; exact hP
  have hS : va_S A s.heap H [] := by rw [hH]; exact va_S.rf
  rw [← hH]
  clear hH
  refine lv_aload_n hx hb dX12_mind_0 rfl (lv_at hl 0 rfl) ?_
  refine lv_iconst (v := 0) hx hb dX12_mind_1 (by decide) ?_
  refine va_put (D := D) (ci := 13) (v := .int 0) (ty := .int) (C := RX12) (T := TX12) (N := 48) hx hb hts kin_RX12 tyX12 tyX12_ok nmX12 hown hG.1 hP hD hS 0 rfl rfl 0 (by decide) (hts _ wm_1519) (fun _ h9 => h9) rfl (by decide +kernel) rfl rfl (Nat.le_of_ble_eq_true rfl) dX12_mind_2 (fun H locs hP hD hS => ?_)
  have hP : va_P D vwCl [((v 0), .inr (13, [.int 0, .int 0, .int 0, .int (-1), .int 0, .int 0, .int 0, .int 0, .ref (v 1), .ref (v 2), .ref (v 3), .ref (v 4), .ref (v 5), .ref (v 6), .ref (v 7), .ref (v 8), .ref (v 9), .int 0, .int 0, .int 0, .int 0, .int 0, .int 0, .int 0, .int 0, .int 0, .ref (v 10), .ref (v 11), .ref (v 12), .ref (v 13), .int 0, .ref (v 14), .ref (v 15), .ref (v 16), .ref (v 17), .ref (v 18), .int 0, .int 0, .int 0, .ref (v 19), .ref (v 20), .ref (v 21), .ref (v 22), .ref (v 23), .int 0, .int 0, .int 0, .int 0])), ((v 5), .inl (cy 0, 5, .inl (fun _ => 0)))] H := hP
  have hD : va_D A [((v 0), .inr (13, [.int 0, .int 0, .int 0, .int (-1), .int 0, .int 0, .int 0, .int 0, .ref (v 1), .ref (v 2), .ref (v 3), .ref (v 4), .ref (v 5), .ref (v 6), .ref (v 7), .ref (v 8), .ref (v 9), .int 0, .int 0, .int 0, .int 0, .int 0, .int 0, .int 0, .int 0, .int 0, .ref (v 10), .ref (v 11), .ref (v 12), .ref (v 13), .int 0, .ref (v 14), .ref (v 15), .ref (v 16), .ref (v 17), .ref (v 18), .int 0, .int 0, .int 0, .ref (v 19), .ref (v 20), .ref (v 21), .ref (v 22), .ref (v 23), .int 0, .int 0, .int 0, .int 0])), ((v 5), .inl (cy 0, 5, .inl (fun _ => 0)))] := hD
  refine lv_aload_n hx hb dX12_mind_5 rfl (lv_at hl 0 rfl) ?_
  refine va_get (D := D) (ci := 13) (v := .ref (v 5)) (C := RX12) (T := TX12) (N := 48) hx hb hts kin_RX12 hown hG.1 hP 0 rfl rfl 12 (by decide) (hts _ wm_1531) (fun _ h9 => h9) rfl dX12_mind_6 ?_
  refine lv_iconst (v := 0) hx hb dX12_mind_9 (by decide) ?_
  refine va_iald hx hb hG.1 hP 1 0 rfl rfl (by unfold vp_in; decide) dX12_mind_10 ?_
  refine lv_topi (fun x1 ex1 => ?_)
  obtain rfl : x1 = 0 := ex1.trans (rfl)
  refine lv_if_ne (tgt := 18) hx hb dX12_mind_11 (by decide) (fun h => absurd (by decide) h) (fun _ => ?_)
  refine lv_iconst (v := (-1)) hx hb dX12_mind_14 (by decide) ?_
  refine lv_goto (tgt := 30) hx hb dX12_mind_15 (by decide) ?_
  exact k_iret (0, [.int 0, .int 0, .int (-1), .int 0, .int 0, .int 0, .int 0, .ref (v 1), .ref (v 2), .ref (v 3), .ref (v 4), .ref (v 5), .ref (v 6), .ref (v 7), .ref (v 8), .ref (v 9), .int 0, .int 0, .int 0, .int 0, .int 0, .int 0, .int 0, .int 0, .int 0, .ref (v 10), .ref (v 11), .ref (v 12), .ref (v 13), .int 0, .ref (v 14), .ref (v 15), .ref (v 16), .ref (v 17), .ref (v 18), .int 0, .int 0, .int 0, .ref (v 19), .ref (v 20), .ref (v 21), .ref (v 22), .ref (v 23), .int 0, .int 0, .int 0, .int 0]) hx hb hr hlk (by refine ⟨fun h => ?_, fun h => ?_⟩ <;> first | exact False.elim h | exact ⟨rfl, rfl⟩ | rfl | exact absurd trivial h | (exfalso; simp only [k_lt, k_le, k_eq, k_L0, k_L1, k_L2, k_L3, k_L4, k_L5, k_L6, k_L7, k_L8, k_L9, k_L10, k_L15, k_L20, k_L30, k_L31, k_L40, k_L41, k_L60, k_L61, k_L99, k_L120, k_L239, k_L240, k_L479, k_L480, k_L500, k_L720, k_L999, k_L1000, k_L9999, k_Lm1] at h; omega) | (refine ⟨rfl, ?_⟩; rfl)) (hP.sub [0] rfl) (hD.sub [0] (by decide) rfl) hS (by decide) (by decide) dX12_mind_30

set_option maxHeartbeats 4000000 in
set_option maxRecDepth 100000 in
/-- the reference: clear -/
theorem m_clear_ (l : Launch) (hl0 : l.stackTraces = false) (D : va_G) (cy : Nat → ClassId) (sa : Nat → Nat) (v : Nat → Nat) (sz : Nat) : Met l yX12_clear (Cond.code yX12_clear cX12_clear 2 (some .int) :: kWS) ({ frames := 13, cells := 0, slots := 0, locals := 480 }) (kPre D cy sa [.ref (v 0)] [((v 0), .inr (13, [.int 0, .int 0, .int 0, .int (-1), .int 0, .int 0, .int 0, .int 0, .ref (v 1), .ref (v 2), .ref (v 3), .ref (v 4), .ref (v 5), .ref (v 6), .ref (v 7), .ref (v 8), .ref (v 9), .int 0, .int 0, .int 0, .int 0, .int 0, .int 0, .int 0, .int 0, .int 0, .ref (v 10), .ref (v 11), .ref (v 12), .ref (v 13), .int 0, .ref (v 14), .ref (v 15), .ref (v 16), .ref (v 17), .ref (v 18), .int 0, .int 0, .int 0, .ref (v 19), .ref (v 20), .ref (v 21), .ref (v 22), .ref (v 23), .int 0, .int 0, .int 0, .int 0]))] sz) (va_Qi (fun (r : Int32) (x : Int32 × List Value) => ((True) → x.1 = 0 ∧ r = 0) ∧ (¬ (True) → x.1 = 1)) (kB D (va_A [((v 0), .inr (13, [.int 0, .int 0, .int 0, .int (-1), .int 0, .int 0, .int 0, .int 0, .ref (v 1), .ref (v 2), .ref (v 3), .ref (v 4), .ref (v 5), .ref (v 6), .ref (v 7), .ref (v 8), .ref (v 9), .int 0, .int 0, .int 0, .int 0, .int 0, .int 0, .int 0, .int 0, .int 0, .ref (v 10), .ref (v 11), .ref (v 12), .ref (v 13), .int 0, .ref (v 14), .ref (v 15), .ref (v 16), .ref (v 17), .ref (v 18), .int 0, .int 0, .int 0, .ref (v 19), .ref (v 20), .ref (v 21), .ref (v 22), .ref (v 23), .int 0, .int 0, .int 0, .int 0]))] sz) (fun x => [((v 0), .inr (13, .int x.1 :: x.2))])) (va_A [((v 0), .inr (13, [.int 0, .int 0, .int 0, .int (-1), .int 0, .int 0, .int 0, .int 0, .ref (v 1), .ref (v 2), .ref (v 3), .ref (v 4), .ref (v 5), .ref (v 6), .ref (v 7), .ref (v 8), .ref (v 9), .int 0, .int 0, .int 0, .int 0, .int 0, .int 0, .int 0, .int 0, .int 0, .ref (v 10), .ref (v 11), .ref (v 12), .ref (v 13), .int 0, .ref (v 14), .ref (v 15), .ref (v 16), .ref (v 17), .ref (v 18), .int 0, .int 0, .int 0, .ref (v 19), .ref (v 20), .ref (v 21), .ref (v 22), .ref (v 23), .int 0, .int 0, .int 0, .int 0]))] sz)) 0 0 (va_A [((v 0), .inr (13, [.int 0, .int 0, .int 0, .int (-1), .int 0, .int 0, .int 0, .int 0, .ref (v 1), .ref (v 2), .ref (v 3), .ref (v 4), .ref (v 5), .ref (v 6), .ref (v 7), .ref (v 8), .ref (v 9), .int 0, .int 0, .int 0, .int 0, .int 0, .int 0, .int 0, .int 0, .int 0, .ref (v 10), .ref (v 11), .ref (v 12), .ref (v 13), .int 0, .ref (v 14), .ref (v 15), .ref (v 16), .ref (v 17), .ref (v 18), .int 0, .int 0, .int 0, .ref (v 19), .ref (v 20), .ref (v 21), .ref (v 22), .ref (v 23), .int 0, .int 0, .int 0, .int 0]))] sz) := by
  refine k_ofW (y := yX12_clear) (cc := cX12_clear) (maxL := 2) (ret := (some .int)) (av := [.ref (v 0)]) (ws := [((v 0), .inr (13, [.int 0, .int 0, .int 0, .int (-1), .int 0, .int 0, .int 0, .int 0, .ref (v 1), .ref (v 2), .ref (v 3), .ref (v 4), .ref (v 5), .ref (v 6), .ref (v 7), .ref (v 8), .ref (v 9), .int 0, .int 0, .int 0, .int 0, .int 0, .int 0, .int 0, .int 0, .int 0, .ref (v 10), .ref (v 11), .ref (v 12), .ref (v 13), .int 0, .ref (v 14), .ref (v 15), .ref (v 16), .ref (v 17), .ref (v 18), .int 0, .int 0, .int 0, .ref (v 19), .ref (v 20), .ref (v 21), .ref (v 22), .ref (v 23), .int 0, .int 0, .int 0, .int 0]))]) (Qc := fun A => va_Qi (fun (r : Int32) (x : Int32 × List Value) => ((True) → x.1 = 0 ∧ r = 0) ∧ (¬ (True) → x.1 = 1)) (kB D A (fun x => [((v 0), .inr (13, .int x.1 :: x.2))])) A) (by decide) (Nat.le_of_ble_eq_true rfl) ?_
  intro p e s m below meth c ls A E hA hP hD hG hS hl
  obtain ⟨hx, hb, hml, hown, hts, hr, hlk, hnm⟩ := id E
  have hown : s.vm.findClass RX12 = some m.cls := hown
  have hl : lv_has ls 2 [(0, .ref (v 0))] := hl
  obtain ⟨H, hH⟩ : ∃ H, H = s.heap := ⟨_, rfl⟩
  have hP : va_P D vwCl [((v 0), .inr (13, [.int 0, .int 0, .int 0, .int (-1), .int 0, .int 0, .int 0, .int 0, .ref (v 1), .ref (v 2), .ref (v 3), .ref (v 4), .ref (v 5), .ref (v 6), .ref (v 7), .ref (v 8), .ref (v 9), .int 0, .int 0, .int 0, .int 0, .int 0, .int 0, .int 0, .int 0, .int 0, .ref (v 10), .ref (v 11), .ref (v 12), .ref (v 13), .int 0, .ref (v 14), .ref (v 15), .ref (v 16), .ref (v 17), .ref (v 18), .int 0, .int 0, .int 0, .ref (v 19), .ref (v 20), .ref (v 21), .ref (v 22), .ref (v 23), .int 0, .int 0, .int 0, .int 0]))] H := by rw [hH]; exact hP
  have hS : va_S A s.heap H [] := by rw [hH]; exact va_S.rf
  rw [← hH]
  clear hH
  refine lv_aload_n hx hb dX12_clear_0 rfl (lv_at hl 0 rfl) ?_
  refine lv_iconst (v := 0) hx hb dX12_clear_1 (by decide) ?_
  refine va_put (D := D) (ci := 13) (v := .int 0) (ty := .int) (C := RX12) (T := TX12) (N := 48) hx hb hts kin_RX12 tyX12 tyX12_ok nmX12 hown hG.1 hP hD hS 0 rfl rfl 0 (by decide) (hts _ wm_1519) (fun _ h9 => h9) rfl (by decide +kernel) rfl rfl (Nat.le_of_ble_eq_true rfl) dX12_clear_2 (fun H locs hP hD hS => ?_)
  have hP : va_P D vwCl [((v 0), .inr (13, [.int 0, .int 0, .int 0, .int (-1), .int 0, .int 0, .int 0, .int 0, .ref (v 1), .ref (v 2), .ref (v 3), .ref (v 4), .ref (v 5), .ref (v 6), .ref (v 7), .ref (v 8), .ref (v 9), .int 0, .int 0, .int 0, .int 0, .int 0, .int 0, .int 0, .int 0, .int 0, .ref (v 10), .ref (v 11), .ref (v 12), .ref (v 13), .int 0, .ref (v 14), .ref (v 15), .ref (v 16), .ref (v 17), .ref (v 18), .int 0, .int 0, .int 0, .ref (v 19), .ref (v 20), .ref (v 21), .ref (v 22), .ref (v 23), .int 0, .int 0, .int 0, .int 0]))] H := hP
  have hD : va_D A [((v 0), .inr (13, [.int 0, .int 0, .int 0, .int (-1), .int 0, .int 0, .int 0, .int 0, .ref (v 1), .ref (v 2), .ref (v 3), .ref (v 4), .ref (v 5), .ref (v 6), .ref (v 7), .ref (v 8), .ref (v 9), .int 0, .int 0, .int 0, .int 0, .int 0, .int 0, .int 0, .int 0, .int 0, .ref (v 10), .ref (v 11), .ref (v 12), .ref (v 13), .int 0, .ref (v 14), .ref (v 15), .ref (v 16), .ref (v 17), .ref (v 18), .int 0, .int 0, .int 0, .ref (v 19), .ref (v 20), .ref (v 21), .ref (v 22), .ref (v 23), .int 0, .int 0, .int 0, .int 0]))] := hD
  refine lv_aload_n hx hb dX12_clear_5 rfl (lv_at hl 0 rfl) ?_
  refine va_get (D := D) (ci := 13) (v := .int 0) (C := RX12) (T := TX12) (N := 48) hx hb hts kin_RX12 hown hG.1 hP 0 rfl rfl 23 (by decide) (hts _ wm_1542) (fun _ h9 => h9) rfl dX12_clear_6 ?_
  refine lv_istore_n (lv' := [(1, .int 0), (0, .ref (v 0))]) hx hb dX12_clear_9 rfl hl (by decide) rfl (fun ls hl => ?_)
  refine lv_aload_n hx hb dX12_clear_10 rfl (lv_at hl 1 rfl) ?_
  refine lv_iconst (v := 0) hx hb dX12_clear_11 (by decide) ?_
  refine va_put (D := D) (ci := 13) (v := .int 0) (ty := .int) (C := RX12) (T := TX12) (N := 48) hx hb hts kin_RX12 tyX12 tyX12_ok nmX12 hown hG.1 hP hD hS 0 rfl rfl 23 (by decide) (hts _ wm_1542) (fun _ h9 => h9) rfl (by decide +kernel) rfl rfl (Nat.le_of_ble_eq_true rfl) dX12_clear_12 (fun H locs hP hD hS => ?_)
  have hP : va_P D vwCl [((v 0), .inr (13, [.int 0, .int 0, .int 0, .int (-1), .int 0, .int 0, .int 0, .int 0, .ref (v 1), .ref (v 2), .ref (v 3), .ref (v 4), .ref (v 5), .ref (v 6), .ref (v 7), .ref (v 8), .ref (v 9), .int 0, .int 0, .int 0, .int 0, .int 0, .int 0, .int 0, .int 0, .int 0, .ref (v 10), .ref (v 11), .ref (v 12), .ref (v 13), .int 0, .ref (v 14), .ref (v 15), .ref (v 16), .ref (v 17), .ref (v 18), .int 0, .int 0, .int 0, .ref (v 19), .ref (v 20), .ref (v 21), .ref (v 22), .ref (v 23), .int 0, .int 0, .int 0, .int 0]))] H := hP
  have hD : va_D A [((v 0), .inr (13, [.int 0, .int 0, .int 0, .int (-1), .int 0, .int 0, .int 0, .int 0, .ref (v 1), .ref (v 2), .ref (v 3), .ref (v 4), .ref (v 5), .ref (v 6), .ref (v 7), .ref (v 8), .ref (v 9), .int 0, .int 0, .int 0, .int 0, .int 0, .int 0, .int 0, .int 0, .int 0, .ref (v 10), .ref (v 11), .ref (v 12), .ref (v 13), .int 0, .ref (v 14), .ref (v 15), .ref (v 16), .ref (v 17), .ref (v 18), .int 0, .int 0, .int 0, .ref (v 19), .ref (v 20), .ref (v 21), .ref (v 22), .ref (v 23), .int 0, .int 0, .int 0, .int 0]))] := hD
  refine lv_iload_n hx hb dX12_clear_15 rfl (lv_at hl 0 rfl) ?_
  exact k_iret (0, [.int 0, .int 0, .int (-1), .int 0, .int 0, .int 0, .int 0, .ref (v 1), .ref (v 2), .ref (v 3), .ref (v 4), .ref (v 5), .ref (v 6), .ref (v 7), .ref (v 8), .ref (v 9), .int 0, .int 0, .int 0, .int 0, .int 0, .int 0, .int 0, .int 0, .int 0, .ref (v 10), .ref (v 11), .ref (v 12), .ref (v 13), .int 0, .ref (v 14), .ref (v 15), .ref (v 16), .ref (v 17), .ref (v 18), .int 0, .int 0, .int 0, .ref (v 19), .ref (v 20), .ref (v 21), .ref (v 22), .ref (v 23), .int 0, .int 0, .int 0, .int 0]) hx hb hr hlk (by refine ⟨fun h => ?_, fun h => ?_⟩ <;> first | exact False.elim h | exact ⟨rfl, rfl⟩ | rfl | exact absurd trivial h | (exfalso; simp only [k_lt, k_le, k_eq, k_L0, k_L1, k_L2, k_L3, k_L4, k_L5, k_L6, k_L7, k_L8, k_L9, k_L10, k_L15, k_L20, k_L30, k_L31, k_L40, k_L41, k_L60, k_L61, k_L99, k_L120, k_L239, k_L240, k_L479, k_L480, k_L500, k_L720, k_L999, k_L1000, k_L9999, k_Lm1] at h; omega) | (refine ⟨rfl, ?_⟩; rfl)) (hP.sub [0] rfl) (hD.sub [0] (by decide) rfl) hS (by decide) (by decide) dX12_clear_16

set_option maxHeartbeats 4000000 in
set_option maxRecDepth 100000 in
/-- the reference: restore -/
theorem m_restore_ (l : Launch) (hl0 : l.stackTraces = false) (D : va_G) (cy : Nat → ClassId) (sa : Nat → Nat) (v : Nat → Nat) (sz : Nat) : Met l yX12_restore (Cond.code yX12_restore cX12_restore 1 (some .int) :: kWS) ({ frames := 13, cells := 0, slots := 0, locals := 480 }) (kPre D cy sa [.ref (v 0)] [((v 0), .inr (13, [.int 0, .int 0, .int 0, .int (-1), .int 0, .int 0, .int 0, .int 0, .ref (v 1), .ref (v 2), .ref (v 3), .ref (v 4), .ref (v 5), .ref (v 6), .ref (v 7), .ref (v 8), .ref (v 9), .int 0, .int 0, .int 0, .int 0, .int 0, .int 0, .int 0, .int 0, .int 0, .ref (v 10), .ref (v 11), .ref (v 12), .ref (v 13), .int 0, .ref (v 14), .ref (v 15), .ref (v 16), .ref (v 17), .ref (v 18), .int 0, .int 0, .int 0, .ref (v 19), .ref (v 20), .ref (v 21), .ref (v 22), .ref (v 23), .int 0, .int 0, .int 0, .int 0]))] sz) (va_Qi (fun (r : Int32) (x : Int32 × List Value) => ((True) → x.1 = 0 ∧ r = -1) ∧ (¬ (True) → x.1 = 1)) (kB D (va_A [((v 0), .inr (13, [.int 0, .int 0, .int 0, .int (-1), .int 0, .int 0, .int 0, .int 0, .ref (v 1), .ref (v 2), .ref (v 3), .ref (v 4), .ref (v 5), .ref (v 6), .ref (v 7), .ref (v 8), .ref (v 9), .int 0, .int 0, .int 0, .int 0, .int 0, .int 0, .int 0, .int 0, .int 0, .ref (v 10), .ref (v 11), .ref (v 12), .ref (v 13), .int 0, .ref (v 14), .ref (v 15), .ref (v 16), .ref (v 17), .ref (v 18), .int 0, .int 0, .int 0, .ref (v 19), .ref (v 20), .ref (v 21), .ref (v 22), .ref (v 23), .int 0, .int 0, .int 0, .int 0]))] sz) (fun x => [((v 0), .inr (13, .int x.1 :: x.2))])) (va_A [((v 0), .inr (13, [.int 0, .int 0, .int 0, .int (-1), .int 0, .int 0, .int 0, .int 0, .ref (v 1), .ref (v 2), .ref (v 3), .ref (v 4), .ref (v 5), .ref (v 6), .ref (v 7), .ref (v 8), .ref (v 9), .int 0, .int 0, .int 0, .int 0, .int 0, .int 0, .int 0, .int 0, .int 0, .ref (v 10), .ref (v 11), .ref (v 12), .ref (v 13), .int 0, .ref (v 14), .ref (v 15), .ref (v 16), .ref (v 17), .ref (v 18), .int 0, .int 0, .int 0, .ref (v 19), .ref (v 20), .ref (v 21), .ref (v 22), .ref (v 23), .int 0, .int 0, .int 0, .int 0]))] sz)) 0 0 (va_A [((v 0), .inr (13, [.int 0, .int 0, .int 0, .int (-1), .int 0, .int 0, .int 0, .int 0, .ref (v 1), .ref (v 2), .ref (v 3), .ref (v 4), .ref (v 5), .ref (v 6), .ref (v 7), .ref (v 8), .ref (v 9), .int 0, .int 0, .int 0, .int 0, .int 0, .int 0, .int 0, .int 0, .int 0, .ref (v 10), .ref (v 11), .ref (v 12), .ref (v 13), .int 0, .ref (v 14), .ref (v 15), .ref (v 16), .ref (v 17), .ref (v 18), .int 0, .int 0, .int 0, .ref (v 19), .ref (v 20), .ref (v 21), .ref (v 22), .ref (v 23), .int 0, .int 0, .int 0, .int 0]))] sz) := by
  refine k_ofW (y := yX12_restore) (cc := cX12_restore) (maxL := 1) (ret := (some .int)) (av := [.ref (v 0)]) (ws := [((v 0), .inr (13, [.int 0, .int 0, .int 0, .int (-1), .int 0, .int 0, .int 0, .int 0, .ref (v 1), .ref (v 2), .ref (v 3), .ref (v 4), .ref (v 5), .ref (v 6), .ref (v 7), .ref (v 8), .ref (v 9), .int 0, .int 0, .int 0, .int 0, .int 0, .int 0, .int 0, .int 0, .int 0, .ref (v 10), .ref (v 11), .ref (v 12), .ref (v 13), .int 0, .ref (v 14), .ref (v 15), .ref (v 16), .ref (v 17), .ref (v 18), .int 0, .int 0, .int 0, .ref (v 19), .ref (v 20), .ref (v 21), .ref (v 22), .ref (v 23), .int 0, .int 0, .int 0, .int 0]))]) (Qc := fun A => va_Qi (fun (r : Int32) (x : Int32 × List Value) => ((True) → x.1 = 0 ∧ r = -1) ∧ (¬ (True) → x.1 = 1)) (kB D A (fun x => [((v 0), .inr (13, .int x.1 :: x.2))])) A) (by decide) (Nat.le_of_ble_eq_true rfl) ?_
  intro p e s m below meth c ls A E hA hP hD hG hS hl
  obtain ⟨hx, hb, hml, hown, hts, hr, hlk, hnm⟩ := id E
  have hown : s.vm.findClass RX12 = some m.cls := hown
  have hl : lv_has ls 1 [(0, .ref (v 0))] := hl
  obtain ⟨H, hH⟩ : ∃ H, H = s.heap := ⟨_, rfl⟩
  have hP : va_P D vwCl [((v 0), .inr (13, [.int 0, .int 0, .int 0, .int (-1), .int 0, .int 0, .int 0, .int 0, .ref (v 1), .ref (v 2), .ref (v 3), .ref (v 4), .ref (v 5), .ref (v 6), .ref (v 7), .ref (v 8), .ref (v 9), .int 0, .int 0, .int 0, .int 0, .int 0, .int 0, .int 0, .int 0, .int 0, .ref (v 10), .ref (v 11), .ref (v 12), .ref (v 13), .int 0, .ref (v 14), .ref (v 15), .ref (v 16), .ref (v 17), .ref (v 18), .int 0, .int 0, .int 0, .ref (v 19), .ref (v 20), .ref (v 21), .ref (v 22), .ref (v 23), .int 0, .int 0, .int 0, .int 0]))] H := by rw [hH]; exact hP
  have hS : va_S A s.heap H [] := by rw [hH]; exact va_S.rf
  rw [← hH]
  clear hH
  refine lv_aload_n hx hb dX12_restore_0 rfl (lv_at hl 0 rfl) ?_
  refine lv_iconst (v := 0) hx hb dX12_restore_1 (by decide) ?_
  refine va_put (D := D) (ci := 13) (v := .int 0) (ty := .int) (C := RX12) (T := TX12) (N := 48) hx hb hts kin_RX12 tyX12 tyX12_ok nmX12 hown hG.1 hP hD hS 0 rfl rfl 0 (by decide) (hts _ wm_1519) (fun _ h9 => h9) rfl (by decide +kernel) rfl rfl (Nat.le_of_ble_eq_true rfl) dX12_restore_2 (fun H locs hP hD hS => ?_)
  have hP : va_P D vwCl [((v 0), .inr (13, [.int 0, .int 0, .int 0, .int (-1), .int 0, .int 0, .int 0, .int 0, .ref (v 1), .ref (v 2), .ref (v 3), .ref (v 4), .ref (v 5), .ref (v 6), .ref (v 7), .ref (v 8), .ref (v 9), .int 0, .int 0, .int 0, .int 0, .int 0, .int 0, .int 0, .int 0, .int 0, .ref (v 10), .ref (v 11), .ref (v 12), .ref (v 13), .int 0, .ref (v 14), .ref (v 15), .ref (v 16), .ref (v 17), .ref (v 18), .int 0, .int 0, .int 0, .ref (v 19), .ref (v 20), .ref (v 21), .ref (v 22), .ref (v 23), .int 0, .int 0, .int 0, .int 0]))] H := hP
  have hD : va_D A [((v 0), .inr (13, [.int 0, .int 0, .int 0, .int (-1), .int 0, .int 0, .int 0, .int 0, .ref (v 1), .ref (v 2), .ref (v 3), .ref (v 4), .ref (v 5), .ref (v 6), .ref (v 7), .ref (v 8), .ref (v 9), .int 0, .int 0, .int 0, .int 0, .int 0, .int 0, .int 0, .int 0, .int 0, .ref (v 10), .ref (v 11), .ref (v 12), .ref (v 13), .int 0, .ref (v 14), .ref (v 15), .ref (v 16), .ref (v 17), .ref (v 18), .int 0, .int 0, .int 0, .ref (v 19), .ref (v 20), .ref (v 21), .ref (v 22), .ref (v 23), .int 0, .int 0, .int 0, .int 0]))] := hD
  refine lv_aload_n hx hb dX12_restore_5 rfl (lv_at hl 0 rfl) ?_
  refine va_get (D := D) (ci := 13) (v := .int 0) (C := RX12) (T := TX12) (N := 48) hx hb hts kin_RX12 hown hG.1 hP 0 rfl rfl 25 (by decide) (hts _ wm_1544) (fun _ h9 => h9) rfl dX12_restore_6 ?_
  refine lv_if_ne (tgt := 14) hx hb dX12_restore_9 (by decide) (fun h => absurd (by decide) h) (fun _ => ?_)
  refine lv_iconst (v := (-1)) hx hb dX12_restore_12 (by decide) ?_
  exact k_iret (0, [.int 0, .int 0, .int (-1), .int 0, .int 0, .int 0, .int 0, .ref (v 1), .ref (v 2), .ref (v 3), .ref (v 4), .ref (v 5), .ref (v 6), .ref (v 7), .ref (v 8), .ref (v 9), .int 0, .int 0, .int 0, .int 0, .int 0, .int 0, .int 0, .int 0, .int 0, .ref (v 10), .ref (v 11), .ref (v 12), .ref (v 13), .int 0, .ref (v 14), .ref (v 15), .ref (v 16), .ref (v 17), .ref (v 18), .int 0, .int 0, .int 0, .ref (v 19), .ref (v 20), .ref (v 21), .ref (v 22), .ref (v 23), .int 0, .int 0, .int 0, .int 0]) hx hb hr hlk (by refine ⟨fun h => ?_, fun h => ?_⟩ <;> first | exact False.elim h | exact ⟨rfl, rfl⟩ | rfl | exact absurd trivial h | (exfalso; simp only [k_lt, k_le, k_eq, k_L0, k_L1, k_L2, k_L3, k_L4, k_L5, k_L6, k_L7, k_L8, k_L9, k_L10, k_L15, k_L20, k_L30, k_L31, k_L40, k_L41, k_L60, k_L61, k_L99, k_L120, k_L239, k_L240, k_L479, k_L480, k_L500, k_L720, k_L999, k_L1000, k_L9999, k_Lm1] at h; omega) | (refine ⟨rfl, ?_⟩; rfl)) (hP.sub [0] rfl) (hD.sub [0] (by decide) rfl) hS (by decide) (by decide) dX12_restore_13

set_option maxHeartbeats 4000000 in
set_option maxRecDepth 100000 in
/-- the reference: can -/
theorem m_can_ (l : Launch) (hl0 : l.stackTraces = false) (D : va_G) (cy : Nat → ClassId) (sa : Nat → Nat) (v : Nat → Nat) (p0 : Int32) (sz : Nat) : Met l yX12_can (Cond.code yX12_can cX12_can 2 (some .boolean) :: kWS) ({ frames := 13, cells := 0, slots := 0, locals := 480 }) (kPre D cy sa [.ref (v 0), .int p0] [((v 0), .inr (13, [.int 0, .int 0, .int 0, .int (-1), .int 0, .int 0, .int 0, .int 0, .ref (v 1), .ref (v 2), .ref (v 3), .ref (v 4), .ref (v 5), .ref (v 6), .ref (v 7), .ref (v 8), .ref (v 9), .int 0, .int 0, .int 0, .int 0, .int 0, .int 0, .int 0, .int 0, .int 0, .ref (v 10), .ref (v 11), .ref (v 12), .ref (v 13), .int 0, .ref (v 14), .ref (v 15), .ref (v 16), .ref (v 17), .ref (v 18), .int 0, .int 0, .int 0, .ref (v 19), .ref (v 20), .ref (v 21), .ref (v 22), .ref (v 23), .int 0, .int 0, .int 0, .int 0])), ((v 5), .inl (cy 0, 5, .inl (fun _ => 0)))] sz) (va_Qi (fun (r : Int32) (x : Int32 × List Value) => ((False) → x.1 = 0 ∧ False) ∧ (¬ (False) → x.1 = 1)) (kB D (va_A [((v 0), .inr (13, [.int 0, .int 0, .int 0, .int (-1), .int 0, .int 0, .int 0, .int 0, .ref (v 1), .ref (v 2), .ref (v 3), .ref (v 4), .ref (v 5), .ref (v 6), .ref (v 7), .ref (v 8), .ref (v 9), .int 0, .int 0, .int 0, .int 0, .int 0, .int 0, .int 0, .int 0, .int 0, .ref (v 10), .ref (v 11), .ref (v 12), .ref (v 13), .int 0, .ref (v 14), .ref (v 15), .ref (v 16), .ref (v 17), .ref (v 18), .int 0, .int 0, .int 0, .ref (v 19), .ref (v 20), .ref (v 21), .ref (v 22), .ref (v 23), .int 0, .int 0, .int 0, .int 0])), ((v 5), .inl (cy 0, 5, .inl (fun _ => 0)))] sz) (fun x => [((v 0), .inr (13, .int x.1 :: x.2))])) (va_A [((v 0), .inr (13, [.int 0, .int 0, .int 0, .int (-1), .int 0, .int 0, .int 0, .int 0, .ref (v 1), .ref (v 2), .ref (v 3), .ref (v 4), .ref (v 5), .ref (v 6), .ref (v 7), .ref (v 8), .ref (v 9), .int 0, .int 0, .int 0, .int 0, .int 0, .int 0, .int 0, .int 0, .int 0, .ref (v 10), .ref (v 11), .ref (v 12), .ref (v 13), .int 0, .ref (v 14), .ref (v 15), .ref (v 16), .ref (v 17), .ref (v 18), .int 0, .int 0, .int 0, .ref (v 19), .ref (v 20), .ref (v 21), .ref (v 22), .ref (v 23), .int 0, .int 0, .int 0, .int 0])), ((v 5), .inl (cy 0, 5, .inl (fun _ => 0)))] sz)) 0 0 (va_A [((v 0), .inr (13, [.int 0, .int 0, .int 0, .int (-1), .int 0, .int 0, .int 0, .int 0, .ref (v 1), .ref (v 2), .ref (v 3), .ref (v 4), .ref (v 5), .ref (v 6), .ref (v 7), .ref (v 8), .ref (v 9), .int 0, .int 0, .int 0, .int 0, .int 0, .int 0, .int 0, .int 0, .int 0, .ref (v 10), .ref (v 11), .ref (v 12), .ref (v 13), .int 0, .ref (v 14), .ref (v 15), .ref (v 16), .ref (v 17), .ref (v 18), .int 0, .int 0, .int 0, .ref (v 19), .ref (v 20), .ref (v 21), .ref (v 22), .ref (v 23), .int 0, .int 0, .int 0, .int 0])), ((v 5), .inl (cy 0, 5, .inl (fun _ => 0)))] sz) := by
  refine k_ofW (y := yX12_can) (cc := cX12_can) (maxL := 2) (ret := (some .boolean)) (av := [.ref (v 0), .int p0]) (ws := [((v 0), .inr (13, [.int 0, .int 0, .int 0, .int (-1), .int 0, .int 0, .int 0, .int 0, .ref (v 1), .ref (v 2), .ref (v 3), .ref (v 4), .ref (v 5), .ref (v 6), .ref (v 7), .ref (v 8), .ref (v 9), .int 0, .int 0, .int 0, .int 0, .int 0, .int 0, .int 0, .int 0, .int 0, .ref (v 10), .ref (v 11), .ref (v 12), .ref (v 13), .int 0, .ref (v 14), .ref (v 15), .ref (v 16), .ref (v 17), .ref (v 18), .int 0, .int 0, .int 0, .ref (v 19), .ref (v 20), .ref (v 21), .ref (v 22), .ref (v 23), .int 0, .int 0, .int 0, .int 0])), ((v 5), .inl (cy 0, 5, .inl (fun _ => 0)))]) (Qc := fun A => va_Qi (fun (r : Int32) (x : Int32 × List Value) => ((False) → x.1 = 0 ∧ False) ∧ (¬ (False) → x.1 = 1)) (kB D A (fun x => [((v 0), .inr (13, .int x.1 :: x.2))])) A) (by decide) (Nat.le_of_ble_eq_true rfl) ?_
  intro p e s m below meth c ls A E hA hP hD hG hS hl
  obtain ⟨hx, hb, hml, hown, hts, hr, hlk, hnm⟩ := id E
  have hown : s.vm.findClass RX12 = some m.cls := hown
  have hl : lv_has ls 2 [(0, .ref (v 0)), (1, .int p0)] := hl
  obtain ⟨H, hH⟩ : ∃ H, H = s.heap := ⟨_, rfl⟩
  have hP : va_P D vwCl [((v 0), .inr (13, [.int 0, .int 0, .int 0, .int (-1), .int 0, .int 0, .int 0, .int 0, .ref (v 1), .ref (v 2), .ref (v 3), .ref (v 4), .ref (v 5), .ref (v 6), .ref (v 7), .ref (v 8), .ref (v 9), .int 0, .int 0, .int 0, .int 0, .int 0, .int 0, .int 0, .int 0, .int 0, .ref (v 10), .ref (v 11), .ref (v 12), .ref (v 13), .int 0, .ref (v 14), .ref (v 15), .ref (v 16), .ref (v 17), .ref (v 18), .int 0, .int 0, .int 0, .ref (v 19), .ref (v 20), .ref (v 21), .ref (v 22), .ref (v 23), .int 0, .int 0, .int 0, .int 0])), ((v 5), .inl (cy 0, 5, .inl (fun _ => 0)))] H := by rw [hH]; exact hP
  have hS : va_S A s.heap H [] := by rw [hH]; exact va_S.rf
  rw [← hH]
  clear hH
  refine lv_aload_n hx hb dX12_can_0 rfl (lv_at hl 0 rfl) ?_
  refine lv_iconst (v := 0) hx hb dX12_can_1 (by decide) ?_
  refine va_put (D := D) (ci := 13) (v := .int 0) (ty := .int) (C := RX12) (T := TX12) (N := 48) hx hb hts kin_RX12 tyX12 tyX12_ok nmX12 hown hG.1 hP hD hS 0 rfl rfl 0 (by decide) (hts _ wm_1519) (fun _ h9 => h9) rfl (by decide +kernel) rfl rfl (Nat.le_of_ble_eq_true rfl) dX12_can_2 (fun H locs hP hD hS => ?_)
  have hP : va_P D vwCl [((v 0), .inr (13, [.int 0, .int 0, .int 0, .int (-1), .int 0, .int 0, .int 0, .int 0, .ref (v 1), .ref (v 2), .ref (v 3), .ref (v 4), .ref (v 5), .ref (v 6), .ref (v 7), .ref (v 8), .ref (v 9), .int 0, .int 0, .int 0, .int 0, .int 0, .int 0, .int 0, .int 0, .int 0, .ref (v 10), .ref (v 11), .ref (v 12), .ref (v 13), .int 0, .ref (v 14), .ref (v 15), .ref (v 16), .ref (v 17), .ref (v 18), .int 0, .int 0, .int 0, .ref (v 19), .ref (v 20), .ref (v 21), .ref (v 22), .ref (v 23), .int 0, .int 0, .int 0, .int 0])), ((v 5), .inl (cy 0, 5, .inl (fun _ => 0)))] H := hP
  have hD : va_D A [((v 0), .inr (13, [.int 0, .int 0, .int 0, .int (-1), .int 0, .int 0, .int 0, .int 0, .ref (v 1), .ref (v 2), .ref (v 3), .ref (v 4), .ref (v 5), .ref (v 6), .ref (v 7), .ref (v 8), .ref (v 9), .int 0, .int 0, .int 0, .int 0, .int 0, .int 0, .int 0, .int 0, .int 0, .ref (v 10), .ref (v 11), .ref (v 12), .ref (v 13), .int 0, .ref (v 14), .ref (v 15), .ref (v 16), .ref (v 17), .ref (v 18), .int 0, .int 0, .int 0, .ref (v 19), .ref (v 20), .ref (v 21), .ref (v 22), .ref (v 23), .int 0, .int 0, .int 0, .int 0])), ((v 5), .inl (cy 0, 5, .inl (fun _ => 0)))] := hD
  refine lv_aload_n hx hb dX12_can_5 rfl (lv_at hl 0 rfl) ?_
  refine lv_aload_n hx hb dX12_can_6 rfl (lv_at hl 0 rfl) ?_
  refine lv_iload_n hx hb dX12_can_7 rfl (lv_at hl 1 rfl) ?_
  refine lv_iconst (v := 1) hx hb dX12_can_8 (by decide) ?_
  refine lv_iconst (v := 4) hx hb dX12_can_9 (by decide) ?_
  refine k_cali [] (⟨hP, hD, hG, hS, hA, rfl, rfl⟩ : kAt D cy sa A s H _ _ [((v 0), .inr (13, [.int 0, .int 0, .int 0, .int (-1), .int 0, .int 0, .int 0, .int 0, .ref (v 1), .ref (v 2), .ref (v 3), .ref (v 4), .ref (v 5), .ref (v 6), .ref (v 7), .ref (v 8), .ref (v 9), .int 0, .int 0, .int 0, .int 0, .int 0, .int 0, .int 0, .int 0, .int 0, .ref (v 10), .ref (v 11), .ref (v 12), .ref (v 13), .int 0, .ref (v 14), .ref (v 15), .ref (v 16), .ref (v 17), .ref (v 18), .int 0, .int 0, .int 0, .ref (v 19), .ref (v 20), .ref (v 21), .ref (v 22), .ref (v 23), .int 0, .int 0, .int 0, .int 0])), ((v 5), .inl (cy 0, 5, .inl (fun _ => 0)))] [0, 1]) (wr := []) rfl rfl (by decide) (k_runV 13 0 (As := [.int p0, .int 1, .int 4]) (rest := [.ref (v 0)]) E lk_VRX12_313 rfl rfl rfl (m_areBodies_14 l hl0 D cy sa v p0 H.size) (⟨hP, hD, hG, hS, hA, rfl, rfl⟩ : kAt D cy sa A s H _ _ [((v 0), .inr (13, [.int 0, .int 0, .int 0, .int (-1), .int 0, .int 0, .int 0, .int 0, .ref (v 1), .ref (v 2), .ref (v 3), .ref (v 4), .ref (v 5), .ref (v 6), .ref (v 7), .ref (v 8), .ref (v 9), .int 0, .int 0, .int 0, .int 0, .int 0, .int 0, .int 0, .int 0, .int 0, .ref (v 10), .ref (v 11), .ref (v 12), .ref (v 13), .int 0, .ref (v 14), .ref (v 15), .ref (v 16), .ref (v 17), .ref (v 18), .int 0, .int 0, .int 0, .ref (v 19), .ref (v 20), .ref (v 21), .ref (v 22), .ref (v 23), .int 0, .int 0, .int 0, .int 0])), ((v 5), .inl (cy 0, 5, .inl (fun _ => 0)))] [0, 1]) hl.1 rfl rfl ⟨rfl, rfl, ⟨Nat.le_of_ble_eq_true rfl, Nat.le_of_ble_eq_true rfl⟩, ⟨Nat.le_of_ble_eq_true rfl, Nat.le_of_ble_eq_true rfl⟩, Nat.le_of_ble_eq_true rfl⟩ dX12_can_10) (fun r1 u2 H locs hwu2 hP hD hS => ?_)
  have hP : va_P D vwCl [((v 0), .inr (13, [.int 0, .int 0, .int 0, .int (-1), .int 0, .int 0, .int 0, .int 0, .ref (v 1), .ref (v 2), .ref (v 3), .ref (v 4), .ref (v 5), .ref (v 6), .ref (v 7), .ref (v 8), .ref (v 9), .int 0, .int 0, .int 0, .int 0, .int 0, .int 0, .int 0, .int 0, .int 0, .ref (v 10), .ref (v 11), .ref (v 12), .ref (v 13), .int 0, .ref (v 14), .ref (v 15), .ref (v 16), .ref (v 17), .ref (v 18), .int 0, .int 0, .int 0, .ref (v 19), .ref (v 20), .ref (v 21), .ref (v 22), .ref (v 23), .int 0, .int 0, .int 0, .int 0])), ((v 5), .inl (cy 0, 5, .inl (fun _ => 0)))] H := hP
  have hD : va_D A [((v 0), .inr (13, [.int 0, .int 0, .int 0, .int (-1), .int 0, .int 0, .int 0, .int 0, .ref (v 1), .ref (v 2), .ref (v 3), .ref (v 4), .ref (v 5), .ref (v 6), .ref (v 7), .ref (v 8), .ref (v 9), .int 0, .int 0, .int 0, .int 0, .int 0, .int 0, .int 0, .int 0, .int 0, .ref (v 10), .ref (v 11), .ref (v 12), .ref (v 13), .int 0, .ref (v 14), .ref (v 15), .ref (v 16), .ref (v 17), .ref (v 18), .int 0, .int 0, .int 0, .ref (v 19), .ref (v 20), .ref (v 21), .ref (v 22), .ref (v 23), .int 0, .int 0, .int 0, .int 0])), ((v 5), .inl (cy 0, 5, .inl (fun _ => 0)))] := hD
  obtain rfl : r1 = 0 := hwu2
  refine lv_if_ne (tgt := 20) hx hb dX12_can_13 (by decide) (fun h => absurd (by decide) h) (fun _ => ?_)
  refine lv_iconst (v := 1) hx hb dX12_can_16 (by decide) ?_
  refine lv_goto (tgt := 21) hx hb dX12_can_17 (by decide) ?_
  refine lv_iconst (v := 1) hx hb dX12_can_21 (by decide) ?_
  refine k_cali [1] (⟨hP, hD, hG, hS, hA, rfl, rfl⟩ : kAt D cy sa A s H _ _ [((v 0), .inr (13, [.int 0, .int 0, .int 0, .int (-1), .int 0, .int 0, .int 0, .int 0, .ref (v 1), .ref (v 2), .ref (v 3), .ref (v 4), .ref (v 5), .ref (v 6), .ref (v 7), .ref (v 8), .ref (v 9), .int 0, .int 0, .int 0, .int 0, .int 0, .int 0, .int 0, .int 0, .int 0, .ref (v 10), .ref (v 11), .ref (v 12), .ref (v 13), .int 0, .ref (v 14), .ref (v 15), .ref (v 16), .ref (v 17), .ref (v 18), .int 0, .int 0, .int 0, .ref (v 19), .ref (v 20), .ref (v 21), .ref (v 22), .ref (v 23), .int 0, .int 0, .int 0, .int 0]))] [0]) (wr := [((v 5), .inl (cy 0, 5, .inl (fun _ => 0)))]) rfl rfl (by decide) (k_runV 13 0 (As := [.int 1, .int 1]) (rest := []) E lk_VRX12_169 rfl rfl rfl (m_bad1 l hl0 D cy sa v H.size) (⟨hP, hD, hG, hS, hA, rfl, rfl⟩ : kAt D cy sa A s H _ _ [((v 0), .inr (13, [.int 0, .int 0, .int 0, .int (-1), .int 0, .int 0, .int 0, .int 0, .ref (v 1), .ref (v 2), .ref (v 3), .ref (v 4), .ref (v 5), .ref (v 6), .ref (v 7), .ref (v 8), .ref (v 9), .int 0, .int 0, .int 0, .int 0, .int 0, .int 0, .int 0, .int 0, .int 0, .ref (v 10), .ref (v 11), .ref (v 12), .ref (v 13), .int 0, .ref (v 14), .ref (v 15), .ref (v 16), .ref (v 17), .ref (v 18), .int 0, .int 0, .int 0, .ref (v 19), .ref (v 20), .ref (v 21), .ref (v 22), .ref (v 23), .int 0, .int 0, .int 0, .int 0]))] [0]) hl.1 rfl rfl ⟨rfl, rfl, ⟨Nat.le_of_ble_eq_true rfl, Nat.le_of_ble_eq_true rfl⟩, ⟨Nat.le_of_ble_eq_true rfl, Nat.le_of_ble_eq_true rfl⟩, Nat.le_of_ble_eq_true rfl⟩ dX12_can_22) (fun r3 u4 H locs hwu4 hP hD hS => ?_)
  have hP : va_P D vwCl [((v 5), .inl (cy 0, 5, .inl (fun _ => 0))), ((v 0), .inr (13, [.int 1, .int 0, .int 0, .int (-1), .int 0, .int 0, .int 0, .int 0, .ref (v 1), .ref (v 2), .ref (v 3), .ref (v 4), .ref (v 5), .ref (v 6), .ref (v 7), .ref (v 8), .ref (v 9), .int 0, .int 0, .int 0, .int 0, .int 0, .int 0, .int 0, .int 0, .int 0, .ref (v 10), .ref (v 11), .ref (v 12), .ref (v 13), .int 0, .ref (v 14), .ref (v 15), .ref (v 16), .ref (v 17), .ref (v 18), .int 0, .int 0, .int 0, .ref (v 19), .ref (v 20), .ref (v 21), .ref (v 22), .ref (v 23), .int 0, .int 0, .int 0, .int 0]))] H := hP
  have hD : va_D A [((v 5), .inl (cy 0, 5, .inl (fun _ => 0))), ((v 0), .inr (13, [.int 1, .int 0, .int 0, .int (-1), .int 0, .int 0, .int 0, .int 0, .ref (v 1), .ref (v 2), .ref (v 3), .ref (v 4), .ref (v 5), .ref (v 6), .ref (v 7), .ref (v 8), .ref (v 9), .int 0, .int 0, .int 0, .int 0, .int 0, .int 0, .int 0, .int 0, .int 0, .ref (v 10), .ref (v 11), .ref (v 12), .ref (v 13), .int 0, .ref (v 14), .ref (v 15), .ref (v 16), .ref (v 17), .ref (v 18), .int 0, .int 0, .int 0, .ref (v 19), .ref (v 20), .ref (v 21), .ref (v 22), .ref (v 23), .int 0, .int 0, .int 0, .int 0]))] := hD
  obtain rfl : r3 = 1 := hwu4
  refine lv_if_eq (tgt := 30) hx hb dX12_can_25 (by decide) (fun h => absurd h (by decide)) (fun _ => ?_)
  refine lv_iconst (v := 0) hx hb dX12_can_28 (by decide) ?_
  exact k_zret (1, [.int 0, .int 0, .int (-1), .int 0, .int 0, .int 0, .int 0, .ref (v 1), .ref (v 2), .ref (v 3), .ref (v 4), .ref (v 5), .ref (v 6), .ref (v 7), .ref (v 8), .ref (v 9), .int 0, .int 0, .int 0, .int 0, .int 0, .int 0, .int 0, .int 0, .int 0, .ref (v 10), .ref (v 11), .ref (v 12), .ref (v 13), .int 0, .ref (v 14), .ref (v 15), .ref (v 16), .ref (v 17), .ref (v 18), .int 0, .int 0, .int 0, .ref (v 19), .ref (v 20), .ref (v 21), .ref (v 22), .ref (v 23), .int 0, .int 0, .int 0, .int 0]) hx hb hr hlk (k_nz (by decide)) (by refine ⟨fun h => ?_, fun h => ?_⟩ <;> first | exact False.elim h | exact ⟨rfl, rfl⟩ | rfl | exact absurd trivial h | (exfalso; simp only [k_lt, k_le, k_eq, k_L0, k_L1, k_L2, k_L3, k_L4, k_L5, k_L6, k_L7, k_L8, k_L9, k_L10, k_L15, k_L20, k_L30, k_L31, k_L40, k_L41, k_L60, k_L61, k_L99, k_L120, k_L239, k_L240, k_L479, k_L480, k_L500, k_L720, k_L999, k_L1000, k_L9999, k_Lm1] at h; omega) | (refine ⟨rfl, ?_⟩; rfl)) (hP.sub [1] rfl) (hD.sub [1] (by decide) rfl) hS (by decide) (by decide) dX12_can_29

set_option maxHeartbeats 4000000 in
set_option maxRecDepth 100000 in
/-- the reference: step -/
theorem m_step_ (l : Launch) (hl0 : l.stackTraces = false) (D : va_G) (cy : Nat → ClassId) (sa : Nat → Nat) (v : Nat → Nat) (p0 p1 : Int32) (sz : Nat) : Met l yX12_step (Cond.code yX12_step cX12_step 6 (some .int) :: kWS) ({ frames := 13, cells := 0, slots := 0, locals := 480 }) (kPre D cy sa [.ref (v 0), .int p0, .int p1] [((v 0), .inr (13, [.int 0, .int 0, .int 0, .int (-1), .int 0, .int 0, .int 0, .int 0, .ref (v 1), .ref (v 2), .ref (v 3), .ref (v 4), .ref (v 5), .ref (v 6), .ref (v 7), .ref (v 8), .ref (v 9), .int 0, .int 0, .int 0, .int 0, .int 0, .int 0, .int 0, .int 0, .int 0, .ref (v 10), .ref (v 11), .ref (v 12), .ref (v 13), .int 0, .ref (v 14), .ref (v 15), .ref (v 16), .ref (v 17), .ref (v 18), .int 0, .int 0, .int 0, .ref (v 19), .ref (v 20), .ref (v 21), .ref (v 22), .ref (v 23), .int 0, .int 0, .int 0, .int 0])), ((v 5), .inl (cy 0, 5, .inl (fun _ => 0)))] sz) (va_Qi (fun (r : Int32) (x : Int32 × List Value) => ((False) → x.1 = 0 ∧ False) ∧ (¬ (False) → x.1 = 1)) (kB D (va_A [((v 0), .inr (13, [.int 0, .int 0, .int 0, .int (-1), .int 0, .int 0, .int 0, .int 0, .ref (v 1), .ref (v 2), .ref (v 3), .ref (v 4), .ref (v 5), .ref (v 6), .ref (v 7), .ref (v 8), .ref (v 9), .int 0, .int 0, .int 0, .int 0, .int 0, .int 0, .int 0, .int 0, .int 0, .ref (v 10), .ref (v 11), .ref (v 12), .ref (v 13), .int 0, .ref (v 14), .ref (v 15), .ref (v 16), .ref (v 17), .ref (v 18), .int 0, .int 0, .int 0, .ref (v 19), .ref (v 20), .ref (v 21), .ref (v 22), .ref (v 23), .int 0, .int 0, .int 0, .int 0])), ((v 5), .inl (cy 0, 5, .inl (fun _ => 0)))] sz) (fun x => [((v 0), .inr (13, .int x.1 :: x.2))])) (va_A [((v 0), .inr (13, [.int 0, .int 0, .int 0, .int (-1), .int 0, .int 0, .int 0, .int 0, .ref (v 1), .ref (v 2), .ref (v 3), .ref (v 4), .ref (v 5), .ref (v 6), .ref (v 7), .ref (v 8), .ref (v 9), .int 0, .int 0, .int 0, .int 0, .int 0, .int 0, .int 0, .int 0, .int 0, .ref (v 10), .ref (v 11), .ref (v 12), .ref (v 13), .int 0, .ref (v 14), .ref (v 15), .ref (v 16), .ref (v 17), .ref (v 18), .int 0, .int 0, .int 0, .ref (v 19), .ref (v 20), .ref (v 21), .ref (v 22), .ref (v 23), .int 0, .int 0, .int 0, .int 0])), ((v 5), .inl (cy 0, 5, .inl (fun _ => 0)))] sz)) 0 0 (va_A [((v 0), .inr (13, [.int 0, .int 0, .int 0, .int (-1), .int 0, .int 0, .int 0, .int 0, .ref (v 1), .ref (v 2), .ref (v 3), .ref (v 4), .ref (v 5), .ref (v 6), .ref (v 7), .ref (v 8), .ref (v 9), .int 0, .int 0, .int 0, .int 0, .int 0, .int 0, .int 0, .int 0, .int 0, .ref (v 10), .ref (v 11), .ref (v 12), .ref (v 13), .int 0, .ref (v 14), .ref (v 15), .ref (v 16), .ref (v 17), .ref (v 18), .int 0, .int 0, .int 0, .ref (v 19), .ref (v 20), .ref (v 21), .ref (v 22), .ref (v 23), .int 0, .int 0, .int 0, .int 0])), ((v 5), .inl (cy 0, 5, .inl (fun _ => 0)))] sz) := by
  refine k_ofW (y := yX12_step) (cc := cX12_step) (maxL := 6) (ret := (some .int)) (av := [.ref (v 0), .int p0, .int p1]) (ws := [((v 0), .inr (13, [.int 0, .int 0, .int 0, .int (-1), .int 0, .int 0, .int 0, .int 0, .ref (v 1), .ref (v 2), .ref (v 3), .ref (v 4), .ref (v 5), .ref (v 6), .ref (v 7), .ref (v 8), .ref (v 9), .int 0, .int 0, .int 0, .int 0, .int 0, .int 0, .int 0, .int 0, .int 0, .ref (v 10), .ref (v 11), .ref (v 12), .ref (v 13), .int 0, .ref (v 14), .ref (v 15), .ref (v 16), .ref (v 17), .ref (v 18), .int 0, .int 0, .int 0, .ref (v 19), .ref (v 20), .ref (v 21), .ref (v 22), .ref (v 23), .int 0, .int 0, .int 0, .int 0])), ((v 5), .inl (cy 0, 5, .inl (fun _ => 0)))]) (Qc := fun A => va_Qi (fun (r : Int32) (x : Int32 × List Value) => ((False) → x.1 = 0 ∧ False) ∧ (¬ (False) → x.1 = 1)) (kB D A (fun x => [((v 0), .inr (13, .int x.1 :: x.2))])) A) (by decide) (Nat.le_of_ble_eq_true rfl) ?_
  intro p e s m below meth c ls A E hA hP hD hG hS hl
  obtain ⟨hx, hb, hml, hown, hts, hr, hlk, hnm⟩ := id E
  have hown : s.vm.findClass RX12 = some m.cls := hown
  have hl : lv_has ls 6 [(0, .ref (v 0)), (1, .int p0), (2, .int p1)] := hl
  obtain ⟨H, hH⟩ : ∃ H, H = s.heap := ⟨_, rfl⟩
  have hP : va_P D vwCl [((v 0), .inr (13, [.int 0, .int 0, .int 0, .int (-1), .int 0, .int 0, .int 0, .int 0, .ref (v 1), .ref (v 2), .ref (v 3), .ref (v 4), .ref (v 5), .ref (v 6), .ref (v 7), .ref (v 8), .ref (v 9), .int 0, .int 0, .int 0, .int 0, .int 0, .int 0, .int 0, .int 0, .int 0, .ref (v 10), .ref (v 11), .ref (v 12), .ref (v 13), .int 0, .ref (v 14), .ref (v 15), .ref (v 16), .ref (v 17), .ref (v 18), .int 0, .int 0, .int 0, .ref (v 19), .ref (v 20), .ref (v 21), .ref (v 22), .ref (v 23), .int 0, .int 0, .int 0, .int 0])), ((v 5), .inl (cy 0, 5, .inl (fun _ => 0)))] H := by rw [hH]; exact hP
  have hS : va_S A s.heap H [] := by rw [hH]; exact va_S.rf
  rw [← hH]
  clear hH
  refine lv_aload_n hx hb dX12_step_0 rfl (lv_at hl 0 rfl) ?_
  refine lv_iconst (v := 0) hx hb dX12_step_1 (by decide) ?_
  refine va_put (D := D) (ci := 13) (v := .int 0) (ty := .int) (C := RX12) (T := TX12) (N := 48) hx hb hts kin_RX12 tyX12 tyX12_ok nmX12 hown hG.1 hP hD hS 0 rfl rfl 0 (by decide) (hts _ wm_1519) (fun _ h9 => h9) rfl (by decide +kernel) rfl rfl (Nat.le_of_ble_eq_true rfl) dX12_step_2 (fun H locs hP hD hS => ?_)
  have hP : va_P D vwCl [((v 0), .inr (13, [.int 0, .int 0, .int 0, .int (-1), .int 0, .int 0, .int 0, .int 0, .ref (v 1), .ref (v 2), .ref (v 3), .ref (v 4), .ref (v 5), .ref (v 6), .ref (v 7), .ref (v 8), .ref (v 9), .int 0, .int 0, .int 0, .int 0, .int 0, .int 0, .int 0, .int 0, .int 0, .ref (v 10), .ref (v 11), .ref (v 12), .ref (v 13), .int 0, .ref (v 14), .ref (v 15), .ref (v 16), .ref (v 17), .ref (v 18), .int 0, .int 0, .int 0, .ref (v 19), .ref (v 20), .ref (v 21), .ref (v 22), .ref (v 23), .int 0, .int 0, .int 0, .int 0])), ((v 5), .inl (cy 0, 5, .inl (fun _ => 0)))] H := hP
  have hD : va_D A [((v 0), .inr (13, [.int 0, .int 0, .int 0, .int (-1), .int 0, .int 0, .int 0, .int 0, .ref (v 1), .ref (v 2), .ref (v 3), .ref (v 4), .ref (v 5), .ref (v 6), .ref (v 7), .ref (v 8), .ref (v 9), .int 0, .int 0, .int 0, .int 0, .int 0, .int 0, .int 0, .int 0, .int 0, .ref (v 10), .ref (v 11), .ref (v 12), .ref (v 13), .int 0, .ref (v 14), .ref (v 15), .ref (v 16), .ref (v 17), .ref (v 18), .int 0, .int 0, .int 0, .ref (v 19), .ref (v 20), .ref (v 21), .ref (v 22), .ref (v 23), .int 0, .int 0, .int 0, .int 0])), ((v 5), .inl (cy 0, 5, .inl (fun _ => 0)))] := hD
  refine lv_aload_n hx hb dX12_step_5 rfl (lv_at hl 0 rfl) ?_
  refine lv_aload_n hx hb dX12_step_6 rfl (lv_at hl 0 rfl) ?_
  refine lv_iload_n hx hb dX12_step_7 rfl (lv_at hl 1 rfl) ?_
  refine lv_iconst (v := 1) hx hb dX12_step_8 (by decide) ?_
  refine lv_iconst (v := 4) hx hb dX12_step_9 (by decide) ?_
  refine k_cali [] (⟨hP, hD, hG, hS, hA, rfl, rfl⟩ : kAt D cy sa A s H _ _ [((v 0), .inr (13, [.int 0, .int 0, .int 0, .int (-1), .int 0, .int 0, .int 0, .int 0, .ref (v 1), .ref (v 2), .ref (v 3), .ref (v 4), .ref (v 5), .ref (v 6), .ref (v 7), .ref (v 8), .ref (v 9), .int 0, .int 0, .int 0, .int 0, .int 0, .int 0, .int 0, .int 0, .int 0, .ref (v 10), .ref (v 11), .ref (v 12), .ref (v 13), .int 0, .ref (v 14), .ref (v 15), .ref (v 16), .ref (v 17), .ref (v 18), .int 0, .int 0, .int 0, .ref (v 19), .ref (v 20), .ref (v 21), .ref (v 22), .ref (v 23), .int 0, .int 0, .int 0, .int 0])), ((v 5), .inl (cy 0, 5, .inl (fun _ => 0)))] [0, 1]) (wr := []) rfl rfl (by decide) (k_runV 13 0 (As := [.int p0, .int 1, .int 4]) (rest := [.ref (v 0)]) E lk_VRX12_313 rfl rfl rfl (m_areBodies_14 l hl0 D cy sa v p0 H.size) (⟨hP, hD, hG, hS, hA, rfl, rfl⟩ : kAt D cy sa A s H _ _ [((v 0), .inr (13, [.int 0, .int 0, .int 0, .int (-1), .int 0, .int 0, .int 0, .int 0, .ref (v 1), .ref (v 2), .ref (v 3), .ref (v 4), .ref (v 5), .ref (v 6), .ref (v 7), .ref (v 8), .ref (v 9), .int 0, .int 0, .int 0, .int 0, .int 0, .int 0, .int 0, .int 0, .int 0, .ref (v 10), .ref (v 11), .ref (v 12), .ref (v 13), .int 0, .ref (v 14), .ref (v 15), .ref (v 16), .ref (v 17), .ref (v 18), .int 0, .int 0, .int 0, .ref (v 19), .ref (v 20), .ref (v 21), .ref (v 22), .ref (v 23), .int 0, .int 0, .int 0, .int 0])), ((v 5), .inl (cy 0, 5, .inl (fun _ => 0)))] [0, 1]) hl.1 rfl rfl ⟨rfl, rfl, ⟨Nat.le_of_ble_eq_true rfl, Nat.le_of_ble_eq_true rfl⟩, ⟨Nat.le_of_ble_eq_true rfl, Nat.le_of_ble_eq_true rfl⟩, Nat.le_of_ble_eq_true rfl⟩ dX12_step_10) (fun r1 u2 H locs hwu2 hP hD hS => ?_)
  have hP : va_P D vwCl [((v 0), .inr (13, [.int 0, .int 0, .int 0, .int (-1), .int 0, .int 0, .int 0, .int 0, .ref (v 1), .ref (v 2), .ref (v 3), .ref (v 4), .ref (v 5), .ref (v 6), .ref (v 7), .ref (v 8), .ref (v 9), .int 0, .int 0, .int 0, .int 0, .int 0, .int 0, .int 0, .int 0, .int 0, .ref (v 10), .ref (v 11), .ref (v 12), .ref (v 13), .int 0, .ref (v 14), .ref (v 15), .ref (v 16), .ref (v 17), .ref (v 18), .int 0, .int 0, .int 0, .ref (v 19), .ref (v 20), .ref (v 21), .ref (v 22), .ref (v 23), .int 0, .int 0, .int 0, .int 0])), ((v 5), .inl (cy 0, 5, .inl (fun _ => 0)))] H := hP
  have hD : va_D A [((v 0), .inr (13, [.int 0, .int 0, .int 0, .int (-1), .int 0, .int 0, .int 0, .int 0, .ref (v 1), .ref (v 2), .ref (v 3), .ref (v 4), .ref (v 5), .ref (v 6), .ref (v 7), .ref (v 8), .ref (v 9), .int 0, .int 0, .int 0, .int 0, .int 0, .int 0, .int 0, .int 0, .int 0, .ref (v 10), .ref (v 11), .ref (v 12), .ref (v 13), .int 0, .ref (v 14), .ref (v 15), .ref (v 16), .ref (v 17), .ref (v 18), .int 0, .int 0, .int 0, .ref (v 19), .ref (v 20), .ref (v 21), .ref (v 22), .ref (v 23), .int 0, .int 0, .int 0, .int 0])), ((v 5), .inl (cy 0, 5, .inl (fun _ => 0)))] := hD
  obtain rfl : r1 = 0 := hwu2
  refine lv_if_eq (tgt := 27) hx hb dX12_step_13 (by decide) (fun _ => ?_) (fun h => absurd (by decide) h)
  refine lv_iconst (v := 1) hx hb dX12_step_27 (by decide) ?_
  refine lv_goto (tgt := 32) hx hb dX12_step_28 (by decide) ?_
  refine lv_iconst (v := 1) hx hb dX12_step_32 (by decide) ?_
  refine k_cali [1] (⟨hP, hD, hG, hS, hA, rfl, rfl⟩ : kAt D cy sa A s H _ _ [((v 0), .inr (13, [.int 0, .int 0, .int 0, .int (-1), .int 0, .int 0, .int 0, .int 0, .ref (v 1), .ref (v 2), .ref (v 3), .ref (v 4), .ref (v 5), .ref (v 6), .ref (v 7), .ref (v 8), .ref (v 9), .int 0, .int 0, .int 0, .int 0, .int 0, .int 0, .int 0, .int 0, .int 0, .ref (v 10), .ref (v 11), .ref (v 12), .ref (v 13), .int 0, .ref (v 14), .ref (v 15), .ref (v 16), .ref (v 17), .ref (v 18), .int 0, .int 0, .int 0, .ref (v 19), .ref (v 20), .ref (v 21), .ref (v 22), .ref (v 23), .int 0, .int 0, .int 0, .int 0]))] [0]) (wr := [((v 5), .inl (cy 0, 5, .inl (fun _ => 0)))]) rfl rfl (by decide) (k_runV 13 0 (As := [.int 1, .int 1]) (rest := []) E lk_VRX12_169 rfl rfl rfl (m_bad1 l hl0 D cy sa v H.size) (⟨hP, hD, hG, hS, hA, rfl, rfl⟩ : kAt D cy sa A s H _ _ [((v 0), .inr (13, [.int 0, .int 0, .int 0, .int (-1), .int 0, .int 0, .int 0, .int 0, .ref (v 1), .ref (v 2), .ref (v 3), .ref (v 4), .ref (v 5), .ref (v 6), .ref (v 7), .ref (v 8), .ref (v 9), .int 0, .int 0, .int 0, .int 0, .int 0, .int 0, .int 0, .int 0, .int 0, .ref (v 10), .ref (v 11), .ref (v 12), .ref (v 13), .int 0, .ref (v 14), .ref (v 15), .ref (v 16), .ref (v 17), .ref (v 18), .int 0, .int 0, .int 0, .ref (v 19), .ref (v 20), .ref (v 21), .ref (v 22), .ref (v 23), .int 0, .int 0, .int 0, .int 0]))] [0]) hl.1 rfl rfl ⟨rfl, rfl, ⟨Nat.le_of_ble_eq_true rfl, Nat.le_of_ble_eq_true rfl⟩, ⟨Nat.le_of_ble_eq_true rfl, Nat.le_of_ble_eq_true rfl⟩, Nat.le_of_ble_eq_true rfl⟩ dX12_step_33) (fun r3 u4 H locs hwu4 hP hD hS => ?_)
  have hP : va_P D vwCl [((v 5), .inl (cy 0, 5, .inl (fun _ => 0))), ((v 0), .inr (13, [.int 1, .int 0, .int 0, .int (-1), .int 0, .int 0, .int 0, .int 0, .ref (v 1), .ref (v 2), .ref (v 3), .ref (v 4), .ref (v 5), .ref (v 6), .ref (v 7), .ref (v 8), .ref (v 9), .int 0, .int 0, .int 0, .int 0, .int 0, .int 0, .int 0, .int 0, .int 0, .ref (v 10), .ref (v 11), .ref (v 12), .ref (v 13), .int 0, .ref (v 14), .ref (v 15), .ref (v 16), .ref (v 17), .ref (v 18), .int 0, .int 0, .int 0, .ref (v 19), .ref (v 20), .ref (v 21), .ref (v 22), .ref (v 23), .int 0, .int 0, .int 0, .int 0]))] H := hP
  have hD : va_D A [((v 5), .inl (cy 0, 5, .inl (fun _ => 0))), ((v 0), .inr (13, [.int 1, .int 0, .int 0, .int (-1), .int 0, .int 0, .int 0, .int 0, .ref (v 1), .ref (v 2), .ref (v 3), .ref (v 4), .ref (v 5), .ref (v 6), .ref (v 7), .ref (v 8), .ref (v 9), .int 0, .int 0, .int 0, .int 0, .int 0, .int 0, .int 0, .int 0, .int 0, .ref (v 10), .ref (v 11), .ref (v 12), .ref (v 13), .int 0, .ref (v 14), .ref (v 15), .ref (v 16), .ref (v 17), .ref (v 18), .int 0, .int 0, .int 0, .ref (v 19), .ref (v 20), .ref (v 21), .ref (v 22), .ref (v 23), .int 0, .int 0, .int 0, .int 0]))] := hD
  obtain rfl : r3 = 1 := hwu4
  refine lv_if_eq (tgt := 41) hx hb dX12_step_36 (by decide) (fun h => absurd h (by decide)) (fun _ => ?_)
  refine lv_iconst (v := 0) hx hb dX12_step_39 (by decide) ?_
  exact k_iret (1, [.int 0, .int 0, .int (-1), .int 0, .int 0, .int 0, .int 0, .ref (v 1), .ref (v 2), .ref (v 3), .ref (v 4), .ref (v 5), .ref (v 6), .ref (v 7), .ref (v 8), .ref (v 9), .int 0, .int 0, .int 0, .int 0, .int 0, .int 0, .int 0, .int 0, .int 0, .ref (v 10), .ref (v 11), .ref (v 12), .ref (v 13), .int 0, .ref (v 14), .ref (v 15), .ref (v 16), .ref (v 17), .ref (v 18), .int 0, .int 0, .int 0, .ref (v 19), .ref (v 20), .ref (v 21), .ref (v 22), .ref (v 23), .int 0, .int 0, .int 0, .int 0]) hx hb hr hlk (by refine ⟨fun h => ?_, fun h => ?_⟩ <;> first | exact False.elim h | exact ⟨rfl, rfl⟩ | rfl | exact absurd trivial h | (exfalso; simp only [k_lt, k_le, k_eq, k_L0, k_L1, k_L2, k_L3, k_L4, k_L5, k_L6, k_L7, k_L8, k_L9, k_L10, k_L15, k_L20, k_L30, k_L31, k_L40, k_L41, k_L60, k_L61, k_L99, k_L120, k_L239, k_L240, k_L479, k_L480, k_L500, k_L720, k_L999, k_L1000, k_L9999, k_Lm1] at h; omega) | (refine ⟨rfl, ?_⟩; rfl)) (hP.sub [1] rfl) (hD.sub [1] (by decide) rfl) hS (by decide) (by decide) dX12_step_40

set_option maxHeartbeats 4000000 in
set_option maxRecDepth 100000 in
/-- the reference: round -/
theorem m_round_ (l : Launch) (hl0 : l.stackTraces = false) (D : va_G) (cy : Nat → ClassId) (sa : Nat → Nat) (v : Nat → Nat) (p0 p1 : Int32) (sz : Nat) : Met l yX12_round (Cond.code yX12_round cX12_round 7 (some .int) :: kWS) ({ frames := 13, cells := 0, slots := 0, locals := 480 }) (kPre D cy sa [.ref (v 0), .int p0, .int p1] [((v 0), .inr (13, [.int 0, .int 0, .int 0, .int (-1), .int 0, .int 0, .int 0, .int 0, .ref (v 1), .ref (v 2), .ref (v 3), .ref (v 4), .ref (v 5), .ref (v 6), .ref (v 7), .ref (v 8), .ref (v 9), .int 0, .int 0, .int 0, .int 0, .int 0, .int 0, .int 0, .int 0, .int 0, .ref (v 10), .ref (v 11), .ref (v 12), .ref (v 13), .int 0, .ref (v 14), .ref (v 15), .ref (v 16), .ref (v 17), .ref (v 18), .int 0, .int 0, .int 0, .ref (v 19), .ref (v 20), .ref (v 21), .ref (v 22), .ref (v 23), .int 0, .int 0, .int 0, .int 0])), ((v 5), .inl (cy 0, 5, .inl (fun _ => 0)))] sz) (va_Qi (fun (r : Int32) (x : Int32 × List Value) => ((False) → x.1 = 0 ∧ False) ∧ (¬ (False) → x.1 = 1)) (kB D (va_A [((v 0), .inr (13, [.int 0, .int 0, .int 0, .int (-1), .int 0, .int 0, .int 0, .int 0, .ref (v 1), .ref (v 2), .ref (v 3), .ref (v 4), .ref (v 5), .ref (v 6), .ref (v 7), .ref (v 8), .ref (v 9), .int 0, .int 0, .int 0, .int 0, .int 0, .int 0, .int 0, .int 0, .int 0, .ref (v 10), .ref (v 11), .ref (v 12), .ref (v 13), .int 0, .ref (v 14), .ref (v 15), .ref (v 16), .ref (v 17), .ref (v 18), .int 0, .int 0, .int 0, .ref (v 19), .ref (v 20), .ref (v 21), .ref (v 22), .ref (v 23), .int 0, .int 0, .int 0, .int 0])), ((v 5), .inl (cy 0, 5, .inl (fun _ => 0)))] sz) (fun x => [((v 0), .inr (13, .int x.1 :: x.2))])) (va_A [((v 0), .inr (13, [.int 0, .int 0, .int 0, .int (-1), .int 0, .int 0, .int 0, .int 0, .ref (v 1), .ref (v 2), .ref (v 3), .ref (v 4), .ref (v 5), .ref (v 6), .ref (v 7), .ref (v 8), .ref (v 9), .int 0, .int 0, .int 0, .int 0, .int 0, .int 0, .int 0, .int 0, .int 0, .ref (v 10), .ref (v 11), .ref (v 12), .ref (v 13), .int 0, .ref (v 14), .ref (v 15), .ref (v 16), .ref (v 17), .ref (v 18), .int 0, .int 0, .int 0, .ref (v 19), .ref (v 20), .ref (v 21), .ref (v 22), .ref (v 23), .int 0, .int 0, .int 0, .int 0])), ((v 5), .inl (cy 0, 5, .inl (fun _ => 0)))] sz)) 0 0 (va_A [((v 0), .inr (13, [.int 0, .int 0, .int 0, .int (-1), .int 0, .int 0, .int 0, .int 0, .ref (v 1), .ref (v 2), .ref (v 3), .ref (v 4), .ref (v 5), .ref (v 6), .ref (v 7), .ref (v 8), .ref (v 9), .int 0, .int 0, .int 0, .int 0, .int 0, .int 0, .int 0, .int 0, .int 0, .ref (v 10), .ref (v 11), .ref (v 12), .ref (v 13), .int 0, .ref (v 14), .ref (v 15), .ref (v 16), .ref (v 17), .ref (v 18), .int 0, .int 0, .int 0, .ref (v 19), .ref (v 20), .ref (v 21), .ref (v 22), .ref (v 23), .int 0, .int 0, .int 0, .int 0])), ((v 5), .inl (cy 0, 5, .inl (fun _ => 0)))] sz) := by
  refine k_ofW (y := yX12_round) (cc := cX12_round) (maxL := 7) (ret := (some .int)) (av := [.ref (v 0), .int p0, .int p1]) (ws := [((v 0), .inr (13, [.int 0, .int 0, .int 0, .int (-1), .int 0, .int 0, .int 0, .int 0, .ref (v 1), .ref (v 2), .ref (v 3), .ref (v 4), .ref (v 5), .ref (v 6), .ref (v 7), .ref (v 8), .ref (v 9), .int 0, .int 0, .int 0, .int 0, .int 0, .int 0, .int 0, .int 0, .int 0, .ref (v 10), .ref (v 11), .ref (v 12), .ref (v 13), .int 0, .ref (v 14), .ref (v 15), .ref (v 16), .ref (v 17), .ref (v 18), .int 0, .int 0, .int 0, .ref (v 19), .ref (v 20), .ref (v 21), .ref (v 22), .ref (v 23), .int 0, .int 0, .int 0, .int 0])), ((v 5), .inl (cy 0, 5, .inl (fun _ => 0)))]) (Qc := fun A => va_Qi (fun (r : Int32) (x : Int32 × List Value) => ((False) → x.1 = 0 ∧ False) ∧ (¬ (False) → x.1 = 1)) (kB D A (fun x => [((v 0), .inr (13, .int x.1 :: x.2))])) A) (by decide) (Nat.le_of_ble_eq_true rfl) ?_
  intro p e s m below meth c ls A E hA hP hD hG hS hl
  obtain ⟨hx, hb, hml, hown, hts, hr, hlk, hnm⟩ := id E
  have hown : s.vm.findClass RX12 = some m.cls := hown
  have hl : lv_has ls 7 [(0, .ref (v 0)), (1, .int p0), (2, .int p1)] := hl
  obtain ⟨H, hH⟩ : ∃ H, H = s.heap := ⟨_, rfl⟩
  have hP : va_P D vwCl [((v 0), .inr (13, [.int 0, .int 0, .int 0, .int (-1), .int 0, .int 0, .int 0, .int 0, .ref (v 1), .ref (v 2), .ref (v 3), .ref (v 4), .ref (v 5), .ref (v 6), .ref (v 7), .ref (v 8), .ref (v 9), .int 0, .int 0, .int 0, .int 0, .int 0, .int 0, .int 0, .int 0, .int 0, .ref (v 10), .ref (v 11), .ref (v 12), .ref (v 13), .int 0, .ref (v 14), .ref (v 15), .ref (v 16), .ref (v 17), .ref (v 18), .int 0, .int 0, .int 0, .ref (v 19), .ref (v 20), .ref (v 21), .ref (v 22), .ref (v 23), .int 0, .int 0, .int 0, .int 0])), ((v 5), .inl (cy 0, 5, .inl (fun _ => 0)))] H := by rw [hH]; exact hP
  have hS : va_S A s.heap H [] := by rw [hH]; exact va_S.rf
  rw [← hH]
  clear hH
  refine lv_aload_n hx hb dX12_round_0 rfl (lv_at hl 0 rfl) ?_
  refine lv_iconst (v := 0) hx hb dX12_round_1 (by decide) ?_
  refine va_put (D := D) (ci := 13) (v := .int 0) (ty := .int) (C := RX12) (T := TX12) (N := 48) hx hb hts kin_RX12 tyX12 tyX12_ok nmX12 hown hG.1 hP hD hS 0 rfl rfl 0 (by decide) (hts _ wm_1519) (fun _ h9 => h9) rfl (by decide +kernel) rfl rfl (Nat.le_of_ble_eq_true rfl) dX12_round_2 (fun H locs hP hD hS => ?_)
  have hP : va_P D vwCl [((v 0), .inr (13, [.int 0, .int 0, .int 0, .int (-1), .int 0, .int 0, .int 0, .int 0, .ref (v 1), .ref (v 2), .ref (v 3), .ref (v 4), .ref (v 5), .ref (v 6), .ref (v 7), .ref (v 8), .ref (v 9), .int 0, .int 0, .int 0, .int 0, .int 0, .int 0, .int 0, .int 0, .int 0, .ref (v 10), .ref (v 11), .ref (v 12), .ref (v 13), .int 0, .ref (v 14), .ref (v 15), .ref (v 16), .ref (v 17), .ref (v 18), .int 0, .int 0, .int 0, .ref (v 19), .ref (v 20), .ref (v 21), .ref (v 22), .ref (v 23), .int 0, .int 0, .int 0, .int 0])), ((v 5), .inl (cy 0, 5, .inl (fun _ => 0)))] H := hP
  have hD : va_D A [((v 0), .inr (13, [.int 0, .int 0, .int 0, .int (-1), .int 0, .int 0, .int 0, .int 0, .ref (v 1), .ref (v 2), .ref (v 3), .ref (v 4), .ref (v 5), .ref (v 6), .ref (v 7), .ref (v 8), .ref (v 9), .int 0, .int 0, .int 0, .int 0, .int 0, .int 0, .int 0, .int 0, .int 0, .ref (v 10), .ref (v 11), .ref (v 12), .ref (v 13), .int 0, .ref (v 14), .ref (v 15), .ref (v 16), .ref (v 17), .ref (v 18), .int 0, .int 0, .int 0, .ref (v 19), .ref (v 20), .ref (v 21), .ref (v 22), .ref (v 23), .int 0, .int 0, .int 0, .int 0])), ((v 5), .inl (cy 0, 5, .inl (fun _ => 0)))] := hD
  refine lv_aload_n hx hb dX12_round_5 rfl (lv_at hl 0 rfl) ?_
  refine lv_aload_n hx hb dX12_round_6 rfl (lv_at hl 0 rfl) ?_
  refine lv_iload_n hx hb dX12_round_7 rfl (lv_at hl 1 rfl) ?_
  refine lv_iconst (v := 1) hx hb dX12_round_8 (by decide) ?_
  refine lv_iconst (v := 4) hx hb dX12_round_9 (by decide) ?_
  refine k_cali [] (⟨hP, hD, hG, hS, hA, rfl, rfl⟩ : kAt D cy sa A s H _ _ [((v 0), .inr (13, [.int 0, .int 0, .int 0, .int (-1), .int 0, .int 0, .int 0, .int 0, .ref (v 1), .ref (v 2), .ref (v 3), .ref (v 4), .ref (v 5), .ref (v 6), .ref (v 7), .ref (v 8), .ref (v 9), .int 0, .int 0, .int 0, .int 0, .int 0, .int 0, .int 0, .int 0, .int 0, .ref (v 10), .ref (v 11), .ref (v 12), .ref (v 13), .int 0, .ref (v 14), .ref (v 15), .ref (v 16), .ref (v 17), .ref (v 18), .int 0, .int 0, .int 0, .ref (v 19), .ref (v 20), .ref (v 21), .ref (v 22), .ref (v 23), .int 0, .int 0, .int 0, .int 0])), ((v 5), .inl (cy 0, 5, .inl (fun _ => 0)))] [0, 1]) (wr := []) rfl rfl (by decide) (k_runV 13 0 (As := [.int p0, .int 1, .int 4]) (rest := [.ref (v 0)]) E lk_VRX12_313 rfl rfl rfl (m_areBodies_14 l hl0 D cy sa v p0 H.size) (⟨hP, hD, hG, hS, hA, rfl, rfl⟩ : kAt D cy sa A s H _ _ [((v 0), .inr (13, [.int 0, .int 0, .int 0, .int (-1), .int 0, .int 0, .int 0, .int 0, .ref (v 1), .ref (v 2), .ref (v 3), .ref (v 4), .ref (v 5), .ref (v 6), .ref (v 7), .ref (v 8), .ref (v 9), .int 0, .int 0, .int 0, .int 0, .int 0, .int 0, .int 0, .int 0, .int 0, .ref (v 10), .ref (v 11), .ref (v 12), .ref (v 13), .int 0, .ref (v 14), .ref (v 15), .ref (v 16), .ref (v 17), .ref (v 18), .int 0, .int 0, .int 0, .ref (v 19), .ref (v 20), .ref (v 21), .ref (v 22), .ref (v 23), .int 0, .int 0, .int 0, .int 0])), ((v 5), .inl (cy 0, 5, .inl (fun _ => 0)))] [0, 1]) hl.1 rfl rfl ⟨rfl, rfl, ⟨Nat.le_of_ble_eq_true rfl, Nat.le_of_ble_eq_true rfl⟩, ⟨Nat.le_of_ble_eq_true rfl, Nat.le_of_ble_eq_true rfl⟩, Nat.le_of_ble_eq_true rfl⟩ dX12_round_10) (fun r1 u2 H locs hwu2 hP hD hS => ?_)
  have hP : va_P D vwCl [((v 0), .inr (13, [.int 0, .int 0, .int 0, .int (-1), .int 0, .int 0, .int 0, .int 0, .ref (v 1), .ref (v 2), .ref (v 3), .ref (v 4), .ref (v 5), .ref (v 6), .ref (v 7), .ref (v 8), .ref (v 9), .int 0, .int 0, .int 0, .int 0, .int 0, .int 0, .int 0, .int 0, .int 0, .ref (v 10), .ref (v 11), .ref (v 12), .ref (v 13), .int 0, .ref (v 14), .ref (v 15), .ref (v 16), .ref (v 17), .ref (v 18), .int 0, .int 0, .int 0, .ref (v 19), .ref (v 20), .ref (v 21), .ref (v 22), .ref (v 23), .int 0, .int 0, .int 0, .int 0])), ((v 5), .inl (cy 0, 5, .inl (fun _ => 0)))] H := hP
  have hD : va_D A [((v 0), .inr (13, [.int 0, .int 0, .int 0, .int (-1), .int 0, .int 0, .int 0, .int 0, .ref (v 1), .ref (v 2), .ref (v 3), .ref (v 4), .ref (v 5), .ref (v 6), .ref (v 7), .ref (v 8), .ref (v 9), .int 0, .int 0, .int 0, .int 0, .int 0, .int 0, .int 0, .int 0, .int 0, .ref (v 10), .ref (v 11), .ref (v 12), .ref (v 13), .int 0, .ref (v 14), .ref (v 15), .ref (v 16), .ref (v 17), .ref (v 18), .int 0, .int 0, .int 0, .ref (v 19), .ref (v 20), .ref (v 21), .ref (v 22), .ref (v 23), .int 0, .int 0, .int 0, .int 0])), ((v 5), .inl (cy 0, 5, .inl (fun _ => 0)))] := hD
  obtain rfl : r1 = 0 := hwu2
  refine lv_if_eq (tgt := 25) hx hb dX12_round_13 (by decide) (fun _ => ?_) (fun h => absurd (by decide) h)
  refine lv_iconst (v := 1) hx hb dX12_round_25 (by decide) ?_
  refine lv_goto (tgt := 30) hx hb dX12_round_26 (by decide) ?_
  refine lv_iconst (v := 1) hx hb dX12_round_30 (by decide) ?_
  refine k_cali [1] (⟨hP, hD, hG, hS, hA, rfl, rfl⟩ : kAt D cy sa A s H _ _ [((v 0), .inr (13, [.int 0, .int 0, .int 0, .int (-1), .int 0, .int 0, .int 0, .int 0, .ref (v 1), .ref (v 2), .ref (v 3), .ref (v 4), .ref (v 5), .ref (v 6), .ref (v 7), .ref (v 8), .ref (v 9), .int 0, .int 0, .int 0, .int 0, .int 0, .int 0, .int 0, .int 0, .int 0, .ref (v 10), .ref (v 11), .ref (v 12), .ref (v 13), .int 0, .ref (v 14), .ref (v 15), .ref (v 16), .ref (v 17), .ref (v 18), .int 0, .int 0, .int 0, .ref (v 19), .ref (v 20), .ref (v 21), .ref (v 22), .ref (v 23), .int 0, .int 0, .int 0, .int 0]))] [0]) (wr := [((v 5), .inl (cy 0, 5, .inl (fun _ => 0)))]) rfl rfl (by decide) (k_runV 13 0 (As := [.int 1, .int 1]) (rest := []) E lk_VRX12_169 rfl rfl rfl (m_bad1 l hl0 D cy sa v H.size) (⟨hP, hD, hG, hS, hA, rfl, rfl⟩ : kAt D cy sa A s H _ _ [((v 0), .inr (13, [.int 0, .int 0, .int 0, .int (-1), .int 0, .int 0, .int 0, .int 0, .ref (v 1), .ref (v 2), .ref (v 3), .ref (v 4), .ref (v 5), .ref (v 6), .ref (v 7), .ref (v 8), .ref (v 9), .int 0, .int 0, .int 0, .int 0, .int 0, .int 0, .int 0, .int 0, .int 0, .ref (v 10), .ref (v 11), .ref (v 12), .ref (v 13), .int 0, .ref (v 14), .ref (v 15), .ref (v 16), .ref (v 17), .ref (v 18), .int 0, .int 0, .int 0, .ref (v 19), .ref (v 20), .ref (v 21), .ref (v 22), .ref (v 23), .int 0, .int 0, .int 0, .int 0]))] [0]) hl.1 rfl rfl ⟨rfl, rfl, ⟨Nat.le_of_ble_eq_true rfl, Nat.le_of_ble_eq_true rfl⟩, ⟨Nat.le_of_ble_eq_true rfl, Nat.le_of_ble_eq_true rfl⟩, Nat.le_of_ble_eq_true rfl⟩ dX12_round_31) (fun r3 u4 H locs hwu4 hP hD hS => ?_)
  have hP : va_P D vwCl [((v 5), .inl (cy 0, 5, .inl (fun _ => 0))), ((v 0), .inr (13, [.int 1, .int 0, .int 0, .int (-1), .int 0, .int 0, .int 0, .int 0, .ref (v 1), .ref (v 2), .ref (v 3), .ref (v 4), .ref (v 5), .ref (v 6), .ref (v 7), .ref (v 8), .ref (v 9), .int 0, .int 0, .int 0, .int 0, .int 0, .int 0, .int 0, .int 0, .int 0, .ref (v 10), .ref (v 11), .ref (v 12), .ref (v 13), .int 0, .ref (v 14), .ref (v 15), .ref (v 16), .ref (v 17), .ref (v 18), .int 0, .int 0, .int 0, .ref (v 19), .ref (v 20), .ref (v 21), .ref (v 22), .ref (v 23), .int 0, .int 0, .int 0, .int 0]))] H := hP
  have hD : va_D A [((v 5), .inl (cy 0, 5, .inl (fun _ => 0))), ((v 0), .inr (13, [.int 1, .int 0, .int 0, .int (-1), .int 0, .int 0, .int 0, .int 0, .ref (v 1), .ref (v 2), .ref (v 3), .ref (v 4), .ref (v 5), .ref (v 6), .ref (v 7), .ref (v 8), .ref (v 9), .int 0, .int 0, .int 0, .int 0, .int 0, .int 0, .int 0, .int 0, .int 0, .ref (v 10), .ref (v 11), .ref (v 12), .ref (v 13), .int 0, .ref (v 14), .ref (v 15), .ref (v 16), .ref (v 17), .ref (v 18), .int 0, .int 0, .int 0, .ref (v 19), .ref (v 20), .ref (v 21), .ref (v 22), .ref (v 23), .int 0, .int 0, .int 0, .int 0]))] := hD
  obtain rfl : r3 = 1 := hwu4
  refine lv_if_eq (tgt := 39) hx hb dX12_round_34 (by decide) (fun h => absurd h (by decide)) (fun _ => ?_)
  refine lv_iconst (v := 0) hx hb dX12_round_37 (by decide) ?_
  exact k_iret (1, [.int 0, .int 0, .int (-1), .int 0, .int 0, .int 0, .int 0, .ref (v 1), .ref (v 2), .ref (v 3), .ref (v 4), .ref (v 5), .ref (v 6), .ref (v 7), .ref (v 8), .ref (v 9), .int 0, .int 0, .int 0, .int 0, .int 0, .int 0, .int 0, .int 0, .int 0, .ref (v 10), .ref (v 11), .ref (v 12), .ref (v 13), .int 0, .ref (v 14), .ref (v 15), .ref (v 16), .ref (v 17), .ref (v 18), .int 0, .int 0, .int 0, .ref (v 19), .ref (v 20), .ref (v 21), .ref (v 22), .ref (v 23), .int 0, .int 0, .int 0, .int 0]) hx hb hr hlk (by refine ⟨fun h => ?_, fun h => ?_⟩ <;> first | exact False.elim h | exact ⟨rfl, rfl⟩ | rfl | exact absurd trivial h | (exfalso; simp only [k_lt, k_le, k_eq, k_L0, k_L1, k_L2, k_L3, k_L4, k_L5, k_L6, k_L7, k_L8, k_L9, k_L10, k_L15, k_L20, k_L30, k_L31, k_L40, k_L41, k_L60, k_L61, k_L99, k_L120, k_L239, k_L240, k_L479, k_L480, k_L500, k_L720, k_L999, k_L1000, k_L9999, k_Lm1] at h; omega) | (refine ⟨rfl, ?_⟩; rfl)) (hP.sub [1] rfl) (hD.sub [1] (by decide) rfl) hS (by decide) (by decide) dX12_round_38

set_option maxHeartbeats 4000000 in
set_option maxRecDepth 100000 in
/-- the reference: density -/
theorem m_density_ (l : Launch) (hl0 : l.stackTraces = false) (D : va_G) (cy : Nat → ClassId) (sa : Nat → Nat) (v : Nat → Nat) (p0 : Int32) (sz : Nat) : Met l yX12_density (Cond.code yX12_density cX12_density 4 (some .int) :: kWS) ({ frames := 13, cells := 0, slots := 0, locals := 480 }) (kPre D cy sa [.ref (v 0), .int p0] [((v 0), .inr (13, [.int 0, .int 0, .int 0, .int (-1), .int 0, .int 0, .int 0, .int 0, .ref (v 1), .ref (v 2), .ref (v 3), .ref (v 4), .ref (v 5), .ref (v 6), .ref (v 7), .ref (v 8), .ref (v 9), .int 0, .int 0, .int 0, .int 0, .int 0, .int 0, .int 0, .int 0, .int 0, .ref (v 10), .ref (v 11), .ref (v 12), .ref (v 13), .int 0, .ref (v 14), .ref (v 15), .ref (v 16), .ref (v 17), .ref (v 18), .int 0, .int 0, .int 0, .ref (v 19), .ref (v 20), .ref (v 21), .ref (v 22), .ref (v 23), .int 0, .int 0, .int 0, .int 0])), ((v 5), .inl (cy 0, 5, .inl (fun _ => 0)))] sz) (va_Qi (fun (r : Int32) (x : Int32 × List Value) => ((False) → x.1 = 0 ∧ False) ∧ (¬ (False) → x.1 = 1)) (kB D (va_A [((v 0), .inr (13, [.int 0, .int 0, .int 0, .int (-1), .int 0, .int 0, .int 0, .int 0, .ref (v 1), .ref (v 2), .ref (v 3), .ref (v 4), .ref (v 5), .ref (v 6), .ref (v 7), .ref (v 8), .ref (v 9), .int 0, .int 0, .int 0, .int 0, .int 0, .int 0, .int 0, .int 0, .int 0, .ref (v 10), .ref (v 11), .ref (v 12), .ref (v 13), .int 0, .ref (v 14), .ref (v 15), .ref (v 16), .ref (v 17), .ref (v 18), .int 0, .int 0, .int 0, .ref (v 19), .ref (v 20), .ref (v 21), .ref (v 22), .ref (v 23), .int 0, .int 0, .int 0, .int 0])), ((v 5), .inl (cy 0, 5, .inl (fun _ => 0)))] sz) (fun x => [((v 0), .inr (13, .int x.1 :: x.2))])) (va_A [((v 0), .inr (13, [.int 0, .int 0, .int 0, .int (-1), .int 0, .int 0, .int 0, .int 0, .ref (v 1), .ref (v 2), .ref (v 3), .ref (v 4), .ref (v 5), .ref (v 6), .ref (v 7), .ref (v 8), .ref (v 9), .int 0, .int 0, .int 0, .int 0, .int 0, .int 0, .int 0, .int 0, .int 0, .ref (v 10), .ref (v 11), .ref (v 12), .ref (v 13), .int 0, .ref (v 14), .ref (v 15), .ref (v 16), .ref (v 17), .ref (v 18), .int 0, .int 0, .int 0, .ref (v 19), .ref (v 20), .ref (v 21), .ref (v 22), .ref (v 23), .int 0, .int 0, .int 0, .int 0])), ((v 5), .inl (cy 0, 5, .inl (fun _ => 0)))] sz)) 0 0 (va_A [((v 0), .inr (13, [.int 0, .int 0, .int 0, .int (-1), .int 0, .int 0, .int 0, .int 0, .ref (v 1), .ref (v 2), .ref (v 3), .ref (v 4), .ref (v 5), .ref (v 6), .ref (v 7), .ref (v 8), .ref (v 9), .int 0, .int 0, .int 0, .int 0, .int 0, .int 0, .int 0, .int 0, .int 0, .ref (v 10), .ref (v 11), .ref (v 12), .ref (v 13), .int 0, .ref (v 14), .ref (v 15), .ref (v 16), .ref (v 17), .ref (v 18), .int 0, .int 0, .int 0, .ref (v 19), .ref (v 20), .ref (v 21), .ref (v 22), .ref (v 23), .int 0, .int 0, .int 0, .int 0])), ((v 5), .inl (cy 0, 5, .inl (fun _ => 0)))] sz) := by
  refine k_ofW (y := yX12_density) (cc := cX12_density) (maxL := 4) (ret := (some .int)) (av := [.ref (v 0), .int p0]) (ws := [((v 0), .inr (13, [.int 0, .int 0, .int 0, .int (-1), .int 0, .int 0, .int 0, .int 0, .ref (v 1), .ref (v 2), .ref (v 3), .ref (v 4), .ref (v 5), .ref (v 6), .ref (v 7), .ref (v 8), .ref (v 9), .int 0, .int 0, .int 0, .int 0, .int 0, .int 0, .int 0, .int 0, .int 0, .ref (v 10), .ref (v 11), .ref (v 12), .ref (v 13), .int 0, .ref (v 14), .ref (v 15), .ref (v 16), .ref (v 17), .ref (v 18), .int 0, .int 0, .int 0, .ref (v 19), .ref (v 20), .ref (v 21), .ref (v 22), .ref (v 23), .int 0, .int 0, .int 0, .int 0])), ((v 5), .inl (cy 0, 5, .inl (fun _ => 0)))]) (Qc := fun A => va_Qi (fun (r : Int32) (x : Int32 × List Value) => ((False) → x.1 = 0 ∧ False) ∧ (¬ (False) → x.1 = 1)) (kB D A (fun x => [((v 0), .inr (13, .int x.1 :: x.2))])) A) (by decide) (Nat.le_of_ble_eq_true rfl) ?_
  intro p e s m below meth c ls A E hA hP hD hG hS hl
  obtain ⟨hx, hb, hml, hown, hts, hr, hlk, hnm⟩ := id E
  have hown : s.vm.findClass RX12 = some m.cls := hown
  have hl : lv_has ls 4 [(0, .ref (v 0)), (1, .int p0)] := hl
  obtain ⟨H, hH⟩ : ∃ H, H = s.heap := ⟨_, rfl⟩
  have hP : va_P D vwCl [((v 0), .inr (13, [.int 0, .int 0, .int 0, .int (-1), .int 0, .int 0, .int 0, .int 0, .ref (v 1), .ref (v 2), .ref (v 3), .ref (v 4), .ref (v 5), .ref (v 6), .ref (v 7), .ref (v 8), .ref (v 9), .int 0, .int 0, .int 0, .int 0, .int 0, .int 0, .int 0, .int 0, .int 0, .ref (v 10), .ref (v 11), .ref (v 12), .ref (v 13), .int 0, .ref (v 14), .ref (v 15), .ref (v 16), .ref (v 17), .ref (v 18), .int 0, .int 0, .int 0, .ref (v 19), .ref (v 20), .ref (v 21), .ref (v 22), .ref (v 23), .int 0, .int 0, .int 0, .int 0])), ((v 5), .inl (cy 0, 5, .inl (fun _ => 0)))] H := by rw [hH]; exact hP
  have hS : va_S A s.heap H [] := by rw [hH]; exact va_S.rf
  rw [← hH]
  clear hH
  refine lv_aload_n hx hb dX12_density_0 rfl (lv_at hl 0 rfl) ?_
  refine lv_iconst (v := 0) hx hb dX12_density_1 (by decide) ?_
  refine va_put (D := D) (ci := 13) (v := .int 0) (ty := .int) (C := RX12) (T := TX12) (N := 48) hx hb hts kin_RX12 tyX12 tyX12_ok nmX12 hown hG.1 hP hD hS 0 rfl rfl 0 (by decide) (hts _ wm_1519) (fun _ h9 => h9) rfl (by decide +kernel) rfl rfl (Nat.le_of_ble_eq_true rfl) dX12_density_2 (fun H locs hP hD hS => ?_)
  have hP : va_P D vwCl [((v 0), .inr (13, [.int 0, .int 0, .int 0, .int (-1), .int 0, .int 0, .int 0, .int 0, .ref (v 1), .ref (v 2), .ref (v 3), .ref (v 4), .ref (v 5), .ref (v 6), .ref (v 7), .ref (v 8), .ref (v 9), .int 0, .int 0, .int 0, .int 0, .int 0, .int 0, .int 0, .int 0, .int 0, .ref (v 10), .ref (v 11), .ref (v 12), .ref (v 13), .int 0, .ref (v 14), .ref (v 15), .ref (v 16), .ref (v 17), .ref (v 18), .int 0, .int 0, .int 0, .ref (v 19), .ref (v 20), .ref (v 21), .ref (v 22), .ref (v 23), .int 0, .int 0, .int 0, .int 0])), ((v 5), .inl (cy 0, 5, .inl (fun _ => 0)))] H := hP
  have hD : va_D A [((v 0), .inr (13, [.int 0, .int 0, .int 0, .int (-1), .int 0, .int 0, .int 0, .int 0, .ref (v 1), .ref (v 2), .ref (v 3), .ref (v 4), .ref (v 5), .ref (v 6), .ref (v 7), .ref (v 8), .ref (v 9), .int 0, .int 0, .int 0, .int 0, .int 0, .int 0, .int 0, .int 0, .int 0, .ref (v 10), .ref (v 11), .ref (v 12), .ref (v 13), .int 0, .ref (v 14), .ref (v 15), .ref (v 16), .ref (v 17), .ref (v 18), .int 0, .int 0, .int 0, .ref (v 19), .ref (v 20), .ref (v 21), .ref (v 22), .ref (v 23), .int 0, .int 0, .int 0, .int 0])), ((v 5), .inl (cy 0, 5, .inl (fun _ => 0)))] := hD
  refine lv_aload_n hx hb dX12_density_5 rfl (lv_at hl 0 rfl) ?_
  refine lv_aload_n hx hb dX12_density_6 rfl (lv_at hl 0 rfl) ?_
  refine lv_iload_n hx hb dX12_density_7 rfl (lv_at hl 1 rfl) ?_
  refine lv_iconst (v := 1) hx hb dX12_density_8 (by decide) ?_
  refine lv_iconst (v := 4) hx hb dX12_density_9 (by decide) ?_
  refine k_cali [] (⟨hP, hD, hG, hS, hA, rfl, rfl⟩ : kAt D cy sa A s H _ _ [((v 0), .inr (13, [.int 0, .int 0, .int 0, .int (-1), .int 0, .int 0, .int 0, .int 0, .ref (v 1), .ref (v 2), .ref (v 3), .ref (v 4), .ref (v 5), .ref (v 6), .ref (v 7), .ref (v 8), .ref (v 9), .int 0, .int 0, .int 0, .int 0, .int 0, .int 0, .int 0, .int 0, .int 0, .ref (v 10), .ref (v 11), .ref (v 12), .ref (v 13), .int 0, .ref (v 14), .ref (v 15), .ref (v 16), .ref (v 17), .ref (v 18), .int 0, .int 0, .int 0, .ref (v 19), .ref (v 20), .ref (v 21), .ref (v 22), .ref (v 23), .int 0, .int 0, .int 0, .int 0])), ((v 5), .inl (cy 0, 5, .inl (fun _ => 0)))] [0, 1]) (wr := []) rfl rfl (by decide) (k_runV 13 0 (As := [.int p0, .int 1, .int 4]) (rest := [.ref (v 0)]) E lk_VRX12_313 rfl rfl rfl (m_areBodies_14 l hl0 D cy sa v p0 H.size) (⟨hP, hD, hG, hS, hA, rfl, rfl⟩ : kAt D cy sa A s H _ _ [((v 0), .inr (13, [.int 0, .int 0, .int 0, .int (-1), .int 0, .int 0, .int 0, .int 0, .ref (v 1), .ref (v 2), .ref (v 3), .ref (v 4), .ref (v 5), .ref (v 6), .ref (v 7), .ref (v 8), .ref (v 9), .int 0, .int 0, .int 0, .int 0, .int 0, .int 0, .int 0, .int 0, .int 0, .ref (v 10), .ref (v 11), .ref (v 12), .ref (v 13), .int 0, .ref (v 14), .ref (v 15), .ref (v 16), .ref (v 17), .ref (v 18), .int 0, .int 0, .int 0, .ref (v 19), .ref (v 20), .ref (v 21), .ref (v 22), .ref (v 23), .int 0, .int 0, .int 0, .int 0])), ((v 5), .inl (cy 0, 5, .inl (fun _ => 0)))] [0, 1]) hl.1 rfl rfl ⟨rfl, rfl, ⟨Nat.le_of_ble_eq_true rfl, Nat.le_of_ble_eq_true rfl⟩, ⟨Nat.le_of_ble_eq_true rfl, Nat.le_of_ble_eq_true rfl⟩, Nat.le_of_ble_eq_true rfl⟩ dX12_density_10) (fun r1 u2 H locs hwu2 hP hD hS => ?_)
  have hP : va_P D vwCl [((v 0), .inr (13, [.int 0, .int 0, .int 0, .int (-1), .int 0, .int 0, .int 0, .int 0, .ref (v 1), .ref (v 2), .ref (v 3), .ref (v 4), .ref (v 5), .ref (v 6), .ref (v 7), .ref (v 8), .ref (v 9), .int 0, .int 0, .int 0, .int 0, .int 0, .int 0, .int 0, .int 0, .int 0, .ref (v 10), .ref (v 11), .ref (v 12), .ref (v 13), .int 0, .ref (v 14), .ref (v 15), .ref (v 16), .ref (v 17), .ref (v 18), .int 0, .int 0, .int 0, .ref (v 19), .ref (v 20), .ref (v 21), .ref (v 22), .ref (v 23), .int 0, .int 0, .int 0, .int 0])), ((v 5), .inl (cy 0, 5, .inl (fun _ => 0)))] H := hP
  have hD : va_D A [((v 0), .inr (13, [.int 0, .int 0, .int 0, .int (-1), .int 0, .int 0, .int 0, .int 0, .ref (v 1), .ref (v 2), .ref (v 3), .ref (v 4), .ref (v 5), .ref (v 6), .ref (v 7), .ref (v 8), .ref (v 9), .int 0, .int 0, .int 0, .int 0, .int 0, .int 0, .int 0, .int 0, .int 0, .ref (v 10), .ref (v 11), .ref (v 12), .ref (v 13), .int 0, .ref (v 14), .ref (v 15), .ref (v 16), .ref (v 17), .ref (v 18), .int 0, .int 0, .int 0, .ref (v 19), .ref (v 20), .ref (v 21), .ref (v 22), .ref (v 23), .int 0, .int 0, .int 0, .int 0])), ((v 5), .inl (cy 0, 5, .inl (fun _ => 0)))] := hD
  obtain rfl : r1 = 0 := hwu2
  refine lv_if_ne (tgt := 20) hx hb dX12_density_13 (by decide) (fun h => absurd (by decide) h) (fun _ => ?_)
  refine lv_iconst (v := 1) hx hb dX12_density_16 (by decide) ?_
  refine lv_goto (tgt := 21) hx hb dX12_density_17 (by decide) ?_
  refine lv_iconst (v := 1) hx hb dX12_density_21 (by decide) ?_
  refine k_cali [1] (⟨hP, hD, hG, hS, hA, rfl, rfl⟩ : kAt D cy sa A s H _ _ [((v 0), .inr (13, [.int 0, .int 0, .int 0, .int (-1), .int 0, .int 0, .int 0, .int 0, .ref (v 1), .ref (v 2), .ref (v 3), .ref (v 4), .ref (v 5), .ref (v 6), .ref (v 7), .ref (v 8), .ref (v 9), .int 0, .int 0, .int 0, .int 0, .int 0, .int 0, .int 0, .int 0, .int 0, .ref (v 10), .ref (v 11), .ref (v 12), .ref (v 13), .int 0, .ref (v 14), .ref (v 15), .ref (v 16), .ref (v 17), .ref (v 18), .int 0, .int 0, .int 0, .ref (v 19), .ref (v 20), .ref (v 21), .ref (v 22), .ref (v 23), .int 0, .int 0, .int 0, .int 0]))] [0]) (wr := [((v 5), .inl (cy 0, 5, .inl (fun _ => 0)))]) rfl rfl (by decide) (k_runV 13 0 (As := [.int 1, .int 1]) (rest := []) E lk_VRX12_169 rfl rfl rfl (m_bad1 l hl0 D cy sa v H.size) (⟨hP, hD, hG, hS, hA, rfl, rfl⟩ : kAt D cy sa A s H _ _ [((v 0), .inr (13, [.int 0, .int 0, .int 0, .int (-1), .int 0, .int 0, .int 0, .int 0, .ref (v 1), .ref (v 2), .ref (v 3), .ref (v 4), .ref (v 5), .ref (v 6), .ref (v 7), .ref (v 8), .ref (v 9), .int 0, .int 0, .int 0, .int 0, .int 0, .int 0, .int 0, .int 0, .int 0, .ref (v 10), .ref (v 11), .ref (v 12), .ref (v 13), .int 0, .ref (v 14), .ref (v 15), .ref (v 16), .ref (v 17), .ref (v 18), .int 0, .int 0, .int 0, .ref (v 19), .ref (v 20), .ref (v 21), .ref (v 22), .ref (v 23), .int 0, .int 0, .int 0, .int 0]))] [0]) hl.1 rfl rfl ⟨rfl, rfl, ⟨Nat.le_of_ble_eq_true rfl, Nat.le_of_ble_eq_true rfl⟩, ⟨Nat.le_of_ble_eq_true rfl, Nat.le_of_ble_eq_true rfl⟩, Nat.le_of_ble_eq_true rfl⟩ dX12_density_22) (fun r3 u4 H locs hwu4 hP hD hS => ?_)
  have hP : va_P D vwCl [((v 5), .inl (cy 0, 5, .inl (fun _ => 0))), ((v 0), .inr (13, [.int 1, .int 0, .int 0, .int (-1), .int 0, .int 0, .int 0, .int 0, .ref (v 1), .ref (v 2), .ref (v 3), .ref (v 4), .ref (v 5), .ref (v 6), .ref (v 7), .ref (v 8), .ref (v 9), .int 0, .int 0, .int 0, .int 0, .int 0, .int 0, .int 0, .int 0, .int 0, .ref (v 10), .ref (v 11), .ref (v 12), .ref (v 13), .int 0, .ref (v 14), .ref (v 15), .ref (v 16), .ref (v 17), .ref (v 18), .int 0, .int 0, .int 0, .ref (v 19), .ref (v 20), .ref (v 21), .ref (v 22), .ref (v 23), .int 0, .int 0, .int 0, .int 0]))] H := hP
  have hD : va_D A [((v 5), .inl (cy 0, 5, .inl (fun _ => 0))), ((v 0), .inr (13, [.int 1, .int 0, .int 0, .int (-1), .int 0, .int 0, .int 0, .int 0, .ref (v 1), .ref (v 2), .ref (v 3), .ref (v 4), .ref (v 5), .ref (v 6), .ref (v 7), .ref (v 8), .ref (v 9), .int 0, .int 0, .int 0, .int 0, .int 0, .int 0, .int 0, .int 0, .int 0, .ref (v 10), .ref (v 11), .ref (v 12), .ref (v 13), .int 0, .ref (v 14), .ref (v 15), .ref (v 16), .ref (v 17), .ref (v 18), .int 0, .int 0, .int 0, .ref (v 19), .ref (v 20), .ref (v 21), .ref (v 22), .ref (v 23), .int 0, .int 0, .int 0, .int 0]))] := hD
  obtain rfl : r3 = 1 := hwu4
  refine lv_if_eq (tgt := 30) hx hb dX12_density_25 (by decide) (fun h => absurd h (by decide)) (fun _ => ?_)
  refine lv_iconst (v := 0) hx hb dX12_density_28 (by decide) ?_
  exact k_iret (1, [.int 0, .int 0, .int (-1), .int 0, .int 0, .int 0, .int 0, .ref (v 1), .ref (v 2), .ref (v 3), .ref (v 4), .ref (v 5), .ref (v 6), .ref (v 7), .ref (v 8), .ref (v 9), .int 0, .int 0, .int 0, .int 0, .int 0, .int 0, .int 0, .int 0, .int 0, .ref (v 10), .ref (v 11), .ref (v 12), .ref (v 13), .int 0, .ref (v 14), .ref (v 15), .ref (v 16), .ref (v 17), .ref (v 18), .int 0, .int 0, .int 0, .ref (v 19), .ref (v 20), .ref (v 21), .ref (v 22), .ref (v 23), .int 0, .int 0, .int 0, .int 0]) hx hb hr hlk (by refine ⟨fun h => ?_, fun h => ?_⟩ <;> first | exact False.elim h | exact ⟨rfl, rfl⟩ | rfl | exact absurd trivial h | (exfalso; simp only [k_lt, k_le, k_eq, k_L0, k_L1, k_L2, k_L3, k_L4, k_L5, k_L6, k_L7, k_L8, k_L9, k_L10, k_L15, k_L20, k_L30, k_L31, k_L40, k_L41, k_L60, k_L61, k_L99, k_L120, k_L239, k_L240, k_L479, k_L480, k_L500, k_L720, k_L999, k_L1000, k_L9999, k_Lm1] at h; omega) | (refine ⟨rfl, ?_⟩; rfl)) (hP.sub [1] rfl) (hD.sub [1] (by decide) rfl) hS (by decide) (by decide) dX12_density_29

set_option maxHeartbeats 4000000 in
set_option maxRecDepth 100000 in
/-- the reference: two -/
theorem m_two_ (l : Launch) (hl0 : l.stackTraces = false) (D : va_G) (cy : Nat → ClassId) (sa : Nat → Nat) (v : Nat → Nat) (p0 : Int32) (sz : Nat) : Met l yX12_two (Cond.code yX12_two cX12_two 4 (some .int) :: kWS) ({ frames := 13, cells := 0, slots := 0, locals := 480 }) (kPre D cy sa [.ref (v 0), .int p0] [((v 0), .inr (13, [.int 0, .int 0, .int 0, .int (-1), .int 0, .int 0, .int 0, .int 0, .ref (v 1), .ref (v 2), .ref (v 3), .ref (v 4), .ref (v 5), .ref (v 6), .ref (v 7), .ref (v 8), .ref (v 9), .int 0, .int 0, .int 0, .int 0, .int 0, .int 0, .int 0, .int 0, .int 0, .ref (v 10), .ref (v 11), .ref (v 12), .ref (v 13), .int 0, .ref (v 14), .ref (v 15), .ref (v 16), .ref (v 17), .ref (v 18), .int 0, .int 0, .int 0, .ref (v 19), .ref (v 20), .ref (v 21), .ref (v 22), .ref (v 23), .int 0, .int 0, .int 0, .int 0])), ((v 5), .inl (cy 0, 5, .inl (fun _ => 0)))] sz) (va_Qi (fun (r : Int32) (x : Int32 × List Value) => ((False) → x.1 = 0 ∧ False) ∧ (¬ (False) → x.1 = 1)) (kB D (va_A [((v 0), .inr (13, [.int 0, .int 0, .int 0, .int (-1), .int 0, .int 0, .int 0, .int 0, .ref (v 1), .ref (v 2), .ref (v 3), .ref (v 4), .ref (v 5), .ref (v 6), .ref (v 7), .ref (v 8), .ref (v 9), .int 0, .int 0, .int 0, .int 0, .int 0, .int 0, .int 0, .int 0, .int 0, .ref (v 10), .ref (v 11), .ref (v 12), .ref (v 13), .int 0, .ref (v 14), .ref (v 15), .ref (v 16), .ref (v 17), .ref (v 18), .int 0, .int 0, .int 0, .ref (v 19), .ref (v 20), .ref (v 21), .ref (v 22), .ref (v 23), .int 0, .int 0, .int 0, .int 0])), ((v 5), .inl (cy 0, 5, .inl (fun _ => 0)))] sz) (fun x => [((v 0), .inr (13, .int x.1 :: x.2))])) (va_A [((v 0), .inr (13, [.int 0, .int 0, .int 0, .int (-1), .int 0, .int 0, .int 0, .int 0, .ref (v 1), .ref (v 2), .ref (v 3), .ref (v 4), .ref (v 5), .ref (v 6), .ref (v 7), .ref (v 8), .ref (v 9), .int 0, .int 0, .int 0, .int 0, .int 0, .int 0, .int 0, .int 0, .int 0, .ref (v 10), .ref (v 11), .ref (v 12), .ref (v 13), .int 0, .ref (v 14), .ref (v 15), .ref (v 16), .ref (v 17), .ref (v 18), .int 0, .int 0, .int 0, .ref (v 19), .ref (v 20), .ref (v 21), .ref (v 22), .ref (v 23), .int 0, .int 0, .int 0, .int 0])), ((v 5), .inl (cy 0, 5, .inl (fun _ => 0)))] sz)) 0 0 (va_A [((v 0), .inr (13, [.int 0, .int 0, .int 0, .int (-1), .int 0, .int 0, .int 0, .int 0, .ref (v 1), .ref (v 2), .ref (v 3), .ref (v 4), .ref (v 5), .ref (v 6), .ref (v 7), .ref (v 8), .ref (v 9), .int 0, .int 0, .int 0, .int 0, .int 0, .int 0, .int 0, .int 0, .int 0, .ref (v 10), .ref (v 11), .ref (v 12), .ref (v 13), .int 0, .ref (v 14), .ref (v 15), .ref (v 16), .ref (v 17), .ref (v 18), .int 0, .int 0, .int 0, .ref (v 19), .ref (v 20), .ref (v 21), .ref (v 22), .ref (v 23), .int 0, .int 0, .int 0, .int 0])), ((v 5), .inl (cy 0, 5, .inl (fun _ => 0)))] sz) := by
  refine k_ofW (y := yX12_two) (cc := cX12_two) (maxL := 4) (ret := (some .int)) (av := [.ref (v 0), .int p0]) (ws := [((v 0), .inr (13, [.int 0, .int 0, .int 0, .int (-1), .int 0, .int 0, .int 0, .int 0, .ref (v 1), .ref (v 2), .ref (v 3), .ref (v 4), .ref (v 5), .ref (v 6), .ref (v 7), .ref (v 8), .ref (v 9), .int 0, .int 0, .int 0, .int 0, .int 0, .int 0, .int 0, .int 0, .int 0, .ref (v 10), .ref (v 11), .ref (v 12), .ref (v 13), .int 0, .ref (v 14), .ref (v 15), .ref (v 16), .ref (v 17), .ref (v 18), .int 0, .int 0, .int 0, .ref (v 19), .ref (v 20), .ref (v 21), .ref (v 22), .ref (v 23), .int 0, .int 0, .int 0, .int 0])), ((v 5), .inl (cy 0, 5, .inl (fun _ => 0)))]) (Qc := fun A => va_Qi (fun (r : Int32) (x : Int32 × List Value) => ((False) → x.1 = 0 ∧ False) ∧ (¬ (False) → x.1 = 1)) (kB D A (fun x => [((v 0), .inr (13, .int x.1 :: x.2))])) A) (by decide) (Nat.le_of_ble_eq_true rfl) ?_
  intro p e s m below meth c ls A E hA hP hD hG hS hl
  obtain ⟨hx, hb, hml, hown, hts, hr, hlk, hnm⟩ := id E
  have hown : s.vm.findClass RX12 = some m.cls := hown
  have hl : lv_has ls 4 [(0, .ref (v 0)), (1, .int p0)] := hl
  obtain ⟨H, hH⟩ : ∃ H, H = s.heap := ⟨_, rfl⟩
  have hP : va_P D vwCl [((v 0), .inr (13, [.int 0, .int 0, .int 0, .int (-1), .int 0, .int 0, .int 0, .int 0, .ref (v 1), .ref (v 2), .ref (v 3), .ref (v 4), .ref (v 5), .ref (v 6), .ref (v 7), .ref (v 8), .ref (v 9), .int 0, .int 0, .int 0, .int 0, .int 0, .int 0, .int 0, .int 0, .int 0, .ref (v 10), .ref (v 11), .ref (v 12), .ref (v 13), .int 0, .ref (v 14), .ref (v 15), .ref (v 16), .ref (v 17), .ref (v 18), .int 0, .int 0, .int 0, .ref (v 19), .ref (v 20), .ref (v 21), .ref (v 22), .ref (v 23), .int 0, .int 0, .int 0, .int 0])), ((v 5), .inl (cy 0, 5, .inl (fun _ => 0)))] H := by rw [hH]; exact hP
  have hS : va_S A s.heap H [] := by rw [hH]; exact va_S.rf
  rw [← hH]
  clear hH
  refine lv_aload_n hx hb dX12_two_0 rfl (lv_at hl 0 rfl) ?_
  refine lv_iconst (v := 0) hx hb dX12_two_1 (by decide) ?_
  refine va_put (D := D) (ci := 13) (v := .int 0) (ty := .int) (C := RX12) (T := TX12) (N := 48) hx hb hts kin_RX12 tyX12 tyX12_ok nmX12 hown hG.1 hP hD hS 0 rfl rfl 0 (by decide) (hts _ wm_1519) (fun _ h9 => h9) rfl (by decide +kernel) rfl rfl (Nat.le_of_ble_eq_true rfl) dX12_two_2 (fun H locs hP hD hS => ?_)
  have hP : va_P D vwCl [((v 0), .inr (13, [.int 0, .int 0, .int 0, .int (-1), .int 0, .int 0, .int 0, .int 0, .ref (v 1), .ref (v 2), .ref (v 3), .ref (v 4), .ref (v 5), .ref (v 6), .ref (v 7), .ref (v 8), .ref (v 9), .int 0, .int 0, .int 0, .int 0, .int 0, .int 0, .int 0, .int 0, .int 0, .ref (v 10), .ref (v 11), .ref (v 12), .ref (v 13), .int 0, .ref (v 14), .ref (v 15), .ref (v 16), .ref (v 17), .ref (v 18), .int 0, .int 0, .int 0, .ref (v 19), .ref (v 20), .ref (v 21), .ref (v 22), .ref (v 23), .int 0, .int 0, .int 0, .int 0])), ((v 5), .inl (cy 0, 5, .inl (fun _ => 0)))] H := hP
  have hD : va_D A [((v 0), .inr (13, [.int 0, .int 0, .int 0, .int (-1), .int 0, .int 0, .int 0, .int 0, .ref (v 1), .ref (v 2), .ref (v 3), .ref (v 4), .ref (v 5), .ref (v 6), .ref (v 7), .ref (v 8), .ref (v 9), .int 0, .int 0, .int 0, .int 0, .int 0, .int 0, .int 0, .int 0, .int 0, .ref (v 10), .ref (v 11), .ref (v 12), .ref (v 13), .int 0, .ref (v 14), .ref (v 15), .ref (v 16), .ref (v 17), .ref (v 18), .int 0, .int 0, .int 0, .ref (v 19), .ref (v 20), .ref (v 21), .ref (v 22), .ref (v 23), .int 0, .int 0, .int 0, .int 0])), ((v 5), .inl (cy 0, 5, .inl (fun _ => 0)))] := hD
  refine lv_aload_n hx hb dX12_two_5 rfl (lv_at hl 0 rfl) ?_
  refine lv_aload_n hx hb dX12_two_6 rfl (lv_at hl 0 rfl) ?_
  refine lv_iload_n hx hb dX12_two_7 rfl (lv_at hl 1 rfl) ?_
  refine lv_iconst (v := 2) hx hb dX12_two_8 (by decide) ?_
  refine lv_bipush (v := 6) hx hb dX12_two_9 (by decide) ?_
  refine k_cali [] (⟨hP, hD, hG, hS, hA, rfl, rfl⟩ : kAt D cy sa A s H _ _ [((v 0), .inr (13, [.int 0, .int 0, .int 0, .int (-1), .int 0, .int 0, .int 0, .int 0, .ref (v 1), .ref (v 2), .ref (v 3), .ref (v 4), .ref (v 5), .ref (v 6), .ref (v 7), .ref (v 8), .ref (v 9), .int 0, .int 0, .int 0, .int 0, .int 0, .int 0, .int 0, .int 0, .int 0, .ref (v 10), .ref (v 11), .ref (v 12), .ref (v 13), .int 0, .ref (v 14), .ref (v 15), .ref (v 16), .ref (v 17), .ref (v 18), .int 0, .int 0, .int 0, .ref (v 19), .ref (v 20), .ref (v 21), .ref (v 22), .ref (v 23), .int 0, .int 0, .int 0, .int 0])), ((v 5), .inl (cy 0, 5, .inl (fun _ => 0)))] [0, 1]) (wr := []) rfl rfl (by decide) (k_runV 13 0 (As := [.int p0, .int 2, .int 6]) (rest := [.ref (v 0)]) E lk_VRX12_313 rfl rfl rfl (m_areBodies_26 l hl0 D cy sa v p0 H.size) (⟨hP, hD, hG, hS, hA, rfl, rfl⟩ : kAt D cy sa A s H _ _ [((v 0), .inr (13, [.int 0, .int 0, .int 0, .int (-1), .int 0, .int 0, .int 0, .int 0, .ref (v 1), .ref (v 2), .ref (v 3), .ref (v 4), .ref (v 5), .ref (v 6), .ref (v 7), .ref (v 8), .ref (v 9), .int 0, .int 0, .int 0, .int 0, .int 0, .int 0, .int 0, .int 0, .int 0, .ref (v 10), .ref (v 11), .ref (v 12), .ref (v 13), .int 0, .ref (v 14), .ref (v 15), .ref (v 16), .ref (v 17), .ref (v 18), .int 0, .int 0, .int 0, .ref (v 19), .ref (v 20), .ref (v 21), .ref (v 22), .ref (v 23), .int 0, .int 0, .int 0, .int 0])), ((v 5), .inl (cy 0, 5, .inl (fun _ => 0)))] [0, 1]) hl.1 rfl rfl ⟨rfl, rfl, ⟨Nat.le_of_ble_eq_true rfl, Nat.le_of_ble_eq_true rfl⟩, ⟨Nat.le_of_ble_eq_true rfl, Nat.le_of_ble_eq_true rfl⟩, Nat.le_of_ble_eq_true rfl⟩ dX12_two_11) (fun r1 u2 H locs hwu2 hP hD hS => ?_)
  have hP : va_P D vwCl [((v 0), .inr (13, [.int 0, .int 0, .int 0, .int (-1), .int 0, .int 0, .int 0, .int 0, .ref (v 1), .ref (v 2), .ref (v 3), .ref (v 4), .ref (v 5), .ref (v 6), .ref (v 7), .ref (v 8), .ref (v 9), .int 0, .int 0, .int 0, .int 0, .int 0, .int 0, .int 0, .int 0, .int 0, .ref (v 10), .ref (v 11), .ref (v 12), .ref (v 13), .int 0, .ref (v 14), .ref (v 15), .ref (v 16), .ref (v 17), .ref (v 18), .int 0, .int 0, .int 0, .ref (v 19), .ref (v 20), .ref (v 21), .ref (v 22), .ref (v 23), .int 0, .int 0, .int 0, .int 0])), ((v 5), .inl (cy 0, 5, .inl (fun _ => 0)))] H := hP
  have hD : va_D A [((v 0), .inr (13, [.int 0, .int 0, .int 0, .int (-1), .int 0, .int 0, .int 0, .int 0, .ref (v 1), .ref (v 2), .ref (v 3), .ref (v 4), .ref (v 5), .ref (v 6), .ref (v 7), .ref (v 8), .ref (v 9), .int 0, .int 0, .int 0, .int 0, .int 0, .int 0, .int 0, .int 0, .int 0, .ref (v 10), .ref (v 11), .ref (v 12), .ref (v 13), .int 0, .ref (v 14), .ref (v 15), .ref (v 16), .ref (v 17), .ref (v 18), .int 0, .int 0, .int 0, .ref (v 19), .ref (v 20), .ref (v 21), .ref (v 22), .ref (v 23), .int 0, .int 0, .int 0, .int 0])), ((v 5), .inl (cy 0, 5, .inl (fun _ => 0)))] := hD
  obtain rfl : r1 = 0 := hwu2
  refine lv_if_ne (tgt := 21) hx hb dX12_two_14 (by decide) (fun h => absurd (by decide) h) (fun _ => ?_)
  refine lv_iconst (v := 1) hx hb dX12_two_17 (by decide) ?_
  refine lv_goto (tgt := 22) hx hb dX12_two_18 (by decide) ?_
  refine lv_iconst (v := 1) hx hb dX12_two_22 (by decide) ?_
  refine k_cali [1] (⟨hP, hD, hG, hS, hA, rfl, rfl⟩ : kAt D cy sa A s H _ _ [((v 0), .inr (13, [.int 0, .int 0, .int 0, .int (-1), .int 0, .int 0, .int 0, .int 0, .ref (v 1), .ref (v 2), .ref (v 3), .ref (v 4), .ref (v 5), .ref (v 6), .ref (v 7), .ref (v 8), .ref (v 9), .int 0, .int 0, .int 0, .int 0, .int 0, .int 0, .int 0, .int 0, .int 0, .ref (v 10), .ref (v 11), .ref (v 12), .ref (v 13), .int 0, .ref (v 14), .ref (v 15), .ref (v 16), .ref (v 17), .ref (v 18), .int 0, .int 0, .int 0, .ref (v 19), .ref (v 20), .ref (v 21), .ref (v 22), .ref (v 23), .int 0, .int 0, .int 0, .int 0]))] [0]) (wr := [((v 5), .inl (cy 0, 5, .inl (fun _ => 0)))]) rfl rfl (by decide) (k_runV 13 0 (As := [.int 1, .int 1]) (rest := []) E lk_VRX12_169 rfl rfl rfl (m_bad1 l hl0 D cy sa v H.size) (⟨hP, hD, hG, hS, hA, rfl, rfl⟩ : kAt D cy sa A s H _ _ [((v 0), .inr (13, [.int 0, .int 0, .int 0, .int (-1), .int 0, .int 0, .int 0, .int 0, .ref (v 1), .ref (v 2), .ref (v 3), .ref (v 4), .ref (v 5), .ref (v 6), .ref (v 7), .ref (v 8), .ref (v 9), .int 0, .int 0, .int 0, .int 0, .int 0, .int 0, .int 0, .int 0, .int 0, .ref (v 10), .ref (v 11), .ref (v 12), .ref (v 13), .int 0, .ref (v 14), .ref (v 15), .ref (v 16), .ref (v 17), .ref (v 18), .int 0, .int 0, .int 0, .ref (v 19), .ref (v 20), .ref (v 21), .ref (v 22), .ref (v 23), .int 0, .int 0, .int 0, .int 0]))] [0]) hl.1 rfl rfl ⟨rfl, rfl, ⟨Nat.le_of_ble_eq_true rfl, Nat.le_of_ble_eq_true rfl⟩, ⟨Nat.le_of_ble_eq_true rfl, Nat.le_of_ble_eq_true rfl⟩, Nat.le_of_ble_eq_true rfl⟩ dX12_two_23) (fun r3 u4 H locs hwu4 hP hD hS => ?_)
  have hP : va_P D vwCl [((v 5), .inl (cy 0, 5, .inl (fun _ => 0))), ((v 0), .inr (13, [.int 1, .int 0, .int 0, .int (-1), .int 0, .int 0, .int 0, .int 0, .ref (v 1), .ref (v 2), .ref (v 3), .ref (v 4), .ref (v 5), .ref (v 6), .ref (v 7), .ref (v 8), .ref (v 9), .int 0, .int 0, .int 0, .int 0, .int 0, .int 0, .int 0, .int 0, .int 0, .ref (v 10), .ref (v 11), .ref (v 12), .ref (v 13), .int 0, .ref (v 14), .ref (v 15), .ref (v 16), .ref (v 17), .ref (v 18), .int 0, .int 0, .int 0, .ref (v 19), .ref (v 20), .ref (v 21), .ref (v 22), .ref (v 23), .int 0, .int 0, .int 0, .int 0]))] H := hP
  have hD : va_D A [((v 5), .inl (cy 0, 5, .inl (fun _ => 0))), ((v 0), .inr (13, [.int 1, .int 0, .int 0, .int (-1), .int 0, .int 0, .int 0, .int 0, .ref (v 1), .ref (v 2), .ref (v 3), .ref (v 4), .ref (v 5), .ref (v 6), .ref (v 7), .ref (v 8), .ref (v 9), .int 0, .int 0, .int 0, .int 0, .int 0, .int 0, .int 0, .int 0, .int 0, .ref (v 10), .ref (v 11), .ref (v 12), .ref (v 13), .int 0, .ref (v 14), .ref (v 15), .ref (v 16), .ref (v 17), .ref (v 18), .int 0, .int 0, .int 0, .ref (v 19), .ref (v 20), .ref (v 21), .ref (v 22), .ref (v 23), .int 0, .int 0, .int 0, .int 0]))] := hD
  obtain rfl : r3 = 1 := hwu4
  refine lv_if_eq (tgt := 31) hx hb dX12_two_26 (by decide) (fun h => absurd h (by decide)) (fun _ => ?_)
  refine lv_iconst (v := 0) hx hb dX12_two_29 (by decide) ?_
  exact k_iret (1, [.int 0, .int 0, .int (-1), .int 0, .int 0, .int 0, .int 0, .ref (v 1), .ref (v 2), .ref (v 3), .ref (v 4), .ref (v 5), .ref (v 6), .ref (v 7), .ref (v 8), .ref (v 9), .int 0, .int 0, .int 0, .int 0, .int 0, .int 0, .int 0, .int 0, .int 0, .ref (v 10), .ref (v 11), .ref (v 12), .ref (v 13), .int 0, .ref (v 14), .ref (v 15), .ref (v 16), .ref (v 17), .ref (v 18), .int 0, .int 0, .int 0, .ref (v 19), .ref (v 20), .ref (v 21), .ref (v 22), .ref (v 23), .int 0, .int 0, .int 0, .int 0]) hx hb hr hlk (by refine ⟨fun h => ?_, fun h => ?_⟩ <;> first | exact False.elim h | exact ⟨rfl, rfl⟩ | rfl | exact absurd trivial h | (exfalso; simp only [k_lt, k_le, k_eq, k_L0, k_L1, k_L2, k_L3, k_L4, k_L5, k_L6, k_L7, k_L8, k_L9, k_L10, k_L15, k_L20, k_L30, k_L31, k_L40, k_L41, k_L60, k_L61, k_L99, k_L120, k_L239, k_L240, k_L479, k_L480, k_L500, k_L720, k_L999, k_L1000, k_L9999, k_Lm1] at h; omega) | (refine ⟨rfl, ?_⟩; rfl)) (hP.sub [1] rfl) (hD.sub [1] (by decide) rfl) hS (by decide) (by decide) dX12_two_30

set_option maxHeartbeats 4000000 in
set_option maxRecDepth 100000 in
/-- the reference: back -/
theorem m_back_ (l : Launch) (hl0 : l.stackTraces = false) (D : va_G) (cy : Nat → ClassId) (sa : Nat → Nat) (v : Nat → Nat) (p0 p1 p2 : Int32) (sz : Nat) : Met l yX12_back (Cond.code yX12_back cX12_back 5 (some .int) :: kWS) ({ frames := 13, cells := 0, slots := 0, locals := 480 }) (kPre D cy sa [.ref (v 0), .int p0, .int p1, .int p2] [((v 0), .inr (13, [.int 0, .int 0, .int 0, .int (-1), .int 0, .int 0, .int 0, .int 0, .ref (v 1), .ref (v 2), .ref (v 3), .ref (v 4), .ref (v 5), .ref (v 6), .ref (v 7), .ref (v 8), .ref (v 9), .int 0, .int 0, .int 0, .int 0, .int 0, .int 0, .int 0, .int 0, .int 0, .ref (v 10), .ref (v 11), .ref (v 12), .ref (v 13), .int 0, .ref (v 14), .ref (v 15), .ref (v 16), .ref (v 17), .ref (v 18), .int 0, .int 0, .int 0, .ref (v 19), .ref (v 20), .ref (v 21), .ref (v 22), .ref (v 23), .int 0, .int 0, .int 0, .int 0])), ((v 5), .inl (cy 0, 5, .inl (fun _ => 0)))] sz) (va_Qi (fun (r : Int32) (x : Int32 × List Value) => ((False) → x.1 = 0 ∧ False) ∧ (¬ (False) → x.1 = 1)) (kB D (va_A [((v 0), .inr (13, [.int 0, .int 0, .int 0, .int (-1), .int 0, .int 0, .int 0, .int 0, .ref (v 1), .ref (v 2), .ref (v 3), .ref (v 4), .ref (v 5), .ref (v 6), .ref (v 7), .ref (v 8), .ref (v 9), .int 0, .int 0, .int 0, .int 0, .int 0, .int 0, .int 0, .int 0, .int 0, .ref (v 10), .ref (v 11), .ref (v 12), .ref (v 13), .int 0, .ref (v 14), .ref (v 15), .ref (v 16), .ref (v 17), .ref (v 18), .int 0, .int 0, .int 0, .ref (v 19), .ref (v 20), .ref (v 21), .ref (v 22), .ref (v 23), .int 0, .int 0, .int 0, .int 0])), ((v 5), .inl (cy 0, 5, .inl (fun _ => 0)))] sz) (fun x => [((v 0), .inr (13, .int x.1 :: x.2))])) (va_A [((v 0), .inr (13, [.int 0, .int 0, .int 0, .int (-1), .int 0, .int 0, .int 0, .int 0, .ref (v 1), .ref (v 2), .ref (v 3), .ref (v 4), .ref (v 5), .ref (v 6), .ref (v 7), .ref (v 8), .ref (v 9), .int 0, .int 0, .int 0, .int 0, .int 0, .int 0, .int 0, .int 0, .int 0, .ref (v 10), .ref (v 11), .ref (v 12), .ref (v 13), .int 0, .ref (v 14), .ref (v 15), .ref (v 16), .ref (v 17), .ref (v 18), .int 0, .int 0, .int 0, .ref (v 19), .ref (v 20), .ref (v 21), .ref (v 22), .ref (v 23), .int 0, .int 0, .int 0, .int 0])), ((v 5), .inl (cy 0, 5, .inl (fun _ => 0)))] sz)) 0 0 (va_A [((v 0), .inr (13, [.int 0, .int 0, .int 0, .int (-1), .int 0, .int 0, .int 0, .int 0, .ref (v 1), .ref (v 2), .ref (v 3), .ref (v 4), .ref (v 5), .ref (v 6), .ref (v 7), .ref (v 8), .ref (v 9), .int 0, .int 0, .int 0, .int 0, .int 0, .int 0, .int 0, .int 0, .int 0, .ref (v 10), .ref (v 11), .ref (v 12), .ref (v 13), .int 0, .ref (v 14), .ref (v 15), .ref (v 16), .ref (v 17), .ref (v 18), .int 0, .int 0, .int 0, .ref (v 19), .ref (v 20), .ref (v 21), .ref (v 22), .ref (v 23), .int 0, .int 0, .int 0, .int 0])), ((v 5), .inl (cy 0, 5, .inl (fun _ => 0)))] sz) := by
  refine k_ofW (y := yX12_back) (cc := cX12_back) (maxL := 5) (ret := (some .int)) (av := [.ref (v 0), .int p0, .int p1, .int p2]) (ws := [((v 0), .inr (13, [.int 0, .int 0, .int 0, .int (-1), .int 0, .int 0, .int 0, .int 0, .ref (v 1), .ref (v 2), .ref (v 3), .ref (v 4), .ref (v 5), .ref (v 6), .ref (v 7), .ref (v 8), .ref (v 9), .int 0, .int 0, .int 0, .int 0, .int 0, .int 0, .int 0, .int 0, .int 0, .ref (v 10), .ref (v 11), .ref (v 12), .ref (v 13), .int 0, .ref (v 14), .ref (v 15), .ref (v 16), .ref (v 17), .ref (v 18), .int 0, .int 0, .int 0, .ref (v 19), .ref (v 20), .ref (v 21), .ref (v 22), .ref (v 23), .int 0, .int 0, .int 0, .int 0])), ((v 5), .inl (cy 0, 5, .inl (fun _ => 0)))]) (Qc := fun A => va_Qi (fun (r : Int32) (x : Int32 × List Value) => ((False) → x.1 = 0 ∧ False) ∧ (¬ (False) → x.1 = 1)) (kB D A (fun x => [((v 0), .inr (13, .int x.1 :: x.2))])) A) (by decide) (Nat.le_of_ble_eq_true rfl) ?_
  intro p e s m below meth c ls A E hA hP hD hG hS hl
  obtain ⟨hx, hb, hml, hown, hts, hr, hlk, hnm⟩ := id E
  have hown : s.vm.findClass RX12 = some m.cls := hown
  have hl : lv_has ls 5 [(0, .ref (v 0)), (1, .int p0), (2, .int p1), (3, .int p2)] := hl
  obtain ⟨H, hH⟩ : ∃ H, H = s.heap := ⟨_, rfl⟩
  have hP : va_P D vwCl [((v 0), .inr (13, [.int 0, .int 0, .int 0, .int (-1), .int 0, .int 0, .int 0, .int 0, .ref (v 1), .ref (v 2), .ref (v 3), .ref (v 4), .ref (v 5), .ref (v 6), .ref (v 7), .ref (v 8), .ref (v 9), .int 0, .int 0, .int 0, .int 0, .int 0, .int 0, .int 0, .int 0, .int 0, .ref (v 10), .ref (v 11), .ref (v 12), .ref (v 13), .int 0, .ref (v 14), .ref (v 15), .ref (v 16), .ref (v 17), .ref (v 18), .int 0, .int 0, .int 0, .ref (v 19), .ref (v 20), .ref (v 21), .ref (v 22), .ref (v 23), .int 0, .int 0, .int 0, .int 0])), ((v 5), .inl (cy 0, 5, .inl (fun _ => 0)))] H := by rw [hH]; exact hP
  have hS : va_S A s.heap H [] := by rw [hH]; exact va_S.rf
  rw [← hH]
  clear hH
  refine lv_aload_n hx hb dX12_back_0 rfl (lv_at hl 0 rfl) ?_
  refine lv_iconst (v := 0) hx hb dX12_back_1 (by decide) ?_
  refine va_put (D := D) (ci := 13) (v := .int 0) (ty := .int) (C := RX12) (T := TX12) (N := 48) hx hb hts kin_RX12 tyX12 tyX12_ok nmX12 hown hG.1 hP hD hS 0 rfl rfl 0 (by decide) (hts _ wm_1519) (fun _ h9 => h9) rfl (by decide +kernel) rfl rfl (Nat.le_of_ble_eq_true rfl) dX12_back_2 (fun H locs hP hD hS => ?_)
  have hP : va_P D vwCl [((v 0), .inr (13, [.int 0, .int 0, .int 0, .int (-1), .int 0, .int 0, .int 0, .int 0, .ref (v 1), .ref (v 2), .ref (v 3), .ref (v 4), .ref (v 5), .ref (v 6), .ref (v 7), .ref (v 8), .ref (v 9), .int 0, .int 0, .int 0, .int 0, .int 0, .int 0, .int 0, .int 0, .int 0, .ref (v 10), .ref (v 11), .ref (v 12), .ref (v 13), .int 0, .ref (v 14), .ref (v 15), .ref (v 16), .ref (v 17), .ref (v 18), .int 0, .int 0, .int 0, .ref (v 19), .ref (v 20), .ref (v 21), .ref (v 22), .ref (v 23), .int 0, .int 0, .int 0, .int 0])), ((v 5), .inl (cy 0, 5, .inl (fun _ => 0)))] H := hP
  have hD : va_D A [((v 0), .inr (13, [.int 0, .int 0, .int 0, .int (-1), .int 0, .int 0, .int 0, .int 0, .ref (v 1), .ref (v 2), .ref (v 3), .ref (v 4), .ref (v 5), .ref (v 6), .ref (v 7), .ref (v 8), .ref (v 9), .int 0, .int 0, .int 0, .int 0, .int 0, .int 0, .int 0, .int 0, .int 0, .ref (v 10), .ref (v 11), .ref (v 12), .ref (v 13), .int 0, .ref (v 14), .ref (v 15), .ref (v 16), .ref (v 17), .ref (v 18), .int 0, .int 0, .int 0, .ref (v 19), .ref (v 20), .ref (v 21), .ref (v 22), .ref (v 23), .int 0, .int 0, .int 0, .int 0])), ((v 5), .inl (cy 0, 5, .inl (fun _ => 0)))] := hD
  refine lv_aload_n hx hb dX12_back_5 rfl (lv_at hl 0 rfl) ?_
  refine lv_aload_n hx hb dX12_back_6 rfl (lv_at hl 0 rfl) ?_
  refine lv_iload_n hx hb dX12_back_7 rfl (lv_at hl 1 rfl) ?_
  refine lv_iconst (v := 1) hx hb dX12_back_8 (by decide) ?_
  refine lv_iconst (v := 3) hx hb dX12_back_9 (by decide) ?_
  refine k_cali [] (⟨hP, hD, hG, hS, hA, rfl, rfl⟩ : kAt D cy sa A s H _ _ [((v 0), .inr (13, [.int 0, .int 0, .int 0, .int (-1), .int 0, .int 0, .int 0, .int 0, .ref (v 1), .ref (v 2), .ref (v 3), .ref (v 4), .ref (v 5), .ref (v 6), .ref (v 7), .ref (v 8), .ref (v 9), .int 0, .int 0, .int 0, .int 0, .int 0, .int 0, .int 0, .int 0, .int 0, .ref (v 10), .ref (v 11), .ref (v 12), .ref (v 13), .int 0, .ref (v 14), .ref (v 15), .ref (v 16), .ref (v 17), .ref (v 18), .int 0, .int 0, .int 0, .ref (v 19), .ref (v 20), .ref (v 21), .ref (v 22), .ref (v 23), .int 0, .int 0, .int 0, .int 0])), ((v 5), .inl (cy 0, 5, .inl (fun _ => 0)))] [0, 1]) (wr := []) rfl rfl (by decide) (k_runV 13 0 (As := [.int p0, .int 1, .int 3]) (rest := [.ref (v 0)]) E lk_VRX12_313 rfl rfl rfl (m_areBodies_13 l hl0 D cy sa v p0 H.size) (⟨hP, hD, hG, hS, hA, rfl, rfl⟩ : kAt D cy sa A s H _ _ [((v 0), .inr (13, [.int 0, .int 0, .int 0, .int (-1), .int 0, .int 0, .int 0, .int 0, .ref (v 1), .ref (v 2), .ref (v 3), .ref (v 4), .ref (v 5), .ref (v 6), .ref (v 7), .ref (v 8), .ref (v 9), .int 0, .int 0, .int 0, .int 0, .int 0, .int 0, .int 0, .int 0, .int 0, .ref (v 10), .ref (v 11), .ref (v 12), .ref (v 13), .int 0, .ref (v 14), .ref (v 15), .ref (v 16), .ref (v 17), .ref (v 18), .int 0, .int 0, .int 0, .ref (v 19), .ref (v 20), .ref (v 21), .ref (v 22), .ref (v 23), .int 0, .int 0, .int 0, .int 0])), ((v 5), .inl (cy 0, 5, .inl (fun _ => 0)))] [0, 1]) hl.1 rfl rfl ⟨rfl, rfl, ⟨Nat.le_of_ble_eq_true rfl, Nat.le_of_ble_eq_true rfl⟩, ⟨Nat.le_of_ble_eq_true rfl, Nat.le_of_ble_eq_true rfl⟩, Nat.le_of_ble_eq_true rfl⟩ dX12_back_10) (fun r1 u2 H locs hwu2 hP hD hS => ?_)
  have hP : va_P D vwCl [((v 0), .inr (13, [.int 0, .int 0, .int 0, .int (-1), .int 0, .int 0, .int 0, .int 0, .ref (v 1), .ref (v 2), .ref (v 3), .ref (v 4), .ref (v 5), .ref (v 6), .ref (v 7), .ref (v 8), .ref (v 9), .int 0, .int 0, .int 0, .int 0, .int 0, .int 0, .int 0, .int 0, .int 0, .ref (v 10), .ref (v 11), .ref (v 12), .ref (v 13), .int 0, .ref (v 14), .ref (v 15), .ref (v 16), .ref (v 17), .ref (v 18), .int 0, .int 0, .int 0, .ref (v 19), .ref (v 20), .ref (v 21), .ref (v 22), .ref (v 23), .int 0, .int 0, .int 0, .int 0])), ((v 5), .inl (cy 0, 5, .inl (fun _ => 0)))] H := hP
  have hD : va_D A [((v 0), .inr (13, [.int 0, .int 0, .int 0, .int (-1), .int 0, .int 0, .int 0, .int 0, .ref (v 1), .ref (v 2), .ref (v 3), .ref (v 4), .ref (v 5), .ref (v 6), .ref (v 7), .ref (v 8), .ref (v 9), .int 0, .int 0, .int 0, .int 0, .int 0, .int 0, .int 0, .int 0, .int 0, .ref (v 10), .ref (v 11), .ref (v 12), .ref (v 13), .int 0, .ref (v 14), .ref (v 15), .ref (v 16), .ref (v 17), .ref (v 18), .int 0, .int 0, .int 0, .ref (v 19), .ref (v 20), .ref (v 21), .ref (v 22), .ref (v 23), .int 0, .int 0, .int 0, .int 0])), ((v 5), .inl (cy 0, 5, .inl (fun _ => 0)))] := hD
  obtain rfl : r1 = 0 := hwu2
  refine lv_if_eq (tgt := 35) hx hb dX12_back_13 (by decide) (fun _ => ?_) (fun h => absurd (by decide) h)
  refine lv_iconst (v := 1) hx hb dX12_back_35 (by decide) ?_
  refine lv_goto (tgt := 40) hx hb dX12_back_36 (by decide) ?_
  refine lv_iconst (v := 1) hx hb dX12_back_40 (by decide) ?_
  refine k_cali [1] (⟨hP, hD, hG, hS, hA, rfl, rfl⟩ : kAt D cy sa A s H _ _ [((v 0), .inr (13, [.int 0, .int 0, .int 0, .int (-1), .int 0, .int 0, .int 0, .int 0, .ref (v 1), .ref (v 2), .ref (v 3), .ref (v 4), .ref (v 5), .ref (v 6), .ref (v 7), .ref (v 8), .ref (v 9), .int 0, .int 0, .int 0, .int 0, .int 0, .int 0, .int 0, .int 0, .int 0, .ref (v 10), .ref (v 11), .ref (v 12), .ref (v 13), .int 0, .ref (v 14), .ref (v 15), .ref (v 16), .ref (v 17), .ref (v 18), .int 0, .int 0, .int 0, .ref (v 19), .ref (v 20), .ref (v 21), .ref (v 22), .ref (v 23), .int 0, .int 0, .int 0, .int 0]))] [0]) (wr := [((v 5), .inl (cy 0, 5, .inl (fun _ => 0)))]) rfl rfl (by decide) (k_runV 13 0 (As := [.int 1, .int 1]) (rest := []) E lk_VRX12_169 rfl rfl rfl (m_bad1 l hl0 D cy sa v H.size) (⟨hP, hD, hG, hS, hA, rfl, rfl⟩ : kAt D cy sa A s H _ _ [((v 0), .inr (13, [.int 0, .int 0, .int 0, .int (-1), .int 0, .int 0, .int 0, .int 0, .ref (v 1), .ref (v 2), .ref (v 3), .ref (v 4), .ref (v 5), .ref (v 6), .ref (v 7), .ref (v 8), .ref (v 9), .int 0, .int 0, .int 0, .int 0, .int 0, .int 0, .int 0, .int 0, .int 0, .ref (v 10), .ref (v 11), .ref (v 12), .ref (v 13), .int 0, .ref (v 14), .ref (v 15), .ref (v 16), .ref (v 17), .ref (v 18), .int 0, .int 0, .int 0, .ref (v 19), .ref (v 20), .ref (v 21), .ref (v 22), .ref (v 23), .int 0, .int 0, .int 0, .int 0]))] [0]) hl.1 rfl rfl ⟨rfl, rfl, ⟨Nat.le_of_ble_eq_true rfl, Nat.le_of_ble_eq_true rfl⟩, ⟨Nat.le_of_ble_eq_true rfl, Nat.le_of_ble_eq_true rfl⟩, Nat.le_of_ble_eq_true rfl⟩ dX12_back_41) (fun r3 u4 H locs hwu4 hP hD hS => ?_)
  have hP : va_P D vwCl [((v 5), .inl (cy 0, 5, .inl (fun _ => 0))), ((v 0), .inr (13, [.int 1, .int 0, .int 0, .int (-1), .int 0, .int 0, .int 0, .int 0, .ref (v 1), .ref (v 2), .ref (v 3), .ref (v 4), .ref (v 5), .ref (v 6), .ref (v 7), .ref (v 8), .ref (v 9), .int 0, .int 0, .int 0, .int 0, .int 0, .int 0, .int 0, .int 0, .int 0, .ref (v 10), .ref (v 11), .ref (v 12), .ref (v 13), .int 0, .ref (v 14), .ref (v 15), .ref (v 16), .ref (v 17), .ref (v 18), .int 0, .int 0, .int 0, .ref (v 19), .ref (v 20), .ref (v 21), .ref (v 22), .ref (v 23), .int 0, .int 0, .int 0, .int 0]))] H := hP
  have hD : va_D A [((v 5), .inl (cy 0, 5, .inl (fun _ => 0))), ((v 0), .inr (13, [.int 1, .int 0, .int 0, .int (-1), .int 0, .int 0, .int 0, .int 0, .ref (v 1), .ref (v 2), .ref (v 3), .ref (v 4), .ref (v 5), .ref (v 6), .ref (v 7), .ref (v 8), .ref (v 9), .int 0, .int 0, .int 0, .int 0, .int 0, .int 0, .int 0, .int 0, .int 0, .ref (v 10), .ref (v 11), .ref (v 12), .ref (v 13), .int 0, .ref (v 14), .ref (v 15), .ref (v 16), .ref (v 17), .ref (v 18), .int 0, .int 0, .int 0, .ref (v 19), .ref (v 20), .ref (v 21), .ref (v 22), .ref (v 23), .int 0, .int 0, .int 0, .int 0]))] := hD
  obtain rfl : r3 = 1 := hwu4
  refine lv_if_eq (tgt := 49) hx hb dX12_back_44 (by decide) (fun h => absurd h (by decide)) (fun _ => ?_)
  refine lv_iconst (v := 0) hx hb dX12_back_47 (by decide) ?_
  exact k_iret (1, [.int 0, .int 0, .int (-1), .int 0, .int 0, .int 0, .int 0, .ref (v 1), .ref (v 2), .ref (v 3), .ref (v 4), .ref (v 5), .ref (v 6), .ref (v 7), .ref (v 8), .ref (v 9), .int 0, .int 0, .int 0, .int 0, .int 0, .int 0, .int 0, .int 0, .int 0, .ref (v 10), .ref (v 11), .ref (v 12), .ref (v 13), .int 0, .ref (v 14), .ref (v 15), .ref (v 16), .ref (v 17), .ref (v 18), .int 0, .int 0, .int 0, .ref (v 19), .ref (v 20), .ref (v 21), .ref (v 22), .ref (v 23), .int 0, .int 0, .int 0, .int 0]) hx hb hr hlk (by refine ⟨fun h => ?_, fun h => ?_⟩ <;> first | exact False.elim h | exact ⟨rfl, rfl⟩ | rfl | exact absurd trivial h | (exfalso; simp only [k_lt, k_le, k_eq, k_L0, k_L1, k_L2, k_L3, k_L4, k_L5, k_L6, k_L7, k_L8, k_L9, k_L10, k_L15, k_L20, k_L30, k_L31, k_L40, k_L41, k_L60, k_L61, k_L99, k_L120, k_L239, k_L240, k_L479, k_L480, k_L500, k_L720, k_L999, k_L1000, k_L9999, k_Lm1] at h; omega) | (refine ⟨rfl, ?_⟩; rfl)) (hP.sub [1] rfl) (hD.sub [1] (by decide) rfl) hS (by decide) (by decide) dX12_back_48
