theorem n_L48 : (48 : Int32).toInt = 48 := by decide
theorem n_L57 : (57 : Int32).toInt = 57 := by decide
theorem n_L27 : (27 : Int32).toInt = 27 := by decide
theorem wm_1675 : Cond.code yX12_in cX12_in 3 (some .boolean) ∈ kWS := kws_at 1675 (by decide +kernel) (by decide +kernel)
theorem wm_1673 : Cond.methodLink RX12 124 yX12_in ∈ kWS := kws_at 1673 (by decide +kernel) (by decide +kernel)
theorem wm_1674 : Cond.static yX12_in ∈ kWS := kws_at 1674 (by decide +kernel) (by decide +kernel)
theorem wm_12 : Cond.initialized RX12 ∈ kWS := kws_at 12 (by decide +kernel) (by decide +kernel)
theorem lk_SRX12_124 : kLS RX12 124 yX12_in (Cond.code yX12_in cX12_in 3 (some .boolean)) 3 := ⟨wm_1673, wm_1674, wm_12, wm_1675, ⟨by decide +kernel, by decide +kernel, by decide +kernel⟩⟩
theorem wm_1519 : Cond.fieldLink RX12 87 "LentMindsModel" "thrown" "I" ∈ kWS := kws_at 1519 (by decide +kernel) (by decide +kernel)
theorem wm_1524 : Cond.fieldLink RX12 103 "LentMindsModel" "fault" "I" ∈ kWS := kws_at 1524 (by decide +kernel) (by decide +kernel)
theorem wm_1525 : Cond.fieldLink RX12 106 "LentMindsModel" "faultAt" "I" ∈ kWS := kws_at 1525 (by decide +kernel) (by decide +kernel)
theorem wm_1522 : Cond.fieldLink RX12 9 "LentMindsModel" "place" "I" ∈ kWS := kws_at 1522 (by decide +kernel) (by decide +kernel)
theorem wm_1542 : Cond.fieldLink RX12 194 "LentMindsModel" "passings" "I" ∈ kWS := kws_at 1542 (by decide +kernel) (by decide +kernel)
theorem wm_1520 : Cond.fieldLink RX12 90 "LentMindsModel" "tape" "I" ∈ kWS := kws_at 1520 (by decide +kernel) (by decide +kernel)
theorem n_L12 : (12 : Int32).toInt = 12 := by decide
theorem n_L16 : (16 : Int32).toInt = 16 := by decide
theorem wm_1527 : Cond.fieldLink RX12 13 "LentMindsModel" "fed" "[I" ∈ kWS := kws_at 1527 (by decide +kernel) (by decide +kernel)
theorem n_L255 : (255 : Int32).toInt = 255 := by decide
theorem wm_1521 : Cond.fieldLink RX12 93 "LentMindsModel" "size" "I" ∈ kWS := kws_at 1521 (by decide +kernel) (by decide +kernel)
theorem wm_1523 : Cond.fieldLink RX12 96 "LentMindsModel" "at" "I" ∈ kWS := kws_at 1523 (by decide +kernel) (by decide +kernel)
theorem wm_1687 : Cond.code yX12_byteAt cX12_byteAt 2 (some .int) ∈ kWS := kws_at 1687 (by decide +kernel) (by decide +kernel)
theorem wm_1684 : Cond.methodLink RX12 99 yX12_byteAt ∈ kWS := kws_at 1684 (by decide +kernel) (by decide +kernel)
theorem wm_s44 : Cond.selects RX12 yX12_byteAt yX12_byteAt ∈ kWS := kws_sel 44 (by decide +kernel) (by decide +kernel)
theorem wm_1686 : Cond.instanceMethod yX12_byteAt ∈ kWS := kws_at 1686 (by decide +kernel) (by decide +kernel)
theorem lk_VRX12_99 : kLV RX12 99 yX12_byteAt (Cond.code yX12_byteAt cX12_byteAt 2 (some .int)) 1 := ⟨wm_1684, wm_1686, wm_s44, wm_12, wm_1687, ⟨by decide +kernel, by decide +kernel, by decide +kernel⟩⟩
theorem wm_1534 : Cond.fieldLink RX12 37 "LentMindsModel" "done" "[I" ∈ kWS := kws_at 1534 (by decide +kernel) (by decide +kernel)
theorem wm_1535 : Cond.fieldLink RX12 40 "LentMindsModel" "bed" "[I" ∈ kWS := kws_at 1535 (by decide +kernel) (by decide +kernel)
theorem wm_1531 : Cond.fieldLink RX12 28 "LentMindsModel" "many" "[I" ∈ kWS := kws_at 1531 (by decide +kernel) (by decide +kernel)
theorem dX12_in_0 : decode cX12_in 0 = .ok (.iload_n 0, 1) := by decide +kernel
theorem dX12_in_1 : decode cX12_in 1 = .ok (.iload_n 1, 1) := by decide +kernel
theorem dX12_in_2 : decode cX12_in 2 = .ok (.if_icmp .lt 12, 3) := by decide +kernel
theorem dX12_in_5 : decode cX12_in 5 = .ok (.iload_n 0, 1) := by decide +kernel
theorem dX12_in_6 : decode cX12_in 6 = .ok (.iload_n 2, 1) := by decide +kernel
theorem dX12_in_7 : decode cX12_in 7 = .ok (.if_icmp .gt 7, 3) := by decide +kernel
theorem dX12_in_10 : decode cX12_in 10 = .ok (.iconst 1, 1) := by decide +kernel
theorem dX12_in_11 : decode cX12_in 11 = .ok (.goto 4, 3) := by decide +kernel
theorem dX12_in_14 : decode cX12_in 14 = .ok (.iconst 0, 1) := by decide +kernel
theorem dX12_in_15 : decode cX12_in 15 = .ok (.ireturn, 1) := by decide +kernel
theorem dX12_amount_0 : decode cX12_amount 0 = .ok (.iload_n 0, 1) := by decide +kernel
theorem dX12_amount_1 : decode cX12_amount 1 = .ok (.ifCond .ge 8, 3) := by decide +kernel
theorem dX12_amount_4 : decode cX12_amount 4 = .ok (.iload_n 0, 1) := by decide +kernel
theorem dX12_amount_5 : decode cX12_amount 5 = .ok (.ineg, 1) := by decide +kernel
theorem dX12_amount_6 : decode cX12_amount 6 = .ok (.goto 4, 3) := by decide +kernel
theorem dX12_amount_9 : decode cX12_amount 9 = .ok (.iload_n 0, 1) := by decide +kernel
theorem dX12_amount_10 : decode cX12_amount 10 = .ok (.ireturn, 1) := by decide +kernel
theorem dX12_less_0 : decode cX12_less 0 = .ok (.iload_n 0, 1) := by decide +kernel
theorem dX12_less_1 : decode cX12_less 1 = .ok (.iload_n 1, 1) := by decide +kernel
theorem dX12_less_2 : decode cX12_less 2 = .ok (.if_icmp .ge 7, 3) := by decide +kernel
theorem dX12_less_5 : decode cX12_less 5 = .ok (.iload_n 0, 1) := by decide +kernel
theorem dX12_less_6 : decode cX12_less 6 = .ok (.goto 4, 3) := by decide +kernel
theorem dX12_less_9 : decode cX12_less 9 = .ok (.iload_n 1, 1) := by decide +kernel
theorem dX12_less_10 : decode cX12_less 10 = .ok (.ireturn, 1) := by decide +kernel
theorem dX12_more_0 : decode cX12_more 0 = .ok (.iload_n 0, 1) := by decide +kernel
theorem dX12_more_1 : decode cX12_more 1 = .ok (.iload_n 1, 1) := by decide +kernel
theorem dX12_more_2 : decode cX12_more 2 = .ok (.if_icmp .le 7, 3) := by decide +kernel
theorem dX12_more_5 : decode cX12_more 5 = .ok (.iload_n 0, 1) := by decide +kernel
theorem dX12_more_6 : decode cX12_more 6 = .ok (.goto 4, 3) := by decide +kernel
theorem dX12_more_9 : decode cX12_more 9 = .ok (.iload_n 1, 1) := by decide +kernel
theorem dX12_more_10 : decode cX12_more 10 = .ok (.ireturn, 1) := by decide +kernel
theorem dX12_isDigit_0 : decode cX12_isDigit 0 = .ok (.iload_n 0, 1) := by decide +kernel
theorem dX12_isDigit_1 : decode cX12_isDigit 1 = .ok (.bipush 48, 2) := by decide +kernel
theorem dX12_isDigit_3 : decode cX12_isDigit 3 = .ok (.if_icmp .lt 13, 3) := by decide +kernel
theorem dX12_isDigit_6 : decode cX12_isDigit 6 = .ok (.iload_n 0, 1) := by decide +kernel
theorem dX12_isDigit_7 : decode cX12_isDigit 7 = .ok (.bipush 57, 2) := by decide +kernel
theorem dX12_isDigit_9 : decode cX12_isDigit 9 = .ok (.if_icmp .gt 7, 3) := by decide +kernel
theorem dX12_isDigit_12 : decode cX12_isDigit 12 = .ok (.iconst 1, 1) := by decide +kernel
theorem dX12_isDigit_13 : decode cX12_isDigit 13 = .ok (.goto 4, 3) := by decide +kernel
theorem dX12_isDigit_16 : decode cX12_isDigit 16 = .ok (.iconst 0, 1) := by decide +kernel
theorem dX12_isDigit_17 : decode cX12_isDigit 17 = .ok (.ireturn, 1) := by decide +kernel
theorem dX12_named_0 : decode cX12_named 0 = .ok (.bipush 27, 2) := by decide +kernel
theorem dX12_named_2 : decode cX12_named 2 = .ok (.bipush 27, 2) := by decide +kernel
theorem dX12_named_4 : decode cX12_named 4 = .ok (.iload_n 0, 1) := by decide +kernel
theorem dX12_named_5 : decode cX12_named 5 = .ok (.imul, 1) := by decide +kernel
theorem dX12_named_6 : decode cX12_named 6 = .ok (.iload_n 1, 1) := by decide +kernel
theorem dX12_named_7 : decode cX12_named 7 = .ok (.iadd, 1) := by decide +kernel
theorem dX12_named_8 : decode cX12_named 8 = .ok (.imul, 1) := by decide +kernel
theorem dX12_named_9 : decode cX12_named 9 = .ok (.iload_n 2, 1) := by decide +kernel
theorem dX12_named_10 : decode cX12_named 10 = .ok (.iadd, 1) := by decide +kernel
theorem dX12_named_11 : decode cX12_named 11 = .ok (.istore 6, 2) := by decide +kernel
theorem dX12_named_13 : decode cX12_named 13 = .ok (.iload_n 3, 1) := by decide +kernel
theorem dX12_named_14 : decode cX12_named 14 = .ok (.ifCond .ne 8, 3) := by decide +kernel
theorem dX12_named_17 : decode cX12_named 17 = .ok (.iload 6, 2) := by decide +kernel
theorem dX12_named_19 : decode cX12_named 19 = .ok (.goto 10, 3) := by decide +kernel
theorem dX12_named_22 : decode cX12_named 22 = .ok (.bipush 27, 2) := by decide +kernel
theorem dX12_named_24 : decode cX12_named 24 = .ok (.iload 6, 2) := by decide +kernel
theorem dX12_named_26 : decode cX12_named 26 = .ok (.imul, 1) := by decide +kernel
theorem dX12_named_27 : decode cX12_named 27 = .ok (.iload_n 3, 1) := by decide +kernel
theorem dX12_named_28 : decode cX12_named 28 = .ok (.iadd, 1) := by decide +kernel
theorem dX12_named_29 : decode cX12_named 29 = .ok (.istore 6, 2) := by decide +kernel
theorem dX12_named_31 : decode cX12_named 31 = .ok (.iload 4, 2) := by decide +kernel
theorem dX12_named_33 : decode cX12_named 33 = .ok (.ifCond .ne 8, 3) := by decide +kernel
theorem dX12_named_36 : decode cX12_named 36 = .ok (.iload 6, 2) := by decide +kernel
theorem dX12_named_38 : decode cX12_named 38 = .ok (.goto 11, 3) := by decide +kernel
theorem dX12_named_41 : decode cX12_named 41 = .ok (.bipush 27, 2) := by decide +kernel
theorem dX12_named_43 : decode cX12_named 43 = .ok (.iload 6, 2) := by decide +kernel
theorem dX12_named_45 : decode cX12_named 45 = .ok (.imul, 1) := by decide +kernel
theorem dX12_named_46 : decode cX12_named 46 = .ok (.iload 4, 2) := by decide +kernel
theorem dX12_named_48 : decode cX12_named 48 = .ok (.iadd, 1) := by decide +kernel
theorem dX12_named_49 : decode cX12_named 49 = .ok (.istore 6, 2) := by decide +kernel
theorem dX12_named_51 : decode cX12_named 51 = .ok (.iload 5, 2) := by decide +kernel
theorem dX12_named_53 : decode cX12_named 53 = .ok (.ifCond .ne 8, 3) := by decide +kernel
theorem dX12_named_56 : decode cX12_named 56 = .ok (.iload 6, 2) := by decide +kernel
theorem dX12_named_58 : decode cX12_named 58 = .ok (.goto 11, 3) := by decide +kernel
theorem dX12_named_61 : decode cX12_named 61 = .ok (.bipush 27, 2) := by decide +kernel
theorem dX12_named_63 : decode cX12_named 63 = .ok (.iload 6, 2) := by decide +kernel
theorem dX12_named_65 : decode cX12_named 65 = .ok (.imul, 1) := by decide +kernel
theorem dX12_named_66 : decode cX12_named 66 = .ok (.iload 5, 2) := by decide +kernel
theorem dX12_named_68 : decode cX12_named 68 = .ok (.iadd, 1) := by decide +kernel
theorem dX12_named_69 : decode cX12_named 69 = .ok (.ireturn, 1) := by decide +kernel
theorem dX12_isWait_0 : decode cX12_isWait 0 = .ok (.iload_n 0, 1) := by decide +kernel
theorem dX12_isWait_1 : decode cX12_isWait 1 = .ok (.iconst 1, 1) := by decide +kernel
theorem dX12_isWait_2 : decode cX12_isWait 2 = .ok (.bipush 60, 2) := by decide +kernel
theorem dX12_isWait_4 : decode cX12_isWait 4 = .ok (.invokestatic 124, 3) := by decide +kernel
theorem dX12_isWait_7 : decode cX12_isWait 7 = .ok (.ireturn, 1) := by decide +kernel
theorem dX12_cell_0 : decode cX12_cell 0 = .ok (.iload_n 0, 1) := by decide +kernel
theorem dX12_cell_1 : decode cX12_cell 1 = .ok (.iconst 3, 1) := by decide +kernel
theorem dX12_cell_2 : decode cX12_cell 2 = .ok (.imul, 1) := by decide +kernel
theorem dX12_cell_3 : decode cX12_cell 3 = .ok (.iload_n 1, 1) := by decide +kernel
theorem dX12_cell_4 : decode cX12_cell 4 = .ok (.iadd, 1) := by decide +kernel
theorem dX12_cell_5 : decode cX12_cell 5 = .ok (.bipush 10, 2) := by decide +kernel
theorem dX12_cell_7 : decode cX12_cell 7 = .ok (.imul, 1) := by decide +kernel
theorem dX12_cell_8 : decode cX12_cell 8 = .ok (.iload_n 2, 1) := by decide +kernel
theorem dX12_cell_9 : decode cX12_cell 9 = .ok (.iadd, 1) := by decide +kernel
theorem dX12_cell_10 : decode cX12_cell 10 = .ok (.bipush 10, 2) := by decide +kernel
theorem dX12_cell_12 : decode cX12_cell 12 = .ok (.imul, 1) := by decide +kernel
theorem dX12_cell_13 : decode cX12_cell 13 = .ok (.iload_n 3, 1) := by decide +kernel
theorem dX12_cell_14 : decode cX12_cell 14 = .ok (.iadd, 1) := by decide +kernel
theorem dX12_cell_15 : decode cX12_cell 15 = .ok (.bipush 10, 2) := by decide +kernel
theorem dX12_cell_17 : decode cX12_cell 17 = .ok (.imul, 1) := by decide +kernel
theorem dX12_cell_18 : decode cX12_cell 18 = .ok (.iload 4, 2) := by decide +kernel
theorem dX12_cell_20 : decode cX12_cell 20 = .ok (.iadd, 1) := by decide +kernel
theorem dX12_cell_21 : decode cX12_cell 21 = .ok (.ireturn, 1) := by decide +kernel
theorem dX12_bad_0 : decode cX12_bad 0 = .ok (.iload_n 1, 1) := by decide +kernel
theorem dX12_bad_1 : decode cX12_bad 1 = .ok (.ifCond .eq 15, 3) := by decide +kernel
theorem dX12_bad_4 : decode cX12_bad 4 = .ok (.aload_n 0, 1) := by decide +kernel
theorem dX12_bad_5 : decode cX12_bad 5 = .ok (.getfield 87, 3) := by decide +kernel
theorem dX12_bad_8 : decode cX12_bad 8 = .ok (.ifCond .ne 8, 3) := by decide +kernel
theorem dX12_bad_11 : decode cX12_bad 11 = .ok (.aload_n 0, 1) := by decide +kernel
theorem dX12_bad_12 : decode cX12_bad 12 = .ok (.iload_n 2, 1) := by decide +kernel
theorem dX12_bad_13 : decode cX12_bad 13 = .ok (.putfield 87, 3) := by decide +kernel
theorem dX12_bad_16 : decode cX12_bad 16 = .ok (.aload_n 0, 1) := by decide +kernel
theorem dX12_bad_17 : decode cX12_bad 17 = .ok (.getfield 87, 3) := by decide +kernel
theorem dX12_bad_20 : decode cX12_bad 20 = .ok (.ifCond .eq 7, 3) := by decide +kernel
theorem dX12_bad_23 : decode cX12_bad 23 = .ok (.iconst 1, 1) := by decide +kernel
theorem dX12_bad_24 : decode cX12_bad 24 = .ok (.goto 4, 3) := by decide +kernel
theorem dX12_bad_27 : decode cX12_bad 27 = .ok (.iconst 0, 1) := by decide +kernel
theorem dX12_bad_28 : decode cX12_bad 28 = .ok (.ireturn, 1) := by decide +kernel
theorem dX12_wrong_0 : decode cX12_wrong 0 = .ok (.aload_n 0, 1) := by decide +kernel
theorem dX12_wrong_1 : decode cX12_wrong 1 = .ok (.getfield 103, 3) := by decide +kernel
theorem dX12_wrong_4 : decode cX12_wrong 4 = .ok (.ifCond .ne 13, 3) := by decide +kernel
theorem dX12_wrong_7 : decode cX12_wrong 7 = .ok (.aload_n 0, 1) := by decide +kernel
theorem dX12_wrong_8 : decode cX12_wrong 8 = .ok (.iload_n 1, 1) := by decide +kernel
theorem dX12_wrong_9 : decode cX12_wrong 9 = .ok (.putfield 103, 3) := by decide +kernel
theorem dX12_wrong_12 : decode cX12_wrong 12 = .ok (.aload_n 0, 1) := by decide +kernel
theorem dX12_wrong_13 : decode cX12_wrong 13 = .ok (.iload_n 2, 1) := by decide +kernel
theorem dX12_wrong_14 : decode cX12_wrong 14 = .ok (.putfield 106, 3) := by decide +kernel
theorem dX12_wrong_17 : decode cX12_wrong 17 = .ok (.return_, 1) := by decide +kernel
theorem dX12_fault_0 : decode cX12_fault 0 = .ok (.aload_n 0, 1) := by decide +kernel
theorem dX12_fault_1 : decode cX12_fault 1 = .ok (.iconst 0, 1) := by decide +kernel
theorem dX12_fault_2 : decode cX12_fault 2 = .ok (.putfield 87, 3) := by decide +kernel
theorem dX12_fault_5 : decode cX12_fault 5 = .ok (.aload_n 0, 1) := by decide +kernel
theorem dX12_fault_6 : decode cX12_fault 6 = .ok (.getfield 9, 3) := by decide +kernel
theorem dX12_fault_9 : decode cX12_fault 9 = .ok (.ireturn, 1) := by decide +kernel
theorem dX12_clear_0 : decode cX12_clear 0 = .ok (.aload_n 0, 1) := by decide +kernel
theorem dX12_clear_1 : decode cX12_clear 1 = .ok (.iconst 0, 1) := by decide +kernel
theorem dX12_clear_2 : decode cX12_clear 2 = .ok (.putfield 87, 3) := by decide +kernel
theorem dX12_clear_5 : decode cX12_clear 5 = .ok (.aload_n 0, 1) := by decide +kernel
theorem dX12_clear_6 : decode cX12_clear 6 = .ok (.getfield 194, 3) := by decide +kernel
theorem dX12_clear_9 : decode cX12_clear 9 = .ok (.istore_n 1, 1) := by decide +kernel
theorem dX12_clear_10 : decode cX12_clear 10 = .ok (.aload_n 0, 1) := by decide +kernel
theorem dX12_clear_11 : decode cX12_clear 11 = .ok (.iconst 0, 1) := by decide +kernel
theorem dX12_clear_12 : decode cX12_clear 12 = .ok (.putfield 194, 3) := by decide +kernel
theorem dX12_clear_15 : decode cX12_clear 15 = .ok (.iload_n 1, 1) := by decide +kernel
theorem dX12_clear_16 : decode cX12_clear 16 = .ok (.ireturn, 1) := by decide +kernel
theorem dX12_feed_0 : decode cX12_feed 0 = .ok (.aload_n 0, 1) := by decide +kernel
theorem dX12_feed_1 : decode cX12_feed 1 = .ok (.iconst 0, 1) := by decide +kernel
theorem dX12_feed_2 : decode cX12_feed 2 = .ok (.putfield 87, 3) := by decide +kernel
theorem dX12_feed_5 : decode cX12_feed 5 = .ok (.aload_n 0, 1) := by decide +kernel
theorem dX12_feed_6 : decode cX12_feed 6 = .ok (.getfield 90, 3) := by decide +kernel
theorem dX12_feed_9 : decode cX12_feed 9 = .ok (.bipush 20, 2) := by decide +kernel
theorem dX12_feed_11 : decode cX12_feed 11 = .ok (.iadd, 1) := by decide +kernel
theorem dX12_feed_12 : decode cX12_feed 12 = .ok (.sipush 500, 3) := by decide +kernel
theorem dX12_feed_15 : decode cX12_feed 15 = .ok (.if_icmp .le 5, 3) := by decide +kernel
theorem dX12_feed_18 : decode cX12_feed 18 = .ok (.iconst (-1), 1) := by decide +kernel
theorem dX12_feed_19 : decode cX12_feed 19 = .ok (.ireturn, 1) := by decide +kernel
theorem dX12_feed_20 : decode cX12_feed 20 = .ok (.iconst 0, 1) := by decide +kernel
theorem dX12_feed_21 : decode cX12_feed 21 = .ok (.istore 6, 2) := by decide +kernel
theorem dX12_feed_23 : decode cX12_feed 23 = .ok (.iload 6, 2) := by decide +kernel
theorem dX12_feed_25 : decode cX12_feed 25 = .ok (.bipush 20, 2) := by decide +kernel
theorem dX12_feed_27 : decode cX12_feed 27 = .ok (.if_icmp .ge 93, 3) := by decide +kernel
theorem dX12_feed_30 : decode cX12_feed 30 = .ok (.iload 6, 2) := by decide +kernel
theorem dX12_feed_32 : decode cX12_feed 32 = .ok (.iconst 4, 1) := by decide +kernel
theorem dX12_feed_33 : decode cX12_feed 33 = .ok (.if_icmp .ge 7, 3) := by decide +kernel
theorem dX12_feed_36 : decode cX12_feed 36 = .ok (.iload_n 1, 1) := by decide +kernel
theorem dX12_feed_37 : decode cX12_feed 37 = .ok (.goto 39, 3) := by decide +kernel
theorem dX12_feed_40 : decode cX12_feed 40 = .ok (.iload 6, 2) := by decide +kernel
theorem dX12_feed_42 : decode cX12_feed 42 = .ok (.bipush 8, 2) := by decide +kernel
theorem dX12_feed_44 : decode cX12_feed 44 = .ok (.if_icmp .ge 7, 3) := by decide +kernel
theorem dX12_feed_47 : decode cX12_feed 47 = .ok (.iload_n 2, 1) := by decide +kernel
theorem dX12_feed_48 : decode cX12_feed 48 = .ok (.goto 28, 3) := by decide +kernel
theorem dX12_feed_51 : decode cX12_feed 51 = .ok (.iload 6, 2) := by decide +kernel
theorem dX12_feed_53 : decode cX12_feed 53 = .ok (.bipush 12, 2) := by decide +kernel
theorem dX12_feed_55 : decode cX12_feed 55 = .ok (.if_icmp .ge 7, 3) := by decide +kernel
theorem dX12_feed_58 : decode cX12_feed 58 = .ok (.iload_n 3, 1) := by decide +kernel
theorem dX12_feed_59 : decode cX12_feed 59 = .ok (.goto 17, 3) := by decide +kernel
theorem dX12_feed_62 : decode cX12_feed 62 = .ok (.iload 6, 2) := by decide +kernel
theorem dX12_feed_64 : decode cX12_feed 64 = .ok (.bipush 16, 2) := by decide +kernel
theorem dX12_feed_66 : decode cX12_feed 66 = .ok (.if_icmp .ge 8, 3) := by decide +kernel
theorem dX12_feed_69 : decode cX12_feed 69 = .ok (.iload 4, 2) := by decide +kernel
theorem dX12_feed_71 : decode cX12_feed 71 = .ok (.goto 5, 3) := by decide +kernel
theorem dX12_feed_74 : decode cX12_feed 74 = .ok (.iload 5, 2) := by decide +kernel
theorem dX12_feed_76 : decode cX12_feed 76 = .ok (.istore 7, 2) := by decide +kernel
theorem dX12_feed_78 : decode cX12_feed 78 = .ok (.aload_n 0, 1) := by decide +kernel
theorem dX12_feed_79 : decode cX12_feed 79 = .ok (.getfield 13, 3) := by decide +kernel
theorem dX12_feed_82 : decode cX12_feed 82 = .ok (.aload_n 0, 1) := by decide +kernel
theorem dX12_feed_83 : decode cX12_feed 83 = .ok (.getfield 90, 3) := by decide +kernel
theorem dX12_feed_86 : decode cX12_feed 86 = .ok (.iload 7, 2) := by decide +kernel
theorem dX12_feed_88 : decode cX12_feed 88 = .ok (.bipush 24, 2) := by decide +kernel
theorem dX12_feed_90 : decode cX12_feed 90 = .ok (.bipush 8, 2) := by decide +kernel
theorem dX12_feed_92 : decode cX12_feed 92 = .ok (.iload 6, 2) := by decide +kernel
theorem dX12_feed_94 : decode cX12_feed 94 = .ok (.iconst 4, 1) := by decide +kernel
theorem dX12_feed_95 : decode cX12_feed 95 = .ok (.irem, 1) := by decide +kernel
theorem dX12_feed_96 : decode cX12_feed 96 = .ok (.imul, 1) := by decide +kernel
theorem dX12_feed_97 : decode cX12_feed 97 = .ok (.isub, 1) := by decide +kernel
theorem dX12_feed_98 : decode cX12_feed 98 = .ok (.ishr, 1) := by decide +kernel
theorem dX12_feed_99 : decode cX12_feed 99 = .ok (.sipush 255, 3) := by decide +kernel
theorem dX12_feed_102 : decode cX12_feed 102 = .ok (.iand, 1) := by decide +kernel
theorem dX12_feed_103 : decode cX12_feed 103 = .ok (.iastore, 1) := by decide +kernel
theorem dX12_feed_104 : decode cX12_feed 104 = .ok (.aload_n 0, 1) := by decide +kernel
theorem dX12_feed_105 : decode cX12_feed 105 = .ok (.dup, 1) := by decide +kernel
theorem dX12_feed_106 : decode cX12_feed 106 = .ok (.getfield 90, 3) := by decide +kernel
theorem dX12_feed_109 : decode cX12_feed 109 = .ok (.iconst 1, 1) := by decide +kernel
theorem dX12_feed_110 : decode cX12_feed 110 = .ok (.iadd, 1) := by decide +kernel
theorem dX12_feed_111 : decode cX12_feed 111 = .ok (.putfield 90, 3) := by decide +kernel
theorem dX12_feed_114 : decode cX12_feed 114 = .ok (.iinc 6 1, 3) := by decide +kernel
theorem dX12_feed_117 : decode cX12_feed 117 = .ok (.goto (-94), 3) := by decide +kernel
theorem dX12_feed_120 : decode cX12_feed 120 = .ok (.aload_n 0, 1) := by decide +kernel
theorem dX12_feed_121 : decode cX12_feed 121 = .ok (.getfield 90, 3) := by decide +kernel
theorem dX12_feed_124 : decode cX12_feed 124 = .ok (.ireturn, 1) := by decide +kernel
theorem dX12_byteAt_0 : decode cX12_byteAt 0 = .ok (.iload_n 1, 1) := by decide +kernel
theorem dX12_byteAt_1 : decode cX12_byteAt 1 = .ok (.aload_n 0, 1) := by decide +kernel
theorem dX12_byteAt_2 : decode cX12_byteAt 2 = .ok (.getfield 93, 3) := by decide +kernel
theorem dX12_byteAt_5 : decode cX12_byteAt 5 = .ok (.if_icmp .lt 7, 3) := by decide +kernel
theorem dX12_byteAt_8 : decode cX12_byteAt 8 = .ok (.iconst (-1), 1) := by decide +kernel
theorem dX12_byteAt_9 : decode cX12_byteAt 9 = .ok (.goto 9, 3) := by decide +kernel
theorem dX12_byteAt_12 : decode cX12_byteAt 12 = .ok (.aload_n 0, 1) := by decide +kernel
theorem dX12_byteAt_13 : decode cX12_byteAt 13 = .ok (.getfield 13, 3) := by decide +kernel
theorem dX12_byteAt_16 : decode cX12_byteAt 16 = .ok (.iload_n 1, 1) := by decide +kernel
theorem dX12_byteAt_17 : decode cX12_byteAt 17 = .ok (.iaload, 1) := by decide +kernel
theorem dX12_byteAt_18 : decode cX12_byteAt 18 = .ok (.ireturn, 1) := by decide +kernel
theorem dX12_blanks_0 : decode cX12_blanks 0 = .ok (.aload_n 0, 1) := by decide +kernel
theorem dX12_blanks_1 : decode cX12_blanks 1 = .ok (.aload_n 0, 1) := by decide +kernel
theorem dX12_blanks_2 : decode cX12_blanks 2 = .ok (.getfield 96, 3) := by decide +kernel
theorem dX12_blanks_5 : decode cX12_blanks 5 = .ok (.invokevirtual 99, 3) := by decide +kernel
theorem dX12_blanks_8 : decode cX12_blanks 8 = .ok (.bipush 32, 2) := by decide +kernel
theorem dX12_blanks_10 : decode cX12_blanks 10 = .ok (.if_icmp .ne 16, 3) := by decide +kernel
theorem dX12_blanks_13 : decode cX12_blanks 13 = .ok (.aload_n 0, 1) := by decide +kernel
theorem dX12_blanks_14 : decode cX12_blanks 14 = .ok (.dup, 1) := by decide +kernel
theorem dX12_blanks_15 : decode cX12_blanks 15 = .ok (.getfield 96, 3) := by decide +kernel
theorem dX12_blanks_18 : decode cX12_blanks 18 = .ok (.iconst 1, 1) := by decide +kernel
theorem dX12_blanks_19 : decode cX12_blanks 19 = .ok (.iadd, 1) := by decide +kernel
theorem dX12_blanks_20 : decode cX12_blanks 20 = .ok (.putfield 96, 3) := by decide +kernel
theorem dX12_blanks_23 : decode cX12_blanks 23 = .ok (.goto (-23), 3) := by decide +kernel
theorem dX12_blanks_26 : decode cX12_blanks 26 = .ok (.return_, 1) := by decide +kernel
theorem dX12_isUp_0 : decode cX12_isUp 0 = .ok (.aload_n 0, 1) := by decide +kernel
theorem dX12_isUp_1 : decode cX12_isUp 1 = .ok (.getfield 37, 3) := by decide +kernel
theorem dX12_isUp_4 : decode cX12_isUp 4 = .ok (.iload_n 1, 1) := by decide +kernel
theorem dX12_isUp_5 : decode cX12_isUp 5 = .ok (.iaload, 1) := by decide +kernel
theorem dX12_isUp_6 : decode cX12_isUp 6 = .ok (.ifCond .ne 16, 3) := by decide +kernel
theorem dX12_isUp_9 : decode cX12_isUp 9 = .ok (.aload_n 0, 1) := by decide +kernel
theorem dX12_isUp_10 : decode cX12_isUp 10 = .ok (.getfield 40, 3) := by decide +kernel
theorem dX12_isUp_13 : decode cX12_isUp 13 = .ok (.iload_n 1, 1) := by decide +kernel
theorem dX12_isUp_14 : decode cX12_isUp 14 = .ok (.iaload, 1) := by decide +kernel
theorem dX12_isUp_15 : decode cX12_isUp 15 = .ok (.ifCond .ne 7, 3) := by decide +kernel
theorem dX12_isUp_18 : decode cX12_isUp 18 = .ok (.iconst 1, 1) := by decide +kernel
theorem dX12_isUp_19 : decode cX12_isUp 19 = .ok (.goto 4, 3) := by decide +kernel
theorem dX12_isUp_22 : decode cX12_isUp 22 = .ok (.iconst 0, 1) := by decide +kernel
theorem dX12_isUp_23 : decode cX12_isUp 23 = .ok (.ireturn, 1) := by decide +kernel
theorem dX12_isBody_0 : decode cX12_isBody 0 = .ok (.iload_n 1, 1) := by decide +kernel
theorem dX12_isBody_1 : decode cX12_isBody 1 = .ok (.iconst 0, 1) := by decide +kernel
theorem dX12_isBody_2 : decode cX12_isBody 2 = .ok (.aload_n 0, 1) := by decide +kernel
theorem dX12_isBody_3 : decode cX12_isBody 3 = .ok (.getfield 28, 3) := by decide +kernel
theorem dX12_isBody_6 : decode cX12_isBody 6 = .ok (.iconst 0, 1) := by decide +kernel
theorem dX12_isBody_7 : decode cX12_isBody 7 = .ok (.iaload, 1) := by decide +kernel
theorem dX12_isBody_8 : decode cX12_isBody 8 = .ok (.iconst 1, 1) := by decide +kernel
theorem dX12_isBody_9 : decode cX12_isBody 9 = .ok (.isub, 1) := by decide +kernel
theorem dX12_isBody_10 : decode cX12_isBody 10 = .ok (.invokestatic 124, 3) := by decide +kernel
theorem dX12_isBody_13 : decode cX12_isBody 13 = .ok (.ireturn, 1) := by decide +kernel
theorem dX12_doneMany_0 : decode cX12_doneMany 0 = .ok (.iconst 0, 1) := by decide +kernel
theorem dX12_doneMany_1 : decode cX12_doneMany 1 = .ok (.istore_n 1, 1) := by decide +kernel
theorem dX12_doneMany_2 : decode cX12_doneMany 2 = .ok (.iconst 0, 1) := by decide +kernel
theorem dX12_doneMany_3 : decode cX12_doneMany 3 = .ok (.istore_n 2, 1) := by decide +kernel
theorem dX12_doneMany_4 : decode cX12_doneMany 4 = .ok (.iload_n 2, 1) := by decide +kernel
theorem dX12_doneMany_5 : decode cX12_doneMany 5 = .ok (.aload_n 0, 1) := by decide +kernel
theorem dX12_doneMany_6 : decode cX12_doneMany 6 = .ok (.getfield 28, 3) := by decide +kernel
theorem dX12_doneMany_9 : decode cX12_doneMany 9 = .ok (.iconst 0, 1) := by decide +kernel
theorem dX12_doneMany_10 : decode cX12_doneMany 10 = .ok (.iaload, 1) := by decide +kernel
theorem dX12_doneMany_11 : decode cX12_doneMany 11 = .ok (.if_icmp .ge 18, 3) := by decide +kernel
theorem dX12_doneMany_14 : decode cX12_doneMany 14 = .ok (.iload_n 1, 1) := by decide +kernel
theorem dX12_doneMany_15 : decode cX12_doneMany 15 = .ok (.aload_n 0, 1) := by decide +kernel
theorem dX12_doneMany_16 : decode cX12_doneMany 16 = .ok (.getfield 37, 3) := by decide +kernel
theorem dX12_doneMany_19 : decode cX12_doneMany 19 = .ok (.iload_n 2, 1) := by decide +kernel
theorem dX12_doneMany_20 : decode cX12_doneMany 20 = .ok (.iaload, 1) := by decide +kernel
theorem dX12_doneMany_21 : decode cX12_doneMany 21 = .ok (.iadd, 1) := by decide +kernel
theorem dX12_doneMany_22 : decode cX12_doneMany 22 = .ok (.istore_n 1, 1) := by decide +kernel
theorem dX12_doneMany_23 : decode cX12_doneMany 23 = .ok (.iinc 2 1, 3) := by decide +kernel
theorem dX12_doneMany_26 : decode cX12_doneMany 26 = .ok (.goto (-22), 3) := by decide +kernel
theorem dX12_doneMany_29 : decode cX12_doneMany 29 = .ok (.iload_n 1, 1) := by decide +kernel
theorem dX12_doneMany_30 : decode cX12_doneMany 30 = .ok (.ireturn, 1) := by decide +kernel
set_option maxHeartbeats 4000000 in
set_option maxRecDepth 100000 in
/-- the reference: in -/
theorem m_in (l : Launch) (hl0 : l.stackTraces = false) (D : va_G) (cy : Nat → ClassId) (sa : Nat → Nat) (n0 l0 u0 : Int32)  (sz : Nat) : Met l yX12_in (Cond.code yX12_in cX12_in 3 (some .boolean) :: kWS) ({ frames := 10, cells := 0, slots := 0, locals := 300 }) (kPre D cy sa [.int n0, .int l0, .int u0] [] sz) (va_Qi (fun (r : Int32) (u : Unit) => (r.toInt = 0 ∧ (n0.toInt < l0.toInt ∨ u0.toInt < n0.toInt) ∨ (r.toInt = 1 ∧ l0.toInt ≤ n0.toInt ∧ n0.toInt ≤ u0.toInt))) (kB D (va_A [] sz) (fun (u : Unit) => [])) (va_A [] sz)) 0 0 (va_A [] sz) := by
  refine k_ofW (y := yX12_in) (cc := cX12_in) (maxL := 3) (ret := (some .boolean)) (av := [.int n0, .int l0, .int u0]) (ws := []) (Qc := fun A => (va_Qi (fun (r : Int32) (u : Unit) => (r.toInt = 0 ∧ (n0.toInt < l0.toInt ∨ u0.toInt < n0.toInt) ∨ (r.toInt = 1 ∧ l0.toInt ≤ n0.toInt ∧ n0.toInt ≤ u0.toInt))) (kB D A (fun (u : Unit) => [])) A)) (by decide) (Nat.le_of_ble_eq_true rfl) ?_
  intro p e s m below meth c ls A E hA hP hD hG hS hl
  obtain ⟨Q0, hQ0⟩ : ∃ Q0 : State → Prop, Q0 = MQ below (va_Qi (fun (r : Int32) (u : Unit) => (r.toInt = 0 ∧ (n0.toInt < l0.toInt ∨ u0.toInt < n0.toInt) ∨ (r.toInt = 1 ∧ l0.toInt ≤ n0.toInt ∧ n0.toInt ≤ u0.toInt))) (kB D A (fun (u : Unit) => [])) A) ([.int n0, .int l0, .int u0] : List Value).toArray s 0 0 A := ⟨_, rfl⟩
  rw [← hQ0]
  obtain ⟨hx, hb, hml, hown, hts, hr, hlk, hnm⟩ := id E
  have hown : s.vm.findClass RX12 = some m.cls := hown
  have hl : lv_has ls 3 [(0, .int n0), (1, .int l0), (2, .int u0)] := hl
  have g_n0 := k_rng n0
  have g_l0 := k_rng l0
  have g_u0 := k_rng u0
  obtain ⟨H, hH⟩ : ∃ H, H = s.heap := ⟨_, rfl⟩
  have hP : va_P D vwCl [] H := by rw [hH]; exact hP
  have hS : va_S A s.heap H [] := by rw [hH]; exact va_S.rf
  rw [← hH]
  clear hH
  obtain ⟨locs, hlocs⟩ : ∃ locs : List Loc, locs = [] := ⟨_, rfl⟩
  rw [← hlocs] at hS ⊢
  refine lv_iload_n hx hb dX12_in_0 rfl (lv_at hl 0 rfl) ?_
  refine lv_iload_n hx hb dX12_in_1 rfl (lv_at hl 1 rfl) ?_
  refine lv_icmp_lt (tgt := 14) hx hb dX12_in_2 (by decide) (fun c1q => ?_) (fun c1q => ?_)
  · simp only [k_lt, k_le, k_eq, ne_eq, ge_iff_le, gt_iff_lt] at c1q
    refine lv_iconst (v := 0) hx hb dX12_in_14 (by decide) ?_
    rw [hQ0]
    exact k_zret () hx hb hr hlk (k_nz (by decide)) ((by show (0 : Int32).toInt = 0 ∧ (n0.toInt < l0.toInt ∨ u0.toInt < n0.toInt) ∨ ((0 : Int32).toInt = 1 ∧ l0.toInt ≤ n0.toInt ∧ n0.toInt ≤ u0.toInt); rw [n_L0]; omega)) (hP.sub [] rfl) (hD.sub [] (by decide) rfl) hS (by decide) (by decide) dX12_in_15
  · simp only [k_lt, k_le, k_eq, ne_eq, ge_iff_le, gt_iff_lt] at c1q
    refine lv_iload_n hx hb dX12_in_5 rfl (lv_at hl 0 rfl) ?_
    refine lv_iload_n hx hb dX12_in_6 rfl (lv_at hl 2 rfl) ?_
    refine lv_icmp_gt (tgt := 14) hx hb dX12_in_7 (by decide) (fun c2q => ?_) (fun c2q => ?_)
    · simp only [k_lt, k_le, k_eq, ne_eq, ge_iff_le, gt_iff_lt] at c2q
      refine lv_iconst (v := 0) hx hb dX12_in_14 (by decide) ?_
      rw [hQ0]
      exact k_zret () hx hb hr hlk (k_nz (by decide)) ((by show (0 : Int32).toInt = 0 ∧ (n0.toInt < l0.toInt ∨ u0.toInt < n0.toInt) ∨ ((0 : Int32).toInt = 1 ∧ l0.toInt ≤ n0.toInt ∧ n0.toInt ≤ u0.toInt); rw [n_L0]; omega)) (hP.sub [] rfl) (hD.sub [] (by decide) rfl) hS (by decide) (by decide) dX12_in_15
    · simp only [k_lt, k_le, k_eq, ne_eq, ge_iff_le, gt_iff_lt] at c2q
      refine lv_iconst (v := 1) hx hb dX12_in_10 (by decide) ?_
      refine lv_goto (tgt := 15) hx hb dX12_in_11 (by decide) ?_
      rw [hQ0]
      exact k_zret () hx hb hr hlk (k_nz (by decide)) ((by show (1 : Int32).toInt = 0 ∧ (n0.toInt < l0.toInt ∨ u0.toInt < n0.toInt) ∨ ((1 : Int32).toInt = 1 ∧ l0.toInt ≤ n0.toInt ∧ n0.toInt ≤ u0.toInt); rw [n_L1]; omega)) (hP.sub [] rfl) (hD.sub [] (by decide) rfl) hS (by decide) (by decide) dX12_in_15

set_option maxHeartbeats 4000000 in
set_option maxRecDepth 100000 in
/-- the reference: amount -/
theorem m_amount (l : Launch) (hl0 : l.stackTraces = false) (D : va_G) (cy : Nat → ClassId) (sa : Nat → Nat) (n0 : Int32) (h_n0 : -100000 ≤ n0.toInt ∧ n0.toInt ≤ 100000) (sz : Nat) : Met l yX12_amount (Cond.code yX12_amount cX12_amount 1 (some .int) :: kWS) ({ frames := 10, cells := 0, slots := 0, locals := 300 }) (kPre D cy sa [.int n0] [] sz) (va_Qi (fun (r : Int32) (u : Unit) => ((r.toInt = n0.toInt ∨ r.toInt = -n0.toInt) ∧ 0 ≤ r.toInt)) (kB D (va_A [] sz) (fun (u : Unit) => [])) (va_A [] sz)) 0 0 (va_A [] sz) := by
  refine k_ofW (y := yX12_amount) (cc := cX12_amount) (maxL := 1) (ret := (some .int)) (av := [.int n0]) (ws := []) (Qc := fun A => (va_Qi (fun (r : Int32) (u : Unit) => ((r.toInt = n0.toInt ∨ r.toInt = -n0.toInt) ∧ 0 ≤ r.toInt)) (kB D A (fun (u : Unit) => [])) A)) (by decide) (Nat.le_of_ble_eq_true rfl) ?_
  intro p e s m below meth c ls A E hA hP hD hG hS hl
  obtain ⟨Q0, hQ0⟩ : ∃ Q0 : State → Prop, Q0 = MQ below (va_Qi (fun (r : Int32) (u : Unit) => ((r.toInt = n0.toInt ∨ r.toInt = -n0.toInt) ∧ 0 ≤ r.toInt)) (kB D A (fun (u : Unit) => [])) A) ([.int n0] : List Value).toArray s 0 0 A := ⟨_, rfl⟩
  rw [← hQ0]
  obtain ⟨hx, hb, hml, hown, hts, hr, hlk, hnm⟩ := id E
  have hown : s.vm.findClass RX12 = some m.cls := hown
  have hl : lv_has ls 1 [(0, .int n0)] := hl
  obtain ⟨H, hH⟩ : ∃ H, H = s.heap := ⟨_, rfl⟩
  have hP : va_P D vwCl [] H := by rw [hH]; exact hP
  have hS : va_S A s.heap H [] := by rw [hH]; exact va_S.rf
  rw [← hH]
  clear hH
  obtain ⟨locs, hlocs⟩ : ∃ locs : List Loc, locs = [] := ⟨_, rfl⟩
  rw [← hlocs] at hS ⊢
  refine lv_iload_n hx hb dX12_amount_0 rfl (lv_at hl 0 rfl) ?_
  refine lv_if_ge (tgt := 9) hx hb dX12_amount_1 (by decide) (fun c1q => ?_) (fun c1q => ?_)
  · simp only [k_lt, k_le, k_eq, ne_eq, ge_iff_le, gt_iff_lt, n_L0, n_L0] at c1q
    refine lv_iload_n hx hb dX12_amount_9 rfl (lv_at hl 0 rfl) ?_
    rw [hQ0]
    exact k_iret () hx hb hr hlk ((show (n0.toInt = n0.toInt ∨ n0.toInt = -n0.toInt) ∧ 0 ≤ n0.toInt by omega)) (hP.sub [] rfl) (hD.sub [] (by decide) rfl) hS (by decide) (by decide) dX12_amount_10
  · simp only [k_lt, k_le, k_eq, ne_eq, ge_iff_le, gt_iff_lt, n_L0, n_L0] at c1q
    refine lv_iload_n hx hb dX12_amount_4 rfl (lv_at hl 0 rfl) ?_
    refine lv_ineg hx hb dX12_amount_5 ?_
    refine lv_topi (fun x2q ex2q => ?_)
    have rx2q := n_neg ex2q (a := n0.toInt) rfl (by omega)
    refine lv_goto (tgt := 10) hx hb dX12_amount_6 (by decide) ?_
    rw [hQ0]
    exact k_iret () hx hb hr hlk ((show (x2q.toInt = n0.toInt ∨ x2q.toInt = -n0.toInt) ∧ 0 ≤ x2q.toInt by omega)) (hP.sub [] rfl) (hD.sub [] (by decide) rfl) hS (by decide) (by decide) dX12_amount_10

set_option maxHeartbeats 4000000 in
set_option maxRecDepth 100000 in
/-- the reference: less -/
theorem m_less (l : Launch) (hl0 : l.stackTraces = false) (D : va_G) (cy : Nat → ClassId) (sa : Nat → Nat) (n0 n1 : Int32)  (sz : Nat) : Met l yX12_less (Cond.code yX12_less cX12_less 2 (some .int) :: kWS) ({ frames := 10, cells := 0, slots := 0, locals := 300 }) (kPre D cy sa [.int n0, .int n1] [] sz) (va_Qi (fun (r : Int32) (u : Unit) => (r.toInt ≤ n0.toInt ∧ r.toInt ≤ n1.toInt ∧ (r.toInt = n0.toInt ∨ r.toInt = n1.toInt))) (kB D (va_A [] sz) (fun (u : Unit) => [])) (va_A [] sz)) 0 0 (va_A [] sz) := by
  refine k_ofW (y := yX12_less) (cc := cX12_less) (maxL := 2) (ret := (some .int)) (av := [.int n0, .int n1]) (ws := []) (Qc := fun A => (va_Qi (fun (r : Int32) (u : Unit) => (r.toInt ≤ n0.toInt ∧ r.toInt ≤ n1.toInt ∧ (r.toInt = n0.toInt ∨ r.toInt = n1.toInt))) (kB D A (fun (u : Unit) => [])) A)) (by decide) (Nat.le_of_ble_eq_true rfl) ?_
  intro p e s m below meth c ls A E hA hP hD hG hS hl
  obtain ⟨Q0, hQ0⟩ : ∃ Q0 : State → Prop, Q0 = MQ below (va_Qi (fun (r : Int32) (u : Unit) => (r.toInt ≤ n0.toInt ∧ r.toInt ≤ n1.toInt ∧ (r.toInt = n0.toInt ∨ r.toInt = n1.toInt))) (kB D A (fun (u : Unit) => [])) A) ([.int n0, .int n1] : List Value).toArray s 0 0 A := ⟨_, rfl⟩
  rw [← hQ0]
  obtain ⟨hx, hb, hml, hown, hts, hr, hlk, hnm⟩ := id E
  have hown : s.vm.findClass RX12 = some m.cls := hown
  have hl : lv_has ls 2 [(0, .int n0), (1, .int n1)] := hl
  have g_n0 := k_rng n0
  have g_n1 := k_rng n1
  obtain ⟨H, hH⟩ : ∃ H, H = s.heap := ⟨_, rfl⟩
  have hP : va_P D vwCl [] H := by rw [hH]; exact hP
  have hS : va_S A s.heap H [] := by rw [hH]; exact va_S.rf
  rw [← hH]
  clear hH
  obtain ⟨locs, hlocs⟩ : ∃ locs : List Loc, locs = [] := ⟨_, rfl⟩
  rw [← hlocs] at hS ⊢
  refine lv_iload_n hx hb dX12_less_0 rfl (lv_at hl 0 rfl) ?_
  refine lv_iload_n hx hb dX12_less_1 rfl (lv_at hl 1 rfl) ?_
  refine lv_icmp_ge (tgt := 9) hx hb dX12_less_2 (by decide) (fun c1q => ?_) (fun c1q => ?_)
  · simp only [k_lt, k_le, k_eq, ne_eq, ge_iff_le, gt_iff_lt] at c1q
    refine lv_iload_n hx hb dX12_less_9 rfl (lv_at hl 1 rfl) ?_
    rw [hQ0]
    exact k_iret () hx hb hr hlk ((show n1.toInt ≤ n0.toInt ∧ n1.toInt ≤ n1.toInt ∧ (n1.toInt = n0.toInt ∨ n1.toInt = n1.toInt) by omega)) (hP.sub [] rfl) (hD.sub [] (by decide) rfl) hS (by decide) (by decide) dX12_less_10
  · simp only [k_lt, k_le, k_eq, ne_eq, ge_iff_le, gt_iff_lt] at c1q
    refine lv_iload_n hx hb dX12_less_5 rfl (lv_at hl 0 rfl) ?_
    refine lv_goto (tgt := 10) hx hb dX12_less_6 (by decide) ?_
    rw [hQ0]
    exact k_iret () hx hb hr hlk ((show n0.toInt ≤ n0.toInt ∧ n0.toInt ≤ n1.toInt ∧ (n0.toInt = n0.toInt ∨ n0.toInt = n1.toInt) by omega)) (hP.sub [] rfl) (hD.sub [] (by decide) rfl) hS (by decide) (by decide) dX12_less_10

set_option maxHeartbeats 4000000 in
set_option maxRecDepth 100000 in
/-- the reference: more -/
theorem m_more (l : Launch) (hl0 : l.stackTraces = false) (D : va_G) (cy : Nat → ClassId) (sa : Nat → Nat) (n0 n1 : Int32)  (sz : Nat) : Met l yX12_more (Cond.code yX12_more cX12_more 2 (some .int) :: kWS) ({ frames := 10, cells := 0, slots := 0, locals := 300 }) (kPre D cy sa [.int n0, .int n1] [] sz) (va_Qi (fun (r : Int32) (u : Unit) => (n0.toInt ≤ r.toInt ∧ n1.toInt ≤ r.toInt ∧ (r.toInt = n0.toInt ∨ r.toInt = n1.toInt))) (kB D (va_A [] sz) (fun (u : Unit) => [])) (va_A [] sz)) 0 0 (va_A [] sz) := by
  refine k_ofW (y := yX12_more) (cc := cX12_more) (maxL := 2) (ret := (some .int)) (av := [.int n0, .int n1]) (ws := []) (Qc := fun A => (va_Qi (fun (r : Int32) (u : Unit) => (n0.toInt ≤ r.toInt ∧ n1.toInt ≤ r.toInt ∧ (r.toInt = n0.toInt ∨ r.toInt = n1.toInt))) (kB D A (fun (u : Unit) => [])) A)) (by decide) (Nat.le_of_ble_eq_true rfl) ?_
  intro p e s m below meth c ls A E hA hP hD hG hS hl
  obtain ⟨Q0, hQ0⟩ : ∃ Q0 : State → Prop, Q0 = MQ below (va_Qi (fun (r : Int32) (u : Unit) => (n0.toInt ≤ r.toInt ∧ n1.toInt ≤ r.toInt ∧ (r.toInt = n0.toInt ∨ r.toInt = n1.toInt))) (kB D A (fun (u : Unit) => [])) A) ([.int n0, .int n1] : List Value).toArray s 0 0 A := ⟨_, rfl⟩
  rw [← hQ0]
  obtain ⟨hx, hb, hml, hown, hts, hr, hlk, hnm⟩ := id E
  have hown : s.vm.findClass RX12 = some m.cls := hown
  have hl : lv_has ls 2 [(0, .int n0), (1, .int n1)] := hl
  have g_n0 := k_rng n0
  have g_n1 := k_rng n1
  obtain ⟨H, hH⟩ : ∃ H, H = s.heap := ⟨_, rfl⟩
  have hP : va_P D vwCl [] H := by rw [hH]; exact hP
  have hS : va_S A s.heap H [] := by rw [hH]; exact va_S.rf
  rw [← hH]
  clear hH
  obtain ⟨locs, hlocs⟩ : ∃ locs : List Loc, locs = [] := ⟨_, rfl⟩
  rw [← hlocs] at hS ⊢
  refine lv_iload_n hx hb dX12_more_0 rfl (lv_at hl 0 rfl) ?_
  refine lv_iload_n hx hb dX12_more_1 rfl (lv_at hl 1 rfl) ?_
  refine lv_icmp_le (tgt := 9) hx hb dX12_more_2 (by decide) (fun c1q => ?_) (fun c1q => ?_)
  · simp only [k_lt, k_le, k_eq, ne_eq, ge_iff_le, gt_iff_lt] at c1q
    refine lv_iload_n hx hb dX12_more_9 rfl (lv_at hl 1 rfl) ?_
    rw [hQ0]
    exact k_iret () hx hb hr hlk ((show n0.toInt ≤ n1.toInt ∧ n1.toInt ≤ n1.toInt ∧ (n1.toInt = n0.toInt ∨ n1.toInt = n1.toInt) by omega)) (hP.sub [] rfl) (hD.sub [] (by decide) rfl) hS (by decide) (by decide) dX12_more_10
  · simp only [k_lt, k_le, k_eq, ne_eq, ge_iff_le, gt_iff_lt] at c1q
    refine lv_iload_n hx hb dX12_more_5 rfl (lv_at hl 0 rfl) ?_
    refine lv_goto (tgt := 10) hx hb dX12_more_6 (by decide) ?_
    rw [hQ0]
    exact k_iret () hx hb hr hlk ((show n0.toInt ≤ n0.toInt ∧ n1.toInt ≤ n0.toInt ∧ (n0.toInt = n0.toInt ∨ n0.toInt = n1.toInt) by omega)) (hP.sub [] rfl) (hD.sub [] (by decide) rfl) hS (by decide) (by decide) dX12_more_10

set_option maxHeartbeats 4000000 in
set_option maxRecDepth 100000 in
/-- the reference: isDigit -/
theorem m_isDigit (l : Launch) (hl0 : l.stackTraces = false) (D : va_G) (cy : Nat → ClassId) (sa : Nat → Nat) (n0 : Int32)  (sz : Nat) : Met l yX12_isDigit (Cond.code yX12_isDigit cX12_isDigit 1 (some .boolean) :: kWS) ({ frames := 10, cells := 0, slots := 0, locals := 300 }) (kPre D cy sa [.int n0] [] sz) (va_Qi (fun (r : Int32) (u : Unit) => (r.toInt = 0 ∨ (r.toInt = 1 ∧ 48 ≤ n0.toInt ∧ n0.toInt ≤ 57))) (kB D (va_A [] sz) (fun (u : Unit) => [])) (va_A [] sz)) 0 0 (va_A [] sz) := by
  refine k_ofW (y := yX12_isDigit) (cc := cX12_isDigit) (maxL := 1) (ret := (some .boolean)) (av := [.int n0]) (ws := []) (Qc := fun A => (va_Qi (fun (r : Int32) (u : Unit) => (r.toInt = 0 ∨ (r.toInt = 1 ∧ 48 ≤ n0.toInt ∧ n0.toInt ≤ 57))) (kB D A (fun (u : Unit) => [])) A)) (by decide) (Nat.le_of_ble_eq_true rfl) ?_
  intro p e s m below meth c ls A E hA hP hD hG hS hl
  obtain ⟨Q0, hQ0⟩ : ∃ Q0 : State → Prop, Q0 = MQ below (va_Qi (fun (r : Int32) (u : Unit) => (r.toInt = 0 ∨ (r.toInt = 1 ∧ 48 ≤ n0.toInt ∧ n0.toInt ≤ 57))) (kB D A (fun (u : Unit) => [])) A) ([.int n0] : List Value).toArray s 0 0 A := ⟨_, rfl⟩
  rw [← hQ0]
  obtain ⟨hx, hb, hml, hown, hts, hr, hlk, hnm⟩ := id E
  have hown : s.vm.findClass RX12 = some m.cls := hown
  have hl : lv_has ls 1 [(0, .int n0)] := hl
  have g_n0 := k_rng n0
  obtain ⟨H, hH⟩ : ∃ H, H = s.heap := ⟨_, rfl⟩
  have hP : va_P D vwCl [] H := by rw [hH]; exact hP
  have hS : va_S A s.heap H [] := by rw [hH]; exact va_S.rf
  rw [← hH]
  clear hH
  obtain ⟨locs, hlocs⟩ : ∃ locs : List Loc, locs = [] := ⟨_, rfl⟩
  rw [← hlocs] at hS ⊢
  refine lv_iload_n hx hb dX12_isDigit_0 rfl (lv_at hl 0 rfl) ?_
  refine lv_bipush (v := 48) hx hb dX12_isDigit_1 (by decide) ?_
  refine lv_icmp_lt (tgt := 16) hx hb dX12_isDigit_3 (by decide) (fun c1q => ?_) (fun c1q => ?_)
  · simp only [k_lt, k_le, k_eq, ne_eq, ge_iff_le, gt_iff_lt, n_L48] at c1q
    refine lv_iconst (v := 0) hx hb dX12_isDigit_16 (by decide) ?_
    rw [hQ0]
    exact k_zret () hx hb hr hlk (k_nz (by decide)) ((by show (0 : Int32).toInt = 0 ∨ ((0 : Int32).toInt = 1 ∧ 48 ≤ n0.toInt ∧ n0.toInt ≤ 57); rw [n_L0]; omega)) (hP.sub [] rfl) (hD.sub [] (by decide) rfl) hS (by decide) (by decide) dX12_isDigit_17
  · simp only [k_lt, k_le, k_eq, ne_eq, ge_iff_le, gt_iff_lt, n_L48] at c1q
    refine lv_iload_n hx hb dX12_isDigit_6 rfl (lv_at hl 0 rfl) ?_
    refine lv_bipush (v := 57) hx hb dX12_isDigit_7 (by decide) ?_
    refine lv_icmp_gt (tgt := 16) hx hb dX12_isDigit_9 (by decide) (fun c2q => ?_) (fun c2q => ?_)
    · simp only [k_lt, k_le, k_eq, ne_eq, ge_iff_le, gt_iff_lt, n_L57] at c2q
      refine lv_iconst (v := 0) hx hb dX12_isDigit_16 (by decide) ?_
      rw [hQ0]
      exact k_zret () hx hb hr hlk (k_nz (by decide)) ((by show (0 : Int32).toInt = 0 ∨ ((0 : Int32).toInt = 1 ∧ 48 ≤ n0.toInt ∧ n0.toInt ≤ 57); rw [n_L0]; omega)) (hP.sub [] rfl) (hD.sub [] (by decide) rfl) hS (by decide) (by decide) dX12_isDigit_17
    · simp only [k_lt, k_le, k_eq, ne_eq, ge_iff_le, gt_iff_lt, n_L57] at c2q
      refine lv_iconst (v := 1) hx hb dX12_isDigit_12 (by decide) ?_
      refine lv_goto (tgt := 17) hx hb dX12_isDigit_13 (by decide) ?_
      rw [hQ0]
      exact k_zret () hx hb hr hlk (k_nz (by decide)) ((by show (1 : Int32).toInt = 0 ∨ ((1 : Int32).toInt = 1 ∧ 48 ≤ n0.toInt ∧ n0.toInt ≤ 57); rw [n_L1]; omega)) (hP.sub [] rfl) (hD.sub [] (by decide) rfl) hS (by decide) (by decide) dX12_isDigit_17

set_option maxHeartbeats 4000000 in
set_option maxRecDepth 100000 in
/-- the reference: named -/
theorem m_named (l : Launch) (hl0 : l.stackTraces = false) (D : va_G) (cy : Nat → ClassId) (sa : Nat → Nat) (a0 a1 a2 a3 a4 a5 : Int32)  (sz : Nat) : Met l yX12_named (Cond.code yX12_named cX12_named 7 (some .int) :: kWS) ({ frames := 10, cells := 0, slots := 0, locals := 300 }) (kPre D cy sa [.int a0, .int a1, .int a2, .int a3, .int a4, .int a5] [] sz) (va_Qi (fun (r : Int32) (u : Unit) => True) (kB D (va_A [] sz) (fun (u : Unit) => [])) (va_A [] sz)) 0 0 (va_A [] sz) := by
  refine k_ofW (y := yX12_named) (cc := cX12_named) (maxL := 7) (ret := (some .int)) (av := [.int a0, .int a1, .int a2, .int a3, .int a4, .int a5]) (ws := []) (Qc := fun A => (va_Qi (fun (r : Int32) (u : Unit) => True) (kB D A (fun (u : Unit) => [])) A)) (by decide) (Nat.le_of_ble_eq_true rfl) ?_
  intro p e s m below meth c ls A E hA hP hD hG hS hl
  obtain ⟨Q0, hQ0⟩ : ∃ Q0 : State → Prop, Q0 = MQ below (va_Qi (fun (r : Int32) (u : Unit) => True) (kB D A (fun (u : Unit) => [])) A) ([.int a0, .int a1, .int a2, .int a3, .int a4, .int a5] : List Value).toArray s 0 0 A := ⟨_, rfl⟩
  rw [← hQ0]
  obtain ⟨hx, hb, hml, hown, hts, hr, hlk, hnm⟩ := id E
  have hown : s.vm.findClass RX12 = some m.cls := hown
  have hl : lv_has ls 7 [(0, .int a0), (1, .int a1), (2, .int a2), (3, .int a3), (4, .int a4), (5, .int a5)] := hl
  have g_a0 := k_rng a0
  have g_a1 := k_rng a1
  have g_a2 := k_rng a2
  have g_a3 := k_rng a3
  have g_a4 := k_rng a4
  have g_a5 := k_rng a5
  obtain ⟨H, hH⟩ : ∃ H, H = s.heap := ⟨_, rfl⟩
  have hP : va_P D vwCl [] H := by rw [hH]; exact hP
  have hS : va_S A s.heap H [] := by rw [hH]; exact va_S.rf
  rw [← hH]
  clear hH
  obtain ⟨locs, hlocs⟩ : ∃ locs : List Loc, locs = [] := ⟨_, rfl⟩
  rw [← hlocs] at hS ⊢
  refine lv_bipush (v := 27) hx hb dX12_named_0 (by decide) ?_
  refine lv_bipush (v := 27) hx hb dX12_named_2 (by decide) ?_
  refine lv_iload_n hx hb dX12_named_4 rfl (lv_at hl 0 rfl) ?_
  refine lv_imul hx hb dX12_named_5 ?_
  refine lv_topi (fun x1q ex1q => ?_)
  have gx1q := k_rng a0
  refine lv_iload_n hx hb dX12_named_6 rfl (lv_at hl 1 rfl) ?_
  refine lv_iadd hx hb dX12_named_7 ?_
  refine lv_topi (fun x2q ex2q => ?_)
  have gx2q := k_rng x1q
  have gx2q := k_rng a1
  refine lv_imul hx hb dX12_named_8 ?_
  refine lv_topi (fun x3q ex3q => ?_)
  have gx3q := k_rng x2q
  refine lv_iload_n hx hb dX12_named_9 rfl (lv_at hl 2 rfl) ?_
  refine lv_iadd hx hb dX12_named_10 ?_
  refine lv_topi (fun x4q ex4q => ?_)
  have gx4q := k_rng x3q
  have gx4q := k_rng a2
  refine lv_istore (lv' := [(6, .int x4q), (0, .int a0), (1, .int a1), (2, .int a2), (3, .int a3), (4, .int a4), (5, .int a5)]) hx hb dX12_named_11 hl (by decide) rfl (fun ls hl => ?_)
  refine lv_iload_n hx hb dX12_named_13 rfl (lv_at hl 4 rfl) ?_
  refine lv_if_ne (tgt := 22) hx hb dX12_named_14 (by decide) (fun c5q => ?_) (fun c5q => ?_)
  · simp only [k_lt, k_le, k_eq, ne_eq, ge_iff_le, gt_iff_lt, n_L0, n_L0] at c5q
    refine lv_bipush (v := 27) hx hb dX12_named_22 (by decide) ?_
    refine lv_iload hx hb dX12_named_24 (lv_at hl 0 rfl) ?_
    refine lv_imul hx hb dX12_named_26 ?_
    refine lv_topi (fun x6q ex6q => ?_)
    have gx6q := k_rng x4q
    refine lv_iload_n hx hb dX12_named_27 rfl (lv_at hl 4 rfl) ?_
    refine lv_iadd hx hb dX12_named_28 ?_
    refine lv_topi (fun x7q ex7q => ?_)
    have gx7q := k_rng x6q
    have gx7q := k_rng a3
    refine lv_istore (lv' := [(6, .int x7q), (0, .int a0), (1, .int a1), (2, .int a2), (3, .int a3), (4, .int a4), (5, .int a5)]) hx hb dX12_named_29 hl (by decide) rfl (fun ls hl => ?_)
    refine lv_iload hx hb dX12_named_31 (lv_at hl 5 rfl) ?_
    refine lv_if_ne (tgt := 41) hx hb dX12_named_33 (by decide) (fun c8q => ?_) (fun c8q => ?_)
    · simp only [k_lt, k_le, k_eq, ne_eq, ge_iff_le, gt_iff_lt, n_L0, n_L0] at c8q
      refine lv_bipush (v := 27) hx hb dX12_named_41 (by decide) ?_
      refine lv_iload hx hb dX12_named_43 (lv_at hl 0 rfl) ?_
      refine lv_imul hx hb dX12_named_45 ?_
      refine lv_topi (fun x9q ex9q => ?_)
      have gx9q := k_rng x7q
      refine lv_iload hx hb dX12_named_46 (lv_at hl 5 rfl) ?_
      refine lv_iadd hx hb dX12_named_48 ?_
      refine lv_topi (fun x10q ex10q => ?_)
      have gx10q := k_rng x9q
      have gx10q := k_rng a4
      refine lv_istore (lv' := [(6, .int x10q), (0, .int a0), (1, .int a1), (2, .int a2), (3, .int a3), (4, .int a4), (5, .int a5)]) hx hb dX12_named_49 hl (by decide) rfl (fun ls hl => ?_)
      refine lv_iload hx hb dX12_named_51 (lv_at hl 6 rfl) ?_
      refine lv_if_ne (tgt := 61) hx hb dX12_named_53 (by decide) (fun c11q => ?_) (fun c11q => ?_)
      · simp only [k_lt, k_le, k_eq, ne_eq, ge_iff_le, gt_iff_lt, n_L0, n_L0] at c11q
        refine lv_bipush (v := 27) hx hb dX12_named_61 (by decide) ?_
        refine lv_iload hx hb dX12_named_63 (lv_at hl 0 rfl) ?_
        refine lv_imul hx hb dX12_named_65 ?_
        refine lv_topi (fun x12q ex12q => ?_)
        have gx12q := k_rng x10q
        refine lv_iload hx hb dX12_named_66 (lv_at hl 6 rfl) ?_
        refine lv_iadd hx hb dX12_named_68 ?_
        refine lv_topi (fun x13q ex13q => ?_)
        have gx13q := k_rng x12q
        have gx13q := k_rng a5
        rw [hQ0]
        exact k_iret () hx hb hr hlk (trivial) (hP.sub [] rfl) (hD.sub [] (by decide) rfl) hS (by decide) (by decide) dX12_named_69
      · simp only [k_lt, k_le, k_eq, ne_eq, ge_iff_le, gt_iff_lt, n_L0, n_L0] at c11q
        refine lv_iload hx hb dX12_named_56 (lv_at hl 0 rfl) ?_
        refine lv_goto (tgt := 69) hx hb dX12_named_58 (by decide) ?_
        rw [hQ0]
        exact k_iret () hx hb hr hlk (trivial) (hP.sub [] rfl) (hD.sub [] (by decide) rfl) hS (by decide) (by decide) dX12_named_69
    · simp only [k_lt, k_le, k_eq, ne_eq, ge_iff_le, gt_iff_lt, n_L0, n_L0] at c8q
      refine lv_iload hx hb dX12_named_36 (lv_at hl 0 rfl) ?_
      refine lv_goto (tgt := 49) hx hb dX12_named_38 (by decide) ?_
      refine lv_istore (lv' := [(6, .int x7q), (0, .int a0), (1, .int a1), (2, .int a2), (3, .int a3), (4, .int a4), (5, .int a5)]) hx hb dX12_named_49 hl (by decide) rfl (fun ls hl => ?_)
      refine lv_iload hx hb dX12_named_51 (lv_at hl 6 rfl) ?_
      refine lv_if_ne (tgt := 61) hx hb dX12_named_53 (by decide) (fun c14q => ?_) (fun c14q => ?_)
      · simp only [k_lt, k_le, k_eq, ne_eq, ge_iff_le, gt_iff_lt, n_L0, n_L0] at c14q
        refine lv_bipush (v := 27) hx hb dX12_named_61 (by decide) ?_
        refine lv_iload hx hb dX12_named_63 (lv_at hl 0 rfl) ?_
        refine lv_imul hx hb dX12_named_65 ?_
        refine lv_topi (fun x15q ex15q => ?_)
        have gx15q := k_rng x7q
        refine lv_iload hx hb dX12_named_66 (lv_at hl 6 rfl) ?_
        refine lv_iadd hx hb dX12_named_68 ?_
        refine lv_topi (fun x16q ex16q => ?_)
        have gx16q := k_rng x15q
        have gx16q := k_rng a5
        rw [hQ0]
        exact k_iret () hx hb hr hlk (trivial) (hP.sub [] rfl) (hD.sub [] (by decide) rfl) hS (by decide) (by decide) dX12_named_69
      · simp only [k_lt, k_le, k_eq, ne_eq, ge_iff_le, gt_iff_lt, n_L0, n_L0] at c14q
        refine lv_iload hx hb dX12_named_56 (lv_at hl 0 rfl) ?_
        refine lv_goto (tgt := 69) hx hb dX12_named_58 (by decide) ?_
        rw [hQ0]
        exact k_iret () hx hb hr hlk (trivial) (hP.sub [] rfl) (hD.sub [] (by decide) rfl) hS (by decide) (by decide) dX12_named_69
  · simp only [k_lt, k_le, k_eq, ne_eq, ge_iff_le, gt_iff_lt, n_L0, n_L0] at c5q
    refine lv_iload hx hb dX12_named_17 (lv_at hl 0 rfl) ?_
    refine lv_goto (tgt := 29) hx hb dX12_named_19 (by decide) ?_
    refine lv_istore (lv' := [(6, .int x4q), (0, .int a0), (1, .int a1), (2, .int a2), (3, .int a3), (4, .int a4), (5, .int a5)]) hx hb dX12_named_29 hl (by decide) rfl (fun ls hl => ?_)
    refine lv_iload hx hb dX12_named_31 (lv_at hl 5 rfl) ?_
    refine lv_if_ne (tgt := 41) hx hb dX12_named_33 (by decide) (fun c17q => ?_) (fun c17q => ?_)
    · simp only [k_lt, k_le, k_eq, ne_eq, ge_iff_le, gt_iff_lt, n_L0, n_L0] at c17q
      refine lv_bipush (v := 27) hx hb dX12_named_41 (by decide) ?_
      refine lv_iload hx hb dX12_named_43 (lv_at hl 0 rfl) ?_
      refine lv_imul hx hb dX12_named_45 ?_
      refine lv_topi (fun x18q ex18q => ?_)
      have gx18q := k_rng x4q
      refine lv_iload hx hb dX12_named_46 (lv_at hl 5 rfl) ?_
      refine lv_iadd hx hb dX12_named_48 ?_
      refine lv_topi (fun x19q ex19q => ?_)
      have gx19q := k_rng x18q
      have gx19q := k_rng a4
      refine lv_istore (lv' := [(6, .int x19q), (0, .int a0), (1, .int a1), (2, .int a2), (3, .int a3), (4, .int a4), (5, .int a5)]) hx hb dX12_named_49 hl (by decide) rfl (fun ls hl => ?_)
      refine lv_iload hx hb dX12_named_51 (lv_at hl 6 rfl) ?_
      refine lv_if_ne (tgt := 61) hx hb dX12_named_53 (by decide) (fun c20q => ?_) (fun c20q => ?_)
      · simp only [k_lt, k_le, k_eq, ne_eq, ge_iff_le, gt_iff_lt, n_L0, n_L0] at c20q
        refine lv_bipush (v := 27) hx hb dX12_named_61 (by decide) ?_
        refine lv_iload hx hb dX12_named_63 (lv_at hl 0 rfl) ?_
        refine lv_imul hx hb dX12_named_65 ?_
        refine lv_topi (fun x21q ex21q => ?_)
        have gx21q := k_rng x19q
        refine lv_iload hx hb dX12_named_66 (lv_at hl 6 rfl) ?_
        refine lv_iadd hx hb dX12_named_68 ?_
        refine lv_topi (fun x22q ex22q => ?_)
        have gx22q := k_rng x21q
        have gx22q := k_rng a5
        rw [hQ0]
        exact k_iret () hx hb hr hlk (trivial) (hP.sub [] rfl) (hD.sub [] (by decide) rfl) hS (by decide) (by decide) dX12_named_69
      · simp only [k_lt, k_le, k_eq, ne_eq, ge_iff_le, gt_iff_lt, n_L0, n_L0] at c20q
        refine lv_iload hx hb dX12_named_56 (lv_at hl 0 rfl) ?_
        refine lv_goto (tgt := 69) hx hb dX12_named_58 (by decide) ?_
        rw [hQ0]
        exact k_iret () hx hb hr hlk (trivial) (hP.sub [] rfl) (hD.sub [] (by decide) rfl) hS (by decide) (by decide) dX12_named_69
    · simp only [k_lt, k_le, k_eq, ne_eq, ge_iff_le, gt_iff_lt, n_L0, n_L0] at c17q
      refine lv_iload hx hb dX12_named_36 (lv_at hl 0 rfl) ?_
      refine lv_goto (tgt := 49) hx hb dX12_named_38 (by decide) ?_
      refine lv_istore (lv' := [(6, .int x4q), (0, .int a0), (1, .int a1), (2, .int a2), (3, .int a3), (4, .int a4), (5, .int a5)]) hx hb dX12_named_49 hl (by decide) rfl (fun ls hl => ?_)
      refine lv_iload hx hb dX12_named_51 (lv_at hl 6 rfl) ?_
      refine lv_if_ne (tgt := 61) hx hb dX12_named_53 (by decide) (fun c23q => ?_) (fun c23q => ?_)
      · simp only [k_lt, k_le, k_eq, ne_eq, ge_iff_le, gt_iff_lt, n_L0, n_L0] at c23q
        refine lv_bipush (v := 27) hx hb dX12_named_61 (by decide) ?_
        refine lv_iload hx hb dX12_named_63 (lv_at hl 0 rfl) ?_
        refine lv_imul hx hb dX12_named_65 ?_
        refine lv_topi (fun x24q ex24q => ?_)
        have gx24q := k_rng x4q
        refine lv_iload hx hb dX12_named_66 (lv_at hl 6 rfl) ?_
        refine lv_iadd hx hb dX12_named_68 ?_
        refine lv_topi (fun x25q ex25q => ?_)
        have gx25q := k_rng x24q
        have gx25q := k_rng a5
        rw [hQ0]
        exact k_iret () hx hb hr hlk (trivial) (hP.sub [] rfl) (hD.sub [] (by decide) rfl) hS (by decide) (by decide) dX12_named_69
      · simp only [k_lt, k_le, k_eq, ne_eq, ge_iff_le, gt_iff_lt, n_L0, n_L0] at c23q
        refine lv_iload hx hb dX12_named_56 (lv_at hl 0 rfl) ?_
        refine lv_goto (tgt := 69) hx hb dX12_named_58 (by decide) ?_
        rw [hQ0]
        exact k_iret () hx hb hr hlk (trivial) (hP.sub [] rfl) (hD.sub [] (by decide) rfl) hS (by decide) (by decide) dX12_named_69

set_option maxHeartbeats 4000000 in
set_option maxRecDepth 100000 in
/-- the reference: isWait -/
theorem m_isWait (l : Launch) (hl0 : l.stackTraces = false) (D : va_G) (cy : Nat → ClassId) (sa : Nat → Nat) (n0 : Int32)  (sz : Nat) : Met l yX12_isWait (Cond.code yX12_isWait cX12_isWait 1 (some .boolean) :: kWS) ({ frames := 11, cells := 0, slots := 0, locals := 360 }) (kPre D cy sa [.int n0] [] sz) (va_Qi (fun (r : Int32) (u : Unit) => (r.toInt = 0 ∨ r.toInt = 1)) (kB D (va_A [] sz) (fun (u : Unit) => [])) (va_A [] sz)) 0 0 (va_A [] sz) := by
  refine k_ofW (y := yX12_isWait) (cc := cX12_isWait) (maxL := 1) (ret := (some .boolean)) (av := [.int n0]) (ws := []) (Qc := fun A => (va_Qi (fun (r : Int32) (u : Unit) => (r.toInt = 0 ∨ r.toInt = 1)) (kB D A (fun (u : Unit) => [])) A)) (by decide) (Nat.le_of_ble_eq_true rfl) ?_
  intro p e s m below meth c ls A E hA hP hD hG hS hl
  obtain ⟨Q0, hQ0⟩ : ∃ Q0 : State → Prop, Q0 = MQ below (va_Qi (fun (r : Int32) (u : Unit) => (r.toInt = 0 ∨ r.toInt = 1)) (kB D A (fun (u : Unit) => [])) A) ([.int n0] : List Value).toArray s 0 0 A := ⟨_, rfl⟩
  rw [← hQ0]
  obtain ⟨hx, hb, hml, hown, hts, hr, hlk, hnm⟩ := id E
  have hown : s.vm.findClass RX12 = some m.cls := hown
  have hl : lv_has ls 1 [(0, .int n0)] := hl
  have g_n0 := k_rng n0
  obtain ⟨H, hH⟩ : ∃ H, H = s.heap := ⟨_, rfl⟩
  have hP : va_P D vwCl [] H := by rw [hH]; exact hP
  have hS : va_S A s.heap H [] := by rw [hH]; exact va_S.rf
  rw [← hH]
  clear hH
  obtain ⟨locs, hlocs⟩ : ∃ locs : List Loc, locs = [] := ⟨_, rfl⟩
  rw [← hlocs] at hS ⊢
  refine lv_iload_n hx hb dX12_isWait_0 rfl (lv_at hl 0 rfl) ?_
  refine lv_iconst (v := 1) hx hb dX12_isWait_1 (by decide) ?_
  refine lv_bipush (v := 60) hx hb dX12_isWait_2 (by decide) ?_
  refine k_cali [] (⟨hP, hD, hG, hS, hA, rfl, rfl⟩ : kAt D cy sa A s H _ _ [] []) (wr := []) rfl rfl (by decide) (k_runS (As := [.int n0, .int 1, .int 60]) (rest := []) E lk_SRX12_124 (m_in l hl0 D cy sa n0 1 60 H.size) (⟨hP, hD, hG, hS, hA, rfl, rfl⟩ : kAt D cy sa A s H _ _ [] []) hl.1 rfl rfl ⟨rfl, rfl, ⟨Nat.le_of_ble_eq_true rfl, Nat.le_of_ble_eq_true rfl⟩, ⟨Nat.le_of_ble_eq_true rfl, Nat.le_of_ble_eq_true rfl⟩, Nat.le_of_ble_eq_true rfl⟩ dX12_isWait_4) (fun r1q u2q H locs hwu2q hP hD hS => ?_)
  have hP : va_P D vwCl [] H := hP
  have hD : va_D A [] := hD
  have p3q := hwu2q
  try simp only [n_L1, n_L60] at p3q
  rw [hQ0]
  exact k_zret () hx hb hr hlk (k_nz (n_bool (by omega))) ((show r1q.toInt = 0 ∨ r1q.toInt = 1 by omega)) (hP.sub [] rfl) (hD.sub [] (by decide) rfl) hS (by decide) (by decide) dX12_isWait_7

set_option maxHeartbeats 4000000 in
set_option maxRecDepth 100000 in
/-- the reference: cell -/
theorem m_cell (l : Launch) (hl0 : l.stackTraces = false) (D : va_G) (cy : Nat → ClassId) (sa : Nat → Nat) (t0 q0 a0 a1 a2 : Int32) (h_t0 : 0 ≤ t0.toInt ∧ t0.toInt ≤ 39) (h_q0 : 0 ≤ q0.toInt ∧ q0.toInt ≤ 2) (h_a0 : 0 ≤ a0.toInt ∧ a0.toInt ≤ 9) (h_a1 : 0 ≤ a1.toInt ∧ a1.toInt ≤ 9) (h_a2 : 0 ≤ a2.toInt ∧ a2.toInt ≤ 9) (sz : Nat) : Met l yX12_cell (Cond.code yX12_cell cX12_cell 5 (some .int) :: kWS) ({ frames := 10, cells := 0, slots := 0, locals := 300 }) (kPre D cy sa [.int t0, .int q0, .int a0, .int a1, .int a2] [] sz) (va_Qi (fun (r : Int32) (u : Unit) => (0 ≤ r.toInt ∧ r.toInt ≤ 119999)) (kB D (va_A [] sz) (fun (u : Unit) => [])) (va_A [] sz)) 0 0 (va_A [] sz) := by
  refine k_ofW (y := yX12_cell) (cc := cX12_cell) (maxL := 5) (ret := (some .int)) (av := [.int t0, .int q0, .int a0, .int a1, .int a2]) (ws := []) (Qc := fun A => (va_Qi (fun (r : Int32) (u : Unit) => (0 ≤ r.toInt ∧ r.toInt ≤ 119999)) (kB D A (fun (u : Unit) => [])) A)) (by decide) (Nat.le_of_ble_eq_true rfl) ?_
  intro p e s m below meth c ls A E hA hP hD hG hS hl
  obtain ⟨Q0, hQ0⟩ : ∃ Q0 : State → Prop, Q0 = MQ below (va_Qi (fun (r : Int32) (u : Unit) => (0 ≤ r.toInt ∧ r.toInt ≤ 119999)) (kB D A (fun (u : Unit) => [])) A) ([.int t0, .int q0, .int a0, .int a1, .int a2] : List Value).toArray s 0 0 A := ⟨_, rfl⟩
  rw [← hQ0]
  obtain ⟨hx, hb, hml, hown, hts, hr, hlk, hnm⟩ := id E
  have hown : s.vm.findClass RX12 = some m.cls := hown
  have hl : lv_has ls 5 [(0, .int t0), (1, .int q0), (2, .int a0), (3, .int a1), (4, .int a2)] := hl
  obtain ⟨H, hH⟩ : ∃ H, H = s.heap := ⟨_, rfl⟩
  have hP : va_P D vwCl [] H := by rw [hH]; exact hP
  have hS : va_S A s.heap H [] := by rw [hH]; exact va_S.rf
  rw [← hH]
  clear hH
  obtain ⟨locs, hlocs⟩ : ∃ locs : List Loc, locs = [] := ⟨_, rfl⟩
  rw [← hlocs] at hS ⊢
  refine lv_iload_n hx hb dX12_cell_0 rfl (lv_at hl 0 rfl) ?_
  refine lv_iconst (v := 3) hx hb dX12_cell_1 (by decide) ?_
  refine lv_imul hx hb dX12_cell_2 ?_
  refine lv_topi (fun x1q ex1q => ?_)
  have rx1q := n_mul ex1q (a := t0.toInt) (b := 3) rfl n_L3 (by omega) (by omega)
  refine lv_iload_n hx hb dX12_cell_3 rfl (lv_at hl 1 rfl) ?_
  refine lv_iadd hx hb dX12_cell_4 ?_
  refine lv_topi (fun x2q ex2q => ?_)
  have rx2q := n_add ex2q (a := x1q.toInt) (b := q0.toInt) rfl rfl (by omega) (by omega)
  refine lv_bipush (v := 10) hx hb dX12_cell_5 (by decide) ?_
  refine lv_imul hx hb dX12_cell_7 ?_
  refine lv_topi (fun x3q ex3q => ?_)
  have rx3q := n_mul ex3q (a := x2q.toInt) (b := 10) rfl n_L10 (by omega) (by omega)
  refine lv_iload_n hx hb dX12_cell_8 rfl (lv_at hl 2 rfl) ?_
  refine lv_iadd hx hb dX12_cell_9 ?_
  refine lv_topi (fun x4q ex4q => ?_)
  have rx4q := n_add ex4q (a := x3q.toInt) (b := a0.toInt) rfl rfl (by omega) (by omega)
  refine lv_bipush (v := 10) hx hb dX12_cell_10 (by decide) ?_
  refine lv_imul hx hb dX12_cell_12 ?_
  refine lv_topi (fun x5q ex5q => ?_)
  have rx5q := n_mul ex5q (a := x4q.toInt) (b := 10) rfl n_L10 (by omega) (by omega)
  refine lv_iload_n hx hb dX12_cell_13 rfl (lv_at hl 3 rfl) ?_
  refine lv_iadd hx hb dX12_cell_14 ?_
  refine lv_topi (fun x6q ex6q => ?_)
  have rx6q := n_add ex6q (a := x5q.toInt) (b := a1.toInt) rfl rfl (by omega) (by omega)
  refine lv_bipush (v := 10) hx hb dX12_cell_15 (by decide) ?_
  refine lv_imul hx hb dX12_cell_17 ?_
  refine lv_topi (fun x7q ex7q => ?_)
  have rx7q := n_mul ex7q (a := x6q.toInt) (b := 10) rfl n_L10 (by omega) (by omega)
  refine lv_iload hx hb dX12_cell_18 (lv_at hl 4 rfl) ?_
  refine lv_iadd hx hb dX12_cell_20 ?_
  refine lv_topi (fun x8q ex8q => ?_)
  have rx8q := n_add ex8q (a := x7q.toInt) (b := a2.toInt) rfl rfl (by omega) (by omega)
  rw [hQ0]
  exact k_iret () hx hb hr hlk ((show 0 ≤ x8q.toInt ∧ x8q.toInt ≤ 119999 by omega)) (hP.sub [] rfl) (hD.sub [] (by decide) rfl) hS (by decide) (by decide) dX12_cell_21

set_option maxHeartbeats 4000000 in
set_option maxRecDepth 100000 in
/-- the reference: bad -/
theorem m_bad (l : Launch) (hl0 : l.stackTraces = false) (D : va_G) (cy : Nat → ClassId) (sa : Nat → Nat) (da da_fed da_readBody da_body da_readMany da_many da_without da_did da_done da_bed da_passing da_spot da_kept da_aside da_ran da_who da_cap da_w da_laid da_cries da_holds da_came da_least da_firstTo : Nat) (d_thrown d_tape d_size d_place d_at d_fault d_faultAt d_clauses d_now d_mindAt d_way d_harm d_worth d_passes d_passings d_spots d_images d_spare d_whoMany d_drifted d_seed d_steps d_roundFrom d_roundMany d_numberAt n0 w0 : Int32) (h_d_tape : 0 ≤ d_tape.toInt ∧ d_tape.toInt ≤ 500) (h_d_size : 0 ≤ d_size.toInt ∧ d_size.toInt ≤ 500) (h_d_at : 0 ≤ d_at.toInt ∧ d_at.toInt ≤ 500) (h_d_clauses : 0 ≤ d_clauses.toInt ∧ d_clauses.toInt ≤ 40) (h_d_now : 0 ≤ d_now.toInt ∧ d_now.toInt ≤ 480) (h_d_mindAt : 0 ≤ d_mindAt.toInt ∧ d_mindAt.toInt ≤ 8) (h_d_passings : 0 ≤ d_passings.toInt ∧ d_passings.toInt ≤ 30) (h_d_spots : 0 ≤ d_spots.toInt ∧ d_spots.toInt ≤ 6) (h_d_images : 0 ≤ d_images.toInt ∧ d_images.toInt ≤ 3) (h_d_whoMany : 0 ≤ d_whoMany.toInt ∧ d_whoMany.toInt ≤ 4) (h_w0 : 1 ≤ w0.toInt ∧ w0.toInt ≤ 2) (sz : Nat) : Met l yX12_bad (Cond.code yX12_bad cX12_bad 3 (some .boolean) :: kWS) ({ frames := 10, cells := 0, slots := 0, locals := 300 }) (kPre D cy sa [.ref da, .int n0, .int w0] [(da, .inr (13, [.int d_thrown, .int d_tape, .int d_size, .int d_place, .int d_at, .int d_fault, .int d_faultAt, .int d_clauses, .ref da_fed, .ref da_readBody, .ref da_body, .ref da_readMany, .ref da_many, .ref da_without, .ref da_did, .ref da_done, .ref da_bed, .int d_now, .int d_mindAt, .int d_way, .int d_harm, .int d_worth, .int d_passes, .int d_passings, .int d_spots, .int d_images, .ref da_passing, .ref da_spot, .ref da_kept, .ref da_aside, .int d_spare, .ref da_ran, .ref da_who, .ref da_cap, .ref da_w, .ref da_laid, .int d_whoMany, .int d_drifted, .int d_seed, .ref da_cries, .ref da_holds, .ref da_came, .ref da_least, .ref da_firstTo, .int d_steps, .int d_roundFrom, .int d_roundMany, .int d_numberAt]))] sz) (va_Qi (fun (r : Int32) (u : (Nat → Int32) × (Nat → Nat → Int32)) => ((r.toInt = 0 ∧ n0.toInt = 0) ∨ r.toInt = 1)) (kB D (va_A [(da, .inr (13, [.int d_thrown, .int d_tape, .int d_size, .int d_place, .int d_at, .int d_fault, .int d_faultAt, .int d_clauses, .ref da_fed, .ref da_readBody, .ref da_body, .ref da_readMany, .ref da_many, .ref da_without, .ref da_did, .ref da_done, .ref da_bed, .int d_now, .int d_mindAt, .int d_way, .int d_harm, .int d_worth, .int d_passes, .int d_passings, .int d_spots, .int d_images, .ref da_passing, .ref da_spot, .ref da_kept, .ref da_aside, .int d_spare, .ref da_ran, .ref da_who, .ref da_cap, .ref da_w, .ref da_laid, .int d_whoMany, .int d_drifted, .int d_seed, .ref da_cries, .ref da_holds, .ref da_came, .ref da_least, .ref da_firstTo, .int d_steps, .int d_roundFrom, .int d_roundMany, .int d_numberAt]))] sz) (fun (u : (Nat → Int32) × (Nat → Nat → Int32)) => [(da, .inr (13, [.int ((u.1 0)), .int d_tape, .int d_size, .int d_place, .int d_at, .int d_fault, .int d_faultAt, .int d_clauses, .ref da_fed, .ref da_readBody, .ref da_body, .ref da_readMany, .ref da_many, .ref da_without, .ref da_did, .ref da_done, .ref da_bed, .int d_now, .int d_mindAt, .int d_way, .int d_harm, .int d_worth, .int d_passes, .int d_passings, .int d_spots, .int d_images, .ref da_passing, .ref da_spot, .ref da_kept, .ref da_aside, .int d_spare, .ref da_ran, .ref da_who, .ref da_cap, .ref da_w, .ref da_laid, .int d_whoMany, .int d_drifted, .int d_seed, .ref da_cries, .ref da_holds, .ref da_came, .ref da_least, .ref da_firstTo, .int d_steps, .int d_roundFrom, .int d_roundMany, .int d_numberAt]))])) (va_A [(da, .inr (13, [.int d_thrown, .int d_tape, .int d_size, .int d_place, .int d_at, .int d_fault, .int d_faultAt, .int d_clauses, .ref da_fed, .ref da_readBody, .ref da_body, .ref da_readMany, .ref da_many, .ref da_without, .ref da_did, .ref da_done, .ref da_bed, .int d_now, .int d_mindAt, .int d_way, .int d_harm, .int d_worth, .int d_passes, .int d_passings, .int d_spots, .int d_images, .ref da_passing, .ref da_spot, .ref da_kept, .ref da_aside, .int d_spare, .ref da_ran, .ref da_who, .ref da_cap, .ref da_w, .ref da_laid, .int d_whoMany, .int d_drifted, .int d_seed, .ref da_cries, .ref da_holds, .ref da_came, .ref da_least, .ref da_firstTo, .int d_steps, .int d_roundFrom, .int d_roundMany, .int d_numberAt]))] sz)) 0 0 (va_A [(da, .inr (13, [.int d_thrown, .int d_tape, .int d_size, .int d_place, .int d_at, .int d_fault, .int d_faultAt, .int d_clauses, .ref da_fed, .ref da_readBody, .ref da_body, .ref da_readMany, .ref da_many, .ref da_without, .ref da_did, .ref da_done, .ref da_bed, .int d_now, .int d_mindAt, .int d_way, .int d_harm, .int d_worth, .int d_passes, .int d_passings, .int d_spots, .int d_images, .ref da_passing, .ref da_spot, .ref da_kept, .ref da_aside, .int d_spare, .ref da_ran, .ref da_who, .ref da_cap, .ref da_w, .ref da_laid, .int d_whoMany, .int d_drifted, .int d_seed, .ref da_cries, .ref da_holds, .ref da_came, .ref da_least, .ref da_firstTo, .int d_steps, .int d_roundFrom, .int d_roundMany, .int d_numberAt]))] sz) := by
  refine k_ofW (y := yX12_bad) (cc := cX12_bad) (maxL := 3) (ret := (some .boolean)) (av := [.ref da, .int n0, .int w0]) (ws := [(da, .inr (13, [.int d_thrown, .int d_tape, .int d_size, .int d_place, .int d_at, .int d_fault, .int d_faultAt, .int d_clauses, .ref da_fed, .ref da_readBody, .ref da_body, .ref da_readMany, .ref da_many, .ref da_without, .ref da_did, .ref da_done, .ref da_bed, .int d_now, .int d_mindAt, .int d_way, .int d_harm, .int d_worth, .int d_passes, .int d_passings, .int d_spots, .int d_images, .ref da_passing, .ref da_spot, .ref da_kept, .ref da_aside, .int d_spare, .ref da_ran, .ref da_who, .ref da_cap, .ref da_w, .ref da_laid, .int d_whoMany, .int d_drifted, .int d_seed, .ref da_cries, .ref da_holds, .ref da_came, .ref da_least, .ref da_firstTo, .int d_steps, .int d_roundFrom, .int d_roundMany, .int d_numberAt]))]) (Qc := fun A => (va_Qi (fun (r : Int32) (u : (Nat → Int32) × (Nat → Nat → Int32)) => ((r.toInt = 0 ∧ n0.toInt = 0) ∨ r.toInt = 1)) (kB D A (fun (u : (Nat → Int32) × (Nat → Nat → Int32)) => [(da, .inr (13, [.int ((u.1 0)), .int d_tape, .int d_size, .int d_place, .int d_at, .int d_fault, .int d_faultAt, .int d_clauses, .ref da_fed, .ref da_readBody, .ref da_body, .ref da_readMany, .ref da_many, .ref da_without, .ref da_did, .ref da_done, .ref da_bed, .int d_now, .int d_mindAt, .int d_way, .int d_harm, .int d_worth, .int d_passes, .int d_passings, .int d_spots, .int d_images, .ref da_passing, .ref da_spot, .ref da_kept, .ref da_aside, .int d_spare, .ref da_ran, .ref da_who, .ref da_cap, .ref da_w, .ref da_laid, .int d_whoMany, .int d_drifted, .int d_seed, .ref da_cries, .ref da_holds, .ref da_came, .ref da_least, .ref da_firstTo, .int d_steps, .int d_roundFrom, .int d_roundMany, .int d_numberAt]))])) A)) (by decide) (Nat.le_of_ble_eq_true rfl) ?_
  intro p e s m below meth c ls A E hA hP hD hG hS hl
  obtain ⟨Q0, hQ0⟩ : ∃ Q0 : State → Prop, Q0 = MQ below (va_Qi (fun (r : Int32) (u : (Nat → Int32) × (Nat → Nat → Int32)) => ((r.toInt = 0 ∧ n0.toInt = 0) ∨ r.toInt = 1)) (kB D A (fun (u : (Nat → Int32) × (Nat → Nat → Int32)) => [(da, .inr (13, [.int ((u.1 0)), .int d_tape, .int d_size, .int d_place, .int d_at, .int d_fault, .int d_faultAt, .int d_clauses, .ref da_fed, .ref da_readBody, .ref da_body, .ref da_readMany, .ref da_many, .ref da_without, .ref da_did, .ref da_done, .ref da_bed, .int d_now, .int d_mindAt, .int d_way, .int d_harm, .int d_worth, .int d_passes, .int d_passings, .int d_spots, .int d_images, .ref da_passing, .ref da_spot, .ref da_kept, .ref da_aside, .int d_spare, .ref da_ran, .ref da_who, .ref da_cap, .ref da_w, .ref da_laid, .int d_whoMany, .int d_drifted, .int d_seed, .ref da_cries, .ref da_holds, .ref da_came, .ref da_least, .ref da_firstTo, .int d_steps, .int d_roundFrom, .int d_roundMany, .int d_numberAt]))])) A) ([.ref da, .int n0, .int w0] : List Value).toArray s 0 0 A := ⟨_, rfl⟩
  rw [← hQ0]
  obtain ⟨hx, hb, hml, hown, hts, hr, hlk, hnm⟩ := id E
  have hown : s.vm.findClass RX12 = some m.cls := hown
  have hl : lv_has ls 3 [(0, .ref da), (1, .int n0), (2, .int w0)] := hl
  have g_n0 := k_rng n0
  obtain ⟨H, hH⟩ : ∃ H, H = s.heap := ⟨_, rfl⟩
  have hP : va_P D vwCl [(da, .inr (13, [.int d_thrown, .int d_tape, .int d_size, .int d_place, .int d_at, .int d_fault, .int d_faultAt, .int d_clauses, .ref da_fed, .ref da_readBody, .ref da_body, .ref da_readMany, .ref da_many, .ref da_without, .ref da_did, .ref da_done, .ref da_bed, .int d_now, .int d_mindAt, .int d_way, .int d_harm, .int d_worth, .int d_passes, .int d_passings, .int d_spots, .int d_images, .ref da_passing, .ref da_spot, .ref da_kept, .ref da_aside, .int d_spare, .ref da_ran, .ref da_who, .ref da_cap, .ref da_w, .ref da_laid, .int d_whoMany, .int d_drifted, .int d_seed, .ref da_cries, .ref da_holds, .ref da_came, .ref da_least, .ref da_firstTo, .int d_steps, .int d_roundFrom, .int d_roundMany, .int d_numberAt]))] H := by rw [hH]; exact hP
  have hS : va_S A s.heap H [] := by rw [hH]; exact va_S.rf
  rw [← hH]
  clear hH
  obtain ⟨locs, hlocs⟩ : ∃ locs : List Loc, locs = [] := ⟨_, rfl⟩
  rw [← hlocs] at hS ⊢
  refine lv_iload_n hx hb dX12_bad_0 rfl (lv_at hl 1 rfl) ?_
  refine lv_if_eq (tgt := 16) hx hb dX12_bad_1 (by decide) (fun c1q => ?_) (fun c1q => ?_)
  · simp only [k_lt, k_le, k_eq, ne_eq, ge_iff_le, gt_iff_lt, n_L0, n_L0] at c1q
    refine lv_aload_n hx hb dX12_bad_16 rfl (lv_at hl 0 rfl) ?_
    refine va_get (D := D) (ci := 13) (v := .int d_thrown) (C := RX12) (T := TX12) (N := 48) hx hb hts kin_RX12 hown hG.1 hP 0 rfl rfl 0 (by decide) (hts _ wm_1519) (fun _ h9 => h9) rfl dX12_bad_17 ?_
    refine lv_if_eq (tgt := 27) hx hb dX12_bad_20 (by decide) (fun c2q => ?_) (fun c2q => ?_)
    · simp only [k_lt, k_le, k_eq, ne_eq, ge_iff_le, gt_iff_lt, n_L0, n_L0] at c2q
      refine lv_iconst (v := 0) hx hb dX12_bad_27 (by decide) ?_
      rw [hQ0]
      exact k_zret (fun k => [d_thrown].getD k 0, fun k => [].getD k (fun _ => 0)) hx hb hr hlk (k_nz (by decide)) ((by show ((0 : Int32).toInt = 0 ∧ n0.toInt = 0) ∨ (0 : Int32).toInt = 1; rw [n_L0]; omega)) (hP.sub [0] rfl) (hD.sub [0] (by decide) rfl) hS (by decide) (by decide) dX12_bad_28
    · simp only [k_lt, k_le, k_eq, ne_eq, ge_iff_le, gt_iff_lt, n_L0, n_L0] at c2q
      refine lv_iconst (v := 1) hx hb dX12_bad_23 (by decide) ?_
      refine lv_goto (tgt := 28) hx hb dX12_bad_24 (by decide) ?_
      rw [hQ0]
      exact k_zret (fun k => [d_thrown].getD k 0, fun k => [].getD k (fun _ => 0)) hx hb hr hlk (k_nz (by decide)) ((by show ((1 : Int32).toInt = 0 ∧ n0.toInt = 0) ∨ (1 : Int32).toInt = 1; rw [n_L1]; omega)) (hP.sub [0] rfl) (hD.sub [0] (by decide) rfl) hS (by decide) (by decide) dX12_bad_28
  · simp only [k_lt, k_le, k_eq, ne_eq, ge_iff_le, gt_iff_lt, n_L0, n_L0] at c1q
    refine lv_aload_n hx hb dX12_bad_4 rfl (lv_at hl 0 rfl) ?_
    refine va_get (D := D) (ci := 13) (v := .int d_thrown) (C := RX12) (T := TX12) (N := 48) hx hb hts kin_RX12 hown hG.1 hP 0 rfl rfl 0 (by decide) (hts _ wm_1519) (fun _ h9 => h9) rfl dX12_bad_5 ?_
    refine lv_if_ne (tgt := 16) hx hb dX12_bad_8 (by decide) (fun c3q => ?_) (fun c3q => ?_)
    · simp only [k_lt, k_le, k_eq, ne_eq, ge_iff_le, gt_iff_lt, n_L0, n_L0] at c3q
      refine lv_aload_n hx hb dX12_bad_16 rfl (lv_at hl 0 rfl) ?_
      refine va_get (D := D) (ci := 13) (v := .int d_thrown) (C := RX12) (T := TX12) (N := 48) hx hb hts kin_RX12 hown hG.1 hP 0 rfl rfl 0 (by decide) (hts _ wm_1519) (fun _ h9 => h9) rfl dX12_bad_17 ?_
      refine lv_if_eq (tgt := 27) hx hb dX12_bad_20 (by decide) (fun c4q => ?_) (fun c4q => ?_)
      · simp only [k_lt, k_le, k_eq, ne_eq, ge_iff_le, gt_iff_lt, n_L0, n_L0] at c4q
        refine lv_iconst (v := 0) hx hb dX12_bad_27 (by decide) ?_
        rw [hQ0]
        exact k_zret (fun k => [d_thrown].getD k 0, fun k => [].getD k (fun _ => 0)) hx hb hr hlk (k_nz (by decide)) ((by show ((0 : Int32).toInt = 0 ∧ n0.toInt = 0) ∨ (0 : Int32).toInt = 1; rw [n_L0]; omega)) (hP.sub [0] rfl) (hD.sub [0] (by decide) rfl) hS (by decide) (by decide) dX12_bad_28
      · simp only [k_lt, k_le, k_eq, ne_eq, ge_iff_le, gt_iff_lt, n_L0, n_L0] at c4q
        refine lv_iconst (v := 1) hx hb dX12_bad_23 (by decide) ?_
        refine lv_goto (tgt := 28) hx hb dX12_bad_24 (by decide) ?_
        rw [hQ0]
        exact k_zret (fun k => [d_thrown].getD k 0, fun k => [].getD k (fun _ => 0)) hx hb hr hlk (k_nz (by decide)) ((by show ((1 : Int32).toInt = 0 ∧ n0.toInt = 0) ∨ (1 : Int32).toInt = 1; rw [n_L1]; omega)) (hP.sub [0] rfl) (hD.sub [0] (by decide) rfl) hS (by decide) (by decide) dX12_bad_28
    · simp only [k_lt, k_le, k_eq, ne_eq, ge_iff_le, gt_iff_lt, n_L0, n_L0] at c3q
      refine lv_aload_n hx hb dX12_bad_11 rfl (lv_at hl 0 rfl) ?_
      refine lv_iload_n hx hb dX12_bad_12 rfl (lv_at hl 2 rfl) ?_
      refine va_put (D := D) (ci := 13) (v := .int w0) (ty := .int) (C := RX12) (T := TX12) (N := 48) hx hb hts kin_RX12 tyX12 tyX12_ok nmX12 hown hG.1 hP hD hS 0 rfl rfl 0 (by decide) (hts _ wm_1519) (fun _ h9 => h9) rfl (by decide +kernel) rfl rfl (Nat.le_of_ble_eq_true rfl) dX12_bad_13 (fun H locs hP hD hS => ?_)
      have hP : va_P D vwCl [(da, .inr (13, [.int w0, .int d_tape, .int d_size, .int d_place, .int d_at, .int d_fault, .int d_faultAt, .int d_clauses, .ref da_fed, .ref da_readBody, .ref da_body, .ref da_readMany, .ref da_many, .ref da_without, .ref da_did, .ref da_done, .ref da_bed, .int d_now, .int d_mindAt, .int d_way, .int d_harm, .int d_worth, .int d_passes, .int d_passings, .int d_spots, .int d_images, .ref da_passing, .ref da_spot, .ref da_kept, .ref da_aside, .int d_spare, .ref da_ran, .ref da_who, .ref da_cap, .ref da_w, .ref da_laid, .int d_whoMany, .int d_drifted, .int d_seed, .ref da_cries, .ref da_holds, .ref da_came, .ref da_least, .ref da_firstTo, .int d_steps, .int d_roundFrom, .int d_roundMany, .int d_numberAt]))] H := hP
      have hD : va_D A [(da, .inr (13, [.int w0, .int d_tape, .int d_size, .int d_place, .int d_at, .int d_fault, .int d_faultAt, .int d_clauses, .ref da_fed, .ref da_readBody, .ref da_body, .ref da_readMany, .ref da_many, .ref da_without, .ref da_did, .ref da_done, .ref da_bed, .int d_now, .int d_mindAt, .int d_way, .int d_harm, .int d_worth, .int d_passes, .int d_passings, .int d_spots, .int d_images, .ref da_passing, .ref da_spot, .ref da_kept, .ref da_aside, .int d_spare, .ref da_ran, .ref da_who, .ref da_cap, .ref da_w, .ref da_laid, .int d_whoMany, .int d_drifted, .int d_seed, .ref da_cries, .ref da_holds, .ref da_came, .ref da_least, .ref da_firstTo, .int d_steps, .int d_roundFrom, .int d_roundMany, .int d_numberAt]))] := hD
      refine lv_aload_n hx hb dX12_bad_16 rfl (lv_at hl 0 rfl) ?_
      refine va_get (D := D) (ci := 13) (v := .int w0) (C := RX12) (T := TX12) (N := 48) hx hb hts kin_RX12 hown hG.1 hP 0 rfl rfl 0 (by decide) (hts _ wm_1519) (fun _ h9 => h9) rfl dX12_bad_17 ?_
      refine lv_if_eq (tgt := 27) hx hb dX12_bad_20 (by decide) (fun c5q => by exfalso; simp only [k_lt, k_le, k_eq, ne_eq, ge_iff_le, gt_iff_lt, n_L0, n_L0] at c5q; omega) (fun c5q => ?_)
      simp only [k_lt, k_le, k_eq, ne_eq, ge_iff_le, gt_iff_lt, n_L0, n_L0] at c5q
      refine lv_iconst (v := 1) hx hb dX12_bad_23 (by decide) ?_
      refine lv_goto (tgt := 28) hx hb dX12_bad_24 (by decide) ?_
      rw [hQ0]
      exact k_zret (fun k => [w0].getD k 0, fun k => [].getD k (fun _ => 0)) hx hb hr hlk (k_nz (by decide)) ((by show ((1 : Int32).toInt = 0 ∧ n0.toInt = 0) ∨ (1 : Int32).toInt = 1; rw [n_L1]; omega)) (hP.sub [0] rfl) (hD.sub [0] (by decide) rfl) hS (by decide) (by decide) dX12_bad_28

set_option maxHeartbeats 4000000 in
set_option maxRecDepth 100000 in
/-- the reference: wrong -/
theorem m_wrong (l : Launch) (hl0 : l.stackTraces = false) (D : va_G) (cy : Nat → ClassId) (sa : Nat → Nat) (da da_fed da_readBody da_body da_readMany da_many da_without da_did da_done da_bed da_passing da_spot da_kept da_aside da_ran da_who da_cap da_w da_laid da_cries da_holds da_came da_least da_firstTo : Nat) (d_thrown d_tape d_size d_place d_at d_fault d_faultAt d_clauses d_now d_mindAt d_way d_harm d_worth d_passes d_passings d_spots d_images d_spare d_whoMany d_drifted d_seed d_steps d_roundFrom d_roundMany d_numberAt w0 n0 : Int32) (h_d_tape : 0 ≤ d_tape.toInt ∧ d_tape.toInt ≤ 500) (h_d_size : 0 ≤ d_size.toInt ∧ d_size.toInt ≤ 500) (h_d_at : 0 ≤ d_at.toInt ∧ d_at.toInt ≤ 500) (h_d_clauses : 0 ≤ d_clauses.toInt ∧ d_clauses.toInt ≤ 40) (h_d_now : 0 ≤ d_now.toInt ∧ d_now.toInt ≤ 480) (h_d_mindAt : 0 ≤ d_mindAt.toInt ∧ d_mindAt.toInt ≤ 8) (h_d_passings : 0 ≤ d_passings.toInt ∧ d_passings.toInt ≤ 30) (h_d_spots : 0 ≤ d_spots.toInt ∧ d_spots.toInt ≤ 6) (h_d_images : 0 ≤ d_images.toInt ∧ d_images.toInt ≤ 3) (h_d_whoMany : 0 ≤ d_whoMany.toInt ∧ d_whoMany.toInt ≤ 4) (sz : Nat) : Met l yX12_wrong (Cond.code yX12_wrong cX12_wrong 3 none :: kWS) ({ frames := 10, cells := 0, slots := 0, locals := 300 }) (kPre D cy sa [.ref da, .int w0, .int n0] [(da, .inr (13, [.int d_thrown, .int d_tape, .int d_size, .int d_place, .int d_at, .int d_fault, .int d_faultAt, .int d_clauses, .ref da_fed, .ref da_readBody, .ref da_body, .ref da_readMany, .ref da_many, .ref da_without, .ref da_did, .ref da_done, .ref da_bed, .int d_now, .int d_mindAt, .int d_way, .int d_harm, .int d_worth, .int d_passes, .int d_passings, .int d_spots, .int d_images, .ref da_passing, .ref da_spot, .ref da_kept, .ref da_aside, .int d_spare, .ref da_ran, .ref da_who, .ref da_cap, .ref da_w, .ref da_laid, .int d_whoMany, .int d_drifted, .int d_seed, .ref da_cries, .ref da_holds, .ref da_came, .ref da_least, .ref da_firstTo, .int d_steps, .int d_roundFrom, .int d_roundMany, .int d_numberAt]))] sz) (va_Qv (fun (u : (Nat → Int32) × (Nat → Nat → Int32)) => True) (kB D (va_A [(da, .inr (13, [.int d_thrown, .int d_tape, .int d_size, .int d_place, .int d_at, .int d_fault, .int d_faultAt, .int d_clauses, .ref da_fed, .ref da_readBody, .ref da_body, .ref da_readMany, .ref da_many, .ref da_without, .ref da_did, .ref da_done, .ref da_bed, .int d_now, .int d_mindAt, .int d_way, .int d_harm, .int d_worth, .int d_passes, .int d_passings, .int d_spots, .int d_images, .ref da_passing, .ref da_spot, .ref da_kept, .ref da_aside, .int d_spare, .ref da_ran, .ref da_who, .ref da_cap, .ref da_w, .ref da_laid, .int d_whoMany, .int d_drifted, .int d_seed, .ref da_cries, .ref da_holds, .ref da_came, .ref da_least, .ref da_firstTo, .int d_steps, .int d_roundFrom, .int d_roundMany, .int d_numberAt]))] sz) (fun (u : (Nat → Int32) × (Nat → Nat → Int32)) => [(da, .inr (13, [.int d_thrown, .int d_tape, .int d_size, .int d_place, .int d_at, .int ((u.1 0)), .int ((u.1 1)), .int d_clauses, .ref da_fed, .ref da_readBody, .ref da_body, .ref da_readMany, .ref da_many, .ref da_without, .ref da_did, .ref da_done, .ref da_bed, .int d_now, .int d_mindAt, .int d_way, .int d_harm, .int d_worth, .int d_passes, .int d_passings, .int d_spots, .int d_images, .ref da_passing, .ref da_spot, .ref da_kept, .ref da_aside, .int d_spare, .ref da_ran, .ref da_who, .ref da_cap, .ref da_w, .ref da_laid, .int d_whoMany, .int d_drifted, .int d_seed, .ref da_cries, .ref da_holds, .ref da_came, .ref da_least, .ref da_firstTo, .int d_steps, .int d_roundFrom, .int d_roundMany, .int d_numberAt]))])) (va_A [(da, .inr (13, [.int d_thrown, .int d_tape, .int d_size, .int d_place, .int d_at, .int d_fault, .int d_faultAt, .int d_clauses, .ref da_fed, .ref da_readBody, .ref da_body, .ref da_readMany, .ref da_many, .ref da_without, .ref da_did, .ref da_done, .ref da_bed, .int d_now, .int d_mindAt, .int d_way, .int d_harm, .int d_worth, .int d_passes, .int d_passings, .int d_spots, .int d_images, .ref da_passing, .ref da_spot, .ref da_kept, .ref da_aside, .int d_spare, .ref da_ran, .ref da_who, .ref da_cap, .ref da_w, .ref da_laid, .int d_whoMany, .int d_drifted, .int d_seed, .ref da_cries, .ref da_holds, .ref da_came, .ref da_least, .ref da_firstTo, .int d_steps, .int d_roundFrom, .int d_roundMany, .int d_numberAt]))] sz)) 0 0 (va_A [(da, .inr (13, [.int d_thrown, .int d_tape, .int d_size, .int d_place, .int d_at, .int d_fault, .int d_faultAt, .int d_clauses, .ref da_fed, .ref da_readBody, .ref da_body, .ref da_readMany, .ref da_many, .ref da_without, .ref da_did, .ref da_done, .ref da_bed, .int d_now, .int d_mindAt, .int d_way, .int d_harm, .int d_worth, .int d_passes, .int d_passings, .int d_spots, .int d_images, .ref da_passing, .ref da_spot, .ref da_kept, .ref da_aside, .int d_spare, .ref da_ran, .ref da_who, .ref da_cap, .ref da_w, .ref da_laid, .int d_whoMany, .int d_drifted, .int d_seed, .ref da_cries, .ref da_holds, .ref da_came, .ref da_least, .ref da_firstTo, .int d_steps, .int d_roundFrom, .int d_roundMany, .int d_numberAt]))] sz) := by
  refine k_ofW (y := yX12_wrong) (cc := cX12_wrong) (maxL := 3) (ret := none) (av := [.ref da, .int w0, .int n0]) (ws := [(da, .inr (13, [.int d_thrown, .int d_tape, .int d_size, .int d_place, .int d_at, .int d_fault, .int d_faultAt, .int d_clauses, .ref da_fed, .ref da_readBody, .ref da_body, .ref da_readMany, .ref da_many, .ref da_without, .ref da_did, .ref da_done, .ref da_bed, .int d_now, .int d_mindAt, .int d_way, .int d_harm, .int d_worth, .int d_passes, .int d_passings, .int d_spots, .int d_images, .ref da_passing, .ref da_spot, .ref da_kept, .ref da_aside, .int d_spare, .ref da_ran, .ref da_who, .ref da_cap, .ref da_w, .ref da_laid, .int d_whoMany, .int d_drifted, .int d_seed, .ref da_cries, .ref da_holds, .ref da_came, .ref da_least, .ref da_firstTo, .int d_steps, .int d_roundFrom, .int d_roundMany, .int d_numberAt]))]) (Qc := fun A => (va_Qv (fun (u : (Nat → Int32) × (Nat → Nat → Int32)) => True) (kB D A (fun (u : (Nat → Int32) × (Nat → Nat → Int32)) => [(da, .inr (13, [.int d_thrown, .int d_tape, .int d_size, .int d_place, .int d_at, .int ((u.1 0)), .int ((u.1 1)), .int d_clauses, .ref da_fed, .ref da_readBody, .ref da_body, .ref da_readMany, .ref da_many, .ref da_without, .ref da_did, .ref da_done, .ref da_bed, .int d_now, .int d_mindAt, .int d_way, .int d_harm, .int d_worth, .int d_passes, .int d_passings, .int d_spots, .int d_images, .ref da_passing, .ref da_spot, .ref da_kept, .ref da_aside, .int d_spare, .ref da_ran, .ref da_who, .ref da_cap, .ref da_w, .ref da_laid, .int d_whoMany, .int d_drifted, .int d_seed, .ref da_cries, .ref da_holds, .ref da_came, .ref da_least, .ref da_firstTo, .int d_steps, .int d_roundFrom, .int d_roundMany, .int d_numberAt]))])) A)) (by decide) (Nat.le_of_ble_eq_true rfl) ?_
  intro p e s m below meth c ls A E hA hP hD hG hS hl
  obtain ⟨Q0, hQ0⟩ : ∃ Q0 : State → Prop, Q0 = MQ below (va_Qv (fun (u : (Nat → Int32) × (Nat → Nat → Int32)) => True) (kB D A (fun (u : (Nat → Int32) × (Nat → Nat → Int32)) => [(da, .inr (13, [.int d_thrown, .int d_tape, .int d_size, .int d_place, .int d_at, .int ((u.1 0)), .int ((u.1 1)), .int d_clauses, .ref da_fed, .ref da_readBody, .ref da_body, .ref da_readMany, .ref da_many, .ref da_without, .ref da_did, .ref da_done, .ref da_bed, .int d_now, .int d_mindAt, .int d_way, .int d_harm, .int d_worth, .int d_passes, .int d_passings, .int d_spots, .int d_images, .ref da_passing, .ref da_spot, .ref da_kept, .ref da_aside, .int d_spare, .ref da_ran, .ref da_who, .ref da_cap, .ref da_w, .ref da_laid, .int d_whoMany, .int d_drifted, .int d_seed, .ref da_cries, .ref da_holds, .ref da_came, .ref da_least, .ref da_firstTo, .int d_steps, .int d_roundFrom, .int d_roundMany, .int d_numberAt]))])) A) ([.ref da, .int w0, .int n0] : List Value).toArray s 0 0 A := ⟨_, rfl⟩
  rw [← hQ0]
  obtain ⟨hx, hb, hml, hown, hts, hr, hlk, hnm⟩ := id E
  have hown : s.vm.findClass RX12 = some m.cls := hown
  have hl : lv_has ls 3 [(0, .ref da), (1, .int w0), (2, .int n0)] := hl
  have g_w0 := k_rng w0
  have g_n0 := k_rng n0
  obtain ⟨H, hH⟩ : ∃ H, H = s.heap := ⟨_, rfl⟩
  have hP : va_P D vwCl [(da, .inr (13, [.int d_thrown, .int d_tape, .int d_size, .int d_place, .int d_at, .int d_fault, .int d_faultAt, .int d_clauses, .ref da_fed, .ref da_readBody, .ref da_body, .ref da_readMany, .ref da_many, .ref da_without, .ref da_did, .ref da_done, .ref da_bed, .int d_now, .int d_mindAt, .int d_way, .int d_harm, .int d_worth, .int d_passes, .int d_passings, .int d_spots, .int d_images, .ref da_passing, .ref da_spot, .ref da_kept, .ref da_aside, .int d_spare, .ref da_ran, .ref da_who, .ref da_cap, .ref da_w, .ref da_laid, .int d_whoMany, .int d_drifted, .int d_seed, .ref da_cries, .ref da_holds, .ref da_came, .ref da_least, .ref da_firstTo, .int d_steps, .int d_roundFrom, .int d_roundMany, .int d_numberAt]))] H := by rw [hH]; exact hP
  have hS : va_S A s.heap H [] := by rw [hH]; exact va_S.rf
  rw [← hH]
  clear hH
  obtain ⟨locs, hlocs⟩ : ∃ locs : List Loc, locs = [] := ⟨_, rfl⟩
  rw [← hlocs] at hS ⊢
  refine lv_aload_n hx hb dX12_wrong_0 rfl (lv_at hl 0 rfl) ?_
  refine va_get (D := D) (ci := 13) (v := .int d_fault) (C := RX12) (T := TX12) (N := 48) hx hb hts kin_RX12 hown hG.1 hP 0 rfl rfl 5 (by decide) (hts _ wm_1524) (fun _ h9 => h9) rfl dX12_wrong_1 ?_
  refine lv_if_ne (tgt := 17) hx hb dX12_wrong_4 (by decide) (fun c1q => ?_) (fun c1q => ?_)
  · simp only [k_lt, k_le, k_eq, ne_eq, ge_iff_le, gt_iff_lt, n_L0, n_L0] at c1q
    rw [hQ0]
    exact k_vret (fun k => [d_fault, d_faultAt].getD k 0, fun k => [].getD k (fun _ => 0)) hx hb hr hlk (trivial) (hP.sub [0] rfl) (hD.sub [0] (by decide) rfl) hS (by decide) (by decide) dX12_wrong_17
  · simp only [k_lt, k_le, k_eq, ne_eq, ge_iff_le, gt_iff_lt, n_L0, n_L0] at c1q
    refine lv_aload_n hx hb dX12_wrong_7 rfl (lv_at hl 0 rfl) ?_
    refine lv_iload_n hx hb dX12_wrong_8 rfl (lv_at hl 1 rfl) ?_
    refine va_put (D := D) (ci := 13) (v := .int w0) (ty := .int) (C := RX12) (T := TX12) (N := 48) hx hb hts kin_RX12 tyX12 tyX12_ok nmX12 hown hG.1 hP hD hS 0 rfl rfl 5 (by decide) (hts _ wm_1524) (fun _ h9 => h9) rfl (by decide +kernel) rfl rfl (Nat.le_of_ble_eq_true rfl) dX12_wrong_9 (fun H locs hP hD hS => ?_)
    have hP : va_P D vwCl [(da, .inr (13, [.int d_thrown, .int d_tape, .int d_size, .int d_place, .int d_at, .int w0, .int d_faultAt, .int d_clauses, .ref da_fed, .ref da_readBody, .ref da_body, .ref da_readMany, .ref da_many, .ref da_without, .ref da_did, .ref da_done, .ref da_bed, .int d_now, .int d_mindAt, .int d_way, .int d_harm, .int d_worth, .int d_passes, .int d_passings, .int d_spots, .int d_images, .ref da_passing, .ref da_spot, .ref da_kept, .ref da_aside, .int d_spare, .ref da_ran, .ref da_who, .ref da_cap, .ref da_w, .ref da_laid, .int d_whoMany, .int d_drifted, .int d_seed, .ref da_cries, .ref da_holds, .ref da_came, .ref da_least, .ref da_firstTo, .int d_steps, .int d_roundFrom, .int d_roundMany, .int d_numberAt]))] H := hP
    have hD : va_D A [(da, .inr (13, [.int d_thrown, .int d_tape, .int d_size, .int d_place, .int d_at, .int w0, .int d_faultAt, .int d_clauses, .ref da_fed, .ref da_readBody, .ref da_body, .ref da_readMany, .ref da_many, .ref da_without, .ref da_did, .ref da_done, .ref da_bed, .int d_now, .int d_mindAt, .int d_way, .int d_harm, .int d_worth, .int d_passes, .int d_passings, .int d_spots, .int d_images, .ref da_passing, .ref da_spot, .ref da_kept, .ref da_aside, .int d_spare, .ref da_ran, .ref da_who, .ref da_cap, .ref da_w, .ref da_laid, .int d_whoMany, .int d_drifted, .int d_seed, .ref da_cries, .ref da_holds, .ref da_came, .ref da_least, .ref da_firstTo, .int d_steps, .int d_roundFrom, .int d_roundMany, .int d_numberAt]))] := hD
    refine lv_aload_n hx hb dX12_wrong_12 rfl (lv_at hl 0 rfl) ?_
    refine lv_iload_n hx hb dX12_wrong_13 rfl (lv_at hl 2 rfl) ?_
    refine va_put (D := D) (ci := 13) (v := .int n0) (ty := .int) (C := RX12) (T := TX12) (N := 48) hx hb hts kin_RX12 tyX12 tyX12_ok nmX12 hown hG.1 hP hD hS 0 rfl rfl 6 (by decide) (hts _ wm_1525) (fun _ h9 => h9) rfl (by decide +kernel) rfl rfl (Nat.le_of_ble_eq_true rfl) dX12_wrong_14 (fun H locs hP hD hS => ?_)
    have hP : va_P D vwCl [(da, .inr (13, [.int d_thrown, .int d_tape, .int d_size, .int d_place, .int d_at, .int w0, .int n0, .int d_clauses, .ref da_fed, .ref da_readBody, .ref da_body, .ref da_readMany, .ref da_many, .ref da_without, .ref da_did, .ref da_done, .ref da_bed, .int d_now, .int d_mindAt, .int d_way, .int d_harm, .int d_worth, .int d_passes, .int d_passings, .int d_spots, .int d_images, .ref da_passing, .ref da_spot, .ref da_kept, .ref da_aside, .int d_spare, .ref da_ran, .ref da_who, .ref da_cap, .ref da_w, .ref da_laid, .int d_whoMany, .int d_drifted, .int d_seed, .ref da_cries, .ref da_holds, .ref da_came, .ref da_least, .ref da_firstTo, .int d_steps, .int d_roundFrom, .int d_roundMany, .int d_numberAt]))] H := hP
    have hD : va_D A [(da, .inr (13, [.int d_thrown, .int d_tape, .int d_size, .int d_place, .int d_at, .int w0, .int n0, .int d_clauses, .ref da_fed, .ref da_readBody, .ref da_body, .ref da_readMany, .ref da_many, .ref da_without, .ref da_did, .ref da_done, .ref da_bed, .int d_now, .int d_mindAt, .int d_way, .int d_harm, .int d_worth, .int d_passes, .int d_passings, .int d_spots, .int d_images, .ref da_passing, .ref da_spot, .ref da_kept, .ref da_aside, .int d_spare, .ref da_ran, .ref da_who, .ref da_cap, .ref da_w, .ref da_laid, .int d_whoMany, .int d_drifted, .int d_seed, .ref da_cries, .ref da_holds, .ref da_came, .ref da_least, .ref da_firstTo, .int d_steps, .int d_roundFrom, .int d_roundMany, .int d_numberAt]))] := hD
    rw [hQ0]
    exact k_vret (fun k => [w0, n0].getD k 0, fun k => [].getD k (fun _ => 0)) hx hb hr hlk (trivial) (hP.sub [0] rfl) (hD.sub [0] (by decide) rfl) hS (by decide) (by decide) dX12_wrong_17

set_option maxHeartbeats 4000000 in
set_option maxRecDepth 100000 in
/-- the reference: fault -/
theorem m_fault (l : Launch) (hl0 : l.stackTraces = false) (D : va_G) (cy : Nat → ClassId) (sa : Nat → Nat) (da da_fed da_readBody da_body da_readMany da_many da_without da_did da_done da_bed da_passing da_spot da_kept da_aside da_ran da_who da_cap da_w da_laid da_cries da_holds da_came da_least da_firstTo : Nat) (d_thrown d_tape d_size d_place d_at d_fault d_faultAt d_clauses d_now d_mindAt d_way d_harm d_worth d_passes d_passings d_spots d_images d_spare d_whoMany d_drifted d_seed d_steps d_roundFrom d_roundMany d_numberAt : Int32) (h_d_tape : 0 ≤ d_tape.toInt ∧ d_tape.toInt ≤ 500) (h_d_size : 0 ≤ d_size.toInt ∧ d_size.toInt ≤ 500) (h_d_at : 0 ≤ d_at.toInt ∧ d_at.toInt ≤ 500) (h_d_clauses : 0 ≤ d_clauses.toInt ∧ d_clauses.toInt ≤ 40) (h_d_now : 0 ≤ d_now.toInt ∧ d_now.toInt ≤ 480) (h_d_mindAt : 0 ≤ d_mindAt.toInt ∧ d_mindAt.toInt ≤ 8) (h_d_passings : 0 ≤ d_passings.toInt ∧ d_passings.toInt ≤ 30) (h_d_spots : 0 ≤ d_spots.toInt ∧ d_spots.toInt ≤ 6) (h_d_images : 0 ≤ d_images.toInt ∧ d_images.toInt ≤ 3) (h_d_whoMany : 0 ≤ d_whoMany.toInt ∧ d_whoMany.toInt ≤ 4) (sz : Nat) : Met l yX12_fault (Cond.code yX12_fault cX12_fault 1 (some .int) :: kWS) ({ frames := 10, cells := 0, slots := 0, locals := 300 }) (kPre D cy sa [.ref da] [(da, .inr (13, [.int d_thrown, .int d_tape, .int d_size, .int d_place, .int d_at, .int d_fault, .int d_faultAt, .int d_clauses, .ref da_fed, .ref da_readBody, .ref da_body, .ref da_readMany, .ref da_many, .ref da_without, .ref da_did, .ref da_done, .ref da_bed, .int d_now, .int d_mindAt, .int d_way, .int d_harm, .int d_worth, .int d_passes, .int d_passings, .int d_spots, .int d_images, .ref da_passing, .ref da_spot, .ref da_kept, .ref da_aside, .int d_spare, .ref da_ran, .ref da_who, .ref da_cap, .ref da_w, .ref da_laid, .int d_whoMany, .int d_drifted, .int d_seed, .ref da_cries, .ref da_holds, .ref da_came, .ref da_least, .ref da_firstTo, .int d_steps, .int d_roundFrom, .int d_roundMany, .int d_numberAt]))] sz) (va_Qi (fun (r : Int32) (u : (Nat → Int32) × (Nat → Nat → Int32)) => True) (kB D (va_A [(da, .inr (13, [.int d_thrown, .int d_tape, .int d_size, .int d_place, .int d_at, .int d_fault, .int d_faultAt, .int d_clauses, .ref da_fed, .ref da_readBody, .ref da_body, .ref da_readMany, .ref da_many, .ref da_without, .ref da_did, .ref da_done, .ref da_bed, .int d_now, .int d_mindAt, .int d_way, .int d_harm, .int d_worth, .int d_passes, .int d_passings, .int d_spots, .int d_images, .ref da_passing, .ref da_spot, .ref da_kept, .ref da_aside, .int d_spare, .ref da_ran, .ref da_who, .ref da_cap, .ref da_w, .ref da_laid, .int d_whoMany, .int d_drifted, .int d_seed, .ref da_cries, .ref da_holds, .ref da_came, .ref da_least, .ref da_firstTo, .int d_steps, .int d_roundFrom, .int d_roundMany, .int d_numberAt]))] sz) (fun (u : (Nat → Int32) × (Nat → Nat → Int32)) => [(da, .inr (13, [.int ((u.1 0)), .int d_tape, .int d_size, .int d_place, .int d_at, .int d_fault, .int d_faultAt, .int d_clauses, .ref da_fed, .ref da_readBody, .ref da_body, .ref da_readMany, .ref da_many, .ref da_without, .ref da_did, .ref da_done, .ref da_bed, .int d_now, .int d_mindAt, .int d_way, .int d_harm, .int d_worth, .int d_passes, .int d_passings, .int d_spots, .int d_images, .ref da_passing, .ref da_spot, .ref da_kept, .ref da_aside, .int d_spare, .ref da_ran, .ref da_who, .ref da_cap, .ref da_w, .ref da_laid, .int d_whoMany, .int d_drifted, .int d_seed, .ref da_cries, .ref da_holds, .ref da_came, .ref da_least, .ref da_firstTo, .int d_steps, .int d_roundFrom, .int d_roundMany, .int d_numberAt]))])) (va_A [(da, .inr (13, [.int d_thrown, .int d_tape, .int d_size, .int d_place, .int d_at, .int d_fault, .int d_faultAt, .int d_clauses, .ref da_fed, .ref da_readBody, .ref da_body, .ref da_readMany, .ref da_many, .ref da_without, .ref da_did, .ref da_done, .ref da_bed, .int d_now, .int d_mindAt, .int d_way, .int d_harm, .int d_worth, .int d_passes, .int d_passings, .int d_spots, .int d_images, .ref da_passing, .ref da_spot, .ref da_kept, .ref da_aside, .int d_spare, .ref da_ran, .ref da_who, .ref da_cap, .ref da_w, .ref da_laid, .int d_whoMany, .int d_drifted, .int d_seed, .ref da_cries, .ref da_holds, .ref da_came, .ref da_least, .ref da_firstTo, .int d_steps, .int d_roundFrom, .int d_roundMany, .int d_numberAt]))] sz)) 0 0 (va_A [(da, .inr (13, [.int d_thrown, .int d_tape, .int d_size, .int d_place, .int d_at, .int d_fault, .int d_faultAt, .int d_clauses, .ref da_fed, .ref da_readBody, .ref da_body, .ref da_readMany, .ref da_many, .ref da_without, .ref da_did, .ref da_done, .ref da_bed, .int d_now, .int d_mindAt, .int d_way, .int d_harm, .int d_worth, .int d_passes, .int d_passings, .int d_spots, .int d_images, .ref da_passing, .ref da_spot, .ref da_kept, .ref da_aside, .int d_spare, .ref da_ran, .ref da_who, .ref da_cap, .ref da_w, .ref da_laid, .int d_whoMany, .int d_drifted, .int d_seed, .ref da_cries, .ref da_holds, .ref da_came, .ref da_least, .ref da_firstTo, .int d_steps, .int d_roundFrom, .int d_roundMany, .int d_numberAt]))] sz) := by
  refine k_ofW (y := yX12_fault) (cc := cX12_fault) (maxL := 1) (ret := (some .int)) (av := [.ref da]) (ws := [(da, .inr (13, [.int d_thrown, .int d_tape, .int d_size, .int d_place, .int d_at, .int d_fault, .int d_faultAt, .int d_clauses, .ref da_fed, .ref da_readBody, .ref da_body, .ref da_readMany, .ref da_many, .ref da_without, .ref da_did, .ref da_done, .ref da_bed, .int d_now, .int d_mindAt, .int d_way, .int d_harm, .int d_worth, .int d_passes, .int d_passings, .int d_spots, .int d_images, .ref da_passing, .ref da_spot, .ref da_kept, .ref da_aside, .int d_spare, .ref da_ran, .ref da_who, .ref da_cap, .ref da_w, .ref da_laid, .int d_whoMany, .int d_drifted, .int d_seed, .ref da_cries, .ref da_holds, .ref da_came, .ref da_least, .ref da_firstTo, .int d_steps, .int d_roundFrom, .int d_roundMany, .int d_numberAt]))]) (Qc := fun A => (va_Qi (fun (r : Int32) (u : (Nat → Int32) × (Nat → Nat → Int32)) => True) (kB D A (fun (u : (Nat → Int32) × (Nat → Nat → Int32)) => [(da, .inr (13, [.int ((u.1 0)), .int d_tape, .int d_size, .int d_place, .int d_at, .int d_fault, .int d_faultAt, .int d_clauses, .ref da_fed, .ref da_readBody, .ref da_body, .ref da_readMany, .ref da_many, .ref da_without, .ref da_did, .ref da_done, .ref da_bed, .int d_now, .int d_mindAt, .int d_way, .int d_harm, .int d_worth, .int d_passes, .int d_passings, .int d_spots, .int d_images, .ref da_passing, .ref da_spot, .ref da_kept, .ref da_aside, .int d_spare, .ref da_ran, .ref da_who, .ref da_cap, .ref da_w, .ref da_laid, .int d_whoMany, .int d_drifted, .int d_seed, .ref da_cries, .ref da_holds, .ref da_came, .ref da_least, .ref da_firstTo, .int d_steps, .int d_roundFrom, .int d_roundMany, .int d_numberAt]))])) A)) (by decide) (Nat.le_of_ble_eq_true rfl) ?_
  intro p e s m below meth c ls A E hA hP hD hG hS hl
  obtain ⟨Q0, hQ0⟩ : ∃ Q0 : State → Prop, Q0 = MQ below (va_Qi (fun (r : Int32) (u : (Nat → Int32) × (Nat → Nat → Int32)) => True) (kB D A (fun (u : (Nat → Int32) × (Nat → Nat → Int32)) => [(da, .inr (13, [.int ((u.1 0)), .int d_tape, .int d_size, .int d_place, .int d_at, .int d_fault, .int d_faultAt, .int d_clauses, .ref da_fed, .ref da_readBody, .ref da_body, .ref da_readMany, .ref da_many, .ref da_without, .ref da_did, .ref da_done, .ref da_bed, .int d_now, .int d_mindAt, .int d_way, .int d_harm, .int d_worth, .int d_passes, .int d_passings, .int d_spots, .int d_images, .ref da_passing, .ref da_spot, .ref da_kept, .ref da_aside, .int d_spare, .ref da_ran, .ref da_who, .ref da_cap, .ref da_w, .ref da_laid, .int d_whoMany, .int d_drifted, .int d_seed, .ref da_cries, .ref da_holds, .ref da_came, .ref da_least, .ref da_firstTo, .int d_steps, .int d_roundFrom, .int d_roundMany, .int d_numberAt]))])) A) ([.ref da] : List Value).toArray s 0 0 A := ⟨_, rfl⟩
  rw [← hQ0]
  obtain ⟨hx, hb, hml, hown, hts, hr, hlk, hnm⟩ := id E
  have hown : s.vm.findClass RX12 = some m.cls := hown
  have hl : lv_has ls 1 [(0, .ref da)] := hl
  obtain ⟨H, hH⟩ : ∃ H, H = s.heap := ⟨_, rfl⟩
  have hP : va_P D vwCl [(da, .inr (13, [.int d_thrown, .int d_tape, .int d_size, .int d_place, .int d_at, .int d_fault, .int d_faultAt, .int d_clauses, .ref da_fed, .ref da_readBody, .ref da_body, .ref da_readMany, .ref da_many, .ref da_without, .ref da_did, .ref da_done, .ref da_bed, .int d_now, .int d_mindAt, .int d_way, .int d_harm, .int d_worth, .int d_passes, .int d_passings, .int d_spots, .int d_images, .ref da_passing, .ref da_spot, .ref da_kept, .ref da_aside, .int d_spare, .ref da_ran, .ref da_who, .ref da_cap, .ref da_w, .ref da_laid, .int d_whoMany, .int d_drifted, .int d_seed, .ref da_cries, .ref da_holds, .ref da_came, .ref da_least, .ref da_firstTo, .int d_steps, .int d_roundFrom, .int d_roundMany, .int d_numberAt]))] H := by rw [hH]; exact hP
  have hS : va_S A s.heap H [] := by rw [hH]; exact va_S.rf
  rw [← hH]
  clear hH
  obtain ⟨locs, hlocs⟩ : ∃ locs : List Loc, locs = [] := ⟨_, rfl⟩
  rw [← hlocs] at hS ⊢
  refine lv_aload_n hx hb dX12_fault_0 rfl (lv_at hl 0 rfl) ?_
  refine lv_iconst (v := 0) hx hb dX12_fault_1 (by decide) ?_
  refine va_put (D := D) (ci := 13) (v := .int 0) (ty := .int) (C := RX12) (T := TX12) (N := 48) hx hb hts kin_RX12 tyX12 tyX12_ok nmX12 hown hG.1 hP hD hS 0 rfl rfl 0 (by decide) (hts _ wm_1519) (fun _ h9 => h9) rfl (by decide +kernel) rfl rfl (Nat.le_of_ble_eq_true rfl) dX12_fault_2 (fun H locs hP hD hS => ?_)
  have hP : va_P D vwCl [(da, .inr (13, [.int 0, .int d_tape, .int d_size, .int d_place, .int d_at, .int d_fault, .int d_faultAt, .int d_clauses, .ref da_fed, .ref da_readBody, .ref da_body, .ref da_readMany, .ref da_many, .ref da_without, .ref da_did, .ref da_done, .ref da_bed, .int d_now, .int d_mindAt, .int d_way, .int d_harm, .int d_worth, .int d_passes, .int d_passings, .int d_spots, .int d_images, .ref da_passing, .ref da_spot, .ref da_kept, .ref da_aside, .int d_spare, .ref da_ran, .ref da_who, .ref da_cap, .ref da_w, .ref da_laid, .int d_whoMany, .int d_drifted, .int d_seed, .ref da_cries, .ref da_holds, .ref da_came, .ref da_least, .ref da_firstTo, .int d_steps, .int d_roundFrom, .int d_roundMany, .int d_numberAt]))] H := hP
  have hD : va_D A [(da, .inr (13, [.int 0, .int d_tape, .int d_size, .int d_place, .int d_at, .int d_fault, .int d_faultAt, .int d_clauses, .ref da_fed, .ref da_readBody, .ref da_body, .ref da_readMany, .ref da_many, .ref da_without, .ref da_did, .ref da_done, .ref da_bed, .int d_now, .int d_mindAt, .int d_way, .int d_harm, .int d_worth, .int d_passes, .int d_passings, .int d_spots, .int d_images, .ref da_passing, .ref da_spot, .ref da_kept, .ref da_aside, .int d_spare, .ref da_ran, .ref da_who, .ref da_cap, .ref da_w, .ref da_laid, .int d_whoMany, .int d_drifted, .int d_seed, .ref da_cries, .ref da_holds, .ref da_came, .ref da_least, .ref da_firstTo, .int d_steps, .int d_roundFrom, .int d_roundMany, .int d_numberAt]))] := hD
  refine lv_aload_n hx hb dX12_fault_5 rfl (lv_at hl 0 rfl) ?_
  refine va_get (D := D) (ci := 13) (v := .int d_place) (C := RX12) (T := TX12) (N := 48) hx hb hts kin_RX12 hown hG.1 hP 0 rfl rfl 3 (by decide) (hts _ wm_1522) (fun _ h9 => h9) rfl dX12_fault_6 ?_
  rw [hQ0]
  exact k_iret (fun k => [0].getD k 0, fun k => [].getD k (fun _ => 0)) hx hb hr hlk (trivial) (hP.sub [0] rfl) (hD.sub [0] (by decide) rfl) hS (by decide) (by decide) dX12_fault_9

set_option maxHeartbeats 4000000 in
set_option maxRecDepth 100000 in
/-- the reference: clear -/
theorem m_clear (l : Launch) (hl0 : l.stackTraces = false) (D : va_G) (cy : Nat → ClassId) (sa : Nat → Nat) (da da_fed da_readBody da_body da_readMany da_many da_without da_did da_done da_bed da_passing da_spot da_kept da_aside da_ran da_who da_cap da_w da_laid da_cries da_holds da_came da_least da_firstTo : Nat) (d_thrown d_tape d_size d_place d_at d_fault d_faultAt d_clauses d_now d_mindAt d_way d_harm d_worth d_passes d_passings d_spots d_images d_spare d_whoMany d_drifted d_seed d_steps d_roundFrom d_roundMany d_numberAt : Int32) (h_d_tape : 0 ≤ d_tape.toInt ∧ d_tape.toInt ≤ 500) (h_d_size : 0 ≤ d_size.toInt ∧ d_size.toInt ≤ 500) (h_d_at : 0 ≤ d_at.toInt ∧ d_at.toInt ≤ 500) (h_d_clauses : 0 ≤ d_clauses.toInt ∧ d_clauses.toInt ≤ 40) (h_d_now : 0 ≤ d_now.toInt ∧ d_now.toInt ≤ 480) (h_d_mindAt : 0 ≤ d_mindAt.toInt ∧ d_mindAt.toInt ≤ 8) (h_d_passings : 0 ≤ d_passings.toInt ∧ d_passings.toInt ≤ 30) (h_d_spots : 0 ≤ d_spots.toInt ∧ d_spots.toInt ≤ 6) (h_d_images : 0 ≤ d_images.toInt ∧ d_images.toInt ≤ 3) (h_d_whoMany : 0 ≤ d_whoMany.toInt ∧ d_whoMany.toInt ≤ 4) (sz : Nat) : Met l yX12_clear (Cond.code yX12_clear cX12_clear 2 (some .int) :: kWS) ({ frames := 10, cells := 0, slots := 0, locals := 300 }) (kPre D cy sa [.ref da] [(da, .inr (13, [.int d_thrown, .int d_tape, .int d_size, .int d_place, .int d_at, .int d_fault, .int d_faultAt, .int d_clauses, .ref da_fed, .ref da_readBody, .ref da_body, .ref da_readMany, .ref da_many, .ref da_without, .ref da_did, .ref da_done, .ref da_bed, .int d_now, .int d_mindAt, .int d_way, .int d_harm, .int d_worth, .int d_passes, .int d_passings, .int d_spots, .int d_images, .ref da_passing, .ref da_spot, .ref da_kept, .ref da_aside, .int d_spare, .ref da_ran, .ref da_who, .ref da_cap, .ref da_w, .ref da_laid, .int d_whoMany, .int d_drifted, .int d_seed, .ref da_cries, .ref da_holds, .ref da_came, .ref da_least, .ref da_firstTo, .int d_steps, .int d_roundFrom, .int d_roundMany, .int d_numberAt]))] sz) (va_Qi (fun (r : Int32) (u : (Nat → Int32) × (Nat → Nat → Int32)) => (0 ≤ ((u.1 1)).toInt ∧ ((u.1 1)).toInt ≤ 30)) (kB D (va_A [(da, .inr (13, [.int d_thrown, .int d_tape, .int d_size, .int d_place, .int d_at, .int d_fault, .int d_faultAt, .int d_clauses, .ref da_fed, .ref da_readBody, .ref da_body, .ref da_readMany, .ref da_many, .ref da_without, .ref da_did, .ref da_done, .ref da_bed, .int d_now, .int d_mindAt, .int d_way, .int d_harm, .int d_worth, .int d_passes, .int d_passings, .int d_spots, .int d_images, .ref da_passing, .ref da_spot, .ref da_kept, .ref da_aside, .int d_spare, .ref da_ran, .ref da_who, .ref da_cap, .ref da_w, .ref da_laid, .int d_whoMany, .int d_drifted, .int d_seed, .ref da_cries, .ref da_holds, .ref da_came, .ref da_least, .ref da_firstTo, .int d_steps, .int d_roundFrom, .int d_roundMany, .int d_numberAt]))] sz) (fun (u : (Nat → Int32) × (Nat → Nat → Int32)) => [(da, .inr (13, [.int ((u.1 0)), .int d_tape, .int d_size, .int d_place, .int d_at, .int d_fault, .int d_faultAt, .int d_clauses, .ref da_fed, .ref da_readBody, .ref da_body, .ref da_readMany, .ref da_many, .ref da_without, .ref da_did, .ref da_done, .ref da_bed, .int d_now, .int d_mindAt, .int d_way, .int d_harm, .int d_worth, .int d_passes, .int ((u.1 1)), .int d_spots, .int d_images, .ref da_passing, .ref da_spot, .ref da_kept, .ref da_aside, .int d_spare, .ref da_ran, .ref da_who, .ref da_cap, .ref da_w, .ref da_laid, .int d_whoMany, .int d_drifted, .int d_seed, .ref da_cries, .ref da_holds, .ref da_came, .ref da_least, .ref da_firstTo, .int d_steps, .int d_roundFrom, .int d_roundMany, .int d_numberAt]))])) (va_A [(da, .inr (13, [.int d_thrown, .int d_tape, .int d_size, .int d_place, .int d_at, .int d_fault, .int d_faultAt, .int d_clauses, .ref da_fed, .ref da_readBody, .ref da_body, .ref da_readMany, .ref da_many, .ref da_without, .ref da_did, .ref da_done, .ref da_bed, .int d_now, .int d_mindAt, .int d_way, .int d_harm, .int d_worth, .int d_passes, .int d_passings, .int d_spots, .int d_images, .ref da_passing, .ref da_spot, .ref da_kept, .ref da_aside, .int d_spare, .ref da_ran, .ref da_who, .ref da_cap, .ref da_w, .ref da_laid, .int d_whoMany, .int d_drifted, .int d_seed, .ref da_cries, .ref da_holds, .ref da_came, .ref da_least, .ref da_firstTo, .int d_steps, .int d_roundFrom, .int d_roundMany, .int d_numberAt]))] sz)) 0 0 (va_A [(da, .inr (13, [.int d_thrown, .int d_tape, .int d_size, .int d_place, .int d_at, .int d_fault, .int d_faultAt, .int d_clauses, .ref da_fed, .ref da_readBody, .ref da_body, .ref da_readMany, .ref da_many, .ref da_without, .ref da_did, .ref da_done, .ref da_bed, .int d_now, .int d_mindAt, .int d_way, .int d_harm, .int d_worth, .int d_passes, .int d_passings, .int d_spots, .int d_images, .ref da_passing, .ref da_spot, .ref da_kept, .ref da_aside, .int d_spare, .ref da_ran, .ref da_who, .ref da_cap, .ref da_w, .ref da_laid, .int d_whoMany, .int d_drifted, .int d_seed, .ref da_cries, .ref da_holds, .ref da_came, .ref da_least, .ref da_firstTo, .int d_steps, .int d_roundFrom, .int d_roundMany, .int d_numberAt]))] sz) := by
  refine k_ofW (y := yX12_clear) (cc := cX12_clear) (maxL := 2) (ret := (some .int)) (av := [.ref da]) (ws := [(da, .inr (13, [.int d_thrown, .int d_tape, .int d_size, .int d_place, .int d_at, .int d_fault, .int d_faultAt, .int d_clauses, .ref da_fed, .ref da_readBody, .ref da_body, .ref da_readMany, .ref da_many, .ref da_without, .ref da_did, .ref da_done, .ref da_bed, .int d_now, .int d_mindAt, .int d_way, .int d_harm, .int d_worth, .int d_passes, .int d_passings, .int d_spots, .int d_images, .ref da_passing, .ref da_spot, .ref da_kept, .ref da_aside, .int d_spare, .ref da_ran, .ref da_who, .ref da_cap, .ref da_w, .ref da_laid, .int d_whoMany, .int d_drifted, .int d_seed, .ref da_cries, .ref da_holds, .ref da_came, .ref da_least, .ref da_firstTo, .int d_steps, .int d_roundFrom, .int d_roundMany, .int d_numberAt]))]) (Qc := fun A => (va_Qi (fun (r : Int32) (u : (Nat → Int32) × (Nat → Nat → Int32)) => (0 ≤ ((u.1 1)).toInt ∧ ((u.1 1)).toInt ≤ 30)) (kB D A (fun (u : (Nat → Int32) × (Nat → Nat → Int32)) => [(da, .inr (13, [.int ((u.1 0)), .int d_tape, .int d_size, .int d_place, .int d_at, .int d_fault, .int d_faultAt, .int d_clauses, .ref da_fed, .ref da_readBody, .ref da_body, .ref da_readMany, .ref da_many, .ref da_without, .ref da_did, .ref da_done, .ref da_bed, .int d_now, .int d_mindAt, .int d_way, .int d_harm, .int d_worth, .int d_passes, .int ((u.1 1)), .int d_spots, .int d_images, .ref da_passing, .ref da_spot, .ref da_kept, .ref da_aside, .int d_spare, .ref da_ran, .ref da_who, .ref da_cap, .ref da_w, .ref da_laid, .int d_whoMany, .int d_drifted, .int d_seed, .ref da_cries, .ref da_holds, .ref da_came, .ref da_least, .ref da_firstTo, .int d_steps, .int d_roundFrom, .int d_roundMany, .int d_numberAt]))])) A)) (by decide) (Nat.le_of_ble_eq_true rfl) ?_
  intro p e s m below meth c ls A E hA hP hD hG hS hl
  obtain ⟨Q0, hQ0⟩ : ∃ Q0 : State → Prop, Q0 = MQ below (va_Qi (fun (r : Int32) (u : (Nat → Int32) × (Nat → Nat → Int32)) => (0 ≤ ((u.1 1)).toInt ∧ ((u.1 1)).toInt ≤ 30)) (kB D A (fun (u : (Nat → Int32) × (Nat → Nat → Int32)) => [(da, .inr (13, [.int ((u.1 0)), .int d_tape, .int d_size, .int d_place, .int d_at, .int d_fault, .int d_faultAt, .int d_clauses, .ref da_fed, .ref da_readBody, .ref da_body, .ref da_readMany, .ref da_many, .ref da_without, .ref da_did, .ref da_done, .ref da_bed, .int d_now, .int d_mindAt, .int d_way, .int d_harm, .int d_worth, .int d_passes, .int ((u.1 1)), .int d_spots, .int d_images, .ref da_passing, .ref da_spot, .ref da_kept, .ref da_aside, .int d_spare, .ref da_ran, .ref da_who, .ref da_cap, .ref da_w, .ref da_laid, .int d_whoMany, .int d_drifted, .int d_seed, .ref da_cries, .ref da_holds, .ref da_came, .ref da_least, .ref da_firstTo, .int d_steps, .int d_roundFrom, .int d_roundMany, .int d_numberAt]))])) A) ([.ref da] : List Value).toArray s 0 0 A := ⟨_, rfl⟩
  rw [← hQ0]
  obtain ⟨hx, hb, hml, hown, hts, hr, hlk, hnm⟩ := id E
  have hown : s.vm.findClass RX12 = some m.cls := hown
  have hl : lv_has ls 2 [(0, .ref da)] := hl
  obtain ⟨H, hH⟩ : ∃ H, H = s.heap := ⟨_, rfl⟩
  have hP : va_P D vwCl [(da, .inr (13, [.int d_thrown, .int d_tape, .int d_size, .int d_place, .int d_at, .int d_fault, .int d_faultAt, .int d_clauses, .ref da_fed, .ref da_readBody, .ref da_body, .ref da_readMany, .ref da_many, .ref da_without, .ref da_did, .ref da_done, .ref da_bed, .int d_now, .int d_mindAt, .int d_way, .int d_harm, .int d_worth, .int d_passes, .int d_passings, .int d_spots, .int d_images, .ref da_passing, .ref da_spot, .ref da_kept, .ref da_aside, .int d_spare, .ref da_ran, .ref da_who, .ref da_cap, .ref da_w, .ref da_laid, .int d_whoMany, .int d_drifted, .int d_seed, .ref da_cries, .ref da_holds, .ref da_came, .ref da_least, .ref da_firstTo, .int d_steps, .int d_roundFrom, .int d_roundMany, .int d_numberAt]))] H := by rw [hH]; exact hP
  have hS : va_S A s.heap H [] := by rw [hH]; exact va_S.rf
  rw [← hH]
  clear hH
  obtain ⟨locs, hlocs⟩ : ∃ locs : List Loc, locs = [] := ⟨_, rfl⟩
  rw [← hlocs] at hS ⊢
  refine lv_aload_n hx hb dX12_clear_0 rfl (lv_at hl 0 rfl) ?_
  refine lv_iconst (v := 0) hx hb dX12_clear_1 (by decide) ?_
  refine va_put (D := D) (ci := 13) (v := .int 0) (ty := .int) (C := RX12) (T := TX12) (N := 48) hx hb hts kin_RX12 tyX12 tyX12_ok nmX12 hown hG.1 hP hD hS 0 rfl rfl 0 (by decide) (hts _ wm_1519) (fun _ h9 => h9) rfl (by decide +kernel) rfl rfl (Nat.le_of_ble_eq_true rfl) dX12_clear_2 (fun H locs hP hD hS => ?_)
  have hP : va_P D vwCl [(da, .inr (13, [.int 0, .int d_tape, .int d_size, .int d_place, .int d_at, .int d_fault, .int d_faultAt, .int d_clauses, .ref da_fed, .ref da_readBody, .ref da_body, .ref da_readMany, .ref da_many, .ref da_without, .ref da_did, .ref da_done, .ref da_bed, .int d_now, .int d_mindAt, .int d_way, .int d_harm, .int d_worth, .int d_passes, .int d_passings, .int d_spots, .int d_images, .ref da_passing, .ref da_spot, .ref da_kept, .ref da_aside, .int d_spare, .ref da_ran, .ref da_who, .ref da_cap, .ref da_w, .ref da_laid, .int d_whoMany, .int d_drifted, .int d_seed, .ref da_cries, .ref da_holds, .ref da_came, .ref da_least, .ref da_firstTo, .int d_steps, .int d_roundFrom, .int d_roundMany, .int d_numberAt]))] H := hP
  have hD : va_D A [(da, .inr (13, [.int 0, .int d_tape, .int d_size, .int d_place, .int d_at, .int d_fault, .int d_faultAt, .int d_clauses, .ref da_fed, .ref da_readBody, .ref da_body, .ref da_readMany, .ref da_many, .ref da_without, .ref da_did, .ref da_done, .ref da_bed, .int d_now, .int d_mindAt, .int d_way, .int d_harm, .int d_worth, .int d_passes, .int d_passings, .int d_spots, .int d_images, .ref da_passing, .ref da_spot, .ref da_kept, .ref da_aside, .int d_spare, .ref da_ran, .ref da_who, .ref da_cap, .ref da_w, .ref da_laid, .int d_whoMany, .int d_drifted, .int d_seed, .ref da_cries, .ref da_holds, .ref da_came, .ref da_least, .ref da_firstTo, .int d_steps, .int d_roundFrom, .int d_roundMany, .int d_numberAt]))] := hD
  refine lv_aload_n hx hb dX12_clear_5 rfl (lv_at hl 0 rfl) ?_
  refine va_get (D := D) (ci := 13) (v := .int d_passings) (C := RX12) (T := TX12) (N := 48) hx hb hts kin_RX12 hown hG.1 hP 0 rfl rfl 23 (by decide) (hts _ wm_1542) (fun _ h9 => h9) rfl dX12_clear_6 ?_
  refine lv_istore_n (lv' := [(1, .int d_passings), (0, .ref da)]) hx hb dX12_clear_9 rfl hl (by decide) rfl (fun ls hl => ?_)
  refine lv_aload_n hx hb dX12_clear_10 rfl (lv_at hl 1 rfl) ?_
  refine lv_iconst (v := 0) hx hb dX12_clear_11 (by decide) ?_
  refine va_put (D := D) (ci := 13) (v := .int 0) (ty := .int) (C := RX12) (T := TX12) (N := 48) hx hb hts kin_RX12 tyX12 tyX12_ok nmX12 hown hG.1 hP hD hS 0 rfl rfl 23 (by decide) (hts _ wm_1542) (fun _ h9 => h9) rfl (by decide +kernel) rfl rfl (Nat.le_of_ble_eq_true rfl) dX12_clear_12 (fun H locs hP hD hS => ?_)
  have hP : va_P D vwCl [(da, .inr (13, [.int 0, .int d_tape, .int d_size, .int d_place, .int d_at, .int d_fault, .int d_faultAt, .int d_clauses, .ref da_fed, .ref da_readBody, .ref da_body, .ref da_readMany, .ref da_many, .ref da_without, .ref da_did, .ref da_done, .ref da_bed, .int d_now, .int d_mindAt, .int d_way, .int d_harm, .int d_worth, .int d_passes, .int 0, .int d_spots, .int d_images, .ref da_passing, .ref da_spot, .ref da_kept, .ref da_aside, .int d_spare, .ref da_ran, .ref da_who, .ref da_cap, .ref da_w, .ref da_laid, .int d_whoMany, .int d_drifted, .int d_seed, .ref da_cries, .ref da_holds, .ref da_came, .ref da_least, .ref da_firstTo, .int d_steps, .int d_roundFrom, .int d_roundMany, .int d_numberAt]))] H := hP
  have hD : va_D A [(da, .inr (13, [.int 0, .int d_tape, .int d_size, .int d_place, .int d_at, .int d_fault, .int d_faultAt, .int d_clauses, .ref da_fed, .ref da_readBody, .ref da_body, .ref da_readMany, .ref da_many, .ref da_without, .ref da_did, .ref da_done, .ref da_bed, .int d_now, .int d_mindAt, .int d_way, .int d_harm, .int d_worth, .int d_passes, .int 0, .int d_spots, .int d_images, .ref da_passing, .ref da_spot, .ref da_kept, .ref da_aside, .int d_spare, .ref da_ran, .ref da_who, .ref da_cap, .ref da_w, .ref da_laid, .int d_whoMany, .int d_drifted, .int d_seed, .ref da_cries, .ref da_holds, .ref da_came, .ref da_least, .ref da_firstTo, .int d_steps, .int d_roundFrom, .int d_roundMany, .int d_numberAt]))] := hD
  refine lv_iload_n hx hb dX12_clear_15 rfl (lv_at hl 0 rfl) ?_
  rw [hQ0]
  exact k_iret (fun k => [0, 0].getD k 0, fun k => [].getD k (fun _ => 0)) hx hb hr hlk ((show 0 ≤ (0 : Int32).toInt ∧ (0 : Int32).toInt ≤ 30 by decide)) (hP.sub [0] rfl) (hD.sub [0] (by decide) rfl) hS (by decide) (by decide) dX12_clear_16

set_option maxHeartbeats 4000000 in
set_option maxRecDepth 100000 in
/-- the reference: feed -/
theorem m_feed (l : Launch) (hl0 : l.stackTraces = false) (D : va_G) (cy : Nat → ClassId) (sa : Nat → Nat) (da da_fed da_readBody da_body da_readMany da_many da_without da_did da_done da_bed da_passing da_spot da_kept da_aside da_ran da_who da_cap da_w da_laid da_cries da_holds da_came da_least da_firstTo : Nat) (d_thrown d_tape d_size d_place d_at d_fault d_faultAt d_clauses d_now d_mindAt d_way d_harm d_worth d_passes d_passings d_spots d_images d_spare d_whoMany d_drifted d_seed d_steps d_roundFrom d_roundMany d_numberAt a0 a1 a2 a3 a4 : Int32) (df_fed : Nat → Int32) (h_d_tape : 0 ≤ d_tape.toInt ∧ d_tape.toInt ≤ 500) (h_d_size : 0 ≤ d_size.toInt ∧ d_size.toInt ≤ 500) (h_d_at : 0 ≤ d_at.toInt ∧ d_at.toInt ≤ 500) (h_d_clauses : 0 ≤ d_clauses.toInt ∧ d_clauses.toInt ≤ 40) (h_d_now : 0 ≤ d_now.toInt ∧ d_now.toInt ≤ 480) (h_d_mindAt : 0 ≤ d_mindAt.toInt ∧ d_mindAt.toInt ≤ 8) (h_d_passings : 0 ≤ d_passings.toInt ∧ d_passings.toInt ≤ 30) (h_d_spots : 0 ≤ d_spots.toInt ∧ d_spots.toInt ≤ 6) (h_d_images : 0 ≤ d_images.toInt ∧ d_images.toInt ≤ 3) (h_d_whoMany : 0 ≤ d_whoMany.toInt ∧ d_whoMany.toInt ≤ 4) (h_df_fed : rowR 500 0 (255) df_fed) (sz : Nat) : Met l yX12_feed (Cond.code yX12_feed cX12_feed 8 (some .int) :: kWS) ({ frames := 10, cells := 0, slots := 0, locals := 300 }) (kPre D cy sa [.ref da, .int a0, .int a1, .int a2, .int a3, .int a4] [(da, .inr (13, [.int d_thrown, .int d_tape, .int d_size, .int d_place, .int d_at, .int d_fault, .int d_faultAt, .int d_clauses, .ref da_fed, .ref da_readBody, .ref da_body, .ref da_readMany, .ref da_many, .ref da_without, .ref da_did, .ref da_done, .ref da_bed, .int d_now, .int d_mindAt, .int d_way, .int d_harm, .int d_worth, .int d_passes, .int d_passings, .int d_spots, .int d_images, .ref da_passing, .ref da_spot, .ref da_kept, .ref da_aside, .int d_spare, .ref da_ran, .ref da_who, .ref da_cap, .ref da_w, .ref da_laid, .int d_whoMany, .int d_drifted, .int d_seed, .ref da_cries, .ref da_holds, .ref da_came, .ref da_least, .ref da_firstTo, .int d_steps, .int d_roundFrom, .int d_roundMany, .int d_numberAt])), (da_fed, .inl (cy 0, 500, .inl df_fed))] sz) (va_Qi (fun (r : Int32) (u : (Nat → Int32) × (Nat → Nat → Int32)) => (0 ≤ ((u.1 1)).toInt ∧ ((u.1 1)).toInt ≤ 500) ∧ (rowR 500 0 (255) ((u.2 0)))) (kB D (va_A [(da, .inr (13, [.int d_thrown, .int d_tape, .int d_size, .int d_place, .int d_at, .int d_fault, .int d_faultAt, .int d_clauses, .ref da_fed, .ref da_readBody, .ref da_body, .ref da_readMany, .ref da_many, .ref da_without, .ref da_did, .ref da_done, .ref da_bed, .int d_now, .int d_mindAt, .int d_way, .int d_harm, .int d_worth, .int d_passes, .int d_passings, .int d_spots, .int d_images, .ref da_passing, .ref da_spot, .ref da_kept, .ref da_aside, .int d_spare, .ref da_ran, .ref da_who, .ref da_cap, .ref da_w, .ref da_laid, .int d_whoMany, .int d_drifted, .int d_seed, .ref da_cries, .ref da_holds, .ref da_came, .ref da_least, .ref da_firstTo, .int d_steps, .int d_roundFrom, .int d_roundMany, .int d_numberAt])), (da_fed, .inl (cy 0, 500, .inl df_fed))] sz) (fun (u : (Nat → Int32) × (Nat → Nat → Int32)) => [(da, .inr (13, [.int ((u.1 0)), .int ((u.1 1)), .int d_size, .int d_place, .int d_at, .int d_fault, .int d_faultAt, .int d_clauses, .ref da_fed, .ref da_readBody, .ref da_body, .ref da_readMany, .ref da_many, .ref da_without, .ref da_did, .ref da_done, .ref da_bed, .int d_now, .int d_mindAt, .int d_way, .int d_harm, .int d_worth, .int d_passes, .int d_passings, .int d_spots, .int d_images, .ref da_passing, .ref da_spot, .ref da_kept, .ref da_aside, .int d_spare, .ref da_ran, .ref da_who, .ref da_cap, .ref da_w, .ref da_laid, .int d_whoMany, .int d_drifted, .int d_seed, .ref da_cries, .ref da_holds, .ref da_came, .ref da_least, .ref da_firstTo, .int d_steps, .int d_roundFrom, .int d_roundMany, .int d_numberAt])), (da_fed, .inl (cy 0, 500, .inl ((u.2 0))))])) (va_A [(da, .inr (13, [.int d_thrown, .int d_tape, .int d_size, .int d_place, .int d_at, .int d_fault, .int d_faultAt, .int d_clauses, .ref da_fed, .ref da_readBody, .ref da_body, .ref da_readMany, .ref da_many, .ref da_without, .ref da_did, .ref da_done, .ref da_bed, .int d_now, .int d_mindAt, .int d_way, .int d_harm, .int d_worth, .int d_passes, .int d_passings, .int d_spots, .int d_images, .ref da_passing, .ref da_spot, .ref da_kept, .ref da_aside, .int d_spare, .ref da_ran, .ref da_who, .ref da_cap, .ref da_w, .ref da_laid, .int d_whoMany, .int d_drifted, .int d_seed, .ref da_cries, .ref da_holds, .ref da_came, .ref da_least, .ref da_firstTo, .int d_steps, .int d_roundFrom, .int d_roundMany, .int d_numberAt])), (da_fed, .inl (cy 0, 500, .inl df_fed))] sz)) 0 0 (va_A [(da, .inr (13, [.int d_thrown, .int d_tape, .int d_size, .int d_place, .int d_at, .int d_fault, .int d_faultAt, .int d_clauses, .ref da_fed, .ref da_readBody, .ref da_body, .ref da_readMany, .ref da_many, .ref da_without, .ref da_did, .ref da_done, .ref da_bed, .int d_now, .int d_mindAt, .int d_way, .int d_harm, .int d_worth, .int d_passes, .int d_passings, .int d_spots, .int d_images, .ref da_passing, .ref da_spot, .ref da_kept, .ref da_aside, .int d_spare, .ref da_ran, .ref da_who, .ref da_cap, .ref da_w, .ref da_laid, .int d_whoMany, .int d_drifted, .int d_seed, .ref da_cries, .ref da_holds, .ref da_came, .ref da_least, .ref da_firstTo, .int d_steps, .int d_roundFrom, .int d_roundMany, .int d_numberAt])), (da_fed, .inl (cy 0, 500, .inl df_fed))] sz) := by
  refine k_ofW (y := yX12_feed) (cc := cX12_feed) (maxL := 8) (ret := (some .int)) (av := [.ref da, .int a0, .int a1, .int a2, .int a3, .int a4]) (ws := [(da, .inr (13, [.int d_thrown, .int d_tape, .int d_size, .int d_place, .int d_at, .int d_fault, .int d_faultAt, .int d_clauses, .ref da_fed, .ref da_readBody, .ref da_body, .ref da_readMany, .ref da_many, .ref da_without, .ref da_did, .ref da_done, .ref da_bed, .int d_now, .int d_mindAt, .int d_way, .int d_harm, .int d_worth, .int d_passes, .int d_passings, .int d_spots, .int d_images, .ref da_passing, .ref da_spot, .ref da_kept, .ref da_aside, .int d_spare, .ref da_ran, .ref da_who, .ref da_cap, .ref da_w, .ref da_laid, .int d_whoMany, .int d_drifted, .int d_seed, .ref da_cries, .ref da_holds, .ref da_came, .ref da_least, .ref da_firstTo, .int d_steps, .int d_roundFrom, .int d_roundMany, .int d_numberAt])), (da_fed, .inl (cy 0, 500, .inl df_fed))]) (Qc := fun A => (va_Qi (fun (r : Int32) (u : (Nat → Int32) × (Nat → Nat → Int32)) => (0 ≤ ((u.1 1)).toInt ∧ ((u.1 1)).toInt ≤ 500) ∧ (rowR 500 0 (255) ((u.2 0)))) (kB D A (fun (u : (Nat → Int32) × (Nat → Nat → Int32)) => [(da, .inr (13, [.int ((u.1 0)), .int ((u.1 1)), .int d_size, .int d_place, .int d_at, .int d_fault, .int d_faultAt, .int d_clauses, .ref da_fed, .ref da_readBody, .ref da_body, .ref da_readMany, .ref da_many, .ref da_without, .ref da_did, .ref da_done, .ref da_bed, .int d_now, .int d_mindAt, .int d_way, .int d_harm, .int d_worth, .int d_passes, .int d_passings, .int d_spots, .int d_images, .ref da_passing, .ref da_spot, .ref da_kept, .ref da_aside, .int d_spare, .ref da_ran, .ref da_who, .ref da_cap, .ref da_w, .ref da_laid, .int d_whoMany, .int d_drifted, .int d_seed, .ref da_cries, .ref da_holds, .ref da_came, .ref da_least, .ref da_firstTo, .int d_steps, .int d_roundFrom, .int d_roundMany, .int d_numberAt])), (da_fed, .inl (cy 0, 500, .inl ((u.2 0))))])) A)) (by decide) (Nat.le_of_ble_eq_true rfl) ?_
  intro p e s m below meth c ls A E hA hP hD hG hS hl
  obtain ⟨Q0, hQ0⟩ : ∃ Q0 : State → Prop, Q0 = MQ below (va_Qi (fun (r : Int32) (u : (Nat → Int32) × (Nat → Nat → Int32)) => (0 ≤ ((u.1 1)).toInt ∧ ((u.1 1)).toInt ≤ 500) ∧ (rowR 500 0 (255) ((u.2 0)))) (kB D A (fun (u : (Nat → Int32) × (Nat → Nat → Int32)) => [(da, .inr (13, [.int ((u.1 0)), .int ((u.1 1)), .int d_size, .int d_place, .int d_at, .int d_fault, .int d_faultAt, .int d_clauses, .ref da_fed, .ref da_readBody, .ref da_body, .ref da_readMany, .ref da_many, .ref da_without, .ref da_did, .ref da_done, .ref da_bed, .int d_now, .int d_mindAt, .int d_way, .int d_harm, .int d_worth, .int d_passes, .int d_passings, .int d_spots, .int d_images, .ref da_passing, .ref da_spot, .ref da_kept, .ref da_aside, .int d_spare, .ref da_ran, .ref da_who, .ref da_cap, .ref da_w, .ref da_laid, .int d_whoMany, .int d_drifted, .int d_seed, .ref da_cries, .ref da_holds, .ref da_came, .ref da_least, .ref da_firstTo, .int d_steps, .int d_roundFrom, .int d_roundMany, .int d_numberAt])), (da_fed, .inl (cy 0, 500, .inl ((u.2 0))))])) A) ([.ref da, .int a0, .int a1, .int a2, .int a3, .int a4] : List Value).toArray s 0 0 A := ⟨_, rfl⟩
  rw [← hQ0]
  obtain ⟨hx, hb, hml, hown, hts, hr, hlk, hnm⟩ := id E
  have hown : s.vm.findClass RX12 = some m.cls := hown
  have hl : lv_has ls 8 [(0, .ref da), (1, .int a0), (2, .int a1), (3, .int a2), (4, .int a3), (5, .int a4)] := hl
  have g_a0 := k_rng a0
  have g_a1 := k_rng a1
  have g_a2 := k_rng a2
  have g_a3 := k_rng a3
  have g_a4 := k_rng a4
  obtain ⟨H, hH⟩ : ∃ H, H = s.heap := ⟨_, rfl⟩
  have hP : va_P D vwCl [(da, .inr (13, [.int d_thrown, .int d_tape, .int d_size, .int d_place, .int d_at, .int d_fault, .int d_faultAt, .int d_clauses, .ref da_fed, .ref da_readBody, .ref da_body, .ref da_readMany, .ref da_many, .ref da_without, .ref da_did, .ref da_done, .ref da_bed, .int d_now, .int d_mindAt, .int d_way, .int d_harm, .int d_worth, .int d_passes, .int d_passings, .int d_spots, .int d_images, .ref da_passing, .ref da_spot, .ref da_kept, .ref da_aside, .int d_spare, .ref da_ran, .ref da_who, .ref da_cap, .ref da_w, .ref da_laid, .int d_whoMany, .int d_drifted, .int d_seed, .ref da_cries, .ref da_holds, .ref da_came, .ref da_least, .ref da_firstTo, .int d_steps, .int d_roundFrom, .int d_roundMany, .int d_numberAt])), (da_fed, .inl (cy 0, 500, .inl df_fed))] H := by rw [hH]; exact hP
  have hS : va_S A s.heap H [] := by rw [hH]; exact va_S.rf
  rw [← hH]
  clear hH
  obtain ⟨locs, hlocs⟩ : ∃ locs : List Loc, locs = [] := ⟨_, rfl⟩
  rw [← hlocs] at hS ⊢
  refine lv_aload_n hx hb dX12_feed_0 rfl (lv_at hl 0 rfl) ?_
  refine lv_iconst (v := 0) hx hb dX12_feed_1 (by decide) ?_
  refine va_put (D := D) (ci := 13) (v := .int 0) (ty := .int) (C := RX12) (T := TX12) (N := 48) hx hb hts kin_RX12 tyX12 tyX12_ok nmX12 hown hG.1 hP hD hS 0 rfl rfl 0 (by decide) (hts _ wm_1519) (fun _ h9 => h9) rfl (by decide +kernel) rfl rfl (Nat.le_of_ble_eq_true rfl) dX12_feed_2 (fun H locs hP hD hS => ?_)
  have hP : va_P D vwCl [(da, .inr (13, [.int 0, .int d_tape, .int d_size, .int d_place, .int d_at, .int d_fault, .int d_faultAt, .int d_clauses, .ref da_fed, .ref da_readBody, .ref da_body, .ref da_readMany, .ref da_many, .ref da_without, .ref da_did, .ref da_done, .ref da_bed, .int d_now, .int d_mindAt, .int d_way, .int d_harm, .int d_worth, .int d_passes, .int d_passings, .int d_spots, .int d_images, .ref da_passing, .ref da_spot, .ref da_kept, .ref da_aside, .int d_spare, .ref da_ran, .ref da_who, .ref da_cap, .ref da_w, .ref da_laid, .int d_whoMany, .int d_drifted, .int d_seed, .ref da_cries, .ref da_holds, .ref da_came, .ref da_least, .ref da_firstTo, .int d_steps, .int d_roundFrom, .int d_roundMany, .int d_numberAt])), (da_fed, .inl (cy 0, 500, .inl df_fed))] H := hP
  have hD : va_D A [(da, .inr (13, [.int 0, .int d_tape, .int d_size, .int d_place, .int d_at, .int d_fault, .int d_faultAt, .int d_clauses, .ref da_fed, .ref da_readBody, .ref da_body, .ref da_readMany, .ref da_many, .ref da_without, .ref da_did, .ref da_done, .ref da_bed, .int d_now, .int d_mindAt, .int d_way, .int d_harm, .int d_worth, .int d_passes, .int d_passings, .int d_spots, .int d_images, .ref da_passing, .ref da_spot, .ref da_kept, .ref da_aside, .int d_spare, .ref da_ran, .ref da_who, .ref da_cap, .ref da_w, .ref da_laid, .int d_whoMany, .int d_drifted, .int d_seed, .ref da_cries, .ref da_holds, .ref da_came, .ref da_least, .ref da_firstTo, .int d_steps, .int d_roundFrom, .int d_roundMany, .int d_numberAt])), (da_fed, .inl (cy 0, 500, .inl df_fed))] := hD
  refine lv_aload_n hx hb dX12_feed_5 rfl (lv_at hl 0 rfl) ?_
  refine va_get (D := D) (ci := 13) (v := .int d_tape) (C := RX12) (T := TX12) (N := 48) hx hb hts kin_RX12 hown hG.1 hP 0 rfl rfl 1 (by decide) (hts _ wm_1520) (fun _ h9 => h9) rfl dX12_feed_6 ?_
  refine lv_bipush (v := 20) hx hb dX12_feed_9 (by decide) ?_
  refine lv_iadd hx hb dX12_feed_11 ?_
  refine lv_topi (fun x1q ex1q => ?_)
  have rx1q := n_add ex1q (a := d_tape.toInt) (b := 20) rfl n_L20 (by omega) (by omega)
  refine lv_sipush (v := 500) hx hb dX12_feed_12 (by decide) ?_
  refine lv_icmp_le (tgt := 20) hx hb dX12_feed_15 (by decide) (fun c2q => ?_) (fun c2q => ?_)
  · simp only [k_lt, k_le, k_eq, ne_eq, ge_iff_le, gt_iff_lt, n_L500] at c2q
    refine lv_iconst (v := 0) hx hb dX12_feed_20 (by decide) ?_
    refine lv_istore (lv' := [(6, .int 0), (0, .ref da), (1, .int a0), (2, .int a1), (3, .int a2), (4, .int a3), (5, .int a4)]) hx hb dX12_feed_21 hl (by decide) rfl (fun ls hl => ?_)
    have k3q : ∀ (n : Nat) (k3qy6 : Int32) (k3qd_tape : Int32) (k3qdf_fed : Nat → Int32) (H : Heap) (locs : List Loc) (ls : Array Slot), 0 ≤ k3qy6.toInt ∧ k3qy6.toInt ≤ 20 → 0 ≤ k3qd_tape.toInt ∧ k3qd_tape.toInt ≤ 500 → rowR 500 0 (255) k3qdf_fed → k3qd_tape.toInt + 20 - k3qy6.toInt ≤ 500 → (20 - k3qy6.toInt).toNat = n → va_P D vwCl [(da, .inr (13, [.int 0, .int k3qd_tape, .int d_size, .int d_place, .int d_at, .int d_fault, .int d_faultAt, .int d_clauses, .ref da_fed, .ref da_readBody, .ref da_body, .ref da_readMany, .ref da_many, .ref da_without, .ref da_did, .ref da_done, .ref da_bed, .int d_now, .int d_mindAt, .int d_way, .int d_harm, .int d_worth, .int d_passes, .int d_passings, .int d_spots, .int d_images, .ref da_passing, .ref da_spot, .ref da_kept, .ref da_aside, .int d_spare, .ref da_ran, .ref da_who, .ref da_cap, .ref da_w, .ref da_laid, .int d_whoMany, .int d_drifted, .int d_seed, .ref da_cries, .ref da_holds, .ref da_came, .ref da_least, .ref da_firstTo, .int d_steps, .int d_roundFrom, .int d_roundMany, .int d_numberAt])), (da_fed, .inl (cy 0, 500, .inl k3qdf_fed))] H → va_D A [(da, .inr (13, [.int 0, .int k3qd_tape, .int d_size, .int d_place, .int d_at, .int d_fault, .int d_faultAt, .int d_clauses, .ref da_fed, .ref da_readBody, .ref da_body, .ref da_readMany, .ref da_many, .ref da_without, .ref da_did, .ref da_done, .ref da_bed, .int d_now, .int d_mindAt, .int d_way, .int d_harm, .int d_worth, .int d_passes, .int d_passings, .int d_spots, .int d_images, .ref da_passing, .ref da_spot, .ref da_kept, .ref da_aside, .int d_spare, .ref da_ran, .ref da_who, .ref da_cap, .ref da_w, .ref da_laid, .int d_whoMany, .int d_drifted, .int d_seed, .ref da_cries, .ref da_holds, .ref da_came, .ref da_least, .ref da_firstTo, .int d_steps, .int d_roundFrom, .int d_roundMany, .int d_numberAt])), (da_fed, .inl (cy 0, 500, .inl k3qdf_fed))] → va_S A s.heap H locs → lv_has ls 8 [(6, .int k3qy6), (0, .ref da), (1, .int a0), (2, .int a1), (3, .int a2), (4, .int a3), (5, .int a4)] → W p l e ({ frames := 10, cells := 0, slots := 0, locals := 300 }) s m ([.ref da, .int a0, .int a1, .int a2, .int a3, .int a4] : List Value).toArray below meth c H locs 0 0 Q0 (F0 m 23 ls []) := by
      intro n
      induction n using Nat.strongRecOn with
      | ind n k3qih =>
        intro k3qy6 k3qd_tape k3qdf_fed H locs ls hk3qy6 hk3qd_tape hk3qdf_fed hk3qi0 k3qm hP hD hS hl
        refine lv_iload hx hb dX12_feed_23 (lv_at hl 0 rfl) ?_
        refine lv_bipush (v := 20) hx hb dX12_feed_25 (by decide) ?_
        refine lv_icmp_ge (tgt := 120) hx hb dX12_feed_27 (by decide) (fun c4q => ?_) (fun c4q => ?_)
        · simp only [k_lt, k_le, k_eq, ne_eq, ge_iff_le, gt_iff_lt, n_L20] at c4q
          refine lv_aload_n hx hb dX12_feed_120 rfl (lv_at hl 1 rfl) ?_
          refine va_get (D := D) (ci := 13) (v := .int k3qd_tape) (C := RX12) (T := TX12) (N := 48) hx hb hts kin_RX12 hown hG.1 hP 0 rfl rfl 1 (by decide) (hts _ wm_1520) (fun _ h9 => h9) rfl dX12_feed_121 ?_
          rw [hQ0]
          exact k_iret (fun k => [0, k3qd_tape].getD k 0, fun k => [k3qdf_fed].getD k (fun _ => 0)) hx hb hr hlk (⟨(show 0 ≤ k3qd_tape.toInt ∧ k3qd_tape.toInt ≤ 500 from ⟨by first | omega | (simp only [n_L0]; omega) | (simp only [n_L0]; done) | decide, by first | omega | (simp only [n_L0]; omega) | (simp only [n_L0]; done) | decide⟩), (show rowR 500 0 (255) k3qdf_fed from hk3qdf_fed)⟩) (hP.sub [0, 1] rfl) (hD.sub [0, 1] (by decide) rfl) hS (by decide) (by decide) dX12_feed_124
        · simp only [k_lt, k_le, k_eq, ne_eq, ge_iff_le, gt_iff_lt, n_L20] at c4q
          refine lv_iload hx hb dX12_feed_30 (lv_at hl 0 rfl) ?_
          refine lv_iconst (v := 4) hx hb dX12_feed_32 (by decide) ?_
          refine lv_icmp_ge (tgt := 40) hx hb dX12_feed_33 (by decide) (fun c5q => ?_) (fun c5q => ?_)
          · simp only [k_lt, k_le, k_eq, ne_eq, ge_iff_le, gt_iff_lt, n_L4] at c5q
            refine lv_iload hx hb dX12_feed_40 (lv_at hl 0 rfl) ?_
            refine lv_bipush (v := 8) hx hb dX12_feed_42 (by decide) ?_
            refine lv_icmp_ge (tgt := 51) hx hb dX12_feed_44 (by decide) (fun c6q => ?_) (fun c6q => ?_)
            · simp only [k_lt, k_le, k_eq, ne_eq, ge_iff_le, gt_iff_lt, n_L8] at c6q
              refine lv_iload hx hb dX12_feed_51 (lv_at hl 0 rfl) ?_
              refine lv_bipush (v := 12) hx hb dX12_feed_53 (by decide) ?_
              refine lv_icmp_ge (tgt := 62) hx hb dX12_feed_55 (by decide) (fun c7q => ?_) (fun c7q => ?_)
              · simp only [k_lt, k_le, k_eq, ne_eq, ge_iff_le, gt_iff_lt, n_L12] at c7q
                refine lv_iload hx hb dX12_feed_62 (lv_at hl 0 rfl) ?_
                refine lv_bipush (v := 16) hx hb dX12_feed_64 (by decide) ?_
                refine lv_icmp_ge (tgt := 74) hx hb dX12_feed_66 (by decide) (fun c8q => ?_) (fun c8q => ?_)
                · simp only [k_lt, k_le, k_eq, ne_eq, ge_iff_le, gt_iff_lt, n_L16] at c8q
                  refine lv_iload hx hb dX12_feed_74 (lv_at hl 6 rfl) ?_
                  refine lv_istore (lv' := [(7, .int a4), (6, .int k3qy6), (0, .ref da), (1, .int a0), (2, .int a1), (3, .int a2), (4, .int a3), (5, .int a4)]) hx hb dX12_feed_76 hl (by decide) rfl (fun ls hl => ?_)
                  refine lv_aload_n hx hb dX12_feed_78 rfl (lv_at hl 2 rfl) ?_
                  refine va_get (D := D) (ci := 13) (v := .ref da_fed) (C := RX12) (T := TX12) (N := 48) hx hb hts kin_RX12 hown hG.1 hP 0 rfl rfl 8 (by decide) (hts _ wm_1527) (fun _ h9 => h9) rfl dX12_feed_79 ?_
                  refine lv_aload_n hx hb dX12_feed_82 rfl (lv_at hl 2 rfl) ?_
                  refine va_get (D := D) (ci := 13) (v := .int k3qd_tape) (C := RX12) (T := TX12) (N := 48) hx hb hts kin_RX12 hown hG.1 hP 0 rfl rfl 1 (by decide) (hts _ wm_1520) (fun _ h9 => h9) rfl dX12_feed_83 ?_
                  refine lv_iload hx hb dX12_feed_86 (lv_at hl 0 rfl) ?_
                  refine lv_bipush (v := 24) hx hb dX12_feed_88 (by decide) ?_
                  refine lv_bipush (v := 8) hx hb dX12_feed_90 (by decide) ?_
                  refine lv_iload hx hb dX12_feed_92 (lv_at hl 1 rfl) ?_
                  refine lv_iconst (v := 4) hx hb dX12_feed_94 (by decide) ?_
                  refine lv_irem hx hb dX12_feed_95 (by decide) ?_
                  refine lv_topi (fun x9q ex9q => ?_)
                  have rx9q := n_mod ex9q (a := k3qy6.toInt) (b := 4) rfl n_L4 (by omega) (by omega)
                  refine lv_imul hx hb dX12_feed_96 ?_
                  refine lv_topi (fun x10q ex10q => ?_)
                  have rx10q := n_mul ex10q (a := 8) (b := x9q.toInt) n_L8 rfl (by omega) (by omega)
                  refine lv_isub hx hb dX12_feed_97 ?_
                  refine lv_topi (fun x11q ex11q => ?_)
                  have rx11q := n_sub ex11q (a := 24) (b := x10q.toInt) n_L24 rfl (by omega) (by omega)
                  refine lv_ishr hx hb dX12_feed_98 ?_
                  refine lv_topi (fun x12q ex12q => ?_)
                  refine lv_sipush (v := 255) hx hb dX12_feed_99 (by decide) ?_
                  refine lv_iand hx hb dX12_feed_102 ?_
                  refine lv_topi (fun x13q ex13q => ?_)
                  have rx13q := n_and ex13q (b := 255) n_L255 (by omega)
                  refine va_iast hx hb hG.1 hP hD hS 1 0 rfl rfl (n_in (by omega) (by omega)) dX12_feed_103 (fun H locs hP hD hS => ?_)
                  have hP : va_P D vwCl [(da, .inr (13, [.int 0, .int k3qd_tape, .int d_size, .int d_place, .int d_at, .int d_fault, .int d_faultAt, .int d_clauses, .ref da_fed, .ref da_readBody, .ref da_body, .ref da_readMany, .ref da_many, .ref da_without, .ref da_did, .ref da_done, .ref da_bed, .int d_now, .int d_mindAt, .int d_way, .int d_harm, .int d_worth, .int d_passes, .int d_passings, .int d_spots, .int d_images, .ref da_passing, .ref da_spot, .ref da_kept, .ref da_aside, .int d_spare, .ref da_ran, .ref da_who, .ref da_cap, .ref da_w, .ref da_laid, .int d_whoMany, .int d_drifted, .int d_seed, .ref da_cries, .ref da_holds, .ref da_came, .ref da_least, .ref da_firstTo, .int d_steps, .int d_roundFrom, .int d_roundMany, .int d_numberAt])), (da_fed, .inl (cy 0, 500, .inl (upd (k3qdf_fed) (k3qd_tape : Int32).toNatClampNeg x13q)))] H := hP
                  have hD : va_D A [(da, .inr (13, [.int 0, .int k3qd_tape, .int d_size, .int d_place, .int d_at, .int d_fault, .int d_faultAt, .int d_clauses, .ref da_fed, .ref da_readBody, .ref da_body, .ref da_readMany, .ref da_many, .ref da_without, .ref da_did, .ref da_done, .ref da_bed, .int d_now, .int d_mindAt, .int d_way, .int d_harm, .int d_worth, .int d_passes, .int d_passings, .int d_spots, .int d_images, .ref da_passing, .ref da_spot, .ref da_kept, .ref da_aside, .int d_spare, .ref da_ran, .ref da_who, .ref da_cap, .ref da_w, .ref da_laid, .int d_whoMany, .int d_drifted, .int d_seed, .ref da_cries, .ref da_holds, .ref da_came, .ref da_least, .ref da_firstTo, .int d_steps, .int d_roundFrom, .int d_roundMany, .int d_numberAt])), (da_fed, .inl (cy 0, 500, .inl (upd (k3qdf_fed) (k3qd_tape : Int32).toNatClampNeg x13q)))] := hD
                  have hf14q : rowR 500 0 (255) (upd (k3qdf_fed) (k3qd_tape : Int32).toNatClampNeg x13q) := rowR_upd hk3qdf_fed (by omega) (by omega)
                  generalize upd (k3qdf_fed) (k3qd_tape : Int32).toNatClampNeg x13q = f14q at hP hD hf14q
                  have hP : va_P D vwCl [(da, .inr (13, [.int 0, .int k3qd_tape, .int d_size, .int d_place, .int d_at, .int d_fault, .int d_faultAt, .int d_clauses, .ref da_fed, .ref da_readBody, .ref da_body, .ref da_readMany, .ref da_many, .ref da_without, .ref da_did, .ref da_done, .ref da_bed, .int d_now, .int d_mindAt, .int d_way, .int d_harm, .int d_worth, .int d_passes, .int d_passings, .int d_spots, .int d_images, .ref da_passing, .ref da_spot, .ref da_kept, .ref da_aside, .int d_spare, .ref da_ran, .ref da_who, .ref da_cap, .ref da_w, .ref da_laid, .int d_whoMany, .int d_drifted, .int d_seed, .ref da_cries, .ref da_holds, .ref da_came, .ref da_least, .ref da_firstTo, .int d_steps, .int d_roundFrom, .int d_roundMany, .int d_numberAt])), (da_fed, .inl (cy 0, 500, .inl f14q))] H := hP
                  have hD : va_D A [(da, .inr (13, [.int 0, .int k3qd_tape, .int d_size, .int d_place, .int d_at, .int d_fault, .int d_faultAt, .int d_clauses, .ref da_fed, .ref da_readBody, .ref da_body, .ref da_readMany, .ref da_many, .ref da_without, .ref da_did, .ref da_done, .ref da_bed, .int d_now, .int d_mindAt, .int d_way, .int d_harm, .int d_worth, .int d_passes, .int d_passings, .int d_spots, .int d_images, .ref da_passing, .ref da_spot, .ref da_kept, .ref da_aside, .int d_spare, .ref da_ran, .ref da_who, .ref da_cap, .ref da_w, .ref da_laid, .int d_whoMany, .int d_drifted, .int d_seed, .ref da_cries, .ref da_holds, .ref da_came, .ref da_least, .ref da_firstTo, .int d_steps, .int d_roundFrom, .int d_roundMany, .int d_numberAt])), (da_fed, .inl (cy 0, 500, .inl f14q))] := hD
                  refine lv_aload_n hx hb dX12_feed_104 rfl (lv_at hl 2 rfl) ?_
                  refine lv_dup hx hb dX12_feed_105 rfl ?_
                  refine va_get (D := D) (ci := 13) (v := .int k3qd_tape) (C := RX12) (T := TX12) (N := 48) hx hb hts kin_RX12 hown hG.1 hP 0 rfl rfl 1 (by decide) (hts _ wm_1520) (fun _ h9 => h9) rfl dX12_feed_106 ?_
                  refine lv_iconst (v := 1) hx hb dX12_feed_109 (by decide) ?_
                  refine lv_iadd hx hb dX12_feed_110 ?_
                  refine lv_topi (fun x15q ex15q => ?_)
                  have rx15q := n_add ex15q (a := k3qd_tape.toInt) (b := 1) rfl n_L1 (by omega) (by omega)
                  refine va_put (D := D) (ci := 13) (v := .int x15q) (ty := .int) (C := RX12) (T := TX12) (N := 48) hx hb hts kin_RX12 tyX12 tyX12_ok nmX12 hown hG.1 hP hD hS 0 rfl rfl 1 (by decide) (hts _ wm_1520) (fun _ h9 => h9) rfl (by decide +kernel) rfl rfl (Nat.le_of_ble_eq_true rfl) dX12_feed_111 (fun H locs hP hD hS => ?_)
                  have hP : va_P D vwCl [(da, .inr (13, [.int 0, .int x15q, .int d_size, .int d_place, .int d_at, .int d_fault, .int d_faultAt, .int d_clauses, .ref da_fed, .ref da_readBody, .ref da_body, .ref da_readMany, .ref da_many, .ref da_without, .ref da_did, .ref da_done, .ref da_bed, .int d_now, .int d_mindAt, .int d_way, .int d_harm, .int d_worth, .int d_passes, .int d_passings, .int d_spots, .int d_images, .ref da_passing, .ref da_spot, .ref da_kept, .ref da_aside, .int d_spare, .ref da_ran, .ref da_who, .ref da_cap, .ref da_w, .ref da_laid, .int d_whoMany, .int d_drifted, .int d_seed, .ref da_cries, .ref da_holds, .ref da_came, .ref da_least, .ref da_firstTo, .int d_steps, .int d_roundFrom, .int d_roundMany, .int d_numberAt])), (da_fed, .inl (cy 0, 500, .inl f14q))] H := hP
                  have hD : va_D A [(da, .inr (13, [.int 0, .int x15q, .int d_size, .int d_place, .int d_at, .int d_fault, .int d_faultAt, .int d_clauses, .ref da_fed, .ref da_readBody, .ref da_body, .ref da_readMany, .ref da_many, .ref da_without, .ref da_did, .ref da_done, .ref da_bed, .int d_now, .int d_mindAt, .int d_way, .int d_harm, .int d_worth, .int d_passes, .int d_passings, .int d_spots, .int d_images, .ref da_passing, .ref da_spot, .ref da_kept, .ref da_aside, .int d_spare, .ref da_ran, .ref da_who, .ref da_cap, .ref da_w, .ref da_laid, .int d_whoMany, .int d_drifted, .int d_seed, .ref da_cries, .ref da_holds, .ref da_came, .ref da_least, .ref da_firstTo, .int d_steps, .int d_roundFrom, .int d_roundMany, .int d_numberAt])), (da_fed, .inl (cy 0, 500, .inl f14q))] := hD
                  obtain ⟨x16q, ex16q⟩ : ∃ z : Int32, z = k3qy6 + 1 := ⟨_, rfl⟩
                  refine lv_iinc (v := x16q) (lv' := [(6, .int x16q), (7, .int a4), (0, .ref da), (1, .int a0), (2, .int a1), (3, .int a2), (4, .int a3), (5, .int a4)]) hx hb dX12_feed_114 hl (k := 1) rfl (by rw [ex16q]; rfl) (by decide) rfl (fun ls hl => ?_)
                  have rx16q := n_add ex16q (a := k3qy6.toInt) (b := 1) rfl n_L1 (by omega) (by omega)
                  refine lv_goto (tgt := 23) hx hb dX12_feed_117 (by decide) ?_
                  exact k3qih ((20 - x16q.toInt).toNat) (by omega) x16q x15q f14q H locs ls ⟨by omega, by omega⟩ ⟨by omega, by omega⟩ hf14q (show x15q.toInt + 20 - x16q.toInt ≤ 500 by omega) rfl hP hD hS (lv_sub hl [0, 2, 3, 4, 5, 6, 7] rfl)
                · simp only [k_lt, k_le, k_eq, ne_eq, ge_iff_le, gt_iff_lt, n_L16] at c8q
                  refine lv_iload hx hb dX12_feed_69 (lv_at hl 5 rfl) ?_
                  refine lv_goto (tgt := 76) hx hb dX12_feed_71 (by decide) ?_
                  refine lv_istore (lv' := [(7, .int a3), (6, .int k3qy6), (0, .ref da), (1, .int a0), (2, .int a1), (3, .int a2), (4, .int a3), (5, .int a4)]) hx hb dX12_feed_76 hl (by decide) rfl (fun ls hl => ?_)
                  refine lv_aload_n hx hb dX12_feed_78 rfl (lv_at hl 2 rfl) ?_
                  refine va_get (D := D) (ci := 13) (v := .ref da_fed) (C := RX12) (T := TX12) (N := 48) hx hb hts kin_RX12 hown hG.1 hP 0 rfl rfl 8 (by decide) (hts _ wm_1527) (fun _ h9 => h9) rfl dX12_feed_79 ?_
                  refine lv_aload_n hx hb dX12_feed_82 rfl (lv_at hl 2 rfl) ?_
                  refine va_get (D := D) (ci := 13) (v := .int k3qd_tape) (C := RX12) (T := TX12) (N := 48) hx hb hts kin_RX12 hown hG.1 hP 0 rfl rfl 1 (by decide) (hts _ wm_1520) (fun _ h9 => h9) rfl dX12_feed_83 ?_
                  refine lv_iload hx hb dX12_feed_86 (lv_at hl 0 rfl) ?_
                  refine lv_bipush (v := 24) hx hb dX12_feed_88 (by decide) ?_
                  refine lv_bipush (v := 8) hx hb dX12_feed_90 (by decide) ?_
                  refine lv_iload hx hb dX12_feed_92 (lv_at hl 1 rfl) ?_
                  refine lv_iconst (v := 4) hx hb dX12_feed_94 (by decide) ?_
                  refine lv_irem hx hb dX12_feed_95 (by decide) ?_
                  refine lv_topi (fun x17q ex17q => ?_)
                  have rx17q := n_mod ex17q (a := k3qy6.toInt) (b := 4) rfl n_L4 (by omega) (by omega)
                  refine lv_imul hx hb dX12_feed_96 ?_
                  refine lv_topi (fun x18q ex18q => ?_)
                  have rx18q := n_mul ex18q (a := 8) (b := x17q.toInt) n_L8 rfl (by omega) (by omega)
                  refine lv_isub hx hb dX12_feed_97 ?_
                  refine lv_topi (fun x19q ex19q => ?_)
                  have rx19q := n_sub ex19q (a := 24) (b := x18q.toInt) n_L24 rfl (by omega) (by omega)
                  refine lv_ishr hx hb dX12_feed_98 ?_
                  refine lv_topi (fun x20q ex20q => ?_)
                  refine lv_sipush (v := 255) hx hb dX12_feed_99 (by decide) ?_
                  refine lv_iand hx hb dX12_feed_102 ?_
                  refine lv_topi (fun x21q ex21q => ?_)
                  have rx21q := n_and ex21q (b := 255) n_L255 (by omega)
                  refine va_iast hx hb hG.1 hP hD hS 1 0 rfl rfl (n_in (by omega) (by omega)) dX12_feed_103 (fun H locs hP hD hS => ?_)
                  have hP : va_P D vwCl [(da, .inr (13, [.int 0, .int k3qd_tape, .int d_size, .int d_place, .int d_at, .int d_fault, .int d_faultAt, .int d_clauses, .ref da_fed, .ref da_readBody, .ref da_body, .ref da_readMany, .ref da_many, .ref da_without, .ref da_did, .ref da_done, .ref da_bed, .int d_now, .int d_mindAt, .int d_way, .int d_harm, .int d_worth, .int d_passes, .int d_passings, .int d_spots, .int d_images, .ref da_passing, .ref da_spot, .ref da_kept, .ref da_aside, .int d_spare, .ref da_ran, .ref da_who, .ref da_cap, .ref da_w, .ref da_laid, .int d_whoMany, .int d_drifted, .int d_seed, .ref da_cries, .ref da_holds, .ref da_came, .ref da_least, .ref da_firstTo, .int d_steps, .int d_roundFrom, .int d_roundMany, .int d_numberAt])), (da_fed, .inl (cy 0, 500, .inl (upd (k3qdf_fed) (k3qd_tape : Int32).toNatClampNeg x21q)))] H := hP
                  have hD : va_D A [(da, .inr (13, [.int 0, .int k3qd_tape, .int d_size, .int d_place, .int d_at, .int d_fault, .int d_faultAt, .int d_clauses, .ref da_fed, .ref da_readBody, .ref da_body, .ref da_readMany, .ref da_many, .ref da_without, .ref da_did, .ref da_done, .ref da_bed, .int d_now, .int d_mindAt, .int d_way, .int d_harm, .int d_worth, .int d_passes, .int d_passings, .int d_spots, .int d_images, .ref da_passing, .ref da_spot, .ref da_kept, .ref da_aside, .int d_spare, .ref da_ran, .ref da_who, .ref da_cap, .ref da_w, .ref da_laid, .int d_whoMany, .int d_drifted, .int d_seed, .ref da_cries, .ref da_holds, .ref da_came, .ref da_least, .ref da_firstTo, .int d_steps, .int d_roundFrom, .int d_roundMany, .int d_numberAt])), (da_fed, .inl (cy 0, 500, .inl (upd (k3qdf_fed) (k3qd_tape : Int32).toNatClampNeg x21q)))] := hD
                  have hf22q : rowR 500 0 (255) (upd (k3qdf_fed) (k3qd_tape : Int32).toNatClampNeg x21q) := rowR_upd hk3qdf_fed (by omega) (by omega)
                  generalize upd (k3qdf_fed) (k3qd_tape : Int32).toNatClampNeg x21q = f22q at hP hD hf22q
                  have hP : va_P D vwCl [(da, .inr (13, [.int 0, .int k3qd_tape, .int d_size, .int d_place, .int d_at, .int d_fault, .int d_faultAt, .int d_clauses, .ref da_fed, .ref da_readBody, .ref da_body, .ref da_readMany, .ref da_many, .ref da_without, .ref da_did, .ref da_done, .ref da_bed, .int d_now, .int d_mindAt, .int d_way, .int d_harm, .int d_worth, .int d_passes, .int d_passings, .int d_spots, .int d_images, .ref da_passing, .ref da_spot, .ref da_kept, .ref da_aside, .int d_spare, .ref da_ran, .ref da_who, .ref da_cap, .ref da_w, .ref da_laid, .int d_whoMany, .int d_drifted, .int d_seed, .ref da_cries, .ref da_holds, .ref da_came, .ref da_least, .ref da_firstTo, .int d_steps, .int d_roundFrom, .int d_roundMany, .int d_numberAt])), (da_fed, .inl (cy 0, 500, .inl f22q))] H := hP
                  have hD : va_D A [(da, .inr (13, [.int 0, .int k3qd_tape, .int d_size, .int d_place, .int d_at, .int d_fault, .int d_faultAt, .int d_clauses, .ref da_fed, .ref da_readBody, .ref da_body, .ref da_readMany, .ref da_many, .ref da_without, .ref da_did, .ref da_done, .ref da_bed, .int d_now, .int d_mindAt, .int d_way, .int d_harm, .int d_worth, .int d_passes, .int d_passings, .int d_spots, .int d_images, .ref da_passing, .ref da_spot, .ref da_kept, .ref da_aside, .int d_spare, .ref da_ran, .ref da_who, .ref da_cap, .ref da_w, .ref da_laid, .int d_whoMany, .int d_drifted, .int d_seed, .ref da_cries, .ref da_holds, .ref da_came, .ref da_least, .ref da_firstTo, .int d_steps, .int d_roundFrom, .int d_roundMany, .int d_numberAt])), (da_fed, .inl (cy 0, 500, .inl f22q))] := hD
                  refine lv_aload_n hx hb dX12_feed_104 rfl (lv_at hl 2 rfl) ?_
                  refine lv_dup hx hb dX12_feed_105 rfl ?_
                  refine va_get (D := D) (ci := 13) (v := .int k3qd_tape) (C := RX12) (T := TX12) (N := 48) hx hb hts kin_RX12 hown hG.1 hP 0 rfl rfl 1 (by decide) (hts _ wm_1520) (fun _ h9 => h9) rfl dX12_feed_106 ?_
                  refine lv_iconst (v := 1) hx hb dX12_feed_109 (by decide) ?_
                  refine lv_iadd hx hb dX12_feed_110 ?_
                  refine lv_topi (fun x23q ex23q => ?_)
                  have rx23q := n_add ex23q (a := k3qd_tape.toInt) (b := 1) rfl n_L1 (by omega) (by omega)
                  refine va_put (D := D) (ci := 13) (v := .int x23q) (ty := .int) (C := RX12) (T := TX12) (N := 48) hx hb hts kin_RX12 tyX12 tyX12_ok nmX12 hown hG.1 hP hD hS 0 rfl rfl 1 (by decide) (hts _ wm_1520) (fun _ h9 => h9) rfl (by decide +kernel) rfl rfl (Nat.le_of_ble_eq_true rfl) dX12_feed_111 (fun H locs hP hD hS => ?_)
                  have hP : va_P D vwCl [(da, .inr (13, [.int 0, .int x23q, .int d_size, .int d_place, .int d_at, .int d_fault, .int d_faultAt, .int d_clauses, .ref da_fed, .ref da_readBody, .ref da_body, .ref da_readMany, .ref da_many, .ref da_without, .ref da_did, .ref da_done, .ref da_bed, .int d_now, .int d_mindAt, .int d_way, .int d_harm, .int d_worth, .int d_passes, .int d_passings, .int d_spots, .int d_images, .ref da_passing, .ref da_spot, .ref da_kept, .ref da_aside, .int d_spare, .ref da_ran, .ref da_who, .ref da_cap, .ref da_w, .ref da_laid, .int d_whoMany, .int d_drifted, .int d_seed, .ref da_cries, .ref da_holds, .ref da_came, .ref da_least, .ref da_firstTo, .int d_steps, .int d_roundFrom, .int d_roundMany, .int d_numberAt])), (da_fed, .inl (cy 0, 500, .inl f22q))] H := hP
                  have hD : va_D A [(da, .inr (13, [.int 0, .int x23q, .int d_size, .int d_place, .int d_at, .int d_fault, .int d_faultAt, .int d_clauses, .ref da_fed, .ref da_readBody, .ref da_body, .ref da_readMany, .ref da_many, .ref da_without, .ref da_did, .ref da_done, .ref da_bed, .int d_now, .int d_mindAt, .int d_way, .int d_harm, .int d_worth, .int d_passes, .int d_passings, .int d_spots, .int d_images, .ref da_passing, .ref da_spot, .ref da_kept, .ref da_aside, .int d_spare, .ref da_ran, .ref da_who, .ref da_cap, .ref da_w, .ref da_laid, .int d_whoMany, .int d_drifted, .int d_seed, .ref da_cries, .ref da_holds, .ref da_came, .ref da_least, .ref da_firstTo, .int d_steps, .int d_roundFrom, .int d_roundMany, .int d_numberAt])), (da_fed, .inl (cy 0, 500, .inl f22q))] := hD
                  obtain ⟨x24q, ex24q⟩ : ∃ z : Int32, z = k3qy6 + 1 := ⟨_, rfl⟩
                  refine lv_iinc (v := x24q) (lv' := [(6, .int x24q), (7, .int a3), (0, .ref da), (1, .int a0), (2, .int a1), (3, .int a2), (4, .int a3), (5, .int a4)]) hx hb dX12_feed_114 hl (k := 1) rfl (by rw [ex24q]; rfl) (by decide) rfl (fun ls hl => ?_)
                  have rx24q := n_add ex24q (a := k3qy6.toInt) (b := 1) rfl n_L1 (by omega) (by omega)
                  refine lv_goto (tgt := 23) hx hb dX12_feed_117 (by decide) ?_
                  exact k3qih ((20 - x24q.toInt).toNat) (by omega) x24q x23q f22q H locs ls ⟨by omega, by omega⟩ ⟨by omega, by omega⟩ hf22q (show x23q.toInt + 20 - x24q.toInt ≤ 500 by omega) rfl hP hD hS (lv_sub hl [0, 2, 3, 4, 5, 6, 7] rfl)
              · simp only [k_lt, k_le, k_eq, ne_eq, ge_iff_le, gt_iff_lt, n_L12] at c7q
                refine lv_iload_n hx hb dX12_feed_58 rfl (lv_at hl 4 rfl) ?_
                refine lv_goto (tgt := 76) hx hb dX12_feed_59 (by decide) ?_
                refine lv_istore (lv' := [(7, .int a2), (6, .int k3qy6), (0, .ref da), (1, .int a0), (2, .int a1), (3, .int a2), (4, .int a3), (5, .int a4)]) hx hb dX12_feed_76 hl (by decide) rfl (fun ls hl => ?_)
                refine lv_aload_n hx hb dX12_feed_78 rfl (lv_at hl 2 rfl) ?_
                refine va_get (D := D) (ci := 13) (v := .ref da_fed) (C := RX12) (T := TX12) (N := 48) hx hb hts kin_RX12 hown hG.1 hP 0 rfl rfl 8 (by decide) (hts _ wm_1527) (fun _ h9 => h9) rfl dX12_feed_79 ?_
                refine lv_aload_n hx hb dX12_feed_82 rfl (lv_at hl 2 rfl) ?_
                refine va_get (D := D) (ci := 13) (v := .int k3qd_tape) (C := RX12) (T := TX12) (N := 48) hx hb hts kin_RX12 hown hG.1 hP 0 rfl rfl 1 (by decide) (hts _ wm_1520) (fun _ h9 => h9) rfl dX12_feed_83 ?_
                refine lv_iload hx hb dX12_feed_86 (lv_at hl 0 rfl) ?_
                refine lv_bipush (v := 24) hx hb dX12_feed_88 (by decide) ?_
                refine lv_bipush (v := 8) hx hb dX12_feed_90 (by decide) ?_
                refine lv_iload hx hb dX12_feed_92 (lv_at hl 1 rfl) ?_
                refine lv_iconst (v := 4) hx hb dX12_feed_94 (by decide) ?_
                refine lv_irem hx hb dX12_feed_95 (by decide) ?_
                refine lv_topi (fun x25q ex25q => ?_)
                have rx25q := n_mod ex25q (a := k3qy6.toInt) (b := 4) rfl n_L4 (by omega) (by omega)
                refine lv_imul hx hb dX12_feed_96 ?_
                refine lv_topi (fun x26q ex26q => ?_)
                have rx26q := n_mul ex26q (a := 8) (b := x25q.toInt) n_L8 rfl (by omega) (by omega)
                refine lv_isub hx hb dX12_feed_97 ?_
                refine lv_topi (fun x27q ex27q => ?_)
                have rx27q := n_sub ex27q (a := 24) (b := x26q.toInt) n_L24 rfl (by omega) (by omega)
                refine lv_ishr hx hb dX12_feed_98 ?_
                refine lv_topi (fun x28q ex28q => ?_)
                refine lv_sipush (v := 255) hx hb dX12_feed_99 (by decide) ?_
                refine lv_iand hx hb dX12_feed_102 ?_
                refine lv_topi (fun x29q ex29q => ?_)
                have rx29q := n_and ex29q (b := 255) n_L255 (by omega)
                refine va_iast hx hb hG.1 hP hD hS 1 0 rfl rfl (n_in (by omega) (by omega)) dX12_feed_103 (fun H locs hP hD hS => ?_)
                have hP : va_P D vwCl [(da, .inr (13, [.int 0, .int k3qd_tape, .int d_size, .int d_place, .int d_at, .int d_fault, .int d_faultAt, .int d_clauses, .ref da_fed, .ref da_readBody, .ref da_body, .ref da_readMany, .ref da_many, .ref da_without, .ref da_did, .ref da_done, .ref da_bed, .int d_now, .int d_mindAt, .int d_way, .int d_harm, .int d_worth, .int d_passes, .int d_passings, .int d_spots, .int d_images, .ref da_passing, .ref da_spot, .ref da_kept, .ref da_aside, .int d_spare, .ref da_ran, .ref da_who, .ref da_cap, .ref da_w, .ref da_laid, .int d_whoMany, .int d_drifted, .int d_seed, .ref da_cries, .ref da_holds, .ref da_came, .ref da_least, .ref da_firstTo, .int d_steps, .int d_roundFrom, .int d_roundMany, .int d_numberAt])), (da_fed, .inl (cy 0, 500, .inl (upd (k3qdf_fed) (k3qd_tape : Int32).toNatClampNeg x29q)))] H := hP
                have hD : va_D A [(da, .inr (13, [.int 0, .int k3qd_tape, .int d_size, .int d_place, .int d_at, .int d_fault, .int d_faultAt, .int d_clauses, .ref da_fed, .ref da_readBody, .ref da_body, .ref da_readMany, .ref da_many, .ref da_without, .ref da_did, .ref da_done, .ref da_bed, .int d_now, .int d_mindAt, .int d_way, .int d_harm, .int d_worth, .int d_passes, .int d_passings, .int d_spots, .int d_images, .ref da_passing, .ref da_spot, .ref da_kept, .ref da_aside, .int d_spare, .ref da_ran, .ref da_who, .ref da_cap, .ref da_w, .ref da_laid, .int d_whoMany, .int d_drifted, .int d_seed, .ref da_cries, .ref da_holds, .ref da_came, .ref da_least, .ref da_firstTo, .int d_steps, .int d_roundFrom, .int d_roundMany, .int d_numberAt])), (da_fed, .inl (cy 0, 500, .inl (upd (k3qdf_fed) (k3qd_tape : Int32).toNatClampNeg x29q)))] := hD
                have hf30q : rowR 500 0 (255) (upd (k3qdf_fed) (k3qd_tape : Int32).toNatClampNeg x29q) := rowR_upd hk3qdf_fed (by omega) (by omega)
                generalize upd (k3qdf_fed) (k3qd_tape : Int32).toNatClampNeg x29q = f30q at hP hD hf30q
                have hP : va_P D vwCl [(da, .inr (13, [.int 0, .int k3qd_tape, .int d_size, .int d_place, .int d_at, .int d_fault, .int d_faultAt, .int d_clauses, .ref da_fed, .ref da_readBody, .ref da_body, .ref da_readMany, .ref da_many, .ref da_without, .ref da_did, .ref da_done, .ref da_bed, .int d_now, .int d_mindAt, .int d_way, .int d_harm, .int d_worth, .int d_passes, .int d_passings, .int d_spots, .int d_images, .ref da_passing, .ref da_spot, .ref da_kept, .ref da_aside, .int d_spare, .ref da_ran, .ref da_who, .ref da_cap, .ref da_w, .ref da_laid, .int d_whoMany, .int d_drifted, .int d_seed, .ref da_cries, .ref da_holds, .ref da_came, .ref da_least, .ref da_firstTo, .int d_steps, .int d_roundFrom, .int d_roundMany, .int d_numberAt])), (da_fed, .inl (cy 0, 500, .inl f30q))] H := hP
                have hD : va_D A [(da, .inr (13, [.int 0, .int k3qd_tape, .int d_size, .int d_place, .int d_at, .int d_fault, .int d_faultAt, .int d_clauses, .ref da_fed, .ref da_readBody, .ref da_body, .ref da_readMany, .ref da_many, .ref da_without, .ref da_did, .ref da_done, .ref da_bed, .int d_now, .int d_mindAt, .int d_way, .int d_harm, .int d_worth, .int d_passes, .int d_passings, .int d_spots, .int d_images, .ref da_passing, .ref da_spot, .ref da_kept, .ref da_aside, .int d_spare, .ref da_ran, .ref da_who, .ref da_cap, .ref da_w, .ref da_laid, .int d_whoMany, .int d_drifted, .int d_seed, .ref da_cries, .ref da_holds, .ref da_came, .ref da_least, .ref da_firstTo, .int d_steps, .int d_roundFrom, .int d_roundMany, .int d_numberAt])), (da_fed, .inl (cy 0, 500, .inl f30q))] := hD
                refine lv_aload_n hx hb dX12_feed_104 rfl (lv_at hl 2 rfl) ?_
                refine lv_dup hx hb dX12_feed_105 rfl ?_
                refine va_get (D := D) (ci := 13) (v := .int k3qd_tape) (C := RX12) (T := TX12) (N := 48) hx hb hts kin_RX12 hown hG.1 hP 0 rfl rfl 1 (by decide) (hts _ wm_1520) (fun _ h9 => h9) rfl dX12_feed_106 ?_
                refine lv_iconst (v := 1) hx hb dX12_feed_109 (by decide) ?_
                refine lv_iadd hx hb dX12_feed_110 ?_
                refine lv_topi (fun x31q ex31q => ?_)
                have rx31q := n_add ex31q (a := k3qd_tape.toInt) (b := 1) rfl n_L1 (by omega) (by omega)
                refine va_put (D := D) (ci := 13) (v := .int x31q) (ty := .int) (C := RX12) (T := TX12) (N := 48) hx hb hts kin_RX12 tyX12 tyX12_ok nmX12 hown hG.1 hP hD hS 0 rfl rfl 1 (by decide) (hts _ wm_1520) (fun _ h9 => h9) rfl (by decide +kernel) rfl rfl (Nat.le_of_ble_eq_true rfl) dX12_feed_111 (fun H locs hP hD hS => ?_)
                have hP : va_P D vwCl [(da, .inr (13, [.int 0, .int x31q, .int d_size, .int d_place, .int d_at, .int d_fault, .int d_faultAt, .int d_clauses, .ref da_fed, .ref da_readBody, .ref da_body, .ref da_readMany, .ref da_many, .ref da_without, .ref da_did, .ref da_done, .ref da_bed, .int d_now, .int d_mindAt, .int d_way, .int d_harm, .int d_worth, .int d_passes, .int d_passings, .int d_spots, .int d_images, .ref da_passing, .ref da_spot, .ref da_kept, .ref da_aside, .int d_spare, .ref da_ran, .ref da_who, .ref da_cap, .ref da_w, .ref da_laid, .int d_whoMany, .int d_drifted, .int d_seed, .ref da_cries, .ref da_holds, .ref da_came, .ref da_least, .ref da_firstTo, .int d_steps, .int d_roundFrom, .int d_roundMany, .int d_numberAt])), (da_fed, .inl (cy 0, 500, .inl f30q))] H := hP
                have hD : va_D A [(da, .inr (13, [.int 0, .int x31q, .int d_size, .int d_place, .int d_at, .int d_fault, .int d_faultAt, .int d_clauses, .ref da_fed, .ref da_readBody, .ref da_body, .ref da_readMany, .ref da_many, .ref da_without, .ref da_did, .ref da_done, .ref da_bed, .int d_now, .int d_mindAt, .int d_way, .int d_harm, .int d_worth, .int d_passes, .int d_passings, .int d_spots, .int d_images, .ref da_passing, .ref da_spot, .ref da_kept, .ref da_aside, .int d_spare, .ref da_ran, .ref da_who, .ref da_cap, .ref da_w, .ref da_laid, .int d_whoMany, .int d_drifted, .int d_seed, .ref da_cries, .ref da_holds, .ref da_came, .ref da_least, .ref da_firstTo, .int d_steps, .int d_roundFrom, .int d_roundMany, .int d_numberAt])), (da_fed, .inl (cy 0, 500, .inl f30q))] := hD
                obtain ⟨x32q, ex32q⟩ : ∃ z : Int32, z = k3qy6 + 1 := ⟨_, rfl⟩
                refine lv_iinc (v := x32q) (lv' := [(6, .int x32q), (7, .int a2), (0, .ref da), (1, .int a0), (2, .int a1), (3, .int a2), (4, .int a3), (5, .int a4)]) hx hb dX12_feed_114 hl (k := 1) rfl (by rw [ex32q]; rfl) (by decide) rfl (fun ls hl => ?_)
                have rx32q := n_add ex32q (a := k3qy6.toInt) (b := 1) rfl n_L1 (by omega) (by omega)
                refine lv_goto (tgt := 23) hx hb dX12_feed_117 (by decide) ?_
                exact k3qih ((20 - x32q.toInt).toNat) (by omega) x32q x31q f30q H locs ls ⟨by omega, by omega⟩ ⟨by omega, by omega⟩ hf30q (show x31q.toInt + 20 - x32q.toInt ≤ 500 by omega) rfl hP hD hS (lv_sub hl [0, 2, 3, 4, 5, 6, 7] rfl)
            · simp only [k_lt, k_le, k_eq, ne_eq, ge_iff_le, gt_iff_lt, n_L8] at c6q
              refine lv_iload_n hx hb dX12_feed_47 rfl (lv_at hl 3 rfl) ?_
              refine lv_goto (tgt := 76) hx hb dX12_feed_48 (by decide) ?_
              refine lv_istore (lv' := [(7, .int a1), (6, .int k3qy6), (0, .ref da), (1, .int a0), (2, .int a1), (3, .int a2), (4, .int a3), (5, .int a4)]) hx hb dX12_feed_76 hl (by decide) rfl (fun ls hl => ?_)
              refine lv_aload_n hx hb dX12_feed_78 rfl (lv_at hl 2 rfl) ?_
              refine va_get (D := D) (ci := 13) (v := .ref da_fed) (C := RX12) (T := TX12) (N := 48) hx hb hts kin_RX12 hown hG.1 hP 0 rfl rfl 8 (by decide) (hts _ wm_1527) (fun _ h9 => h9) rfl dX12_feed_79 ?_
              refine lv_aload_n hx hb dX12_feed_82 rfl (lv_at hl 2 rfl) ?_
              refine va_get (D := D) (ci := 13) (v := .int k3qd_tape) (C := RX12) (T := TX12) (N := 48) hx hb hts kin_RX12 hown hG.1 hP 0 rfl rfl 1 (by decide) (hts _ wm_1520) (fun _ h9 => h9) rfl dX12_feed_83 ?_
              refine lv_iload hx hb dX12_feed_86 (lv_at hl 0 rfl) ?_
              refine lv_bipush (v := 24) hx hb dX12_feed_88 (by decide) ?_
              refine lv_bipush (v := 8) hx hb dX12_feed_90 (by decide) ?_
              refine lv_iload hx hb dX12_feed_92 (lv_at hl 1 rfl) ?_
              refine lv_iconst (v := 4) hx hb dX12_feed_94 (by decide) ?_
              refine lv_irem hx hb dX12_feed_95 (by decide) ?_
              refine lv_topi (fun x33q ex33q => ?_)
              have rx33q := n_mod ex33q (a := k3qy6.toInt) (b := 4) rfl n_L4 (by omega) (by omega)
              refine lv_imul hx hb dX12_feed_96 ?_
              refine lv_topi (fun x34q ex34q => ?_)
              have rx34q := n_mul ex34q (a := 8) (b := x33q.toInt) n_L8 rfl (by omega) (by omega)
              refine lv_isub hx hb dX12_feed_97 ?_
              refine lv_topi (fun x35q ex35q => ?_)
              have rx35q := n_sub ex35q (a := 24) (b := x34q.toInt) n_L24 rfl (by omega) (by omega)
              refine lv_ishr hx hb dX12_feed_98 ?_
              refine lv_topi (fun x36q ex36q => ?_)
              refine lv_sipush (v := 255) hx hb dX12_feed_99 (by decide) ?_
              refine lv_iand hx hb dX12_feed_102 ?_
              refine lv_topi (fun x37q ex37q => ?_)
              have rx37q := n_and ex37q (b := 255) n_L255 (by omega)
              refine va_iast hx hb hG.1 hP hD hS 1 0 rfl rfl (n_in (by omega) (by omega)) dX12_feed_103 (fun H locs hP hD hS => ?_)
              have hP : va_P D vwCl [(da, .inr (13, [.int 0, .int k3qd_tape, .int d_size, .int d_place, .int d_at, .int d_fault, .int d_faultAt, .int d_clauses, .ref da_fed, .ref da_readBody, .ref da_body, .ref da_readMany, .ref da_many, .ref da_without, .ref da_did, .ref da_done, .ref da_bed, .int d_now, .int d_mindAt, .int d_way, .int d_harm, .int d_worth, .int d_passes, .int d_passings, .int d_spots, .int d_images, .ref da_passing, .ref da_spot, .ref da_kept, .ref da_aside, .int d_spare, .ref da_ran, .ref da_who, .ref da_cap, .ref da_w, .ref da_laid, .int d_whoMany, .int d_drifted, .int d_seed, .ref da_cries, .ref da_holds, .ref da_came, .ref da_least, .ref da_firstTo, .int d_steps, .int d_roundFrom, .int d_roundMany, .int d_numberAt])), (da_fed, .inl (cy 0, 500, .inl (upd (k3qdf_fed) (k3qd_tape : Int32).toNatClampNeg x37q)))] H := hP
              have hD : va_D A [(da, .inr (13, [.int 0, .int k3qd_tape, .int d_size, .int d_place, .int d_at, .int d_fault, .int d_faultAt, .int d_clauses, .ref da_fed, .ref da_readBody, .ref da_body, .ref da_readMany, .ref da_many, .ref da_without, .ref da_did, .ref da_done, .ref da_bed, .int d_now, .int d_mindAt, .int d_way, .int d_harm, .int d_worth, .int d_passes, .int d_passings, .int d_spots, .int d_images, .ref da_passing, .ref da_spot, .ref da_kept, .ref da_aside, .int d_spare, .ref da_ran, .ref da_who, .ref da_cap, .ref da_w, .ref da_laid, .int d_whoMany, .int d_drifted, .int d_seed, .ref da_cries, .ref da_holds, .ref da_came, .ref da_least, .ref da_firstTo, .int d_steps, .int d_roundFrom, .int d_roundMany, .int d_numberAt])), (da_fed, .inl (cy 0, 500, .inl (upd (k3qdf_fed) (k3qd_tape : Int32).toNatClampNeg x37q)))] := hD
              have hf38q : rowR 500 0 (255) (upd (k3qdf_fed) (k3qd_tape : Int32).toNatClampNeg x37q) := rowR_upd hk3qdf_fed (by omega) (by omega)
              generalize upd (k3qdf_fed) (k3qd_tape : Int32).toNatClampNeg x37q = f38q at hP hD hf38q
              have hP : va_P D vwCl [(da, .inr (13, [.int 0, .int k3qd_tape, .int d_size, .int d_place, .int d_at, .int d_fault, .int d_faultAt, .int d_clauses, .ref da_fed, .ref da_readBody, .ref da_body, .ref da_readMany, .ref da_many, .ref da_without, .ref da_did, .ref da_done, .ref da_bed, .int d_now, .int d_mindAt, .int d_way, .int d_harm, .int d_worth, .int d_passes, .int d_passings, .int d_spots, .int d_images, .ref da_passing, .ref da_spot, .ref da_kept, .ref da_aside, .int d_spare, .ref da_ran, .ref da_who, .ref da_cap, .ref da_w, .ref da_laid, .int d_whoMany, .int d_drifted, .int d_seed, .ref da_cries, .ref da_holds, .ref da_came, .ref da_least, .ref da_firstTo, .int d_steps, .int d_roundFrom, .int d_roundMany, .int d_numberAt])), (da_fed, .inl (cy 0, 500, .inl f38q))] H := hP
              have hD : va_D A [(da, .inr (13, [.int 0, .int k3qd_tape, .int d_size, .int d_place, .int d_at, .int d_fault, .int d_faultAt, .int d_clauses, .ref da_fed, .ref da_readBody, .ref da_body, .ref da_readMany, .ref da_many, .ref da_without, .ref da_did, .ref da_done, .ref da_bed, .int d_now, .int d_mindAt, .int d_way, .int d_harm, .int d_worth, .int d_passes, .int d_passings, .int d_spots, .int d_images, .ref da_passing, .ref da_spot, .ref da_kept, .ref da_aside, .int d_spare, .ref da_ran, .ref da_who, .ref da_cap, .ref da_w, .ref da_laid, .int d_whoMany, .int d_drifted, .int d_seed, .ref da_cries, .ref da_holds, .ref da_came, .ref da_least, .ref da_firstTo, .int d_steps, .int d_roundFrom, .int d_roundMany, .int d_numberAt])), (da_fed, .inl (cy 0, 500, .inl f38q))] := hD
              refine lv_aload_n hx hb dX12_feed_104 rfl (lv_at hl 2 rfl) ?_
              refine lv_dup hx hb dX12_feed_105 rfl ?_
              refine va_get (D := D) (ci := 13) (v := .int k3qd_tape) (C := RX12) (T := TX12) (N := 48) hx hb hts kin_RX12 hown hG.1 hP 0 rfl rfl 1 (by decide) (hts _ wm_1520) (fun _ h9 => h9) rfl dX12_feed_106 ?_
              refine lv_iconst (v := 1) hx hb dX12_feed_109 (by decide) ?_
              refine lv_iadd hx hb dX12_feed_110 ?_
              refine lv_topi (fun x39q ex39q => ?_)
              have rx39q := n_add ex39q (a := k3qd_tape.toInt) (b := 1) rfl n_L1 (by omega) (by omega)
              refine va_put (D := D) (ci := 13) (v := .int x39q) (ty := .int) (C := RX12) (T := TX12) (N := 48) hx hb hts kin_RX12 tyX12 tyX12_ok nmX12 hown hG.1 hP hD hS 0 rfl rfl 1 (by decide) (hts _ wm_1520) (fun _ h9 => h9) rfl (by decide +kernel) rfl rfl (Nat.le_of_ble_eq_true rfl) dX12_feed_111 (fun H locs hP hD hS => ?_)
              have hP : va_P D vwCl [(da, .inr (13, [.int 0, .int x39q, .int d_size, .int d_place, .int d_at, .int d_fault, .int d_faultAt, .int d_clauses, .ref da_fed, .ref da_readBody, .ref da_body, .ref da_readMany, .ref da_many, .ref da_without, .ref da_did, .ref da_done, .ref da_bed, .int d_now, .int d_mindAt, .int d_way, .int d_harm, .int d_worth, .int d_passes, .int d_passings, .int d_spots, .int d_images, .ref da_passing, .ref da_spot, .ref da_kept, .ref da_aside, .int d_spare, .ref da_ran, .ref da_who, .ref da_cap, .ref da_w, .ref da_laid, .int d_whoMany, .int d_drifted, .int d_seed, .ref da_cries, .ref da_holds, .ref da_came, .ref da_least, .ref da_firstTo, .int d_steps, .int d_roundFrom, .int d_roundMany, .int d_numberAt])), (da_fed, .inl (cy 0, 500, .inl f38q))] H := hP
              have hD : va_D A [(da, .inr (13, [.int 0, .int x39q, .int d_size, .int d_place, .int d_at, .int d_fault, .int d_faultAt, .int d_clauses, .ref da_fed, .ref da_readBody, .ref da_body, .ref da_readMany, .ref da_many, .ref da_without, .ref da_did, .ref da_done, .ref da_bed, .int d_now, .int d_mindAt, .int d_way, .int d_harm, .int d_worth, .int d_passes, .int d_passings, .int d_spots, .int d_images, .ref da_passing, .ref da_spot, .ref da_kept, .ref da_aside, .int d_spare, .ref da_ran, .ref da_who, .ref da_cap, .ref da_w, .ref da_laid, .int d_whoMany, .int d_drifted, .int d_seed, .ref da_cries, .ref da_holds, .ref da_came, .ref da_least, .ref da_firstTo, .int d_steps, .int d_roundFrom, .int d_roundMany, .int d_numberAt])), (da_fed, .inl (cy 0, 500, .inl f38q))] := hD
              obtain ⟨x40q, ex40q⟩ : ∃ z : Int32, z = k3qy6 + 1 := ⟨_, rfl⟩
              refine lv_iinc (v := x40q) (lv' := [(6, .int x40q), (7, .int a1), (0, .ref da), (1, .int a0), (2, .int a1), (3, .int a2), (4, .int a3), (5, .int a4)]) hx hb dX12_feed_114 hl (k := 1) rfl (by rw [ex40q]; rfl) (by decide) rfl (fun ls hl => ?_)
              have rx40q := n_add ex40q (a := k3qy6.toInt) (b := 1) rfl n_L1 (by omega) (by omega)
              refine lv_goto (tgt := 23) hx hb dX12_feed_117 (by decide) ?_
              exact k3qih ((20 - x40q.toInt).toNat) (by omega) x40q x39q f38q H locs ls ⟨by omega, by omega⟩ ⟨by omega, by omega⟩ hf38q (show x39q.toInt + 20 - x40q.toInt ≤ 500 by omega) rfl hP hD hS (lv_sub hl [0, 2, 3, 4, 5, 6, 7] rfl)
          · simp only [k_lt, k_le, k_eq, ne_eq, ge_iff_le, gt_iff_lt, n_L4] at c5q
            refine lv_iload_n hx hb dX12_feed_36 rfl (lv_at hl 2 rfl) ?_
            refine lv_goto (tgt := 76) hx hb dX12_feed_37 (by decide) ?_
            refine lv_istore (lv' := [(7, .int a0), (6, .int k3qy6), (0, .ref da), (1, .int a0), (2, .int a1), (3, .int a2), (4, .int a3), (5, .int a4)]) hx hb dX12_feed_76 hl (by decide) rfl (fun ls hl => ?_)
            refine lv_aload_n hx hb dX12_feed_78 rfl (lv_at hl 2 rfl) ?_
            refine va_get (D := D) (ci := 13) (v := .ref da_fed) (C := RX12) (T := TX12) (N := 48) hx hb hts kin_RX12 hown hG.1 hP 0 rfl rfl 8 (by decide) (hts _ wm_1527) (fun _ h9 => h9) rfl dX12_feed_79 ?_
            refine lv_aload_n hx hb dX12_feed_82 rfl (lv_at hl 2 rfl) ?_
            refine va_get (D := D) (ci := 13) (v := .int k3qd_tape) (C := RX12) (T := TX12) (N := 48) hx hb hts kin_RX12 hown hG.1 hP 0 rfl rfl 1 (by decide) (hts _ wm_1520) (fun _ h9 => h9) rfl dX12_feed_83 ?_
            refine lv_iload hx hb dX12_feed_86 (lv_at hl 0 rfl) ?_
            refine lv_bipush (v := 24) hx hb dX12_feed_88 (by decide) ?_
            refine lv_bipush (v := 8) hx hb dX12_feed_90 (by decide) ?_
            refine lv_iload hx hb dX12_feed_92 (lv_at hl 1 rfl) ?_
            refine lv_iconst (v := 4) hx hb dX12_feed_94 (by decide) ?_
            refine lv_irem hx hb dX12_feed_95 (by decide) ?_
            refine lv_topi (fun x41q ex41q => ?_)
            have rx41q := n_mod ex41q (a := k3qy6.toInt) (b := 4) rfl n_L4 (by omega) (by omega)
            refine lv_imul hx hb dX12_feed_96 ?_
            refine lv_topi (fun x42q ex42q => ?_)
            have rx42q := n_mul ex42q (a := 8) (b := x41q.toInt) n_L8 rfl (by omega) (by omega)
            refine lv_isub hx hb dX12_feed_97 ?_
            refine lv_topi (fun x43q ex43q => ?_)
            have rx43q := n_sub ex43q (a := 24) (b := x42q.toInt) n_L24 rfl (by omega) (by omega)
            refine lv_ishr hx hb dX12_feed_98 ?_
            refine lv_topi (fun x44q ex44q => ?_)
            refine lv_sipush (v := 255) hx hb dX12_feed_99 (by decide) ?_
            refine lv_iand hx hb dX12_feed_102 ?_
            refine lv_topi (fun x45q ex45q => ?_)
            have rx45q := n_and ex45q (b := 255) n_L255 (by omega)
            refine va_iast hx hb hG.1 hP hD hS 1 0 rfl rfl (n_in (by omega) (by omega)) dX12_feed_103 (fun H locs hP hD hS => ?_)
            have hP : va_P D vwCl [(da, .inr (13, [.int 0, .int k3qd_tape, .int d_size, .int d_place, .int d_at, .int d_fault, .int d_faultAt, .int d_clauses, .ref da_fed, .ref da_readBody, .ref da_body, .ref da_readMany, .ref da_many, .ref da_without, .ref da_did, .ref da_done, .ref da_bed, .int d_now, .int d_mindAt, .int d_way, .int d_harm, .int d_worth, .int d_passes, .int d_passings, .int d_spots, .int d_images, .ref da_passing, .ref da_spot, .ref da_kept, .ref da_aside, .int d_spare, .ref da_ran, .ref da_who, .ref da_cap, .ref da_w, .ref da_laid, .int d_whoMany, .int d_drifted, .int d_seed, .ref da_cries, .ref da_holds, .ref da_came, .ref da_least, .ref da_firstTo, .int d_steps, .int d_roundFrom, .int d_roundMany, .int d_numberAt])), (da_fed, .inl (cy 0, 500, .inl (upd (k3qdf_fed) (k3qd_tape : Int32).toNatClampNeg x45q)))] H := hP
            have hD : va_D A [(da, .inr (13, [.int 0, .int k3qd_tape, .int d_size, .int d_place, .int d_at, .int d_fault, .int d_faultAt, .int d_clauses, .ref da_fed, .ref da_readBody, .ref da_body, .ref da_readMany, .ref da_many, .ref da_without, .ref da_did, .ref da_done, .ref da_bed, .int d_now, .int d_mindAt, .int d_way, .int d_harm, .int d_worth, .int d_passes, .int d_passings, .int d_spots, .int d_images, .ref da_passing, .ref da_spot, .ref da_kept, .ref da_aside, .int d_spare, .ref da_ran, .ref da_who, .ref da_cap, .ref da_w, .ref da_laid, .int d_whoMany, .int d_drifted, .int d_seed, .ref da_cries, .ref da_holds, .ref da_came, .ref da_least, .ref da_firstTo, .int d_steps, .int d_roundFrom, .int d_roundMany, .int d_numberAt])), (da_fed, .inl (cy 0, 500, .inl (upd (k3qdf_fed) (k3qd_tape : Int32).toNatClampNeg x45q)))] := hD
            have hf46q : rowR 500 0 (255) (upd (k3qdf_fed) (k3qd_tape : Int32).toNatClampNeg x45q) := rowR_upd hk3qdf_fed (by omega) (by omega)
            generalize upd (k3qdf_fed) (k3qd_tape : Int32).toNatClampNeg x45q = f46q at hP hD hf46q
            have hP : va_P D vwCl [(da, .inr (13, [.int 0, .int k3qd_tape, .int d_size, .int d_place, .int d_at, .int d_fault, .int d_faultAt, .int d_clauses, .ref da_fed, .ref da_readBody, .ref da_body, .ref da_readMany, .ref da_many, .ref da_without, .ref da_did, .ref da_done, .ref da_bed, .int d_now, .int d_mindAt, .int d_way, .int d_harm, .int d_worth, .int d_passes, .int d_passings, .int d_spots, .int d_images, .ref da_passing, .ref da_spot, .ref da_kept, .ref da_aside, .int d_spare, .ref da_ran, .ref da_who, .ref da_cap, .ref da_w, .ref da_laid, .int d_whoMany, .int d_drifted, .int d_seed, .ref da_cries, .ref da_holds, .ref da_came, .ref da_least, .ref da_firstTo, .int d_steps, .int d_roundFrom, .int d_roundMany, .int d_numberAt])), (da_fed, .inl (cy 0, 500, .inl f46q))] H := hP
            have hD : va_D A [(da, .inr (13, [.int 0, .int k3qd_tape, .int d_size, .int d_place, .int d_at, .int d_fault, .int d_faultAt, .int d_clauses, .ref da_fed, .ref da_readBody, .ref da_body, .ref da_readMany, .ref da_many, .ref da_without, .ref da_did, .ref da_done, .ref da_bed, .int d_now, .int d_mindAt, .int d_way, .int d_harm, .int d_worth, .int d_passes, .int d_passings, .int d_spots, .int d_images, .ref da_passing, .ref da_spot, .ref da_kept, .ref da_aside, .int d_spare, .ref da_ran, .ref da_who, .ref da_cap, .ref da_w, .ref da_laid, .int d_whoMany, .int d_drifted, .int d_seed, .ref da_cries, .ref da_holds, .ref da_came, .ref da_least, .ref da_firstTo, .int d_steps, .int d_roundFrom, .int d_roundMany, .int d_numberAt])), (da_fed, .inl (cy 0, 500, .inl f46q))] := hD
            refine lv_aload_n hx hb dX12_feed_104 rfl (lv_at hl 2 rfl) ?_
            refine lv_dup hx hb dX12_feed_105 rfl ?_
            refine va_get (D := D) (ci := 13) (v := .int k3qd_tape) (C := RX12) (T := TX12) (N := 48) hx hb hts kin_RX12 hown hG.1 hP 0 rfl rfl 1 (by decide) (hts _ wm_1520) (fun _ h9 => h9) rfl dX12_feed_106 ?_
            refine lv_iconst (v := 1) hx hb dX12_feed_109 (by decide) ?_
            refine lv_iadd hx hb dX12_feed_110 ?_
            refine lv_topi (fun x47q ex47q => ?_)
            have rx47q := n_add ex47q (a := k3qd_tape.toInt) (b := 1) rfl n_L1 (by omega) (by omega)
            refine va_put (D := D) (ci := 13) (v := .int x47q) (ty := .int) (C := RX12) (T := TX12) (N := 48) hx hb hts kin_RX12 tyX12 tyX12_ok nmX12 hown hG.1 hP hD hS 0 rfl rfl 1 (by decide) (hts _ wm_1520) (fun _ h9 => h9) rfl (by decide +kernel) rfl rfl (Nat.le_of_ble_eq_true rfl) dX12_feed_111 (fun H locs hP hD hS => ?_)
            have hP : va_P D vwCl [(da, .inr (13, [.int 0, .int x47q, .int d_size, .int d_place, .int d_at, .int d_fault, .int d_faultAt, .int d_clauses, .ref da_fed, .ref da_readBody, .ref da_body, .ref da_readMany, .ref da_many, .ref da_without, .ref da_did, .ref da_done, .ref da_bed, .int d_now, .int d_mindAt, .int d_way, .int d_harm, .int d_worth, .int d_passes, .int d_passings, .int d_spots, .int d_images, .ref da_passing, .ref da_spot, .ref da_kept, .ref da_aside, .int d_spare, .ref da_ran, .ref da_who, .ref da_cap, .ref da_w, .ref da_laid, .int d_whoMany, .int d_drifted, .int d_seed, .ref da_cries, .ref da_holds, .ref da_came, .ref da_least, .ref da_firstTo, .int d_steps, .int d_roundFrom, .int d_roundMany, .int d_numberAt])), (da_fed, .inl (cy 0, 500, .inl f46q))] H := hP
            have hD : va_D A [(da, .inr (13, [.int 0, .int x47q, .int d_size, .int d_place, .int d_at, .int d_fault, .int d_faultAt, .int d_clauses, .ref da_fed, .ref da_readBody, .ref da_body, .ref da_readMany, .ref da_many, .ref da_without, .ref da_did, .ref da_done, .ref da_bed, .int d_now, .int d_mindAt, .int d_way, .int d_harm, .int d_worth, .int d_passes, .int d_passings, .int d_spots, .int d_images, .ref da_passing, .ref da_spot, .ref da_kept, .ref da_aside, .int d_spare, .ref da_ran, .ref da_who, .ref da_cap, .ref da_w, .ref da_laid, .int d_whoMany, .int d_drifted, .int d_seed, .ref da_cries, .ref da_holds, .ref da_came, .ref da_least, .ref da_firstTo, .int d_steps, .int d_roundFrom, .int d_roundMany, .int d_numberAt])), (da_fed, .inl (cy 0, 500, .inl f46q))] := hD
            obtain ⟨x48q, ex48q⟩ : ∃ z : Int32, z = k3qy6 + 1 := ⟨_, rfl⟩
            refine lv_iinc (v := x48q) (lv' := [(6, .int x48q), (7, .int a0), (0, .ref da), (1, .int a0), (2, .int a1), (3, .int a2), (4, .int a3), (5, .int a4)]) hx hb dX12_feed_114 hl (k := 1) rfl (by rw [ex48q]; rfl) (by decide) rfl (fun ls hl => ?_)
            have rx48q := n_add ex48q (a := k3qy6.toInt) (b := 1) rfl n_L1 (by omega) (by omega)
            refine lv_goto (tgt := 23) hx hb dX12_feed_117 (by decide) ?_
            exact k3qih ((20 - x48q.toInt).toNat) (by omega) x48q x47q f46q H locs ls ⟨by omega, by omega⟩ ⟨by omega, by omega⟩ hf46q (show x47q.toInt + 20 - x48q.toInt ≤ 500 by omega) rfl hP hD hS (lv_sub hl [0, 2, 3, 4, 5, 6, 7] rfl)
    exact k3q _ 0 d_tape df_fed H locs ls ⟨by rw [n_L0]; omega, by rw [n_L0]; omega⟩ ⟨by first | omega | (simp only [n_L0]; omega) | (simp only [n_L0]; done) | decide, by first | omega | (simp only [n_L0]; omega) | (simp only [n_L0]; done) | decide⟩ h_df_fed (show d_tape.toInt + 20 - (0 : Int32).toInt ≤ 500 by first | omega | (simp only [n_L0]; omega) | (simp only [n_L0]; done) | decide) rfl hP hD hS (lv_sub hl [0, 1, 2, 3, 4, 5, 6] rfl)
  · simp only [k_lt, k_le, k_eq, ne_eq, ge_iff_le, gt_iff_lt, n_L500] at c2q
    refine lv_iconst (v := (-1)) hx hb dX12_feed_18 (by decide) ?_
    rw [hQ0]
    exact k_iret (fun k => [0, d_tape].getD k 0, fun k => [df_fed].getD k (fun _ => 0)) hx hb hr hlk (⟨(show 0 ≤ d_tape.toInt ∧ d_tape.toInt ≤ 500 from ⟨by first | omega | (simp only [n_L0]; omega) | (simp only [n_L0]; done) | decide, by first | omega | (simp only [n_L0]; omega) | (simp only [n_L0]; done) | decide⟩), (show rowR 500 0 (255) df_fed from h_df_fed)⟩) (hP.sub [0, 1] rfl) (hD.sub [0, 1] (by decide) rfl) hS (by decide) (by decide) dX12_feed_19

set_option maxHeartbeats 4000000 in
set_option maxRecDepth 100000 in
/-- the reference: byteAt -/
theorem m_byteAt (l : Launch) (hl0 : l.stackTraces = false) (D : va_G) (cy : Nat → ClassId) (sa : Nat → Nat) (da da_fed da_readBody da_body da_readMany da_many da_without da_did da_done da_bed da_passing da_spot da_kept da_aside da_ran da_who da_cap da_w da_laid da_cries da_holds da_came da_least da_firstTo : Nat) (d_thrown d_tape d_size d_place d_at d_fault d_faultAt d_clauses d_now d_mindAt d_way d_harm d_worth d_passes d_passings d_spots d_images d_spare d_whoMany d_drifted d_seed d_steps d_roundFrom d_roundMany d_numberAt k0 : Int32) (df_fed : Nat → Int32) (h_d_tape : 0 ≤ d_tape.toInt ∧ d_tape.toInt ≤ 500) (h_d_size : 0 ≤ d_size.toInt ∧ d_size.toInt ≤ 500) (h_d_at : 0 ≤ d_at.toInt ∧ d_at.toInt ≤ 500) (h_d_clauses : 0 ≤ d_clauses.toInt ∧ d_clauses.toInt ≤ 40) (h_d_now : 0 ≤ d_now.toInt ∧ d_now.toInt ≤ 480) (h_d_mindAt : 0 ≤ d_mindAt.toInt ∧ d_mindAt.toInt ≤ 8) (h_d_passings : 0 ≤ d_passings.toInt ∧ d_passings.toInt ≤ 30) (h_d_spots : 0 ≤ d_spots.toInt ∧ d_spots.toInt ≤ 6) (h_d_images : 0 ≤ d_images.toInt ∧ d_images.toInt ≤ 3) (h_d_whoMany : 0 ≤ d_whoMany.toInt ∧ d_whoMany.toInt ≤ 4) (h_df_fed : rowR 500 0 (255) df_fed) (h_k0 : 0 ≤ k0.toInt ∧ k0.toInt ≤ 2000) (sz : Nat) : Met l yX12_byteAt (Cond.code yX12_byteAt cX12_byteAt 2 (some .int) :: kWS) ({ frames := 10, cells := 0, slots := 0, locals := 300 }) (kPre D cy sa [.ref da, .int k0] [(da, .inr (13, [.int d_thrown, .int d_tape, .int d_size, .int d_place, .int d_at, .int d_fault, .int d_faultAt, .int d_clauses, .ref da_fed, .ref da_readBody, .ref da_body, .ref da_readMany, .ref da_many, .ref da_without, .ref da_did, .ref da_done, .ref da_bed, .int d_now, .int d_mindAt, .int d_way, .int d_harm, .int d_worth, .int d_passes, .int d_passings, .int d_spots, .int d_images, .ref da_passing, .ref da_spot, .ref da_kept, .ref da_aside, .int d_spare, .ref da_ran, .ref da_who, .ref da_cap, .ref da_w, .ref da_laid, .int d_whoMany, .int d_drifted, .int d_seed, .ref da_cries, .ref da_holds, .ref da_came, .ref da_least, .ref da_firstTo, .int d_steps, .int d_roundFrom, .int d_roundMany, .int d_numberAt])), (da_fed, .inl (cy 0, 500, .inl df_fed))] sz) (va_Qi (fun (r : Int32) (u : Unit) => (-1 ≤ r.toInt ∧ r.toInt ≤ 255 ∧ (r.toInt = -1 ∨ k0.toInt < d_size.toInt))) (kB D (va_A [(da, .inr (13, [.int d_thrown, .int d_tape, .int d_size, .int d_place, .int d_at, .int d_fault, .int d_faultAt, .int d_clauses, .ref da_fed, .ref da_readBody, .ref da_body, .ref da_readMany, .ref da_many, .ref da_without, .ref da_did, .ref da_done, .ref da_bed, .int d_now, .int d_mindAt, .int d_way, .int d_harm, .int d_worth, .int d_passes, .int d_passings, .int d_spots, .int d_images, .ref da_passing, .ref da_spot, .ref da_kept, .ref da_aside, .int d_spare, .ref da_ran, .ref da_who, .ref da_cap, .ref da_w, .ref da_laid, .int d_whoMany, .int d_drifted, .int d_seed, .ref da_cries, .ref da_holds, .ref da_came, .ref da_least, .ref da_firstTo, .int d_steps, .int d_roundFrom, .int d_roundMany, .int d_numberAt])), (da_fed, .inl (cy 0, 500, .inl df_fed))] sz) (fun (u : Unit) => [(da, .inr (13, [.int d_thrown, .int d_tape, .int d_size, .int d_place, .int d_at, .int d_fault, .int d_faultAt, .int d_clauses, .ref da_fed, .ref da_readBody, .ref da_body, .ref da_readMany, .ref da_many, .ref da_without, .ref da_did, .ref da_done, .ref da_bed, .int d_now, .int d_mindAt, .int d_way, .int d_harm, .int d_worth, .int d_passes, .int d_passings, .int d_spots, .int d_images, .ref da_passing, .ref da_spot, .ref da_kept, .ref da_aside, .int d_spare, .ref da_ran, .ref da_who, .ref da_cap, .ref da_w, .ref da_laid, .int d_whoMany, .int d_drifted, .int d_seed, .ref da_cries, .ref da_holds, .ref da_came, .ref da_least, .ref da_firstTo, .int d_steps, .int d_roundFrom, .int d_roundMany, .int d_numberAt])), (da_fed, .inl (cy 0, 500, .inl df_fed))])) (va_A [(da, .inr (13, [.int d_thrown, .int d_tape, .int d_size, .int d_place, .int d_at, .int d_fault, .int d_faultAt, .int d_clauses, .ref da_fed, .ref da_readBody, .ref da_body, .ref da_readMany, .ref da_many, .ref da_without, .ref da_did, .ref da_done, .ref da_bed, .int d_now, .int d_mindAt, .int d_way, .int d_harm, .int d_worth, .int d_passes, .int d_passings, .int d_spots, .int d_images, .ref da_passing, .ref da_spot, .ref da_kept, .ref da_aside, .int d_spare, .ref da_ran, .ref da_who, .ref da_cap, .ref da_w, .ref da_laid, .int d_whoMany, .int d_drifted, .int d_seed, .ref da_cries, .ref da_holds, .ref da_came, .ref da_least, .ref da_firstTo, .int d_steps, .int d_roundFrom, .int d_roundMany, .int d_numberAt])), (da_fed, .inl (cy 0, 500, .inl df_fed))] sz)) 0 0 (va_A [(da, .inr (13, [.int d_thrown, .int d_tape, .int d_size, .int d_place, .int d_at, .int d_fault, .int d_faultAt, .int d_clauses, .ref da_fed, .ref da_readBody, .ref da_body, .ref da_readMany, .ref da_many, .ref da_without, .ref da_did, .ref da_done, .ref da_bed, .int d_now, .int d_mindAt, .int d_way, .int d_harm, .int d_worth, .int d_passes, .int d_passings, .int d_spots, .int d_images, .ref da_passing, .ref da_spot, .ref da_kept, .ref da_aside, .int d_spare, .ref da_ran, .ref da_who, .ref da_cap, .ref da_w, .ref da_laid, .int d_whoMany, .int d_drifted, .int d_seed, .ref da_cries, .ref da_holds, .ref da_came, .ref da_least, .ref da_firstTo, .int d_steps, .int d_roundFrom, .int d_roundMany, .int d_numberAt])), (da_fed, .inl (cy 0, 500, .inl df_fed))] sz) := by
  refine k_ofW (y := yX12_byteAt) (cc := cX12_byteAt) (maxL := 2) (ret := (some .int)) (av := [.ref da, .int k0]) (ws := [(da, .inr (13, [.int d_thrown, .int d_tape, .int d_size, .int d_place, .int d_at, .int d_fault, .int d_faultAt, .int d_clauses, .ref da_fed, .ref da_readBody, .ref da_body, .ref da_readMany, .ref da_many, .ref da_without, .ref da_did, .ref da_done, .ref da_bed, .int d_now, .int d_mindAt, .int d_way, .int d_harm, .int d_worth, .int d_passes, .int d_passings, .int d_spots, .int d_images, .ref da_passing, .ref da_spot, .ref da_kept, .ref da_aside, .int d_spare, .ref da_ran, .ref da_who, .ref da_cap, .ref da_w, .ref da_laid, .int d_whoMany, .int d_drifted, .int d_seed, .ref da_cries, .ref da_holds, .ref da_came, .ref da_least, .ref da_firstTo, .int d_steps, .int d_roundFrom, .int d_roundMany, .int d_numberAt])), (da_fed, .inl (cy 0, 500, .inl df_fed))]) (Qc := fun A => (va_Qi (fun (r : Int32) (u : Unit) => (-1 ≤ r.toInt ∧ r.toInt ≤ 255 ∧ (r.toInt = -1 ∨ k0.toInt < d_size.toInt))) (kB D A (fun (u : Unit) => [(da, .inr (13, [.int d_thrown, .int d_tape, .int d_size, .int d_place, .int d_at, .int d_fault, .int d_faultAt, .int d_clauses, .ref da_fed, .ref da_readBody, .ref da_body, .ref da_readMany, .ref da_many, .ref da_without, .ref da_did, .ref da_done, .ref da_bed, .int d_now, .int d_mindAt, .int d_way, .int d_harm, .int d_worth, .int d_passes, .int d_passings, .int d_spots, .int d_images, .ref da_passing, .ref da_spot, .ref da_kept, .ref da_aside, .int d_spare, .ref da_ran, .ref da_who, .ref da_cap, .ref da_w, .ref da_laid, .int d_whoMany, .int d_drifted, .int d_seed, .ref da_cries, .ref da_holds, .ref da_came, .ref da_least, .ref da_firstTo, .int d_steps, .int d_roundFrom, .int d_roundMany, .int d_numberAt])), (da_fed, .inl (cy 0, 500, .inl df_fed))])) A)) (by decide) (Nat.le_of_ble_eq_true rfl) ?_
  intro p e s m below meth c ls A E hA hP hD hG hS hl
  obtain ⟨Q0, hQ0⟩ : ∃ Q0 : State → Prop, Q0 = MQ below (va_Qi (fun (r : Int32) (u : Unit) => (-1 ≤ r.toInt ∧ r.toInt ≤ 255 ∧ (r.toInt = -1 ∨ k0.toInt < d_size.toInt))) (kB D A (fun (u : Unit) => [(da, .inr (13, [.int d_thrown, .int d_tape, .int d_size, .int d_place, .int d_at, .int d_fault, .int d_faultAt, .int d_clauses, .ref da_fed, .ref da_readBody, .ref da_body, .ref da_readMany, .ref da_many, .ref da_without, .ref da_did, .ref da_done, .ref da_bed, .int d_now, .int d_mindAt, .int d_way, .int d_harm, .int d_worth, .int d_passes, .int d_passings, .int d_spots, .int d_images, .ref da_passing, .ref da_spot, .ref da_kept, .ref da_aside, .int d_spare, .ref da_ran, .ref da_who, .ref da_cap, .ref da_w, .ref da_laid, .int d_whoMany, .int d_drifted, .int d_seed, .ref da_cries, .ref da_holds, .ref da_came, .ref da_least, .ref da_firstTo, .int d_steps, .int d_roundFrom, .int d_roundMany, .int d_numberAt])), (da_fed, .inl (cy 0, 500, .inl df_fed))])) A) ([.ref da, .int k0] : List Value).toArray s 0 0 A := ⟨_, rfl⟩
  rw [← hQ0]
  obtain ⟨hx, hb, hml, hown, hts, hr, hlk, hnm⟩ := id E
  have hown : s.vm.findClass RX12 = some m.cls := hown
  have hl : lv_has ls 2 [(0, .ref da), (1, .int k0)] := hl
  obtain ⟨H, hH⟩ : ∃ H, H = s.heap := ⟨_, rfl⟩
  have hP : va_P D vwCl [(da, .inr (13, [.int d_thrown, .int d_tape, .int d_size, .int d_place, .int d_at, .int d_fault, .int d_faultAt, .int d_clauses, .ref da_fed, .ref da_readBody, .ref da_body, .ref da_readMany, .ref da_many, .ref da_without, .ref da_did, .ref da_done, .ref da_bed, .int d_now, .int d_mindAt, .int d_way, .int d_harm, .int d_worth, .int d_passes, .int d_passings, .int d_spots, .int d_images, .ref da_passing, .ref da_spot, .ref da_kept, .ref da_aside, .int d_spare, .ref da_ran, .ref da_who, .ref da_cap, .ref da_w, .ref da_laid, .int d_whoMany, .int d_drifted, .int d_seed, .ref da_cries, .ref da_holds, .ref da_came, .ref da_least, .ref da_firstTo, .int d_steps, .int d_roundFrom, .int d_roundMany, .int d_numberAt])), (da_fed, .inl (cy 0, 500, .inl df_fed))] H := by rw [hH]; exact hP
  have hS : va_S A s.heap H [] := by rw [hH]; exact va_S.rf
  rw [← hH]
  clear hH
  obtain ⟨locs, hlocs⟩ : ∃ locs : List Loc, locs = [] := ⟨_, rfl⟩
  rw [← hlocs] at hS ⊢
  refine lv_iload_n hx hb dX12_byteAt_0 rfl (lv_at hl 1 rfl) ?_
  refine lv_aload_n hx hb dX12_byteAt_1 rfl (lv_at hl 0 rfl) ?_
  refine va_get (D := D) (ci := 13) (v := .int d_size) (C := RX12) (T := TX12) (N := 48) hx hb hts kin_RX12 hown hG.1 hP 0 rfl rfl 2 (by decide) (hts _ wm_1521) (fun _ h9 => h9) rfl dX12_byteAt_2 ?_
  refine lv_icmp_lt (tgt := 12) hx hb dX12_byteAt_5 (by decide) (fun c1q => ?_) (fun c1q => ?_)
  · simp only [k_lt, k_le, k_eq, ne_eq, ge_iff_le, gt_iff_lt] at c1q
    refine lv_aload_n hx hb dX12_byteAt_12 rfl (lv_at hl 0 rfl) ?_
    refine va_get (D := D) (ci := 13) (v := .ref da_fed) (C := RX12) (T := TX12) (N := 48) hx hb hts kin_RX12 hown hG.1 hP 0 rfl rfl 8 (by decide) (hts _ wm_1527) (fun _ h9 => h9) rfl dX12_byteAt_13 ?_
    refine lv_iload_n hx hb dX12_byteAt_16 rfl (lv_at hl 1 rfl) ?_
    refine va_iald hx hb hG.1 hP 1 0 rfl rfl (n_in (by omega) (by omega)) dX12_byteAt_17 ?_
    refine lv_topi (fun x2q ex2q => ?_)
    have rx2q : 0 ≤ x2q.toInt ∧ x2q.toInt ≤ 255 := by rw [ex2q]; exact h_df_fed _ (n_lt (by omega) (by omega))
    rw [hQ0]
    exact k_iret () hx hb hr hlk ((show -1 ≤ x2q.toInt ∧ x2q.toInt ≤ 255 ∧ (x2q.toInt = -1 ∨ k0.toInt < d_size.toInt) by omega)) (hP.sub [0, 1] rfl) (hD.sub [0, 1] (by decide) rfl) hS (by decide) (by decide) dX12_byteAt_18
  · simp only [k_lt, k_le, k_eq, ne_eq, ge_iff_le, gt_iff_lt] at c1q
    refine lv_iconst (v := (-1)) hx hb dX12_byteAt_8 (by decide) ?_
    refine lv_goto (tgt := 18) hx hb dX12_byteAt_9 (by decide) ?_
    rw [hQ0]
    exact k_iret () hx hb hr hlk ((by show -1 ≤ ((-1) : Int32).toInt ∧ ((-1) : Int32).toInt ≤ 255 ∧ (((-1) : Int32).toInt = -1 ∨ k0.toInt < d_size.toInt); rw [n_Lm1]; omega)) (hP.sub [0, 1] rfl) (hD.sub [0, 1] (by decide) rfl) hS (by decide) (by decide) dX12_byteAt_18

set_option maxHeartbeats 4000000 in
set_option maxRecDepth 100000 in
/-- the reference: blanks -/
theorem m_blanks (l : Launch) (hl0 : l.stackTraces = false) (D : va_G) (cy : Nat → ClassId) (sa : Nat → Nat) (da da_fed da_readBody da_body da_readMany da_many da_without da_did da_done da_bed da_passing da_spot da_kept da_aside da_ran da_who da_cap da_w da_laid da_cries da_holds da_came da_least da_firstTo : Nat) (d_thrown d_tape d_size d_place d_at d_fault d_faultAt d_clauses d_now d_mindAt d_way d_harm d_worth d_passes d_passings d_spots d_images d_spare d_whoMany d_drifted d_seed d_steps d_roundFrom d_roundMany d_numberAt : Int32) (df_fed : Nat → Int32) (h_d_tape : 0 ≤ d_tape.toInt ∧ d_tape.toInt ≤ 500) (h_d_size : 0 ≤ d_size.toInt ∧ d_size.toInt ≤ 500) (h_d_at : 0 ≤ d_at.toInt ∧ d_at.toInt ≤ 500) (h_d_clauses : 0 ≤ d_clauses.toInt ∧ d_clauses.toInt ≤ 40) (h_d_now : 0 ≤ d_now.toInt ∧ d_now.toInt ≤ 480) (h_d_mindAt : 0 ≤ d_mindAt.toInt ∧ d_mindAt.toInt ≤ 8) (h_d_passings : 0 ≤ d_passings.toInt ∧ d_passings.toInt ≤ 30) (h_d_spots : 0 ≤ d_spots.toInt ∧ d_spots.toInt ≤ 6) (h_d_images : 0 ≤ d_images.toInt ∧ d_images.toInt ≤ 3) (h_d_whoMany : 0 ≤ d_whoMany.toInt ∧ d_whoMany.toInt ≤ 4) (h_df_fed : rowR 500 0 (255) df_fed) (hsz : d_at.toInt ≤ d_size.toInt) (sz : Nat) : Met l yX12_blanks (Cond.code yX12_blanks cX12_blanks 1 none :: kWS) ({ frames := 11, cells := 0, slots := 0, locals := 360 }) (kPre D cy sa [.ref da] [(da, .inr (13, [.int d_thrown, .int d_tape, .int d_size, .int d_place, .int d_at, .int d_fault, .int d_faultAt, .int d_clauses, .ref da_fed, .ref da_readBody, .ref da_body, .ref da_readMany, .ref da_many, .ref da_without, .ref da_did, .ref da_done, .ref da_bed, .int d_now, .int d_mindAt, .int d_way, .int d_harm, .int d_worth, .int d_passes, .int d_passings, .int d_spots, .int d_images, .ref da_passing, .ref da_spot, .ref da_kept, .ref da_aside, .int d_spare, .ref da_ran, .ref da_who, .ref da_cap, .ref da_w, .ref da_laid, .int d_whoMany, .int d_drifted, .int d_seed, .ref da_cries, .ref da_holds, .ref da_came, .ref da_least, .ref da_firstTo, .int d_steps, .int d_roundFrom, .int d_roundMany, .int d_numberAt])), (da_fed, .inl (cy 0, 500, .inl df_fed))] sz) (va_Qv (fun (u : (Nat → Int32) × (Nat → Nat → Int32)) => (0 ≤ ((u.1 0)).toInt ∧ ((u.1 0)).toInt ≤ 500) ∧ ((u.1 0).toInt ≤ d_size.toInt)) (kB D (va_A [(da, .inr (13, [.int d_thrown, .int d_tape, .int d_size, .int d_place, .int d_at, .int d_fault, .int d_faultAt, .int d_clauses, .ref da_fed, .ref da_readBody, .ref da_body, .ref da_readMany, .ref da_many, .ref da_without, .ref da_did, .ref da_done, .ref da_bed, .int d_now, .int d_mindAt, .int d_way, .int d_harm, .int d_worth, .int d_passes, .int d_passings, .int d_spots, .int d_images, .ref da_passing, .ref da_spot, .ref da_kept, .ref da_aside, .int d_spare, .ref da_ran, .ref da_who, .ref da_cap, .ref da_w, .ref da_laid, .int d_whoMany, .int d_drifted, .int d_seed, .ref da_cries, .ref da_holds, .ref da_came, .ref da_least, .ref da_firstTo, .int d_steps, .int d_roundFrom, .int d_roundMany, .int d_numberAt])), (da_fed, .inl (cy 0, 500, .inl df_fed))] sz) (fun (u : (Nat → Int32) × (Nat → Nat → Int32)) => [(da, .inr (13, [.int d_thrown, .int d_tape, .int d_size, .int d_place, .int ((u.1 0)), .int d_fault, .int d_faultAt, .int d_clauses, .ref da_fed, .ref da_readBody, .ref da_body, .ref da_readMany, .ref da_many, .ref da_without, .ref da_did, .ref da_done, .ref da_bed, .int d_now, .int d_mindAt, .int d_way, .int d_harm, .int d_worth, .int d_passes, .int d_passings, .int d_spots, .int d_images, .ref da_passing, .ref da_spot, .ref da_kept, .ref da_aside, .int d_spare, .ref da_ran, .ref da_who, .ref da_cap, .ref da_w, .ref da_laid, .int d_whoMany, .int d_drifted, .int d_seed, .ref da_cries, .ref da_holds, .ref da_came, .ref da_least, .ref da_firstTo, .int d_steps, .int d_roundFrom, .int d_roundMany, .int d_numberAt])), (da_fed, .inl (cy 0, 500, .inl df_fed))])) (va_A [(da, .inr (13, [.int d_thrown, .int d_tape, .int d_size, .int d_place, .int d_at, .int d_fault, .int d_faultAt, .int d_clauses, .ref da_fed, .ref da_readBody, .ref da_body, .ref da_readMany, .ref da_many, .ref da_without, .ref da_did, .ref da_done, .ref da_bed, .int d_now, .int d_mindAt, .int d_way, .int d_harm, .int d_worth, .int d_passes, .int d_passings, .int d_spots, .int d_images, .ref da_passing, .ref da_spot, .ref da_kept, .ref da_aside, .int d_spare, .ref da_ran, .ref da_who, .ref da_cap, .ref da_w, .ref da_laid, .int d_whoMany, .int d_drifted, .int d_seed, .ref da_cries, .ref da_holds, .ref da_came, .ref da_least, .ref da_firstTo, .int d_steps, .int d_roundFrom, .int d_roundMany, .int d_numberAt])), (da_fed, .inl (cy 0, 500, .inl df_fed))] sz)) 0 0 (va_A [(da, .inr (13, [.int d_thrown, .int d_tape, .int d_size, .int d_place, .int d_at, .int d_fault, .int d_faultAt, .int d_clauses, .ref da_fed, .ref da_readBody, .ref da_body, .ref da_readMany, .ref da_many, .ref da_without, .ref da_did, .ref da_done, .ref da_bed, .int d_now, .int d_mindAt, .int d_way, .int d_harm, .int d_worth, .int d_passes, .int d_passings, .int d_spots, .int d_images, .ref da_passing, .ref da_spot, .ref da_kept, .ref da_aside, .int d_spare, .ref da_ran, .ref da_who, .ref da_cap, .ref da_w, .ref da_laid, .int d_whoMany, .int d_drifted, .int d_seed, .ref da_cries, .ref da_holds, .ref da_came, .ref da_least, .ref da_firstTo, .int d_steps, .int d_roundFrom, .int d_roundMany, .int d_numberAt])), (da_fed, .inl (cy 0, 500, .inl df_fed))] sz) := by
  refine k_ofW (y := yX12_blanks) (cc := cX12_blanks) (maxL := 1) (ret := none) (av := [.ref da]) (ws := [(da, .inr (13, [.int d_thrown, .int d_tape, .int d_size, .int d_place, .int d_at, .int d_fault, .int d_faultAt, .int d_clauses, .ref da_fed, .ref da_readBody, .ref da_body, .ref da_readMany, .ref da_many, .ref da_without, .ref da_did, .ref da_done, .ref da_bed, .int d_now, .int d_mindAt, .int d_way, .int d_harm, .int d_worth, .int d_passes, .int d_passings, .int d_spots, .int d_images, .ref da_passing, .ref da_spot, .ref da_kept, .ref da_aside, .int d_spare, .ref da_ran, .ref da_who, .ref da_cap, .ref da_w, .ref da_laid, .int d_whoMany, .int d_drifted, .int d_seed, .ref da_cries, .ref da_holds, .ref da_came, .ref da_least, .ref da_firstTo, .int d_steps, .int d_roundFrom, .int d_roundMany, .int d_numberAt])), (da_fed, .inl (cy 0, 500, .inl df_fed))]) (Qc := fun A => (va_Qv (fun (u : (Nat → Int32) × (Nat → Nat → Int32)) => (0 ≤ ((u.1 0)).toInt ∧ ((u.1 0)).toInt ≤ 500) ∧ ((u.1 0).toInt ≤ d_size.toInt)) (kB D A (fun (u : (Nat → Int32) × (Nat → Nat → Int32)) => [(da, .inr (13, [.int d_thrown, .int d_tape, .int d_size, .int d_place, .int ((u.1 0)), .int d_fault, .int d_faultAt, .int d_clauses, .ref da_fed, .ref da_readBody, .ref da_body, .ref da_readMany, .ref da_many, .ref da_without, .ref da_did, .ref da_done, .ref da_bed, .int d_now, .int d_mindAt, .int d_way, .int d_harm, .int d_worth, .int d_passes, .int d_passings, .int d_spots, .int d_images, .ref da_passing, .ref da_spot, .ref da_kept, .ref da_aside, .int d_spare, .ref da_ran, .ref da_who, .ref da_cap, .ref da_w, .ref da_laid, .int d_whoMany, .int d_drifted, .int d_seed, .ref da_cries, .ref da_holds, .ref da_came, .ref da_least, .ref da_firstTo, .int d_steps, .int d_roundFrom, .int d_roundMany, .int d_numberAt])), (da_fed, .inl (cy 0, 500, .inl df_fed))])) A)) (by decide) (Nat.le_of_ble_eq_true rfl) ?_
  intro p e s m below meth c ls A E hA hP hD hG hS hl
  obtain ⟨Q0, hQ0⟩ : ∃ Q0 : State → Prop, Q0 = MQ below (va_Qv (fun (u : (Nat → Int32) × (Nat → Nat → Int32)) => (0 ≤ ((u.1 0)).toInt ∧ ((u.1 0)).toInt ≤ 500) ∧ ((u.1 0).toInt ≤ d_size.toInt)) (kB D A (fun (u : (Nat → Int32) × (Nat → Nat → Int32)) => [(da, .inr (13, [.int d_thrown, .int d_tape, .int d_size, .int d_place, .int ((u.1 0)), .int d_fault, .int d_faultAt, .int d_clauses, .ref da_fed, .ref da_readBody, .ref da_body, .ref da_readMany, .ref da_many, .ref da_without, .ref da_did, .ref da_done, .ref da_bed, .int d_now, .int d_mindAt, .int d_way, .int d_harm, .int d_worth, .int d_passes, .int d_passings, .int d_spots, .int d_images, .ref da_passing, .ref da_spot, .ref da_kept, .ref da_aside, .int d_spare, .ref da_ran, .ref da_who, .ref da_cap, .ref da_w, .ref da_laid, .int d_whoMany, .int d_drifted, .int d_seed, .ref da_cries, .ref da_holds, .ref da_came, .ref da_least, .ref da_firstTo, .int d_steps, .int d_roundFrom, .int d_roundMany, .int d_numberAt])), (da_fed, .inl (cy 0, 500, .inl df_fed))])) A) ([.ref da] : List Value).toArray s 0 0 A := ⟨_, rfl⟩
  rw [← hQ0]
  obtain ⟨hx, hb, hml, hown, hts, hr, hlk, hnm⟩ := id E
  have hown : s.vm.findClass RX12 = some m.cls := hown
  have hl : lv_has ls 1 [(0, .ref da)] := hl
  obtain ⟨H, hH⟩ : ∃ H, H = s.heap := ⟨_, rfl⟩
  have hP : va_P D vwCl [(da, .inr (13, [.int d_thrown, .int d_tape, .int d_size, .int d_place, .int d_at, .int d_fault, .int d_faultAt, .int d_clauses, .ref da_fed, .ref da_readBody, .ref da_body, .ref da_readMany, .ref da_many, .ref da_without, .ref da_did, .ref da_done, .ref da_bed, .int d_now, .int d_mindAt, .int d_way, .int d_harm, .int d_worth, .int d_passes, .int d_passings, .int d_spots, .int d_images, .ref da_passing, .ref da_spot, .ref da_kept, .ref da_aside, .int d_spare, .ref da_ran, .ref da_who, .ref da_cap, .ref da_w, .ref da_laid, .int d_whoMany, .int d_drifted, .int d_seed, .ref da_cries, .ref da_holds, .ref da_came, .ref da_least, .ref da_firstTo, .int d_steps, .int d_roundFrom, .int d_roundMany, .int d_numberAt])), (da_fed, .inl (cy 0, 500, .inl df_fed))] H := by rw [hH]; exact hP
  have hS : va_S A s.heap H [] := by rw [hH]; exact va_S.rf
  rw [← hH]
  clear hH
  obtain ⟨locs, hlocs⟩ : ∃ locs : List Loc, locs = [] := ⟨_, rfl⟩
  rw [← hlocs] at hS ⊢
  have k1q : ∀ (n : Nat) (k1qd_at : Int32) (H : Heap) (locs : List Loc) (ls : Array Slot), 0 ≤ k1qd_at.toInt ∧ k1qd_at.toInt ≤ 500 → k1qd_at.toInt ≤ d_size.toInt → (500 - k1qd_at.toInt).toNat = n → va_P D vwCl [(da, .inr (13, [.int d_thrown, .int d_tape, .int d_size, .int d_place, .int k1qd_at, .int d_fault, .int d_faultAt, .int d_clauses, .ref da_fed, .ref da_readBody, .ref da_body, .ref da_readMany, .ref da_many, .ref da_without, .ref da_did, .ref da_done, .ref da_bed, .int d_now, .int d_mindAt, .int d_way, .int d_harm, .int d_worth, .int d_passes, .int d_passings, .int d_spots, .int d_images, .ref da_passing, .ref da_spot, .ref da_kept, .ref da_aside, .int d_spare, .ref da_ran, .ref da_who, .ref da_cap, .ref da_w, .ref da_laid, .int d_whoMany, .int d_drifted, .int d_seed, .ref da_cries, .ref da_holds, .ref da_came, .ref da_least, .ref da_firstTo, .int d_steps, .int d_roundFrom, .int d_roundMany, .int d_numberAt])), (da_fed, .inl (cy 0, 500, .inl df_fed))] H → va_D A [(da, .inr (13, [.int d_thrown, .int d_tape, .int d_size, .int d_place, .int k1qd_at, .int d_fault, .int d_faultAt, .int d_clauses, .ref da_fed, .ref da_readBody, .ref da_body, .ref da_readMany, .ref da_many, .ref da_without, .ref da_did, .ref da_done, .ref da_bed, .int d_now, .int d_mindAt, .int d_way, .int d_harm, .int d_worth, .int d_passes, .int d_passings, .int d_spots, .int d_images, .ref da_passing, .ref da_spot, .ref da_kept, .ref da_aside, .int d_spare, .ref da_ran, .ref da_who, .ref da_cap, .ref da_w, .ref da_laid, .int d_whoMany, .int d_drifted, .int d_seed, .ref da_cries, .ref da_holds, .ref da_came, .ref da_least, .ref da_firstTo, .int d_steps, .int d_roundFrom, .int d_roundMany, .int d_numberAt])), (da_fed, .inl (cy 0, 500, .inl df_fed))] → va_S A s.heap H locs → lv_has ls 1 [(0, .ref da)] → W p l e ({ frames := 11, cells := 0, slots := 0, locals := 360 }) s m ([.ref da] : List Value).toArray below meth c H locs 0 0 Q0 (F0 m 0 ls []) := by
    intro n
    induction n using Nat.strongRecOn with
    | ind n k1qih =>
      intro k1qd_at H locs ls hk1qd_at hk1qi0 k1qm hP hD hS hl
      refine lv_aload_n hx hb dX12_blanks_0 rfl (lv_at hl 0 rfl) ?_
      refine lv_aload_n hx hb dX12_blanks_1 rfl (lv_at hl 0 rfl) ?_
      refine va_get (D := D) (ci := 13) (v := .int k1qd_at) (C := RX12) (T := TX12) (N := 48) hx hb hts kin_RX12 hown hG.1 hP 0 rfl rfl 4 (by decide) (hts _ wm_1523) (fun _ h9 => h9) rfl dX12_blanks_2 ?_
      refine k_cali [] (⟨hP, hD, hG, hS, hA, rfl, rfl⟩ : kAt D cy sa A s H _ _ [(da, .inr (13, [.int d_thrown, .int d_tape, .int d_size, .int d_place, .int k1qd_at, .int d_fault, .int d_faultAt, .int d_clauses, .ref da_fed, .ref da_readBody, .ref da_body, .ref da_readMany, .ref da_many, .ref da_without, .ref da_did, .ref da_done, .ref da_bed, .int d_now, .int d_mindAt, .int d_way, .int d_harm, .int d_worth, .int d_passes, .int d_passings, .int d_spots, .int d_images, .ref da_passing, .ref da_spot, .ref da_kept, .ref da_aside, .int d_spare, .ref da_ran, .ref da_who, .ref da_cap, .ref da_w, .ref da_laid, .int d_whoMany, .int d_drifted, .int d_seed, .ref da_cries, .ref da_holds, .ref da_came, .ref da_least, .ref da_firstTo, .int d_steps, .int d_roundFrom, .int d_roundMany, .int d_numberAt])), (da_fed, .inl (cy 0, 500, .inl df_fed))] [0, 1]) (wr := []) rfl rfl (by decide) (k_runV 13 0 (As := [.int k1qd_at]) (rest := []) E lk_VRX12_99 rfl rfl rfl (m_byteAt l hl0 D cy sa da da_fed da_readBody da_body da_readMany da_many da_without da_did da_done da_bed da_passing da_spot da_kept da_aside da_ran da_who da_cap da_w da_laid da_cries da_holds da_came da_least da_firstTo d_thrown d_tape d_size d_place k1qd_at d_fault d_faultAt d_clauses d_now d_mindAt d_way d_harm d_worth d_passes d_passings d_spots d_images d_spare d_whoMany d_drifted d_seed d_steps d_roundFrom d_roundMany d_numberAt k1qd_at df_fed ⟨by omega, by omega⟩ ⟨by omega, by omega⟩ ⟨by omega, by omega⟩ ⟨by omega, by omega⟩ ⟨by omega, by omega⟩ ⟨by omega, by omega⟩ ⟨by omega, by omega⟩ ⟨by omega, by omega⟩ ⟨by omega, by omega⟩ ⟨by omega, by omega⟩ h_df_fed ⟨by omega, by omega⟩ H.size) (⟨hP, hD, hG, hS, hA, rfl, rfl⟩ : kAt D cy sa A s H _ _ [(da, .inr (13, [.int d_thrown, .int d_tape, .int d_size, .int d_place, .int k1qd_at, .int d_fault, .int d_faultAt, .int d_clauses, .ref da_fed, .ref da_readBody, .ref da_body, .ref da_readMany, .ref da_many, .ref da_without, .ref da_did, .ref da_done, .ref da_bed, .int d_now, .int d_mindAt, .int d_way, .int d_harm, .int d_worth, .int d_passes, .int d_passings, .int d_spots, .int d_images, .ref da_passing, .ref da_spot, .ref da_kept, .ref da_aside, .int d_spare, .ref da_ran, .ref da_who, .ref da_cap, .ref da_w, .ref da_laid, .int d_whoMany, .int d_drifted, .int d_seed, .ref da_cries, .ref da_holds, .ref da_came, .ref da_least, .ref da_firstTo, .int d_steps, .int d_roundFrom, .int d_roundMany, .int d_numberAt])), (da_fed, .inl (cy 0, 500, .inl df_fed))] [0, 1]) hl.1 rfl rfl ⟨rfl, rfl, ⟨Nat.le_of_ble_eq_true rfl, Nat.le_of_ble_eq_true rfl⟩, ⟨Nat.le_of_ble_eq_true rfl, Nat.le_of_ble_eq_true rfl⟩, Nat.le_of_ble_eq_true rfl⟩ dX12_blanks_5) (fun r2q u3q H locs hwu3q hP hD hS => ?_)
      have hP : va_P D vwCl [(da, .inr (13, [.int d_thrown, .int d_tape, .int d_size, .int d_place, .int k1qd_at, .int d_fault, .int d_faultAt, .int d_clauses, .ref da_fed, .ref da_readBody, .ref da_body, .ref da_readMany, .ref da_many, .ref da_without, .ref da_did, .ref da_done, .ref da_bed, .int d_now, .int d_mindAt, .int d_way, .int d_harm, .int d_worth, .int d_passes, .int d_passings, .int d_spots, .int d_images, .ref da_passing, .ref da_spot, .ref da_kept, .ref da_aside, .int d_spare, .ref da_ran, .ref da_who, .ref da_cap, .ref da_w, .ref da_laid, .int d_whoMany, .int d_drifted, .int d_seed, .ref da_cries, .ref da_holds, .ref da_came, .ref da_least, .ref da_firstTo, .int d_steps, .int d_roundFrom, .int d_roundMany, .int d_numberAt])), (da_fed, .inl (cy 0, 500, .inl df_fed))] H := hP
      have hD : va_D A [(da, .inr (13, [.int d_thrown, .int d_tape, .int d_size, .int d_place, .int k1qd_at, .int d_fault, .int d_faultAt, .int d_clauses, .ref da_fed, .ref da_readBody, .ref da_body, .ref da_readMany, .ref da_many, .ref da_without, .ref da_did, .ref da_done, .ref da_bed, .int d_now, .int d_mindAt, .int d_way, .int d_harm, .int d_worth, .int d_passes, .int d_passings, .int d_spots, .int d_images, .ref da_passing, .ref da_spot, .ref da_kept, .ref da_aside, .int d_spare, .ref da_ran, .ref da_who, .ref da_cap, .ref da_w, .ref da_laid, .int d_whoMany, .int d_drifted, .int d_seed, .ref da_cries, .ref da_holds, .ref da_came, .ref da_least, .ref da_firstTo, .int d_steps, .int d_roundFrom, .int d_roundMany, .int d_numberAt])), (da_fed, .inl (cy 0, 500, .inl df_fed))] := hD
      have p4q := hwu3q
      refine lv_bipush (v := 32) hx hb dX12_blanks_8 (by decide) ?_
      refine lv_icmp_ne (tgt := 26) hx hb dX12_blanks_10 (by decide) (fun c5q => ?_) (fun c5q => ?_)
      · simp only [k_lt, k_le, k_eq, ne_eq, ge_iff_le, gt_iff_lt, n_L32] at c5q
        rw [hQ0]
        exact k_vret (fun k => [k1qd_at].getD k 0, fun k => [].getD k (fun _ => 0)) hx hb hr hlk (⟨(show 0 ≤ k1qd_at.toInt ∧ k1qd_at.toInt ≤ 500 from ⟨by omega, by omega⟩), (show k1qd_at.toInt ≤ d_size.toInt by omega)⟩) (hP.sub [0, 1] rfl) (hD.sub [0, 1] (by decide) rfl) hS (by decide) (by decide) dX12_blanks_26
      · simp only [k_lt, k_le, k_eq, ne_eq, ge_iff_le, gt_iff_lt, n_L32] at c5q
        refine lv_aload_n hx hb dX12_blanks_13 rfl (lv_at hl 0 rfl) ?_
        refine lv_dup hx hb dX12_blanks_14 rfl ?_
        refine va_get (D := D) (ci := 13) (v := .int k1qd_at) (C := RX12) (T := TX12) (N := 48) hx hb hts kin_RX12 hown hG.1 hP 0 rfl rfl 4 (by decide) (hts _ wm_1523) (fun _ h9 => h9) rfl dX12_blanks_15 ?_
        refine lv_iconst (v := 1) hx hb dX12_blanks_18 (by decide) ?_
        refine lv_iadd hx hb dX12_blanks_19 ?_
        refine lv_topi (fun x6q ex6q => ?_)
        have rx6q := n_add ex6q (a := k1qd_at.toInt) (b := 1) rfl n_L1 (by omega) (by omega)
        refine va_put (D := D) (ci := 13) (v := .int x6q) (ty := .int) (C := RX12) (T := TX12) (N := 48) hx hb hts kin_RX12 tyX12 tyX12_ok nmX12 hown hG.1 hP hD hS 0 rfl rfl 4 (by decide) (hts _ wm_1523) (fun _ h9 => h9) rfl (by decide +kernel) rfl rfl (Nat.le_of_ble_eq_true rfl) dX12_blanks_20 (fun H locs hP hD hS => ?_)
        have hP : va_P D vwCl [(da, .inr (13, [.int d_thrown, .int d_tape, .int d_size, .int d_place, .int x6q, .int d_fault, .int d_faultAt, .int d_clauses, .ref da_fed, .ref da_readBody, .ref da_body, .ref da_readMany, .ref da_many, .ref da_without, .ref da_did, .ref da_done, .ref da_bed, .int d_now, .int d_mindAt, .int d_way, .int d_harm, .int d_worth, .int d_passes, .int d_passings, .int d_spots, .int d_images, .ref da_passing, .ref da_spot, .ref da_kept, .ref da_aside, .int d_spare, .ref da_ran, .ref da_who, .ref da_cap, .ref da_w, .ref da_laid, .int d_whoMany, .int d_drifted, .int d_seed, .ref da_cries, .ref da_holds, .ref da_came, .ref da_least, .ref da_firstTo, .int d_steps, .int d_roundFrom, .int d_roundMany, .int d_numberAt])), (da_fed, .inl (cy 0, 500, .inl df_fed))] H := hP
        have hD : va_D A [(da, .inr (13, [.int d_thrown, .int d_tape, .int d_size, .int d_place, .int x6q, .int d_fault, .int d_faultAt, .int d_clauses, .ref da_fed, .ref da_readBody, .ref da_body, .ref da_readMany, .ref da_many, .ref da_without, .ref da_did, .ref da_done, .ref da_bed, .int d_now, .int d_mindAt, .int d_way, .int d_harm, .int d_worth, .int d_passes, .int d_passings, .int d_spots, .int d_images, .ref da_passing, .ref da_spot, .ref da_kept, .ref da_aside, .int d_spare, .ref da_ran, .ref da_who, .ref da_cap, .ref da_w, .ref da_laid, .int d_whoMany, .int d_drifted, .int d_seed, .ref da_cries, .ref da_holds, .ref da_came, .ref da_least, .ref da_firstTo, .int d_steps, .int d_roundFrom, .int d_roundMany, .int d_numberAt])), (da_fed, .inl (cy 0, 500, .inl df_fed))] := hD
        refine lv_goto (tgt := 0) hx hb dX12_blanks_23 (by decide) ?_
        exact k1qih ((500 - x6q.toInt).toNat) (by omega) x6q H locs ls ⟨by omega, by omega⟩ (show x6q.toInt ≤ d_size.toInt by omega) rfl hP hD hS (lv_sub hl [0] rfl)
  exact k1q _ d_at H locs ls ⟨by omega, by omega⟩ (show d_at.toInt ≤ d_size.toInt by omega) rfl hP hD hS (lv_sub hl [0] rfl)

set_option maxHeartbeats 4000000 in
set_option maxRecDepth 100000 in
/-- the reference: isUp -/
theorem m_isUp (l : Launch) (hl0 : l.stackTraces = false) (D : va_G) (cy : Nat → ClassId) (sa : Nat → Nat) (da da_fed da_readBody da_body da_readMany da_many da_without da_did da_done da_bed da_passing da_spot da_kept da_aside da_ran da_who da_cap da_w da_laid da_cries da_holds da_came da_least da_firstTo : Nat) (d_thrown d_tape d_size d_place d_at d_fault d_faultAt d_clauses d_now d_mindAt d_way d_harm d_worth d_passes d_passings d_spots d_images d_spare d_whoMany d_drifted d_seed d_steps d_roundFrom d_roundMany d_numberAt b0 : Int32) (df_done df_bed : Nat → Int32) (h_d_tape : 0 ≤ d_tape.toInt ∧ d_tape.toInt ≤ 500) (h_d_size : 0 ≤ d_size.toInt ∧ d_size.toInt ≤ 500) (h_d_at : 0 ≤ d_at.toInt ∧ d_at.toInt ≤ 500) (h_d_clauses : 0 ≤ d_clauses.toInt ∧ d_clauses.toInt ≤ 40) (h_d_now : 0 ≤ d_now.toInt ∧ d_now.toInt ≤ 480) (h_d_mindAt : 0 ≤ d_mindAt.toInt ∧ d_mindAt.toInt ≤ 8) (h_d_passings : 0 ≤ d_passings.toInt ∧ d_passings.toInt ≤ 30) (h_d_spots : 0 ≤ d_spots.toInt ∧ d_spots.toInt ≤ 6) (h_d_images : 0 ≤ d_images.toInt ∧ d_images.toInt ≤ 3) (h_d_whoMany : 0 ≤ d_whoMany.toInt ∧ d_whoMany.toInt ≤ 4) (h_b0 : 0 ≤ b0.toInt ∧ b0.toInt ≤ 8) (sz : Nat) : Met l yX12_isUp (Cond.code yX12_isUp cX12_isUp 2 (some .boolean) :: kWS) ({ frames := 10, cells := 0, slots := 0, locals := 300 }) (kPre D cy sa [.ref da, .int b0] [(da, .inr (13, [.int d_thrown, .int d_tape, .int d_size, .int d_place, .int d_at, .int d_fault, .int d_faultAt, .int d_clauses, .ref da_fed, .ref da_readBody, .ref da_body, .ref da_readMany, .ref da_many, .ref da_without, .ref da_did, .ref da_done, .ref da_bed, .int d_now, .int d_mindAt, .int d_way, .int d_harm, .int d_worth, .int d_passes, .int d_passings, .int d_spots, .int d_images, .ref da_passing, .ref da_spot, .ref da_kept, .ref da_aside, .int d_spare, .ref da_ran, .ref da_who, .ref da_cap, .ref da_w, .ref da_laid, .int d_whoMany, .int d_drifted, .int d_seed, .ref da_cries, .ref da_holds, .ref da_came, .ref da_least, .ref da_firstTo, .int d_steps, .int d_roundFrom, .int d_roundMany, .int d_numberAt])), (da_done, .inl (cy 0, 9, .inl df_done)), (da_bed, .inl (cy 0, 9, .inl df_bed))] sz) (va_Qi (fun (r : Int32) (u : Unit) => (r.toInt = 0 ∨ r.toInt = 1)) (kB D (va_A [(da, .inr (13, [.int d_thrown, .int d_tape, .int d_size, .int d_place, .int d_at, .int d_fault, .int d_faultAt, .int d_clauses, .ref da_fed, .ref da_readBody, .ref da_body, .ref da_readMany, .ref da_many, .ref da_without, .ref da_did, .ref da_done, .ref da_bed, .int d_now, .int d_mindAt, .int d_way, .int d_harm, .int d_worth, .int d_passes, .int d_passings, .int d_spots, .int d_images, .ref da_passing, .ref da_spot, .ref da_kept, .ref da_aside, .int d_spare, .ref da_ran, .ref da_who, .ref da_cap, .ref da_w, .ref da_laid, .int d_whoMany, .int d_drifted, .int d_seed, .ref da_cries, .ref da_holds, .ref da_came, .ref da_least, .ref da_firstTo, .int d_steps, .int d_roundFrom, .int d_roundMany, .int d_numberAt])), (da_done, .inl (cy 0, 9, .inl df_done)), (da_bed, .inl (cy 0, 9, .inl df_bed))] sz) (fun (u : Unit) => [(da, .inr (13, [.int d_thrown, .int d_tape, .int d_size, .int d_place, .int d_at, .int d_fault, .int d_faultAt, .int d_clauses, .ref da_fed, .ref da_readBody, .ref da_body, .ref da_readMany, .ref da_many, .ref da_without, .ref da_did, .ref da_done, .ref da_bed, .int d_now, .int d_mindAt, .int d_way, .int d_harm, .int d_worth, .int d_passes, .int d_passings, .int d_spots, .int d_images, .ref da_passing, .ref da_spot, .ref da_kept, .ref da_aside, .int d_spare, .ref da_ran, .ref da_who, .ref da_cap, .ref da_w, .ref da_laid, .int d_whoMany, .int d_drifted, .int d_seed, .ref da_cries, .ref da_holds, .ref da_came, .ref da_least, .ref da_firstTo, .int d_steps, .int d_roundFrom, .int d_roundMany, .int d_numberAt])), (da_done, .inl (cy 0, 9, .inl df_done)), (da_bed, .inl (cy 0, 9, .inl df_bed))])) (va_A [(da, .inr (13, [.int d_thrown, .int d_tape, .int d_size, .int d_place, .int d_at, .int d_fault, .int d_faultAt, .int d_clauses, .ref da_fed, .ref da_readBody, .ref da_body, .ref da_readMany, .ref da_many, .ref da_without, .ref da_did, .ref da_done, .ref da_bed, .int d_now, .int d_mindAt, .int d_way, .int d_harm, .int d_worth, .int d_passes, .int d_passings, .int d_spots, .int d_images, .ref da_passing, .ref da_spot, .ref da_kept, .ref da_aside, .int d_spare, .ref da_ran, .ref da_who, .ref da_cap, .ref da_w, .ref da_laid, .int d_whoMany, .int d_drifted, .int d_seed, .ref da_cries, .ref da_holds, .ref da_came, .ref da_least, .ref da_firstTo, .int d_steps, .int d_roundFrom, .int d_roundMany, .int d_numberAt])), (da_done, .inl (cy 0, 9, .inl df_done)), (da_bed, .inl (cy 0, 9, .inl df_bed))] sz)) 0 0 (va_A [(da, .inr (13, [.int d_thrown, .int d_tape, .int d_size, .int d_place, .int d_at, .int d_fault, .int d_faultAt, .int d_clauses, .ref da_fed, .ref da_readBody, .ref da_body, .ref da_readMany, .ref da_many, .ref da_without, .ref da_did, .ref da_done, .ref da_bed, .int d_now, .int d_mindAt, .int d_way, .int d_harm, .int d_worth, .int d_passes, .int d_passings, .int d_spots, .int d_images, .ref da_passing, .ref da_spot, .ref da_kept, .ref da_aside, .int d_spare, .ref da_ran, .ref da_who, .ref da_cap, .ref da_w, .ref da_laid, .int d_whoMany, .int d_drifted, .int d_seed, .ref da_cries, .ref da_holds, .ref da_came, .ref da_least, .ref da_firstTo, .int d_steps, .int d_roundFrom, .int d_roundMany, .int d_numberAt])), (da_done, .inl (cy 0, 9, .inl df_done)), (da_bed, .inl (cy 0, 9, .inl df_bed))] sz) := by
  refine k_ofW (y := yX12_isUp) (cc := cX12_isUp) (maxL := 2) (ret := (some .boolean)) (av := [.ref da, .int b0]) (ws := [(da, .inr (13, [.int d_thrown, .int d_tape, .int d_size, .int d_place, .int d_at, .int d_fault, .int d_faultAt, .int d_clauses, .ref da_fed, .ref da_readBody, .ref da_body, .ref da_readMany, .ref da_many, .ref da_without, .ref da_did, .ref da_done, .ref da_bed, .int d_now, .int d_mindAt, .int d_way, .int d_harm, .int d_worth, .int d_passes, .int d_passings, .int d_spots, .int d_images, .ref da_passing, .ref da_spot, .ref da_kept, .ref da_aside, .int d_spare, .ref da_ran, .ref da_who, .ref da_cap, .ref da_w, .ref da_laid, .int d_whoMany, .int d_drifted, .int d_seed, .ref da_cries, .ref da_holds, .ref da_came, .ref da_least, .ref da_firstTo, .int d_steps, .int d_roundFrom, .int d_roundMany, .int d_numberAt])), (da_done, .inl (cy 0, 9, .inl df_done)), (da_bed, .inl (cy 0, 9, .inl df_bed))]) (Qc := fun A => (va_Qi (fun (r : Int32) (u : Unit) => (r.toInt = 0 ∨ r.toInt = 1)) (kB D A (fun (u : Unit) => [(da, .inr (13, [.int d_thrown, .int d_tape, .int d_size, .int d_place, .int d_at, .int d_fault, .int d_faultAt, .int d_clauses, .ref da_fed, .ref da_readBody, .ref da_body, .ref da_readMany, .ref da_many, .ref da_without, .ref da_did, .ref da_done, .ref da_bed, .int d_now, .int d_mindAt, .int d_way, .int d_harm, .int d_worth, .int d_passes, .int d_passings, .int d_spots, .int d_images, .ref da_passing, .ref da_spot, .ref da_kept, .ref da_aside, .int d_spare, .ref da_ran, .ref da_who, .ref da_cap, .ref da_w, .ref da_laid, .int d_whoMany, .int d_drifted, .int d_seed, .ref da_cries, .ref da_holds, .ref da_came, .ref da_least, .ref da_firstTo, .int d_steps, .int d_roundFrom, .int d_roundMany, .int d_numberAt])), (da_done, .inl (cy 0, 9, .inl df_done)), (da_bed, .inl (cy 0, 9, .inl df_bed))])) A)) (by decide) (Nat.le_of_ble_eq_true rfl) ?_
  intro p e s m below meth c ls A E hA hP hD hG hS hl
  obtain ⟨Q0, hQ0⟩ : ∃ Q0 : State → Prop, Q0 = MQ below (va_Qi (fun (r : Int32) (u : Unit) => (r.toInt = 0 ∨ r.toInt = 1)) (kB D A (fun (u : Unit) => [(da, .inr (13, [.int d_thrown, .int d_tape, .int d_size, .int d_place, .int d_at, .int d_fault, .int d_faultAt, .int d_clauses, .ref da_fed, .ref da_readBody, .ref da_body, .ref da_readMany, .ref da_many, .ref da_without, .ref da_did, .ref da_done, .ref da_bed, .int d_now, .int d_mindAt, .int d_way, .int d_harm, .int d_worth, .int d_passes, .int d_passings, .int d_spots, .int d_images, .ref da_passing, .ref da_spot, .ref da_kept, .ref da_aside, .int d_spare, .ref da_ran, .ref da_who, .ref da_cap, .ref da_w, .ref da_laid, .int d_whoMany, .int d_drifted, .int d_seed, .ref da_cries, .ref da_holds, .ref da_came, .ref da_least, .ref da_firstTo, .int d_steps, .int d_roundFrom, .int d_roundMany, .int d_numberAt])), (da_done, .inl (cy 0, 9, .inl df_done)), (da_bed, .inl (cy 0, 9, .inl df_bed))])) A) ([.ref da, .int b0] : List Value).toArray s 0 0 A := ⟨_, rfl⟩
  rw [← hQ0]
  obtain ⟨hx, hb, hml, hown, hts, hr, hlk, hnm⟩ := id E
  have hown : s.vm.findClass RX12 = some m.cls := hown
  have hl : lv_has ls 2 [(0, .ref da), (1, .int b0)] := hl
  obtain ⟨H, hH⟩ : ∃ H, H = s.heap := ⟨_, rfl⟩
  have hP : va_P D vwCl [(da, .inr (13, [.int d_thrown, .int d_tape, .int d_size, .int d_place, .int d_at, .int d_fault, .int d_faultAt, .int d_clauses, .ref da_fed, .ref da_readBody, .ref da_body, .ref da_readMany, .ref da_many, .ref da_without, .ref da_did, .ref da_done, .ref da_bed, .int d_now, .int d_mindAt, .int d_way, .int d_harm, .int d_worth, .int d_passes, .int d_passings, .int d_spots, .int d_images, .ref da_passing, .ref da_spot, .ref da_kept, .ref da_aside, .int d_spare, .ref da_ran, .ref da_who, .ref da_cap, .ref da_w, .ref da_laid, .int d_whoMany, .int d_drifted, .int d_seed, .ref da_cries, .ref da_holds, .ref da_came, .ref da_least, .ref da_firstTo, .int d_steps, .int d_roundFrom, .int d_roundMany, .int d_numberAt])), (da_done, .inl (cy 0, 9, .inl df_done)), (da_bed, .inl (cy 0, 9, .inl df_bed))] H := by rw [hH]; exact hP
  have hS : va_S A s.heap H [] := by rw [hH]; exact va_S.rf
  rw [← hH]
  clear hH
  obtain ⟨locs, hlocs⟩ : ∃ locs : List Loc, locs = [] := ⟨_, rfl⟩
  rw [← hlocs] at hS ⊢
  refine lv_aload_n hx hb dX12_isUp_0 rfl (lv_at hl 0 rfl) ?_
  refine va_get (D := D) (ci := 13) (v := .ref da_done) (C := RX12) (T := TX12) (N := 48) hx hb hts kin_RX12 hown hG.1 hP 0 rfl rfl 15 (by decide) (hts _ wm_1534) (fun _ h9 => h9) rfl dX12_isUp_1 ?_
  refine lv_iload_n hx hb dX12_isUp_4 rfl (lv_at hl 1 rfl) ?_
  refine va_iald hx hb hG.1 hP 1 0 rfl rfl (n_in (by omega) (by omega)) dX12_isUp_5 ?_
  refine lv_topi (fun x1q ex1q => ?_)
  refine lv_if_ne (tgt := 22) hx hb dX12_isUp_6 (by decide) (fun c2q => ?_) (fun c2q => ?_)
  · simp only [k_lt, k_le, k_eq, ne_eq, ge_iff_le, gt_iff_lt, n_L0, n_L0] at c2q
    refine lv_iconst (v := 0) hx hb dX12_isUp_22 (by decide) ?_
    rw [hQ0]
    exact k_zret () hx hb hr hlk (k_nz (by decide)) ((by show (0 : Int32).toInt = 0 ∨ (0 : Int32).toInt = 1; rw [n_L0]; omega)) (hP.sub [0, 1, 2] rfl) (hD.sub [0, 1, 2] (by decide) rfl) hS (by decide) (by decide) dX12_isUp_23
  · simp only [k_lt, k_le, k_eq, ne_eq, ge_iff_le, gt_iff_lt, n_L0, n_L0] at c2q
    refine lv_aload_n hx hb dX12_isUp_9 rfl (lv_at hl 0 rfl) ?_
    refine va_get (D := D) (ci := 13) (v := .ref da_bed) (C := RX12) (T := TX12) (N := 48) hx hb hts kin_RX12 hown hG.1 hP 0 rfl rfl 16 (by decide) (hts _ wm_1535) (fun _ h9 => h9) rfl dX12_isUp_10 ?_
    refine lv_iload_n hx hb dX12_isUp_13 rfl (lv_at hl 1 rfl) ?_
    refine va_iald hx hb hG.1 hP 2 0 rfl rfl (n_in (by omega) (by omega)) dX12_isUp_14 ?_
    refine lv_topi (fun x3q ex3q => ?_)
    refine lv_if_ne (tgt := 22) hx hb dX12_isUp_15 (by decide) (fun c4q => ?_) (fun c4q => ?_)
    · simp only [k_lt, k_le, k_eq, ne_eq, ge_iff_le, gt_iff_lt, n_L0, n_L0] at c4q
      refine lv_iconst (v := 0) hx hb dX12_isUp_22 (by decide) ?_
      rw [hQ0]
      exact k_zret () hx hb hr hlk (k_nz (by decide)) ((by show (0 : Int32).toInt = 0 ∨ (0 : Int32).toInt = 1; rw [n_L0]; omega)) (hP.sub [0, 1, 2] rfl) (hD.sub [0, 1, 2] (by decide) rfl) hS (by decide) (by decide) dX12_isUp_23
    · simp only [k_lt, k_le, k_eq, ne_eq, ge_iff_le, gt_iff_lt, n_L0, n_L0] at c4q
      refine lv_iconst (v := 1) hx hb dX12_isUp_18 (by decide) ?_
      refine lv_goto (tgt := 23) hx hb dX12_isUp_19 (by decide) ?_
      rw [hQ0]
      exact k_zret () hx hb hr hlk (k_nz (by decide)) ((by show (1 : Int32).toInt = 0 ∨ (1 : Int32).toInt = 1; rw [n_L1]; omega)) (hP.sub [0, 1, 2] rfl) (hD.sub [0, 1, 2] (by decide) rfl) hS (by decide) (by decide) dX12_isUp_23

set_option maxHeartbeats 4000000 in
set_option maxRecDepth 100000 in
/-- the reference: isBody -/
theorem m_isBody (l : Launch) (hl0 : l.stackTraces = false) (D : va_G) (cy : Nat → ClassId) (sa : Nat → Nat) (da da_fed da_readBody da_body da_readMany da_many da_without da_did da_done da_bed da_passing da_spot da_kept da_aside da_ran da_who da_cap da_w da_laid da_cries da_holds da_came da_least da_firstTo : Nat) (d_thrown d_tape d_size d_place d_at d_fault d_faultAt d_clauses d_now d_mindAt d_way d_harm d_worth d_passes d_passings d_spots d_images d_spare d_whoMany d_drifted d_seed d_steps d_roundFrom d_roundMany d_numberAt b0 : Int32) (df_many : Nat → Int32) (h_d_tape : 0 ≤ d_tape.toInt ∧ d_tape.toInt ≤ 500) (h_d_size : 0 ≤ d_size.toInt ∧ d_size.toInt ≤ 500) (h_d_at : 0 ≤ d_at.toInt ∧ d_at.toInt ≤ 500) (h_d_clauses : 0 ≤ d_clauses.toInt ∧ d_clauses.toInt ≤ 40) (h_d_now : 0 ≤ d_now.toInt ∧ d_now.toInt ≤ 480) (h_d_mindAt : 0 ≤ d_mindAt.toInt ∧ d_mindAt.toInt ≤ 8) (h_d_passings : 0 ≤ d_passings.toInt ∧ d_passings.toInt ≤ 30) (h_d_spots : 0 ≤ d_spots.toInt ∧ d_spots.toInt ≤ 6) (h_d_images : 0 ≤ d_images.toInt ∧ d_images.toInt ≤ 3) (h_d_whoMany : 0 ≤ d_whoMany.toInt ∧ d_whoMany.toInt ≤ 4) (hx_df_many : (0 ≤ (df_many 0).toInt ∧ (df_many 0).toInt ≤ 9) ∧ (0 ≤ (df_many 1).toInt ∧ (df_many 1).toInt ≤ 9) ∧ (0 ≤ (df_many 2).toInt ∧ (df_many 2).toInt ≤ 30) ∧ (0 ≤ (df_many 3).toInt ∧ (df_many 3).toInt ≤ 480) ∧ (((df_many 0).toInt = 0 ∧ (df_many 3).toInt = 0) ∨ 1 ≤ (df_many 2).toInt)) (sz : Nat) : Met l yX12_isBody (Cond.code yX12_isBody cX12_isBody 2 (some .boolean) :: kWS) ({ frames := 11, cells := 0, slots := 0, locals := 360 }) (kPre D cy sa [.ref da, .int b0] [(da, .inr (13, [.int d_thrown, .int d_tape, .int d_size, .int d_place, .int d_at, .int d_fault, .int d_faultAt, .int d_clauses, .ref da_fed, .ref da_readBody, .ref da_body, .ref da_readMany, .ref da_many, .ref da_without, .ref da_did, .ref da_done, .ref da_bed, .int d_now, .int d_mindAt, .int d_way, .int d_harm, .int d_worth, .int d_passes, .int d_passings, .int d_spots, .int d_images, .ref da_passing, .ref da_spot, .ref da_kept, .ref da_aside, .int d_spare, .ref da_ran, .ref da_who, .ref da_cap, .ref da_w, .ref da_laid, .int d_whoMany, .int d_drifted, .int d_seed, .ref da_cries, .ref da_holds, .ref da_came, .ref da_least, .ref da_firstTo, .int d_steps, .int d_roundFrom, .int d_roundMany, .int d_numberAt])), (da_many, .inl (cy 0, 5, .inl df_many))] sz) (va_Qi (fun (r : Int32) (u : Unit) => (r.toInt = 0 ∨ (r.toInt = 1 ∧ 0 ≤ b0.toInt ∧ b0.toInt < (df_many 0).toInt))) (kB D (va_A [(da, .inr (13, [.int d_thrown, .int d_tape, .int d_size, .int d_place, .int d_at, .int d_fault, .int d_faultAt, .int d_clauses, .ref da_fed, .ref da_readBody, .ref da_body, .ref da_readMany, .ref da_many, .ref da_without, .ref da_did, .ref da_done, .ref da_bed, .int d_now, .int d_mindAt, .int d_way, .int d_harm, .int d_worth, .int d_passes, .int d_passings, .int d_spots, .int d_images, .ref da_passing, .ref da_spot, .ref da_kept, .ref da_aside, .int d_spare, .ref da_ran, .ref da_who, .ref da_cap, .ref da_w, .ref da_laid, .int d_whoMany, .int d_drifted, .int d_seed, .ref da_cries, .ref da_holds, .ref da_came, .ref da_least, .ref da_firstTo, .int d_steps, .int d_roundFrom, .int d_roundMany, .int d_numberAt])), (da_many, .inl (cy 0, 5, .inl df_many))] sz) (fun (u : Unit) => [(da, .inr (13, [.int d_thrown, .int d_tape, .int d_size, .int d_place, .int d_at, .int d_fault, .int d_faultAt, .int d_clauses, .ref da_fed, .ref da_readBody, .ref da_body, .ref da_readMany, .ref da_many, .ref da_without, .ref da_did, .ref da_done, .ref da_bed, .int d_now, .int d_mindAt, .int d_way, .int d_harm, .int d_worth, .int d_passes, .int d_passings, .int d_spots, .int d_images, .ref da_passing, .ref da_spot, .ref da_kept, .ref da_aside, .int d_spare, .ref da_ran, .ref da_who, .ref da_cap, .ref da_w, .ref da_laid, .int d_whoMany, .int d_drifted, .int d_seed, .ref da_cries, .ref da_holds, .ref da_came, .ref da_least, .ref da_firstTo, .int d_steps, .int d_roundFrom, .int d_roundMany, .int d_numberAt])), (da_many, .inl (cy 0, 5, .inl df_many))])) (va_A [(da, .inr (13, [.int d_thrown, .int d_tape, .int d_size, .int d_place, .int d_at, .int d_fault, .int d_faultAt, .int d_clauses, .ref da_fed, .ref da_readBody, .ref da_body, .ref da_readMany, .ref da_many, .ref da_without, .ref da_did, .ref da_done, .ref da_bed, .int d_now, .int d_mindAt, .int d_way, .int d_harm, .int d_worth, .int d_passes, .int d_passings, .int d_spots, .int d_images, .ref da_passing, .ref da_spot, .ref da_kept, .ref da_aside, .int d_spare, .ref da_ran, .ref da_who, .ref da_cap, .ref da_w, .ref da_laid, .int d_whoMany, .int d_drifted, .int d_seed, .ref da_cries, .ref da_holds, .ref da_came, .ref da_least, .ref da_firstTo, .int d_steps, .int d_roundFrom, .int d_roundMany, .int d_numberAt])), (da_many, .inl (cy 0, 5, .inl df_many))] sz)) 0 0 (va_A [(da, .inr (13, [.int d_thrown, .int d_tape, .int d_size, .int d_place, .int d_at, .int d_fault, .int d_faultAt, .int d_clauses, .ref da_fed, .ref da_readBody, .ref da_body, .ref da_readMany, .ref da_many, .ref da_without, .ref da_did, .ref da_done, .ref da_bed, .int d_now, .int d_mindAt, .int d_way, .int d_harm, .int d_worth, .int d_passes, .int d_passings, .int d_spots, .int d_images, .ref da_passing, .ref da_spot, .ref da_kept, .ref da_aside, .int d_spare, .ref da_ran, .ref da_who, .ref da_cap, .ref da_w, .ref da_laid, .int d_whoMany, .int d_drifted, .int d_seed, .ref da_cries, .ref da_holds, .ref da_came, .ref da_least, .ref da_firstTo, .int d_steps, .int d_roundFrom, .int d_roundMany, .int d_numberAt])), (da_many, .inl (cy 0, 5, .inl df_many))] sz) := by
  refine k_ofW (y := yX12_isBody) (cc := cX12_isBody) (maxL := 2) (ret := (some .boolean)) (av := [.ref da, .int b0]) (ws := [(da, .inr (13, [.int d_thrown, .int d_tape, .int d_size, .int d_place, .int d_at, .int d_fault, .int d_faultAt, .int d_clauses, .ref da_fed, .ref da_readBody, .ref da_body, .ref da_readMany, .ref da_many, .ref da_without, .ref da_did, .ref da_done, .ref da_bed, .int d_now, .int d_mindAt, .int d_way, .int d_harm, .int d_worth, .int d_passes, .int d_passings, .int d_spots, .int d_images, .ref da_passing, .ref da_spot, .ref da_kept, .ref da_aside, .int d_spare, .ref da_ran, .ref da_who, .ref da_cap, .ref da_w, .ref da_laid, .int d_whoMany, .int d_drifted, .int d_seed, .ref da_cries, .ref da_holds, .ref da_came, .ref da_least, .ref da_firstTo, .int d_steps, .int d_roundFrom, .int d_roundMany, .int d_numberAt])), (da_many, .inl (cy 0, 5, .inl df_many))]) (Qc := fun A => (va_Qi (fun (r : Int32) (u : Unit) => (r.toInt = 0 ∨ (r.toInt = 1 ∧ 0 ≤ b0.toInt ∧ b0.toInt < (df_many 0).toInt))) (kB D A (fun (u : Unit) => [(da, .inr (13, [.int d_thrown, .int d_tape, .int d_size, .int d_place, .int d_at, .int d_fault, .int d_faultAt, .int d_clauses, .ref da_fed, .ref da_readBody, .ref da_body, .ref da_readMany, .ref da_many, .ref da_without, .ref da_did, .ref da_done, .ref da_bed, .int d_now, .int d_mindAt, .int d_way, .int d_harm, .int d_worth, .int d_passes, .int d_passings, .int d_spots, .int d_images, .ref da_passing, .ref da_spot, .ref da_kept, .ref da_aside, .int d_spare, .ref da_ran, .ref da_who, .ref da_cap, .ref da_w, .ref da_laid, .int d_whoMany, .int d_drifted, .int d_seed, .ref da_cries, .ref da_holds, .ref da_came, .ref da_least, .ref da_firstTo, .int d_steps, .int d_roundFrom, .int d_roundMany, .int d_numberAt])), (da_many, .inl (cy 0, 5, .inl df_many))])) A)) (by decide) (Nat.le_of_ble_eq_true rfl) ?_
  intro p e s m below meth c ls A E hA hP hD hG hS hl
  obtain ⟨Q0, hQ0⟩ : ∃ Q0 : State → Prop, Q0 = MQ below (va_Qi (fun (r : Int32) (u : Unit) => (r.toInt = 0 ∨ (r.toInt = 1 ∧ 0 ≤ b0.toInt ∧ b0.toInt < (df_many 0).toInt))) (kB D A (fun (u : Unit) => [(da, .inr (13, [.int d_thrown, .int d_tape, .int d_size, .int d_place, .int d_at, .int d_fault, .int d_faultAt, .int d_clauses, .ref da_fed, .ref da_readBody, .ref da_body, .ref da_readMany, .ref da_many, .ref da_without, .ref da_did, .ref da_done, .ref da_bed, .int d_now, .int d_mindAt, .int d_way, .int d_harm, .int d_worth, .int d_passes, .int d_passings, .int d_spots, .int d_images, .ref da_passing, .ref da_spot, .ref da_kept, .ref da_aside, .int d_spare, .ref da_ran, .ref da_who, .ref da_cap, .ref da_w, .ref da_laid, .int d_whoMany, .int d_drifted, .int d_seed, .ref da_cries, .ref da_holds, .ref da_came, .ref da_least, .ref da_firstTo, .int d_steps, .int d_roundFrom, .int d_roundMany, .int d_numberAt])), (da_many, .inl (cy 0, 5, .inl df_many))])) A) ([.ref da, .int b0] : List Value).toArray s 0 0 A := ⟨_, rfl⟩
  rw [← hQ0]
  obtain ⟨hx, hb, hml, hown, hts, hr, hlk, hnm⟩ := id E
  have hown : s.vm.findClass RX12 = some m.cls := hown
  have hl : lv_has ls 2 [(0, .ref da), (1, .int b0)] := hl
  have g_b0 := k_rng b0
  obtain ⟨H, hH⟩ : ∃ H, H = s.heap := ⟨_, rfl⟩
  have hP : va_P D vwCl [(da, .inr (13, [.int d_thrown, .int d_tape, .int d_size, .int d_place, .int d_at, .int d_fault, .int d_faultAt, .int d_clauses, .ref da_fed, .ref da_readBody, .ref da_body, .ref da_readMany, .ref da_many, .ref da_without, .ref da_did, .ref da_done, .ref da_bed, .int d_now, .int d_mindAt, .int d_way, .int d_harm, .int d_worth, .int d_passes, .int d_passings, .int d_spots, .int d_images, .ref da_passing, .ref da_spot, .ref da_kept, .ref da_aside, .int d_spare, .ref da_ran, .ref da_who, .ref da_cap, .ref da_w, .ref da_laid, .int d_whoMany, .int d_drifted, .int d_seed, .ref da_cries, .ref da_holds, .ref da_came, .ref da_least, .ref da_firstTo, .int d_steps, .int d_roundFrom, .int d_roundMany, .int d_numberAt])), (da_many, .inl (cy 0, 5, .inl df_many))] H := by rw [hH]; exact hP
  have hS : va_S A s.heap H [] := by rw [hH]; exact va_S.rf
  rw [← hH]
  clear hH
  obtain ⟨locs, hlocs⟩ : ∃ locs : List Loc, locs = [] := ⟨_, rfl⟩
  rw [← hlocs] at hS ⊢
  refine lv_iload_n hx hb dX12_isBody_0 rfl (lv_at hl 1 rfl) ?_
  refine lv_iconst (v := 0) hx hb dX12_isBody_1 (by decide) ?_
  refine lv_aload_n hx hb dX12_isBody_2 rfl (lv_at hl 0 rfl) ?_
  refine va_get (D := D) (ci := 13) (v := .ref da_many) (C := RX12) (T := TX12) (N := 48) hx hb hts kin_RX12 hown hG.1 hP 0 rfl rfl 12 (by decide) (hts _ wm_1531) (fun _ h9 => h9) rfl dX12_isBody_3 ?_
  refine lv_iconst (v := 0) hx hb dX12_isBody_6 (by decide) ?_
  refine va_iald hx hb hG.1 hP 1 0 rfl rfl (by unfold vp_in; decide) dX12_isBody_7 ?_
  refine lv_topi (fun x1q ex1q => ?_)
  have rx1q : x1q.toInt = (df_many 0).toInt := by rw [ex1q]; rfl
  refine lv_iconst (v := 1) hx hb dX12_isBody_8 (by decide) ?_
  refine lv_isub hx hb dX12_isBody_9 ?_
  refine lv_topi (fun x2q ex2q => ?_)
  have rx2q := n_sub ex2q (a := x1q.toInt) (b := 1) rfl n_L1 (by omega) (by omega)
  refine k_cali [0, 1] (⟨hP, hD, hG, hS, hA, rfl, rfl⟩ : kAt D cy sa A s H _ _ [] []) (wr := [(da, .inr (13, [.int d_thrown, .int d_tape, .int d_size, .int d_place, .int d_at, .int d_fault, .int d_faultAt, .int d_clauses, .ref da_fed, .ref da_readBody, .ref da_body, .ref da_readMany, .ref da_many, .ref da_without, .ref da_did, .ref da_done, .ref da_bed, .int d_now, .int d_mindAt, .int d_way, .int d_harm, .int d_worth, .int d_passes, .int d_passings, .int d_spots, .int d_images, .ref da_passing, .ref da_spot, .ref da_kept, .ref da_aside, .int d_spare, .ref da_ran, .ref da_who, .ref da_cap, .ref da_w, .ref da_laid, .int d_whoMany, .int d_drifted, .int d_seed, .ref da_cries, .ref da_holds, .ref da_came, .ref da_least, .ref da_firstTo, .int d_steps, .int d_roundFrom, .int d_roundMany, .int d_numberAt])), (da_many, .inl (cy 0, 5, .inl df_many))]) rfl rfl (by decide) (k_runS (As := [.int b0, .int 0, .int x2q]) (rest := []) E lk_SRX12_124 (m_in l hl0 D cy sa b0 0 x2q H.size) (⟨hP, hD, hG, hS, hA, rfl, rfl⟩ : kAt D cy sa A s H _ _ [] []) hl.1 rfl rfl ⟨rfl, rfl, ⟨Nat.le_of_ble_eq_true rfl, Nat.le_of_ble_eq_true rfl⟩, ⟨Nat.le_of_ble_eq_true rfl, Nat.le_of_ble_eq_true rfl⟩, Nat.le_of_ble_eq_true rfl⟩ dX12_isBody_10) (fun r3q u4q H locs hwu4q hP hD hS => ?_)
  have hP : va_P D vwCl [(da, .inr (13, [.int d_thrown, .int d_tape, .int d_size, .int d_place, .int d_at, .int d_fault, .int d_faultAt, .int d_clauses, .ref da_fed, .ref da_readBody, .ref da_body, .ref da_readMany, .ref da_many, .ref da_without, .ref da_did, .ref da_done, .ref da_bed, .int d_now, .int d_mindAt, .int d_way, .int d_harm, .int d_worth, .int d_passes, .int d_passings, .int d_spots, .int d_images, .ref da_passing, .ref da_spot, .ref da_kept, .ref da_aside, .int d_spare, .ref da_ran, .ref da_who, .ref da_cap, .ref da_w, .ref da_laid, .int d_whoMany, .int d_drifted, .int d_seed, .ref da_cries, .ref da_holds, .ref da_came, .ref da_least, .ref da_firstTo, .int d_steps, .int d_roundFrom, .int d_roundMany, .int d_numberAt])), (da_many, .inl (cy 0, 5, .inl df_many))] H := hP
  have hD : va_D A [(da, .inr (13, [.int d_thrown, .int d_tape, .int d_size, .int d_place, .int d_at, .int d_fault, .int d_faultAt, .int d_clauses, .ref da_fed, .ref da_readBody, .ref da_body, .ref da_readMany, .ref da_many, .ref da_without, .ref da_did, .ref da_done, .ref da_bed, .int d_now, .int d_mindAt, .int d_way, .int d_harm, .int d_worth, .int d_passes, .int d_passings, .int d_spots, .int d_images, .ref da_passing, .ref da_spot, .ref da_kept, .ref da_aside, .int d_spare, .ref da_ran, .ref da_who, .ref da_cap, .ref da_w, .ref da_laid, .int d_whoMany, .int d_drifted, .int d_seed, .ref da_cries, .ref da_holds, .ref da_came, .ref da_least, .ref da_firstTo, .int d_steps, .int d_roundFrom, .int d_roundMany, .int d_numberAt])), (da_many, .inl (cy 0, 5, .inl df_many))] := hD
  have p5q := hwu4q
  try simp only [n_L0] at p5q
  rw [hQ0]
  exact k_zret () hx hb hr hlk (k_nz (n_bool (by omega))) ((show r3q.toInt = 0 ∨ (r3q.toInt = 1 ∧ 0 ≤ b0.toInt ∧ b0.toInt < (df_many 0).toInt) by omega)) (hP.sub [0, 1] rfl) (hD.sub [0, 1] (by decide) rfl) hS (by decide) (by decide) dX12_isBody_13

set_option maxHeartbeats 4000000 in
set_option maxRecDepth 100000 in
/-- the reference: doneMany -/
theorem m_doneMany (l : Launch) (hl0 : l.stackTraces = false) (D : va_G) (cy : Nat → ClassId) (sa : Nat → Nat) (da da_fed da_readBody da_body da_readMany da_many da_without da_did da_done da_bed da_passing da_spot da_kept da_aside da_ran da_who da_cap da_w da_laid da_cries da_holds da_came da_least da_firstTo : Nat) (d_thrown d_tape d_size d_place d_at d_fault d_faultAt d_clauses d_now d_mindAt d_way d_harm d_worth d_passes d_passings d_spots d_images d_spare d_whoMany d_drifted d_seed d_steps d_roundFrom d_roundMany d_numberAt : Int32) (df_many df_done : Nat → Int32) (h_d_tape : 0 ≤ d_tape.toInt ∧ d_tape.toInt ≤ 500) (h_d_size : 0 ≤ d_size.toInt ∧ d_size.toInt ≤ 500) (h_d_at : 0 ≤ d_at.toInt ∧ d_at.toInt ≤ 500) (h_d_clauses : 0 ≤ d_clauses.toInt ∧ d_clauses.toInt ≤ 40) (h_d_now : 0 ≤ d_now.toInt ∧ d_now.toInt ≤ 480) (h_d_mindAt : 0 ≤ d_mindAt.toInt ∧ d_mindAt.toInt ≤ 8) (h_d_passings : 0 ≤ d_passings.toInt ∧ d_passings.toInt ≤ 30) (h_d_spots : 0 ≤ d_spots.toInt ∧ d_spots.toInt ≤ 6) (h_d_images : 0 ≤ d_images.toInt ∧ d_images.toInt ≤ 3) (h_d_whoMany : 0 ≤ d_whoMany.toInt ∧ d_whoMany.toInt ≤ 4) (hx_df_many : (0 ≤ (df_many 0).toInt ∧ (df_many 0).toInt ≤ 9) ∧ (0 ≤ (df_many 1).toInt ∧ (df_many 1).toInt ≤ 9) ∧ (0 ≤ (df_many 2).toInt ∧ (df_many 2).toInt ≤ 30) ∧ (0 ≤ (df_many 3).toInt ∧ (df_many 3).toInt ≤ 480) ∧ (((df_many 0).toInt = 0 ∧ (df_many 3).toInt = 0) ∨ 1 ≤ (df_many 2).toInt)) (sz : Nat) : Met l yX12_doneMany (Cond.code yX12_doneMany cX12_doneMany 3 (some .int) :: kWS) ({ frames := 10, cells := 0, slots := 0, locals := 300 }) (kPre D cy sa [.ref da] [(da, .inr (13, [.int d_thrown, .int d_tape, .int d_size, .int d_place, .int d_at, .int d_fault, .int d_faultAt, .int d_clauses, .ref da_fed, .ref da_readBody, .ref da_body, .ref da_readMany, .ref da_many, .ref da_without, .ref da_did, .ref da_done, .ref da_bed, .int d_now, .int d_mindAt, .int d_way, .int d_harm, .int d_worth, .int d_passes, .int d_passings, .int d_spots, .int d_images, .ref da_passing, .ref da_spot, .ref da_kept, .ref da_aside, .int d_spare, .ref da_ran, .ref da_who, .ref da_cap, .ref da_w, .ref da_laid, .int d_whoMany, .int d_drifted, .int d_seed, .ref da_cries, .ref da_holds, .ref da_came, .ref da_least, .ref da_firstTo, .int d_steps, .int d_roundFrom, .int d_roundMany, .int d_numberAt])), (da_many, .inl (cy 0, 5, .inl df_many)), (da_done, .inl (cy 0, 9, .inl df_done))] sz) (va_Qi (fun (r : Int32) (u : Unit) => True) (kB D (va_A [(da, .inr (13, [.int d_thrown, .int d_tape, .int d_size, .int d_place, .int d_at, .int d_fault, .int d_faultAt, .int d_clauses, .ref da_fed, .ref da_readBody, .ref da_body, .ref da_readMany, .ref da_many, .ref da_without, .ref da_did, .ref da_done, .ref da_bed, .int d_now, .int d_mindAt, .int d_way, .int d_harm, .int d_worth, .int d_passes, .int d_passings, .int d_spots, .int d_images, .ref da_passing, .ref da_spot, .ref da_kept, .ref da_aside, .int d_spare, .ref da_ran, .ref da_who, .ref da_cap, .ref da_w, .ref da_laid, .int d_whoMany, .int d_drifted, .int d_seed, .ref da_cries, .ref da_holds, .ref da_came, .ref da_least, .ref da_firstTo, .int d_steps, .int d_roundFrom, .int d_roundMany, .int d_numberAt])), (da_many, .inl (cy 0, 5, .inl df_many)), (da_done, .inl (cy 0, 9, .inl df_done))] sz) (fun (u : Unit) => [(da, .inr (13, [.int d_thrown, .int d_tape, .int d_size, .int d_place, .int d_at, .int d_fault, .int d_faultAt, .int d_clauses, .ref da_fed, .ref da_readBody, .ref da_body, .ref da_readMany, .ref da_many, .ref da_without, .ref da_did, .ref da_done, .ref da_bed, .int d_now, .int d_mindAt, .int d_way, .int d_harm, .int d_worth, .int d_passes, .int d_passings, .int d_spots, .int d_images, .ref da_passing, .ref da_spot, .ref da_kept, .ref da_aside, .int d_spare, .ref da_ran, .ref da_who, .ref da_cap, .ref da_w, .ref da_laid, .int d_whoMany, .int d_drifted, .int d_seed, .ref da_cries, .ref da_holds, .ref da_came, .ref da_least, .ref da_firstTo, .int d_steps, .int d_roundFrom, .int d_roundMany, .int d_numberAt])), (da_many, .inl (cy 0, 5, .inl df_many)), (da_done, .inl (cy 0, 9, .inl df_done))])) (va_A [(da, .inr (13, [.int d_thrown, .int d_tape, .int d_size, .int d_place, .int d_at, .int d_fault, .int d_faultAt, .int d_clauses, .ref da_fed, .ref da_readBody, .ref da_body, .ref da_readMany, .ref da_many, .ref da_without, .ref da_did, .ref da_done, .ref da_bed, .int d_now, .int d_mindAt, .int d_way, .int d_harm, .int d_worth, .int d_passes, .int d_passings, .int d_spots, .int d_images, .ref da_passing, .ref da_spot, .ref da_kept, .ref da_aside, .int d_spare, .ref da_ran, .ref da_who, .ref da_cap, .ref da_w, .ref da_laid, .int d_whoMany, .int d_drifted, .int d_seed, .ref da_cries, .ref da_holds, .ref da_came, .ref da_least, .ref da_firstTo, .int d_steps, .int d_roundFrom, .int d_roundMany, .int d_numberAt])), (da_many, .inl (cy 0, 5, .inl df_many)), (da_done, .inl (cy 0, 9, .inl df_done))] sz)) 0 0 (va_A [(da, .inr (13, [.int d_thrown, .int d_tape, .int d_size, .int d_place, .int d_at, .int d_fault, .int d_faultAt, .int d_clauses, .ref da_fed, .ref da_readBody, .ref da_body, .ref da_readMany, .ref da_many, .ref da_without, .ref da_did, .ref da_done, .ref da_bed, .int d_now, .int d_mindAt, .int d_way, .int d_harm, .int d_worth, .int d_passes, .int d_passings, .int d_spots, .int d_images, .ref da_passing, .ref da_spot, .ref da_kept, .ref da_aside, .int d_spare, .ref da_ran, .ref da_who, .ref da_cap, .ref da_w, .ref da_laid, .int d_whoMany, .int d_drifted, .int d_seed, .ref da_cries, .ref da_holds, .ref da_came, .ref da_least, .ref da_firstTo, .int d_steps, .int d_roundFrom, .int d_roundMany, .int d_numberAt])), (da_many, .inl (cy 0, 5, .inl df_many)), (da_done, .inl (cy 0, 9, .inl df_done))] sz) := by
  refine k_ofW (y := yX12_doneMany) (cc := cX12_doneMany) (maxL := 3) (ret := (some .int)) (av := [.ref da]) (ws := [(da, .inr (13, [.int d_thrown, .int d_tape, .int d_size, .int d_place, .int d_at, .int d_fault, .int d_faultAt, .int d_clauses, .ref da_fed, .ref da_readBody, .ref da_body, .ref da_readMany, .ref da_many, .ref da_without, .ref da_did, .ref da_done, .ref da_bed, .int d_now, .int d_mindAt, .int d_way, .int d_harm, .int d_worth, .int d_passes, .int d_passings, .int d_spots, .int d_images, .ref da_passing, .ref da_spot, .ref da_kept, .ref da_aside, .int d_spare, .ref da_ran, .ref da_who, .ref da_cap, .ref da_w, .ref da_laid, .int d_whoMany, .int d_drifted, .int d_seed, .ref da_cries, .ref da_holds, .ref da_came, .ref da_least, .ref da_firstTo, .int d_steps, .int d_roundFrom, .int d_roundMany, .int d_numberAt])), (da_many, .inl (cy 0, 5, .inl df_many)), (da_done, .inl (cy 0, 9, .inl df_done))]) (Qc := fun A => (va_Qi (fun (r : Int32) (u : Unit) => True) (kB D A (fun (u : Unit) => [(da, .inr (13, [.int d_thrown, .int d_tape, .int d_size, .int d_place, .int d_at, .int d_fault, .int d_faultAt, .int d_clauses, .ref da_fed, .ref da_readBody, .ref da_body, .ref da_readMany, .ref da_many, .ref da_without, .ref da_did, .ref da_done, .ref da_bed, .int d_now, .int d_mindAt, .int d_way, .int d_harm, .int d_worth, .int d_passes, .int d_passings, .int d_spots, .int d_images, .ref da_passing, .ref da_spot, .ref da_kept, .ref da_aside, .int d_spare, .ref da_ran, .ref da_who, .ref da_cap, .ref da_w, .ref da_laid, .int d_whoMany, .int d_drifted, .int d_seed, .ref da_cries, .ref da_holds, .ref da_came, .ref da_least, .ref da_firstTo, .int d_steps, .int d_roundFrom, .int d_roundMany, .int d_numberAt])), (da_many, .inl (cy 0, 5, .inl df_many)), (da_done, .inl (cy 0, 9, .inl df_done))])) A)) (by decide) (Nat.le_of_ble_eq_true rfl) ?_
  intro p e s m below meth c ls A E hA hP hD hG hS hl
  obtain ⟨Q0, hQ0⟩ : ∃ Q0 : State → Prop, Q0 = MQ below (va_Qi (fun (r : Int32) (u : Unit) => True) (kB D A (fun (u : Unit) => [(da, .inr (13, [.int d_thrown, .int d_tape, .int d_size, .int d_place, .int d_at, .int d_fault, .int d_faultAt, .int d_clauses, .ref da_fed, .ref da_readBody, .ref da_body, .ref da_readMany, .ref da_many, .ref da_without, .ref da_did, .ref da_done, .ref da_bed, .int d_now, .int d_mindAt, .int d_way, .int d_harm, .int d_worth, .int d_passes, .int d_passings, .int d_spots, .int d_images, .ref da_passing, .ref da_spot, .ref da_kept, .ref da_aside, .int d_spare, .ref da_ran, .ref da_who, .ref da_cap, .ref da_w, .ref da_laid, .int d_whoMany, .int d_drifted, .int d_seed, .ref da_cries, .ref da_holds, .ref da_came, .ref da_least, .ref da_firstTo, .int d_steps, .int d_roundFrom, .int d_roundMany, .int d_numberAt])), (da_many, .inl (cy 0, 5, .inl df_many)), (da_done, .inl (cy 0, 9, .inl df_done))])) A) ([.ref da] : List Value).toArray s 0 0 A := ⟨_, rfl⟩
  rw [← hQ0]
  obtain ⟨hx, hb, hml, hown, hts, hr, hlk, hnm⟩ := id E
  have hown : s.vm.findClass RX12 = some m.cls := hown
  have hl : lv_has ls 3 [(0, .ref da)] := hl
  obtain ⟨H, hH⟩ : ∃ H, H = s.heap := ⟨_, rfl⟩
  have hP : va_P D vwCl [(da, .inr (13, [.int d_thrown, .int d_tape, .int d_size, .int d_place, .int d_at, .int d_fault, .int d_faultAt, .int d_clauses, .ref da_fed, .ref da_readBody, .ref da_body, .ref da_readMany, .ref da_many, .ref da_without, .ref da_did, .ref da_done, .ref da_bed, .int d_now, .int d_mindAt, .int d_way, .int d_harm, .int d_worth, .int d_passes, .int d_passings, .int d_spots, .int d_images, .ref da_passing, .ref da_spot, .ref da_kept, .ref da_aside, .int d_spare, .ref da_ran, .ref da_who, .ref da_cap, .ref da_w, .ref da_laid, .int d_whoMany, .int d_drifted, .int d_seed, .ref da_cries, .ref da_holds, .ref da_came, .ref da_least, .ref da_firstTo, .int d_steps, .int d_roundFrom, .int d_roundMany, .int d_numberAt])), (da_many, .inl (cy 0, 5, .inl df_many)), (da_done, .inl (cy 0, 9, .inl df_done))] H := by rw [hH]; exact hP
  have hS : va_S A s.heap H [] := by rw [hH]; exact va_S.rf
  rw [← hH]
  clear hH
  obtain ⟨locs, hlocs⟩ : ∃ locs : List Loc, locs = [] := ⟨_, rfl⟩
  rw [← hlocs] at hS ⊢
  refine lv_iconst (v := 0) hx hb dX12_doneMany_0 (by decide) ?_
  refine lv_istore_n (lv' := [(1, .int 0), (0, .ref da)]) hx hb dX12_doneMany_1 rfl hl (by decide) rfl (fun ls hl => ?_)
  refine lv_iconst (v := 0) hx hb dX12_doneMany_2 (by decide) ?_
  refine lv_istore_n (lv' := [(2, .int 0), (1, .int 0), (0, .ref da)]) hx hb dX12_doneMany_3 rfl hl (by decide) rfl (fun ls hl => ?_)
  have k1q : ∀ (n : Nat) (k1qy1 : Int32) (k1qy2 : Int32) (H : Heap) (locs : List Loc) (ls : Array Slot), 0 ≤ k1qy2.toInt ∧ k1qy2.toInt ≤ 9 → (9 - k1qy2.toInt).toNat = n → va_P D vwCl [(da, .inr (13, [.int d_thrown, .int d_tape, .int d_size, .int d_place, .int d_at, .int d_fault, .int d_faultAt, .int d_clauses, .ref da_fed, .ref da_readBody, .ref da_body, .ref da_readMany, .ref da_many, .ref da_without, .ref da_did, .ref da_done, .ref da_bed, .int d_now, .int d_mindAt, .int d_way, .int d_harm, .int d_worth, .int d_passes, .int d_passings, .int d_spots, .int d_images, .ref da_passing, .ref da_spot, .ref da_kept, .ref da_aside, .int d_spare, .ref da_ran, .ref da_who, .ref da_cap, .ref da_w, .ref da_laid, .int d_whoMany, .int d_drifted, .int d_seed, .ref da_cries, .ref da_holds, .ref da_came, .ref da_least, .ref da_firstTo, .int d_steps, .int d_roundFrom, .int d_roundMany, .int d_numberAt])), (da_many, .inl (cy 0, 5, .inl df_many)), (da_done, .inl (cy 0, 9, .inl df_done))] H → va_D A [(da, .inr (13, [.int d_thrown, .int d_tape, .int d_size, .int d_place, .int d_at, .int d_fault, .int d_faultAt, .int d_clauses, .ref da_fed, .ref da_readBody, .ref da_body, .ref da_readMany, .ref da_many, .ref da_without, .ref da_did, .ref da_done, .ref da_bed, .int d_now, .int d_mindAt, .int d_way, .int d_harm, .int d_worth, .int d_passes, .int d_passings, .int d_spots, .int d_images, .ref da_passing, .ref da_spot, .ref da_kept, .ref da_aside, .int d_spare, .ref da_ran, .ref da_who, .ref da_cap, .ref da_w, .ref da_laid, .int d_whoMany, .int d_drifted, .int d_seed, .ref da_cries, .ref da_holds, .ref da_came, .ref da_least, .ref da_firstTo, .int d_steps, .int d_roundFrom, .int d_roundMany, .int d_numberAt])), (da_many, .inl (cy 0, 5, .inl df_many)), (da_done, .inl (cy 0, 9, .inl df_done))] → va_S A s.heap H locs → lv_has ls 3 [(2, .int k1qy2), (1, .int k1qy1), (0, .ref da)] → W p l e ({ frames := 10, cells := 0, slots := 0, locals := 300 }) s m ([.ref da] : List Value).toArray below meth c H locs 0 0 Q0 (F0 m 4 ls []) := by
    intro n
    induction n using Nat.strongRecOn with
    | ind n k1qih =>
      intro k1qy1 k1qy2 H locs ls hk1qy2 k1qm hP hD hS hl
      have gk1qy1 := k_rng k1qy1
      refine lv_iload_n hx hb dX12_doneMany_4 rfl (lv_at hl 0 rfl) ?_
      refine lv_aload_n hx hb dX12_doneMany_5 rfl (lv_at hl 2 rfl) ?_
      refine va_get (D := D) (ci := 13) (v := .ref da_many) (C := RX12) (T := TX12) (N := 48) hx hb hts kin_RX12 hown hG.1 hP 0 rfl rfl 12 (by decide) (hts _ wm_1531) (fun _ h9 => h9) rfl dX12_doneMany_6 ?_
      refine lv_iconst (v := 0) hx hb dX12_doneMany_9 (by decide) ?_
      refine va_iald hx hb hG.1 hP 1 0 rfl rfl (by unfold vp_in; decide) dX12_doneMany_10 ?_
      refine lv_topi (fun x2q ex2q => ?_)
      have rx2q : x2q.toInt = (df_many 0).toInt := by rw [ex2q]; rfl
      refine lv_icmp_ge (tgt := 29) hx hb dX12_doneMany_11 (by decide) (fun c3q => ?_) (fun c3q => ?_)
      · simp only [k_lt, k_le, k_eq, ne_eq, ge_iff_le, gt_iff_lt] at c3q
        refine lv_iload_n hx hb dX12_doneMany_29 rfl (lv_at hl 1 rfl) ?_
        rw [hQ0]
        exact k_iret () hx hb hr hlk (trivial) (hP.sub [0, 1, 2] rfl) (hD.sub [0, 1, 2] (by decide) rfl) hS (by decide) (by decide) dX12_doneMany_30
      · simp only [k_lt, k_le, k_eq, ne_eq, ge_iff_le, gt_iff_lt] at c3q
        refine lv_iload_n hx hb dX12_doneMany_14 rfl (lv_at hl 1 rfl) ?_
        refine lv_aload_n hx hb dX12_doneMany_15 rfl (lv_at hl 2 rfl) ?_
        refine va_get (D := D) (ci := 13) (v := .ref da_done) (C := RX12) (T := TX12) (N := 48) hx hb hts kin_RX12 hown hG.1 hP 0 rfl rfl 15 (by decide) (hts _ wm_1534) (fun _ h9 => h9) rfl dX12_doneMany_16 ?_
        refine lv_iload_n hx hb dX12_doneMany_19 rfl (lv_at hl 0 rfl) ?_
        refine va_iald hx hb hG.1 hP 2 0 rfl rfl (n_in (by omega) (by omega)) dX12_doneMany_20 ?_
        refine lv_topi (fun x4q ex4q => ?_)
        refine lv_iadd hx hb dX12_doneMany_21 ?_
        refine lv_topi (fun x5q ex5q => ?_)
        have gx5q := k_rng k1qy1
        have gx5q := k_rng x4q
        refine lv_istore_n (lv' := [(1, .int x5q), (2, .int k1qy2), (0, .ref da)]) hx hb dX12_doneMany_22 rfl hl (by decide) rfl (fun ls hl => ?_)
        obtain ⟨x6q, ex6q⟩ : ∃ z : Int32, z = k1qy2 + 1 := ⟨_, rfl⟩
        refine lv_iinc (v := x6q) (lv' := [(2, .int x6q), (1, .int x5q), (0, .ref da)]) hx hb dX12_doneMany_23 hl (k := 1) rfl (by rw [ex6q]; rfl) (by decide) rfl (fun ls hl => ?_)
        have rx6q := n_add ex6q (a := k1qy2.toInt) (b := 1) rfl n_L1 (by omega) (by omega)
        refine lv_goto (tgt := 4) hx hb dX12_doneMany_26 (by decide) ?_
        exact k1qih ((9 - x6q.toInt).toNat) (by omega) x5q x6q H locs ls ⟨by omega, by omega⟩ rfl hP hD hS (lv_sub hl [0, 1, 2] rfl)
  exact k1q _ 0 0 H locs ls ⟨by rw [n_L0]; omega, by rw [n_L0]; omega⟩ rfl hP hD hS (lv_sub hl [0, 1, 2] rfl)
