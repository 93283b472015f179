theorem wm_240 : Cond.fieldLink RX6 18 "LentMinds$Plan" "passings" "I" ∈ kWS := kws_at 240 (by decide +kernel) (by decide +kernel)
theorem wm_245 : Cond.fieldLink RX6 28 "LentMinds$Plan" "spots" "I" ∈ kWS := kws_at 245 (by decide +kernel) (by decide +kernel)
theorem wm_236 : Cond.fieldLink RX6 9 "LentMinds$Plan" "minute" "[I" ∈ kWS := kws_at 236 (by decide +kernel) (by decide +kernel)
theorem wm_904 : Cond.methodLink RX6 34 arraycopyName ∈ kWS := kws_at 904 (by decide +kernel) (by decide +kernel)
theorem wm_238 : Cond.fieldLink RX6 15 "LentMinds$Plan" "body" "[I" ∈ kWS := kws_at 238 (by decide +kernel) (by decide +kernel)
theorem wm_243 : Cond.fieldLink RX6 22 "LentMinds$Plan" "spotX" "[I" ∈ kWS := kws_at 243 (by decide +kernel) (by decide +kernel)
theorem wm_244 : Cond.fieldLink RX6 25 "LentMinds$Plan" "spotY" "[I" ∈ kWS := kws_at 244 (by decide +kernel) (by decide +kernel)
theorem n_L30 : (30 : Int32).toInt = 30 := by decide
theorem n_L6 : (6 : Int32).toInt = 6 := by decide
theorem wm_247 : Cond.fieldLink RX6 31 "LentMinds$Plan" "order" "[I" ∈ kWS := kws_at 247 (by decide +kernel) (by decide +kernel)
theorem wm_1446 : Cond.methodLink RX6 52 yX2_costOfWay ∈ kWS := kws_at 1446 (by decide +kernel) (by decide +kernel)
theorem lk_VRX6_52 : kLV RX6 52 yX2_costOfWay (Cond.code yX2_costOfWay cX2_costOfWay 4 (some .int)) 2 := ⟨wm_1446, wm_531, wm_532, wm_3, wm_533, ⟨by decide +kernel, by decide +kernel, by decide +kernel⟩⟩
theorem n_L2 : (2 : Int32).toInt = 2 := by decide
theorem wm_1454 : Cond.code yX6_swap cX6_swap 4 none ∈ kWS := kws_at 1454 (by decide +kernel) (by decide +kernel)
theorem wm_1451 : Cond.methodLink RX6 58 yX6_swap ∈ kWS := kws_at 1451 (by decide +kernel) (by decide +kernel)
theorem wm_s37 : Cond.selects RX6 yX6_swap yX6_swap ∈ kWS := kws_sel 37 (by decide +kernel) (by decide +kernel)
theorem wm_1453 : Cond.instanceMethod yX6_swap ∈ kWS := kws_at 1453 (by decide +kernel) (by decide +kernel)
theorem wm_5 : Cond.initialized RX6 ∈ kWS := kws_at 5 (by decide +kernel) (by decide +kernel)
theorem lk_VRX6_58 : kLV RX6 58 yX6_swap (Cond.code yX6_swap cX6_swap 4 none) 2 := ⟨wm_1451, wm_1453, wm_s37, wm_5, wm_1454, ⟨by decide +kernel, by decide +kernel, by decide +kernel⟩⟩
theorem wm_1441 : Cond.code yX6_orderAsDigits cX6_orderAsDigits 3 (some .int) ∈ kWS := kws_at 1441 (by decide +kernel) (by decide +kernel)
theorem wm_1438 : Cond.methodLink RX6 40 yX6_orderAsDigits ∈ kWS := kws_at 1438 (by decide +kernel) (by decide +kernel)
theorem wm_s34 : Cond.selects RX6 yX6_orderAsDigits yX6_orderAsDigits ∈ kWS := kws_sel 34 (by decide +kernel) (by decide +kernel)
theorem wm_1440 : Cond.instanceMethod yX6_orderAsDigits ∈ kWS := kws_at 1440 (by decide +kernel) (by decide +kernel)
theorem lk_VRX6_40 : kLV RX6 40 yX6_orderAsDigits (Cond.code yX6_orderAsDigits cX6_orderAsDigits 3 (some .int)) 0 := ⟨wm_1438, wm_1440, wm_s34, wm_5, wm_1441, ⟨by decide +kernel, by decide +kernel, by decide +kernel⟩⟩
theorem wm_1445 : Cond.code yX6_costOfOrder cX6_costOfOrder 6 (some .int) ∈ kWS := kws_at 1445 (by decide +kernel) (by decide +kernel)
theorem wm_1442 : Cond.methodLink RX6 44 yX6_costOfOrder ∈ kWS := kws_at 1442 (by decide +kernel) (by decide +kernel)
theorem wm_s35 : Cond.selects RX6 yX6_costOfOrder yX6_costOfOrder ∈ kWS := kws_sel 35 (by decide +kernel) (by decide +kernel)
theorem wm_1444 : Cond.instanceMethod yX6_costOfOrder ∈ kWS := kws_at 1444 (by decide +kernel) (by decide +kernel)
theorem lk_VRX6_44 : kLV RX6 44 yX6_costOfOrder (Cond.code yX6_costOfOrder cX6_costOfOrder 6 (some .int)) 1 := ⟨wm_1442, wm_1444, wm_s35, wm_5, wm_1445, ⟨by decide +kernel, by decide +kernel, by decide +kernel⟩⟩
theorem wm_1450 : Cond.code yX6_nextOrder cX6_nextOrder 5 (some .boolean) ∈ kWS := kws_at 1450 (by decide +kernel) (by decide +kernel)
theorem wm_1447 : Cond.methodLink RX6 48 yX6_nextOrder ∈ kWS := kws_at 1447 (by decide +kernel) (by decide +kernel)
theorem wm_s36 : Cond.selects RX6 yX6_nextOrder yX6_nextOrder ∈ kWS := kws_sel 36 (by decide +kernel) (by decide +kernel)
theorem wm_1449 : Cond.instanceMethod yX6_nextOrder ∈ kWS := kws_at 1449 (by decide +kernel) (by decide +kernel)
theorem lk_VRX6_48 : kLV RX6 48 yX6_nextOrder (Cond.code yX6_nextOrder cX6_nextOrder 5 (some .boolean)) 0 := ⟨wm_1447, wm_1449, wm_s36, wm_5, wm_1450, ⟨by decide +kernel, by decide +kernel, by decide +kernel⟩⟩
theorem n_L720 : (720 : Int32).toInt = 720 := by decide
theorem dX6_begin_0 : decode cX6_begin 0 = .ok (.aload_n 0, 1) := by decide +kernel
theorem dX6_begin_1 : decode cX6_begin 1 = .ok (.iconst 0, 1) := by decide +kernel
theorem dX6_begin_2 : decode cX6_begin 2 = .ok (.putfield 18, 3) := by decide +kernel
theorem dX6_begin_5 : decode cX6_begin 5 = .ok (.aload_n 0, 1) := by decide +kernel
theorem dX6_begin_6 : decode cX6_begin 6 = .ok (.iconst 0, 1) := by decide +kernel
theorem dX6_begin_7 : decode cX6_begin 7 = .ok (.putfield 28, 3) := by decide +kernel
theorem dX6_begin_10 : decode cX6_begin 10 = .ok (.return_, 1) := by decide +kernel
theorem dX6_copy_0 : decode cX6_copy 0 = .ok (.aload_n 1, 1) := by decide +kernel
theorem dX6_copy_1 : decode cX6_copy 1 = .ok (.getfield 9, 3) := by decide +kernel
theorem dX6_copy_4 : decode cX6_copy 4 = .ok (.iconst 0, 1) := by decide +kernel
theorem dX6_copy_5 : decode cX6_copy 5 = .ok (.aload_n 0, 1) := by decide +kernel
theorem dX6_copy_6 : decode cX6_copy 6 = .ok (.getfield 9, 3) := by decide +kernel
theorem dX6_copy_9 : decode cX6_copy 9 = .ok (.iconst 0, 1) := by decide +kernel
theorem dX6_copy_10 : decode cX6_copy 10 = .ok (.bipush 30, 2) := by decide +kernel
theorem dX6_copy_12 : decode cX6_copy 12 = .ok (.invokestatic 34, 3) := by decide +kernel
theorem dX6_copy_15 : decode cX6_copy 15 = .ok (.aload_n 1, 1) := by decide +kernel
theorem dX6_copy_16 : decode cX6_copy 16 = .ok (.getfield 15, 3) := by decide +kernel
theorem dX6_copy_19 : decode cX6_copy 19 = .ok (.iconst 0, 1) := by decide +kernel
theorem dX6_copy_20 : decode cX6_copy 20 = .ok (.aload_n 0, 1) := by decide +kernel
theorem dX6_copy_21 : decode cX6_copy 21 = .ok (.getfield 15, 3) := by decide +kernel
theorem dX6_copy_24 : decode cX6_copy 24 = .ok (.iconst 0, 1) := by decide +kernel
theorem dX6_copy_25 : decode cX6_copy 25 = .ok (.bipush 30, 2) := by decide +kernel
theorem dX6_copy_27 : decode cX6_copy 27 = .ok (.invokestatic 34, 3) := by decide +kernel
theorem dX6_copy_30 : decode cX6_copy 30 = .ok (.aload_n 0, 1) := by decide +kernel
theorem dX6_copy_31 : decode cX6_copy 31 = .ok (.aload_n 1, 1) := by decide +kernel
theorem dX6_copy_32 : decode cX6_copy 32 = .ok (.getfield 18, 3) := by decide +kernel
theorem dX6_copy_35 : decode cX6_copy 35 = .ok (.putfield 18, 3) := by decide +kernel
theorem dX6_copy_38 : decode cX6_copy 38 = .ok (.aload_n 1, 1) := by decide +kernel
theorem dX6_copy_39 : decode cX6_copy 39 = .ok (.getfield 22, 3) := by decide +kernel
theorem dX6_copy_42 : decode cX6_copy 42 = .ok (.iconst 0, 1) := by decide +kernel
theorem dX6_copy_43 : decode cX6_copy 43 = .ok (.aload_n 0, 1) := by decide +kernel
theorem dX6_copy_44 : decode cX6_copy 44 = .ok (.getfield 22, 3) := by decide +kernel
theorem dX6_copy_47 : decode cX6_copy 47 = .ok (.iconst 0, 1) := by decide +kernel
theorem dX6_copy_48 : decode cX6_copy 48 = .ok (.bipush 6, 2) := by decide +kernel
theorem dX6_copy_50 : decode cX6_copy 50 = .ok (.invokestatic 34, 3) := by decide +kernel
theorem dX6_copy_53 : decode cX6_copy 53 = .ok (.aload_n 1, 1) := by decide +kernel
theorem dX6_copy_54 : decode cX6_copy 54 = .ok (.getfield 25, 3) := by decide +kernel
theorem dX6_copy_57 : decode cX6_copy 57 = .ok (.iconst 0, 1) := by decide +kernel
theorem dX6_copy_58 : decode cX6_copy 58 = .ok (.aload_n 0, 1) := by decide +kernel
theorem dX6_copy_59 : decode cX6_copy 59 = .ok (.getfield 25, 3) := by decide +kernel
theorem dX6_copy_62 : decode cX6_copy 62 = .ok (.iconst 0, 1) := by decide +kernel
theorem dX6_copy_63 : decode cX6_copy 63 = .ok (.bipush 6, 2) := by decide +kernel
theorem dX6_copy_65 : decode cX6_copy 65 = .ok (.invokestatic 34, 3) := by decide +kernel
theorem dX6_copy_68 : decode cX6_copy 68 = .ok (.aload_n 0, 1) := by decide +kernel
theorem dX6_copy_69 : decode cX6_copy 69 = .ok (.aload_n 1, 1) := by decide +kernel
theorem dX6_copy_70 : decode cX6_copy 70 = .ok (.getfield 28, 3) := by decide +kernel
theorem dX6_copy_73 : decode cX6_copy 73 = .ok (.putfield 28, 3) := by decide +kernel
theorem dX6_copy_76 : decode cX6_copy 76 = .ok (.return_, 1) := by decide +kernel
theorem dX6_addPassing_0 : decode cX6_addPassing 0 = .ok (.aload_n 0, 1) := by decide +kernel
theorem dX6_addPassing_1 : decode cX6_addPassing 1 = .ok (.getfield 18, 3) := by decide +kernel
theorem dX6_addPassing_4 : decode cX6_addPassing 4 = .ok (.bipush 30, 2) := by decide +kernel
theorem dX6_addPassing_6 : decode cX6_addPassing 6 = .ok (.if_icmp .lt 5, 3) := by decide +kernel
theorem dX6_addPassing_9 : decode cX6_addPassing 9 = .ok (.iconst 0, 1) := by decide +kernel
theorem dX6_addPassing_10 : decode cX6_addPassing 10 = .ok (.ireturn, 1) := by decide +kernel
theorem dX6_addPassing_11 : decode cX6_addPassing 11 = .ok (.aload_n 0, 1) := by decide +kernel
theorem dX6_addPassing_12 : decode cX6_addPassing 12 = .ok (.getfield 9, 3) := by decide +kernel
theorem dX6_addPassing_15 : decode cX6_addPassing 15 = .ok (.aload_n 0, 1) := by decide +kernel
theorem dX6_addPassing_16 : decode cX6_addPassing 16 = .ok (.getfield 18, 3) := by decide +kernel
theorem dX6_addPassing_19 : decode cX6_addPassing 19 = .ok (.iload_n 1, 1) := by decide +kernel
theorem dX6_addPassing_20 : decode cX6_addPassing 20 = .ok (.iastore, 1) := by decide +kernel
theorem dX6_addPassing_21 : decode cX6_addPassing 21 = .ok (.aload_n 0, 1) := by decide +kernel
theorem dX6_addPassing_22 : decode cX6_addPassing 22 = .ok (.getfield 15, 3) := by decide +kernel
theorem dX6_addPassing_25 : decode cX6_addPassing 25 = .ok (.aload_n 0, 1) := by decide +kernel
theorem dX6_addPassing_26 : decode cX6_addPassing 26 = .ok (.getfield 18, 3) := by decide +kernel
theorem dX6_addPassing_29 : decode cX6_addPassing 29 = .ok (.iload_n 2, 1) := by decide +kernel
theorem dX6_addPassing_30 : decode cX6_addPassing 30 = .ok (.iastore, 1) := by decide +kernel
theorem dX6_addPassing_31 : decode cX6_addPassing 31 = .ok (.aload_n 0, 1) := by decide +kernel
theorem dX6_addPassing_32 : decode cX6_addPassing 32 = .ok (.dup, 1) := by decide +kernel
theorem dX6_addPassing_33 : decode cX6_addPassing 33 = .ok (.getfield 18, 3) := by decide +kernel
theorem dX6_addPassing_36 : decode cX6_addPassing 36 = .ok (.iconst 1, 1) := by decide +kernel
theorem dX6_addPassing_37 : decode cX6_addPassing 37 = .ok (.iadd, 1) := by decide +kernel
theorem dX6_addPassing_38 : decode cX6_addPassing 38 = .ok (.putfield 18, 3) := by decide +kernel
theorem dX6_addPassing_41 : decode cX6_addPassing 41 = .ok (.iconst 1, 1) := by decide +kernel
theorem dX6_addPassing_42 : decode cX6_addPassing 42 = .ok (.ireturn, 1) := by decide +kernel
theorem dX6_addSpot_0 : decode cX6_addSpot 0 = .ok (.aload_n 0, 1) := by decide +kernel
theorem dX6_addSpot_1 : decode cX6_addSpot 1 = .ok (.getfield 28, 3) := by decide +kernel
theorem dX6_addSpot_4 : decode cX6_addSpot 4 = .ok (.bipush 6, 2) := by decide +kernel
theorem dX6_addSpot_6 : decode cX6_addSpot 6 = .ok (.if_icmp .lt 5, 3) := by decide +kernel
theorem dX6_addSpot_9 : decode cX6_addSpot 9 = .ok (.iconst 0, 1) := by decide +kernel
theorem dX6_addSpot_10 : decode cX6_addSpot 10 = .ok (.ireturn, 1) := by decide +kernel
theorem dX6_addSpot_11 : decode cX6_addSpot 11 = .ok (.aload_n 0, 1) := by decide +kernel
theorem dX6_addSpot_12 : decode cX6_addSpot 12 = .ok (.getfield 22, 3) := by decide +kernel
theorem dX6_addSpot_15 : decode cX6_addSpot 15 = .ok (.aload_n 0, 1) := by decide +kernel
theorem dX6_addSpot_16 : decode cX6_addSpot 16 = .ok (.getfield 28, 3) := by decide +kernel
theorem dX6_addSpot_19 : decode cX6_addSpot 19 = .ok (.iload_n 1, 1) := by decide +kernel
theorem dX6_addSpot_20 : decode cX6_addSpot 20 = .ok (.iastore, 1) := by decide +kernel
theorem dX6_addSpot_21 : decode cX6_addSpot 21 = .ok (.aload_n 0, 1) := by decide +kernel
theorem dX6_addSpot_22 : decode cX6_addSpot 22 = .ok (.getfield 25, 3) := by decide +kernel
theorem dX6_addSpot_25 : decode cX6_addSpot 25 = .ok (.aload_n 0, 1) := by decide +kernel
theorem dX6_addSpot_26 : decode cX6_addSpot 26 = .ok (.getfield 28, 3) := by decide +kernel
theorem dX6_addSpot_29 : decode cX6_addSpot 29 = .ok (.iload_n 2, 1) := by decide +kernel
theorem dX6_addSpot_30 : decode cX6_addSpot 30 = .ok (.iastore, 1) := by decide +kernel
theorem dX6_addSpot_31 : decode cX6_addSpot 31 = .ok (.aload_n 0, 1) := by decide +kernel
theorem dX6_addSpot_32 : decode cX6_addSpot 32 = .ok (.dup, 1) := by decide +kernel
theorem dX6_addSpot_33 : decode cX6_addSpot 33 = .ok (.getfield 28, 3) := by decide +kernel
theorem dX6_addSpot_36 : decode cX6_addSpot 36 = .ok (.iconst 1, 1) := by decide +kernel
theorem dX6_addSpot_37 : decode cX6_addSpot 37 = .ok (.iadd, 1) := by decide +kernel
theorem dX6_addSpot_38 : decode cX6_addSpot 38 = .ok (.putfield 28, 3) := by decide +kernel
theorem dX6_addSpot_41 : decode cX6_addSpot 41 = .ok (.iconst 1, 1) := by decide +kernel
theorem dX6_addSpot_42 : decode cX6_addSpot 42 = .ok (.ireturn, 1) := by decide +kernel
theorem dX6_swap_0 : decode cX6_swap 0 = .ok (.aload_n 0, 1) := by decide +kernel
theorem dX6_swap_1 : decode cX6_swap 1 = .ok (.getfield 31, 3) := by decide +kernel
theorem dX6_swap_4 : decode cX6_swap 4 = .ok (.iload_n 1, 1) := by decide +kernel
theorem dX6_swap_5 : decode cX6_swap 5 = .ok (.iaload, 1) := by decide +kernel
theorem dX6_swap_6 : decode cX6_swap 6 = .ok (.istore_n 3, 1) := by decide +kernel
theorem dX6_swap_7 : decode cX6_swap 7 = .ok (.aload_n 0, 1) := by decide +kernel
theorem dX6_swap_8 : decode cX6_swap 8 = .ok (.getfield 31, 3) := by decide +kernel
theorem dX6_swap_11 : decode cX6_swap 11 = .ok (.iload_n 1, 1) := by decide +kernel
theorem dX6_swap_12 : decode cX6_swap 12 = .ok (.aload_n 0, 1) := by decide +kernel
theorem dX6_swap_13 : decode cX6_swap 13 = .ok (.getfield 31, 3) := by decide +kernel
theorem dX6_swap_16 : decode cX6_swap 16 = .ok (.iload_n 2, 1) := by decide +kernel
theorem dX6_swap_17 : decode cX6_swap 17 = .ok (.iaload, 1) := by decide +kernel
theorem dX6_swap_18 : decode cX6_swap 18 = .ok (.iastore, 1) := by decide +kernel
theorem dX6_swap_19 : decode cX6_swap 19 = .ok (.aload_n 0, 1) := by decide +kernel
theorem dX6_swap_20 : decode cX6_swap 20 = .ok (.getfield 31, 3) := by decide +kernel
theorem dX6_swap_23 : decode cX6_swap 23 = .ok (.iload_n 2, 1) := by decide +kernel
theorem dX6_swap_24 : decode cX6_swap 24 = .ok (.iload_n 3, 1) := by decide +kernel
theorem dX6_swap_25 : decode cX6_swap 25 = .ok (.iastore, 1) := by decide +kernel
theorem dX6_swap_26 : decode cX6_swap 26 = .ok (.return_, 1) := by decide +kernel
theorem dX6_orderAsDigits_0 : decode cX6_orderAsDigits 0 = .ok (.iconst 0, 1) := by decide +kernel
theorem dX6_orderAsDigits_1 : decode cX6_orderAsDigits 1 = .ok (.istore_n 1, 1) := by decide +kernel
theorem dX6_orderAsDigits_2 : decode cX6_orderAsDigits 2 = .ok (.iconst 0, 1) := by decide +kernel
theorem dX6_orderAsDigits_3 : decode cX6_orderAsDigits 3 = .ok (.istore_n 2, 1) := by decide +kernel
theorem dX6_orderAsDigits_4 : decode cX6_orderAsDigits 4 = .ok (.iload_n 2, 1) := by decide +kernel
theorem dX6_orderAsDigits_5 : decode cX6_orderAsDigits 5 = .ok (.aload_n 0, 1) := by decide +kernel
theorem dX6_orderAsDigits_6 : decode cX6_orderAsDigits 6 = .ok (.getfield 28, 3) := by decide +kernel
theorem dX6_orderAsDigits_9 : decode cX6_orderAsDigits 9 = .ok (.if_icmp .ge 21, 3) := by decide +kernel
theorem dX6_orderAsDigits_12 : decode cX6_orderAsDigits 12 = .ok (.iload_n 1, 1) := by decide +kernel
theorem dX6_orderAsDigits_13 : decode cX6_orderAsDigits 13 = .ok (.bipush 6, 2) := by decide +kernel
theorem dX6_orderAsDigits_15 : decode cX6_orderAsDigits 15 = .ok (.imul, 1) := by decide +kernel
theorem dX6_orderAsDigits_16 : decode cX6_orderAsDigits 16 = .ok (.aload_n 0, 1) := by decide +kernel
theorem dX6_orderAsDigits_17 : decode cX6_orderAsDigits 17 = .ok (.getfield 31, 3) := by decide +kernel
theorem dX6_orderAsDigits_20 : decode cX6_orderAsDigits 20 = .ok (.iload_n 2, 1) := by decide +kernel
theorem dX6_orderAsDigits_21 : decode cX6_orderAsDigits 21 = .ok (.iaload, 1) := by decide +kernel
theorem dX6_orderAsDigits_22 : decode cX6_orderAsDigits 22 = .ok (.iadd, 1) := by decide +kernel
theorem dX6_orderAsDigits_23 : decode cX6_orderAsDigits 23 = .ok (.istore_n 1, 1) := by decide +kernel
theorem dX6_orderAsDigits_24 : decode cX6_orderAsDigits 24 = .ok (.iinc 2 1, 3) := by decide +kernel
theorem dX6_orderAsDigits_27 : decode cX6_orderAsDigits 27 = .ok (.goto (-23), 3) := by decide +kernel
theorem dX6_orderAsDigits_30 : decode cX6_orderAsDigits 30 = .ok (.iload_n 1, 1) := by decide +kernel
theorem dX6_orderAsDigits_31 : decode cX6_orderAsDigits 31 = .ok (.ireturn, 1) := by decide +kernel
theorem dX6_costOfOrder_0 : decode cX6_costOfOrder 0 = .ok (.iconst 0, 1) := by decide +kernel
theorem dX6_costOfOrder_1 : decode cX6_costOfOrder 1 = .ok (.istore_n 2, 1) := by decide +kernel
theorem dX6_costOfOrder_2 : decode cX6_costOfOrder 2 = .ok (.iconst 0, 1) := by decide +kernel
theorem dX6_costOfOrder_3 : decode cX6_costOfOrder 3 = .ok (.istore_n 3, 1) := by decide +kernel
theorem dX6_costOfOrder_4 : decode cX6_costOfOrder 4 = .ok (.iload_n 3, 1) := by decide +kernel
theorem dX6_costOfOrder_5 : decode cX6_costOfOrder 5 = .ok (.aload_n 0, 1) := by decide +kernel
theorem dX6_costOfOrder_6 : decode cX6_costOfOrder 6 = .ok (.getfield 28, 3) := by decide +kernel
theorem dX6_costOfOrder_9 : decode cX6_costOfOrder 9 = .ok (.if_icmp .ge 86, 3) := by decide +kernel
theorem dX6_costOfOrder_12 : decode cX6_costOfOrder 12 = .ok (.aload_n 0, 1) := by decide +kernel
theorem dX6_costOfOrder_13 : decode cX6_costOfOrder 13 = .ok (.getfield 28, 3) := by decide +kernel
theorem dX6_costOfOrder_16 : decode cX6_costOfOrder 16 = .ok (.iconst 1, 1) := by decide +kernel
theorem dX6_costOfOrder_17 : decode cX6_costOfOrder 17 = .ok (.if_icmp .le 78, 3) := by decide +kernel
theorem dX6_costOfOrder_20 : decode cX6_costOfOrder 20 = .ok (.aload_n 0, 1) := by decide +kernel
theorem dX6_costOfOrder_21 : decode cX6_costOfOrder 21 = .ok (.getfield 31, 3) := by decide +kernel
theorem dX6_costOfOrder_24 : decode cX6_costOfOrder 24 = .ok (.iload_n 3, 1) := by decide +kernel
theorem dX6_costOfOrder_25 : decode cX6_costOfOrder 25 = .ok (.iaload, 1) := by decide +kernel
theorem dX6_costOfOrder_26 : decode cX6_costOfOrder 26 = .ok (.istore 4, 2) := by decide +kernel
theorem dX6_costOfOrder_28 : decode cX6_costOfOrder 28 = .ok (.aload_n 0, 1) := by decide +kernel
theorem dX6_costOfOrder_29 : decode cX6_costOfOrder 29 = .ok (.getfield 31, 3) := by decide +kernel
theorem dX6_costOfOrder_32 : decode cX6_costOfOrder 32 = .ok (.iload_n 3, 1) := by decide +kernel
theorem dX6_costOfOrder_33 : decode cX6_costOfOrder 33 = .ok (.iconst 1, 1) := by decide +kernel
theorem dX6_costOfOrder_34 : decode cX6_costOfOrder 34 = .ok (.iadd, 1) := by decide +kernel
theorem dX6_costOfOrder_35 : decode cX6_costOfOrder 35 = .ok (.aload_n 0, 1) := by decide +kernel
theorem dX6_costOfOrder_36 : decode cX6_costOfOrder 36 = .ok (.getfield 28, 3) := by decide +kernel
theorem dX6_costOfOrder_39 : decode cX6_costOfOrder 39 = .ok (.if_icmp .ge 9, 3) := by decide +kernel
theorem dX6_costOfOrder_42 : decode cX6_costOfOrder 42 = .ok (.iload_n 3, 1) := by decide +kernel
theorem dX6_costOfOrder_43 : decode cX6_costOfOrder 43 = .ok (.iconst 1, 1) := by decide +kernel
theorem dX6_costOfOrder_44 : decode cX6_costOfOrder 44 = .ok (.iadd, 1) := by decide +kernel
theorem dX6_costOfOrder_45 : decode cX6_costOfOrder 45 = .ok (.goto 4, 3) := by decide +kernel
theorem dX6_costOfOrder_48 : decode cX6_costOfOrder 48 = .ok (.iconst 0, 1) := by decide +kernel
theorem dX6_costOfOrder_49 : decode cX6_costOfOrder 49 = .ok (.iaload, 1) := by decide +kernel
theorem dX6_costOfOrder_50 : decode cX6_costOfOrder 50 = .ok (.istore 5, 2) := by decide +kernel
theorem dX6_costOfOrder_52 : decode cX6_costOfOrder 52 = .ok (.iload_n 2, 1) := by decide +kernel
theorem dX6_costOfOrder_53 : decode cX6_costOfOrder 53 = .ok (.aload_n 1, 1) := by decide +kernel
theorem dX6_costOfOrder_54 : decode cX6_costOfOrder 54 = .ok (.aload_n 0, 1) := by decide +kernel
theorem dX6_costOfOrder_55 : decode cX6_costOfOrder 55 = .ok (.getfield 22, 3) := by decide +kernel
theorem dX6_costOfOrder_58 : decode cX6_costOfOrder 58 = .ok (.iload 4, 2) := by decide +kernel
theorem dX6_costOfOrder_60 : decode cX6_costOfOrder 60 = .ok (.iaload, 1) := by decide +kernel
theorem dX6_costOfOrder_61 : decode cX6_costOfOrder 61 = .ok (.aload_n 0, 1) := by decide +kernel
theorem dX6_costOfOrder_62 : decode cX6_costOfOrder 62 = .ok (.getfield 22, 3) := by decide +kernel
theorem dX6_costOfOrder_65 : decode cX6_costOfOrder 65 = .ok (.iload 5, 2) := by decide +kernel
theorem dX6_costOfOrder_67 : decode cX6_costOfOrder 67 = .ok (.iaload, 1) := by decide +kernel
theorem dX6_costOfOrder_68 : decode cX6_costOfOrder 68 = .ok (.isub, 1) := by decide +kernel
theorem dX6_costOfOrder_69 : decode cX6_costOfOrder 69 = .ok (.aload_n 0, 1) := by decide +kernel
theorem dX6_costOfOrder_70 : decode cX6_costOfOrder 70 = .ok (.getfield 25, 3) := by decide +kernel
theorem dX6_costOfOrder_73 : decode cX6_costOfOrder 73 = .ok (.iload 4, 2) := by decide +kernel
theorem dX6_costOfOrder_75 : decode cX6_costOfOrder 75 = .ok (.iaload, 1) := by decide +kernel
theorem dX6_costOfOrder_76 : decode cX6_costOfOrder 76 = .ok (.aload_n 0, 1) := by decide +kernel
theorem dX6_costOfOrder_77 : decode cX6_costOfOrder 77 = .ok (.getfield 25, 3) := by decide +kernel
theorem dX6_costOfOrder_80 : decode cX6_costOfOrder 80 = .ok (.iload 5, 2) := by decide +kernel
theorem dX6_costOfOrder_82 : decode cX6_costOfOrder 82 = .ok (.iaload, 1) := by decide +kernel
theorem dX6_costOfOrder_83 : decode cX6_costOfOrder 83 = .ok (.isub, 1) := by decide +kernel
theorem dX6_costOfOrder_84 : decode cX6_costOfOrder 84 = .ok (.invokevirtual 52, 3) := by decide +kernel
theorem dX6_costOfOrder_87 : decode cX6_costOfOrder 87 = .ok (.iadd, 1) := by decide +kernel
theorem dX6_costOfOrder_88 : decode cX6_costOfOrder 88 = .ok (.istore_n 2, 1) := by decide +kernel
theorem dX6_costOfOrder_89 : decode cX6_costOfOrder 89 = .ok (.iinc 3 1, 3) := by decide +kernel
theorem dX6_costOfOrder_92 : decode cX6_costOfOrder 92 = .ok (.goto (-88), 3) := by decide +kernel
theorem dX6_costOfOrder_95 : decode cX6_costOfOrder 95 = .ok (.iload_n 2, 1) := by decide +kernel
theorem dX6_costOfOrder_96 : decode cX6_costOfOrder 96 = .ok (.ireturn, 1) := by decide +kernel
theorem dX6_nextOrder_0 : decode cX6_nextOrder 0 = .ok (.aload_n 0, 1) := by decide +kernel
theorem dX6_nextOrder_1 : decode cX6_nextOrder 1 = .ok (.getfield 28, 3) := by decide +kernel
theorem dX6_nextOrder_4 : decode cX6_nextOrder 4 = .ok (.iconst 2, 1) := by decide +kernel
theorem dX6_nextOrder_5 : decode cX6_nextOrder 5 = .ok (.isub, 1) := by decide +kernel
theorem dX6_nextOrder_6 : decode cX6_nextOrder 6 = .ok (.istore_n 1, 1) := by decide +kernel
theorem dX6_nextOrder_7 : decode cX6_nextOrder 7 = .ok (.iload_n 1, 1) := by decide +kernel
theorem dX6_nextOrder_8 : decode cX6_nextOrder 8 = .ok (.ifCond .lt 26, 3) := by decide +kernel
theorem dX6_nextOrder_11 : decode cX6_nextOrder 11 = .ok (.aload_n 0, 1) := by decide +kernel
theorem dX6_nextOrder_12 : decode cX6_nextOrder 12 = .ok (.getfield 31, 3) := by decide +kernel
theorem dX6_nextOrder_15 : decode cX6_nextOrder 15 = .ok (.iload_n 1, 1) := by decide +kernel
theorem dX6_nextOrder_16 : decode cX6_nextOrder 16 = .ok (.iaload, 1) := by decide +kernel
theorem dX6_nextOrder_17 : decode cX6_nextOrder 17 = .ok (.aload_n 0, 1) := by decide +kernel
theorem dX6_nextOrder_18 : decode cX6_nextOrder 18 = .ok (.getfield 31, 3) := by decide +kernel
theorem dX6_nextOrder_21 : decode cX6_nextOrder 21 = .ok (.iload_n 1, 1) := by decide +kernel
theorem dX6_nextOrder_22 : decode cX6_nextOrder 22 = .ok (.iconst 1, 1) := by decide +kernel
theorem dX6_nextOrder_23 : decode cX6_nextOrder 23 = .ok (.iadd, 1) := by decide +kernel
theorem dX6_nextOrder_24 : decode cX6_nextOrder 24 = .ok (.iaload, 1) := by decide +kernel
theorem dX6_nextOrder_25 : decode cX6_nextOrder 25 = .ok (.if_icmp .le 9, 3) := by decide +kernel
theorem dX6_nextOrder_28 : decode cX6_nextOrder 28 = .ok (.iinc 1 (-1), 3) := by decide +kernel
theorem dX6_nextOrder_31 : decode cX6_nextOrder 31 = .ok (.goto (-24), 3) := by decide +kernel
theorem dX6_nextOrder_34 : decode cX6_nextOrder 34 = .ok (.iload_n 1, 1) := by decide +kernel
theorem dX6_nextOrder_35 : decode cX6_nextOrder 35 = .ok (.ifCond .ge 5, 3) := by decide +kernel
theorem dX6_nextOrder_38 : decode cX6_nextOrder 38 = .ok (.iconst 0, 1) := by decide +kernel
theorem dX6_nextOrder_39 : decode cX6_nextOrder 39 = .ok (.ireturn, 1) := by decide +kernel
theorem dX6_nextOrder_40 : decode cX6_nextOrder 40 = .ok (.aload_n 0, 1) := by decide +kernel
theorem dX6_nextOrder_41 : decode cX6_nextOrder 41 = .ok (.getfield 28, 3) := by decide +kernel
theorem dX6_nextOrder_44 : decode cX6_nextOrder 44 = .ok (.iconst 1, 1) := by decide +kernel
theorem dX6_nextOrder_45 : decode cX6_nextOrder 45 = .ok (.isub, 1) := by decide +kernel
theorem dX6_nextOrder_46 : decode cX6_nextOrder 46 = .ok (.istore_n 2, 1) := by decide +kernel
theorem dX6_nextOrder_47 : decode cX6_nextOrder 47 = .ok (.iload_n 2, 1) := by decide +kernel
theorem dX6_nextOrder_48 : decode cX6_nextOrder 48 = .ok (.iload_n 1, 1) := by decide +kernel
theorem dX6_nextOrder_49 : decode cX6_nextOrder 49 = .ok (.if_icmp .le 24, 3) := by decide +kernel
theorem dX6_nextOrder_52 : decode cX6_nextOrder 52 = .ok (.aload_n 0, 1) := by decide +kernel
theorem dX6_nextOrder_53 : decode cX6_nextOrder 53 = .ok (.getfield 31, 3) := by decide +kernel
theorem dX6_nextOrder_56 : decode cX6_nextOrder 56 = .ok (.iload_n 2, 1) := by decide +kernel
theorem dX6_nextOrder_57 : decode cX6_nextOrder 57 = .ok (.iaload, 1) := by decide +kernel
theorem dX6_nextOrder_58 : decode cX6_nextOrder 58 = .ok (.aload_n 0, 1) := by decide +kernel
theorem dX6_nextOrder_59 : decode cX6_nextOrder 59 = .ok (.getfield 31, 3) := by decide +kernel
theorem dX6_nextOrder_62 : decode cX6_nextOrder 62 = .ok (.iload_n 1, 1) := by decide +kernel
theorem dX6_nextOrder_63 : decode cX6_nextOrder 63 = .ok (.iaload, 1) := by decide +kernel
theorem dX6_nextOrder_64 : decode cX6_nextOrder 64 = .ok (.if_icmp .ge 9, 3) := by decide +kernel
theorem dX6_nextOrder_67 : decode cX6_nextOrder 67 = .ok (.iinc 2 (-1), 3) := by decide +kernel
theorem dX6_nextOrder_70 : decode cX6_nextOrder 70 = .ok (.goto (-23), 3) := by decide +kernel
theorem dX6_nextOrder_73 : decode cX6_nextOrder 73 = .ok (.aload_n 0, 1) := by decide +kernel
theorem dX6_nextOrder_74 : decode cX6_nextOrder 74 = .ok (.iload_n 1, 1) := by decide +kernel
theorem dX6_nextOrder_75 : decode cX6_nextOrder 75 = .ok (.iload_n 2, 1) := by decide +kernel
theorem dX6_nextOrder_76 : decode cX6_nextOrder 76 = .ok (.invokevirtual 58, 3) := by decide +kernel
theorem dX6_nextOrder_79 : decode cX6_nextOrder 79 = .ok (.iload_n 1, 1) := by decide +kernel
theorem dX6_nextOrder_80 : decode cX6_nextOrder 80 = .ok (.iconst 1, 1) := by decide +kernel
theorem dX6_nextOrder_81 : decode cX6_nextOrder 81 = .ok (.iadd, 1) := by decide +kernel
theorem dX6_nextOrder_82 : decode cX6_nextOrder 82 = .ok (.istore_n 3, 1) := by decide +kernel
theorem dX6_nextOrder_83 : decode cX6_nextOrder 83 = .ok (.aload_n 0, 1) := by decide +kernel
theorem dX6_nextOrder_84 : decode cX6_nextOrder 84 = .ok (.getfield 28, 3) := by decide +kernel
theorem dX6_nextOrder_87 : decode cX6_nextOrder 87 = .ok (.iconst 1, 1) := by decide +kernel
theorem dX6_nextOrder_88 : decode cX6_nextOrder 88 = .ok (.isub, 1) := by decide +kernel
theorem dX6_nextOrder_89 : decode cX6_nextOrder 89 = .ok (.istore 4, 2) := by decide +kernel
theorem dX6_nextOrder_91 : decode cX6_nextOrder 91 = .ok (.iload_n 3, 1) := by decide +kernel
theorem dX6_nextOrder_92 : decode cX6_nextOrder 92 = .ok (.iload 4, 2) := by decide +kernel
theorem dX6_nextOrder_94 : decode cX6_nextOrder 94 = .ok (.if_icmp .ge 19, 3) := by decide +kernel
theorem dX6_nextOrder_97 : decode cX6_nextOrder 97 = .ok (.aload_n 0, 1) := by decide +kernel
theorem dX6_nextOrder_98 : decode cX6_nextOrder 98 = .ok (.iload_n 3, 1) := by decide +kernel
theorem dX6_nextOrder_99 : decode cX6_nextOrder 99 = .ok (.iload 4, 2) := by decide +kernel
theorem dX6_nextOrder_101 : decode cX6_nextOrder 101 = .ok (.invokevirtual 58, 3) := by decide +kernel
theorem dX6_nextOrder_104 : decode cX6_nextOrder 104 = .ok (.iinc 3 1, 3) := by decide +kernel
theorem dX6_nextOrder_107 : decode cX6_nextOrder 107 = .ok (.iinc 4 (-1), 3) := by decide +kernel
theorem dX6_nextOrder_110 : decode cX6_nextOrder 110 = .ok (.goto (-19), 3) := by decide +kernel
theorem dX6_nextOrder_113 : decode cX6_nextOrder 113 = .ok (.iconst 1, 1) := by decide +kernel
theorem dX6_nextOrder_114 : decode cX6_nextOrder 114 = .ok (.ireturn, 1) := by decide +kernel
theorem dX6_placing_0 : decode cX6_placing 0 = .ok (.iconst 0, 1) := by decide +kernel
theorem dX6_placing_1 : decode cX6_placing 1 = .ok (.istore_n 3, 1) := by decide +kernel
theorem dX6_placing_2 : decode cX6_placing 2 = .ok (.iload_n 3, 1) := by decide +kernel
theorem dX6_placing_3 : decode cX6_placing 3 = .ok (.bipush 6, 2) := by decide +kernel
theorem dX6_placing_5 : decode cX6_placing 5 = .ok (.if_icmp .ge 16, 3) := by decide +kernel
theorem dX6_placing_8 : decode cX6_placing 8 = .ok (.aload_n 0, 1) := by decide +kernel
theorem dX6_placing_9 : decode cX6_placing 9 = .ok (.getfield 31, 3) := by decide +kernel
theorem dX6_placing_12 : decode cX6_placing 12 = .ok (.iload_n 3, 1) := by decide +kernel
theorem dX6_placing_13 : decode cX6_placing 13 = .ok (.iload_n 3, 1) := by decide +kernel
theorem dX6_placing_14 : decode cX6_placing 14 = .ok (.iastore, 1) := by decide +kernel
theorem dX6_placing_15 : decode cX6_placing 15 = .ok (.iinc 3 1, 3) := by decide +kernel
theorem dX6_placing_18 : decode cX6_placing 18 = .ok (.goto (-16), 3) := by decide +kernel
theorem dX6_placing_21 : decode cX6_placing 21 = .ok (.aload_n 0, 1) := by decide +kernel
theorem dX6_placing_22 : decode cX6_placing 22 = .ok (.invokevirtual 40, 3) := by decide +kernel
theorem dX6_placing_25 : decode cX6_placing 25 = .ok (.istore_n 3, 1) := by decide +kernel
theorem dX6_placing_26 : decode cX6_placing 26 = .ok (.aload_n 0, 1) := by decide +kernel
theorem dX6_placing_27 : decode cX6_placing 27 = .ok (.aload_n 1, 1) := by decide +kernel
theorem dX6_placing_28 : decode cX6_placing 28 = .ok (.invokevirtual 44, 3) := by decide +kernel
theorem dX6_placing_31 : decode cX6_placing 31 = .ok (.istore 4, 2) := by decide +kernel
theorem dX6_placing_33 : decode cX6_placing 33 = .ok (.sipush 720, 3) := by decide +kernel
theorem dX6_placing_36 : decode cX6_placing 36 = .ok (.istore 5, 2) := by decide +kernel
theorem dX6_placing_38 : decode cX6_placing 38 = .ok (.iload 5, 2) := by decide +kernel
theorem dX6_placing_40 : decode cX6_placing 40 = .ok (.ifCond .le 39, 3) := by decide +kernel
theorem dX6_placing_43 : decode cX6_placing 43 = .ok (.aload_n 0, 1) := by decide +kernel
theorem dX6_placing_44 : decode cX6_placing 44 = .ok (.invokevirtual 48, 3) := by decide +kernel
theorem dX6_placing_47 : decode cX6_placing 47 = .ok (.ifCond .eq 32, 3) := by decide +kernel
theorem dX6_placing_50 : decode cX6_placing 50 = .ok (.aload_n 0, 1) := by decide +kernel
theorem dX6_placing_51 : decode cX6_placing 51 = .ok (.aload_n 1, 1) := by decide +kernel
theorem dX6_placing_52 : decode cX6_placing 52 = .ok (.invokevirtual 44, 3) := by decide +kernel
theorem dX6_placing_55 : decode cX6_placing 55 = .ok (.istore 6, 2) := by decide +kernel
theorem dX6_placing_57 : decode cX6_placing 57 = .ok (.iload 6, 2) := by decide +kernel
theorem dX6_placing_59 : decode cX6_placing 59 = .ok (.iload 4, 2) := by decide +kernel
theorem dX6_placing_61 : decode cX6_placing 61 = .ok (.if_icmp .ge 12, 3) := by decide +kernel
theorem dX6_placing_64 : decode cX6_placing 64 = .ok (.iload 6, 2) := by decide +kernel
theorem dX6_placing_66 : decode cX6_placing 66 = .ok (.istore 4, 2) := by decide +kernel
theorem dX6_placing_68 : decode cX6_placing 68 = .ok (.aload_n 0, 1) := by decide +kernel
theorem dX6_placing_69 : decode cX6_placing 69 = .ok (.invokevirtual 40, 3) := by decide +kernel
theorem dX6_placing_72 : decode cX6_placing 72 = .ok (.istore_n 3, 1) := by decide +kernel
theorem dX6_placing_73 : decode cX6_placing 73 = .ok (.iinc 5 (-1), 3) := by decide +kernel
theorem dX6_placing_76 : decode cX6_placing 76 = .ok (.goto (-38), 3) := by decide +kernel
theorem dX6_placing_79 : decode cX6_placing 79 = .ok (.iload_n 2, 1) := by decide +kernel
theorem dX6_placing_80 : decode cX6_placing 80 = .ok (.ifCond .eq 7, 3) := by decide +kernel
theorem dX6_placing_83 : decode cX6_placing 83 = .ok (.iload_n 3, 1) := by decide +kernel
theorem dX6_placing_84 : decode cX6_placing 84 = .ok (.goto 5, 3) := by decide +kernel
theorem dX6_placing_87 : decode cX6_placing 87 = .ok (.iload 4, 2) := by decide +kernel
theorem dX6_placing_89 : decode cX6_placing 89 = .ok (.ireturn, 1) := by decide +kernel
set_option maxHeartbeats 4000000 in
set_option maxRecDepth 100000 in
/-- Plan.begin -/
theorem c_pbegin (l : Launch) (hl0 : l.stackTraces = false) (D : va_G) (cy : Nat → ClassId) (sa : Nat → Nat) (qa qa_minute qa_body qa_spotX qa_spotY qa_order : Nat) (q_passings q_spots : Int32) (h_q_passings : 0 ≤ q_passings.toInt ∧ q_passings.toInt ≤ 30) (h_q_spots : 0 ≤ q_spots.toInt ∧ q_spots.toInt ≤ 6) (sz : Nat) : Met l yX6_begin (Cond.code yX6_begin cX6_begin 1 none :: kWS) ({ frames := 10, cells := 0, slots := 0, locals := 300 }) (kPre D cy sa [.ref qa] [(qa, .inr (8, [.ref qa_minute, .ref qa_body, .int q_passings, .ref qa_spotX, .ref qa_spotY, .int q_spots, .ref qa_order]))] sz) (va_Qv (fun (u : (Nat → Int32) × (Nat → Nat → Int32)) => (0 ≤ ((u.1 0)).toInt ∧ ((u.1 0)).toInt ≤ 30) ∧ (0 ≤ ((u.1 1)).toInt ∧ ((u.1 1)).toInt ≤ 6)) (kB D (va_A [(qa, .inr (8, [.ref qa_minute, .ref qa_body, .int q_passings, .ref qa_spotX, .ref qa_spotY, .int q_spots, .ref qa_order]))] sz) (fun (u : (Nat → Int32) × (Nat → Nat → Int32)) => [(qa, .inr (8, [.ref qa_minute, .ref qa_body, .int ((u.1 0)), .ref qa_spotX, .ref qa_spotY, .int ((u.1 1)), .ref qa_order]))])) (va_A [(qa, .inr (8, [.ref qa_minute, .ref qa_body, .int q_passings, .ref qa_spotX, .ref qa_spotY, .int q_spots, .ref qa_order]))] sz)) 0 0 (va_A [(qa, .inr (8, [.ref qa_minute, .ref qa_body, .int q_passings, .ref qa_spotX, .ref qa_spotY, .int q_spots, .ref qa_order]))] sz) := by
  refine k_ofW (y := yX6_begin) (cc := cX6_begin) (maxL := 1) (ret := none) (av := [.ref qa]) (ws := [(qa, .inr (8, [.ref qa_minute, .ref qa_body, .int q_passings, .ref qa_spotX, .ref qa_spotY, .int q_spots, .ref qa_order]))]) (Qc := fun A => (va_Qv (fun (u : (Nat → Int32) × (Nat → Nat → Int32)) => (0 ≤ ((u.1 0)).toInt ∧ ((u.1 0)).toInt ≤ 30) ∧ (0 ≤ ((u.1 1)).toInt ∧ ((u.1 1)).toInt ≤ 6)) (kB D A (fun (u : (Nat → Int32) × (Nat → Nat → Int32)) => [(qa, .inr (8, [.ref qa_minute, .ref qa_body, .int ((u.1 0)), .ref qa_spotX, .ref qa_spotY, .int ((u.1 1)), .ref qa_order]))])) A)) (by decide) (Nat.le_of_ble_eq_true rfl) ?_
  intro p e s m below meth c ls A E hA hP hD hG hS hl
  obtain ⟨Q0, hQ0⟩ : ∃ Q0 : State → Prop, Q0 = MQ below (va_Qv (fun (u : (Nat → Int32) × (Nat → Nat → Int32)) => (0 ≤ ((u.1 0)).toInt ∧ ((u.1 0)).toInt ≤ 30) ∧ (0 ≤ ((u.1 1)).toInt ∧ ((u.1 1)).toInt ≤ 6)) (kB D A (fun (u : (Nat → Int32) × (Nat → Nat → Int32)) => [(qa, .inr (8, [.ref qa_minute, .ref qa_body, .int ((u.1 0)), .ref qa_spotX, .ref qa_spotY, .int ((u.1 1)), .ref qa_order]))])) A) ([.ref qa] : List Value).toArray s 0 0 A := ⟨_, rfl⟩
  rw [← hQ0]
  obtain ⟨hx, hb, hml, hown, hts, hr, hlk, hnm⟩ := id E
  have hown : s.vm.findClass RX6 = some m.cls := hown
  have hl : lv_has ls 1 [(0, .ref qa)] := hl
  obtain ⟨H, hH⟩ : ∃ H, H = s.heap := ⟨_, rfl⟩
  have hP : va_P D vwCl [(qa, .inr (8, [.ref qa_minute, .ref qa_body, .int q_passings, .ref qa_spotX, .ref qa_spotY, .int q_spots, .ref qa_order]))] H := by rw [hH]; exact hP
  have hS : va_S A s.heap H [] := by rw [hH]; exact va_S.rf
  rw [← hH]
  clear hH
  obtain ⟨locs, hlocs⟩ : ∃ locs : List Loc, locs = [] := ⟨_, rfl⟩
  rw [← hlocs] at hS ⊢
  refine lv_aload_n hx hb dX6_begin_0 rfl (lv_at hl 0 rfl) ?_
  refine lv_iconst (v := 0) hx hb dX6_begin_1 (by decide) ?_
  refine va_put (D := D) (ci := 8) (v := .int 0) (ty := .int) (C := RX6) (T := TX6) (N := 7) hx hb hts kin_RX6 tyX6 tyX6_ok nmX6 hown hG.1 hP hD hS 0 rfl rfl 2 (by decide) (hts _ wm_240) (fun _ h9 => h9) rfl (by decide +kernel) rfl rfl (Nat.le_of_ble_eq_true rfl) dX6_begin_2 (fun H locs hP hD hS => ?_)
  have hP : va_P D vwCl [(qa, .inr (8, [.ref qa_minute, .ref qa_body, .int 0, .ref qa_spotX, .ref qa_spotY, .int q_spots, .ref qa_order]))] H := hP
  have hD : va_D A [(qa, .inr (8, [.ref qa_minute, .ref qa_body, .int 0, .ref qa_spotX, .ref qa_spotY, .int q_spots, .ref qa_order]))] := hD
  refine lv_aload_n hx hb dX6_begin_5 rfl (lv_at hl 0 rfl) ?_
  refine lv_iconst (v := 0) hx hb dX6_begin_6 (by decide) ?_
  refine va_put (D := D) (ci := 8) (v := .int 0) (ty := .int) (C := RX6) (T := TX6) (N := 7) hx hb hts kin_RX6 tyX6 tyX6_ok nmX6 hown hG.1 hP hD hS 0 rfl rfl 5 (by decide) (hts _ wm_245) (fun _ h9 => h9) rfl (by decide +kernel) rfl rfl (Nat.le_of_ble_eq_true rfl) dX6_begin_7 (fun H locs hP hD hS => ?_)
  have hP : va_P D vwCl [(qa, .inr (8, [.ref qa_minute, .ref qa_body, .int 0, .ref qa_spotX, .ref qa_spotY, .int 0, .ref qa_order]))] H := hP
  have hD : va_D A [(qa, .inr (8, [.ref qa_minute, .ref qa_body, .int 0, .ref qa_spotX, .ref qa_spotY, .int 0, .ref qa_order]))] := hD
  rw [hQ0]
  exact k_vret (fun k => [0, 0].getD k 0, fun k => [].getD k (fun _ => 0)) hx hb hr hlk (⟨(show 0 ≤ (0 : Int32).toInt ∧ (0 : Int32).toInt ≤ 30 by decide), (show 0 ≤ (0 : Int32).toInt ∧ (0 : Int32).toInt ≤ 6 by decide)⟩) (hP.sub [0] rfl) (hD.sub [0] (by decide) rfl) hS (by decide) (by decide) dX6_begin_10

set_option maxHeartbeats 4000000 in
set_option maxRecDepth 100000 in
/-- Plan.copy -/
theorem c_pcopy (l : Launch) (hl0 : l.stackTraces = false) (D : va_G) (cy : Nat → ClassId) (sa : Nat → Nat) (qa qa_minute qa_body qa_spotX qa_spotY qa_order oa oa_minute oa_body oa_spotX oa_spotY oa_order : Nat) (q_passings q_spots o_passings o_spots : Int32) (qf_minute qf_body qf_spotX qf_spotY of_minute of_body of_spotX of_spotY : Nat → Int32) (h_q_passings : 0 ≤ q_passings.toInt ∧ q_passings.toInt ≤ 30) (h_q_spots : 0 ≤ q_spots.toInt ∧ q_spots.toInt ≤ 6) (h_qf_body : rowR 30 0 (8) qf_body) (h_qf_spotX : rowR 6 0 (15) qf_spotX) (h_qf_spotY : rowR 6 0 (15) qf_spotY) (h_o_passings : 0 ≤ o_passings.toInt ∧ o_passings.toInt ≤ 30) (h_o_spots : 0 ≤ o_spots.toInt ∧ o_spots.toInt ≤ 6) (h_of_body : rowR 30 0 (8) of_body) (h_of_spotX : rowR 6 0 (15) of_spotX) (h_of_spotY : rowR 6 0 (15) of_spotY) (sz : Nat) : Met l yX6_copy (Cond.code yX6_copy cX6_copy 2 none :: kWS) ({ frames := 10, cells := 0, slots := 0, locals := 300 }) (kPre D cy sa [.ref qa, .ref oa] [(qa, .inr (8, [.ref qa_minute, .ref qa_body, .int q_passings, .ref qa_spotX, .ref qa_spotY, .int q_spots, .ref qa_order])), (qa_minute, .inl (cy 0, 30, .inl qf_minute)), (qa_body, .inl (cy 0, 30, .inl qf_body)), (qa_spotX, .inl (cy 0, 6, .inl qf_spotX)), (qa_spotY, .inl (cy 0, 6, .inl qf_spotY)), (oa, .inr (8, [.ref oa_minute, .ref oa_body, .int o_passings, .ref oa_spotX, .ref oa_spotY, .int o_spots, .ref oa_order])), (oa_minute, .inl (cy 0, 30, .inl of_minute)), (oa_body, .inl (cy 0, 30, .inl of_body)), (oa_spotX, .inl (cy 0, 6, .inl of_spotX)), (oa_spotY, .inl (cy 0, 6, .inl of_spotY))] sz) (va_Qv (fun (u : (Nat → Int32) × (Nat → Nat → Int32)) => (0 ≤ ((u.1 0)).toInt ∧ ((u.1 0)).toInt ≤ 30) ∧ (0 ≤ ((u.1 1)).toInt ∧ ((u.1 1)).toInt ≤ 6) ∧ (rowR 30 0 (8) ((u.2 1))) ∧ (rowR 6 0 (15) ((u.2 2))) ∧ (rowR 6 0 (15) ((u.2 3)))) (kB D (va_A [(qa, .inr (8, [.ref qa_minute, .ref qa_body, .int q_passings, .ref qa_spotX, .ref qa_spotY, .int q_spots, .ref qa_order])), (qa_minute, .inl (cy 0, 30, .inl qf_minute)), (qa_body, .inl (cy 0, 30, .inl qf_body)), (qa_spotX, .inl (cy 0, 6, .inl qf_spotX)), (qa_spotY, .inl (cy 0, 6, .inl qf_spotY)), (oa, .inr (8, [.ref oa_minute, .ref oa_body, .int o_passings, .ref oa_spotX, .ref oa_spotY, .int o_spots, .ref oa_order])), (oa_minute, .inl (cy 0, 30, .inl of_minute)), (oa_body, .inl (cy 0, 30, .inl of_body)), (oa_spotX, .inl (cy 0, 6, .inl of_spotX)), (oa_spotY, .inl (cy 0, 6, .inl of_spotY))] sz) (fun (u : (Nat → Int32) × (Nat → Nat → Int32)) => [(qa, .inr (8, [.ref qa_minute, .ref qa_body, .int ((u.1 0)), .ref qa_spotX, .ref qa_spotY, .int ((u.1 1)), .ref qa_order])), (qa_minute, .inl (cy 0, 30, .inl ((u.2 0)))), (qa_body, .inl (cy 0, 30, .inl ((u.2 1)))), (qa_spotX, .inl (cy 0, 6, .inl ((u.2 2)))), (qa_spotY, .inl (cy 0, 6, .inl ((u.2 3)))), (oa, .inr (8, [.ref oa_minute, .ref oa_body, .int o_passings, .ref oa_spotX, .ref oa_spotY, .int o_spots, .ref oa_order])), (oa_minute, .inl (cy 0, 30, .inl of_minute)), (oa_body, .inl (cy 0, 30, .inl of_body)), (oa_spotX, .inl (cy 0, 6, .inl of_spotX)), (oa_spotY, .inl (cy 0, 6, .inl of_spotY))])) (va_A [(qa, .inr (8, [.ref qa_minute, .ref qa_body, .int q_passings, .ref qa_spotX, .ref qa_spotY, .int q_spots, .ref qa_order])), (qa_minute, .inl (cy 0, 30, .inl qf_minute)), (qa_body, .inl (cy 0, 30, .inl qf_body)), (qa_spotX, .inl (cy 0, 6, .inl qf_spotX)), (qa_spotY, .inl (cy 0, 6, .inl qf_spotY)), (oa, .inr (8, [.ref oa_minute, .ref oa_body, .int o_passings, .ref oa_spotX, .ref oa_spotY, .int o_spots, .ref oa_order])), (oa_minute, .inl (cy 0, 30, .inl of_minute)), (oa_body, .inl (cy 0, 30, .inl of_body)), (oa_spotX, .inl (cy 0, 6, .inl of_spotX)), (oa_spotY, .inl (cy 0, 6, .inl of_spotY))] sz)) 0 0 (va_A [(qa, .inr (8, [.ref qa_minute, .ref qa_body, .int q_passings, .ref qa_spotX, .ref qa_spotY, .int q_spots, .ref qa_order])), (qa_minute, .inl (cy 0, 30, .inl qf_minute)), (qa_body, .inl (cy 0, 30, .inl qf_body)), (qa_spotX, .inl (cy 0, 6, .inl qf_spotX)), (qa_spotY, .inl (cy 0, 6, .inl qf_spotY)), (oa, .inr (8, [.ref oa_minute, .ref oa_body, .int o_passings, .ref oa_spotX, .ref oa_spotY, .int o_spots, .ref oa_order])), (oa_minute, .inl (cy 0, 30, .inl of_minute)), (oa_body, .inl (cy 0, 30, .inl of_body)), (oa_spotX, .inl (cy 0, 6, .inl of_spotX)), (oa_spotY, .inl (cy 0, 6, .inl of_spotY))] sz) := by
  refine k_ofW (y := yX6_copy) (cc := cX6_copy) (maxL := 2) (ret := none) (av := [.ref qa, .ref oa]) (ws := [(qa, .inr (8, [.ref qa_minute, .ref qa_body, .int q_passings, .ref qa_spotX, .ref qa_spotY, .int q_spots, .ref qa_order])), (qa_minute, .inl (cy 0, 30, .inl qf_minute)), (qa_body, .inl (cy 0, 30, .inl qf_body)), (qa_spotX, .inl (cy 0, 6, .inl qf_spotX)), (qa_spotY, .inl (cy 0, 6, .inl qf_spotY)), (oa, .inr (8, [.ref oa_minute, .ref oa_body, .int o_passings, .ref oa_spotX, .ref oa_spotY, .int o_spots, .ref oa_order])), (oa_minute, .inl (cy 0, 30, .inl of_minute)), (oa_body, .inl (cy 0, 30, .inl of_body)), (oa_spotX, .inl (cy 0, 6, .inl of_spotX)), (oa_spotY, .inl (cy 0, 6, .inl of_spotY))]) (Qc := fun A => (va_Qv (fun (u : (Nat → Int32) × (Nat → Nat → Int32)) => (0 ≤ ((u.1 0)).toInt ∧ ((u.1 0)).toInt ≤ 30) ∧ (0 ≤ ((u.1 1)).toInt ∧ ((u.1 1)).toInt ≤ 6) ∧ (rowR 30 0 (8) ((u.2 1))) ∧ (rowR 6 0 (15) ((u.2 2))) ∧ (rowR 6 0 (15) ((u.2 3)))) (kB D A (fun (u : (Nat → Int32) × (Nat → Nat → Int32)) => [(qa, .inr (8, [.ref qa_minute, .ref qa_body, .int ((u.1 0)), .ref qa_spotX, .ref qa_spotY, .int ((u.1 1)), .ref qa_order])), (qa_minute, .inl (cy 0, 30, .inl ((u.2 0)))), (qa_body, .inl (cy 0, 30, .inl ((u.2 1)))), (qa_spotX, .inl (cy 0, 6, .inl ((u.2 2)))), (qa_spotY, .inl (cy 0, 6, .inl ((u.2 3)))), (oa, .inr (8, [.ref oa_minute, .ref oa_body, .int o_passings, .ref oa_spotX, .ref oa_spotY, .int o_spots, .ref oa_order])), (oa_minute, .inl (cy 0, 30, .inl of_minute)), (oa_body, .inl (cy 0, 30, .inl of_body)), (oa_spotX, .inl (cy 0, 6, .inl of_spotX)), (oa_spotY, .inl (cy 0, 6, .inl of_spotY))])) A)) (by decide) (Nat.le_of_ble_eq_true rfl) ?_
  intro p e s m below meth c ls A E hA hP hD hG hS hl
  obtain ⟨Q0, hQ0⟩ : ∃ Q0 : State → Prop, Q0 = MQ below (va_Qv (fun (u : (Nat → Int32) × (Nat → Nat → Int32)) => (0 ≤ ((u.1 0)).toInt ∧ ((u.1 0)).toInt ≤ 30) ∧ (0 ≤ ((u.1 1)).toInt ∧ ((u.1 1)).toInt ≤ 6) ∧ (rowR 30 0 (8) ((u.2 1))) ∧ (rowR 6 0 (15) ((u.2 2))) ∧ (rowR 6 0 (15) ((u.2 3)))) (kB D A (fun (u : (Nat → Int32) × (Nat → Nat → Int32)) => [(qa, .inr (8, [.ref qa_minute, .ref qa_body, .int ((u.1 0)), .ref qa_spotX, .ref qa_spotY, .int ((u.1 1)), .ref qa_order])), (qa_minute, .inl (cy 0, 30, .inl ((u.2 0)))), (qa_body, .inl (cy 0, 30, .inl ((u.2 1)))), (qa_spotX, .inl (cy 0, 6, .inl ((u.2 2)))), (qa_spotY, .inl (cy 0, 6, .inl ((u.2 3)))), (oa, .inr (8, [.ref oa_minute, .ref oa_body, .int o_passings, .ref oa_spotX, .ref oa_spotY, .int o_spots, .ref oa_order])), (oa_minute, .inl (cy 0, 30, .inl of_minute)), (oa_body, .inl (cy 0, 30, .inl of_body)), (oa_spotX, .inl (cy 0, 6, .inl of_spotX)), (oa_spotY, .inl (cy 0, 6, .inl of_spotY))])) A) ([.ref qa, .ref oa] : List Value).toArray s 0 0 A := ⟨_, rfl⟩
  rw [← hQ0]
  obtain ⟨hx, hb, hml, hown, hts, hr, hlk, hnm⟩ := id E
  have hown : s.vm.findClass RX6 = some m.cls := hown
  have hl : lv_has ls 2 [(0, .ref qa), (1, .ref oa)] := hl
  obtain ⟨H, hH⟩ : ∃ H, H = s.heap := ⟨_, rfl⟩
  have hP : va_P D vwCl [(qa, .inr (8, [.ref qa_minute, .ref qa_body, .int q_passings, .ref qa_spotX, .ref qa_spotY, .int q_spots, .ref qa_order])), (qa_minute, .inl (cy 0, 30, .inl qf_minute)), (qa_body, .inl (cy 0, 30, .inl qf_body)), (qa_spotX, .inl (cy 0, 6, .inl qf_spotX)), (qa_spotY, .inl (cy 0, 6, .inl qf_spotY)), (oa, .inr (8, [.ref oa_minute, .ref oa_body, .int o_passings, .ref oa_spotX, .ref oa_spotY, .int o_spots, .ref oa_order])), (oa_minute, .inl (cy 0, 30, .inl of_minute)), (oa_body, .inl (cy 0, 30, .inl of_body)), (oa_spotX, .inl (cy 0, 6, .inl of_spotX)), (oa_spotY, .inl (cy 0, 6, .inl of_spotY))] H := by rw [hH]; exact hP
  have hS : va_S A s.heap H [] := by rw [hH]; exact va_S.rf
  rw [← hH]
  clear hH
  obtain ⟨locs, hlocs⟩ : ∃ locs : List Loc, locs = [] := ⟨_, rfl⟩
  rw [← hlocs] at hS ⊢
  refine lv_aload_n hx hb dX6_copy_0 rfl (lv_at hl 1 rfl) ?_
  refine va_get (D := D) (ci := 8) (v := .ref oa_minute) (C := RX6) (T := TX6) (N := 7) hx hb hts kin_RX6 hown hG.1 hP 5 rfl rfl 0 (by decide) (hts _ wm_236) (fun _ h9 => h9) rfl dX6_copy_1 ?_
  refine lv_iconst (v := 0) hx hb dX6_copy_4 (by decide) ?_
  refine lv_aload_n hx hb dX6_copy_5 rfl (lv_at hl 0 rfl) ?_
  refine va_get (D := D) (ci := 8) (v := .ref qa_minute) (C := RX6) (T := TX6) (N := 7) hx hb hts kin_RX6 hown hG.1 hP 0 rfl rfl 0 (by decide) (hts _ wm_236) (fun _ h9 => h9) rfl dX6_copy_6 ?_
  refine lv_iconst (v := 0) hx hb dX6_copy_9 (by decide) ?_
  refine lv_bipush (v := 30) hx hb dX6_copy_10 (by decide) ?_
  refine va_copyi hx hb (hml.trans hl.1.symm) hown (hts _ wm_904) (hts _ wm_668) (hts _ wm_667) (hts _ wm_29) hG.1 hP hD hS 6 1 0 0 rfl rfl rfl rfl rfl (by decide) (by decide) (by decide) (by decide) (by decide) (fun _ _ => rfl) (Nat.le_of_ble_eq_true rfl) (Nat.le_of_ble_eq_true rfl) dX6_copy_12 (fun H locs hP hD hS => ?_)
  have hP : va_P D vwCl [(qa, .inr (8, [.ref qa_minute, .ref qa_body, .int q_passings, .ref qa_spotX, .ref qa_spotY, .int q_spots, .ref qa_order])), (qa_minute, .inl (cy 0, 30, .inl (va_cpy (of_minute) (qf_minute) (0 : Int32).toNatClampNeg (0 : Int32).toNatClampNeg (30 : Int32).toNatClampNeg))), (qa_body, .inl (cy 0, 30, .inl qf_body)), (qa_spotX, .inl (cy 0, 6, .inl qf_spotX)), (qa_spotY, .inl (cy 0, 6, .inl qf_spotY)), (oa, .inr (8, [.ref oa_minute, .ref oa_body, .int o_passings, .ref oa_spotX, .ref oa_spotY, .int o_spots, .ref oa_order])), (oa_minute, .inl (cy 0, 30, .inl of_minute)), (oa_body, .inl (cy 0, 30, .inl of_body)), (oa_spotX, .inl (cy 0, 6, .inl of_spotX)), (oa_spotY, .inl (cy 0, 6, .inl of_spotY))] H := hP
  have hD : va_D A [(qa, .inr (8, [.ref qa_minute, .ref qa_body, .int q_passings, .ref qa_spotX, .ref qa_spotY, .int q_spots, .ref qa_order])), (qa_minute, .inl (cy 0, 30, .inl (va_cpy (of_minute) (qf_minute) (0 : Int32).toNatClampNeg (0 : Int32).toNatClampNeg (30 : Int32).toNatClampNeg))), (qa_body, .inl (cy 0, 30, .inl qf_body)), (qa_spotX, .inl (cy 0, 6, .inl qf_spotX)), (qa_spotY, .inl (cy 0, 6, .inl qf_spotY)), (oa, .inr (8, [.ref oa_minute, .ref oa_body, .int o_passings, .ref oa_spotX, .ref oa_spotY, .int o_spots, .ref oa_order])), (oa_minute, .inl (cy 0, 30, .inl of_minute)), (oa_body, .inl (cy 0, 30, .inl of_body)), (oa_spotX, .inl (cy 0, 6, .inl of_spotX)), (oa_spotY, .inl (cy 0, 6, .inl of_spotY))] := hD
  generalize va_cpy (of_minute) (qf_minute) (0 : Int32).toNatClampNeg (0 : Int32).toNatClampNeg (30 : Int32).toNatClampNeg = f1q at hP hD
  have hP : va_P D vwCl [(qa, .inr (8, [.ref qa_minute, .ref qa_body, .int q_passings, .ref qa_spotX, .ref qa_spotY, .int q_spots, .ref qa_order])), (qa_minute, .inl (cy 0, 30, .inl f1q)), (qa_body, .inl (cy 0, 30, .inl qf_body)), (qa_spotX, .inl (cy 0, 6, .inl qf_spotX)), (qa_spotY, .inl (cy 0, 6, .inl qf_spotY)), (oa, .inr (8, [.ref oa_minute, .ref oa_body, .int o_passings, .ref oa_spotX, .ref oa_spotY, .int o_spots, .ref oa_order])), (oa_minute, .inl (cy 0, 30, .inl of_minute)), (oa_body, .inl (cy 0, 30, .inl of_body)), (oa_spotX, .inl (cy 0, 6, .inl of_spotX)), (oa_spotY, .inl (cy 0, 6, .inl of_spotY))] H := hP
  have hD : va_D A [(qa, .inr (8, [.ref qa_minute, .ref qa_body, .int q_passings, .ref qa_spotX, .ref qa_spotY, .int q_spots, .ref qa_order])), (qa_minute, .inl (cy 0, 30, .inl f1q)), (qa_body, .inl (cy 0, 30, .inl qf_body)), (qa_spotX, .inl (cy 0, 6, .inl qf_spotX)), (qa_spotY, .inl (cy 0, 6, .inl qf_spotY)), (oa, .inr (8, [.ref oa_minute, .ref oa_body, .int o_passings, .ref oa_spotX, .ref oa_spotY, .int o_spots, .ref oa_order])), (oa_minute, .inl (cy 0, 30, .inl of_minute)), (oa_body, .inl (cy 0, 30, .inl of_body)), (oa_spotX, .inl (cy 0, 6, .inl of_spotX)), (oa_spotY, .inl (cy 0, 6, .inl of_spotY))] := hD
  refine lv_aload_n hx hb dX6_copy_15 rfl (lv_at hl 1 rfl) ?_
  refine va_get (D := D) (ci := 8) (v := .ref oa_body) (C := RX6) (T := TX6) (N := 7) hx hb hts kin_RX6 hown hG.1 hP 5 rfl rfl 1 (by decide) (hts _ wm_238) (fun _ h9 => h9) rfl dX6_copy_16 ?_
  refine lv_iconst (v := 0) hx hb dX6_copy_19 (by decide) ?_
  refine lv_aload_n hx hb dX6_copy_20 rfl (lv_at hl 0 rfl) ?_
  refine va_get (D := D) (ci := 8) (v := .ref qa_body) (C := RX6) (T := TX6) (N := 7) hx hb hts kin_RX6 hown hG.1 hP 0 rfl rfl 1 (by decide) (hts _ wm_238) (fun _ h9 => h9) rfl dX6_copy_21 ?_
  refine lv_iconst (v := 0) hx hb dX6_copy_24 (by decide) ?_
  refine lv_bipush (v := 30) hx hb dX6_copy_25 (by decide) ?_
  refine va_copyi hx hb (hml.trans hl.1.symm) hown (hts _ wm_904) (hts _ wm_668) (hts _ wm_667) (hts _ wm_29) hG.1 hP hD hS 7 2 0 0 rfl rfl rfl rfl rfl (by decide) (by decide) (by decide) (by decide) (by decide) (fun _ _ => rfl) (Nat.le_of_ble_eq_true rfl) (Nat.le_of_ble_eq_true rfl) dX6_copy_27 (fun H locs hP hD hS => ?_)
  have hP : va_P D vwCl [(qa, .inr (8, [.ref qa_minute, .ref qa_body, .int q_passings, .ref qa_spotX, .ref qa_spotY, .int q_spots, .ref qa_order])), (qa_minute, .inl (cy 0, 30, .inl f1q)), (qa_body, .inl (cy 0, 30, .inl (va_cpy (of_body) (qf_body) (0 : Int32).toNatClampNeg (0 : Int32).toNatClampNeg (30 : Int32).toNatClampNeg))), (qa_spotX, .inl (cy 0, 6, .inl qf_spotX)), (qa_spotY, .inl (cy 0, 6, .inl qf_spotY)), (oa, .inr (8, [.ref oa_minute, .ref oa_body, .int o_passings, .ref oa_spotX, .ref oa_spotY, .int o_spots, .ref oa_order])), (oa_minute, .inl (cy 0, 30, .inl of_minute)), (oa_body, .inl (cy 0, 30, .inl of_body)), (oa_spotX, .inl (cy 0, 6, .inl of_spotX)), (oa_spotY, .inl (cy 0, 6, .inl of_spotY))] H := hP
  have hD : va_D A [(qa, .inr (8, [.ref qa_minute, .ref qa_body, .int q_passings, .ref qa_spotX, .ref qa_spotY, .int q_spots, .ref qa_order])), (qa_minute, .inl (cy 0, 30, .inl f1q)), (qa_body, .inl (cy 0, 30, .inl (va_cpy (of_body) (qf_body) (0 : Int32).toNatClampNeg (0 : Int32).toNatClampNeg (30 : Int32).toNatClampNeg))), (qa_spotX, .inl (cy 0, 6, .inl qf_spotX)), (qa_spotY, .inl (cy 0, 6, .inl qf_spotY)), (oa, .inr (8, [.ref oa_minute, .ref oa_body, .int o_passings, .ref oa_spotX, .ref oa_spotY, .int o_spots, .ref oa_order])), (oa_minute, .inl (cy 0, 30, .inl of_minute)), (oa_body, .inl (cy 0, 30, .inl of_body)), (oa_spotX, .inl (cy 0, 6, .inl of_spotX)), (oa_spotY, .inl (cy 0, 6, .inl of_spotY))] := hD
  have hf2q : rowR 30 0 (8) (va_cpy (of_body) (qf_body) (0 : Int32).toNatClampNeg (0 : Int32).toNatClampNeg (30 : Int32).toNatClampNeg) := rowR_cpy h_of_body (by decide) (by decide) (by decide)
  generalize va_cpy (of_body) (qf_body) (0 : Int32).toNatClampNeg (0 : Int32).toNatClampNeg (30 : Int32).toNatClampNeg = f2q at hP hD hf2q
  have hP : va_P D vwCl [(qa, .inr (8, [.ref qa_minute, .ref qa_body, .int q_passings, .ref qa_spotX, .ref qa_spotY, .int q_spots, .ref qa_order])), (qa_minute, .inl (cy 0, 30, .inl f1q)), (qa_body, .inl (cy 0, 30, .inl f2q)), (qa_spotX, .inl (cy 0, 6, .inl qf_spotX)), (qa_spotY, .inl (cy 0, 6, .inl qf_spotY)), (oa, .inr (8, [.ref oa_minute, .ref oa_body, .int o_passings, .ref oa_spotX, .ref oa_spotY, .int o_spots, .ref oa_order])), (oa_minute, .inl (cy 0, 30, .inl of_minute)), (oa_body, .inl (cy 0, 30, .inl of_body)), (oa_spotX, .inl (cy 0, 6, .inl of_spotX)), (oa_spotY, .inl (cy 0, 6, .inl of_spotY))] H := hP
  have hD : va_D A [(qa, .inr (8, [.ref qa_minute, .ref qa_body, .int q_passings, .ref qa_spotX, .ref qa_spotY, .int q_spots, .ref qa_order])), (qa_minute, .inl (cy 0, 30, .inl f1q)), (qa_body, .inl (cy 0, 30, .inl f2q)), (qa_spotX, .inl (cy 0, 6, .inl qf_spotX)), (qa_spotY, .inl (cy 0, 6, .inl qf_spotY)), (oa, .inr (8, [.ref oa_minute, .ref oa_body, .int o_passings, .ref oa_spotX, .ref oa_spotY, .int o_spots, .ref oa_order])), (oa_minute, .inl (cy 0, 30, .inl of_minute)), (oa_body, .inl (cy 0, 30, .inl of_body)), (oa_spotX, .inl (cy 0, 6, .inl of_spotX)), (oa_spotY, .inl (cy 0, 6, .inl of_spotY))] := hD
  refine lv_aload_n hx hb dX6_copy_30 rfl (lv_at hl 0 rfl) ?_
  refine lv_aload_n hx hb dX6_copy_31 rfl (lv_at hl 1 rfl) ?_
  refine va_get (D := D) (ci := 8) (v := .int o_passings) (C := RX6) (T := TX6) (N := 7) hx hb hts kin_RX6 hown hG.1 hP 5 rfl rfl 2 (by decide) (hts _ wm_240) (fun _ h9 => h9) rfl dX6_copy_32 ?_
  refine va_put (D := D) (ci := 8) (v := .int o_passings) (ty := .int) (C := RX6) (T := TX6) (N := 7) hx hb hts kin_RX6 tyX6 tyX6_ok nmX6 hown hG.1 hP hD hS 0 rfl rfl 2 (by decide) (hts _ wm_240) (fun _ h9 => h9) rfl (by decide +kernel) rfl rfl (Nat.le_of_ble_eq_true rfl) dX6_copy_35 (fun H locs hP hD hS => ?_)
  have hP : va_P D vwCl [(qa, .inr (8, [.ref qa_minute, .ref qa_body, .int o_passings, .ref qa_spotX, .ref qa_spotY, .int q_spots, .ref qa_order])), (qa_minute, .inl (cy 0, 30, .inl f1q)), (qa_body, .inl (cy 0, 30, .inl f2q)), (qa_spotX, .inl (cy 0, 6, .inl qf_spotX)), (qa_spotY, .inl (cy 0, 6, .inl qf_spotY)), (oa, .inr (8, [.ref oa_minute, .ref oa_body, .int o_passings, .ref oa_spotX, .ref oa_spotY, .int o_spots, .ref oa_order])), (oa_minute, .inl (cy 0, 30, .inl of_minute)), (oa_body, .inl (cy 0, 30, .inl of_body)), (oa_spotX, .inl (cy 0, 6, .inl of_spotX)), (oa_spotY, .inl (cy 0, 6, .inl of_spotY))] H := hP
  have hD : va_D A [(qa, .inr (8, [.ref qa_minute, .ref qa_body, .int o_passings, .ref qa_spotX, .ref qa_spotY, .int q_spots, .ref qa_order])), (qa_minute, .inl (cy 0, 30, .inl f1q)), (qa_body, .inl (cy 0, 30, .inl f2q)), (qa_spotX, .inl (cy 0, 6, .inl qf_spotX)), (qa_spotY, .inl (cy 0, 6, .inl qf_spotY)), (oa, .inr (8, [.ref oa_minute, .ref oa_body, .int o_passings, .ref oa_spotX, .ref oa_spotY, .int o_spots, .ref oa_order])), (oa_minute, .inl (cy 0, 30, .inl of_minute)), (oa_body, .inl (cy 0, 30, .inl of_body)), (oa_spotX, .inl (cy 0, 6, .inl of_spotX)), (oa_spotY, .inl (cy 0, 6, .inl of_spotY))] := hD
  refine lv_aload_n hx hb dX6_copy_38 rfl (lv_at hl 1 rfl) ?_
  refine va_get (D := D) (ci := 8) (v := .ref oa_spotX) (C := RX6) (T := TX6) (N := 7) hx hb hts kin_RX6 hown hG.1 hP 5 rfl rfl 3 (by decide) (hts _ wm_243) (fun _ h9 => h9) rfl dX6_copy_39 ?_
  refine lv_iconst (v := 0) hx hb dX6_copy_42 (by decide) ?_
  refine lv_aload_n hx hb dX6_copy_43 rfl (lv_at hl 0 rfl) ?_
  refine va_get (D := D) (ci := 8) (v := .ref qa_spotX) (C := RX6) (T := TX6) (N := 7) hx hb hts kin_RX6 hown hG.1 hP 0 rfl rfl 3 (by decide) (hts _ wm_243) (fun _ h9 => h9) rfl dX6_copy_44 ?_
  refine lv_iconst (v := 0) hx hb dX6_copy_47 (by decide) ?_
  refine lv_bipush (v := 6) hx hb dX6_copy_48 (by decide) ?_
  refine va_copyi hx hb (hml.trans hl.1.symm) hown (hts _ wm_904) (hts _ wm_668) (hts _ wm_667) (hts _ wm_29) hG.1 hP hD hS 8 3 0 0 rfl rfl rfl rfl rfl (by decide) (by decide) (by decide) (by decide) (by decide) (fun _ _ => rfl) (Nat.le_of_ble_eq_true rfl) (Nat.le_of_ble_eq_true rfl) dX6_copy_50 (fun H locs hP hD hS => ?_)
  have hP : va_P D vwCl [(qa, .inr (8, [.ref qa_minute, .ref qa_body, .int o_passings, .ref qa_spotX, .ref qa_spotY, .int q_spots, .ref qa_order])), (qa_minute, .inl (cy 0, 30, .inl f1q)), (qa_body, .inl (cy 0, 30, .inl f2q)), (qa_spotX, .inl (cy 0, 6, .inl (va_cpy (of_spotX) (qf_spotX) (0 : Int32).toNatClampNeg (0 : Int32).toNatClampNeg (6 : Int32).toNatClampNeg))), (qa_spotY, .inl (cy 0, 6, .inl qf_spotY)), (oa, .inr (8, [.ref oa_minute, .ref oa_body, .int o_passings, .ref oa_spotX, .ref oa_spotY, .int o_spots, .ref oa_order])), (oa_minute, .inl (cy 0, 30, .inl of_minute)), (oa_body, .inl (cy 0, 30, .inl of_body)), (oa_spotX, .inl (cy 0, 6, .inl of_spotX)), (oa_spotY, .inl (cy 0, 6, .inl of_spotY))] H := hP
  have hD : va_D A [(qa, .inr (8, [.ref qa_minute, .ref qa_body, .int o_passings, .ref qa_spotX, .ref qa_spotY, .int q_spots, .ref qa_order])), (qa_minute, .inl (cy 0, 30, .inl f1q)), (qa_body, .inl (cy 0, 30, .inl f2q)), (qa_spotX, .inl (cy 0, 6, .inl (va_cpy (of_spotX) (qf_spotX) (0 : Int32).toNatClampNeg (0 : Int32).toNatClampNeg (6 : Int32).toNatClampNeg))), (qa_spotY, .inl (cy 0, 6, .inl qf_spotY)), (oa, .inr (8, [.ref oa_minute, .ref oa_body, .int o_passings, .ref oa_spotX, .ref oa_spotY, .int o_spots, .ref oa_order])), (oa_minute, .inl (cy 0, 30, .inl of_minute)), (oa_body, .inl (cy 0, 30, .inl of_body)), (oa_spotX, .inl (cy 0, 6, .inl of_spotX)), (oa_spotY, .inl (cy 0, 6, .inl of_spotY))] := hD
  have hf3q : rowR 6 0 (15) (va_cpy (of_spotX) (qf_spotX) (0 : Int32).toNatClampNeg (0 : Int32).toNatClampNeg (6 : Int32).toNatClampNeg) := rowR_cpy h_of_spotX (by decide) (by decide) (by decide)
  generalize va_cpy (of_spotX) (qf_spotX) (0 : Int32).toNatClampNeg (0 : Int32).toNatClampNeg (6 : Int32).toNatClampNeg = f3q at hP hD hf3q
  have hP : va_P D vwCl [(qa, .inr (8, [.ref qa_minute, .ref qa_body, .int o_passings, .ref qa_spotX, .ref qa_spotY, .int q_spots, .ref qa_order])), (qa_minute, .inl (cy 0, 30, .inl f1q)), (qa_body, .inl (cy 0, 30, .inl f2q)), (qa_spotX, .inl (cy 0, 6, .inl f3q)), (qa_spotY, .inl (cy 0, 6, .inl qf_spotY)), (oa, .inr (8, [.ref oa_minute, .ref oa_body, .int o_passings, .ref oa_spotX, .ref oa_spotY, .int o_spots, .ref oa_order])), (oa_minute, .inl (cy 0, 30, .inl of_minute)), (oa_body, .inl (cy 0, 30, .inl of_body)), (oa_spotX, .inl (cy 0, 6, .inl of_spotX)), (oa_spotY, .inl (cy 0, 6, .inl of_spotY))] H := hP
  have hD : va_D A [(qa, .inr (8, [.ref qa_minute, .ref qa_body, .int o_passings, .ref qa_spotX, .ref qa_spotY, .int q_spots, .ref qa_order])), (qa_minute, .inl (cy 0, 30, .inl f1q)), (qa_body, .inl (cy 0, 30, .inl f2q)), (qa_spotX, .inl (cy 0, 6, .inl f3q)), (qa_spotY, .inl (cy 0, 6, .inl qf_spotY)), (oa, .inr (8, [.ref oa_minute, .ref oa_body, .int o_passings, .ref oa_spotX, .ref oa_spotY, .int o_spots, .ref oa_order])), (oa_minute, .inl (cy 0, 30, .inl of_minute)), (oa_body, .inl (cy 0, 30, .inl of_body)), (oa_spotX, .inl (cy 0, 6, .inl of_spotX)), (oa_spotY, .inl (cy 0, 6, .inl of_spotY))] := hD
  refine lv_aload_n hx hb dX6_copy_53 rfl (lv_at hl 1 rfl) ?_
  refine va_get (D := D) (ci := 8) (v := .ref oa_spotY) (C := RX6) (T := TX6) (N := 7) hx hb hts kin_RX6 hown hG.1 hP 5 rfl rfl 4 (by decide) (hts _ wm_244) (fun _ h9 => h9) rfl dX6_copy_54 ?_
  refine lv_iconst (v := 0) hx hb dX6_copy_57 (by decide) ?_
  refine lv_aload_n hx hb dX6_copy_58 rfl (lv_at hl 0 rfl) ?_
  refine va_get (D := D) (ci := 8) (v := .ref qa_spotY) (C := RX6) (T := TX6) (N := 7) hx hb hts kin_RX6 hown hG.1 hP 0 rfl rfl 4 (by decide) (hts _ wm_244) (fun _ h9 => h9) rfl dX6_copy_59 ?_
  refine lv_iconst (v := 0) hx hb dX6_copy_62 (by decide) ?_
  refine lv_bipush (v := 6) hx hb dX6_copy_63 (by decide) ?_
  refine va_copyi hx hb (hml.trans hl.1.symm) hown (hts _ wm_904) (hts _ wm_668) (hts _ wm_667) (hts _ wm_29) hG.1 hP hD hS 9 4 0 0 rfl rfl rfl rfl rfl (by decide) (by decide) (by decide) (by decide) (by decide) (fun _ _ => rfl) (Nat.le_of_ble_eq_true rfl) (Nat.le_of_ble_eq_true rfl) dX6_copy_65 (fun H locs hP hD hS => ?_)
  have hP : va_P D vwCl [(qa, .inr (8, [.ref qa_minute, .ref qa_body, .int o_passings, .ref qa_spotX, .ref qa_spotY, .int q_spots, .ref qa_order])), (qa_minute, .inl (cy 0, 30, .inl f1q)), (qa_body, .inl (cy 0, 30, .inl f2q)), (qa_spotX, .inl (cy 0, 6, .inl f3q)), (qa_spotY, .inl (cy 0, 6, .inl (va_cpy (of_spotY) (qf_spotY) (0 : Int32).toNatClampNeg (0 : Int32).toNatClampNeg (6 : Int32).toNatClampNeg))), (oa, .inr (8, [.ref oa_minute, .ref oa_body, .int o_passings, .ref oa_spotX, .ref oa_spotY, .int o_spots, .ref oa_order])), (oa_minute, .inl (cy 0, 30, .inl of_minute)), (oa_body, .inl (cy 0, 30, .inl of_body)), (oa_spotX, .inl (cy 0, 6, .inl of_spotX)), (oa_spotY, .inl (cy 0, 6, .inl of_spotY))] H := hP
  have hD : va_D A [(qa, .inr (8, [.ref qa_minute, .ref qa_body, .int o_passings, .ref qa_spotX, .ref qa_spotY, .int q_spots, .ref qa_order])), (qa_minute, .inl (cy 0, 30, .inl f1q)), (qa_body, .inl (cy 0, 30, .inl f2q)), (qa_spotX, .inl (cy 0, 6, .inl f3q)), (qa_spotY, .inl (cy 0, 6, .inl (va_cpy (of_spotY) (qf_spotY) (0 : Int32).toNatClampNeg (0 : Int32).toNatClampNeg (6 : Int32).toNatClampNeg))), (oa, .inr (8, [.ref oa_minute, .ref oa_body, .int o_passings, .ref oa_spotX, .ref oa_spotY, .int o_spots, .ref oa_order])), (oa_minute, .inl (cy 0, 30, .inl of_minute)), (oa_body, .inl (cy 0, 30, .inl of_body)), (oa_spotX, .inl (cy 0, 6, .inl of_spotX)), (oa_spotY, .inl (cy 0, 6, .inl of_spotY))] := hD
  have hf4q : rowR 6 0 (15) (va_cpy (of_spotY) (qf_spotY) (0 : Int32).toNatClampNeg (0 : Int32).toNatClampNeg (6 : Int32).toNatClampNeg) := rowR_cpy h_of_spotY (by decide) (by decide) (by decide)
  generalize va_cpy (of_spotY) (qf_spotY) (0 : Int32).toNatClampNeg (0 : Int32).toNatClampNeg (6 : Int32).toNatClampNeg = f4q at hP hD hf4q
  have hP : va_P D vwCl [(qa, .inr (8, [.ref qa_minute, .ref qa_body, .int o_passings, .ref qa_spotX, .ref qa_spotY, .int q_spots, .ref qa_order])), (qa_minute, .inl (cy 0, 30, .inl f1q)), (qa_body, .inl (cy 0, 30, .inl f2q)), (qa_spotX, .inl (cy 0, 6, .inl f3q)), (qa_spotY, .inl (cy 0, 6, .inl f4q)), (oa, .inr (8, [.ref oa_minute, .ref oa_body, .int o_passings, .ref oa_spotX, .ref oa_spotY, .int o_spots, .ref oa_order])), (oa_minute, .inl (cy 0, 30, .inl of_minute)), (oa_body, .inl (cy 0, 30, .inl of_body)), (oa_spotX, .inl (cy 0, 6, .inl of_spotX)), (oa_spotY, .inl (cy 0, 6, .inl of_spotY))] H := hP
  have hD : va_D A [(qa, .inr (8, [.ref qa_minute, .ref qa_body, .int o_passings, .ref qa_spotX, .ref qa_spotY, .int q_spots, .ref qa_order])), (qa_minute, .inl (cy 0, 30, .inl f1q)), (qa_body, .inl (cy 0, 30, .inl f2q)), (qa_spotX, .inl (cy 0, 6, .inl f3q)), (qa_spotY, .inl (cy 0, 6, .inl f4q)), (oa, .inr (8, [.ref oa_minute, .ref oa_body, .int o_passings, .ref oa_spotX, .ref oa_spotY, .int o_spots, .ref oa_order])), (oa_minute, .inl (cy 0, 30, .inl of_minute)), (oa_body, .inl (cy 0, 30, .inl of_body)), (oa_spotX, .inl (cy 0, 6, .inl of_spotX)), (oa_spotY, .inl (cy 0, 6, .inl of_spotY))] := hD
  refine lv_aload_n hx hb dX6_copy_68 rfl (lv_at hl 0 rfl) ?_
  refine lv_aload_n hx hb dX6_copy_69 rfl (lv_at hl 1 rfl) ?_
  refine va_get (D := D) (ci := 8) (v := .int o_spots) (C := RX6) (T := TX6) (N := 7) hx hb hts kin_RX6 hown hG.1 hP 5 rfl rfl 5 (by decide) (hts _ wm_245) (fun _ h9 => h9) rfl dX6_copy_70 ?_
  refine va_put (D := D) (ci := 8) (v := .int o_spots) (ty := .int) (C := RX6) (T := TX6) (N := 7) hx hb hts kin_RX6 tyX6 tyX6_ok nmX6 hown hG.1 hP hD hS 0 rfl rfl 5 (by decide) (hts _ wm_245) (fun _ h9 => h9) rfl (by decide +kernel) rfl rfl (Nat.le_of_ble_eq_true rfl) dX6_copy_73 (fun H locs hP hD hS => ?_)
  have hP : va_P D vwCl [(qa, .inr (8, [.ref qa_minute, .ref qa_body, .int o_passings, .ref qa_spotX, .ref qa_spotY, .int o_spots, .ref qa_order])), (qa_minute, .inl (cy 0, 30, .inl f1q)), (qa_body, .inl (cy 0, 30, .inl f2q)), (qa_spotX, .inl (cy 0, 6, .inl f3q)), (qa_spotY, .inl (cy 0, 6, .inl f4q)), (oa, .inr (8, [.ref oa_minute, .ref oa_body, .int o_passings, .ref oa_spotX, .ref oa_spotY, .int o_spots, .ref oa_order])), (oa_minute, .inl (cy 0, 30, .inl of_minute)), (oa_body, .inl (cy 0, 30, .inl of_body)), (oa_spotX, .inl (cy 0, 6, .inl of_spotX)), (oa_spotY, .inl (cy 0, 6, .inl of_spotY))] H := hP
  have hD : va_D A [(qa, .inr (8, [.ref qa_minute, .ref qa_body, .int o_passings, .ref qa_spotX, .ref qa_spotY, .int o_spots, .ref qa_order])), (qa_minute, .inl (cy 0, 30, .inl f1q)), (qa_body, .inl (cy 0, 30, .inl f2q)), (qa_spotX, .inl (cy 0, 6, .inl f3q)), (qa_spotY, .inl (cy 0, 6, .inl f4q)), (oa, .inr (8, [.ref oa_minute, .ref oa_body, .int o_passings, .ref oa_spotX, .ref oa_spotY, .int o_spots, .ref oa_order])), (oa_minute, .inl (cy 0, 30, .inl of_minute)), (oa_body, .inl (cy 0, 30, .inl of_body)), (oa_spotX, .inl (cy 0, 6, .inl of_spotX)), (oa_spotY, .inl (cy 0, 6, .inl of_spotY))] := hD
  rw [hQ0]
  exact k_vret (fun k => [o_passings, o_spots].getD k 0, fun k => [f1q, f2q, f3q, f4q].getD k (fun _ => 0)) hx hb hr hlk (⟨(show 0 ≤ o_passings.toInt ∧ o_passings.toInt ≤ 30 from ⟨by omega, by omega⟩), (show 0 ≤ o_spots.toInt ∧ o_spots.toInt ≤ 6 from ⟨by omega, by omega⟩), (show rowR 30 0 (8) f2q from hf2q), (show rowR 6 0 (15) f3q from hf3q), (show rowR 6 0 (15) f4q from hf4q)⟩) (hP.sub [0, 1, 2, 3, 4, 5, 6, 7, 8, 9] rfl) (hD.sub [0, 1, 2, 3, 4, 5, 6, 7, 8, 9] (by decide) rfl) hS (by decide) (by decide) dX6_copy_76

set_option maxHeartbeats 4000000 in
set_option maxRecDepth 100000 in
/-- Plan.addPassing -/
theorem c_addPassing (l : Launch) (hl0 : l.stackTraces = false) (D : va_G) (cy : Nat → ClassId) (sa : Nat → Nat) (qa qa_minute qa_body qa_spotX qa_spotY qa_order : Nat) (q_passings q_spots n0 b0 : Int32) (qf_minute qf_body : Nat → Int32) (h_q_passings : 0 ≤ q_passings.toInt ∧ q_passings.toInt ≤ 30) (h_q_spots : 0 ≤ q_spots.toInt ∧ q_spots.toInt ≤ 6) (h_qf_body : rowR 30 0 (8) qf_body) (h_b0 : 0 ≤ b0.toInt ∧ b0.toInt ≤ 8) (sz : Nat) : Met l yX6_addPassing (Cond.code yX6_addPassing cX6_addPassing 3 (some .boolean) :: kWS) ({ frames := 10, cells := 0, slots := 0, locals := 300 }) (kPre D cy sa [.ref qa, .int n0, .int b0] [(qa, .inr (8, [.ref qa_minute, .ref qa_body, .int q_passings, .ref qa_spotX, .ref qa_spotY, .int q_spots, .ref qa_order])), (qa_minute, .inl (cy 0, 30, .inl qf_minute)), (qa_body, .inl (cy 0, 30, .inl qf_body))] sz) (va_Qi (fun (r : Int32) (u : (Nat → Int32) × (Nat → Nat → Int32)) => (r.toInt = 0 ∨ r.toInt = 1) ∧ (0 ≤ ((u.1 0)).toInt ∧ ((u.1 0)).toInt ≤ 30) ∧ (rowR 30 0 (8) ((u.2 1)))) (kB D (va_A [(qa, .inr (8, [.ref qa_minute, .ref qa_body, .int q_passings, .ref qa_spotX, .ref qa_spotY, .int q_spots, .ref qa_order])), (qa_minute, .inl (cy 0, 30, .inl qf_minute)), (qa_body, .inl (cy 0, 30, .inl qf_body))] sz) (fun (u : (Nat → Int32) × (Nat → Nat → Int32)) => [(qa, .inr (8, [.ref qa_minute, .ref qa_body, .int ((u.1 0)), .ref qa_spotX, .ref qa_spotY, .int q_spots, .ref qa_order])), (qa_minute, .inl (cy 0, 30, .inl ((u.2 0)))), (qa_body, .inl (cy 0, 30, .inl ((u.2 1))))])) (va_A [(qa, .inr (8, [.ref qa_minute, .ref qa_body, .int q_passings, .ref qa_spotX, .ref qa_spotY, .int q_spots, .ref qa_order])), (qa_minute, .inl (cy 0, 30, .inl qf_minute)), (qa_body, .inl (cy 0, 30, .inl qf_body))] sz)) 0 0 (va_A [(qa, .inr (8, [.ref qa_minute, .ref qa_body, .int q_passings, .ref qa_spotX, .ref qa_spotY, .int q_spots, .ref qa_order])), (qa_minute, .inl (cy 0, 30, .inl qf_minute)), (qa_body, .inl (cy 0, 30, .inl qf_body))] sz) := by
  refine k_ofW (y := yX6_addPassing) (cc := cX6_addPassing) (maxL := 3) (ret := (some .boolean)) (av := [.ref qa, .int n0, .int b0]) (ws := [(qa, .inr (8, [.ref qa_minute, .ref qa_body, .int q_passings, .ref qa_spotX, .ref qa_spotY, .int q_spots, .ref qa_order])), (qa_minute, .inl (cy 0, 30, .inl qf_minute)), (qa_body, .inl (cy 0, 30, .inl qf_body))]) (Qc := fun A => (va_Qi (fun (r : Int32) (u : (Nat → Int32) × (Nat → Nat → Int32)) => (r.toInt = 0 ∨ r.toInt = 1) ∧ (0 ≤ ((u.1 0)).toInt ∧ ((u.1 0)).toInt ≤ 30) ∧ (rowR 30 0 (8) ((u.2 1)))) (kB D A (fun (u : (Nat → Int32) × (Nat → Nat → Int32)) => [(qa, .inr (8, [.ref qa_minute, .ref qa_body, .int ((u.1 0)), .ref qa_spotX, .ref qa_spotY, .int q_spots, .ref qa_order])), (qa_minute, .inl (cy 0, 30, .inl ((u.2 0)))), (qa_body, .inl (cy 0, 30, .inl ((u.2 1))))])) A)) (by decide) (Nat.le_of_ble_eq_true rfl) ?_
  intro p e s m below meth c ls A E hA hP hD hG hS hl
  obtain ⟨Q0, hQ0⟩ : ∃ Q0 : State → Prop, Q0 = MQ below (va_Qi (fun (r : Int32) (u : (Nat → Int32) × (Nat → Nat → Int32)) => (r.toInt = 0 ∨ r.toInt = 1) ∧ (0 ≤ ((u.1 0)).toInt ∧ ((u.1 0)).toInt ≤ 30) ∧ (rowR 30 0 (8) ((u.2 1)))) (kB D A (fun (u : (Nat → Int32) × (Nat → Nat → Int32)) => [(qa, .inr (8, [.ref qa_minute, .ref qa_body, .int ((u.1 0)), .ref qa_spotX, .ref qa_spotY, .int q_spots, .ref qa_order])), (qa_minute, .inl (cy 0, 30, .inl ((u.2 0)))), (qa_body, .inl (cy 0, 30, .inl ((u.2 1))))])) A) ([.ref qa, .int n0, .int b0] : List Value).toArray s 0 0 A := ⟨_, rfl⟩
  rw [← hQ0]
  obtain ⟨hx, hb, hml, hown, hts, hr, hlk, hnm⟩ := id E
  have hown : s.vm.findClass RX6 = some m.cls := hown
  have hl : lv_has ls 3 [(0, .ref qa), (1, .int n0), (2, .int b0)] := hl
  have g_n0 := k_rng n0
  obtain ⟨H, hH⟩ : ∃ H, H = s.heap := ⟨_, rfl⟩
  have hP : va_P D vwCl [(qa, .inr (8, [.ref qa_minute, .ref qa_body, .int q_passings, .ref qa_spotX, .ref qa_spotY, .int q_spots, .ref qa_order])), (qa_minute, .inl (cy 0, 30, .inl qf_minute)), (qa_body, .inl (cy 0, 30, .inl qf_body))] H := by rw [hH]; exact hP
  have hS : va_S A s.heap H [] := by rw [hH]; exact va_S.rf
  rw [← hH]
  clear hH
  obtain ⟨locs, hlocs⟩ : ∃ locs : List Loc, locs = [] := ⟨_, rfl⟩
  rw [← hlocs] at hS ⊢
  refine lv_aload_n hx hb dX6_addPassing_0 rfl (lv_at hl 0 rfl) ?_
  refine va_get (D := D) (ci := 8) (v := .int q_passings) (C := RX6) (T := TX6) (N := 7) hx hb hts kin_RX6 hown hG.1 hP 0 rfl rfl 2 (by decide) (hts _ wm_240) (fun _ h9 => h9) rfl dX6_addPassing_1 ?_
  refine lv_bipush (v := 30) hx hb dX6_addPassing_4 (by decide) ?_
  refine lv_icmp_lt (tgt := 11) hx hb dX6_addPassing_6 (by decide) (fun c1q => ?_) (fun c1q => ?_)
  · simp only [k_lt, k_le, k_eq, ne_eq, ge_iff_le, gt_iff_lt, n_L30] at c1q
    refine lv_aload_n hx hb dX6_addPassing_11 rfl (lv_at hl 0 rfl) ?_
    refine va_get (D := D) (ci := 8) (v := .ref qa_minute) (C := RX6) (T := TX6) (N := 7) hx hb hts kin_RX6 hown hG.1 hP 0 rfl rfl 0 (by decide) (hts _ wm_236) (fun _ h9 => h9) rfl dX6_addPassing_12 ?_
    refine lv_aload_n hx hb dX6_addPassing_15 rfl (lv_at hl 0 rfl) ?_
    refine va_get (D := D) (ci := 8) (v := .int q_passings) (C := RX6) (T := TX6) (N := 7) hx hb hts kin_RX6 hown hG.1 hP 0 rfl rfl 2 (by decide) (hts _ wm_240) (fun _ h9 => h9) rfl dX6_addPassing_16 ?_
    refine lv_iload_n hx hb dX6_addPassing_19 rfl (lv_at hl 1 rfl) ?_
    refine va_iast hx hb hG.1 hP hD hS 1 0 rfl rfl (n_in (by omega) (by omega)) dX6_addPassing_20 (fun H locs hP hD hS => ?_)
    have hP : va_P D vwCl [(qa, .inr (8, [.ref qa_minute, .ref qa_body, .int q_passings, .ref qa_spotX, .ref qa_spotY, .int q_spots, .ref qa_order])), (qa_minute, .inl (cy 0, 30, .inl (upd (qf_minute) (q_passings : Int32).toNatClampNeg n0))), (qa_body, .inl (cy 0, 30, .inl qf_body))] H := hP
    have hD : va_D A [(qa, .inr (8, [.ref qa_minute, .ref qa_body, .int q_passings, .ref qa_spotX, .ref qa_spotY, .int q_spots, .ref qa_order])), (qa_minute, .inl (cy 0, 30, .inl (upd (qf_minute) (q_passings : Int32).toNatClampNeg n0))), (qa_body, .inl (cy 0, 30, .inl qf_body))] := hD
    generalize upd (qf_minute) (q_passings : Int32).toNatClampNeg n0 = f2q at hP hD
    have hP : va_P D vwCl [(qa, .inr (8, [.ref qa_minute, .ref qa_body, .int q_passings, .ref qa_spotX, .ref qa_spotY, .int q_spots, .ref qa_order])), (qa_minute, .inl (cy 0, 30, .inl f2q)), (qa_body, .inl (cy 0, 30, .inl qf_body))] H := hP
    have hD : va_D A [(qa, .inr (8, [.ref qa_minute, .ref qa_body, .int q_passings, .ref qa_spotX, .ref qa_spotY, .int q_spots, .ref qa_order])), (qa_minute, .inl (cy 0, 30, .inl f2q)), (qa_body, .inl (cy 0, 30, .inl qf_body))] := hD
    refine lv_aload_n hx hb dX6_addPassing_21 rfl (lv_at hl 0 rfl) ?_
    refine va_get (D := D) (ci := 8) (v := .ref qa_body) (C := RX6) (T := TX6) (N := 7) hx hb hts kin_RX6 hown hG.1 hP 0 rfl rfl 1 (by decide) (hts _ wm_238) (fun _ h9 => h9) rfl dX6_addPassing_22 ?_
    refine lv_aload_n hx hb dX6_addPassing_25 rfl (lv_at hl 0 rfl) ?_
    refine va_get (D := D) (ci := 8) (v := .int q_passings) (C := RX6) (T := TX6) (N := 7) hx hb hts kin_RX6 hown hG.1 hP 0 rfl rfl 2 (by decide) (hts _ wm_240) (fun _ h9 => h9) rfl dX6_addPassing_26 ?_
    refine lv_iload_n hx hb dX6_addPassing_29 rfl (lv_at hl 2 rfl) ?_
    refine va_iast hx hb hG.1 hP hD hS 2 0 rfl rfl (n_in (by omega) (by omega)) dX6_addPassing_30 (fun H locs hP hD hS => ?_)
    have hP : va_P D vwCl [(qa, .inr (8, [.ref qa_minute, .ref qa_body, .int q_passings, .ref qa_spotX, .ref qa_spotY, .int q_spots, .ref qa_order])), (qa_minute, .inl (cy 0, 30, .inl f2q)), (qa_body, .inl (cy 0, 30, .inl (upd (qf_body) (q_passings : Int32).toNatClampNeg b0)))] H := hP
    have hD : va_D A [(qa, .inr (8, [.ref qa_minute, .ref qa_body, .int q_passings, .ref qa_spotX, .ref qa_spotY, .int q_spots, .ref qa_order])), (qa_minute, .inl (cy 0, 30, .inl f2q)), (qa_body, .inl (cy 0, 30, .inl (upd (qf_body) (q_passings : Int32).toNatClampNeg b0)))] := hD
    have hf3q : rowR 30 0 (8) (upd (qf_body) (q_passings : Int32).toNatClampNeg b0) := rowR_upd h_qf_body (by omega) (by omega)
    generalize upd (qf_body) (q_passings : Int32).toNatClampNeg b0 = f3q at hP hD hf3q
    have hP : va_P D vwCl [(qa, .inr (8, [.ref qa_minute, .ref qa_body, .int q_passings, .ref qa_spotX, .ref qa_spotY, .int q_spots, .ref qa_order])), (qa_minute, .inl (cy 0, 30, .inl f2q)), (qa_body, .inl (cy 0, 30, .inl f3q))] H := hP
    have hD : va_D A [(qa, .inr (8, [.ref qa_minute, .ref qa_body, .int q_passings, .ref qa_spotX, .ref qa_spotY, .int q_spots, .ref qa_order])), (qa_minute, .inl (cy 0, 30, .inl f2q)), (qa_body, .inl (cy 0, 30, .inl f3q))] := hD
    refine lv_aload_n hx hb dX6_addPassing_31 rfl (lv_at hl 0 rfl) ?_
    refine lv_dup hx hb dX6_addPassing_32 rfl ?_
    refine va_get (D := D) (ci := 8) (v := .int q_passings) (C := RX6) (T := TX6) (N := 7) hx hb hts kin_RX6 hown hG.1 hP 0 rfl rfl 2 (by decide) (hts _ wm_240) (fun _ h9 => h9) rfl dX6_addPassing_33 ?_
    refine lv_iconst (v := 1) hx hb dX6_addPassing_36 (by decide) ?_
    refine lv_iadd hx hb dX6_addPassing_37 ?_
    refine lv_topi (fun x4q ex4q => ?_)
    have rx4q := n_add ex4q (a := q_passings.toInt) (b := 1) rfl n_L1 (by omega) (by omega)
    refine va_put (D := D) (ci := 8) (v := .int x4q) (ty := .int) (C := RX6) (T := TX6) (N := 7) hx hb hts kin_RX6 tyX6 tyX6_ok nmX6 hown hG.1 hP hD hS 0 rfl rfl 2 (by decide) (hts _ wm_240) (fun _ h9 => h9) rfl (by decide +kernel) rfl rfl (Nat.le_of_ble_eq_true rfl) dX6_addPassing_38 (fun H locs hP hD hS => ?_)
    have hP : va_P D vwCl [(qa, .inr (8, [.ref qa_minute, .ref qa_body, .int x4q, .ref qa_spotX, .ref qa_spotY, .int q_spots, .ref qa_order])), (qa_minute, .inl (cy 0, 30, .inl f2q)), (qa_body, .inl (cy 0, 30, .inl f3q))] H := hP
    have hD : va_D A [(qa, .inr (8, [.ref qa_minute, .ref qa_body, .int x4q, .ref qa_spotX, .ref qa_spotY, .int q_spots, .ref qa_order])), (qa_minute, .inl (cy 0, 30, .inl f2q)), (qa_body, .inl (cy 0, 30, .inl f3q))] := hD
    refine lv_iconst (v := 1) hx hb dX6_addPassing_41 (by decide) ?_
    rw [hQ0]
    exact k_zret (fun k => [x4q].getD k 0, fun k => [f2q, f3q].getD k (fun _ => 0)) hx hb hr hlk (k_nz (by decide)) (⟨(by show (1 : Int32).toInt = 0 ∨ (1 : Int32).toInt = 1; rw [n_L1]; omega), (show 0 ≤ x4q.toInt ∧ x4q.toInt ≤ 30 from ⟨by omega, by omega⟩), (show rowR 30 0 (8) f3q from hf3q)⟩) (hP.sub [0, 1, 2] rfl) (hD.sub [0, 1, 2] (by decide) rfl) hS (by decide) (by decide) dX6_addPassing_42
  · simp only [k_lt, k_le, k_eq, ne_eq, ge_iff_le, gt_iff_lt, n_L30] at c1q
    refine lv_iconst (v := 0) hx hb dX6_addPassing_9 (by decide) ?_
    rw [hQ0]
    exact k_zret (fun k => [q_passings].getD k 0, fun k => [qf_minute, qf_body].getD k (fun _ => 0)) hx hb hr hlk (k_nz (by decide)) (⟨(by show (0 : Int32).toInt = 0 ∨ (0 : Int32).toInt = 1; rw [n_L0]; omega), (show 0 ≤ q_passings.toInt ∧ q_passings.toInt ≤ 30 from ⟨by omega, by omega⟩), (show rowR 30 0 (8) qf_body from h_qf_body)⟩) (hP.sub [0, 1, 2] rfl) (hD.sub [0, 1, 2] (by decide) rfl) hS (by decide) (by decide) dX6_addPassing_10

set_option maxHeartbeats 4000000 in
set_option maxRecDepth 100000 in
/-- Plan.addSpot -/
theorem c_addSpot (l : Launch) (hl0 : l.stackTraces = false) (D : va_G) (cy : Nat → ClassId) (sa : Nat → Nat) (qa qa_minute qa_body qa_spotX qa_spotY qa_order : Nat) (q_passings q_spots x0 y0 : Int32) (qf_spotX qf_spotY : Nat → Int32) (h_q_passings : 0 ≤ q_passings.toInt ∧ q_passings.toInt ≤ 30) (h_q_spots : 0 ≤ q_spots.toInt ∧ q_spots.toInt ≤ 6) (h_qf_spotX : rowR 6 0 (15) qf_spotX) (h_qf_spotY : rowR 6 0 (15) qf_spotY) (h_x0 : 0 ≤ x0.toInt ∧ x0.toInt ≤ 15) (h_y0 : 0 ≤ y0.toInt ∧ y0.toInt ≤ 15) (sz : Nat) : Met l yX6_addSpot (Cond.code yX6_addSpot cX6_addSpot 3 (some .boolean) :: kWS) ({ frames := 10, cells := 0, slots := 0, locals := 300 }) (kPre D cy sa [.ref qa, .int x0, .int y0] [(qa, .inr (8, [.ref qa_minute, .ref qa_body, .int q_passings, .ref qa_spotX, .ref qa_spotY, .int q_spots, .ref qa_order])), (qa_spotX, .inl (cy 0, 6, .inl qf_spotX)), (qa_spotY, .inl (cy 0, 6, .inl qf_spotY))] sz) (va_Qi (fun (r : Int32) (u : (Nat → Int32) × (Nat → Nat → Int32)) => (r.toInt = 0 ∨ r.toInt = 1) ∧ (0 ≤ ((u.1 0)).toInt ∧ ((u.1 0)).toInt ≤ 6) ∧ (rowR 6 0 (15) ((u.2 0))) ∧ (rowR 6 0 (15) ((u.2 1)))) (kB D (va_A [(qa, .inr (8, [.ref qa_minute, .ref qa_body, .int q_passings, .ref qa_spotX, .ref qa_spotY, .int q_spots, .ref qa_order])), (qa_spotX, .inl (cy 0, 6, .inl qf_spotX)), (qa_spotY, .inl (cy 0, 6, .inl qf_spotY))] sz) (fun (u : (Nat → Int32) × (Nat → Nat → Int32)) => [(qa, .inr (8, [.ref qa_minute, .ref qa_body, .int q_passings, .ref qa_spotX, .ref qa_spotY, .int ((u.1 0)), .ref qa_order])), (qa_spotX, .inl (cy 0, 6, .inl ((u.2 0)))), (qa_spotY, .inl (cy 0, 6, .inl ((u.2 1))))])) (va_A [(qa, .inr (8, [.ref qa_minute, .ref qa_body, .int q_passings, .ref qa_spotX, .ref qa_spotY, .int q_spots, .ref qa_order])), (qa_spotX, .inl (cy 0, 6, .inl qf_spotX)), (qa_spotY, .inl (cy 0, 6, .inl qf_spotY))] sz)) 0 0 (va_A [(qa, .inr (8, [.ref qa_minute, .ref qa_body, .int q_passings, .ref qa_spotX, .ref qa_spotY, .int q_spots, .ref qa_order])), (qa_spotX, .inl (cy 0, 6, .inl qf_spotX)), (qa_spotY, .inl (cy 0, 6, .inl qf_spotY))] sz) := by
  refine k_ofW (y := yX6_addSpot) (cc := cX6_addSpot) (maxL := 3) (ret := (some .boolean)) (av := [.ref qa, .int x0, .int y0]) (ws := [(qa, .inr (8, [.ref qa_minute, .ref qa_body, .int q_passings, .ref qa_spotX, .ref qa_spotY, .int q_spots, .ref qa_order])), (qa_spotX, .inl (cy 0, 6, .inl qf_spotX)), (qa_spotY, .inl (cy 0, 6, .inl qf_spotY))]) (Qc := fun A => (va_Qi (fun (r : Int32) (u : (Nat → Int32) × (Nat → Nat → Int32)) => (r.toInt = 0 ∨ r.toInt = 1) ∧ (0 ≤ ((u.1 0)).toInt ∧ ((u.1 0)).toInt ≤ 6) ∧ (rowR 6 0 (15) ((u.2 0))) ∧ (rowR 6 0 (15) ((u.2 1)))) (kB D A (fun (u : (Nat → Int32) × (Nat → Nat → Int32)) => [(qa, .inr (8, [.ref qa_minute, .ref qa_body, .int q_passings, .ref qa_spotX, .ref qa_spotY, .int ((u.1 0)), .ref qa_order])), (qa_spotX, .inl (cy 0, 6, .inl ((u.2 0)))), (qa_spotY, .inl (cy 0, 6, .inl ((u.2 1))))])) A)) (by decide) (Nat.le_of_ble_eq_true rfl) ?_
  intro p e s m below meth c ls A E hA hP hD hG hS hl
  obtain ⟨Q0, hQ0⟩ : ∃ Q0 : State → Prop, Q0 = MQ below (va_Qi (fun (r : Int32) (u : (Nat → Int32) × (Nat → Nat → Int32)) => (r.toInt = 0 ∨ r.toInt = 1) ∧ (0 ≤ ((u.1 0)).toInt ∧ ((u.1 0)).toInt ≤ 6) ∧ (rowR 6 0 (15) ((u.2 0))) ∧ (rowR 6 0 (15) ((u.2 1)))) (kB D A (fun (u : (Nat → Int32) × (Nat → Nat → Int32)) => [(qa, .inr (8, [.ref qa_minute, .ref qa_body, .int q_passings, .ref qa_spotX, .ref qa_spotY, .int ((u.1 0)), .ref qa_order])), (qa_spotX, .inl (cy 0, 6, .inl ((u.2 0)))), (qa_spotY, .inl (cy 0, 6, .inl ((u.2 1))))])) A) ([.ref qa, .int x0, .int y0] : List Value).toArray s 0 0 A := ⟨_, rfl⟩
  rw [← hQ0]
  obtain ⟨hx, hb, hml, hown, hts, hr, hlk, hnm⟩ := id E
  have hown : s.vm.findClass RX6 = some m.cls := hown
  have hl : lv_has ls 3 [(0, .ref qa), (1, .int x0), (2, .int y0)] := hl
  obtain ⟨H, hH⟩ : ∃ H, H = s.heap := ⟨_, rfl⟩
  have hP : va_P D vwCl [(qa, .inr (8, [.ref qa_minute, .ref qa_body, .int q_passings, .ref qa_spotX, .ref qa_spotY, .int q_spots, .ref qa_order])), (qa_spotX, .inl (cy 0, 6, .inl qf_spotX)), (qa_spotY, .inl (cy 0, 6, .inl qf_spotY))] H := by rw [hH]; exact hP
  have hS : va_S A s.heap H [] := by rw [hH]; exact va_S.rf
  rw [← hH]
  clear hH
  obtain ⟨locs, hlocs⟩ : ∃ locs : List Loc, locs = [] := ⟨_, rfl⟩
  rw [← hlocs] at hS ⊢
  refine lv_aload_n hx hb dX6_addSpot_0 rfl (lv_at hl 0 rfl) ?_
  refine va_get (D := D) (ci := 8) (v := .int q_spots) (C := RX6) (T := TX6) (N := 7) hx hb hts kin_RX6 hown hG.1 hP 0 rfl rfl 5 (by decide) (hts _ wm_245) (fun _ h9 => h9) rfl dX6_addSpot_1 ?_
  refine lv_bipush (v := 6) hx hb dX6_addSpot_4 (by decide) ?_
  refine lv_icmp_lt (tgt := 11) hx hb dX6_addSpot_6 (by decide) (fun c1q => ?_) (fun c1q => ?_)
  · simp only [k_lt, k_le, k_eq, ne_eq, ge_iff_le, gt_iff_lt, n_L6] at c1q
    refine lv_aload_n hx hb dX6_addSpot_11 rfl (lv_at hl 0 rfl) ?_
    refine va_get (D := D) (ci := 8) (v := .ref qa_spotX) (C := RX6) (T := TX6) (N := 7) hx hb hts kin_RX6 hown hG.1 hP 0 rfl rfl 3 (by decide) (hts _ wm_243) (fun _ h9 => h9) rfl dX6_addSpot_12 ?_
    refine lv_aload_n hx hb dX6_addSpot_15 rfl (lv_at hl 0 rfl) ?_
    refine va_get (D := D) (ci := 8) (v := .int q_spots) (C := RX6) (T := TX6) (N := 7) hx hb hts kin_RX6 hown hG.1 hP 0 rfl rfl 5 (by decide) (hts _ wm_245) (fun _ h9 => h9) rfl dX6_addSpot_16 ?_
    refine lv_iload_n hx hb dX6_addSpot_19 rfl (lv_at hl 1 rfl) ?_
    refine va_iast hx hb hG.1 hP hD hS 1 0 rfl rfl (n_in (by omega) (by omega)) dX6_addSpot_20 (fun H locs hP hD hS => ?_)
    have hP : va_P D vwCl [(qa, .inr (8, [.ref qa_minute, .ref qa_body, .int q_passings, .ref qa_spotX, .ref qa_spotY, .int q_spots, .ref qa_order])), (qa_spotX, .inl (cy 0, 6, .inl (upd (qf_spotX) (q_spots : Int32).toNatClampNeg x0))), (qa_spotY, .inl (cy 0, 6, .inl qf_spotY))] H := hP
    have hD : va_D A [(qa, .inr (8, [.ref qa_minute, .ref qa_body, .int q_passings, .ref qa_spotX, .ref qa_spotY, .int q_spots, .ref qa_order])), (qa_spotX, .inl (cy 0, 6, .inl (upd (qf_spotX) (q_spots : Int32).toNatClampNeg x0))), (qa_spotY, .inl (cy 0, 6, .inl qf_spotY))] := hD
    have hf2q : rowR 6 0 (15) (upd (qf_spotX) (q_spots : Int32).toNatClampNeg x0) := rowR_upd h_qf_spotX (by omega) (by omega)
    generalize upd (qf_spotX) (q_spots : Int32).toNatClampNeg x0 = f2q at hP hD hf2q
    have hP : va_P D vwCl [(qa, .inr (8, [.ref qa_minute, .ref qa_body, .int q_passings, .ref qa_spotX, .ref qa_spotY, .int q_spots, .ref qa_order])), (qa_spotX, .inl (cy 0, 6, .inl f2q)), (qa_spotY, .inl (cy 0, 6, .inl qf_spotY))] H := hP
    have hD : va_D A [(qa, .inr (8, [.ref qa_minute, .ref qa_body, .int q_passings, .ref qa_spotX, .ref qa_spotY, .int q_spots, .ref qa_order])), (qa_spotX, .inl (cy 0, 6, .inl f2q)), (qa_spotY, .inl (cy 0, 6, .inl qf_spotY))] := hD
    refine lv_aload_n hx hb dX6_addSpot_21 rfl (lv_at hl 0 rfl) ?_
    refine va_get (D := D) (ci := 8) (v := .ref qa_spotY) (C := RX6) (T := TX6) (N := 7) hx hb hts kin_RX6 hown hG.1 hP 0 rfl rfl 4 (by decide) (hts _ wm_244) (fun _ h9 => h9) rfl dX6_addSpot_22 ?_
    refine lv_aload_n hx hb dX6_addSpot_25 rfl (lv_at hl 0 rfl) ?_
    refine va_get (D := D) (ci := 8) (v := .int q_spots) (C := RX6) (T := TX6) (N := 7) hx hb hts kin_RX6 hown hG.1 hP 0 rfl rfl 5 (by decide) (hts _ wm_245) (fun _ h9 => h9) rfl dX6_addSpot_26 ?_
    refine lv_iload_n hx hb dX6_addSpot_29 rfl (lv_at hl 2 rfl) ?_
    refine va_iast hx hb hG.1 hP hD hS 2 0 rfl rfl (n_in (by omega) (by omega)) dX6_addSpot_30 (fun H locs hP hD hS => ?_)
    have hP : va_P D vwCl [(qa, .inr (8, [.ref qa_minute, .ref qa_body, .int q_passings, .ref qa_spotX, .ref qa_spotY, .int q_spots, .ref qa_order])), (qa_spotX, .inl (cy 0, 6, .inl f2q)), (qa_spotY, .inl (cy 0, 6, .inl (upd (qf_spotY) (q_spots : Int32).toNatClampNeg y0)))] H := hP
    have hD : va_D A [(qa, .inr (8, [.ref qa_minute, .ref qa_body, .int q_passings, .ref qa_spotX, .ref qa_spotY, .int q_spots, .ref qa_order])), (qa_spotX, .inl (cy 0, 6, .inl f2q)), (qa_spotY, .inl (cy 0, 6, .inl (upd (qf_spotY) (q_spots : Int32).toNatClampNeg y0)))] := hD
    have hf3q : rowR 6 0 (15) (upd (qf_spotY) (q_spots : Int32).toNatClampNeg y0) := rowR_upd h_qf_spotY (by omega) (by omega)
    generalize upd (qf_spotY) (q_spots : Int32).toNatClampNeg y0 = f3q at hP hD hf3q
    have hP : va_P D vwCl [(qa, .inr (8, [.ref qa_minute, .ref qa_body, .int q_passings, .ref qa_spotX, .ref qa_spotY, .int q_spots, .ref qa_order])), (qa_spotX, .inl (cy 0, 6, .inl f2q)), (qa_spotY, .inl (cy 0, 6, .inl f3q))] H := hP
    have hD : va_D A [(qa, .inr (8, [.ref qa_minute, .ref qa_body, .int q_passings, .ref qa_spotX, .ref qa_spotY, .int q_spots, .ref qa_order])), (qa_spotX, .inl (cy 0, 6, .inl f2q)), (qa_spotY, .inl (cy 0, 6, .inl f3q))] := hD
    refine lv_aload_n hx hb dX6_addSpot_31 rfl (lv_at hl 0 rfl) ?_
    refine lv_dup hx hb dX6_addSpot_32 rfl ?_
    refine va_get (D := D) (ci := 8) (v := .int q_spots) (C := RX6) (T := TX6) (N := 7) hx hb hts kin_RX6 hown hG.1 hP 0 rfl rfl 5 (by decide) (hts _ wm_245) (fun _ h9 => h9) rfl dX6_addSpot_33 ?_
    refine lv_iconst (v := 1) hx hb dX6_addSpot_36 (by decide) ?_
    refine lv_iadd hx hb dX6_addSpot_37 ?_
    refine lv_topi (fun x4q ex4q => ?_)
    have rx4q := n_add ex4q (a := q_spots.toInt) (b := 1) rfl n_L1 (by omega) (by omega)
    refine va_put (D := D) (ci := 8) (v := .int x4q) (ty := .int) (C := RX6) (T := TX6) (N := 7) hx hb hts kin_RX6 tyX6 tyX6_ok nmX6 hown hG.1 hP hD hS 0 rfl rfl 5 (by decide) (hts _ wm_245) (fun _ h9 => h9) rfl (by decide +kernel) rfl rfl (Nat.le_of_ble_eq_true rfl) dX6_addSpot_38 (fun H locs hP hD hS => ?_)
    have hP : va_P D vwCl [(qa, .inr (8, [.ref qa_minute, .ref qa_body, .int q_passings, .ref qa_spotX, .ref qa_spotY, .int x4q, .ref qa_order])), (qa_spotX, .inl (cy 0, 6, .inl f2q)), (qa_spotY, .inl (cy 0, 6, .inl f3q))] H := hP
    have hD : va_D A [(qa, .inr (8, [.ref qa_minute, .ref qa_body, .int q_passings, .ref qa_spotX, .ref qa_spotY, .int x4q, .ref qa_order])), (qa_spotX, .inl (cy 0, 6, .inl f2q)), (qa_spotY, .inl (cy 0, 6, .inl f3q))] := hD
    refine lv_iconst (v := 1) hx hb dX6_addSpot_41 (by decide) ?_
    rw [hQ0]
    exact k_zret (fun k => [x4q].getD k 0, fun k => [f2q, f3q].getD k (fun _ => 0)) hx hb hr hlk (k_nz (by decide)) (⟨(by show (1 : Int32).toInt = 0 ∨ (1 : Int32).toInt = 1; rw [n_L1]; omega), (show 0 ≤ x4q.toInt ∧ x4q.toInt ≤ 6 from ⟨by omega, by omega⟩), (show rowR 6 0 (15) f2q from hf2q), (show rowR 6 0 (15) f3q from hf3q)⟩) (hP.sub [0, 1, 2] rfl) (hD.sub [0, 1, 2] (by decide) rfl) hS (by decide) (by decide) dX6_addSpot_42
  · simp only [k_lt, k_le, k_eq, ne_eq, ge_iff_le, gt_iff_lt, n_L6] at c1q
    refine lv_iconst (v := 0) hx hb dX6_addSpot_9 (by decide) ?_
    rw [hQ0]
    exact k_zret (fun k => [q_spots].getD k 0, fun k => [qf_spotX, qf_spotY].getD k (fun _ => 0)) hx hb hr hlk (k_nz (by decide)) (⟨(by show (0 : Int32).toInt = 0 ∨ (0 : Int32).toInt = 1; rw [n_L0]; omega), (show 0 ≤ q_spots.toInt ∧ q_spots.toInt ≤ 6 from ⟨by omega, by omega⟩), (show rowR 6 0 (15) qf_spotX from h_qf_spotX), (show rowR 6 0 (15) qf_spotY from h_qf_spotY)⟩) (hP.sub [0, 1, 2] rfl) (hD.sub [0, 1, 2] (by decide) rfl) hS (by decide) (by decide) dX6_addSpot_10

set_option maxHeartbeats 4000000 in
set_option maxRecDepth 100000 in
/-- Plan.swap -/
theorem c_swap (l : Launch) (hl0 : l.stackTraces = false) (D : va_G) (cy : Nat → ClassId) (sa : Nat → Nat) (qa qa_minute qa_body qa_spotX qa_spotY qa_order : Nat) (q_passings q_spots i0 j0 : Int32) (qf_order : Nat → Int32) (h_q_passings : 0 ≤ q_passings.toInt ∧ q_passings.toInt ≤ 30) (h_q_spots : 0 ≤ q_spots.toInt ∧ q_spots.toInt ≤ 6) (h_qf_order : rowR 6 0 (5) qf_order) (h_i0 : 0 ≤ i0.toInt ∧ i0.toInt ≤ 5) (h_j0 : 0 ≤ j0.toInt ∧ j0.toInt ≤ 5) (sz : Nat) : Met l yX6_swap (Cond.code yX6_swap cX6_swap 4 none :: kWS) ({ frames := 10, cells := 0, slots := 0, locals := 300 }) (kPre D cy sa [.ref qa, .int i0, .int j0] [(qa, .inr (8, [.ref qa_minute, .ref qa_body, .int q_passings, .ref qa_spotX, .ref qa_spotY, .int q_spots, .ref qa_order])), (qa_order, .inl (cy 0, 6, .inl qf_order))] sz) (va_Qv (fun (u : (Nat → Int32) × (Nat → Nat → Int32)) => (rowR 6 0 (5) ((u.2 0)))) (kB D (va_A [(qa, .inr (8, [.ref qa_minute, .ref qa_body, .int q_passings, .ref qa_spotX, .ref qa_spotY, .int q_spots, .ref qa_order])), (qa_order, .inl (cy 0, 6, .inl qf_order))] sz) (fun (u : (Nat → Int32) × (Nat → Nat → Int32)) => [(qa, .inr (8, [.ref qa_minute, .ref qa_body, .int q_passings, .ref qa_spotX, .ref qa_spotY, .int q_spots, .ref qa_order])), (qa_order, .inl (cy 0, 6, .inl ((u.2 0))))])) (va_A [(qa, .inr (8, [.ref qa_minute, .ref qa_body, .int q_passings, .ref qa_spotX, .ref qa_spotY, .int q_spots, .ref qa_order])), (qa_order, .inl (cy 0, 6, .inl qf_order))] sz)) 0 0 (va_A [(qa, .inr (8, [.ref qa_minute, .ref qa_body, .int q_passings, .ref qa_spotX, .ref qa_spotY, .int q_spots, .ref qa_order])), (qa_order, .inl (cy 0, 6, .inl qf_order))] sz) := by
  refine k_ofW (y := yX6_swap) (cc := cX6_swap) (maxL := 4) (ret := none) (av := [.ref qa, .int i0, .int j0]) (ws := [(qa, .inr (8, [.ref qa_minute, .ref qa_body, .int q_passings, .ref qa_spotX, .ref qa_spotY, .int q_spots, .ref qa_order])), (qa_order, .inl (cy 0, 6, .inl qf_order))]) (Qc := fun A => (va_Qv (fun (u : (Nat → Int32) × (Nat → Nat → Int32)) => (rowR 6 0 (5) ((u.2 0)))) (kB D A (fun (u : (Nat → Int32) × (Nat → Nat → Int32)) => [(qa, .inr (8, [.ref qa_minute, .ref qa_body, .int q_passings, .ref qa_spotX, .ref qa_spotY, .int q_spots, .ref qa_order])), (qa_order, .inl (cy 0, 6, .inl ((u.2 0))))])) A)) (by decide) (Nat.le_of_ble_eq_true rfl) ?_
  intro p e s m below meth c ls A E hA hP hD hG hS hl
  obtain ⟨Q0, hQ0⟩ : ∃ Q0 : State → Prop, Q0 = MQ below (va_Qv (fun (u : (Nat → Int32) × (Nat → Nat → Int32)) => (rowR 6 0 (5) ((u.2 0)))) (kB D A (fun (u : (Nat → Int32) × (Nat → Nat → Int32)) => [(qa, .inr (8, [.ref qa_minute, .ref qa_body, .int q_passings, .ref qa_spotX, .ref qa_spotY, .int q_spots, .ref qa_order])), (qa_order, .inl (cy 0, 6, .inl ((u.2 0))))])) A) ([.ref qa, .int i0, .int j0] : List Value).toArray s 0 0 A := ⟨_, rfl⟩
  rw [← hQ0]
  obtain ⟨hx, hb, hml, hown, hts, hr, hlk, hnm⟩ := id E
  have hown : s.vm.findClass RX6 = some m.cls := hown
  have hl : lv_has ls 4 [(0, .ref qa), (1, .int i0), (2, .int j0)] := hl
  obtain ⟨H, hH⟩ : ∃ H, H = s.heap := ⟨_, rfl⟩
  have hP : va_P D vwCl [(qa, .inr (8, [.ref qa_minute, .ref qa_body, .int q_passings, .ref qa_spotX, .ref qa_spotY, .int q_spots, .ref qa_order])), (qa_order, .inl (cy 0, 6, .inl qf_order))] H := by rw [hH]; exact hP
  have hS : va_S A s.heap H [] := by rw [hH]; exact va_S.rf
  rw [← hH]
  clear hH
  obtain ⟨locs, hlocs⟩ : ∃ locs : List Loc, locs = [] := ⟨_, rfl⟩
  rw [← hlocs] at hS ⊢
  refine lv_aload_n hx hb dX6_swap_0 rfl (lv_at hl 0 rfl) ?_
  refine va_get (D := D) (ci := 8) (v := .ref qa_order) (C := RX6) (T := TX6) (N := 7) hx hb hts kin_RX6 hown hG.1 hP 0 rfl rfl 6 (by decide) (hts _ wm_247) (fun _ h9 => h9) rfl dX6_swap_1 ?_
  refine lv_iload_n hx hb dX6_swap_4 rfl (lv_at hl 1 rfl) ?_
  refine va_iald hx hb hG.1 hP 1 0 rfl rfl (n_in (by omega) (by omega)) dX6_swap_5 ?_
  refine lv_topi (fun x1q ex1q => ?_)
  have rx1q : 0 ≤ x1q.toInt ∧ x1q.toInt ≤ 5 := by rw [ex1q]; exact h_qf_order _ (n_lt (by omega) (by omega))
  refine lv_istore_n (lv' := [(3, .int x1q), (0, .ref qa), (1, .int i0), (2, .int j0)]) hx hb dX6_swap_6 rfl hl (by decide) rfl (fun ls hl => ?_)
  refine lv_aload_n hx hb dX6_swap_7 rfl (lv_at hl 1 rfl) ?_
  refine va_get (D := D) (ci := 8) (v := .ref qa_order) (C := RX6) (T := TX6) (N := 7) hx hb hts kin_RX6 hown hG.1 hP 0 rfl rfl 6 (by decide) (hts _ wm_247) (fun _ h9 => h9) rfl dX6_swap_8 ?_
  refine lv_iload_n hx hb dX6_swap_11 rfl (lv_at hl 2 rfl) ?_
  refine lv_aload_n hx hb dX6_swap_12 rfl (lv_at hl 1 rfl) ?_
  refine va_get (D := D) (ci := 8) (v := .ref qa_order) (C := RX6) (T := TX6) (N := 7) hx hb hts kin_RX6 hown hG.1 hP 0 rfl rfl 6 (by decide) (hts _ wm_247) (fun _ h9 => h9) rfl dX6_swap_13 ?_
  refine lv_iload_n hx hb dX6_swap_16 rfl (lv_at hl 3 rfl) ?_
  refine va_iald hx hb hG.1 hP 1 0 rfl rfl (n_in (by omega) (by omega)) dX6_swap_17 ?_
  refine lv_topi (fun x2q ex2q => ?_)
  have rx2q : 0 ≤ x2q.toInt ∧ x2q.toInt ≤ 5 := by rw [ex2q]; exact h_qf_order _ (n_lt (by omega) (by omega))
  refine va_iast hx hb hG.1 hP hD hS 1 0 rfl rfl (n_in (by omega) (by omega)) dX6_swap_18 (fun H locs hP hD hS => ?_)
  have hP : va_P D vwCl [(qa, .inr (8, [.ref qa_minute, .ref qa_body, .int q_passings, .ref qa_spotX, .ref qa_spotY, .int q_spots, .ref qa_order])), (qa_order, .inl (cy 0, 6, .inl (upd (qf_order) (i0 : Int32).toNatClampNeg x2q)))] H := hP
  have hD : va_D A [(qa, .inr (8, [.ref qa_minute, .ref qa_body, .int q_passings, .ref qa_spotX, .ref qa_spotY, .int q_spots, .ref qa_order])), (qa_order, .inl (cy 0, 6, .inl (upd (qf_order) (i0 : Int32).toNatClampNeg x2q)))] := hD
  have hf3q : rowR 6 0 (5) (upd (qf_order) (i0 : Int32).toNatClampNeg x2q) := rowR_upd h_qf_order (by omega) (by omega)
  generalize upd (qf_order) (i0 : Int32).toNatClampNeg x2q = f3q at hP hD hf3q
  have hP : va_P D vwCl [(qa, .inr (8, [.ref qa_minute, .ref qa_body, .int q_passings, .ref qa_spotX, .ref qa_spotY, .int q_spots, .ref qa_order])), (qa_order, .inl (cy 0, 6, .inl f3q))] H := hP
  have hD : va_D A [(qa, .inr (8, [.ref qa_minute, .ref qa_body, .int q_passings, .ref qa_spotX, .ref qa_spotY, .int q_spots, .ref qa_order])), (qa_order, .inl (cy 0, 6, .inl f3q))] := hD
  refine lv_aload_n hx hb dX6_swap_19 rfl (lv_at hl 1 rfl) ?_
  refine va_get (D := D) (ci := 8) (v := .ref qa_order) (C := RX6) (T := TX6) (N := 7) hx hb hts kin_RX6 hown hG.1 hP 0 rfl rfl 6 (by decide) (hts _ wm_247) (fun _ h9 => h9) rfl dX6_swap_20 ?_
  refine lv_iload_n hx hb dX6_swap_23 rfl (lv_at hl 3 rfl) ?_
  refine lv_iload_n hx hb dX6_swap_24 rfl (lv_at hl 0 rfl) ?_
  refine va_iast hx hb hG.1 hP hD hS 1 0 rfl rfl (n_in (by omega) (by omega)) dX6_swap_25 (fun H locs hP hD hS => ?_)
  have hP : va_P D vwCl [(qa, .inr (8, [.ref qa_minute, .ref qa_body, .int q_passings, .ref qa_spotX, .ref qa_spotY, .int q_spots, .ref qa_order])), (qa_order, .inl (cy 0, 6, .inl (upd (f3q) (j0 : Int32).toNatClampNeg x1q)))] H := hP
  have hD : va_D A [(qa, .inr (8, [.ref qa_minute, .ref qa_body, .int q_passings, .ref qa_spotX, .ref qa_spotY, .int q_spots, .ref qa_order])), (qa_order, .inl (cy 0, 6, .inl (upd (f3q) (j0 : Int32).toNatClampNeg x1q)))] := hD
  have hf4q : rowR 6 0 (5) (upd (f3q) (j0 : Int32).toNatClampNeg x1q) := rowR_upd hf3q (by omega) (by omega)
  generalize upd (f3q) (j0 : Int32).toNatClampNeg x1q = f4q at hP hD hf4q
  have hP : va_P D vwCl [(qa, .inr (8, [.ref qa_minute, .ref qa_body, .int q_passings, .ref qa_spotX, .ref qa_spotY, .int q_spots, .ref qa_order])), (qa_order, .inl (cy 0, 6, .inl f4q))] H := hP
  have hD : va_D A [(qa, .inr (8, [.ref qa_minute, .ref qa_body, .int q_passings, .ref qa_spotX, .ref qa_spotY, .int q_spots, .ref qa_order])), (qa_order, .inl (cy 0, 6, .inl f4q))] := hD
  rw [hQ0]
  exact k_vret (fun k => [].getD k 0, fun k => [f4q].getD k (fun _ => 0)) hx hb hr hlk ((show rowR 6 0 (5) f4q from hf4q)) (hP.sub [0, 1] rfl) (hD.sub [0, 1] (by decide) rfl) hS (by decide) (by decide) dX6_swap_26

set_option maxHeartbeats 4000000 in
set_option maxRecDepth 100000 in
/-- Plan.orderAsDigits -/
theorem c_digits (l : Launch) (hl0 : l.stackTraces = false) (D : va_G) (cy : Nat → ClassId) (sa : Nat → Nat) (qa qa_minute qa_body qa_spotX qa_spotY qa_order : Nat) (q_passings q_spots : Int32) (qf_order : Nat → Int32) (h_q_passings : 0 ≤ q_passings.toInt ∧ q_passings.toInt ≤ 30) (h_q_spots : 0 ≤ q_spots.toInt ∧ q_spots.toInt ≤ 6) (h_qf_order : rowR 6 0 (5) qf_order) (sz : Nat) : Met l yX6_orderAsDigits (Cond.code yX6_orderAsDigits cX6_orderAsDigits 3 (some .int) :: kWS) ({ frames := 10, cells := 0, slots := 0, locals := 300 }) (kPre D cy sa [.ref qa] [(qa, .inr (8, [.ref qa_minute, .ref qa_body, .int q_passings, .ref qa_spotX, .ref qa_spotY, .int q_spots, .ref qa_order])), (qa_order, .inl (cy 0, 6, .inl qf_order))] sz) (va_Qi (fun (r : Int32) (u : Unit) => True) (kB D (va_A [(qa, .inr (8, [.ref qa_minute, .ref qa_body, .int q_passings, .ref qa_spotX, .ref qa_spotY, .int q_spots, .ref qa_order])), (qa_order, .inl (cy 0, 6, .inl qf_order))] sz) (fun (u : Unit) => [(qa, .inr (8, [.ref qa_minute, .ref qa_body, .int q_passings, .ref qa_spotX, .ref qa_spotY, .int q_spots, .ref qa_order])), (qa_order, .inl (cy 0, 6, .inl qf_order))])) (va_A [(qa, .inr (8, [.ref qa_minute, .ref qa_body, .int q_passings, .ref qa_spotX, .ref qa_spotY, .int q_spots, .ref qa_order])), (qa_order, .inl (cy 0, 6, .inl qf_order))] sz)) 0 0 (va_A [(qa, .inr (8, [.ref qa_minute, .ref qa_body, .int q_passings, .ref qa_spotX, .ref qa_spotY, .int q_spots, .ref qa_order])), (qa_order, .inl (cy 0, 6, .inl qf_order))] sz) := by
  refine k_ofW (y := yX6_orderAsDigits) (cc := cX6_orderAsDigits) (maxL := 3) (ret := (some .int)) (av := [.ref qa]) (ws := [(qa, .inr (8, [.ref qa_minute, .ref qa_body, .int q_passings, .ref qa_spotX, .ref qa_spotY, .int q_spots, .ref qa_order])), (qa_order, .inl (cy 0, 6, .inl qf_order))]) (Qc := fun A => (va_Qi (fun (r : Int32) (u : Unit) => True) (kB D A (fun (u : Unit) => [(qa, .inr (8, [.ref qa_minute, .ref qa_body, .int q_passings, .ref qa_spotX, .ref qa_spotY, .int q_spots, .ref qa_order])), (qa_order, .inl (cy 0, 6, .inl qf_order))])) A)) (by decide) (Nat.le_of_ble_eq_true rfl) ?_
  intro p e s m below meth c ls A E hA hP hD hG hS hl
  obtain ⟨Q0, hQ0⟩ : ∃ Q0 : State → Prop, Q0 = MQ below (va_Qi (fun (r : Int32) (u : Unit) => True) (kB D A (fun (u : Unit) => [(qa, .inr (8, [.ref qa_minute, .ref qa_body, .int q_passings, .ref qa_spotX, .ref qa_spotY, .int q_spots, .ref qa_order])), (qa_order, .inl (cy 0, 6, .inl qf_order))])) A) ([.ref qa] : List Value).toArray s 0 0 A := ⟨_, rfl⟩
  rw [← hQ0]
  obtain ⟨hx, hb, hml, hown, hts, hr, hlk, hnm⟩ := id E
  have hown : s.vm.findClass RX6 = some m.cls := hown
  have hl : lv_has ls 3 [(0, .ref qa)] := hl
  obtain ⟨H, hH⟩ : ∃ H, H = s.heap := ⟨_, rfl⟩
  have hP : va_P D vwCl [(qa, .inr (8, [.ref qa_minute, .ref qa_body, .int q_passings, .ref qa_spotX, .ref qa_spotY, .int q_spots, .ref qa_order])), (qa_order, .inl (cy 0, 6, .inl qf_order))] H := by rw [hH]; exact hP
  have hS : va_S A s.heap H [] := by rw [hH]; exact va_S.rf
  rw [← hH]
  clear hH
  obtain ⟨locs, hlocs⟩ : ∃ locs : List Loc, locs = [] := ⟨_, rfl⟩
  rw [← hlocs] at hS ⊢
  refine lv_iconst (v := 0) hx hb dX6_orderAsDigits_0 (by decide) ?_
  refine lv_istore_n (lv' := [(1, .int 0), (0, .ref qa)]) hx hb dX6_orderAsDigits_1 rfl hl (by decide) rfl (fun ls hl => ?_)
  refine lv_iconst (v := 0) hx hb dX6_orderAsDigits_2 (by decide) ?_
  refine lv_istore_n (lv' := [(2, .int 0), (1, .int 0), (0, .ref qa)]) hx hb dX6_orderAsDigits_3 rfl hl (by decide) rfl (fun ls hl => ?_)
  have k1q : ∀ (n : Nat) (k1qy1 : Int32) (k1qy2 : Int32) (H : Heap) (locs : List Loc) (ls : Array Slot), 0 ≤ k1qy2.toInt ∧ k1qy2.toInt ≤ 6 → (6 - k1qy2.toInt).toNat = n → va_P D vwCl [(qa, .inr (8, [.ref qa_minute, .ref qa_body, .int q_passings, .ref qa_spotX, .ref qa_spotY, .int q_spots, .ref qa_order])), (qa_order, .inl (cy 0, 6, .inl qf_order))] H → va_D A [(qa, .inr (8, [.ref qa_minute, .ref qa_body, .int q_passings, .ref qa_spotX, .ref qa_spotY, .int q_spots, .ref qa_order])), (qa_order, .inl (cy 0, 6, .inl qf_order))] → va_S A s.heap H locs → lv_has ls 3 [(2, .int k1qy2), (1, .int k1qy1), (0, .ref qa)] → W p l e ({ frames := 10, cells := 0, slots := 0, locals := 300 }) s m ([.ref qa] : List Value).toArray below meth c H locs 0 0 Q0 (F0 m 4 ls []) := by
    intro n
    induction n using Nat.strongRecOn with
    | ind n k1qih =>
      intro k1qy1 k1qy2 H locs ls hk1qy2 k1qm hP hD hS hl
      have gk1qy1 := k_rng k1qy1
      refine lv_iload_n hx hb dX6_orderAsDigits_4 rfl (lv_at hl 0 rfl) ?_
      refine lv_aload_n hx hb dX6_orderAsDigits_5 rfl (lv_at hl 2 rfl) ?_
      refine va_get (D := D) (ci := 8) (v := .int q_spots) (C := RX6) (T := TX6) (N := 7) hx hb hts kin_RX6 hown hG.1 hP 0 rfl rfl 5 (by decide) (hts _ wm_245) (fun _ h9 => h9) rfl dX6_orderAsDigits_6 ?_
      refine lv_icmp_ge (tgt := 30) hx hb dX6_orderAsDigits_9 (by decide) (fun c2q => ?_) (fun c2q => ?_)
      · simp only [k_lt, k_le, k_eq, ne_eq, ge_iff_le, gt_iff_lt] at c2q
        refine lv_iload_n hx hb dX6_orderAsDigits_30 rfl (lv_at hl 1 rfl) ?_
        rw [hQ0]
        exact k_iret () hx hb hr hlk (trivial) (hP.sub [0, 1] rfl) (hD.sub [0, 1] (by decide) rfl) hS (by decide) (by decide) dX6_orderAsDigits_31
      · simp only [k_lt, k_le, k_eq, ne_eq, ge_iff_le, gt_iff_lt] at c2q
        refine lv_iload_n hx hb dX6_orderAsDigits_12 rfl (lv_at hl 1 rfl) ?_
        refine lv_bipush (v := 6) hx hb dX6_orderAsDigits_13 (by decide) ?_
        refine lv_imul hx hb dX6_orderAsDigits_15 ?_
        refine lv_topi (fun x3q ex3q => ?_)
        have gx3q := k_rng k1qy1
        refine lv_aload_n hx hb dX6_orderAsDigits_16 rfl (lv_at hl 2 rfl) ?_
        refine va_get (D := D) (ci := 8) (v := .ref qa_order) (C := RX6) (T := TX6) (N := 7) hx hb hts kin_RX6 hown hG.1 hP 0 rfl rfl 6 (by decide) (hts _ wm_247) (fun _ h9 => h9) rfl dX6_orderAsDigits_17 ?_
        refine lv_iload_n hx hb dX6_orderAsDigits_20 rfl (lv_at hl 0 rfl) ?_
        refine va_iald hx hb hG.1 hP 1 0 rfl rfl (n_in (by omega) (by omega)) dX6_orderAsDigits_21 ?_
        refine lv_topi (fun x4q ex4q => ?_)
        have rx4q : 0 ≤ x4q.toInt ∧ x4q.toInt ≤ 5 := by rw [ex4q]; exact h_qf_order _ (n_lt (by omega) (by omega))
        refine lv_iadd hx hb dX6_orderAsDigits_22 ?_
        refine lv_topi (fun x5q ex5q => ?_)
        have gx5q := k_rng x3q
        refine lv_istore_n (lv' := [(1, .int x5q), (2, .int k1qy2), (0, .ref qa)]) hx hb dX6_orderAsDigits_23 rfl hl (by decide) rfl (fun ls hl => ?_)
        obtain ⟨x6q, ex6q⟩ : ∃ z : Int32, z = k1qy2 + 1 := ⟨_, rfl⟩
        refine lv_iinc (v := x6q) (lv' := [(2, .int x6q), (1, .int x5q), (0, .ref qa)]) hx hb dX6_orderAsDigits_24 hl (k := 1) rfl (by rw [ex6q]; rfl) (by decide) rfl (fun ls hl => ?_)
        have rx6q := n_add ex6q (a := k1qy2.toInt) (b := 1) rfl n_L1 (by omega) (by omega)
        refine lv_goto (tgt := 4) hx hb dX6_orderAsDigits_27 (by decide) ?_
        exact k1qih ((6 - x6q.toInt).toNat) (by omega) x5q x6q H locs ls ⟨by omega, by omega⟩ rfl hP hD hS (lv_sub hl [0, 1, 2] rfl)
  exact k1q _ 0 0 H locs ls ⟨by rw [n_L0]; omega, by rw [n_L0]; omega⟩ rfl hP hD hS (lv_sub hl [0, 1, 2] rfl)

set_option maxHeartbeats 4000000 in
set_option maxRecDepth 100000 in
/-- Plan.costOfOrder -/
theorem c_costOfOrder (l : Launch) (hl0 : l.stackTraces = false) (D : va_G) (cy : Nat → ClassId) (sa : Nat → Nat) (qa qa_minute qa_body qa_spotX qa_spotY qa_order ha ha_x ha_y ha_holds ha_needs ha_harm ha_worth ha_joint ha_habit ha_sleepsFrom ha_sleepsTo ha_criesDrifted ha_criesElse : Nat) (q_passings q_spots h_bodies h_joints h_breath h_stride h_day : Int32) (qf_spotX qf_spotY qf_order : Nat → Int32) (h_q_passings : 0 ≤ q_passings.toInt ∧ q_passings.toInt ≤ 30) (h_q_spots : 0 ≤ q_spots.toInt ∧ q_spots.toInt ≤ 6) (h_qf_spotX : rowR 6 0 (15) qf_spotX) (h_qf_spotY : rowR 6 0 (15) qf_spotY) (h_qf_order : rowR 6 0 (5) qf_order) (h_h_bodies : 0 ≤ h_bodies.toInt ∧ h_bodies.toInt ≤ 9) (h_h_breath : 0 ≤ h_breath.toInt ∧ h_breath.toInt ≤ 9) (h_h_day : 0 ≤ h_day.toInt ∧ h_day.toInt ≤ 480) (sz : Nat) : Met l yX6_costOfOrder (Cond.code yX6_costOfOrder cX6_costOfOrder 6 (some .int) :: kWS) ({ frames := 11, cells := 0, slots := 0, locals := 360 }) (kPre D cy sa [.ref qa, .ref ha] [(qa, .inr (8, [.ref qa_minute, .ref qa_body, .int q_passings, .ref qa_spotX, .ref qa_spotY, .int q_spots, .ref qa_order])), (qa_spotX, .inl (cy 0, 6, .inl qf_spotX)), (qa_spotY, .inl (cy 0, 6, .inl qf_spotY)), (qa_order, .inl (cy 0, 6, .inl qf_order)), (ha, .inr (4, [.ref ha_x, .ref ha_y, .ref ha_holds, .ref ha_needs, .ref ha_harm, .ref ha_worth, .ref ha_joint, .ref ha_habit, .ref ha_sleepsFrom, .ref ha_sleepsTo, .ref ha_criesDrifted, .ref ha_criesElse, .int h_bodies, .int h_joints, .int h_breath, .int h_stride, .int h_day]))] sz) (va_Qi (fun (r : Int32) (u : Unit) => True) (kB D (va_A [(qa, .inr (8, [.ref qa_minute, .ref qa_body, .int q_passings, .ref qa_spotX, .ref qa_spotY, .int q_spots, .ref qa_order])), (qa_spotX, .inl (cy 0, 6, .inl qf_spotX)), (qa_spotY, .inl (cy 0, 6, .inl qf_spotY)), (qa_order, .inl (cy 0, 6, .inl qf_order)), (ha, .inr (4, [.ref ha_x, .ref ha_y, .ref ha_holds, .ref ha_needs, .ref ha_harm, .ref ha_worth, .ref ha_joint, .ref ha_habit, .ref ha_sleepsFrom, .ref ha_sleepsTo, .ref ha_criesDrifted, .ref ha_criesElse, .int h_bodies, .int h_joints, .int h_breath, .int h_stride, .int h_day]))] sz) (fun (u : Unit) => [(qa, .inr (8, [.ref qa_minute, .ref qa_body, .int q_passings, .ref qa_spotX, .ref qa_spotY, .int q_spots, .ref qa_order])), (qa_spotX, .inl (cy 0, 6, .inl qf_spotX)), (qa_spotY, .inl (cy 0, 6, .inl qf_spotY)), (qa_order, .inl (cy 0, 6, .inl qf_order)), (ha, .inr (4, [.ref ha_x, .ref ha_y, .ref ha_holds, .ref ha_needs, .ref ha_harm, .ref ha_worth, .ref ha_joint, .ref ha_habit, .ref ha_sleepsFrom, .ref ha_sleepsTo, .ref ha_criesDrifted, .ref ha_criesElse, .int h_bodies, .int h_joints, .int h_breath, .int h_stride, .int h_day]))])) (va_A [(qa, .inr (8, [.ref qa_minute, .ref qa_body, .int q_passings, .ref qa_spotX, .ref qa_spotY, .int q_spots, .ref qa_order])), (qa_spotX, .inl (cy 0, 6, .inl qf_spotX)), (qa_spotY, .inl (cy 0, 6, .inl qf_spotY)), (qa_order, .inl (cy 0, 6, .inl qf_order)), (ha, .inr (4, [.ref ha_x, .ref ha_y, .ref ha_holds, .ref ha_needs, .ref ha_harm, .ref ha_worth, .ref ha_joint, .ref ha_habit, .ref ha_sleepsFrom, .ref ha_sleepsTo, .ref ha_criesDrifted, .ref ha_criesElse, .int h_bodies, .int h_joints, .int h_breath, .int h_stride, .int h_day]))] sz)) 0 0 (va_A [(qa, .inr (8, [.ref qa_minute, .ref qa_body, .int q_passings, .ref qa_spotX, .ref qa_spotY, .int q_spots, .ref qa_order])), (qa_spotX, .inl (cy 0, 6, .inl qf_spotX)), (qa_spotY, .inl (cy 0, 6, .inl qf_spotY)), (qa_order, .inl (cy 0, 6, .inl qf_order)), (ha, .inr (4, [.ref ha_x, .ref ha_y, .ref ha_holds, .ref ha_needs, .ref ha_harm, .ref ha_worth, .ref ha_joint, .ref ha_habit, .ref ha_sleepsFrom, .ref ha_sleepsTo, .ref ha_criesDrifted, .ref ha_criesElse, .int h_bodies, .int h_joints, .int h_breath, .int h_stride, .int h_day]))] sz) := by
  refine k_ofW (y := yX6_costOfOrder) (cc := cX6_costOfOrder) (maxL := 6) (ret := (some .int)) (av := [.ref qa, .ref ha]) (ws := [(qa, .inr (8, [.ref qa_minute, .ref qa_body, .int q_passings, .ref qa_spotX, .ref qa_spotY, .int q_spots, .ref qa_order])), (qa_spotX, .inl (cy 0, 6, .inl qf_spotX)), (qa_spotY, .inl (cy 0, 6, .inl qf_spotY)), (qa_order, .inl (cy 0, 6, .inl qf_order)), (ha, .inr (4, [.ref ha_x, .ref ha_y, .ref ha_holds, .ref ha_needs, .ref ha_harm, .ref ha_worth, .ref ha_joint, .ref ha_habit, .ref ha_sleepsFrom, .ref ha_sleepsTo, .ref ha_criesDrifted, .ref ha_criesElse, .int h_bodies, .int h_joints, .int h_breath, .int h_stride, .int h_day]))]) (Qc := fun A => (va_Qi (fun (r : Int32) (u : Unit) => True) (kB D A (fun (u : Unit) => [(qa, .inr (8, [.ref qa_minute, .ref qa_body, .int q_passings, .ref qa_spotX, .ref qa_spotY, .int q_spots, .ref qa_order])), (qa_spotX, .inl (cy 0, 6, .inl qf_spotX)), (qa_spotY, .inl (cy 0, 6, .inl qf_spotY)), (qa_order, .inl (cy 0, 6, .inl qf_order)), (ha, .inr (4, [.ref ha_x, .ref ha_y, .ref ha_holds, .ref ha_needs, .ref ha_harm, .ref ha_worth, .ref ha_joint, .ref ha_habit, .ref ha_sleepsFrom, .ref ha_sleepsTo, .ref ha_criesDrifted, .ref ha_criesElse, .int h_bodies, .int h_joints, .int h_breath, .int h_stride, .int h_day]))])) A)) (by decide) (Nat.le_of_ble_eq_true rfl) ?_
  intro p e s m below meth c ls A E hA hP hD hG hS hl
  obtain ⟨Q0, hQ0⟩ : ∃ Q0 : State → Prop, Q0 = MQ below (va_Qi (fun (r : Int32) (u : Unit) => True) (kB D A (fun (u : Unit) => [(qa, .inr (8, [.ref qa_minute, .ref qa_body, .int q_passings, .ref qa_spotX, .ref qa_spotY, .int q_spots, .ref qa_order])), (qa_spotX, .inl (cy 0, 6, .inl qf_spotX)), (qa_spotY, .inl (cy 0, 6, .inl qf_spotY)), (qa_order, .inl (cy 0, 6, .inl qf_order)), (ha, .inr (4, [.ref ha_x, .ref ha_y, .ref ha_holds, .ref ha_needs, .ref ha_harm, .ref ha_worth, .ref ha_joint, .ref ha_habit, .ref ha_sleepsFrom, .ref ha_sleepsTo, .ref ha_criesDrifted, .ref ha_criesElse, .int h_bodies, .int h_joints, .int h_breath, .int h_stride, .int h_day]))])) A) ([.ref qa, .ref ha] : List Value).toArray s 0 0 A := ⟨_, rfl⟩
  rw [← hQ0]
  obtain ⟨hx, hb, hml, hown, hts, hr, hlk, hnm⟩ := id E
  have hown : s.vm.findClass RX6 = some m.cls := hown
  have hl : lv_has ls 6 [(0, .ref qa), (1, .ref ha)] := hl
  obtain ⟨H, hH⟩ : ∃ H, H = s.heap := ⟨_, rfl⟩
  have hP : va_P D vwCl [(qa, .inr (8, [.ref qa_minute, .ref qa_body, .int q_passings, .ref qa_spotX, .ref qa_spotY, .int q_spots, .ref qa_order])), (qa_spotX, .inl (cy 0, 6, .inl qf_spotX)), (qa_spotY, .inl (cy 0, 6, .inl qf_spotY)), (qa_order, .inl (cy 0, 6, .inl qf_order)), (ha, .inr (4, [.ref ha_x, .ref ha_y, .ref ha_holds, .ref ha_needs, .ref ha_harm, .ref ha_worth, .ref ha_joint, .ref ha_habit, .ref ha_sleepsFrom, .ref ha_sleepsTo, .ref ha_criesDrifted, .ref ha_criesElse, .int h_bodies, .int h_joints, .int h_breath, .int h_stride, .int h_day]))] H := by rw [hH]; exact hP
  have hS : va_S A s.heap H [] := by rw [hH]; exact va_S.rf
  rw [← hH]
  clear hH
  obtain ⟨locs, hlocs⟩ : ∃ locs : List Loc, locs = [] := ⟨_, rfl⟩
  rw [← hlocs] at hS ⊢
  refine lv_iconst (v := 0) hx hb dX6_costOfOrder_0 (by decide) ?_
  refine lv_istore_n (lv' := [(2, .int 0), (0, .ref qa), (1, .ref ha)]) hx hb dX6_costOfOrder_1 rfl hl (by decide) rfl (fun ls hl => ?_)
  refine lv_iconst (v := 0) hx hb dX6_costOfOrder_2 (by decide) ?_
  refine lv_istore_n (lv' := [(3, .int 0), (2, .int 0), (0, .ref qa), (1, .ref ha)]) hx hb dX6_costOfOrder_3 rfl hl (by decide) rfl (fun ls hl => ?_)
  have k1q : ∀ (n : Nat) (k1qy2 : Int32) (k1qy3 : Int32) (H : Heap) (locs : List Loc) (ls : Array Slot), 0 ≤ k1qy3.toInt ∧ k1qy3.toInt ≤ 6 → (6 - k1qy3.toInt).toNat = n → va_P D vwCl [(qa, .inr (8, [.ref qa_minute, .ref qa_body, .int q_passings, .ref qa_spotX, .ref qa_spotY, .int q_spots, .ref qa_order])), (qa_spotX, .inl (cy 0, 6, .inl qf_spotX)), (qa_spotY, .inl (cy 0, 6, .inl qf_spotY)), (qa_order, .inl (cy 0, 6, .inl qf_order)), (ha, .inr (4, [.ref ha_x, .ref ha_y, .ref ha_holds, .ref ha_needs, .ref ha_harm, .ref ha_worth, .ref ha_joint, .ref ha_habit, .ref ha_sleepsFrom, .ref ha_sleepsTo, .ref ha_criesDrifted, .ref ha_criesElse, .int h_bodies, .int h_joints, .int h_breath, .int h_stride, .int h_day]))] H → va_D A [(qa, .inr (8, [.ref qa_minute, .ref qa_body, .int q_passings, .ref qa_spotX, .ref qa_spotY, .int q_spots, .ref qa_order])), (qa_spotX, .inl (cy 0, 6, .inl qf_spotX)), (qa_spotY, .inl (cy 0, 6, .inl qf_spotY)), (qa_order, .inl (cy 0, 6, .inl qf_order)), (ha, .inr (4, [.ref ha_x, .ref ha_y, .ref ha_holds, .ref ha_needs, .ref ha_harm, .ref ha_worth, .ref ha_joint, .ref ha_habit, .ref ha_sleepsFrom, .ref ha_sleepsTo, .ref ha_criesDrifted, .ref ha_criesElse, .int h_bodies, .int h_joints, .int h_breath, .int h_stride, .int h_day]))] → va_S A s.heap H locs → lv_has ls 6 [(3, .int k1qy3), (2, .int k1qy2), (0, .ref qa), (1, .ref ha)] → W p l e ({ frames := 11, cells := 0, slots := 0, locals := 360 }) s m ([.ref qa, .ref ha] : List Value).toArray below meth c H locs 0 0 Q0 (F0 m 4 ls []) := by
    intro n
    induction n using Nat.strongRecOn with
    | ind n k1qih =>
      intro k1qy2 k1qy3 H locs ls hk1qy3 k1qm hP hD hS hl
      have gk1qy2 := k_rng k1qy2
      refine lv_iload_n hx hb dX6_costOfOrder_4 rfl (lv_at hl 0 rfl) ?_
      refine lv_aload_n hx hb dX6_costOfOrder_5 rfl (lv_at hl 2 rfl) ?_
      refine va_get (D := D) (ci := 8) (v := .int q_spots) (C := RX6) (T := TX6) (N := 7) hx hb hts kin_RX6 hown hG.1 hP 0 rfl rfl 5 (by decide) (hts _ wm_245) (fun _ h9 => h9) rfl dX6_costOfOrder_6 ?_
      refine lv_icmp_ge (tgt := 95) hx hb dX6_costOfOrder_9 (by decide) (fun c2q => ?_) (fun c2q => ?_)
      · simp only [k_lt, k_le, k_eq, ne_eq, ge_iff_le, gt_iff_lt] at c2q
        refine lv_iload_n hx hb dX6_costOfOrder_95 rfl (lv_at hl 1 rfl) ?_
        rw [hQ0]
        exact k_iret () hx hb hr hlk (trivial) (hP.sub [0, 1, 2, 3, 4] rfl) (hD.sub [0, 1, 2, 3, 4] (by decide) rfl) hS (by decide) (by decide) dX6_costOfOrder_96
      · simp only [k_lt, k_le, k_eq, ne_eq, ge_iff_le, gt_iff_lt] at c2q
        refine lv_aload_n hx hb dX6_costOfOrder_12 rfl (lv_at hl 2 rfl) ?_
        refine va_get (D := D) (ci := 8) (v := .int q_spots) (C := RX6) (T := TX6) (N := 7) hx hb hts kin_RX6 hown hG.1 hP 0 rfl rfl 5 (by decide) (hts _ wm_245) (fun _ h9 => h9) rfl dX6_costOfOrder_13 ?_
        refine lv_iconst (v := 1) hx hb dX6_costOfOrder_16 (by decide) ?_
        refine lv_icmp_le (tgt := 95) hx hb dX6_costOfOrder_17 (by decide) (fun c3q => ?_) (fun c3q => ?_)
        · simp only [k_lt, k_le, k_eq, ne_eq, ge_iff_le, gt_iff_lt, n_L1] at c3q
          refine lv_iload_n hx hb dX6_costOfOrder_95 rfl (lv_at hl 1 rfl) ?_
          rw [hQ0]
          exact k_iret () hx hb hr hlk (trivial) (hP.sub [0, 1, 2, 3, 4] rfl) (hD.sub [0, 1, 2, 3, 4] (by decide) rfl) hS (by decide) (by decide) dX6_costOfOrder_96
        · simp only [k_lt, k_le, k_eq, ne_eq, ge_iff_le, gt_iff_lt, n_L1] at c3q
          refine lv_aload_n hx hb dX6_costOfOrder_20 rfl (lv_at hl 2 rfl) ?_
          refine va_get (D := D) (ci := 8) (v := .ref qa_order) (C := RX6) (T := TX6) (N := 7) hx hb hts kin_RX6 hown hG.1 hP 0 rfl rfl 6 (by decide) (hts _ wm_247) (fun _ h9 => h9) rfl dX6_costOfOrder_21 ?_
          refine lv_iload_n hx hb dX6_costOfOrder_24 rfl (lv_at hl 0 rfl) ?_
          refine va_iald hx hb hG.1 hP 3 0 rfl rfl (n_in (by omega) (by omega)) dX6_costOfOrder_25 ?_
          refine lv_topi (fun x4q ex4q => ?_)
          have rx4q : 0 ≤ x4q.toInt ∧ x4q.toInt ≤ 5 := by rw [ex4q]; exact h_qf_order _ (n_lt (by omega) (by omega))
          refine lv_istore (lv' := [(4, .int x4q), (3, .int k1qy3), (2, .int k1qy2), (0, .ref qa), (1, .ref ha)]) hx hb dX6_costOfOrder_26 hl (by decide) rfl (fun ls hl => ?_)
          refine lv_aload_n hx hb dX6_costOfOrder_28 rfl (lv_at hl 3 rfl) ?_
          refine va_get (D := D) (ci := 8) (v := .ref qa_order) (C := RX6) (T := TX6) (N := 7) hx hb hts kin_RX6 hown hG.1 hP 0 rfl rfl 6 (by decide) (hts _ wm_247) (fun _ h9 => h9) rfl dX6_costOfOrder_29 ?_
          refine lv_iload_n hx hb dX6_costOfOrder_32 rfl (lv_at hl 1 rfl) ?_
          refine lv_iconst (v := 1) hx hb dX6_costOfOrder_33 (by decide) ?_
          refine lv_iadd hx hb dX6_costOfOrder_34 ?_
          refine lv_topi (fun x5q ex5q => ?_)
          have rx5q := n_add ex5q (a := k1qy3.toInt) (b := 1) rfl n_L1 (by omega) (by omega)
          refine lv_aload_n hx hb dX6_costOfOrder_35 rfl (lv_at hl 3 rfl) ?_
          refine va_get (D := D) (ci := 8) (v := .int q_spots) (C := RX6) (T := TX6) (N := 7) hx hb hts kin_RX6 hown hG.1 hP 0 rfl rfl 5 (by decide) (hts _ wm_245) (fun _ h9 => h9) rfl dX6_costOfOrder_36 ?_
          refine lv_icmp_ge (tgt := 48) hx hb dX6_costOfOrder_39 (by decide) (fun c6q => ?_) (fun c6q => ?_)
          · simp only [k_lt, k_le, k_eq, ne_eq, ge_iff_le, gt_iff_lt] at c6q
            refine lv_iconst (v := 0) hx hb dX6_costOfOrder_48 (by decide) ?_
            refine va_iald hx hb hG.1 hP 3 0 rfl rfl (by unfold vp_in; decide) dX6_costOfOrder_49 ?_
            refine lv_topi (fun x7q ex7q => ?_)
            have rx7q : 0 ≤ x7q.toInt ∧ x7q.toInt ≤ 5 := by rw [ex7q]; exact h_qf_order _ (by decide)
            refine lv_istore (lv' := [(5, .int x7q), (4, .int x4q), (3, .int k1qy3), (2, .int k1qy2), (0, .ref qa), (1, .ref ha)]) hx hb dX6_costOfOrder_50 hl (by decide) rfl (fun ls hl => ?_)
            refine lv_iload_n hx hb dX6_costOfOrder_52 rfl (lv_at hl 3 rfl) ?_
            refine lv_aload_n hx hb dX6_costOfOrder_53 rfl (lv_at hl 5 rfl) ?_
            refine lv_aload_n hx hb dX6_costOfOrder_54 rfl (lv_at hl 4 rfl) ?_
            refine va_get (D := D) (ci := 8) (v := .ref qa_spotX) (C := RX6) (T := TX6) (N := 7) hx hb hts kin_RX6 hown hG.1 hP 0 rfl rfl 3 (by decide) (hts _ wm_243) (fun _ h9 => h9) rfl dX6_costOfOrder_55 ?_
            refine lv_iload hx hb dX6_costOfOrder_58 (lv_at hl 1 rfl) ?_
            refine va_iald hx hb hG.1 hP 1 0 rfl rfl (n_in (by omega) (by omega)) dX6_costOfOrder_60 ?_
            refine lv_topi (fun x8q ex8q => ?_)
            have rx8q : 0 ≤ x8q.toInt ∧ x8q.toInt ≤ 15 := by rw [ex8q]; exact h_qf_spotX _ (n_lt (by omega) (by omega))
            refine lv_aload_n hx hb dX6_costOfOrder_61 rfl (lv_at hl 4 rfl) ?_
            refine va_get (D := D) (ci := 8) (v := .ref qa_spotX) (C := RX6) (T := TX6) (N := 7) hx hb hts kin_RX6 hown hG.1 hP 0 rfl rfl 3 (by decide) (hts _ wm_243) (fun _ h9 => h9) rfl dX6_costOfOrder_62 ?_
            refine lv_iload hx hb dX6_costOfOrder_65 (lv_at hl 0 rfl) ?_
            refine va_iald hx hb hG.1 hP 1 0 rfl rfl (n_in (by omega) (by omega)) dX6_costOfOrder_67 ?_
            refine lv_topi (fun x9q ex9q => ?_)
            have rx9q : 0 ≤ x9q.toInt ∧ x9q.toInt ≤ 15 := by rw [ex9q]; exact h_qf_spotX _ (n_lt (by omega) (by omega))
            refine lv_isub hx hb dX6_costOfOrder_68 ?_
            refine lv_topi (fun x10q ex10q => ?_)
            have rx10q := n_sub ex10q (a := x8q.toInt) (b := x9q.toInt) rfl rfl (by omega) (by omega)
            refine lv_aload_n hx hb dX6_costOfOrder_69 rfl (lv_at hl 4 rfl) ?_
            refine va_get (D := D) (ci := 8) (v := .ref qa_spotY) (C := RX6) (T := TX6) (N := 7) hx hb hts kin_RX6 hown hG.1 hP 0 rfl rfl 4 (by decide) (hts _ wm_244) (fun _ h9 => h9) rfl dX6_costOfOrder_70 ?_
            refine lv_iload hx hb dX6_costOfOrder_73 (lv_at hl 1 rfl) ?_
            refine va_iald hx hb hG.1 hP 2 0 rfl rfl (n_in (by omega) (by omega)) dX6_costOfOrder_75 ?_
            refine lv_topi (fun x11q ex11q => ?_)
            have rx11q : 0 ≤ x11q.toInt ∧ x11q.toInt ≤ 15 := by rw [ex11q]; exact h_qf_spotY _ (n_lt (by omega) (by omega))
            refine lv_aload_n hx hb dX6_costOfOrder_76 rfl (lv_at hl 4 rfl) ?_
            refine va_get (D := D) (ci := 8) (v := .ref qa_spotY) (C := RX6) (T := TX6) (N := 7) hx hb hts kin_RX6 hown hG.1 hP 0 rfl rfl 4 (by decide) (hts _ wm_244) (fun _ h9 => h9) rfl dX6_costOfOrder_77 ?_
            refine lv_iload hx hb dX6_costOfOrder_80 (lv_at hl 0 rfl) ?_
            refine va_iald hx hb hG.1 hP 2 0 rfl rfl (n_in (by omega) (by omega)) dX6_costOfOrder_82 ?_
            refine lv_topi (fun x12q ex12q => ?_)
            have rx12q : 0 ≤ x12q.toInt ∧ x12q.toInt ≤ 15 := by rw [ex12q]; exact h_qf_spotY _ (n_lt (by omega) (by omega))
            refine lv_isub hx hb dX6_costOfOrder_83 ?_
            refine lv_topi (fun x13q ex13q => ?_)
            have rx13q := n_sub ex13q (a := x11q.toInt) (b := x12q.toInt) rfl rfl (by omega) (by omega)
            refine k_cali [0, 1, 2, 3] (⟨hP, hD, hG, hS, hA, rfl, rfl⟩ : kAt D cy sa A s H _ _ [(ha, .inr (4, [.ref ha_x, .ref ha_y, .ref ha_holds, .ref ha_needs, .ref ha_harm, .ref ha_worth, .ref ha_joint, .ref ha_habit, .ref ha_sleepsFrom, .ref ha_sleepsTo, .ref ha_criesDrifted, .ref ha_criesElse, .int h_bodies, .int h_joints, .int h_breath, .int h_stride, .int h_day]))] [4]) (wr := [(qa, .inr (8, [.ref qa_minute, .ref qa_body, .int q_passings, .ref qa_spotX, .ref qa_spotY, .int q_spots, .ref qa_order])), (qa_spotX, .inl (cy 0, 6, .inl qf_spotX)), (qa_spotY, .inl (cy 0, 6, .inl qf_spotY)), (qa_order, .inl (cy 0, 6, .inl qf_order))]) rfl rfl (by decide) (k_runV 4 4 (As := [.int x10q, .int x13q]) (rest := [.int k1qy2]) E lk_VRX6_52 rfl rfl rfl (c_costOfWay l hl0 D cy sa ha ha_x ha_y ha_holds ha_needs ha_harm ha_worth ha_joint ha_habit ha_sleepsFrom ha_sleepsTo ha_criesDrifted ha_criesElse h_bodies h_joints h_breath h_stride h_day x10q x13q ⟨by omega, by omega⟩ ⟨by omega, by omega⟩ ⟨by omega, by omega⟩ ⟨by omega, by omega⟩ ⟨by omega, by omega⟩ H.size) (⟨hP, hD, hG, hS, hA, rfl, rfl⟩ : kAt D cy sa A s H _ _ [(ha, .inr (4, [.ref ha_x, .ref ha_y, .ref ha_holds, .ref ha_needs, .ref ha_harm, .ref ha_worth, .ref ha_joint, .ref ha_habit, .ref ha_sleepsFrom, .ref ha_sleepsTo, .ref ha_criesDrifted, .ref ha_criesElse, .int h_bodies, .int h_joints, .int h_breath, .int h_stride, .int h_day]))] [4]) hl.1 rfl rfl ⟨rfl, rfl, ⟨Nat.le_of_ble_eq_true rfl, Nat.le_of_ble_eq_true rfl⟩, ⟨Nat.le_of_ble_eq_true rfl, Nat.le_of_ble_eq_true rfl⟩, Nat.le_of_ble_eq_true rfl⟩ dX6_costOfOrder_84) (fun r14q u15q H locs hwu15q hP hD hS => ?_)
            have hP : va_P D vwCl [(qa, .inr (8, [.ref qa_minute, .ref qa_body, .int q_passings, .ref qa_spotX, .ref qa_spotY, .int q_spots, .ref qa_order])), (qa_spotX, .inl (cy 0, 6, .inl qf_spotX)), (qa_spotY, .inl (cy 0, 6, .inl qf_spotY)), (qa_order, .inl (cy 0, 6, .inl qf_order)), (ha, .inr (4, [.ref ha_x, .ref ha_y, .ref ha_holds, .ref ha_needs, .ref ha_harm, .ref ha_worth, .ref ha_joint, .ref ha_habit, .ref ha_sleepsFrom, .ref ha_sleepsTo, .ref ha_criesDrifted, .ref ha_criesElse, .int h_bodies, .int h_joints, .int h_breath, .int h_stride, .int h_day]))] H := hP
            have hD : va_D A [(qa, .inr (8, [.ref qa_minute, .ref qa_body, .int q_passings, .ref qa_spotX, .ref qa_spotY, .int q_spots, .ref qa_order])), (qa_spotX, .inl (cy 0, 6, .inl qf_spotX)), (qa_spotY, .inl (cy 0, 6, .inl qf_spotY)), (qa_order, .inl (cy 0, 6, .inl qf_order)), (ha, .inr (4, [.ref ha_x, .ref ha_y, .ref ha_holds, .ref ha_needs, .ref ha_harm, .ref ha_worth, .ref ha_joint, .ref ha_habit, .ref ha_sleepsFrom, .ref ha_sleepsTo, .ref ha_criesDrifted, .ref ha_criesElse, .int h_bodies, .int h_joints, .int h_breath, .int h_stride, .int h_day]))] := hD
            have p16q := hwu15q
            refine lv_iadd hx hb dX6_costOfOrder_87 ?_
            refine lv_topi (fun x17q ex17q => ?_)
            have gx17q := k_rng k1qy2
            refine lv_istore_n (lv' := [(2, .int x17q), (5, .int x7q), (4, .int x4q), (3, .int k1qy3), (0, .ref qa), (1, .ref ha)]) hx hb dX6_costOfOrder_88 rfl hl (by decide) rfl (fun ls hl => ?_)
            obtain ⟨x18q, ex18q⟩ : ∃ z : Int32, z = k1qy3 + 1 := ⟨_, rfl⟩
            refine lv_iinc (v := x18q) (lv' := [(3, .int x18q), (2, .int x17q), (5, .int x7q), (4, .int x4q), (0, .ref qa), (1, .ref ha)]) hx hb dX6_costOfOrder_89 hl (k := 3) rfl (by rw [ex18q]; rfl) (by decide) rfl (fun ls hl => ?_)
            have rx18q := n_add ex18q (a := k1qy3.toInt) (b := 1) rfl n_L1 (by omega) (by omega)
            refine lv_goto (tgt := 4) hx hb dX6_costOfOrder_92 (by decide) ?_
            exact k1qih ((6 - x18q.toInt).toNat) (by omega) x17q x18q H locs ls ⟨by omega, by omega⟩ rfl hP hD hS (lv_sub hl [0, 1, 4, 5] rfl)
          · simp only [k_lt, k_le, k_eq, ne_eq, ge_iff_le, gt_iff_lt] at c6q
            refine lv_iload_n hx hb dX6_costOfOrder_42 rfl (lv_at hl 1 rfl) ?_
            refine lv_iconst (v := 1) hx hb dX6_costOfOrder_43 (by decide) ?_
            refine lv_iadd hx hb dX6_costOfOrder_44 ?_
            refine lv_topi (fun x19q ex19q => ?_)
            have rx19q := n_add ex19q (a := k1qy3.toInt) (b := 1) rfl n_L1 (by omega) (by omega)
            refine lv_goto (tgt := 49) hx hb dX6_costOfOrder_45 (by decide) ?_
            refine va_iald hx hb hG.1 hP 3 0 rfl rfl (n_in (by omega) (by omega)) dX6_costOfOrder_49 ?_
            refine lv_topi (fun x20q ex20q => ?_)
            have rx20q : 0 ≤ x20q.toInt ∧ x20q.toInt ≤ 5 := by rw [ex20q]; exact h_qf_order _ (n_lt (by omega) (by omega))
            refine lv_istore (lv' := [(5, .int x20q), (4, .int x4q), (3, .int k1qy3), (2, .int k1qy2), (0, .ref qa), (1, .ref ha)]) hx hb dX6_costOfOrder_50 hl (by decide) rfl (fun ls hl => ?_)
            refine lv_iload_n hx hb dX6_costOfOrder_52 rfl (lv_at hl 3 rfl) ?_
            refine lv_aload_n hx hb dX6_costOfOrder_53 rfl (lv_at hl 5 rfl) ?_
            refine lv_aload_n hx hb dX6_costOfOrder_54 rfl (lv_at hl 4 rfl) ?_
            refine va_get (D := D) (ci := 8) (v := .ref qa_spotX) (C := RX6) (T := TX6) (N := 7) hx hb hts kin_RX6 hown hG.1 hP 0 rfl rfl 3 (by decide) (hts _ wm_243) (fun _ h9 => h9) rfl dX6_costOfOrder_55 ?_
            refine lv_iload hx hb dX6_costOfOrder_58 (lv_at hl 1 rfl) ?_
            refine va_iald hx hb hG.1 hP 1 0 rfl rfl (n_in (by omega) (by omega)) dX6_costOfOrder_60 ?_
            refine lv_topi (fun x21q ex21q => ?_)
            have rx21q : 0 ≤ x21q.toInt ∧ x21q.toInt ≤ 15 := by rw [ex21q]; exact h_qf_spotX _ (n_lt (by omega) (by omega))
            refine lv_aload_n hx hb dX6_costOfOrder_61 rfl (lv_at hl 4 rfl) ?_
            refine va_get (D := D) (ci := 8) (v := .ref qa_spotX) (C := RX6) (T := TX6) (N := 7) hx hb hts kin_RX6 hown hG.1 hP 0 rfl rfl 3 (by decide) (hts _ wm_243) (fun _ h9 => h9) rfl dX6_costOfOrder_62 ?_
            refine lv_iload hx hb dX6_costOfOrder_65 (lv_at hl 0 rfl) ?_
            refine va_iald hx hb hG.1 hP 1 0 rfl rfl (n_in (by omega) (by omega)) dX6_costOfOrder_67 ?_
            refine lv_topi (fun x22q ex22q => ?_)
            have rx22q : 0 ≤ x22q.toInt ∧ x22q.toInt ≤ 15 := by rw [ex22q]; exact h_qf_spotX _ (n_lt (by omega) (by omega))
            refine lv_isub hx hb dX6_costOfOrder_68 ?_
            refine lv_topi (fun x23q ex23q => ?_)
            have rx23q := n_sub ex23q (a := x21q.toInt) (b := x22q.toInt) rfl rfl (by omega) (by omega)
            refine lv_aload_n hx hb dX6_costOfOrder_69 rfl (lv_at hl 4 rfl) ?_
            refine va_get (D := D) (ci := 8) (v := .ref qa_spotY) (C := RX6) (T := TX6) (N := 7) hx hb hts kin_RX6 hown hG.1 hP 0 rfl rfl 4 (by decide) (hts _ wm_244) (fun _ h9 => h9) rfl dX6_costOfOrder_70 ?_
            refine lv_iload hx hb dX6_costOfOrder_73 (lv_at hl 1 rfl) ?_
            refine va_iald hx hb hG.1 hP 2 0 rfl rfl (n_in (by omega) (by omega)) dX6_costOfOrder_75 ?_
            refine lv_topi (fun x24q ex24q => ?_)
            have rx24q : 0 ≤ x24q.toInt ∧ x24q.toInt ≤ 15 := by rw [ex24q]; exact h_qf_spotY _ (n_lt (by omega) (by omega))
            refine lv_aload_n hx hb dX6_costOfOrder_76 rfl (lv_at hl 4 rfl) ?_
            refine va_get (D := D) (ci := 8) (v := .ref qa_spotY) (C := RX6) (T := TX6) (N := 7) hx hb hts kin_RX6 hown hG.1 hP 0 rfl rfl 4 (by decide) (hts _ wm_244) (fun _ h9 => h9) rfl dX6_costOfOrder_77 ?_
            refine lv_iload hx hb dX6_costOfOrder_80 (lv_at hl 0 rfl) ?_
            refine va_iald hx hb hG.1 hP 2 0 rfl rfl (n_in (by omega) (by omega)) dX6_costOfOrder_82 ?_
            refine lv_topi (fun x25q ex25q => ?_)
            have rx25q : 0 ≤ x25q.toInt ∧ x25q.toInt ≤ 15 := by rw [ex25q]; exact h_qf_spotY _ (n_lt (by omega) (by omega))
            refine lv_isub hx hb dX6_costOfOrder_83 ?_
            refine lv_topi (fun x26q ex26q => ?_)
            have rx26q := n_sub ex26q (a := x24q.toInt) (b := x25q.toInt) rfl rfl (by omega) (by omega)
            refine k_cali [0, 1, 2, 3] (⟨hP, hD, hG, hS, hA, rfl, rfl⟩ : kAt D cy sa A s H _ _ [(ha, .inr (4, [.ref ha_x, .ref ha_y, .ref ha_holds, .ref ha_needs, .ref ha_harm, .ref ha_worth, .ref ha_joint, .ref ha_habit, .ref ha_sleepsFrom, .ref ha_sleepsTo, .ref ha_criesDrifted, .ref ha_criesElse, .int h_bodies, .int h_joints, .int h_breath, .int h_stride, .int h_day]))] [4]) (wr := [(qa, .inr (8, [.ref qa_minute, .ref qa_body, .int q_passings, .ref qa_spotX, .ref qa_spotY, .int q_spots, .ref qa_order])), (qa_spotX, .inl (cy 0, 6, .inl qf_spotX)), (qa_spotY, .inl (cy 0, 6, .inl qf_spotY)), (qa_order, .inl (cy 0, 6, .inl qf_order))]) rfl rfl (by decide) (k_runV 4 4 (As := [.int x23q, .int x26q]) (rest := [.int k1qy2]) E lk_VRX6_52 rfl rfl rfl (c_costOfWay l hl0 D cy sa ha ha_x ha_y ha_holds ha_needs ha_harm ha_worth ha_joint ha_habit ha_sleepsFrom ha_sleepsTo ha_criesDrifted ha_criesElse h_bodies h_joints h_breath h_stride h_day x23q x26q ⟨by omega, by omega⟩ ⟨by omega, by omega⟩ ⟨by omega, by omega⟩ ⟨by omega, by omega⟩ ⟨by omega, by omega⟩ H.size) (⟨hP, hD, hG, hS, hA, rfl, rfl⟩ : kAt D cy sa A s H _ _ [(ha, .inr (4, [.ref ha_x, .ref ha_y, .ref ha_holds, .ref ha_needs, .ref ha_harm, .ref ha_worth, .ref ha_joint, .ref ha_habit, .ref ha_sleepsFrom, .ref ha_sleepsTo, .ref ha_criesDrifted, .ref ha_criesElse, .int h_bodies, .int h_joints, .int h_breath, .int h_stride, .int h_day]))] [4]) hl.1 rfl rfl ⟨rfl, rfl, ⟨Nat.le_of_ble_eq_true rfl, Nat.le_of_ble_eq_true rfl⟩, ⟨Nat.le_of_ble_eq_true rfl, Nat.le_of_ble_eq_true rfl⟩, Nat.le_of_ble_eq_true rfl⟩ dX6_costOfOrder_84) (fun r27q u28q H locs hwu28q hP hD hS => ?_)
            have hP : va_P D vwCl [(qa, .inr (8, [.ref qa_minute, .ref qa_body, .int q_passings, .ref qa_spotX, .ref qa_spotY, .int q_spots, .ref qa_order])), (qa_spotX, .inl (cy 0, 6, .inl qf_spotX)), (qa_spotY, .inl (cy 0, 6, .inl qf_spotY)), (qa_order, .inl (cy 0, 6, .inl qf_order)), (ha, .inr (4, [.ref ha_x, .ref ha_y, .ref ha_holds, .ref ha_needs, .ref ha_harm, .ref ha_worth, .ref ha_joint, .ref ha_habit, .ref ha_sleepsFrom, .ref ha_sleepsTo, .ref ha_criesDrifted, .ref ha_criesElse, .int h_bodies, .int h_joints, .int h_breath, .int h_stride, .int h_day]))] H := hP
            have hD : va_D A [(qa, .inr (8, [.ref qa_minute, .ref qa_body, .int q_passings, .ref qa_spotX, .ref qa_spotY, .int q_spots, .ref qa_order])), (qa_spotX, .inl (cy 0, 6, .inl qf_spotX)), (qa_spotY, .inl (cy 0, 6, .inl qf_spotY)), (qa_order, .inl (cy 0, 6, .inl qf_order)), (ha, .inr (4, [.ref ha_x, .ref ha_y, .ref ha_holds, .ref ha_needs, .ref ha_harm, .ref ha_worth, .ref ha_joint, .ref ha_habit, .ref ha_sleepsFrom, .ref ha_sleepsTo, .ref ha_criesDrifted, .ref ha_criesElse, .int h_bodies, .int h_joints, .int h_breath, .int h_stride, .int h_day]))] := hD
            have p29q := hwu28q
            refine lv_iadd hx hb dX6_costOfOrder_87 ?_
            refine lv_topi (fun x30q ex30q => ?_)
            have gx30q := k_rng k1qy2
            refine lv_istore_n (lv' := [(2, .int x30q), (5, .int x20q), (4, .int x4q), (3, .int k1qy3), (0, .ref qa), (1, .ref ha)]) hx hb dX6_costOfOrder_88 rfl hl (by decide) rfl (fun ls hl => ?_)
            obtain ⟨x31q, ex31q⟩ : ∃ z : Int32, z = k1qy3 + 1 := ⟨_, rfl⟩
            refine lv_iinc (v := x31q) (lv' := [(3, .int x31q), (2, .int x30q), (5, .int x20q), (4, .int x4q), (0, .ref qa), (1, .ref ha)]) hx hb dX6_costOfOrder_89 hl (k := 3) rfl (by rw [ex31q]; rfl) (by decide) rfl (fun ls hl => ?_)
            have rx31q := n_add ex31q (a := k1qy3.toInt) (b := 1) rfl n_L1 (by omega) (by omega)
            refine lv_goto (tgt := 4) hx hb dX6_costOfOrder_92 (by decide) ?_
            exact k1qih ((6 - x31q.toInt).toNat) (by omega) x30q x31q H locs ls ⟨by omega, by omega⟩ rfl hP hD hS (lv_sub hl [0, 1, 4, 5] rfl)
  exact k1q _ 0 0 H locs ls ⟨by rw [n_L0]; omega, by rw [n_L0]; omega⟩ rfl hP hD hS (lv_sub hl [0, 1, 2, 3] rfl)

set_option maxHeartbeats 4000000 in
set_option maxRecDepth 100000 in
/-- Plan.nextOrder -/
theorem c_nextOrder (l : Launch) (hl0 : l.stackTraces = false) (D : va_G) (cy : Nat → ClassId) (sa : Nat → Nat) (qa qa_minute qa_body qa_spotX qa_spotY qa_order : Nat) (q_passings q_spots : Int32) (qf_order : Nat → Int32) (h_q_passings : 0 ≤ q_passings.toInt ∧ q_passings.toInt ≤ 30) (h_q_spots : 0 ≤ q_spots.toInt ∧ q_spots.toInt ≤ 6) (h_qf_order : rowR 6 0 (5) qf_order) (sz : Nat) : Met l yX6_nextOrder (Cond.code yX6_nextOrder cX6_nextOrder 5 (some .boolean) :: kWS) ({ frames := 11, cells := 0, slots := 0, locals := 360 }) (kPre D cy sa [.ref qa] [(qa, .inr (8, [.ref qa_minute, .ref qa_body, .int q_passings, .ref qa_spotX, .ref qa_spotY, .int q_spots, .ref qa_order])), (qa_order, .inl (cy 0, 6, .inl qf_order))] sz) (va_Qi (fun (r : Int32) (u : (Nat → Int32) × (Nat → Nat → Int32)) => (r.toInt = 0 ∨ r.toInt = 1) ∧ (rowR 6 0 (5) ((u.2 0)))) (kB D (va_A [(qa, .inr (8, [.ref qa_minute, .ref qa_body, .int q_passings, .ref qa_spotX, .ref qa_spotY, .int q_spots, .ref qa_order])), (qa_order, .inl (cy 0, 6, .inl qf_order))] sz) (fun (u : (Nat → Int32) × (Nat → Nat → Int32)) => [(qa, .inr (8, [.ref qa_minute, .ref qa_body, .int q_passings, .ref qa_spotX, .ref qa_spotY, .int q_spots, .ref qa_order])), (qa_order, .inl (cy 0, 6, .inl ((u.2 0))))])) (va_A [(qa, .inr (8, [.ref qa_minute, .ref qa_body, .int q_passings, .ref qa_spotX, .ref qa_spotY, .int q_spots, .ref qa_order])), (qa_order, .inl (cy 0, 6, .inl qf_order))] sz)) 0 0 (va_A [(qa, .inr (8, [.ref qa_minute, .ref qa_body, .int q_passings, .ref qa_spotX, .ref qa_spotY, .int q_spots, .ref qa_order])), (qa_order, .inl (cy 0, 6, .inl qf_order))] sz) := by
  refine k_ofW (y := yX6_nextOrder) (cc := cX6_nextOrder) (maxL := 5) (ret := (some .boolean)) (av := [.ref qa]) (ws := [(qa, .inr (8, [.ref qa_minute, .ref qa_body, .int q_passings, .ref qa_spotX, .ref qa_spotY, .int q_spots, .ref qa_order])), (qa_order, .inl (cy 0, 6, .inl qf_order))]) (Qc := fun A => (va_Qi (fun (r : Int32) (u : (Nat → Int32) × (Nat → Nat → Int32)) => (r.toInt = 0 ∨ r.toInt = 1) ∧ (rowR 6 0 (5) ((u.2 0)))) (kB D A (fun (u : (Nat → Int32) × (Nat → Nat → Int32)) => [(qa, .inr (8, [.ref qa_minute, .ref qa_body, .int q_passings, .ref qa_spotX, .ref qa_spotY, .int q_spots, .ref qa_order])), (qa_order, .inl (cy 0, 6, .inl ((u.2 0))))])) A)) (by decide) (Nat.le_of_ble_eq_true rfl) ?_
  intro p e s m below meth c ls A E hA hP hD hG hS hl
  obtain ⟨Q0, hQ0⟩ : ∃ Q0 : State → Prop, Q0 = MQ below (va_Qi (fun (r : Int32) (u : (Nat → Int32) × (Nat → Nat → Int32)) => (r.toInt = 0 ∨ r.toInt = 1) ∧ (rowR 6 0 (5) ((u.2 0)))) (kB D A (fun (u : (Nat → Int32) × (Nat → Nat → Int32)) => [(qa, .inr (8, [.ref qa_minute, .ref qa_body, .int q_passings, .ref qa_spotX, .ref qa_spotY, .int q_spots, .ref qa_order])), (qa_order, .inl (cy 0, 6, .inl ((u.2 0))))])) A) ([.ref qa] : List Value).toArray s 0 0 A := ⟨_, rfl⟩
  rw [← hQ0]
  obtain ⟨hx, hb, hml, hown, hts, hr, hlk, hnm⟩ := id E
  have hown : s.vm.findClass RX6 = some m.cls := hown
  have hl : lv_has ls 5 [(0, .ref qa)] := hl
  obtain ⟨H, hH⟩ : ∃ H, H = s.heap := ⟨_, rfl⟩
  have hP : va_P D vwCl [(qa, .inr (8, [.ref qa_minute, .ref qa_body, .int q_passings, .ref qa_spotX, .ref qa_spotY, .int q_spots, .ref qa_order])), (qa_order, .inl (cy 0, 6, .inl qf_order))] H := by rw [hH]; exact hP
  have hS : va_S A s.heap H [] := by rw [hH]; exact va_S.rf
  rw [← hH]
  clear hH
  obtain ⟨locs, hlocs⟩ : ∃ locs : List Loc, locs = [] := ⟨_, rfl⟩
  rw [← hlocs] at hS ⊢
  refine lv_aload_n hx hb dX6_nextOrder_0 rfl (lv_at hl 0 rfl) ?_
  refine va_get (D := D) (ci := 8) (v := .int q_spots) (C := RX6) (T := TX6) (N := 7) hx hb hts kin_RX6 hown hG.1 hP 0 rfl rfl 5 (by decide) (hts _ wm_245) (fun _ h9 => h9) rfl dX6_nextOrder_1 ?_
  refine lv_iconst (v := 2) hx hb dX6_nextOrder_4 (by decide) ?_
  refine lv_isub hx hb dX6_nextOrder_5 ?_
  refine lv_topi (fun x1q ex1q => ?_)
  have rx1q := n_sub ex1q (a := q_spots.toInt) (b := 2) rfl n_L2 (by omega) (by omega)
  refine lv_istore_n (lv' := [(1, .int x1q), (0, .ref qa)]) hx hb dX6_nextOrder_6 rfl hl (by decide) rfl (fun ls hl => ?_)
  have k2q : ∀ (n : Nat) (k2qy1 : Int32) (H : Heap) (locs : List Loc) (ls : Array Slot), -2 ≤ k2qy1.toInt ∧ k2qy1.toInt ≤ 4 → k2qy1.toInt ≤ q_spots.toInt - 2 → (k2qy1.toInt + 3).toNat = n → va_P D vwCl [(qa, .inr (8, [.ref qa_minute, .ref qa_body, .int q_passings, .ref qa_spotX, .ref qa_spotY, .int q_spots, .ref qa_order])), (qa_order, .inl (cy 0, 6, .inl qf_order))] H → va_D A [(qa, .inr (8, [.ref qa_minute, .ref qa_body, .int q_passings, .ref qa_spotX, .ref qa_spotY, .int q_spots, .ref qa_order])), (qa_order, .inl (cy 0, 6, .inl qf_order))] → va_S A s.heap H locs → lv_has ls 5 [(1, .int k2qy1), (0, .ref qa)] → W p l e ({ frames := 11, cells := 0, slots := 0, locals := 360 }) s m ([.ref qa] : List Value).toArray below meth c H locs 0 0 Q0 (F0 m 7 ls []) := by
    intro n
    induction n using Nat.strongRecOn with
    | ind n k2qih =>
      intro k2qy1 H locs ls hk2qy1 hk2qi0 k2qm hP hD hS hl
      refine lv_iload_n hx hb dX6_nextOrder_7 rfl (lv_at hl 0 rfl) ?_
      refine lv_if_lt (tgt := 34) hx hb dX6_nextOrder_8 (by decide) (fun c3q => ?_) (fun c3q => ?_)
      · simp only [k_lt, k_le, k_eq, ne_eq, ge_iff_le, gt_iff_lt, n_L0, n_L0] at c3q
        refine lv_iload_n hx hb dX6_nextOrder_34 rfl (lv_at hl 0 rfl) ?_
        refine lv_if_ge (tgt := 40) hx hb dX6_nextOrder_35 (by decide) (fun c4q => by exfalso; simp only [k_lt, k_le, k_eq, ne_eq, ge_iff_le, gt_iff_lt, n_L0, n_L0] at c4q; omega) (fun c4q => ?_)
        simp only [k_lt, k_le, k_eq, ne_eq, ge_iff_le, gt_iff_lt, n_L0, n_L0] at c4q
        refine lv_iconst (v := 0) hx hb dX6_nextOrder_38 (by decide) ?_
        rw [hQ0]
        exact k_zret (fun k => [].getD k 0, fun k => [qf_order].getD k (fun _ => 0)) hx hb hr hlk (k_nz (by decide)) (⟨(by show (0 : Int32).toInt = 0 ∨ (0 : Int32).toInt = 1; rw [n_L0]; omega), (show rowR 6 0 (5) qf_order from h_qf_order)⟩) (hP.sub [0, 1] rfl) (hD.sub [0, 1] (by decide) rfl) hS (by decide) (by decide) dX6_nextOrder_39
      · simp only [k_lt, k_le, k_eq, ne_eq, ge_iff_le, gt_iff_lt, n_L0, n_L0] at c3q
        refine lv_aload_n hx hb dX6_nextOrder_11 rfl (lv_at hl 1 rfl) ?_
        refine va_get (D := D) (ci := 8) (v := .ref qa_order) (C := RX6) (T := TX6) (N := 7) hx hb hts kin_RX6 hown hG.1 hP 0 rfl rfl 6 (by decide) (hts _ wm_247) (fun _ h9 => h9) rfl dX6_nextOrder_12 ?_
        refine lv_iload_n hx hb dX6_nextOrder_15 rfl (lv_at hl 0 rfl) ?_
        refine va_iald hx hb hG.1 hP 1 0 rfl rfl (n_in (by omega) (by omega)) dX6_nextOrder_16 ?_
        refine lv_topi (fun x5q ex5q => ?_)
        have rx5q : 0 ≤ x5q.toInt ∧ x5q.toInt ≤ 5 := by rw [ex5q]; exact h_qf_order _ (n_lt (by omega) (by omega))
        refine lv_aload_n hx hb dX6_nextOrder_17 rfl (lv_at hl 1 rfl) ?_
        refine va_get (D := D) (ci := 8) (v := .ref qa_order) (C := RX6) (T := TX6) (N := 7) hx hb hts kin_RX6 hown hG.1 hP 0 rfl rfl 6 (by decide) (hts _ wm_247) (fun _ h9 => h9) rfl dX6_nextOrder_18 ?_
        refine lv_iload_n hx hb dX6_nextOrder_21 rfl (lv_at hl 0 rfl) ?_
        refine lv_iconst (v := 1) hx hb dX6_nextOrder_22 (by decide) ?_
        refine lv_iadd hx hb dX6_nextOrder_23 ?_
        refine lv_topi (fun x6q ex6q => ?_)
        have rx6q := n_add ex6q (a := k2qy1.toInt) (b := 1) rfl n_L1 (by omega) (by omega)
        refine va_iald hx hb hG.1 hP 1 0 rfl rfl (n_in (by omega) (by omega)) dX6_nextOrder_24 ?_
        refine lv_topi (fun x7q ex7q => ?_)
        have rx7q : 0 ≤ x7q.toInt ∧ x7q.toInt ≤ 5 := by rw [ex7q]; exact h_qf_order _ (n_lt (by omega) (by omega))
        refine lv_icmp_le (tgt := 34) hx hb dX6_nextOrder_25 (by decide) (fun c8q => ?_) (fun c8q => ?_)
        · simp only [k_lt, k_le, k_eq, ne_eq, ge_iff_le, gt_iff_lt] at c8q
          refine lv_iload_n hx hb dX6_nextOrder_34 rfl (lv_at hl 0 rfl) ?_
          refine lv_if_ge (tgt := 40) hx hb dX6_nextOrder_35 (by decide) (fun c9q => ?_) (fun c9q => by exfalso; simp only [k_lt, k_le, k_eq, ne_eq, ge_iff_le, gt_iff_lt, n_L0, n_L0] at c9q; omega)
          simp only [k_lt, k_le, k_eq, ne_eq, ge_iff_le, gt_iff_lt, n_L0, n_L0] at c9q
          refine lv_aload_n hx hb dX6_nextOrder_40 rfl (lv_at hl 1 rfl) ?_
          refine va_get (D := D) (ci := 8) (v := .int q_spots) (C := RX6) (T := TX6) (N := 7) hx hb hts kin_RX6 hown hG.1 hP 0 rfl rfl 5 (by decide) (hts _ wm_245) (fun _ h9 => h9) rfl dX6_nextOrder_41 ?_
          refine lv_iconst (v := 1) hx hb dX6_nextOrder_44 (by decide) ?_
          refine lv_isub hx hb dX6_nextOrder_45 ?_
          refine lv_topi (fun x10q ex10q => ?_)
          have rx10q := n_sub ex10q (a := q_spots.toInt) (b := 1) rfl n_L1 (by omega) (by omega)
          refine lv_istore_n (lv' := [(2, .int x10q), (1, .int k2qy1), (0, .ref qa)]) hx hb dX6_nextOrder_46 rfl hl (by decide) rfl (fun ls hl => ?_)
          have k11q : ∀ (n : Nat) (k11qy2 : Int32) (H : Heap) (locs : List Loc) (ls : Array Slot), -1 ≤ k11qy2.toInt ∧ k11qy2.toInt ≤ 5 → k2qy1.toInt ≤ k11qy2.toInt → (k11qy2.toInt + 3).toNat = n → va_P D vwCl [(qa, .inr (8, [.ref qa_minute, .ref qa_body, .int q_passings, .ref qa_spotX, .ref qa_spotY, .int q_spots, .ref qa_order])), (qa_order, .inl (cy 0, 6, .inl qf_order))] H → va_D A [(qa, .inr (8, [.ref qa_minute, .ref qa_body, .int q_passings, .ref qa_spotX, .ref qa_spotY, .int q_spots, .ref qa_order])), (qa_order, .inl (cy 0, 6, .inl qf_order))] → va_S A s.heap H locs → lv_has ls 5 [(2, .int k11qy2), (1, .int k2qy1), (0, .ref qa)] → W p l e ({ frames := 11, cells := 0, slots := 0, locals := 360 }) s m ([.ref qa] : List Value).toArray below meth c H locs 0 0 Q0 (F0 m 47 ls []) := by
            intro n
            induction n using Nat.strongRecOn with
            | ind n k11qih =>
              intro k11qy2 H locs ls hk11qy2 hk11qi0 k11qm hP hD hS hl
              refine lv_iload_n hx hb dX6_nextOrder_47 rfl (lv_at hl 0 rfl) ?_
              refine lv_iload_n hx hb dX6_nextOrder_48 rfl (lv_at hl 1 rfl) ?_
              refine lv_icmp_le (tgt := 73) hx hb dX6_nextOrder_49 (by decide) (fun c12q => ?_) (fun c12q => ?_)
              · simp only [k_lt, k_le, k_eq, ne_eq, ge_iff_le, gt_iff_lt] at c12q
                refine lv_aload_n hx hb dX6_nextOrder_73 rfl (lv_at hl 2 rfl) ?_
                refine lv_iload_n hx hb dX6_nextOrder_74 rfl (lv_at hl 1 rfl) ?_
                refine lv_iload_n hx hb dX6_nextOrder_75 rfl (lv_at hl 0 rfl) ?_
                refine k_calv [] (⟨hP, hD, hG, hS, hA, rfl, rfl⟩ : kAt D cy sa A s H _ _ [(qa, .inr (8, [.ref qa_minute, .ref qa_body, .int q_passings, .ref qa_spotX, .ref qa_spotY, .int q_spots, .ref qa_order])), (qa_order, .inl (cy 0, 6, .inl qf_order))] [0, 1]) (wr := []) rfl rfl (by decide) (k_runV 8 0 (As := [.int k2qy1, .int k11qy2]) (rest := []) E lk_VRX6_58 rfl rfl rfl (c_swap l hl0 D cy sa qa qa_minute qa_body qa_spotX qa_spotY qa_order q_passings q_spots k2qy1 k11qy2 qf_order ⟨by omega, by omega⟩ ⟨by omega, by omega⟩ h_qf_order ⟨by omega, by omega⟩ ⟨by omega, by omega⟩ H.size) (⟨hP, hD, hG, hS, hA, rfl, rfl⟩ : kAt D cy sa A s H _ _ [(qa, .inr (8, [.ref qa_minute, .ref qa_body, .int q_passings, .ref qa_spotX, .ref qa_spotY, .int q_spots, .ref qa_order])), (qa_order, .inl (cy 0, 6, .inl qf_order))] [0, 1]) hl.1 rfl rfl ⟨rfl, rfl, ⟨Nat.le_of_ble_eq_true rfl, Nat.le_of_ble_eq_true rfl⟩, ⟨Nat.le_of_ble_eq_true rfl, Nat.le_of_ble_eq_true rfl⟩, Nat.le_of_ble_eq_true rfl⟩ dX6_nextOrder_76) (fun u14q H locs hwu14q hP hD hS => ?_)
                have hP : va_P D vwCl [(qa, .inr (8, [.ref qa_minute, .ref qa_body, .int q_passings, .ref qa_spotX, .ref qa_spotY, .int q_spots, .ref qa_order])), (qa_order, .inl (cy 0, 6, .inl ((u14q.2 0))))] H := hP
                have hD : va_D A [(qa, .inr (8, [.ref qa_minute, .ref qa_body, .int q_passings, .ref qa_spotX, .ref qa_spotY, .int q_spots, .ref qa_order])), (qa_order, .inl (cy 0, 6, .inl ((u14q.2 0))))] := hD
                have p15q := hwu14q
                refine lv_iload_n hx hb dX6_nextOrder_79 rfl (lv_at hl 1 rfl) ?_
                refine lv_iconst (v := 1) hx hb dX6_nextOrder_80 (by decide) ?_
                refine lv_iadd hx hb dX6_nextOrder_81 ?_
                refine lv_topi (fun x16q ex16q => ?_)
                have rx16q := n_add ex16q (a := k2qy1.toInt) (b := 1) rfl n_L1 (by omega) (by omega)
                refine lv_istore_n (lv' := [(3, .int x16q), (2, .int k11qy2), (1, .int k2qy1), (0, .ref qa)]) hx hb dX6_nextOrder_82 rfl hl (by decide) rfl (fun ls hl => ?_)
                refine lv_aload_n hx hb dX6_nextOrder_83 rfl (lv_at hl 3 rfl) ?_
                refine va_get (D := D) (ci := 8) (v := .int q_spots) (C := RX6) (T := TX6) (N := 7) hx hb hts kin_RX6 hown hG.1 hP 0 rfl rfl 5 (by decide) (hts _ wm_245) (fun _ h9 => h9) rfl dX6_nextOrder_84 ?_
                refine lv_iconst (v := 1) hx hb dX6_nextOrder_87 (by decide) ?_
                refine lv_isub hx hb dX6_nextOrder_88 ?_
                refine lv_topi (fun x17q ex17q => ?_)
                have rx17q := n_sub ex17q (a := q_spots.toInt) (b := 1) rfl n_L1 (by omega) (by omega)
                refine lv_istore (lv' := [(4, .int x17q), (3, .int x16q), (2, .int k11qy2), (1, .int k2qy1), (0, .ref qa)]) hx hb dX6_nextOrder_89 hl (by decide) rfl (fun ls hl => ?_)
                have k18q : ∀ (n : Nat) (k18qy3 : Int32) (k18qy4 : Int32) (k18qqf_order : Nat → Int32) (H : Heap) (locs : List Loc) (ls : Array Slot), 1 ≤ k18qy3.toInt ∧ k18qy3.toInt ≤ 6 → 0 ≤ k18qy4.toInt ∧ k18qy4.toInt ≤ 5 → rowR 6 0 (5) k18qqf_order → (k18qy4.toInt - k18qy3.toInt + 10).toNat = n → va_P D vwCl [(qa, .inr (8, [.ref qa_minute, .ref qa_body, .int q_passings, .ref qa_spotX, .ref qa_spotY, .int q_spots, .ref qa_order])), (qa_order, .inl (cy 0, 6, .inl k18qqf_order))] H → va_D A [(qa, .inr (8, [.ref qa_minute, .ref qa_body, .int q_passings, .ref qa_spotX, .ref qa_spotY, .int q_spots, .ref qa_order])), (qa_order, .inl (cy 0, 6, .inl k18qqf_order))] → va_S A s.heap H locs → lv_has ls 5 [(4, .int k18qy4), (3, .int k18qy3), (2, .int k11qy2), (1, .int k2qy1), (0, .ref qa)] → W p l e ({ frames := 11, cells := 0, slots := 0, locals := 360 }) s m ([.ref qa] : List Value).toArray below meth c H locs 0 0 Q0 (F0 m 91 ls []) := by
                  intro n
                  induction n using Nat.strongRecOn with
                  | ind n k18qih =>
                    intro k18qy3 k18qy4 k18qqf_order H locs ls hk18qy3 hk18qy4 hk18qqf_order k18qm hP hD hS hl
                    refine lv_iload_n hx hb dX6_nextOrder_91 rfl (lv_at hl 1 rfl) ?_
                    refine lv_iload hx hb dX6_nextOrder_92 (lv_at hl 0 rfl) ?_
                    refine lv_icmp_ge (tgt := 113) hx hb dX6_nextOrder_94 (by decide) (fun c19q => ?_) (fun c19q => ?_)
                    · simp only [k_lt, k_le, k_eq, ne_eq, ge_iff_le, gt_iff_lt] at c19q
                      refine lv_iconst (v := 1) hx hb dX6_nextOrder_113 (by decide) ?_
                      rw [hQ0]
                      exact k_zret (fun k => [].getD k 0, fun k => [k18qqf_order].getD k (fun _ => 0)) hx hb hr hlk (k_nz (by decide)) (⟨(by show (1 : Int32).toInt = 0 ∨ (1 : Int32).toInt = 1; rw [n_L1]; omega), (show rowR 6 0 (5) k18qqf_order from hk18qqf_order)⟩) (hP.sub [0, 1] rfl) (hD.sub [0, 1] (by decide) rfl) hS (by decide) (by decide) dX6_nextOrder_114
                    · simp only [k_lt, k_le, k_eq, ne_eq, ge_iff_le, gt_iff_lt] at c19q
                      refine lv_aload_n hx hb dX6_nextOrder_97 rfl (lv_at hl 4 rfl) ?_
                      refine lv_iload_n hx hb dX6_nextOrder_98 rfl (lv_at hl 1 rfl) ?_
                      refine lv_iload hx hb dX6_nextOrder_99 (lv_at hl 0 rfl) ?_
                      refine k_calv [] (⟨hP, hD, hG, hS, hA, rfl, rfl⟩ : kAt D cy sa A s H _ _ [(qa, .inr (8, [.ref qa_minute, .ref qa_body, .int q_passings, .ref qa_spotX, .ref qa_spotY, .int q_spots, .ref qa_order])), (qa_order, .inl (cy 0, 6, .inl k18qqf_order))] [0, 1]) (wr := []) rfl rfl (by decide) (k_runV 8 0 (As := [.int k18qy3, .int k18qy4]) (rest := []) E lk_VRX6_58 rfl rfl rfl (c_swap l hl0 D cy sa qa qa_minute qa_body qa_spotX qa_spotY qa_order q_passings q_spots k18qy3 k18qy4 k18qqf_order ⟨by omega, by omega⟩ ⟨by omega, by omega⟩ hk18qqf_order ⟨by omega, by omega⟩ ⟨by omega, by omega⟩ H.size) (⟨hP, hD, hG, hS, hA, rfl, rfl⟩ : kAt D cy sa A s H _ _ [(qa, .inr (8, [.ref qa_minute, .ref qa_body, .int q_passings, .ref qa_spotX, .ref qa_spotY, .int q_spots, .ref qa_order])), (qa_order, .inl (cy 0, 6, .inl k18qqf_order))] [0, 1]) hl.1 rfl rfl ⟨rfl, rfl, ⟨Nat.le_of_ble_eq_true rfl, Nat.le_of_ble_eq_true rfl⟩, ⟨Nat.le_of_ble_eq_true rfl, Nat.le_of_ble_eq_true rfl⟩, Nat.le_of_ble_eq_true rfl⟩ dX6_nextOrder_101) (fun u21q H locs hwu21q hP hD hS => ?_)
                      have hP : va_P D vwCl [(qa, .inr (8, [.ref qa_minute, .ref qa_body, .int q_passings, .ref qa_spotX, .ref qa_spotY, .int q_spots, .ref qa_order])), (qa_order, .inl (cy 0, 6, .inl ((u21q.2 0))))] H := hP
                      have hD : va_D A [(qa, .inr (8, [.ref qa_minute, .ref qa_body, .int q_passings, .ref qa_spotX, .ref qa_spotY, .int q_spots, .ref qa_order])), (qa_order, .inl (cy 0, 6, .inl ((u21q.2 0))))] := hD
                      have p22q := hwu21q
                      obtain ⟨x23q, ex23q⟩ : ∃ z : Int32, z = k18qy3 + 1 := ⟨_, rfl⟩
                      refine lv_iinc (v := x23q) (lv' := [(3, .int x23q), (4, .int k18qy4), (2, .int k11qy2), (1, .int k2qy1), (0, .ref qa)]) hx hb dX6_nextOrder_104 hl (k := 1) rfl (by rw [ex23q]; rfl) (by decide) rfl (fun ls hl => ?_)
                      have rx23q := n_add ex23q (a := k18qy3.toInt) (b := 1) rfl n_L1 (by omega) (by omega)
                      obtain ⟨x24q, ex24q⟩ : ∃ z : Int32, z = k18qy4 + (-1) := ⟨_, rfl⟩
                      refine lv_iinc (v := x24q) (lv' := [(4, .int x24q), (3, .int x23q), (2, .int k11qy2), (1, .int k2qy1), (0, .ref qa)]) hx hb dX6_nextOrder_107 hl (k := 1) rfl (by rw [ex24q]; rfl) (by decide) rfl (fun ls hl => ?_)
                      have rx24q := n_add ex24q (a := k18qy4.toInt) (b := (-1)) rfl n_Lm1 (by omega) (by omega)
                      refine lv_goto (tgt := 91) hx hb dX6_nextOrder_110 (by decide) ?_
                      exact k18qih ((x24q.toInt - x23q.toInt + 10).toNat) (by omega) x23q x24q (u21q.2 0) H locs ls ⟨by omega, by omega⟩ ⟨by omega, by omega⟩ p22q rfl hP hD hS (lv_sub hl [0, 1, 2, 3, 4] rfl)
                exact k18q _ x16q x17q (u14q.2 0) H locs ls ⟨by omega, by omega⟩ ⟨by omega, by omega⟩ p15q rfl hP hD hS (lv_sub hl [0, 1, 2, 3, 4] rfl)
              · simp only [k_lt, k_le, k_eq, ne_eq, ge_iff_le, gt_iff_lt] at c12q
                refine lv_aload_n hx hb dX6_nextOrder_52 rfl (lv_at hl 2 rfl) ?_
                refine va_get (D := D) (ci := 8) (v := .ref qa_order) (C := RX6) (T := TX6) (N := 7) hx hb hts kin_RX6 hown hG.1 hP 0 rfl rfl 6 (by decide) (hts _ wm_247) (fun _ h9 => h9) rfl dX6_nextOrder_53 ?_
                refine lv_iload_n hx hb dX6_nextOrder_56 rfl (lv_at hl 0 rfl) ?_
                refine va_iald hx hb hG.1 hP 1 0 rfl rfl (n_in (by omega) (by omega)) dX6_nextOrder_57 ?_
                refine lv_topi (fun x25q ex25q => ?_)
                have rx25q : 0 ≤ x25q.toInt ∧ x25q.toInt ≤ 5 := by rw [ex25q]; exact h_qf_order _ (n_lt (by omega) (by omega))
                refine lv_aload_n hx hb dX6_nextOrder_58 rfl (lv_at hl 2 rfl) ?_
                refine va_get (D := D) (ci := 8) (v := .ref qa_order) (C := RX6) (T := TX6) (N := 7) hx hb hts kin_RX6 hown hG.1 hP 0 rfl rfl 6 (by decide) (hts _ wm_247) (fun _ h9 => h9) rfl dX6_nextOrder_59 ?_
                refine lv_iload_n hx hb dX6_nextOrder_62 rfl (lv_at hl 1 rfl) ?_
                refine va_iald hx hb hG.1 hP 1 0 rfl rfl (n_in (by omega) (by omega)) dX6_nextOrder_63 ?_
                refine lv_topi (fun x26q ex26q => ?_)
                have qx26q : x5q = x26q := ex5q.trans ex26q.symm
                subst qx26q
                refine lv_icmp_ge (tgt := 73) hx hb dX6_nextOrder_64 (by decide) (fun c27q => ?_) (fun c27q => ?_)
                · simp only [k_lt, k_le, k_eq, ne_eq, ge_iff_le, gt_iff_lt] at c27q
                  refine lv_aload_n hx hb dX6_nextOrder_73 rfl (lv_at hl 2 rfl) ?_
                  refine lv_iload_n hx hb dX6_nextOrder_74 rfl (lv_at hl 1 rfl) ?_
                  refine lv_iload_n hx hb dX6_nextOrder_75 rfl (lv_at hl 0 rfl) ?_
                  refine k_calv [] (⟨hP, hD, hG, hS, hA, rfl, rfl⟩ : kAt D cy sa A s H _ _ [(qa, .inr (8, [.ref qa_minute, .ref qa_body, .int q_passings, .ref qa_spotX, .ref qa_spotY, .int q_spots, .ref qa_order])), (qa_order, .inl (cy 0, 6, .inl qf_order))] [0, 1]) (wr := []) rfl rfl (by decide) (k_runV 8 0 (As := [.int k2qy1, .int k11qy2]) (rest := []) E lk_VRX6_58 rfl rfl rfl (c_swap l hl0 D cy sa qa qa_minute qa_body qa_spotX qa_spotY qa_order q_passings q_spots k2qy1 k11qy2 qf_order ⟨by omega, by omega⟩ ⟨by omega, by omega⟩ h_qf_order ⟨by omega, by omega⟩ ⟨by omega, by omega⟩ H.size) (⟨hP, hD, hG, hS, hA, rfl, rfl⟩ : kAt D cy sa A s H _ _ [(qa, .inr (8, [.ref qa_minute, .ref qa_body, .int q_passings, .ref qa_spotX, .ref qa_spotY, .int q_spots, .ref qa_order])), (qa_order, .inl (cy 0, 6, .inl qf_order))] [0, 1]) hl.1 rfl rfl ⟨rfl, rfl, ⟨Nat.le_of_ble_eq_true rfl, Nat.le_of_ble_eq_true rfl⟩, ⟨Nat.le_of_ble_eq_true rfl, Nat.le_of_ble_eq_true rfl⟩, Nat.le_of_ble_eq_true rfl⟩ dX6_nextOrder_76) (fun u29q H locs hwu29q hP hD hS => ?_)
                  have hP : va_P D vwCl [(qa, .inr (8, [.ref qa_minute, .ref qa_body, .int q_passings, .ref qa_spotX, .ref qa_spotY, .int q_spots, .ref qa_order])), (qa_order, .inl (cy 0, 6, .inl ((u29q.2 0))))] H := hP
                  have hD : va_D A [(qa, .inr (8, [.ref qa_minute, .ref qa_body, .int q_passings, .ref qa_spotX, .ref qa_spotY, .int q_spots, .ref qa_order])), (qa_order, .inl (cy 0, 6, .inl ((u29q.2 0))))] := hD
                  have p30q := hwu29q
                  refine lv_iload_n hx hb dX6_nextOrder_79 rfl (lv_at hl 1 rfl) ?_
                  refine lv_iconst (v := 1) hx hb dX6_nextOrder_80 (by decide) ?_
                  refine lv_iadd hx hb dX6_nextOrder_81 ?_
                  refine lv_topi (fun x31q ex31q => ?_)
                  have rx31q := n_add ex31q (a := k2qy1.toInt) (b := 1) rfl n_L1 (by omega) (by omega)
                  refine lv_istore_n (lv' := [(3, .int x31q), (2, .int k11qy2), (1, .int k2qy1), (0, .ref qa)]) hx hb dX6_nextOrder_82 rfl hl (by decide) rfl (fun ls hl => ?_)
                  refine lv_aload_n hx hb dX6_nextOrder_83 rfl (lv_at hl 3 rfl) ?_
                  refine va_get (D := D) (ci := 8) (v := .int q_spots) (C := RX6) (T := TX6) (N := 7) hx hb hts kin_RX6 hown hG.1 hP 0 rfl rfl 5 (by decide) (hts _ wm_245) (fun _ h9 => h9) rfl dX6_nextOrder_84 ?_
                  refine lv_iconst (v := 1) hx hb dX6_nextOrder_87 (by decide) ?_
                  refine lv_isub hx hb dX6_nextOrder_88 ?_
                  refine lv_topi (fun x32q ex32q => ?_)
                  have rx32q := n_sub ex32q (a := q_spots.toInt) (b := 1) rfl n_L1 (by omega) (by omega)
                  refine lv_istore (lv' := [(4, .int x32q), (3, .int x31q), (2, .int k11qy2), (1, .int k2qy1), (0, .ref qa)]) hx hb dX6_nextOrder_89 hl (by decide) rfl (fun ls hl => ?_)
                  have k33q : ∀ (n : Nat) (k33qy3 : Int32) (k33qy4 : Int32) (k33qqf_order : Nat → Int32) (H : Heap) (locs : List Loc) (ls : Array Slot), 1 ≤ k33qy3.toInt ∧ k33qy3.toInt ≤ 6 → 0 ≤ k33qy4.toInt ∧ k33qy4.toInt ≤ 5 → rowR 6 0 (5) k33qqf_order → (k33qy4.toInt - k33qy3.toInt + 10).toNat = n → va_P D vwCl [(qa, .inr (8, [.ref qa_minute, .ref qa_body, .int q_passings, .ref qa_spotX, .ref qa_spotY, .int q_spots, .ref qa_order])), (qa_order, .inl (cy 0, 6, .inl k33qqf_order))] H → va_D A [(qa, .inr (8, [.ref qa_minute, .ref qa_body, .int q_passings, .ref qa_spotX, .ref qa_spotY, .int q_spots, .ref qa_order])), (qa_order, .inl (cy 0, 6, .inl k33qqf_order))] → va_S A s.heap H locs → lv_has ls 5 [(4, .int k33qy4), (3, .int k33qy3), (2, .int k11qy2), (1, .int k2qy1), (0, .ref qa)] → W p l e ({ frames := 11, cells := 0, slots := 0, locals := 360 }) s m ([.ref qa] : List Value).toArray below meth c H locs 0 0 Q0 (F0 m 91 ls []) := by
                    intro n
                    induction n using Nat.strongRecOn with
                    | ind n k33qih =>
                      intro k33qy3 k33qy4 k33qqf_order H locs ls hk33qy3 hk33qy4 hk33qqf_order k33qm hP hD hS hl
                      refine lv_iload_n hx hb dX6_nextOrder_91 rfl (lv_at hl 1 rfl) ?_
                      refine lv_iload hx hb dX6_nextOrder_92 (lv_at hl 0 rfl) ?_
                      refine lv_icmp_ge (tgt := 113) hx hb dX6_nextOrder_94 (by decide) (fun c34q => ?_) (fun c34q => ?_)
                      · simp only [k_lt, k_le, k_eq, ne_eq, ge_iff_le, gt_iff_lt] at c34q
                        refine lv_iconst (v := 1) hx hb dX6_nextOrder_113 (by decide) ?_
                        rw [hQ0]
                        exact k_zret (fun k => [].getD k 0, fun k => [k33qqf_order].getD k (fun _ => 0)) hx hb hr hlk (k_nz (by decide)) (⟨(by show (1 : Int32).toInt = 0 ∨ (1 : Int32).toInt = 1; rw [n_L1]; omega), (show rowR 6 0 (5) k33qqf_order from hk33qqf_order)⟩) (hP.sub [0, 1] rfl) (hD.sub [0, 1] (by decide) rfl) hS (by decide) (by decide) dX6_nextOrder_114
                      · simp only [k_lt, k_le, k_eq, ne_eq, ge_iff_le, gt_iff_lt] at c34q
                        refine lv_aload_n hx hb dX6_nextOrder_97 rfl (lv_at hl 4 rfl) ?_
                        refine lv_iload_n hx hb dX6_nextOrder_98 rfl (lv_at hl 1 rfl) ?_
                        refine lv_iload hx hb dX6_nextOrder_99 (lv_at hl 0 rfl) ?_
                        refine k_calv [] (⟨hP, hD, hG, hS, hA, rfl, rfl⟩ : kAt D cy sa A s H _ _ [(qa, .inr (8, [.ref qa_minute, .ref qa_body, .int q_passings, .ref qa_spotX, .ref qa_spotY, .int q_spots, .ref qa_order])), (qa_order, .inl (cy 0, 6, .inl k33qqf_order))] [0, 1]) (wr := []) rfl rfl (by decide) (k_runV 8 0 (As := [.int k33qy3, .int k33qy4]) (rest := []) E lk_VRX6_58 rfl rfl rfl (c_swap l hl0 D cy sa qa qa_minute qa_body qa_spotX qa_spotY qa_order q_passings q_spots k33qy3 k33qy4 k33qqf_order ⟨by omega, by omega⟩ ⟨by omega, by omega⟩ hk33qqf_order ⟨by omega, by omega⟩ ⟨by omega, by omega⟩ H.size) (⟨hP, hD, hG, hS, hA, rfl, rfl⟩ : kAt D cy sa A s H _ _ [(qa, .inr (8, [.ref qa_minute, .ref qa_body, .int q_passings, .ref qa_spotX, .ref qa_spotY, .int q_spots, .ref qa_order])), (qa_order, .inl (cy 0, 6, .inl k33qqf_order))] [0, 1]) hl.1 rfl rfl ⟨rfl, rfl, ⟨Nat.le_of_ble_eq_true rfl, Nat.le_of_ble_eq_true rfl⟩, ⟨Nat.le_of_ble_eq_true rfl, Nat.le_of_ble_eq_true rfl⟩, Nat.le_of_ble_eq_true rfl⟩ dX6_nextOrder_101) (fun u36q H locs hwu36q hP hD hS => ?_)
                        have hP : va_P D vwCl [(qa, .inr (8, [.ref qa_minute, .ref qa_body, .int q_passings, .ref qa_spotX, .ref qa_spotY, .int q_spots, .ref qa_order])), (qa_order, .inl (cy 0, 6, .inl ((u36q.2 0))))] H := hP
                        have hD : va_D A [(qa, .inr (8, [.ref qa_minute, .ref qa_body, .int q_passings, .ref qa_spotX, .ref qa_spotY, .int q_spots, .ref qa_order])), (qa_order, .inl (cy 0, 6, .inl ((u36q.2 0))))] := hD
                        have p37q := hwu36q
                        obtain ⟨x38q, ex38q⟩ : ∃ z : Int32, z = k33qy3 + 1 := ⟨_, rfl⟩
                        refine lv_iinc (v := x38q) (lv' := [(3, .int x38q), (4, .int k33qy4), (2, .int k11qy2), (1, .int k2qy1), (0, .ref qa)]) hx hb dX6_nextOrder_104 hl (k := 1) rfl (by rw [ex38q]; rfl) (by decide) rfl (fun ls hl => ?_)
                        have rx38q := n_add ex38q (a := k33qy3.toInt) (b := 1) rfl n_L1 (by omega) (by omega)
                        obtain ⟨x39q, ex39q⟩ : ∃ z : Int32, z = k33qy4 + (-1) := ⟨_, rfl⟩
                        refine lv_iinc (v := x39q) (lv' := [(4, .int x39q), (3, .int x38q), (2, .int k11qy2), (1, .int k2qy1), (0, .ref qa)]) hx hb dX6_nextOrder_107 hl (k := 1) rfl (by rw [ex39q]; rfl) (by decide) rfl (fun ls hl => ?_)
                        have rx39q := n_add ex39q (a := k33qy4.toInt) (b := (-1)) rfl n_Lm1 (by omega) (by omega)
                        refine lv_goto (tgt := 91) hx hb dX6_nextOrder_110 (by decide) ?_
                        exact k33qih ((x39q.toInt - x38q.toInt + 10).toNat) (by omega) x38q x39q (u36q.2 0) H locs ls ⟨by omega, by omega⟩ ⟨by omega, by omega⟩ p37q rfl hP hD hS (lv_sub hl [0, 1, 2, 3, 4] rfl)
                  exact k33q _ x31q x32q (u29q.2 0) H locs ls ⟨by omega, by omega⟩ ⟨by omega, by omega⟩ p30q rfl hP hD hS (lv_sub hl [0, 1, 2, 3, 4] rfl)
                · simp only [k_lt, k_le, k_eq, ne_eq, ge_iff_le, gt_iff_lt] at c27q
                  obtain ⟨x40q, ex40q⟩ : ∃ z : Int32, z = k11qy2 + (-1) := ⟨_, rfl⟩
                  refine lv_iinc (v := x40q) (lv' := [(2, .int x40q), (1, .int k2qy1), (0, .ref qa)]) hx hb dX6_nextOrder_67 hl (k := 0) rfl (by rw [ex40q]; rfl) (by decide) rfl (fun ls hl => ?_)
                  have rx40q := n_add ex40q (a := k11qy2.toInt) (b := (-1)) rfl n_Lm1 (by omega) (by omega)
                  refine lv_goto (tgt := 47) hx hb dX6_nextOrder_70 (by decide) ?_
                  exact k11qih ((x40q.toInt + 3).toNat) (by omega) x40q H locs ls ⟨by omega, by omega⟩ (show k2qy1.toInt ≤ x40q.toInt by omega) rfl hP hD hS (lv_sub hl [0, 1, 2] rfl)
          exact k11q _ x10q H locs ls ⟨by omega, by omega⟩ (show k2qy1.toInt ≤ x10q.toInt by omega) rfl hP hD hS (lv_sub hl [0, 1, 2] rfl)
        · simp only [k_lt, k_le, k_eq, ne_eq, ge_iff_le, gt_iff_lt] at c8q
          obtain ⟨x41q, ex41q⟩ : ∃ z : Int32, z = k2qy1 + (-1) := ⟨_, rfl⟩
          refine lv_iinc (v := x41q) (lv' := [(1, .int x41q), (0, .ref qa)]) hx hb dX6_nextOrder_28 hl (k := 0) rfl (by rw [ex41q]; rfl) (by decide) rfl (fun ls hl => ?_)
          have rx41q := n_add ex41q (a := k2qy1.toInt) (b := (-1)) rfl n_Lm1 (by omega) (by omega)
          refine lv_goto (tgt := 7) hx hb dX6_nextOrder_31 (by decide) ?_
          exact k2qih ((x41q.toInt + 3).toNat) (by omega) x41q H locs ls ⟨by omega, by omega⟩ (show x41q.toInt ≤ q_spots.toInt - 2 by omega) rfl hP hD hS (lv_sub hl [0, 1] rfl)
  exact k2q _ x1q H locs ls ⟨by omega, by omega⟩ (show x1q.toInt ≤ q_spots.toInt - 2 by omega) rfl hP hD hS (lv_sub hl [0, 1] rfl)

set_option maxHeartbeats 4000000 in
set_option maxRecDepth 100000 in
/-- Plan.placing -/
theorem c_placing (l : Launch) (hl0 : l.stackTraces = false) (D : va_G) (cy : Nat → ClassId) (sa : Nat → Nat) (qa qa_minute qa_body qa_spotX qa_spotY qa_order ha ha_x ha_y ha_holds ha_needs ha_harm ha_worth ha_joint ha_habit ha_sleepsFrom ha_sleepsTo ha_criesDrifted ha_criesElse : Nat) (q_passings q_spots h_bodies h_joints h_breath h_stride h_day w0 : Int32) (qf_spotX qf_spotY qf_order : Nat → Int32) (h_q_passings : 0 ≤ q_passings.toInt ∧ q_passings.toInt ≤ 30) (h_q_spots : 0 ≤ q_spots.toInt ∧ q_spots.toInt ≤ 6) (h_qf_spotX : rowR 6 0 (15) qf_spotX) (h_qf_spotY : rowR 6 0 (15) qf_spotY) (h_qf_order : rowR 6 0 (5) qf_order) (h_h_bodies : 0 ≤ h_bodies.toInt ∧ h_bodies.toInt ≤ 9) (h_h_breath : 0 ≤ h_breath.toInt ∧ h_breath.toInt ≤ 9) (h_h_day : 0 ≤ h_day.toInt ∧ h_day.toInt ≤ 480) (sz : Nat) : Met l yX6_placing (Cond.code yX6_placing cX6_placing 7 (some .int) :: kWS) ({ frames := 12, cells := 0, slots := 0, locals := 420 }) (kPre D cy sa [.ref qa, .ref ha, .int w0] [(qa, .inr (8, [.ref qa_minute, .ref qa_body, .int q_passings, .ref qa_spotX, .ref qa_spotY, .int q_spots, .ref qa_order])), (qa_spotX, .inl (cy 0, 6, .inl qf_spotX)), (qa_spotY, .inl (cy 0, 6, .inl qf_spotY)), (qa_order, .inl (cy 0, 6, .inl qf_order)), (ha, .inr (4, [.ref ha_x, .ref ha_y, .ref ha_holds, .ref ha_needs, .ref ha_harm, .ref ha_worth, .ref ha_joint, .ref ha_habit, .ref ha_sleepsFrom, .ref ha_sleepsTo, .ref ha_criesDrifted, .ref ha_criesElse, .int h_bodies, .int h_joints, .int h_breath, .int h_stride, .int h_day]))] sz) (va_Qi (fun (r : Int32) (u : (Nat → Int32) × (Nat → Nat → Int32)) => (rowR 6 0 (5) ((u.2 0)))) (kB D (va_A [(qa, .inr (8, [.ref qa_minute, .ref qa_body, .int q_passings, .ref qa_spotX, .ref qa_spotY, .int q_spots, .ref qa_order])), (qa_spotX, .inl (cy 0, 6, .inl qf_spotX)), (qa_spotY, .inl (cy 0, 6, .inl qf_spotY)), (qa_order, .inl (cy 0, 6, .inl qf_order)), (ha, .inr (4, [.ref ha_x, .ref ha_y, .ref ha_holds, .ref ha_needs, .ref ha_harm, .ref ha_worth, .ref ha_joint, .ref ha_habit, .ref ha_sleepsFrom, .ref ha_sleepsTo, .ref ha_criesDrifted, .ref ha_criesElse, .int h_bodies, .int h_joints, .int h_breath, .int h_stride, .int h_day]))] sz) (fun (u : (Nat → Int32) × (Nat → Nat → Int32)) => [(qa, .inr (8, [.ref qa_minute, .ref qa_body, .int q_passings, .ref qa_spotX, .ref qa_spotY, .int q_spots, .ref qa_order])), (qa_spotX, .inl (cy 0, 6, .inl qf_spotX)), (qa_spotY, .inl (cy 0, 6, .inl qf_spotY)), (qa_order, .inl (cy 0, 6, .inl ((u.2 0)))), (ha, .inr (4, [.ref ha_x, .ref ha_y, .ref ha_holds, .ref ha_needs, .ref ha_harm, .ref ha_worth, .ref ha_joint, .ref ha_habit, .ref ha_sleepsFrom, .ref ha_sleepsTo, .ref ha_criesDrifted, .ref ha_criesElse, .int h_bodies, .int h_joints, .int h_breath, .int h_stride, .int h_day]))])) (va_A [(qa, .inr (8, [.ref qa_minute, .ref qa_body, .int q_passings, .ref qa_spotX, .ref qa_spotY, .int q_spots, .ref qa_order])), (qa_spotX, .inl (cy 0, 6, .inl qf_spotX)), (qa_spotY, .inl (cy 0, 6, .inl qf_spotY)), (qa_order, .inl (cy 0, 6, .inl qf_order)), (ha, .inr (4, [.ref ha_x, .ref ha_y, .ref ha_holds, .ref ha_needs, .ref ha_harm, .ref ha_worth, .ref ha_joint, .ref ha_habit, .ref ha_sleepsFrom, .ref ha_sleepsTo, .ref ha_criesDrifted, .ref ha_criesElse, .int h_bodies, .int h_joints, .int h_breath, .int h_stride, .int h_day]))] sz)) 0 0 (va_A [(qa, .inr (8, [.ref qa_minute, .ref qa_body, .int q_passings, .ref qa_spotX, .ref qa_spotY, .int q_spots, .ref qa_order])), (qa_spotX, .inl (cy 0, 6, .inl qf_spotX)), (qa_spotY, .inl (cy 0, 6, .inl qf_spotY)), (qa_order, .inl (cy 0, 6, .inl qf_order)), (ha, .inr (4, [.ref ha_x, .ref ha_y, .ref ha_holds, .ref ha_needs, .ref ha_harm, .ref ha_worth, .ref ha_joint, .ref ha_habit, .ref ha_sleepsFrom, .ref ha_sleepsTo, .ref ha_criesDrifted, .ref ha_criesElse, .int h_bodies, .int h_joints, .int h_breath, .int h_stride, .int h_day]))] sz) := by
  refine k_ofW (y := yX6_placing) (cc := cX6_placing) (maxL := 7) (ret := (some .int)) (av := [.ref qa, .ref ha, .int w0]) (ws := [(qa, .inr (8, [.ref qa_minute, .ref qa_body, .int q_passings, .ref qa_spotX, .ref qa_spotY, .int q_spots, .ref qa_order])), (qa_spotX, .inl (cy 0, 6, .inl qf_spotX)), (qa_spotY, .inl (cy 0, 6, .inl qf_spotY)), (qa_order, .inl (cy 0, 6, .inl qf_order)), (ha, .inr (4, [.ref ha_x, .ref ha_y, .ref ha_holds, .ref ha_needs, .ref ha_harm, .ref ha_worth, .ref ha_joint, .ref ha_habit, .ref ha_sleepsFrom, .ref ha_sleepsTo, .ref ha_criesDrifted, .ref ha_criesElse, .int h_bodies, .int h_joints, .int h_breath, .int h_stride, .int h_day]))]) (Qc := fun A => (va_Qi (fun (r : Int32) (u : (Nat → Int32) × (Nat → Nat → Int32)) => (rowR 6 0 (5) ((u.2 0)))) (kB D A (fun (u : (Nat → Int32) × (Nat → Nat → Int32)) => [(qa, .inr (8, [.ref qa_minute, .ref qa_body, .int q_passings, .ref qa_spotX, .ref qa_spotY, .int q_spots, .ref qa_order])), (qa_spotX, .inl (cy 0, 6, .inl qf_spotX)), (qa_spotY, .inl (cy 0, 6, .inl qf_spotY)), (qa_order, .inl (cy 0, 6, .inl ((u.2 0)))), (ha, .inr (4, [.ref ha_x, .ref ha_y, .ref ha_holds, .ref ha_needs, .ref ha_harm, .ref ha_worth, .ref ha_joint, .ref ha_habit, .ref ha_sleepsFrom, .ref ha_sleepsTo, .ref ha_criesDrifted, .ref ha_criesElse, .int h_bodies, .int h_joints, .int h_breath, .int h_stride, .int h_day]))])) A)) (by decide) (Nat.le_of_ble_eq_true rfl) ?_
  intro p e s m below meth c ls A E hA hP hD hG hS hl
  obtain ⟨Q0, hQ0⟩ : ∃ Q0 : State → Prop, Q0 = MQ below (va_Qi (fun (r : Int32) (u : (Nat → Int32) × (Nat → Nat → Int32)) => (rowR 6 0 (5) ((u.2 0)))) (kB D A (fun (u : (Nat → Int32) × (Nat → Nat → Int32)) => [(qa, .inr (8, [.ref qa_minute, .ref qa_body, .int q_passings, .ref qa_spotX, .ref qa_spotY, .int q_spots, .ref qa_order])), (qa_spotX, .inl (cy 0, 6, .inl qf_spotX)), (qa_spotY, .inl (cy 0, 6, .inl qf_spotY)), (qa_order, .inl (cy 0, 6, .inl ((u.2 0)))), (ha, .inr (4, [.ref ha_x, .ref ha_y, .ref ha_holds, .ref ha_needs, .ref ha_harm, .ref ha_worth, .ref ha_joint, .ref ha_habit, .ref ha_sleepsFrom, .ref ha_sleepsTo, .ref ha_criesDrifted, .ref ha_criesElse, .int h_bodies, .int h_joints, .int h_breath, .int h_stride, .int h_day]))])) A) ([.ref qa, .ref ha, .int w0] : List Value).toArray s 0 0 A := ⟨_, rfl⟩
  rw [← hQ0]
  obtain ⟨hx, hb, hml, hown, hts, hr, hlk, hnm⟩ := id E
  have hown : s.vm.findClass RX6 = some m.cls := hown
  have hl : lv_has ls 7 [(0, .ref qa), (1, .ref ha), (2, .int w0)] := hl
  have g_w0 := k_rng w0
  obtain ⟨H, hH⟩ : ∃ H, H = s.heap := ⟨_, rfl⟩
  have hP : va_P D vwCl [(qa, .inr (8, [.ref qa_minute, .ref qa_body, .int q_passings, .ref qa_spotX, .ref qa_spotY, .int q_spots, .ref qa_order])), (qa_spotX, .inl (cy 0, 6, .inl qf_spotX)), (qa_spotY, .inl (cy 0, 6, .inl qf_spotY)), (qa_order, .inl (cy 0, 6, .inl qf_order)), (ha, .inr (4, [.ref ha_x, .ref ha_y, .ref ha_holds, .ref ha_needs, .ref ha_harm, .ref ha_worth, .ref ha_joint, .ref ha_habit, .ref ha_sleepsFrom, .ref ha_sleepsTo, .ref ha_criesDrifted, .ref ha_criesElse, .int h_bodies, .int h_joints, .int h_breath, .int h_stride, .int h_day]))] H := by rw [hH]; exact hP
  have hS : va_S A s.heap H [] := by rw [hH]; exact va_S.rf
  rw [← hH]
  clear hH
  obtain ⟨locs, hlocs⟩ : ∃ locs : List Loc, locs = [] := ⟨_, rfl⟩
  rw [← hlocs] at hS ⊢
  refine lv_iconst (v := 0) hx hb dX6_placing_0 (by decide) ?_
  refine lv_istore_n (lv' := [(3, .int 0), (0, .ref qa), (1, .ref ha), (2, .int w0)]) hx hb dX6_placing_1 rfl hl (by decide) rfl (fun ls hl => ?_)
  have k1q : ∀ (n : Nat) (k1qy3 : Int32) (k1qqf_order : Nat → Int32) (H : Heap) (locs : List Loc) (ls : Array Slot), 0 ≤ k1qy3.toInt ∧ k1qy3.toInt ≤ 6 → rowR 6 0 (5) k1qqf_order → (6 - k1qy3.toInt).toNat = n → va_P D vwCl [(qa, .inr (8, [.ref qa_minute, .ref qa_body, .int q_passings, .ref qa_spotX, .ref qa_spotY, .int q_spots, .ref qa_order])), (qa_spotX, .inl (cy 0, 6, .inl qf_spotX)), (qa_spotY, .inl (cy 0, 6, .inl qf_spotY)), (qa_order, .inl (cy 0, 6, .inl k1qqf_order)), (ha, .inr (4, [.ref ha_x, .ref ha_y, .ref ha_holds, .ref ha_needs, .ref ha_harm, .ref ha_worth, .ref ha_joint, .ref ha_habit, .ref ha_sleepsFrom, .ref ha_sleepsTo, .ref ha_criesDrifted, .ref ha_criesElse, .int h_bodies, .int h_joints, .int h_breath, .int h_stride, .int h_day]))] H → va_D A [(qa, .inr (8, [.ref qa_minute, .ref qa_body, .int q_passings, .ref qa_spotX, .ref qa_spotY, .int q_spots, .ref qa_order])), (qa_spotX, .inl (cy 0, 6, .inl qf_spotX)), (qa_spotY, .inl (cy 0, 6, .inl qf_spotY)), (qa_order, .inl (cy 0, 6, .inl k1qqf_order)), (ha, .inr (4, [.ref ha_x, .ref ha_y, .ref ha_holds, .ref ha_needs, .ref ha_harm, .ref ha_worth, .ref ha_joint, .ref ha_habit, .ref ha_sleepsFrom, .ref ha_sleepsTo, .ref ha_criesDrifted, .ref ha_criesElse, .int h_bodies, .int h_joints, .int h_breath, .int h_stride, .int h_day]))] → va_S A s.heap H locs → lv_has ls 7 [(3, .int k1qy3), (0, .ref qa), (1, .ref ha), (2, .int w0)] → W p l e ({ frames := 12, cells := 0, slots := 0, locals := 420 }) s m ([.ref qa, .ref ha, .int w0] : List Value).toArray below meth c H locs 0 0 Q0 (F0 m 2 ls []) := by
    intro n
    induction n using Nat.strongRecOn with
    | ind n k1qih =>
      intro k1qy3 k1qqf_order H locs ls hk1qy3 hk1qqf_order k1qm hP hD hS hl
      refine lv_iload_n hx hb dX6_placing_2 rfl (lv_at hl 0 rfl) ?_
      refine lv_bipush (v := 6) hx hb dX6_placing_3 (by decide) ?_
      refine lv_icmp_ge (tgt := 21) hx hb dX6_placing_5 (by decide) (fun c2q => ?_) (fun c2q => ?_)
      · simp only [k_lt, k_le, k_eq, ne_eq, ge_iff_le, gt_iff_lt, n_L6] at c2q
        refine lv_aload_n hx hb dX6_placing_21 rfl (lv_at hl 1 rfl) ?_
        refine k_cali [1, 2, 4] (⟨hP, hD, hG, hS, hA, rfl, rfl⟩ : kAt D cy sa A s H _ _ [(qa, .inr (8, [.ref qa_minute, .ref qa_body, .int q_passings, .ref qa_spotX, .ref qa_spotY, .int q_spots, .ref qa_order])), (qa_order, .inl (cy 0, 6, .inl k1qqf_order))] [0, 3]) (wr := [(qa_spotX, .inl (cy 0, 6, .inl qf_spotX)), (qa_spotY, .inl (cy 0, 6, .inl qf_spotY)), (ha, .inr (4, [.ref ha_x, .ref ha_y, .ref ha_holds, .ref ha_needs, .ref ha_harm, .ref ha_worth, .ref ha_joint, .ref ha_habit, .ref ha_sleepsFrom, .ref ha_sleepsTo, .ref ha_criesDrifted, .ref ha_criesElse, .int h_bodies, .int h_joints, .int h_breath, .int h_stride, .int h_day]))]) rfl rfl (by decide) (k_runV 8 0 (As := []) (rest := []) E lk_VRX6_40 rfl rfl rfl (c_digits l hl0 D cy sa qa qa_minute qa_body qa_spotX qa_spotY qa_order q_passings q_spots k1qqf_order ⟨by omega, by omega⟩ ⟨by omega, by omega⟩ hk1qqf_order H.size) (⟨hP, hD, hG, hS, hA, rfl, rfl⟩ : kAt D cy sa A s H _ _ [(qa, .inr (8, [.ref qa_minute, .ref qa_body, .int q_passings, .ref qa_spotX, .ref qa_spotY, .int q_spots, .ref qa_order])), (qa_order, .inl (cy 0, 6, .inl k1qqf_order))] [0, 3]) hl.1 rfl rfl ⟨rfl, rfl, ⟨Nat.le_of_ble_eq_true rfl, Nat.le_of_ble_eq_true rfl⟩, ⟨Nat.le_of_ble_eq_true rfl, Nat.le_of_ble_eq_true rfl⟩, Nat.le_of_ble_eq_true rfl⟩ dX6_placing_22) (fun r3q u4q H locs hwu4q hP hD hS => ?_)
        have hP : va_P D vwCl [(qa_spotX, .inl (cy 0, 6, .inl qf_spotX)), (qa_spotY, .inl (cy 0, 6, .inl qf_spotY)), (ha, .inr (4, [.ref ha_x, .ref ha_y, .ref ha_holds, .ref ha_needs, .ref ha_harm, .ref ha_worth, .ref ha_joint, .ref ha_habit, .ref ha_sleepsFrom, .ref ha_sleepsTo, .ref ha_criesDrifted, .ref ha_criesElse, .int h_bodies, .int h_joints, .int h_breath, .int h_stride, .int h_day])), (qa, .inr (8, [.ref qa_minute, .ref qa_body, .int q_passings, .ref qa_spotX, .ref qa_spotY, .int q_spots, .ref qa_order])), (qa_order, .inl (cy 0, 6, .inl k1qqf_order))] H := hP
        have hD : va_D A [(qa_spotX, .inl (cy 0, 6, .inl qf_spotX)), (qa_spotY, .inl (cy 0, 6, .inl qf_spotY)), (ha, .inr (4, [.ref ha_x, .ref ha_y, .ref ha_holds, .ref ha_needs, .ref ha_harm, .ref ha_worth, .ref ha_joint, .ref ha_habit, .ref ha_sleepsFrom, .ref ha_sleepsTo, .ref ha_criesDrifted, .ref ha_criesElse, .int h_bodies, .int h_joints, .int h_breath, .int h_stride, .int h_day])), (qa, .inr (8, [.ref qa_minute, .ref qa_body, .int q_passings, .ref qa_spotX, .ref qa_spotY, .int q_spots, .ref qa_order])), (qa_order, .inl (cy 0, 6, .inl k1qqf_order))] := hD
        refine lv_istore_n (lv' := [(3, .int r3q), (0, .ref qa), (1, .ref ha), (2, .int w0)]) hx hb dX6_placing_25 rfl hl (by decide) rfl (fun ls hl => ?_)
        refine lv_aload_n hx hb dX6_placing_26 rfl (lv_at hl 1 rfl) ?_
        refine lv_aload_n hx hb dX6_placing_27 rfl (lv_at hl 2 rfl) ?_
        refine k_cali [] (⟨hP, hD, hG, hS, hA, rfl, rfl⟩ : kAt D cy sa A s H _ _ [(qa, .inr (8, [.ref qa_minute, .ref qa_body, .int q_passings, .ref qa_spotX, .ref qa_spotY, .int q_spots, .ref qa_order])), (qa_spotX, .inl (cy 0, 6, .inl qf_spotX)), (qa_spotY, .inl (cy 0, 6, .inl qf_spotY)), (qa_order, .inl (cy 0, 6, .inl k1qqf_order)), (ha, .inr (4, [.ref ha_x, .ref ha_y, .ref ha_holds, .ref ha_needs, .ref ha_harm, .ref ha_worth, .ref ha_joint, .ref ha_habit, .ref ha_sleepsFrom, .ref ha_sleepsTo, .ref ha_criesDrifted, .ref ha_criesElse, .int h_bodies, .int h_joints, .int h_breath, .int h_stride, .int h_day]))] [3, 0, 1, 4, 2]) (wr := []) rfl rfl (by decide) (k_runV 8 3 (As := [.ref ha]) (rest := []) E lk_VRX6_44 rfl rfl rfl (c_costOfOrder l hl0 D cy sa qa qa_minute qa_body qa_spotX qa_spotY qa_order ha ha_x ha_y ha_holds ha_needs ha_harm ha_worth ha_joint ha_habit ha_sleepsFrom ha_sleepsTo ha_criesDrifted ha_criesElse q_passings q_spots h_bodies h_joints h_breath h_stride h_day qf_spotX qf_spotY k1qqf_order ⟨by omega, by omega⟩ ⟨by omega, by omega⟩ h_qf_spotX h_qf_spotY hk1qqf_order ⟨by omega, by omega⟩ ⟨by omega, by omega⟩ ⟨by omega, by omega⟩ H.size) (⟨hP, hD, hG, hS, hA, rfl, rfl⟩ : kAt D cy sa A s H _ _ [(qa, .inr (8, [.ref qa_minute, .ref qa_body, .int q_passings, .ref qa_spotX, .ref qa_spotY, .int q_spots, .ref qa_order])), (qa_spotX, .inl (cy 0, 6, .inl qf_spotX)), (qa_spotY, .inl (cy 0, 6, .inl qf_spotY)), (qa_order, .inl (cy 0, 6, .inl k1qqf_order)), (ha, .inr (4, [.ref ha_x, .ref ha_y, .ref ha_holds, .ref ha_needs, .ref ha_harm, .ref ha_worth, .ref ha_joint, .ref ha_habit, .ref ha_sleepsFrom, .ref ha_sleepsTo, .ref ha_criesDrifted, .ref ha_criesElse, .int h_bodies, .int h_joints, .int h_breath, .int h_stride, .int h_day]))] [3, 0, 1, 4, 2]) hl.1 rfl rfl ⟨rfl, rfl, ⟨Nat.le_of_ble_eq_true rfl, Nat.le_of_ble_eq_true rfl⟩, ⟨Nat.le_of_ble_eq_true rfl, Nat.le_of_ble_eq_true rfl⟩, Nat.le_of_ble_eq_true rfl⟩ dX6_placing_28) (fun r5q u6q H locs hwu6q hP hD hS => ?_)
        have hP : va_P D vwCl [(qa, .inr (8, [.ref qa_minute, .ref qa_body, .int q_passings, .ref qa_spotX, .ref qa_spotY, .int q_spots, .ref qa_order])), (qa_spotX, .inl (cy 0, 6, .inl qf_spotX)), (qa_spotY, .inl (cy 0, 6, .inl qf_spotY)), (qa_order, .inl (cy 0, 6, .inl k1qqf_order)), (ha, .inr (4, [.ref ha_x, .ref ha_y, .ref ha_holds, .ref ha_needs, .ref ha_harm, .ref ha_worth, .ref ha_joint, .ref ha_habit, .ref ha_sleepsFrom, .ref ha_sleepsTo, .ref ha_criesDrifted, .ref ha_criesElse, .int h_bodies, .int h_joints, .int h_breath, .int h_stride, .int h_day]))] H := hP
        have hD : va_D A [(qa, .inr (8, [.ref qa_minute, .ref qa_body, .int q_passings, .ref qa_spotX, .ref qa_spotY, .int q_spots, .ref qa_order])), (qa_spotX, .inl (cy 0, 6, .inl qf_spotX)), (qa_spotY, .inl (cy 0, 6, .inl qf_spotY)), (qa_order, .inl (cy 0, 6, .inl k1qqf_order)), (ha, .inr (4, [.ref ha_x, .ref ha_y, .ref ha_holds, .ref ha_needs, .ref ha_harm, .ref ha_worth, .ref ha_joint, .ref ha_habit, .ref ha_sleepsFrom, .ref ha_sleepsTo, .ref ha_criesDrifted, .ref ha_criesElse, .int h_bodies, .int h_joints, .int h_breath, .int h_stride, .int h_day]))] := hD
        refine lv_istore (lv' := [(4, .int r5q), (3, .int r3q), (0, .ref qa), (1, .ref ha), (2, .int w0)]) hx hb dX6_placing_31 hl (by decide) rfl (fun ls hl => ?_)
        refine lv_sipush (v := 720) hx hb dX6_placing_33 (by decide) ?_
        refine lv_istore (lv' := [(5, .int 720), (4, .int r5q), (3, .int r3q), (0, .ref qa), (1, .ref ha), (2, .int w0)]) hx hb dX6_placing_36 hl (by decide) rfl (fun ls hl => ?_)
        have k7q : ∀ (n : Nat) (k7qy3 : Int32) (k7qy4 : Int32) (k7qy5 : Int32) (k7qqf_order : Nat → Int32) (H : Heap) (locs : List Loc) (ls : Array Slot), 0 ≤ k7qy5.toInt ∧ k7qy5.toInt ≤ 720 → rowR 6 0 (5) k7qqf_order → (k7qy5.toInt).toNat = n → va_P D vwCl [(qa, .inr (8, [.ref qa_minute, .ref qa_body, .int q_passings, .ref qa_spotX, .ref qa_spotY, .int q_spots, .ref qa_order])), (qa_spotX, .inl (cy 0, 6, .inl qf_spotX)), (qa_spotY, .inl (cy 0, 6, .inl qf_spotY)), (qa_order, .inl (cy 0, 6, .inl k7qqf_order)), (ha, .inr (4, [.ref ha_x, .ref ha_y, .ref ha_holds, .ref ha_needs, .ref ha_harm, .ref ha_worth, .ref ha_joint, .ref ha_habit, .ref ha_sleepsFrom, .ref ha_sleepsTo, .ref ha_criesDrifted, .ref ha_criesElse, .int h_bodies, .int h_joints, .int h_breath, .int h_stride, .int h_day]))] H → va_D A [(qa, .inr (8, [.ref qa_minute, .ref qa_body, .int q_passings, .ref qa_spotX, .ref qa_spotY, .int q_spots, .ref qa_order])), (qa_spotX, .inl (cy 0, 6, .inl qf_spotX)), (qa_spotY, .inl (cy 0, 6, .inl qf_spotY)), (qa_order, .inl (cy 0, 6, .inl k7qqf_order)), (ha, .inr (4, [.ref ha_x, .ref ha_y, .ref ha_holds, .ref ha_needs, .ref ha_harm, .ref ha_worth, .ref ha_joint, .ref ha_habit, .ref ha_sleepsFrom, .ref ha_sleepsTo, .ref ha_criesDrifted, .ref ha_criesElse, .int h_bodies, .int h_joints, .int h_breath, .int h_stride, .int h_day]))] → va_S A s.heap H locs → lv_has ls 7 [(5, .int k7qy5), (4, .int k7qy4), (3, .int k7qy3), (0, .ref qa), (1, .ref ha), (2, .int w0)] → W p l e ({ frames := 12, cells := 0, slots := 0, locals := 420 }) s m ([.ref qa, .ref ha, .int w0] : List Value).toArray below meth c H locs 0 0 Q0 (F0 m 38 ls []) := by
          intro n
          induction n using Nat.strongRecOn with
          | ind n k7qih =>
            intro k7qy3 k7qy4 k7qy5 k7qqf_order H locs ls hk7qy5 hk7qqf_order k7qm hP hD hS hl
            have gk7qy3 := k_rng k7qy3
            have gk7qy4 := k_rng k7qy4
            refine lv_iload hx hb dX6_placing_38 (lv_at hl 0 rfl) ?_
            refine lv_if_le (tgt := 79) hx hb dX6_placing_40 (by decide) (fun c8q => ?_) (fun c8q => ?_)
            · simp only [k_lt, k_le, k_eq, ne_eq, ge_iff_le, gt_iff_lt, n_L0, n_L0] at c8q
              refine lv_iload_n hx hb dX6_placing_79 rfl (lv_at hl 5 rfl) ?_
              refine lv_if_eq (tgt := 87) hx hb dX6_placing_80 (by decide) (fun c9q => ?_) (fun c9q => ?_)
              · simp only [k_lt, k_le, k_eq, ne_eq, ge_iff_le, gt_iff_lt, n_L0, n_L0] at c9q
                refine lv_iload hx hb dX6_placing_87 (lv_at hl 1 rfl) ?_
                rw [hQ0]
                exact k_iret (fun k => [].getD k 0, fun k => [k7qqf_order].getD k (fun _ => 0)) hx hb hr hlk ((show rowR 6 0 (5) k7qqf_order from hk7qqf_order)) (hP.sub [0, 1, 2, 3, 4] rfl) (hD.sub [0, 1, 2, 3, 4] (by decide) rfl) hS (by decide) (by decide) dX6_placing_89
              · simp only [k_lt, k_le, k_eq, ne_eq, ge_iff_le, gt_iff_lt, n_L0, n_L0] at c9q
                refine lv_iload_n hx hb dX6_placing_83 rfl (lv_at hl 2 rfl) ?_
                refine lv_goto (tgt := 89) hx hb dX6_placing_84 (by decide) ?_
                rw [hQ0]
                exact k_iret (fun k => [].getD k 0, fun k => [k7qqf_order].getD k (fun _ => 0)) hx hb hr hlk ((show rowR 6 0 (5) k7qqf_order from hk7qqf_order)) (hP.sub [0, 1, 2, 3, 4] rfl) (hD.sub [0, 1, 2, 3, 4] (by decide) rfl) hS (by decide) (by decide) dX6_placing_89
            · simp only [k_lt, k_le, k_eq, ne_eq, ge_iff_le, gt_iff_lt, n_L0, n_L0] at c8q
              refine lv_aload_n hx hb dX6_placing_43 rfl (lv_at hl 3 rfl) ?_
              refine k_cali [1, 2, 4] (⟨hP, hD, hG, hS, hA, rfl, rfl⟩ : kAt D cy sa A s H _ _ [(qa, .inr (8, [.ref qa_minute, .ref qa_body, .int q_passings, .ref qa_spotX, .ref qa_spotY, .int q_spots, .ref qa_order])), (qa_order, .inl (cy 0, 6, .inl k7qqf_order))] [0, 3]) (wr := [(qa_spotX, .inl (cy 0, 6, .inl qf_spotX)), (qa_spotY, .inl (cy 0, 6, .inl qf_spotY)), (ha, .inr (4, [.ref ha_x, .ref ha_y, .ref ha_holds, .ref ha_needs, .ref ha_harm, .ref ha_worth, .ref ha_joint, .ref ha_habit, .ref ha_sleepsFrom, .ref ha_sleepsTo, .ref ha_criesDrifted, .ref ha_criesElse, .int h_bodies, .int h_joints, .int h_breath, .int h_stride, .int h_day]))]) rfl rfl (by decide) (k_runV 8 0 (As := []) (rest := []) E lk_VRX6_48 rfl rfl rfl (c_nextOrder l hl0 D cy sa qa qa_minute qa_body qa_spotX qa_spotY qa_order q_passings q_spots k7qqf_order ⟨by omega, by omega⟩ ⟨by omega, by omega⟩ hk7qqf_order H.size) (⟨hP, hD, hG, hS, hA, rfl, rfl⟩ : kAt D cy sa A s H _ _ [(qa, .inr (8, [.ref qa_minute, .ref qa_body, .int q_passings, .ref qa_spotX, .ref qa_spotY, .int q_spots, .ref qa_order])), (qa_order, .inl (cy 0, 6, .inl k7qqf_order))] [0, 3]) hl.1 rfl rfl ⟨rfl, rfl, ⟨Nat.le_of_ble_eq_true rfl, Nat.le_of_ble_eq_true rfl⟩, ⟨Nat.le_of_ble_eq_true rfl, Nat.le_of_ble_eq_true rfl⟩, Nat.le_of_ble_eq_true rfl⟩ dX6_placing_44) (fun r10q u11q H locs hwu11q hP hD hS => ?_)
              have hP : va_P D vwCl [(qa_spotX, .inl (cy 0, 6, .inl qf_spotX)), (qa_spotY, .inl (cy 0, 6, .inl qf_spotY)), (ha, .inr (4, [.ref ha_x, .ref ha_y, .ref ha_holds, .ref ha_needs, .ref ha_harm, .ref ha_worth, .ref ha_joint, .ref ha_habit, .ref ha_sleepsFrom, .ref ha_sleepsTo, .ref ha_criesDrifted, .ref ha_criesElse, .int h_bodies, .int h_joints, .int h_breath, .int h_stride, .int h_day])), (qa, .inr (8, [.ref qa_minute, .ref qa_body, .int q_passings, .ref qa_spotX, .ref qa_spotY, .int q_spots, .ref qa_order])), (qa_order, .inl (cy 0, 6, .inl ((u11q.2 0))))] H := hP
              have hD : va_D A [(qa_spotX, .inl (cy 0, 6, .inl qf_spotX)), (qa_spotY, .inl (cy 0, 6, .inl qf_spotY)), (ha, .inr (4, [.ref ha_x, .ref ha_y, .ref ha_holds, .ref ha_needs, .ref ha_harm, .ref ha_worth, .ref ha_joint, .ref ha_habit, .ref ha_sleepsFrom, .ref ha_sleepsTo, .ref ha_criesDrifted, .ref ha_criesElse, .int h_bodies, .int h_joints, .int h_breath, .int h_stride, .int h_day])), (qa, .inr (8, [.ref qa_minute, .ref qa_body, .int q_passings, .ref qa_spotX, .ref qa_spotY, .int q_spots, .ref qa_order])), (qa_order, .inl (cy 0, 6, .inl ((u11q.2 0))))] := hD
              obtain ⟨p12q, p13q⟩ := hwu11q
              refine lv_if_eq (tgt := 79) hx hb dX6_placing_47 (by decide) (fun c14q => ?_) (fun c14q => ?_)
              · simp only [k_lt, k_le, k_eq, ne_eq, ge_iff_le, gt_iff_lt, n_L0, n_L0] at c14q
                refine lv_iload_n hx hb dX6_placing_79 rfl (lv_at hl 5 rfl) ?_
                refine lv_if_eq (tgt := 87) hx hb dX6_placing_80 (by decide) (fun c15q => ?_) (fun c15q => ?_)
                · simp only [k_lt, k_le, k_eq, ne_eq, ge_iff_le, gt_iff_lt, n_L0, n_L0] at c15q
                  refine lv_iload hx hb dX6_placing_87 (lv_at hl 1 rfl) ?_
                  rw [hQ0]
                  exact k_iret (fun k => [].getD k 0, fun k => [(u11q.2 0)].getD k (fun _ => 0)) hx hb hr hlk ((show rowR 6 0 (5) ((u11q.2 0)) from p13q)) (hP.sub [3, 0, 1, 4, 2] rfl) (hD.sub [3, 0, 1, 4, 2] (by decide) rfl) hS (by decide) (by decide) dX6_placing_89
                · simp only [k_lt, k_le, k_eq, ne_eq, ge_iff_le, gt_iff_lt, n_L0, n_L0] at c15q
                  refine lv_iload_n hx hb dX6_placing_83 rfl (lv_at hl 2 rfl) ?_
                  refine lv_goto (tgt := 89) hx hb dX6_placing_84 (by decide) ?_
                  rw [hQ0]
                  exact k_iret (fun k => [].getD k 0, fun k => [(u11q.2 0)].getD k (fun _ => 0)) hx hb hr hlk ((show rowR 6 0 (5) ((u11q.2 0)) from p13q)) (hP.sub [3, 0, 1, 4, 2] rfl) (hD.sub [3, 0, 1, 4, 2] (by decide) rfl) hS (by decide) (by decide) dX6_placing_89
              · simp only [k_lt, k_le, k_eq, ne_eq, ge_iff_le, gt_iff_lt, n_L0, n_L0] at c14q
                refine lv_aload_n hx hb dX6_placing_50 rfl (lv_at hl 3 rfl) ?_
                refine lv_aload_n hx hb dX6_placing_51 rfl (lv_at hl 4 rfl) ?_
                refine k_cali [] (⟨hP, hD, hG, hS, hA, rfl, rfl⟩ : kAt D cy sa A s H _ _ [(qa, .inr (8, [.ref qa_minute, .ref qa_body, .int q_passings, .ref qa_spotX, .ref qa_spotY, .int q_spots, .ref qa_order])), (qa_spotX, .inl (cy 0, 6, .inl qf_spotX)), (qa_spotY, .inl (cy 0, 6, .inl qf_spotY)), (qa_order, .inl (cy 0, 6, .inl ((u11q.2 0)))), (ha, .inr (4, [.ref ha_x, .ref ha_y, .ref ha_holds, .ref ha_needs, .ref ha_harm, .ref ha_worth, .ref ha_joint, .ref ha_habit, .ref ha_sleepsFrom, .ref ha_sleepsTo, .ref ha_criesDrifted, .ref ha_criesElse, .int h_bodies, .int h_joints, .int h_breath, .int h_stride, .int h_day]))] [3, 0, 1, 4, 2]) (wr := []) rfl rfl (by decide) (k_runV 8 3 (As := [.ref ha]) (rest := []) E lk_VRX6_44 rfl rfl rfl (c_costOfOrder l hl0 D cy sa qa qa_minute qa_body qa_spotX qa_spotY qa_order ha ha_x ha_y ha_holds ha_needs ha_harm ha_worth ha_joint ha_habit ha_sleepsFrom ha_sleepsTo ha_criesDrifted ha_criesElse q_passings q_spots h_bodies h_joints h_breath h_stride h_day qf_spotX qf_spotY ((u11q.2 0)) ⟨by omega, by omega⟩ ⟨by omega, by omega⟩ h_qf_spotX h_qf_spotY p13q ⟨by omega, by omega⟩ ⟨by omega, by omega⟩ ⟨by omega, by omega⟩ H.size) (⟨hP, hD, hG, hS, hA, rfl, rfl⟩ : kAt D cy sa A s H _ _ [(qa, .inr (8, [.ref qa_minute, .ref qa_body, .int q_passings, .ref qa_spotX, .ref qa_spotY, .int q_spots, .ref qa_order])), (qa_spotX, .inl (cy 0, 6, .inl qf_spotX)), (qa_spotY, .inl (cy 0, 6, .inl qf_spotY)), (qa_order, .inl (cy 0, 6, .inl ((u11q.2 0)))), (ha, .inr (4, [.ref ha_x, .ref ha_y, .ref ha_holds, .ref ha_needs, .ref ha_harm, .ref ha_worth, .ref ha_joint, .ref ha_habit, .ref ha_sleepsFrom, .ref ha_sleepsTo, .ref ha_criesDrifted, .ref ha_criesElse, .int h_bodies, .int h_joints, .int h_breath, .int h_stride, .int h_day]))] [3, 0, 1, 4, 2]) hl.1 rfl rfl ⟨rfl, rfl, ⟨Nat.le_of_ble_eq_true rfl, Nat.le_of_ble_eq_true rfl⟩, ⟨Nat.le_of_ble_eq_true rfl, Nat.le_of_ble_eq_true rfl⟩, Nat.le_of_ble_eq_true rfl⟩ dX6_placing_52) (fun r16q u17q H locs hwu17q hP hD hS => ?_)
                have hP : va_P D vwCl [(qa, .inr (8, [.ref qa_minute, .ref qa_body, .int q_passings, .ref qa_spotX, .ref qa_spotY, .int q_spots, .ref qa_order])), (qa_spotX, .inl (cy 0, 6, .inl qf_spotX)), (qa_spotY, .inl (cy 0, 6, .inl qf_spotY)), (qa_order, .inl (cy 0, 6, .inl ((u11q.2 0)))), (ha, .inr (4, [.ref ha_x, .ref ha_y, .ref ha_holds, .ref ha_needs, .ref ha_harm, .ref ha_worth, .ref ha_joint, .ref ha_habit, .ref ha_sleepsFrom, .ref ha_sleepsTo, .ref ha_criesDrifted, .ref ha_criesElse, .int h_bodies, .int h_joints, .int h_breath, .int h_stride, .int h_day]))] H := hP
                have hD : va_D A [(qa, .inr (8, [.ref qa_minute, .ref qa_body, .int q_passings, .ref qa_spotX, .ref qa_spotY, .int q_spots, .ref qa_order])), (qa_spotX, .inl (cy 0, 6, .inl qf_spotX)), (qa_spotY, .inl (cy 0, 6, .inl qf_spotY)), (qa_order, .inl (cy 0, 6, .inl ((u11q.2 0)))), (ha, .inr (4, [.ref ha_x, .ref ha_y, .ref ha_holds, .ref ha_needs, .ref ha_harm, .ref ha_worth, .ref ha_joint, .ref ha_habit, .ref ha_sleepsFrom, .ref ha_sleepsTo, .ref ha_criesDrifted, .ref ha_criesElse, .int h_bodies, .int h_joints, .int h_breath, .int h_stride, .int h_day]))] := hD
                refine lv_istore (lv' := [(6, .int r16q), (5, .int k7qy5), (4, .int k7qy4), (3, .int k7qy3), (0, .ref qa), (1, .ref ha), (2, .int w0)]) hx hb dX6_placing_55 hl (by decide) rfl (fun ls hl => ?_)
                refine lv_iload hx hb dX6_placing_57 (lv_at hl 0 rfl) ?_
                refine lv_iload hx hb dX6_placing_59 (lv_at hl 2 rfl) ?_
                refine lv_icmp_ge (tgt := 73) hx hb dX6_placing_61 (by decide) (fun c18q => ?_) (fun c18q => ?_)
                · simp only [k_lt, k_le, k_eq, ne_eq, ge_iff_le, gt_iff_lt] at c18q
                  obtain ⟨x19q, ex19q⟩ : ∃ z : Int32, z = k7qy5 + (-1) := ⟨_, rfl⟩
                  refine lv_iinc (v := x19q) (lv' := [(5, .int x19q), (6, .int r16q), (4, .int k7qy4), (3, .int k7qy3), (0, .ref qa), (1, .ref ha), (2, .int w0)]) hx hb dX6_placing_73 hl (k := 1) rfl (by rw [ex19q]; rfl) (by decide) rfl (fun ls hl => ?_)
                  have rx19q := n_add ex19q (a := k7qy5.toInt) (b := (-1)) rfl n_Lm1 (by omega) (by omega)
                  refine lv_goto (tgt := 38) hx hb dX6_placing_76 (by decide) ?_
                  exact k7qih ((x19q.toInt).toNat) (by omega) k7qy3 k7qy4 x19q (u11q.2 0) H locs ls ⟨by omega, by omega⟩ p13q rfl hP hD hS (lv_sub hl [0, 2, 3, 4, 5, 6] rfl)
                · simp only [k_lt, k_le, k_eq, ne_eq, ge_iff_le, gt_iff_lt] at c18q
                  refine lv_iload hx hb dX6_placing_64 (lv_at hl 0 rfl) ?_
                  refine lv_istore (lv' := [(4, .int r16q), (6, .int r16q), (5, .int k7qy5), (3, .int k7qy3), (0, .ref qa), (1, .ref ha), (2, .int w0)]) hx hb dX6_placing_66 hl (by decide) rfl (fun ls hl => ?_)
                  refine lv_aload_n hx hb dX6_placing_68 rfl (lv_at hl 4 rfl) ?_
                  refine k_cali [1, 2, 4] (⟨hP, hD, hG, hS, hA, rfl, rfl⟩ : kAt D cy sa A s H _ _ [(qa, .inr (8, [.ref qa_minute, .ref qa_body, .int q_passings, .ref qa_spotX, .ref qa_spotY, .int q_spots, .ref qa_order])), (qa_order, .inl (cy 0, 6, .inl ((u11q.2 0))))] [0, 3]) (wr := [(qa_spotX, .inl (cy 0, 6, .inl qf_spotX)), (qa_spotY, .inl (cy 0, 6, .inl qf_spotY)), (ha, .inr (4, [.ref ha_x, .ref ha_y, .ref ha_holds, .ref ha_needs, .ref ha_harm, .ref ha_worth, .ref ha_joint, .ref ha_habit, .ref ha_sleepsFrom, .ref ha_sleepsTo, .ref ha_criesDrifted, .ref ha_criesElse, .int h_bodies, .int h_joints, .int h_breath, .int h_stride, .int h_day]))]) rfl rfl (by decide) (k_runV 8 0 (As := []) (rest := []) E lk_VRX6_40 rfl rfl rfl (c_digits l hl0 D cy sa qa qa_minute qa_body qa_spotX qa_spotY qa_order q_passings q_spots ((u11q.2 0)) ⟨by omega, by omega⟩ ⟨by omega, by omega⟩ p13q H.size) (⟨hP, hD, hG, hS, hA, rfl, rfl⟩ : kAt D cy sa A s H _ _ [(qa, .inr (8, [.ref qa_minute, .ref qa_body, .int q_passings, .ref qa_spotX, .ref qa_spotY, .int q_spots, .ref qa_order])), (qa_order, .inl (cy 0, 6, .inl ((u11q.2 0))))] [0, 3]) hl.1 rfl rfl ⟨rfl, rfl, ⟨Nat.le_of_ble_eq_true rfl, Nat.le_of_ble_eq_true rfl⟩, ⟨Nat.le_of_ble_eq_true rfl, Nat.le_of_ble_eq_true rfl⟩, Nat.le_of_ble_eq_true rfl⟩ dX6_placing_69) (fun r20q u21q H locs hwu21q hP hD hS => ?_)
                  have hP : va_P D vwCl [(qa_spotX, .inl (cy 0, 6, .inl qf_spotX)), (qa_spotY, .inl (cy 0, 6, .inl qf_spotY)), (ha, .inr (4, [.ref ha_x, .ref ha_y, .ref ha_holds, .ref ha_needs, .ref ha_harm, .ref ha_worth, .ref ha_joint, .ref ha_habit, .ref ha_sleepsFrom, .ref ha_sleepsTo, .ref ha_criesDrifted, .ref ha_criesElse, .int h_bodies, .int h_joints, .int h_breath, .int h_stride, .int h_day])), (qa, .inr (8, [.ref qa_minute, .ref qa_body, .int q_passings, .ref qa_spotX, .ref qa_spotY, .int q_spots, .ref qa_order])), (qa_order, .inl (cy 0, 6, .inl ((u11q.2 0))))] H := hP
                  have hD : va_D A [(qa_spotX, .inl (cy 0, 6, .inl qf_spotX)), (qa_spotY, .inl (cy 0, 6, .inl qf_spotY)), (ha, .inr (4, [.ref ha_x, .ref ha_y, .ref ha_holds, .ref ha_needs, .ref ha_harm, .ref ha_worth, .ref ha_joint, .ref ha_habit, .ref ha_sleepsFrom, .ref ha_sleepsTo, .ref ha_criesDrifted, .ref ha_criesElse, .int h_bodies, .int h_joints, .int h_breath, .int h_stride, .int h_day])), (qa, .inr (8, [.ref qa_minute, .ref qa_body, .int q_passings, .ref qa_spotX, .ref qa_spotY, .int q_spots, .ref qa_order])), (qa_order, .inl (cy 0, 6, .inl ((u11q.2 0))))] := hD
                  refine lv_istore_n (lv' := [(3, .int r20q), (4, .int r16q), (6, .int r16q), (5, .int k7qy5), (0, .ref qa), (1, .ref ha), (2, .int w0)]) hx hb dX6_placing_72 rfl hl (by decide) rfl (fun ls hl => ?_)
                  obtain ⟨x22q, ex22q⟩ : ∃ z : Int32, z = k7qy5 + (-1) := ⟨_, rfl⟩
                  refine lv_iinc (v := x22q) (lv' := [(5, .int x22q), (3, .int r20q), (4, .int r16q), (6, .int r16q), (0, .ref qa), (1, .ref ha), (2, .int w0)]) hx hb dX6_placing_73 hl (k := 3) rfl (by rw [ex22q]; rfl) (by decide) rfl (fun ls hl => ?_)
                  have rx22q := n_add ex22q (a := k7qy5.toInt) (b := (-1)) rfl n_Lm1 (by omega) (by omega)
                  refine lv_goto (tgt := 38) hx hb dX6_placing_76 (by decide) ?_
                  exact k7qih ((x22q.toInt).toNat) (by omega) r20q r16q x22q (u11q.2 0) H locs ls ⟨by omega, by omega⟩ p13q rfl (hP.sub [3, 0, 1, 4, 2] rfl) (hD.sub [3, 0, 1, 4, 2] (by decide) rfl) hS (lv_sub hl [0, 2, 1, 4, 5, 6] rfl)
        exact k7q _ r3q r5q 720 k1qqf_order H locs ls ⟨by rw [n_L720]; omega, by rw [n_L720]; omega⟩ hk1qqf_order rfl hP hD hS (lv_sub hl [0, 1, 2, 3, 4, 5] rfl)
      · simp only [k_lt, k_le, k_eq, ne_eq, ge_iff_le, gt_iff_lt, n_L6] at c2q
        refine lv_aload_n hx hb dX6_placing_8 rfl (lv_at hl 1 rfl) ?_
        refine va_get (D := D) (ci := 8) (v := .ref qa_order) (C := RX6) (T := TX6) (N := 7) hx hb hts kin_RX6 hown hG.1 hP 0 rfl rfl 6 (by decide) (hts _ wm_247) (fun _ h9 => h9) rfl dX6_placing_9 ?_
        refine lv_iload_n hx hb dX6_placing_12 rfl (lv_at hl 0 rfl) ?_
        refine lv_iload_n hx hb dX6_placing_13 rfl (lv_at hl 0 rfl) ?_
        refine va_iast hx hb hG.1 hP hD hS 3 0 rfl rfl (n_in (by omega) (by omega)) dX6_placing_14 (fun H locs hP hD hS => ?_)
        have hP : va_P D vwCl [(qa, .inr (8, [.ref qa_minute, .ref qa_body, .int q_passings, .ref qa_spotX, .ref qa_spotY, .int q_spots, .ref qa_order])), (qa_spotX, .inl (cy 0, 6, .inl qf_spotX)), (qa_spotY, .inl (cy 0, 6, .inl qf_spotY)), (qa_order, .inl (cy 0, 6, .inl (upd (k1qqf_order) (k1qy3 : Int32).toNatClampNeg k1qy3))), (ha, .inr (4, [.ref ha_x, .ref ha_y, .ref ha_holds, .ref ha_needs, .ref ha_harm, .ref ha_worth, .ref ha_joint, .ref ha_habit, .ref ha_sleepsFrom, .ref ha_sleepsTo, .ref ha_criesDrifted, .ref ha_criesElse, .int h_bodies, .int h_joints, .int h_breath, .int h_stride, .int h_day]))] H := hP
        have hD : va_D A [(qa, .inr (8, [.ref qa_minute, .ref qa_body, .int q_passings, .ref qa_spotX, .ref qa_spotY, .int q_spots, .ref qa_order])), (qa_spotX, .inl (cy 0, 6, .inl qf_spotX)), (qa_spotY, .inl (cy 0, 6, .inl qf_spotY)), (qa_order, .inl (cy 0, 6, .inl (upd (k1qqf_order) (k1qy3 : Int32).toNatClampNeg k1qy3))), (ha, .inr (4, [.ref ha_x, .ref ha_y, .ref ha_holds, .ref ha_needs, .ref ha_harm, .ref ha_worth, .ref ha_joint, .ref ha_habit, .ref ha_sleepsFrom, .ref ha_sleepsTo, .ref ha_criesDrifted, .ref ha_criesElse, .int h_bodies, .int h_joints, .int h_breath, .int h_stride, .int h_day]))] := hD
        have hf23q : rowR 6 0 (5) (upd (k1qqf_order) (k1qy3 : Int32).toNatClampNeg k1qy3) := rowR_upd hk1qqf_order (by omega) (by omega)
        generalize upd (k1qqf_order) (k1qy3 : Int32).toNatClampNeg k1qy3 = f23q at hP hD hf23q
        have hP : va_P D vwCl [(qa, .inr (8, [.ref qa_minute, .ref qa_body, .int q_passings, .ref qa_spotX, .ref qa_spotY, .int q_spots, .ref qa_order])), (qa_spotX, .inl (cy 0, 6, .inl qf_spotX)), (qa_spotY, .inl (cy 0, 6, .inl qf_spotY)), (qa_order, .inl (cy 0, 6, .inl f23q)), (ha, .inr (4, [.ref ha_x, .ref ha_y, .ref ha_holds, .ref ha_needs, .ref ha_harm, .ref ha_worth, .ref ha_joint, .ref ha_habit, .ref ha_sleepsFrom, .ref ha_sleepsTo, .ref ha_criesDrifted, .ref ha_criesElse, .int h_bodies, .int h_joints, .int h_breath, .int h_stride, .int h_day]))] H := hP
        have hD : va_D A [(qa, .inr (8, [.ref qa_minute, .ref qa_body, .int q_passings, .ref qa_spotX, .ref qa_spotY, .int q_spots, .ref qa_order])), (qa_spotX, .inl (cy 0, 6, .inl qf_spotX)), (qa_spotY, .inl (cy 0, 6, .inl qf_spotY)), (qa_order, .inl (cy 0, 6, .inl f23q)), (ha, .inr (4, [.ref ha_x, .ref ha_y, .ref ha_holds, .ref ha_needs, .ref ha_harm, .ref ha_worth, .ref ha_joint, .ref ha_habit, .ref ha_sleepsFrom, .ref ha_sleepsTo, .ref ha_criesDrifted, .ref ha_criesElse, .int h_bodies, .int h_joints, .int h_breath, .int h_stride, .int h_day]))] := hD
        obtain ⟨x24q, ex24q⟩ : ∃ z : Int32, z = k1qy3 + 1 := ⟨_, rfl⟩
        refine lv_iinc (v := x24q) (lv' := [(3, .int x24q), (0, .ref qa), (1, .ref ha), (2, .int w0)]) hx hb dX6_placing_15 hl (k := 0) rfl (by rw [ex24q]; rfl) (by decide) rfl (fun ls hl => ?_)
        have rx24q := n_add ex24q (a := k1qy3.toInt) (b := 1) rfl n_L1 (by omega) (by omega)
        refine lv_goto (tgt := 2) hx hb dX6_placing_18 (by decide) ?_
        exact k1qih ((6 - x24q.toInt).toNat) (by omega) x24q f23q H locs ls ⟨by omega, by omega⟩ hf23q rfl hP hD hS (lv_sub hl [0, 1, 2, 3] rfl)
  exact k1q _ 0 qf_order H locs ls ⟨by rw [n_L0]; omega, by rw [n_L0]; omega⟩ h_qf_order rfl hP hD hS (lv_sub hl [0, 1, 2, 3] rfl)
