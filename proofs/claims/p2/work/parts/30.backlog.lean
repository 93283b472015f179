theorem n_L100 : (100 : Int32).toInt = 100 := by decide
theorem wm_400 : Cond.fieldLink RX0 26 "LentMinds$Backlog" "few" "LLentMinds$Few;" ∈ kWS := kws_at 400 (by decide +kernel) (by decide +kernel)
theorem wm_346 : Cond.fieldLink RX0 50 "LentMinds$Few" "size" "I" ∈ kWS := kws_at 346 (by decide +kernel) (by decide +kernel)
theorem wm_402 : Cond.fieldLink RX0 15 "LentMinds$Backlog" "without" "[I" ∈ kWS := kws_at 402 (by decide +kernel) (by decide +kernel)
theorem wm_1466 : Cond.methodLink RX0 30 Lib.Math.min.name ∈ kWS := kws_at 1466 (by decide +kernel) (by decide +kernel)
theorem wm_339 : Cond.fieldLink RX0 65 "LentMinds$Few" "hold" "[I" ∈ kWS := kws_at 339 (by decide +kernel) (by decide +kernel)
theorem wm_1481 : Cond.methodLink RX0 68 Lib.Math.max.name ∈ kWS := kws_at 1481 (by decide +kernel) (by decide +kernel)
theorem wm_343 : Cond.fieldLink RX0 71 "LentMinds$Few" "harm" "[I" ∈ kWS := kws_at 343 (by decide +kernel) (by decide +kernel)
theorem wm_1476 : Cond.methodLink RX0 55 yX1_costOf ∈ kWS := kws_at 1476 (by decide +kernel) (by decide +kernel)
theorem lk_VRX0_55 : kLV RX0 55 yX1_costOf (Cond.code yX1_costOf cX1_costOf 3 (some .int)) 2 := ⟨wm_1476, wm_877, wm_878, wm_9, wm_879, ⟨by decide +kernel, by decide +kernel, by decide +kernel⟩⟩
theorem wm_403 : Cond.fieldLink RX0 18 "LentMinds$Backlog" "minutes" "I" ∈ kWS := kws_at 403 (by decide +kernel) (by decide +kernel)
theorem wm_1480 : Cond.code yX0_harmOfStep cX0_harmOfStep 8 (some .int) ∈ kWS := kws_at 1480 (by decide +kernel) (by decide +kernel)
theorem wm_1477 : Cond.methodLink RX0 58 yX0_harmOfStep ∈ kWS := kws_at 1477 (by decide +kernel) (by decide +kernel)
theorem wm_s40 : Cond.selects RX0 yX0_harmOfStep yX0_harmOfStep ∈ kWS := kws_sel 40 (by decide +kernel) (by decide +kernel)
theorem wm_1479 : Cond.instanceMethod yX0_harmOfStep ∈ kWS := kws_at 1479 (by decide +kernel) (by decide +kernel)
theorem wm_11 : Cond.initialized RX0 ∈ kWS := kws_at 11 (by decide +kernel) (by decide +kernel)
theorem lk_VRX0_58 : kLV RX0 58 yX0_harmOfStep (Cond.code yX0_harmOfStep cX0_harmOfStep 8 (some .int)) 3 := ⟨wm_1477, wm_1479, wm_s40, wm_11, wm_1480, ⟨by decide +kernel, by decide +kernel, by decide +kernel⟩⟩
theorem n_L300 : (300 : Int32).toInt = 300 := by decide
theorem wm_1485 : Cond.code yX0_stateBehind cX0_stateBehind 5 (some .int) ∈ kWS := kws_at 1485 (by decide +kernel) (by decide +kernel)
theorem wm_1482 : Cond.methodLink RX0 62 yX0_stateBehind ∈ kWS := kws_at 1482 (by decide +kernel) (by decide +kernel)
theorem wm_s41 : Cond.selects RX0 yX0_stateBehind yX0_stateBehind ∈ kWS := kws_sel 41 (by decide +kernel) (by decide +kernel)
theorem wm_1484 : Cond.instanceMethod yX0_stateBehind ∈ kWS := kws_at 1484 (by decide +kernel) (by decide +kernel)
theorem lk_VRX0_62 : kLV RX0 62 yX0_stateBehind (Cond.code yX0_stateBehind cX0_stateBehind 5 (some .int)) 2 := ⟨wm_1482, wm_1484, wm_s41, wm_11, wm_1485, ⟨by decide +kernel, by decide +kernel, by decide +kernel⟩⟩
theorem wm_401 : Cond.fieldLink RX0 11 "LentMinds$Backlog" "least" "[I" ∈ kWS := kws_at 401 (by decide +kernel) (by decide +kernel)
theorem wm_404 : Cond.fieldLink RX0 23 "LentMinds$Backlog" "found" "I" ∈ kWS := kws_at 404 (by decide +kernel) (by decide +kernel)
theorem n_L40 : (40 : Int32).toInt = 40 := by decide
theorem wm_399 : Cond.constant RX0 22 (1000000000) ∈ kWS := kws_at 399 (by decide +kernel) (by decide +kernel)
theorem n_L1000000000 : (1000000000 : Int32).toInt = 1000000000 := by decide
theorem wm_1467 : Cond.methodLink RX0 36 yJ7_fill_53178 ∈ kWS := kws_at 1467 (by decide +kernel) (by decide +kernel)
theorem lk_SRX0_36 : kLS RX0 36 yJ7_fill_53178 (Cond.code yJ7_fill_53178 cJ7_fill_53178 4 none) 2 := ⟨wm_1467, wm_1031, wm_24, wm_1032, ⟨by decide +kernel, by decide +kernel, by decide +kernel⟩⟩
theorem wm_1471 : Cond.code yX0_takeApart cX0_takeApart 5 none ∈ kWS := kws_at 1471 (by decide +kernel) (by decide +kernel)
theorem wm_1468 : Cond.methodLink RX0 42 yX0_takeApart ∈ kWS := kws_at 1468 (by decide +kernel) (by decide +kernel)
theorem wm_s38 : Cond.selects RX0 yX0_takeApart yX0_takeApart ∈ kWS := kws_sel 38 (by decide +kernel) (by decide +kernel)
theorem wm_1470 : Cond.instanceMethod yX0_takeApart ∈ kWS := kws_at 1470 (by decide +kernel) (by decide +kernel)
theorem lk_VRX0_42 : kLV RX0 42 yX0_takeApart (Cond.code yX0_takeApart cX0_takeApart 5 none) 1 := ⟨wm_1468, wm_1470, wm_s38, wm_11, wm_1471, ⟨by decide +kernel, by decide +kernel, by decide +kernel⟩⟩
theorem wm_1475 : Cond.code yX0_goOn cX0_goOn 9 none ∈ kWS := kws_at 1475 (by decide +kernel) (by decide +kernel)
theorem wm_1472 : Cond.methodLink RX0 46 yX0_goOn ∈ kWS := kws_at 1472 (by decide +kernel) (by decide +kernel)
theorem wm_s39 : Cond.selects RX0 yX0_goOn yX0_goOn ∈ kWS := kws_sel 39 (by decide +kernel) (by decide +kernel)
theorem wm_1474 : Cond.instanceMethod yX0_goOn ∈ kWS := kws_at 1474 (by decide +kernel) (by decide +kernel)
theorem lk_VRX0_46 : kLV RX0 46 yX0_goOn (Cond.code yX0_goOn cX0_goOn 9 none) 3 := ⟨wm_1472, wm_1474, wm_s39, wm_11, wm_1475, ⟨by decide +kernel, by decide +kernel, by decide +kernel⟩⟩
theorem wm_1494 : Cond.methodLink RX0 74 yX1_has ∈ kWS := kws_at 1494 (by decide +kernel) (by decide +kernel)
theorem lk_VRX0_74 : kLV RX0 74 yX1_has (Cond.code yX1_has cX1_has 2 (some .boolean)) 1 := ⟨wm_1494, wm_861, wm_862, wm_9, wm_863, ⟨by decide +kernel, by decide +kernel, by decide +kernel⟩⟩
theorem wm_336 : Cond.fieldLink RX0 78 "LentMinds$Few" "who" "[I" ∈ kWS := kws_at 336 (by decide +kernel) (by decide +kernel)
theorem dX0_takeApart_0 : decode cX0_takeApart 0 = .ok (.iload_n 1, 1) := by decide +kernel
theorem dX0_takeApart_1 : decode cX0_takeApart 1 = .ok (.bipush 100, 2) := by decide +kernel
theorem dX0_takeApart_3 : decode cX0_takeApart 3 = .ok (.idiv, 1) := by decide +kernel
theorem dX0_takeApart_4 : decode cX0_takeApart 4 = .ok (.istore_n 2, 1) := by decide +kernel
theorem dX0_takeApart_5 : decode cX0_takeApart 5 = .ok (.iload_n 1, 1) := by decide +kernel
theorem dX0_takeApart_6 : decode cX0_takeApart 6 = .ok (.istore_n 3, 1) := by decide +kernel
theorem dX0_takeApart_7 : decode cX0_takeApart 7 = .ok (.aload_n 0, 1) := by decide +kernel
theorem dX0_takeApart_8 : decode cX0_takeApart 8 = .ok (.getfield 26, 3) := by decide +kernel
theorem dX0_takeApart_11 : decode cX0_takeApart 11 = .ok (.getfield 50, 3) := by decide +kernel
theorem dX0_takeApart_14 : decode cX0_takeApart 14 = .ok (.iconst 1, 1) := by decide +kernel
theorem dX0_takeApart_15 : decode cX0_takeApart 15 = .ok (.isub, 1) := by decide +kernel
theorem dX0_takeApart_16 : decode cX0_takeApart 16 = .ok (.istore 4, 2) := by decide +kernel
theorem dX0_takeApart_18 : decode cX0_takeApart 18 = .ok (.iload 4, 2) := by decide +kernel
theorem dX0_takeApart_20 : decode cX0_takeApart 20 = .ok (.ifCond .lt 45, 3) := by decide +kernel
theorem dX0_takeApart_23 : decode cX0_takeApart 23 = .ok (.aload_n 0, 1) := by decide +kernel
theorem dX0_takeApart_24 : decode cX0_takeApart 24 = .ok (.getfield 15, 3) := by decide +kernel
theorem dX0_takeApart_27 : decode cX0_takeApart 27 = .ok (.iload 4, 2) := by decide +kernel
theorem dX0_takeApart_29 : decode cX0_takeApart 29 = .ok (.iload 4, 2) := by decide +kernel
theorem dX0_takeApart_31 : decode cX0_takeApart 31 = .ok (.iload_n 2, 1) := by decide +kernel
theorem dX0_takeApart_32 : decode cX0_takeApart 32 = .ok (.if_icmp .ne 7, 3) := by decide +kernel
theorem dX0_takeApart_35 : decode cX0_takeApart 35 = .ok (.iconst 0, 1) := by decide +kernel
theorem dX0_takeApart_36 : decode cX0_takeApart 36 = .ok (.goto 7, 3) := by decide +kernel
theorem dX0_takeApart_39 : decode cX0_takeApart 39 = .ok (.iload_n 3, 1) := by decide +kernel
theorem dX0_takeApart_40 : decode cX0_takeApart 40 = .ok (.bipush 10, 2) := by decide +kernel
theorem dX0_takeApart_42 : decode cX0_takeApart 42 = .ok (.irem, 1) := by decide +kernel
theorem dX0_takeApart_43 : decode cX0_takeApart 43 = .ok (.iastore, 1) := by decide +kernel
theorem dX0_takeApart_44 : decode cX0_takeApart 44 = .ok (.iload 4, 2) := by decide +kernel
theorem dX0_takeApart_46 : decode cX0_takeApart 46 = .ok (.iload_n 2, 1) := by decide +kernel
theorem dX0_takeApart_47 : decode cX0_takeApart 47 = .ok (.if_icmp .ne 7, 3) := by decide +kernel
theorem dX0_takeApart_50 : decode cX0_takeApart 50 = .ok (.iload_n 3, 1) := by decide +kernel
theorem dX0_takeApart_51 : decode cX0_takeApart 51 = .ok (.goto 7, 3) := by decide +kernel
theorem dX0_takeApart_54 : decode cX0_takeApart 54 = .ok (.iload_n 3, 1) := by decide +kernel
theorem dX0_takeApart_55 : decode cX0_takeApart 55 = .ok (.bipush 10, 2) := by decide +kernel
theorem dX0_takeApart_57 : decode cX0_takeApart 57 = .ok (.idiv, 1) := by decide +kernel
theorem dX0_takeApart_58 : decode cX0_takeApart 58 = .ok (.istore_n 3, 1) := by decide +kernel
theorem dX0_takeApart_59 : decode cX0_takeApart 59 = .ok (.iinc 4 (-1), 3) := by decide +kernel
theorem dX0_takeApart_62 : decode cX0_takeApart 62 = .ok (.goto (-44), 3) := by decide +kernel
theorem dX0_takeApart_65 : decode cX0_takeApart 65 = .ok (.return_, 1) := by decide +kernel
theorem dX0_harmOfStep_0 : decode cX0_harmOfStep 0 = .ok (.iconst 0, 1) := by decide +kernel
theorem dX0_harmOfStep_1 : decode cX0_harmOfStep 1 = .ok (.istore 4, 2) := by decide +kernel
theorem dX0_harmOfStep_3 : decode cX0_harmOfStep 3 = .ok (.iconst 0, 1) := by decide +kernel
theorem dX0_harmOfStep_4 : decode cX0_harmOfStep 4 = .ok (.istore 5, 2) := by decide +kernel
theorem dX0_harmOfStep_6 : decode cX0_harmOfStep 6 = .ok (.iload 5, 2) := by decide +kernel
theorem dX0_harmOfStep_8 : decode cX0_harmOfStep 8 = .ok (.aload_n 0, 1) := by decide +kernel
theorem dX0_harmOfStep_9 : decode cX0_harmOfStep 9 = .ok (.getfield 26, 3) := by decide +kernel
theorem dX0_harmOfStep_12 : decode cX0_harmOfStep 12 = .ok (.getfield 50, 3) := by decide +kernel
theorem dX0_harmOfStep_15 : decode cX0_harmOfStep 15 = .ok (.if_icmp .ge 77, 3) := by decide +kernel
theorem dX0_harmOfStep_18 : decode cX0_harmOfStep 18 = .ok (.iload 5, 2) := by decide +kernel
theorem dX0_harmOfStep_20 : decode cX0_harmOfStep 20 = .ok (.iload_n 1, 1) := by decide +kernel
theorem dX0_harmOfStep_21 : decode cX0_harmOfStep 21 = .ok (.if_icmp .ne 7, 3) := by decide +kernel
theorem dX0_harmOfStep_24 : decode cX0_harmOfStep 24 = .ok (.iload_n 2, 1) := by decide +kernel
theorem dX0_harmOfStep_25 : decode cX0_harmOfStep 25 = .ok (.goto 6, 3) := by decide +kernel
theorem dX0_harmOfStep_28 : decode cX0_harmOfStep 28 = .ok (.iload_n 2, 1) := by decide +kernel
theorem dX0_harmOfStep_29 : decode cX0_harmOfStep 29 = .ok (.iconst 1, 1) := by decide +kernel
theorem dX0_harmOfStep_30 : decode cX0_harmOfStep 30 = .ok (.iadd, 1) := by decide +kernel
theorem dX0_harmOfStep_31 : decode cX0_harmOfStep 31 = .ok (.iload_n 3, 1) := by decide +kernel
theorem dX0_harmOfStep_32 : decode cX0_harmOfStep 32 = .ok (.invokestatic 30, 3) := by decide +kernel
theorem dX0_harmOfStep_35 : decode cX0_harmOfStep 35 = .ok (.istore 6, 2) := by decide +kernel
theorem dX0_harmOfStep_37 : decode cX0_harmOfStep 37 = .ok (.aload_n 0, 1) := by decide +kernel
theorem dX0_harmOfStep_38 : decode cX0_harmOfStep 38 = .ok (.getfield 26, 3) := by decide +kernel
theorem dX0_harmOfStep_41 : decode cX0_harmOfStep 41 = .ok (.getfield 65, 3) := by decide +kernel
theorem dX0_harmOfStep_44 : decode cX0_harmOfStep 44 = .ok (.iload 5, 2) := by decide +kernel
theorem dX0_harmOfStep_46 : decode cX0_harmOfStep 46 = .ok (.iaload, 1) := by decide +kernel
theorem dX0_harmOfStep_47 : decode cX0_harmOfStep 47 = .ok (.aload_n 0, 1) := by decide +kernel
theorem dX0_harmOfStep_48 : decode cX0_harmOfStep 48 = .ok (.getfield 15, 3) := by decide +kernel
theorem dX0_harmOfStep_51 : decode cX0_harmOfStep 51 = .ok (.iload 5, 2) := by decide +kernel
theorem dX0_harmOfStep_53 : decode cX0_harmOfStep 53 = .ok (.iaload, 1) := by decide +kernel
theorem dX0_harmOfStep_54 : decode cX0_harmOfStep 54 = .ok (.isub, 1) := by decide +kernel
theorem dX0_harmOfStep_55 : decode cX0_harmOfStep 55 = .ok (.iconst 0, 1) := by decide +kernel
theorem dX0_harmOfStep_56 : decode cX0_harmOfStep 56 = .ok (.invokestatic 68, 3) := by decide +kernel
theorem dX0_harmOfStep_59 : decode cX0_harmOfStep 59 = .ok (.istore 7, 2) := by decide +kernel
theorem dX0_harmOfStep_61 : decode cX0_harmOfStep 61 = .ok (.iload 4, 2) := by decide +kernel
theorem dX0_harmOfStep_63 : decode cX0_harmOfStep 63 = .ok (.aload_n 0, 1) := by decide +kernel
theorem dX0_harmOfStep_64 : decode cX0_harmOfStep 64 = .ok (.getfield 26, 3) := by decide +kernel
theorem dX0_harmOfStep_67 : decode cX0_harmOfStep 67 = .ok (.getfield 71, 3) := by decide +kernel
theorem dX0_harmOfStep_70 : decode cX0_harmOfStep 70 = .ok (.iload 5, 2) := by decide +kernel
theorem dX0_harmOfStep_72 : decode cX0_harmOfStep 72 = .ok (.iaload, 1) := by decide +kernel
theorem dX0_harmOfStep_73 : decode cX0_harmOfStep 73 = .ok (.iload 6, 2) := by decide +kernel
theorem dX0_harmOfStep_75 : decode cX0_harmOfStep 75 = .ok (.iload 7, 2) := by decide +kernel
theorem dX0_harmOfStep_77 : decode cX0_harmOfStep 77 = .ok (.isub, 1) := by decide +kernel
theorem dX0_harmOfStep_78 : decode cX0_harmOfStep 78 = .ok (.iconst 0, 1) := by decide +kernel
theorem dX0_harmOfStep_79 : decode cX0_harmOfStep 79 = .ok (.invokestatic 68, 3) := by decide +kernel
theorem dX0_harmOfStep_82 : decode cX0_harmOfStep 82 = .ok (.imul, 1) := by decide +kernel
theorem dX0_harmOfStep_83 : decode cX0_harmOfStep 83 = .ok (.iadd, 1) := by decide +kernel
theorem dX0_harmOfStep_84 : decode cX0_harmOfStep 84 = .ok (.istore 4, 2) := by decide +kernel
theorem dX0_harmOfStep_86 : decode cX0_harmOfStep 86 = .ok (.iinc 5 1, 3) := by decide +kernel
theorem dX0_harmOfStep_89 : decode cX0_harmOfStep 89 = .ok (.goto (-83), 3) := by decide +kernel
theorem dX0_harmOfStep_92 : decode cX0_harmOfStep 92 = .ok (.iload 4, 2) := by decide +kernel
theorem dX0_harmOfStep_94 : decode cX0_harmOfStep 94 = .ok (.ireturn, 1) := by decide +kernel
theorem dX0_stateBehind_0 : decode cX0_stateBehind 0 = .ok (.iconst 0, 1) := by decide +kernel
theorem dX0_stateBehind_1 : decode cX0_stateBehind 1 = .ok (.istore_n 3, 1) := by decide +kernel
theorem dX0_stateBehind_2 : decode cX0_stateBehind 2 = .ok (.iconst 0, 1) := by decide +kernel
theorem dX0_stateBehind_3 : decode cX0_stateBehind 3 = .ok (.istore 4, 2) := by decide +kernel
theorem dX0_stateBehind_5 : decode cX0_stateBehind 5 = .ok (.iload 4, 2) := by decide +kernel
theorem dX0_stateBehind_7 : decode cX0_stateBehind 7 = .ok (.aload_n 0, 1) := by decide +kernel
theorem dX0_stateBehind_8 : decode cX0_stateBehind 8 = .ok (.getfield 26, 3) := by decide +kernel
theorem dX0_stateBehind_11 : decode cX0_stateBehind 11 = .ok (.getfield 50, 3) := by decide +kernel
theorem dX0_stateBehind_14 : decode cX0_stateBehind 14 = .ok (.if_icmp .ge 47, 3) := by decide +kernel
theorem dX0_stateBehind_17 : decode cX0_stateBehind 17 = .ok (.iload 4, 2) := by decide +kernel
theorem dX0_stateBehind_19 : decode cX0_stateBehind 19 = .ok (.iload_n 1, 1) := by decide +kernel
theorem dX0_stateBehind_20 : decode cX0_stateBehind 20 = .ok (.if_icmp .eq 35, 3) := by decide +kernel
theorem dX0_stateBehind_23 : decode cX0_stateBehind 23 = .ok (.iload_n 3, 1) := by decide +kernel
theorem dX0_stateBehind_24 : decode cX0_stateBehind 24 = .ok (.bipush 10, 2) := by decide +kernel
theorem dX0_stateBehind_26 : decode cX0_stateBehind 26 = .ok (.imul, 1) := by decide +kernel
theorem dX0_stateBehind_27 : decode cX0_stateBehind 27 = .ok (.aload_n 0, 1) := by decide +kernel
theorem dX0_stateBehind_28 : decode cX0_stateBehind 28 = .ok (.getfield 15, 3) := by decide +kernel
theorem dX0_stateBehind_31 : decode cX0_stateBehind 31 = .ok (.iload 4, 2) := by decide +kernel
theorem dX0_stateBehind_33 : decode cX0_stateBehind 33 = .ok (.iaload, 1) := by decide +kernel
theorem dX0_stateBehind_34 : decode cX0_stateBehind 34 = .ok (.iload_n 2, 1) := by decide +kernel
theorem dX0_stateBehind_35 : decode cX0_stateBehind 35 = .ok (.iadd, 1) := by decide +kernel
theorem dX0_stateBehind_36 : decode cX0_stateBehind 36 = .ok (.iconst 1, 1) := by decide +kernel
theorem dX0_stateBehind_37 : decode cX0_stateBehind 37 = .ok (.iadd, 1) := by decide +kernel
theorem dX0_stateBehind_38 : decode cX0_stateBehind 38 = .ok (.aload_n 0, 1) := by decide +kernel
theorem dX0_stateBehind_39 : decode cX0_stateBehind 39 = .ok (.getfield 26, 3) := by decide +kernel
theorem dX0_stateBehind_42 : decode cX0_stateBehind 42 = .ok (.getfield 65, 3) := by decide +kernel
theorem dX0_stateBehind_45 : decode cX0_stateBehind 45 = .ok (.iload 4, 2) := by decide +kernel
theorem dX0_stateBehind_47 : decode cX0_stateBehind 47 = .ok (.iaload, 1) := by decide +kernel
theorem dX0_stateBehind_48 : decode cX0_stateBehind 48 = .ok (.iconst 1, 1) := by decide +kernel
theorem dX0_stateBehind_49 : decode cX0_stateBehind 49 = .ok (.iadd, 1) := by decide +kernel
theorem dX0_stateBehind_50 : decode cX0_stateBehind 50 = .ok (.invokestatic 30, 3) := by decide +kernel
theorem dX0_stateBehind_53 : decode cX0_stateBehind 53 = .ok (.iadd, 1) := by decide +kernel
theorem dX0_stateBehind_54 : decode cX0_stateBehind 54 = .ok (.istore_n 3, 1) := by decide +kernel
theorem dX0_stateBehind_55 : decode cX0_stateBehind 55 = .ok (.iinc 4 1, 3) := by decide +kernel
theorem dX0_stateBehind_58 : decode cX0_stateBehind 58 = .ok (.goto (-53), 3) := by decide +kernel
theorem dX0_stateBehind_61 : decode cX0_stateBehind 61 = .ok (.iload_n 1, 1) := by decide +kernel
theorem dX0_stateBehind_62 : decode cX0_stateBehind 62 = .ok (.bipush 100, 2) := by decide +kernel
theorem dX0_stateBehind_64 : decode cX0_stateBehind 64 = .ok (.imul, 1) := by decide +kernel
theorem dX0_stateBehind_65 : decode cX0_stateBehind 65 = .ok (.iload_n 3, 1) := by decide +kernel
theorem dX0_stateBehind_66 : decode cX0_stateBehind 66 = .ok (.iadd, 1) := by decide +kernel
theorem dX0_stateBehind_67 : decode cX0_stateBehind 67 = .ok (.ireturn, 1) := by decide +kernel
theorem dX0_goOn_0 : decode cX0_goOn 0 = .ok (.iconst 0, 1) := by decide +kernel
theorem dX0_goOn_1 : decode cX0_goOn 1 = .ok (.istore 4, 2) := by decide +kernel
theorem dX0_goOn_3 : decode cX0_goOn 3 = .ok (.iload 4, 2) := by decide +kernel
theorem dX0_goOn_5 : decode cX0_goOn 5 = .ok (.aload_n 0, 1) := by decide +kernel
theorem dX0_goOn_6 : decode cX0_goOn 6 = .ok (.getfield 26, 3) := by decide +kernel
theorem dX0_goOn_9 : decode cX0_goOn 9 = .ok (.getfield 50, 3) := by decide +kernel
theorem dX0_goOn_12 : decode cX0_goOn 12 = .ok (.if_icmp .ge 131, 3) := by decide +kernel
theorem dX0_goOn_15 : decode cX0_goOn 15 = .ok (.aload_n 0, 1) := by decide +kernel
theorem dX0_goOn_16 : decode cX0_goOn 16 = .ok (.getfield 26, 3) := by decide +kernel
theorem dX0_goOn_19 : decode cX0_goOn 19 = .ok (.iload_n 2, 1) := by decide +kernel
theorem dX0_goOn_20 : decode cX0_goOn 20 = .ok (.iload 4, 2) := by decide +kernel
theorem dX0_goOn_22 : decode cX0_goOn 22 = .ok (.invokevirtual 55, 3) := by decide +kernel
theorem dX0_goOn_25 : decode cX0_goOn 25 = .ok (.istore 5, 2) := by decide +kernel
theorem dX0_goOn_27 : decode cX0_goOn 27 = .ok (.iload_n 3, 1) := by decide +kernel
theorem dX0_goOn_28 : decode cX0_goOn 28 = .ok (.iconst 4, 1) := by decide +kernel
theorem dX0_goOn_29 : decode cX0_goOn 29 = .ok (.aload_n 0, 1) := by decide +kernel
theorem dX0_goOn_30 : decode cX0_goOn 30 = .ok (.iload 4, 2) := by decide +kernel
theorem dX0_goOn_32 : decode cX0_goOn 32 = .ok (.iload 5, 2) := by decide +kernel
theorem dX0_goOn_34 : decode cX0_goOn 34 = .ok (.aload_n 0, 1) := by decide +kernel
theorem dX0_goOn_35 : decode cX0_goOn 35 = .ok (.getfield 18, 3) := by decide +kernel
theorem dX0_goOn_38 : decode cX0_goOn 38 = .ok (.iload_n 1, 1) := by decide +kernel
theorem dX0_goOn_39 : decode cX0_goOn 39 = .ok (.isub, 1) := by decide +kernel
theorem dX0_goOn_40 : decode cX0_goOn 40 = .ok (.invokevirtual 58, 3) := by decide +kernel
theorem dX0_goOn_43 : decode cX0_goOn 43 = .ok (.imul, 1) := by decide +kernel
theorem dX0_goOn_44 : decode cX0_goOn 44 = .ok (.iadd, 1) := by decide +kernel
theorem dX0_goOn_45 : decode cX0_goOn 45 = .ok (.iload_n 1, 1) := by decide +kernel
theorem dX0_goOn_46 : decode cX0_goOn 46 = .ok (.ifCond .ne 8, 3) := by decide +kernel
theorem dX0_goOn_49 : decode cX0_goOn 49 = .ok (.iload 4, 2) := by decide +kernel
theorem dX0_goOn_51 : decode cX0_goOn 51 = .ok (.goto 4, 3) := by decide +kernel
theorem dX0_goOn_54 : decode cX0_goOn 54 = .ok (.iconst 0, 1) := by decide +kernel
theorem dX0_goOn_55 : decode cX0_goOn 55 = .ok (.iadd, 1) := by decide +kernel
theorem dX0_goOn_56 : decode cX0_goOn 56 = .ok (.istore 6, 2) := by decide +kernel
theorem dX0_goOn_58 : decode cX0_goOn 58 = .ok (.iload_n 1, 1) := by decide +kernel
theorem dX0_goOn_59 : decode cX0_goOn 59 = .ok (.iload 5, 2) := by decide +kernel
theorem dX0_goOn_61 : decode cX0_goOn 61 = .ok (.iadd, 1) := by decide +kernel
theorem dX0_goOn_62 : decode cX0_goOn 62 = .ok (.iconst 1, 1) := by decide +kernel
theorem dX0_goOn_63 : decode cX0_goOn 63 = .ok (.iadd, 1) := by decide +kernel
theorem dX0_goOn_64 : decode cX0_goOn 64 = .ok (.istore 7, 2) := by decide +kernel
theorem dX0_goOn_66 : decode cX0_goOn 66 = .ok (.iload 7, 2) := by decide +kernel
theorem dX0_goOn_68 : decode cX0_goOn 68 = .ok (.aload_n 0, 1) := by decide +kernel
theorem dX0_goOn_69 : decode cX0_goOn 69 = .ok (.getfield 18, 3) := by decide +kernel
theorem dX0_goOn_72 : decode cX0_goOn 72 = .ok (.if_icmp .lt 19, 3) := by decide +kernel
theorem dX0_goOn_75 : decode cX0_goOn 75 = .ok (.aload_n 0, 1) := by decide +kernel
theorem dX0_goOn_76 : decode cX0_goOn 76 = .ok (.aload_n 0, 1) := by decide +kernel
theorem dX0_goOn_77 : decode cX0_goOn 77 = .ok (.getfield 23, 3) := by decide +kernel
theorem dX0_goOn_80 : decode cX0_goOn 80 = .ok (.iload 6, 2) := by decide +kernel
theorem dX0_goOn_82 : decode cX0_goOn 82 = .ok (.invokestatic 30, 3) := by decide +kernel
theorem dX0_goOn_85 : decode cX0_goOn 85 = .ok (.putfield 23, 3) := by decide +kernel
theorem dX0_goOn_88 : decode cX0_goOn 88 = .ok (.goto 49, 3) := by decide +kernel
theorem dX0_goOn_91 : decode cX0_goOn 91 = .ok (.iload 7, 2) := by decide +kernel
theorem dX0_goOn_93 : decode cX0_goOn 93 = .ok (.sipush 300, 3) := by decide +kernel
theorem dX0_goOn_96 : decode cX0_goOn 96 = .ok (.imul, 1) := by decide +kernel
theorem dX0_goOn_97 : decode cX0_goOn 97 = .ok (.aload_n 0, 1) := by decide +kernel
theorem dX0_goOn_98 : decode cX0_goOn 98 = .ok (.iload 4, 2) := by decide +kernel
theorem dX0_goOn_100 : decode cX0_goOn 100 = .ok (.iload 5, 2) := by decide +kernel
theorem dX0_goOn_102 : decode cX0_goOn 102 = .ok (.invokevirtual 62, 3) := by decide +kernel
theorem dX0_goOn_105 : decode cX0_goOn 105 = .ok (.iadd, 1) := by decide +kernel
theorem dX0_goOn_106 : decode cX0_goOn 106 = .ok (.istore 8, 2) := by decide +kernel
theorem dX0_goOn_108 : decode cX0_goOn 108 = .ok (.iload 8, 2) := by decide +kernel
theorem dX0_goOn_110 : decode cX0_goOn 110 = .ok (.aload_n 0, 1) := by decide +kernel
theorem dX0_goOn_111 : decode cX0_goOn 111 = .ok (.getfield 11, 3) := by decide +kernel
theorem dX0_goOn_114 : decode cX0_goOn 114 = .ok (.arraylength, 1) := by decide +kernel
theorem dX0_goOn_115 : decode cX0_goOn 115 = .ok (.if_icmp .ge 22, 3) := by decide +kernel
theorem dX0_goOn_118 : decode cX0_goOn 118 = .ok (.aload_n 0, 1) := by decide +kernel
theorem dX0_goOn_119 : decode cX0_goOn 119 = .ok (.getfield 11, 3) := by decide +kernel
theorem dX0_goOn_122 : decode cX0_goOn 122 = .ok (.iload 8, 2) := by decide +kernel
theorem dX0_goOn_124 : decode cX0_goOn 124 = .ok (.aload_n 0, 1) := by decide +kernel
theorem dX0_goOn_125 : decode cX0_goOn 125 = .ok (.getfield 11, 3) := by decide +kernel
theorem dX0_goOn_128 : decode cX0_goOn 128 = .ok (.iload 8, 2) := by decide +kernel
theorem dX0_goOn_130 : decode cX0_goOn 130 = .ok (.iaload, 1) := by decide +kernel
theorem dX0_goOn_131 : decode cX0_goOn 131 = .ok (.iload 6, 2) := by decide +kernel
theorem dX0_goOn_133 : decode cX0_goOn 133 = .ok (.invokestatic 30, 3) := by decide +kernel
theorem dX0_goOn_136 : decode cX0_goOn 136 = .ok (.iastore, 1) := by decide +kernel
theorem dX0_goOn_137 : decode cX0_goOn 137 = .ok (.iinc 4 1, 3) := by decide +kernel
theorem dX0_goOn_140 : decode cX0_goOn 140 = .ok (.goto (-137), 3) := by decide +kernel
theorem dX0_goOn_143 : decode cX0_goOn 143 = .ok (.return_, 1) := by decide +kernel
theorem dX0_reckon_0 : decode cX0_reckon 0 = .ok (.aload_n 0, 1) := by decide +kernel
theorem dX0_reckon_1 : decode cX0_reckon 1 = .ok (.iload_n 1, 1) := by decide +kernel
theorem dX0_reckon_2 : decode cX0_reckon 2 = .ok (.bipush 40, 2) := by decide +kernel
theorem dX0_reckon_4 : decode cX0_reckon 4 = .ok (.invokestatic 30, 3) := by decide +kernel
theorem dX0_reckon_7 : decode cX0_reckon 7 = .ok (.putfield 18, 3) := by decide +kernel
theorem dX0_reckon_10 : decode cX0_reckon 10 = .ok (.aload_n 0, 1) := by decide +kernel
theorem dX0_reckon_11 : decode cX0_reckon 11 = .ok (.ldc 22, 2) := by decide +kernel
theorem dX0_reckon_13 : decode cX0_reckon 13 = .ok (.putfield 23, 3) := by decide +kernel
theorem dX0_reckon_16 : decode cX0_reckon 16 = .ok (.aload_n 0, 1) := by decide +kernel
theorem dX0_reckon_17 : decode cX0_reckon 17 = .ok (.getfield 11, 3) := by decide +kernel
theorem dX0_reckon_20 : decode cX0_reckon 20 = .ok (.ldc 22, 2) := by decide +kernel
theorem dX0_reckon_22 : decode cX0_reckon 22 = .ok (.invokestatic 36, 3) := by decide +kernel
theorem dX0_reckon_25 : decode cX0_reckon 25 = .ok (.aload_n 0, 1) := by decide +kernel
theorem dX0_reckon_26 : decode cX0_reckon 26 = .ok (.getfield 11, 3) := by decide +kernel
theorem dX0_reckon_29 : decode cX0_reckon 29 = .ok (.iconst 0, 1) := by decide +kernel
theorem dX0_reckon_30 : decode cX0_reckon 30 = .ok (.iconst 0, 1) := by decide +kernel
theorem dX0_reckon_31 : decode cX0_reckon 31 = .ok (.iastore, 1) := by decide +kernel
theorem dX0_reckon_32 : decode cX0_reckon 32 = .ok (.iconst 0, 1) := by decide +kernel
theorem dX0_reckon_33 : decode cX0_reckon 33 = .ok (.istore_n 2, 1) := by decide +kernel
theorem dX0_reckon_34 : decode cX0_reckon 34 = .ok (.iload_n 2, 1) := by decide +kernel
theorem dX0_reckon_35 : decode cX0_reckon 35 = .ok (.aload_n 0, 1) := by decide +kernel
theorem dX0_reckon_36 : decode cX0_reckon 36 = .ok (.getfield 18, 3) := by decide +kernel
theorem dX0_reckon_39 : decode cX0_reckon 39 = .ok (.if_icmp .ge 61, 3) := by decide +kernel
theorem dX0_reckon_42 : decode cX0_reckon 42 = .ok (.iconst 0, 1) := by decide +kernel
theorem dX0_reckon_43 : decode cX0_reckon 43 = .ok (.istore_n 3, 1) := by decide +kernel
theorem dX0_reckon_44 : decode cX0_reckon 44 = .ok (.iload_n 3, 1) := by decide +kernel
theorem dX0_reckon_45 : decode cX0_reckon 45 = .ok (.sipush 300, 3) := by decide +kernel
theorem dX0_reckon_48 : decode cX0_reckon 48 = .ok (.if_icmp .ge 46, 3) := by decide +kernel
theorem dX0_reckon_51 : decode cX0_reckon 51 = .ok (.aload_n 0, 1) := by decide +kernel
theorem dX0_reckon_52 : decode cX0_reckon 52 = .ok (.getfield 11, 3) := by decide +kernel
theorem dX0_reckon_55 : decode cX0_reckon 55 = .ok (.iload_n 2, 1) := by decide +kernel
theorem dX0_reckon_56 : decode cX0_reckon 56 = .ok (.sipush 300, 3) := by decide +kernel
theorem dX0_reckon_59 : decode cX0_reckon 59 = .ok (.imul, 1) := by decide +kernel
theorem dX0_reckon_60 : decode cX0_reckon 60 = .ok (.iload_n 3, 1) := by decide +kernel
theorem dX0_reckon_61 : decode cX0_reckon 61 = .ok (.iadd, 1) := by decide +kernel
theorem dX0_reckon_62 : decode cX0_reckon 62 = .ok (.iaload, 1) := by decide +kernel
theorem dX0_reckon_63 : decode cX0_reckon 63 = .ok (.istore 4, 2) := by decide +kernel
theorem dX0_reckon_65 : decode cX0_reckon 65 = .ok (.iload 4, 2) := by decide +kernel
theorem dX0_reckon_67 : decode cX0_reckon 67 = .ok (.ldc 22, 2) := by decide +kernel
theorem dX0_reckon_69 : decode cX0_reckon 69 = .ok (.if_icmp .eq 19, 3) := by decide +kernel
theorem dX0_reckon_72 : decode cX0_reckon 72 = .ok (.aload_n 0, 1) := by decide +kernel
theorem dX0_reckon_73 : decode cX0_reckon 73 = .ok (.iload_n 3, 1) := by decide +kernel
theorem dX0_reckon_74 : decode cX0_reckon 74 = .ok (.invokevirtual 42, 3) := by decide +kernel
theorem dX0_reckon_77 : decode cX0_reckon 77 = .ok (.aload_n 0, 1) := by decide +kernel
theorem dX0_reckon_78 : decode cX0_reckon 78 = .ok (.iload_n 2, 1) := by decide +kernel
theorem dX0_reckon_79 : decode cX0_reckon 79 = .ok (.iload_n 3, 1) := by decide +kernel
theorem dX0_reckon_80 : decode cX0_reckon 80 = .ok (.bipush 100, 2) := by decide +kernel
theorem dX0_reckon_82 : decode cX0_reckon 82 = .ok (.idiv, 1) := by decide +kernel
theorem dX0_reckon_83 : decode cX0_reckon 83 = .ok (.iload 4, 2) := by decide +kernel
theorem dX0_reckon_85 : decode cX0_reckon 85 = .ok (.invokevirtual 46, 3) := by decide +kernel
theorem dX0_reckon_88 : decode cX0_reckon 88 = .ok (.iinc 3 1, 3) := by decide +kernel
theorem dX0_reckon_91 : decode cX0_reckon 91 = .ok (.goto (-47), 3) := by decide +kernel
theorem dX0_reckon_94 : decode cX0_reckon 94 = .ok (.iinc 2 1, 3) := by decide +kernel
theorem dX0_reckon_97 : decode cX0_reckon 97 = .ok (.goto (-63), 3) := by decide +kernel
theorem dX0_reckon_100 : decode cX0_reckon 100 = .ok (.return_, 1) := by decide +kernel
theorem dX0_leastHarm_0 : decode cX0_leastHarm 0 = .ok (.aload_n 0, 1) := by decide +kernel
theorem dX0_leastHarm_1 : decode cX0_leastHarm 1 = .ok (.getfield 23, 3) := by decide +kernel
theorem dX0_leastHarm_4 : decode cX0_leastHarm 4 = .ok (.iconst 4, 1) := by decide +kernel
theorem dX0_leastHarm_5 : decode cX0_leastHarm 5 = .ok (.idiv, 1) := by decide +kernel
theorem dX0_leastHarm_6 : decode cX0_leastHarm 6 = .ok (.ireturn, 1) := by decide +kernel
theorem dX0_firstStep_0 : decode cX0_firstStep 0 = .ok (.aload_n 0, 1) := by decide +kernel
theorem dX0_firstStep_1 : decode cX0_firstStep 1 = .ok (.getfield 23, 3) := by decide +kernel
theorem dX0_firstStep_4 : decode cX0_firstStep 4 = .ok (.iconst 4, 1) := by decide +kernel
theorem dX0_firstStep_5 : decode cX0_firstStep 5 = .ok (.irem, 1) := by decide +kernel
theorem dX0_firstStep_6 : decode cX0_firstStep 6 = .ok (.istore_n 1, 1) := by decide +kernel
theorem dX0_firstStep_7 : decode cX0_firstStep 7 = .ok (.aload_n 0, 1) := by decide +kernel
theorem dX0_firstStep_8 : decode cX0_firstStep 8 = .ok (.getfield 26, 3) := by decide +kernel
theorem dX0_firstStep_11 : decode cX0_firstStep 11 = .ok (.iload_n 1, 1) := by decide +kernel
theorem dX0_firstStep_12 : decode cX0_firstStep 12 = .ok (.invokevirtual 74, 3) := by decide +kernel
theorem dX0_firstStep_15 : decode cX0_firstStep 15 = .ok (.ifCond .eq 15, 3) := by decide +kernel
theorem dX0_firstStep_18 : decode cX0_firstStep 18 = .ok (.aload_n 0, 1) := by decide +kernel
theorem dX0_firstStep_19 : decode cX0_firstStep 19 = .ok (.getfield 26, 3) := by decide +kernel
theorem dX0_firstStep_22 : decode cX0_firstStep 22 = .ok (.getfield 78, 3) := by decide +kernel
theorem dX0_firstStep_25 : decode cX0_firstStep 25 = .ok (.iload_n 1, 1) := by decide +kernel
theorem dX0_firstStep_26 : decode cX0_firstStep 26 = .ok (.iaload, 1) := by decide +kernel
theorem dX0_firstStep_27 : decode cX0_firstStep 27 = .ok (.goto 4, 3) := by decide +kernel
theorem dX0_firstStep_30 : decode cX0_firstStep 30 = .ok (.iconst (-1), 1) := by decide +kernel
theorem dX0_firstStep_31 : decode cX0_firstStep 31 = .ok (.ireturn, 1) := by decide +kernel
set_option maxHeartbeats 4000000 in
set_option maxRecDepth 100000 in
/-- Backlog.takeApart -/
theorem c_takeApart (l : Launch) (hl0 : l.stackTraces = false) (D : va_G) (cy : Nat → ClassId) (sa : Nat → Nat) (ba ba_least ba_without bfa bfa_who bfa_hold bfa_harm bfa_cost : Nat) (b_minutes b_found bf_size s0 : Int32) (bf_without : Nat → Int32) (h_b_minutes : 0 ≤ b_minutes.toInt ∧ b_minutes.toInt ≤ 40) (h_bf_without : rowR 4 0 (9) bf_without) (h_bf_size : 0 ≤ bf_size.toInt ∧ bf_size.toInt ≤ 4) (h_s0 : 0 ≤ s0.toInt ∧ s0.toInt ≤ 299) (sz : Nat) : Met l yX0_takeApart (Cond.code yX0_takeApart cX0_takeApart 5 none :: kWS) ({ frames := 10, cells := 0, slots := 0, locals := 300 }) (kPre D cy sa [.ref ba, .int s0] [(ba, .inr (2, [.ref bfa, .ref ba_least, .ref ba_without, .int b_minutes, .int b_found])), (ba_without, .inl (cy 0, 4, .inl bf_without)), (bfa, .inr (3, [.ref bfa_who, .ref bfa_hold, .ref bfa_harm, .ref bfa_cost, .int bf_size]))] sz) (va_Qv (fun (u : (Nat → Int32) × (Nat → Nat → Int32)) => (rowR 4 0 (9) ((u.2 0)))) (kB D (va_A [(ba, .inr (2, [.ref bfa, .ref ba_least, .ref ba_without, .int b_minutes, .int b_found])), (ba_without, .inl (cy 0, 4, .inl bf_without)), (bfa, .inr (3, [.ref bfa_who, .ref bfa_hold, .ref bfa_harm, .ref bfa_cost, .int bf_size]))] sz) (fun (u : (Nat → Int32) × (Nat → Nat → Int32)) => [(ba, .inr (2, [.ref bfa, .ref ba_least, .ref ba_without, .int b_minutes, .int b_found])), (ba_without, .inl (cy 0, 4, .inl ((u.2 0)))), (bfa, .inr (3, [.ref bfa_who, .ref bfa_hold, .ref bfa_harm, .ref bfa_cost, .int bf_size]))])) (va_A [(ba, .inr (2, [.ref bfa, .ref ba_least, .ref ba_without, .int b_minutes, .int b_found])), (ba_without, .inl (cy 0, 4, .inl bf_without)), (bfa, .inr (3, [.ref bfa_who, .ref bfa_hold, .ref bfa_harm, .ref bfa_cost, .int bf_size]))] sz)) 0 0 (va_A [(ba, .inr (2, [.ref bfa, .ref ba_least, .ref ba_without, .int b_minutes, .int b_found])), (ba_without, .inl (cy 0, 4, .inl bf_without)), (bfa, .inr (3, [.ref bfa_who, .ref bfa_hold, .ref bfa_harm, .ref bfa_cost, .int bf_size]))] sz) := by
  refine k_ofW (y := yX0_takeApart) (cc := cX0_takeApart) (maxL := 5) (ret := none) (av := [.ref ba, .int s0]) (ws := [(ba, .inr (2, [.ref bfa, .ref ba_least, .ref ba_without, .int b_minutes, .int b_found])), (ba_without, .inl (cy 0, 4, .inl bf_without)), (bfa, .inr (3, [.ref bfa_who, .ref bfa_hold, .ref bfa_harm, .ref bfa_cost, .int bf_size]))]) (Qc := fun A => (va_Qv (fun (u : (Nat → Int32) × (Nat → Nat → Int32)) => (rowR 4 0 (9) ((u.2 0)))) (kB D A (fun (u : (Nat → Int32) × (Nat → Nat → Int32)) => [(ba, .inr (2, [.ref bfa, .ref ba_least, .ref ba_without, .int b_minutes, .int b_found])), (ba_without, .inl (cy 0, 4, .inl ((u.2 0)))), (bfa, .inr (3, [.ref bfa_who, .ref bfa_hold, .ref bfa_harm, .ref bfa_cost, .int bf_size]))])) A)) (by decide) (Nat.le_of_ble_eq_true rfl) ?_
  intro p e s m below meth c ls A E hA hP hD hG hS hl
  obtain ⟨Q0, hQ0⟩ : ∃ Q0 : State → Prop, Q0 = MQ below (va_Qv (fun (u : (Nat → Int32) × (Nat → Nat → Int32)) => (rowR 4 0 (9) ((u.2 0)))) (kB D A (fun (u : (Nat → Int32) × (Nat → Nat → Int32)) => [(ba, .inr (2, [.ref bfa, .ref ba_least, .ref ba_without, .int b_minutes, .int b_found])), (ba_without, .inl (cy 0, 4, .inl ((u.2 0)))), (bfa, .inr (3, [.ref bfa_who, .ref bfa_hold, .ref bfa_harm, .ref bfa_cost, .int bf_size]))])) A) ([.ref ba, .int s0] : List Value).toArray s 0 0 A := ⟨_, rfl⟩
  rw [← hQ0]
  obtain ⟨hx, hb, hml, hown, hts, hr, hlk, hnm⟩ := id E
  have hown : s.vm.findClass RX0 = some m.cls := hown
  have hl : lv_has ls 5 [(0, .ref ba), (1, .int s0)] := hl
  obtain ⟨H, hH⟩ : ∃ H, H = s.heap := ⟨_, rfl⟩
  have hP : va_P D vwCl [(ba, .inr (2, [.ref bfa, .ref ba_least, .ref ba_without, .int b_minutes, .int b_found])), (ba_without, .inl (cy 0, 4, .inl bf_without)), (bfa, .inr (3, [.ref bfa_who, .ref bfa_hold, .ref bfa_harm, .ref bfa_cost, .int bf_size]))] H := by rw [hH]; exact hP
  have hS : va_S A s.heap H [] := by rw [hH]; exact va_S.rf
  rw [← hH]
  clear hH
  obtain ⟨locs, hlocs⟩ : ∃ locs : List Loc, locs = [] := ⟨_, rfl⟩
  rw [← hlocs] at hS ⊢
  refine lv_iload_n hx hb dX0_takeApart_0 rfl (lv_at hl 1 rfl) ?_
  refine lv_bipush (v := 100) hx hb dX0_takeApart_1 (by decide) ?_
  refine lv_idiv hx hb dX0_takeApart_3 (by decide) ?_
  refine lv_topi (fun x1q ex1q => ?_)
  have rx1q := n_div ex1q (a := s0.toInt) (b := 100) rfl n_L100 (by omega) (by omega)
  refine lv_istore_n (lv' := [(2, .int x1q), (0, .ref ba), (1, .int s0)]) hx hb dX0_takeApart_4 rfl hl (by decide) rfl (fun ls hl => ?_)
  refine lv_iload_n hx hb dX0_takeApart_5 rfl (lv_at hl 2 rfl) ?_
  refine lv_istore_n (lv' := [(3, .int s0), (2, .int x1q), (0, .ref ba), (1, .int s0)]) hx hb dX0_takeApart_6 rfl hl (by decide) rfl (fun ls hl => ?_)
  refine lv_aload_n hx hb dX0_takeApart_7 rfl (lv_at hl 2 rfl) ?_
  refine va_get (D := D) (ci := 2) (v := .ref bfa) (C := RX0) (T := TX0) (N := 5) hx hb hts kin_RX0 hown hG.1 hP 0 rfl rfl 0 (by decide) (hts _ wm_400) (fun _ h9 => h9) rfl dX0_takeApart_8 ?_
  refine va_get (D := D) (ci := 3) (v := .int bf_size) (C := RX1) (T := TX1) (N := 5) hx hb hts kin_RX1 hown hG.1 hP 2 rfl rfl 4 (by decide) (hts _ wm_346) (fun _ h9 => h9) rfl dX0_takeApart_11 ?_
  refine lv_iconst (v := 1) hx hb dX0_takeApart_14 (by decide) ?_
  refine lv_isub hx hb dX0_takeApart_15 ?_
  refine lv_topi (fun x2q ex2q => ?_)
  have rx2q := n_sub ex2q (a := bf_size.toInt) (b := 1) rfl n_L1 (by omega) (by omega)
  refine lv_istore (lv' := [(4, .int x2q), (3, .int s0), (2, .int x1q), (0, .ref ba), (1, .int s0)]) hx hb dX0_takeApart_16 hl (by decide) rfl (fun ls hl => ?_)
  have k3q : ∀ (n : Nat) (k3qy3 : Int32) (k3qy4 : Int32) (k3qbf_without : Nat → Int32) (H : Heap) (locs : List Loc) (ls : Array Slot), 0 ≤ k3qy3.toInt ∧ k3qy3.toInt ≤ 299 → -1 ≤ k3qy4.toInt ∧ k3qy4.toInt ≤ 3 → rowR 4 0 (9) k3qbf_without → (k3qy4.toInt + 1).toNat = n → va_P D vwCl [(ba, .inr (2, [.ref bfa, .ref ba_least, .ref ba_without, .int b_minutes, .int b_found])), (ba_without, .inl (cy 0, 4, .inl k3qbf_without)), (bfa, .inr (3, [.ref bfa_who, .ref bfa_hold, .ref bfa_harm, .ref bfa_cost, .int bf_size]))] H → va_D A [(ba, .inr (2, [.ref bfa, .ref ba_least, .ref ba_without, .int b_minutes, .int b_found])), (ba_without, .inl (cy 0, 4, .inl k3qbf_without)), (bfa, .inr (3, [.ref bfa_who, .ref bfa_hold, .ref bfa_harm, .ref bfa_cost, .int bf_size]))] → va_S A s.heap H locs → lv_has ls 5 [(4, .int k3qy4), (3, .int k3qy3), (2, .int x1q), (0, .ref ba), (1, .int s0)] → W p l e ({ frames := 10, cells := 0, slots := 0, locals := 300 }) s m ([.ref ba, .int s0] : List Value).toArray below meth c H locs 0 0 Q0 (F0 m 18 ls []) := by
    intro n
    induction n using Nat.strongRecOn with
    | ind n k3qih =>
      intro k3qy3 k3qy4 k3qbf_without H locs ls hk3qy3 hk3qy4 hk3qbf_without k3qm hP hD hS hl
      refine lv_iload hx hb dX0_takeApart_18 (lv_at hl 0 rfl) ?_
      refine lv_if_lt (tgt := 65) hx hb dX0_takeApart_20 (by decide) (fun c4q => ?_) (fun c4q => ?_)
      · simp only [k_lt, k_le, k_eq, ne_eq, ge_iff_le, gt_iff_lt, n_L0, n_L0] at c4q
        rw [hQ0]
        exact k_vret (fun k => [].getD k 0, fun k => [k3qbf_without].getD k (fun _ => 0)) hx hb hr hlk ((show rowR 4 0 (9) k3qbf_without from hk3qbf_without)) (hP.sub [0, 1, 2] rfl) (hD.sub [0, 1, 2] (by decide) rfl) hS (by decide) (by decide) dX0_takeApart_65
      · simp only [k_lt, k_le, k_eq, ne_eq, ge_iff_le, gt_iff_lt, n_L0, n_L0] at c4q
        refine lv_aload_n hx hb dX0_takeApart_23 rfl (lv_at hl 3 rfl) ?_
        refine va_get (D := D) (ci := 2) (v := .ref ba_without) (C := RX0) (T := TX0) (N := 5) hx hb hts kin_RX0 hown hG.1 hP 0 rfl rfl 2 (by decide) (hts _ wm_402) (fun _ h9 => h9) rfl dX0_takeApart_24 ?_
        refine lv_iload hx hb dX0_takeApart_27 (lv_at hl 0 rfl) ?_
        refine lv_iload hx hb dX0_takeApart_29 (lv_at hl 0 rfl) ?_
        refine lv_iload_n hx hb dX0_takeApart_31 rfl (lv_at hl 2 rfl) ?_
        refine lv_icmp_ne (tgt := 39) hx hb dX0_takeApart_32 (by decide) (fun c5q => ?_) (fun c5q => ?_)
        · simp only [k_lt, k_le, k_eq, ne_eq, ge_iff_le, gt_iff_lt] at c5q
          refine lv_iload_n hx hb dX0_takeApart_39 rfl (lv_at hl 1 rfl) ?_
          refine lv_bipush (v := 10) hx hb dX0_takeApart_40 (by decide) ?_
          refine lv_irem hx hb dX0_takeApart_42 (by decide) ?_
          refine lv_topi (fun x6q ex6q => ?_)
          have rx6q := n_mod ex6q (a := k3qy3.toInt) (b := 10) rfl n_L10 (by omega) (by omega)
          refine va_iast hx hb hG.1 hP hD hS 1 0 rfl rfl (n_in (by omega) (by omega)) dX0_takeApart_43 (fun H locs hP hD hS => ?_)
          have hP : va_P D vwCl [(ba, .inr (2, [.ref bfa, .ref ba_least, .ref ba_without, .int b_minutes, .int b_found])), (ba_without, .inl (cy 0, 4, .inl (upd (k3qbf_without) (k3qy4 : Int32).toNatClampNeg x6q))), (bfa, .inr (3, [.ref bfa_who, .ref bfa_hold, .ref bfa_harm, .ref bfa_cost, .int bf_size]))] H := hP
          have hD : va_D A [(ba, .inr (2, [.ref bfa, .ref ba_least, .ref ba_without, .int b_minutes, .int b_found])), (ba_without, .inl (cy 0, 4, .inl (upd (k3qbf_without) (k3qy4 : Int32).toNatClampNeg x6q))), (bfa, .inr (3, [.ref bfa_who, .ref bfa_hold, .ref bfa_harm, .ref bfa_cost, .int bf_size]))] := hD
          have hf7q : rowR 4 0 (9) (upd (k3qbf_without) (k3qy4 : Int32).toNatClampNeg x6q) := rowR_upd hk3qbf_without (by omega) (by omega)
          generalize upd (k3qbf_without) (k3qy4 : Int32).toNatClampNeg x6q = f7q at hP hD hf7q
          have hP : va_P D vwCl [(ba, .inr (2, [.ref bfa, .ref ba_least, .ref ba_without, .int b_minutes, .int b_found])), (ba_without, .inl (cy 0, 4, .inl f7q)), (bfa, .inr (3, [.ref bfa_who, .ref bfa_hold, .ref bfa_harm, .ref bfa_cost, .int bf_size]))] H := hP
          have hD : va_D A [(ba, .inr (2, [.ref bfa, .ref ba_least, .ref ba_without, .int b_minutes, .int b_found])), (ba_without, .inl (cy 0, 4, .inl f7q)), (bfa, .inr (3, [.ref bfa_who, .ref bfa_hold, .ref bfa_harm, .ref bfa_cost, .int bf_size]))] := hD
          refine lv_iload hx hb dX0_takeApart_44 (lv_at hl 0 rfl) ?_
          refine lv_iload_n hx hb dX0_takeApart_46 rfl (lv_at hl 2 rfl) ?_
          refine lv_icmp_ne (tgt := 54) hx hb dX0_takeApart_47 (by decide) (fun c8q => ?_) (fun c8q => ?_)
          · simp only [k_lt, k_le, k_eq, ne_eq, ge_iff_le, gt_iff_lt] at c8q
            refine lv_iload_n hx hb dX0_takeApart_54 rfl (lv_at hl 1 rfl) ?_
            refine lv_bipush (v := 10) hx hb dX0_takeApart_55 (by decide) ?_
            refine lv_idiv hx hb dX0_takeApart_57 (by decide) ?_
            refine lv_topi (fun x9q ex9q => ?_)
            have rx9q := n_div ex9q (a := k3qy3.toInt) (b := 10) rfl n_L10 (by omega) (by omega)
            refine lv_istore_n (lv' := [(3, .int x9q), (4, .int k3qy4), (2, .int x1q), (0, .ref ba), (1, .int s0)]) hx hb dX0_takeApart_58 rfl hl (by decide) rfl (fun ls hl => ?_)
            obtain ⟨x10q, ex10q⟩ : ∃ z : Int32, z = k3qy4 + (-1) := ⟨_, rfl⟩
            refine lv_iinc (v := x10q) (lv' := [(4, .int x10q), (3, .int x9q), (2, .int x1q), (0, .ref ba), (1, .int s0)]) hx hb dX0_takeApart_59 hl (k := 1) rfl (by rw [ex10q]; rfl) (by decide) rfl (fun ls hl => ?_)
            have rx10q := n_add ex10q (a := k3qy4.toInt) (b := (-1)) rfl n_Lm1 (by omega) (by omega)
            refine lv_goto (tgt := 18) hx hb dX0_takeApart_62 (by decide) ?_
            exact k3qih ((x10q.toInt + 1).toNat) (by omega) x9q x10q f7q H locs ls ⟨by omega, by omega⟩ ⟨by omega, by omega⟩ hf7q rfl hP hD hS (lv_sub hl [0, 1, 2, 3, 4] rfl)
          · simp only [k_lt, k_le, k_eq, ne_eq, ge_iff_le, gt_iff_lt] at c8q
            refine lv_iload_n hx hb dX0_takeApart_50 rfl (lv_at hl 1 rfl) ?_
            refine lv_goto (tgt := 58) hx hb dX0_takeApart_51 (by decide) ?_
            refine lv_istore_n (lv' := [(3, .int k3qy3), (4, .int k3qy4), (2, .int x1q), (0, .ref ba), (1, .int s0)]) hx hb dX0_takeApart_58 rfl hl (by decide) rfl (fun ls hl => ?_)
            obtain ⟨x11q, ex11q⟩ : ∃ z : Int32, z = k3qy4 + (-1) := ⟨_, rfl⟩
            refine lv_iinc (v := x11q) (lv' := [(4, .int x11q), (3, .int k3qy3), (2, .int x1q), (0, .ref ba), (1, .int s0)]) hx hb dX0_takeApart_59 hl (k := 1) rfl (by rw [ex11q]; rfl) (by decide) rfl (fun ls hl => ?_)
            have rx11q := n_add ex11q (a := k3qy4.toInt) (b := (-1)) rfl n_Lm1 (by omega) (by omega)
            refine lv_goto (tgt := 18) hx hb dX0_takeApart_62 (by decide) ?_
            exact k3qih ((x11q.toInt + 1).toNat) (by omega) k3qy3 x11q f7q H locs ls ⟨by omega, by omega⟩ ⟨by omega, by omega⟩ hf7q rfl hP hD hS (lv_sub hl [0, 1, 2, 3, 4] rfl)
        · simp only [k_lt, k_le, k_eq, ne_eq, ge_iff_le, gt_iff_lt] at c5q
          refine lv_iconst (v := 0) hx hb dX0_takeApart_35 (by decide) ?_
          refine lv_goto (tgt := 43) hx hb dX0_takeApart_36 (by decide) ?_
          refine va_iast hx hb hG.1 hP hD hS 1 0 rfl rfl (n_in (by omega) (by omega)) dX0_takeApart_43 (fun H locs hP hD hS => ?_)
          have hP : va_P D vwCl [(ba, .inr (2, [.ref bfa, .ref ba_least, .ref ba_without, .int b_minutes, .int b_found])), (ba_without, .inl (cy 0, 4, .inl (upd (k3qbf_without) (k3qy4 : Int32).toNatClampNeg 0))), (bfa, .inr (3, [.ref bfa_who, .ref bfa_hold, .ref bfa_harm, .ref bfa_cost, .int bf_size]))] H := hP
          have hD : va_D A [(ba, .inr (2, [.ref bfa, .ref ba_least, .ref ba_without, .int b_minutes, .int b_found])), (ba_without, .inl (cy 0, 4, .inl (upd (k3qbf_without) (k3qy4 : Int32).toNatClampNeg 0))), (bfa, .inr (3, [.ref bfa_who, .ref bfa_hold, .ref bfa_harm, .ref bfa_cost, .int bf_size]))] := hD
          have hf12q : rowR 4 0 (9) (upd (k3qbf_without) (k3qy4 : Int32).toNatClampNeg 0) := rowR_upd hk3qbf_without (by rw [n_L0]; omega) (by rw [n_L0]; omega)
          generalize upd (k3qbf_without) (k3qy4 : Int32).toNatClampNeg 0 = f12q at hP hD hf12q
          have hP : va_P D vwCl [(ba, .inr (2, [.ref bfa, .ref ba_least, .ref ba_without, .int b_minutes, .int b_found])), (ba_without, .inl (cy 0, 4, .inl f12q)), (bfa, .inr (3, [.ref bfa_who, .ref bfa_hold, .ref bfa_harm, .ref bfa_cost, .int bf_size]))] H := hP
          have hD : va_D A [(ba, .inr (2, [.ref bfa, .ref ba_least, .ref ba_without, .int b_minutes, .int b_found])), (ba_without, .inl (cy 0, 4, .inl f12q)), (bfa, .inr (3, [.ref bfa_who, .ref bfa_hold, .ref bfa_harm, .ref bfa_cost, .int bf_size]))] := hD
          refine lv_iload hx hb dX0_takeApart_44 (lv_at hl 0 rfl) ?_
          refine lv_iload_n hx hb dX0_takeApart_46 rfl (lv_at hl 2 rfl) ?_
          refine lv_icmp_ne (tgt := 54) hx hb dX0_takeApart_47 (by decide) (fun c13q => ?_) (fun c13q => ?_)
          · simp only [k_lt, k_le, k_eq, ne_eq, ge_iff_le, gt_iff_lt] at c13q
            refine lv_iload_n hx hb dX0_takeApart_54 rfl (lv_at hl 1 rfl) ?_
            refine lv_bipush (v := 10) hx hb dX0_takeApart_55 (by decide) ?_
            refine lv_idiv hx hb dX0_takeApart_57 (by decide) ?_
            refine lv_topi (fun x14q ex14q => ?_)
            have rx14q := n_div ex14q (a := k3qy3.toInt) (b := 10) rfl n_L10 (by omega) (by omega)
            refine lv_istore_n (lv' := [(3, .int x14q), (4, .int k3qy4), (2, .int x1q), (0, .ref ba), (1, .int s0)]) hx hb dX0_takeApart_58 rfl hl (by decide) rfl (fun ls hl => ?_)
            obtain ⟨x15q, ex15q⟩ : ∃ z : Int32, z = k3qy4 + (-1) := ⟨_, rfl⟩
            refine lv_iinc (v := x15q) (lv' := [(4, .int x15q), (3, .int x14q), (2, .int x1q), (0, .ref ba), (1, .int s0)]) hx hb dX0_takeApart_59 hl (k := 1) rfl (by rw [ex15q]; rfl) (by decide) rfl (fun ls hl => ?_)
            have rx15q := n_add ex15q (a := k3qy4.toInt) (b := (-1)) rfl n_Lm1 (by omega) (by omega)
            refine lv_goto (tgt := 18) hx hb dX0_takeApart_62 (by decide) ?_
            exact k3qih ((x15q.toInt + 1).toNat) (by omega) x14q x15q f12q H locs ls ⟨by omega, by omega⟩ ⟨by omega, by omega⟩ hf12q rfl hP hD hS (lv_sub hl [0, 1, 2, 3, 4] rfl)
          · simp only [k_lt, k_le, k_eq, ne_eq, ge_iff_le, gt_iff_lt] at c13q
            refine lv_iload_n hx hb dX0_takeApart_50 rfl (lv_at hl 1 rfl) ?_
            refine lv_goto (tgt := 58) hx hb dX0_takeApart_51 (by decide) ?_
            refine lv_istore_n (lv' := [(3, .int k3qy3), (4, .int k3qy4), (2, .int x1q), (0, .ref ba), (1, .int s0)]) hx hb dX0_takeApart_58 rfl hl (by decide) rfl (fun ls hl => ?_)
            obtain ⟨x16q, ex16q⟩ : ∃ z : Int32, z = k3qy4 + (-1) := ⟨_, rfl⟩
            refine lv_iinc (v := x16q) (lv' := [(4, .int x16q), (3, .int k3qy3), (2, .int x1q), (0, .ref ba), (1, .int s0)]) hx hb dX0_takeApart_59 hl (k := 1) rfl (by rw [ex16q]; rfl) (by decide) rfl (fun ls hl => ?_)
            have rx16q := n_add ex16q (a := k3qy4.toInt) (b := (-1)) rfl n_Lm1 (by omega) (by omega)
            refine lv_goto (tgt := 18) hx hb dX0_takeApart_62 (by decide) ?_
            exact k3qih ((x16q.toInt + 1).toNat) (by omega) k3qy3 x16q f12q H locs ls ⟨by omega, by omega⟩ ⟨by omega, by omega⟩ hf12q rfl hP hD hS (lv_sub hl [0, 1, 2, 3, 4] rfl)
  exact k3q _ s0 x2q bf_without H locs ls ⟨by omega, by omega⟩ ⟨by omega, by omega⟩ h_bf_without rfl hP hD hS (lv_sub hl [0, 1, 2, 3, 4] rfl)

set_option maxHeartbeats 4000000 in
set_option maxRecDepth 100000 in
/-- Backlog.harmOfStep -/
theorem c_harmOfStep (l : Launch) (hl0 : l.stackTraces = false) (D : va_G) (cy : Nat → ClassId) (sa : Nat → Nat) (ba ba_least ba_without bfa bfa_who bfa_hold bfa_harm bfa_cost : Nat) (b_minutes b_found bf_size t0 w0 l0 : Int32) (bf_without bff_hold bff_harm : Nat → Int32) (h_b_minutes : 0 ≤ b_minutes.toInt ∧ b_minutes.toInt ≤ 40) (h_bf_without : rowR 4 0 (9) bf_without) (h_bf_size : 0 ≤ bf_size.toInt ∧ bf_size.toInt ≤ 4) (h_bff_hold : rowR 4 0 (8) bff_hold) (h_w0 : 0 ≤ w0.toInt ∧ w0.toInt ≤ 39) (sz : Nat) : Met l yX0_harmOfStep (Cond.code yX0_harmOfStep cX0_harmOfStep 8 (some .int) :: kWS) ({ frames := 10, cells := 0, slots := 0, locals := 300 }) (kPre D cy sa [.ref ba, .int t0, .int w0, .int l0] [(ba, .inr (2, [.ref bfa, .ref ba_least, .ref ba_without, .int b_minutes, .int b_found])), (ba_without, .inl (cy 0, 4, .inl bf_without)), (bfa, .inr (3, [.ref bfa_who, .ref bfa_hold, .ref bfa_harm, .ref bfa_cost, .int bf_size])), (bfa_hold, .inl (cy 0, 4, .inl bff_hold)), (bfa_harm, .inl (cy 0, 4, .inl bff_harm))] sz) (va_Qi (fun (r : Int32) (u : Unit) => True) (kB D (va_A [(ba, .inr (2, [.ref bfa, .ref ba_least, .ref ba_without, .int b_minutes, .int b_found])), (ba_without, .inl (cy 0, 4, .inl bf_without)), (bfa, .inr (3, [.ref bfa_who, .ref bfa_hold, .ref bfa_harm, .ref bfa_cost, .int bf_size])), (bfa_hold, .inl (cy 0, 4, .inl bff_hold)), (bfa_harm, .inl (cy 0, 4, .inl bff_harm))] sz) (fun (u : Unit) => [(ba, .inr (2, [.ref bfa, .ref ba_least, .ref ba_without, .int b_minutes, .int b_found])), (ba_without, .inl (cy 0, 4, .inl bf_without)), (bfa, .inr (3, [.ref bfa_who, .ref bfa_hold, .ref bfa_harm, .ref bfa_cost, .int bf_size])), (bfa_hold, .inl (cy 0, 4, .inl bff_hold)), (bfa_harm, .inl (cy 0, 4, .inl bff_harm))])) (va_A [(ba, .inr (2, [.ref bfa, .ref ba_least, .ref ba_without, .int b_minutes, .int b_found])), (ba_without, .inl (cy 0, 4, .inl bf_without)), (bfa, .inr (3, [.ref bfa_who, .ref bfa_hold, .ref bfa_harm, .ref bfa_cost, .int bf_size])), (bfa_hold, .inl (cy 0, 4, .inl bff_hold)), (bfa_harm, .inl (cy 0, 4, .inl bff_harm))] sz)) 0 0 (va_A [(ba, .inr (2, [.ref bfa, .ref ba_least, .ref ba_without, .int b_minutes, .int b_found])), (ba_without, .inl (cy 0, 4, .inl bf_without)), (bfa, .inr (3, [.ref bfa_who, .ref bfa_hold, .ref bfa_harm, .ref bfa_cost, .int bf_size])), (bfa_hold, .inl (cy 0, 4, .inl bff_hold)), (bfa_harm, .inl (cy 0, 4, .inl bff_harm))] sz) := by
  refine k_ofW (y := yX0_harmOfStep) (cc := cX0_harmOfStep) (maxL := 8) (ret := (some .int)) (av := [.ref ba, .int t0, .int w0, .int l0]) (ws := [(ba, .inr (2, [.ref bfa, .ref ba_least, .ref ba_without, .int b_minutes, .int b_found])), (ba_without, .inl (cy 0, 4, .inl bf_without)), (bfa, .inr (3, [.ref bfa_who, .ref bfa_hold, .ref bfa_harm, .ref bfa_cost, .int bf_size])), (bfa_hold, .inl (cy 0, 4, .inl bff_hold)), (bfa_harm, .inl (cy 0, 4, .inl bff_harm))]) (Qc := fun A => (va_Qi (fun (r : Int32) (u : Unit) => True) (kB D A (fun (u : Unit) => [(ba, .inr (2, [.ref bfa, .ref ba_least, .ref ba_without, .int b_minutes, .int b_found])), (ba_without, .inl (cy 0, 4, .inl bf_without)), (bfa, .inr (3, [.ref bfa_who, .ref bfa_hold, .ref bfa_harm, .ref bfa_cost, .int bf_size])), (bfa_hold, .inl (cy 0, 4, .inl bff_hold)), (bfa_harm, .inl (cy 0, 4, .inl bff_harm))])) A)) (by decide) (Nat.le_of_ble_eq_true rfl) ?_
  intro p e s m below meth c ls A E hA hP hD hG hS hl
  obtain ⟨Q0, hQ0⟩ : ∃ Q0 : State → Prop, Q0 = MQ below (va_Qi (fun (r : Int32) (u : Unit) => True) (kB D A (fun (u : Unit) => [(ba, .inr (2, [.ref bfa, .ref ba_least, .ref ba_without, .int b_minutes, .int b_found])), (ba_without, .inl (cy 0, 4, .inl bf_without)), (bfa, .inr (3, [.ref bfa_who, .ref bfa_hold, .ref bfa_harm, .ref bfa_cost, .int bf_size])), (bfa_hold, .inl (cy 0, 4, .inl bff_hold)), (bfa_harm, .inl (cy 0, 4, .inl bff_harm))])) A) ([.ref ba, .int t0, .int w0, .int l0] : List Value).toArray s 0 0 A := ⟨_, rfl⟩
  rw [← hQ0]
  obtain ⟨hx, hb, hml, hown, hts, hr, hlk, hnm⟩ := id E
  have hown : s.vm.findClass RX0 = some m.cls := hown
  have hl : lv_has ls 8 [(0, .ref ba), (1, .int t0), (2, .int w0), (3, .int l0)] := hl
  have g_t0 := k_rng t0
  have g_l0 := k_rng l0
  obtain ⟨H, hH⟩ : ∃ H, H = s.heap := ⟨_, rfl⟩
  have hP : va_P D vwCl [(ba, .inr (2, [.ref bfa, .ref ba_least, .ref ba_without, .int b_minutes, .int b_found])), (ba_without, .inl (cy 0, 4, .inl bf_without)), (bfa, .inr (3, [.ref bfa_who, .ref bfa_hold, .ref bfa_harm, .ref bfa_cost, .int bf_size])), (bfa_hold, .inl (cy 0, 4, .inl bff_hold)), (bfa_harm, .inl (cy 0, 4, .inl bff_harm))] H := by rw [hH]; exact hP
  have hS : va_S A s.heap H [] := by rw [hH]; exact va_S.rf
  rw [← hH]
  clear hH
  obtain ⟨locs, hlocs⟩ : ∃ locs : List Loc, locs = [] := ⟨_, rfl⟩
  rw [← hlocs] at hS ⊢
  refine lv_iconst (v := 0) hx hb dX0_harmOfStep_0 (by decide) ?_
  refine lv_istore (lv' := [(4, .int 0), (0, .ref ba), (1, .int t0), (2, .int w0), (3, .int l0)]) hx hb dX0_harmOfStep_1 hl (by decide) rfl (fun ls hl => ?_)
  refine lv_iconst (v := 0) hx hb dX0_harmOfStep_3 (by decide) ?_
  refine lv_istore (lv' := [(5, .int 0), (4, .int 0), (0, .ref ba), (1, .int t0), (2, .int w0), (3, .int l0)]) hx hb dX0_harmOfStep_4 hl (by decide) rfl (fun ls hl => ?_)
  have k1q : ∀ (n : Nat) (k1qy4 : Int32) (k1qy5 : Int32) (H : Heap) (locs : List Loc) (ls : Array Slot), 0 ≤ k1qy5.toInt ∧ k1qy5.toInt ≤ 4 → (4 - k1qy5.toInt).toNat = n → va_P D vwCl [(ba, .inr (2, [.ref bfa, .ref ba_least, .ref ba_without, .int b_minutes, .int b_found])), (ba_without, .inl (cy 0, 4, .inl bf_without)), (bfa, .inr (3, [.ref bfa_who, .ref bfa_hold, .ref bfa_harm, .ref bfa_cost, .int bf_size])), (bfa_hold, .inl (cy 0, 4, .inl bff_hold)), (bfa_harm, .inl (cy 0, 4, .inl bff_harm))] H → va_D A [(ba, .inr (2, [.ref bfa, .ref ba_least, .ref ba_without, .int b_minutes, .int b_found])), (ba_without, .inl (cy 0, 4, .inl bf_without)), (bfa, .inr (3, [.ref bfa_who, .ref bfa_hold, .ref bfa_harm, .ref bfa_cost, .int bf_size])), (bfa_hold, .inl (cy 0, 4, .inl bff_hold)), (bfa_harm, .inl (cy 0, 4, .inl bff_harm))] → va_S A s.heap H locs → lv_has ls 8 [(5, .int k1qy5), (4, .int k1qy4), (0, .ref ba), (1, .int t0), (2, .int w0), (3, .int l0)] → W p l e ({ frames := 10, cells := 0, slots := 0, locals := 300 }) s m ([.ref ba, .int t0, .int w0, .int l0] : List Value).toArray below meth c H locs 0 0 Q0 (F0 m 6 ls []) := by
    intro n
    induction n using Nat.strongRecOn with
    | ind n k1qih =>
      intro k1qy4 k1qy5 H locs ls hk1qy5 k1qm hP hD hS hl
      have gk1qy4 := k_rng k1qy4
      refine lv_iload hx hb dX0_harmOfStep_6 (lv_at hl 0 rfl) ?_
      refine lv_aload_n hx hb dX0_harmOfStep_8 rfl (lv_at hl 2 rfl) ?_
      refine va_get (D := D) (ci := 2) (v := .ref bfa) (C := RX0) (T := TX0) (N := 5) hx hb hts kin_RX0 hown hG.1 hP 0 rfl rfl 0 (by decide) (hts _ wm_400) (fun _ h9 => h9) rfl dX0_harmOfStep_9 ?_
      refine va_get (D := D) (ci := 3) (v := .int bf_size) (C := RX1) (T := TX1) (N := 5) hx hb hts kin_RX1 hown hG.1 hP 2 rfl rfl 4 (by decide) (hts _ wm_346) (fun _ h9 => h9) rfl dX0_harmOfStep_12 ?_
      refine lv_icmp_ge (tgt := 92) hx hb dX0_harmOfStep_15 (by decide) (fun c2q => ?_) (fun c2q => ?_)
      · simp only [k_lt, k_le, k_eq, ne_eq, ge_iff_le, gt_iff_lt] at c2q
        refine lv_iload hx hb dX0_harmOfStep_92 (lv_at hl 1 rfl) ?_
        rw [hQ0]
        exact k_iret () hx hb hr hlk (trivial) (hP.sub [0, 1, 2, 3, 4] rfl) (hD.sub [0, 1, 2, 3, 4] (by decide) rfl) hS (by decide) (by decide) dX0_harmOfStep_94
      · simp only [k_lt, k_le, k_eq, ne_eq, ge_iff_le, gt_iff_lt] at c2q
        refine lv_iload hx hb dX0_harmOfStep_18 (lv_at hl 0 rfl) ?_
        refine lv_iload_n hx hb dX0_harmOfStep_20 rfl (lv_at hl 3 rfl) ?_
        refine lv_icmp_ne (tgt := 28) hx hb dX0_harmOfStep_21 (by decide) (fun c3q => ?_) (fun c3q => ?_)
        · simp only [k_lt, k_le, k_eq, ne_eq, ge_iff_le, gt_iff_lt] at c3q
          refine lv_iload_n hx hb dX0_harmOfStep_28 rfl (lv_at hl 4 rfl) ?_
          refine lv_iconst (v := 1) hx hb dX0_harmOfStep_29 (by decide) ?_
          refine lv_iadd hx hb dX0_harmOfStep_30 ?_
          refine lv_topi (fun x4q ex4q => ?_)
          have rx4q := n_add ex4q (a := w0.toInt) (b := 1) rfl n_L1 (by omega) (by omega)
          refine lv_iload_n hx hb dX0_harmOfStep_31 rfl (lv_at hl 5 rfl) ?_
          refine va_mmin hx hb (hml.trans hl.1.symm) hown (hts _ wm_1466) (hts _ wm_519) (hts _ wm_17) (hts _ wm_520) (Nat.le_of_ble_eq_true rfl) (Nat.le_of_ble_eq_true rfl) (Nat.le_of_ble_eq_true rfl) (Nat.le_of_ble_eq_true rfl) dX0_harmOfStep_32 ?_
          refine lv_topi (fun x5q ex5q => ?_)
          have rx5q := n_min ex5q (a := x4q.toInt) (b := l0.toInt) rfl rfl
          refine lv_istore (lv' := [(6, .int x5q), (5, .int k1qy5), (4, .int k1qy4), (0, .ref ba), (1, .int t0), (2, .int w0), (3, .int l0)]) hx hb dX0_harmOfStep_35 hl (by decide) rfl (fun ls hl => ?_)
          refine lv_aload_n hx hb dX0_harmOfStep_37 rfl (lv_at hl 3 rfl) ?_
          refine va_get (D := D) (ci := 2) (v := .ref bfa) (C := RX0) (T := TX0) (N := 5) hx hb hts kin_RX0 hown hG.1 hP 0 rfl rfl 0 (by decide) (hts _ wm_400) (fun _ h9 => h9) rfl dX0_harmOfStep_38 ?_
          refine va_get (D := D) (ci := 3) (v := .ref bfa_hold) (C := RX1) (T := TX1) (N := 5) hx hb hts kin_RX1 hown hG.1 hP 2 rfl rfl 1 (by decide) (hts _ wm_339) (fun _ h9 => h9) rfl dX0_harmOfStep_41 ?_
          refine lv_iload hx hb dX0_harmOfStep_44 (lv_at hl 1 rfl) ?_
          refine va_iald hx hb hG.1 hP 3 0 rfl rfl (n_in (by omega) (by omega)) dX0_harmOfStep_46 ?_
          refine lv_topi (fun x6q ex6q => ?_)
          have rx6q : 0 ≤ x6q.toInt ∧ x6q.toInt ≤ 8 := by rw [ex6q]; exact h_bff_hold _ (n_lt (by omega) (by omega))
          refine lv_aload_n hx hb dX0_harmOfStep_47 rfl (lv_at hl 3 rfl) ?_
          refine va_get (D := D) (ci := 2) (v := .ref ba_without) (C := RX0) (T := TX0) (N := 5) hx hb hts kin_RX0 hown hG.1 hP 0 rfl rfl 2 (by decide) (hts _ wm_402) (fun _ h9 => h9) rfl dX0_harmOfStep_48 ?_
          refine lv_iload hx hb dX0_harmOfStep_51 (lv_at hl 1 rfl) ?_
          refine va_iald hx hb hG.1 hP 1 0 rfl rfl (n_in (by omega) (by omega)) dX0_harmOfStep_53 ?_
          refine lv_topi (fun x7q ex7q => ?_)
          have rx7q : 0 ≤ x7q.toInt ∧ x7q.toInt ≤ 9 := by rw [ex7q]; exact h_bf_without _ (n_lt (by omega) (by omega))
          refine lv_isub hx hb dX0_harmOfStep_54 ?_
          refine lv_topi (fun x8q ex8q => ?_)
          have rx8q := n_sub ex8q (a := x6q.toInt) (b := x7q.toInt) rfl rfl (by omega) (by omega)
          refine lv_iconst (v := 0) hx hb dX0_harmOfStep_55 (by decide) ?_
          refine va_mmax hx hb (hml.trans hl.1.symm) hown (hts _ wm_1481) (hts _ wm_648) (hts _ wm_17) (hts _ wm_649) (Nat.le_of_ble_eq_true rfl) (Nat.le_of_ble_eq_true rfl) (Nat.le_of_ble_eq_true rfl) (Nat.le_of_ble_eq_true rfl) dX0_harmOfStep_56 ?_
          refine lv_topi (fun x9q ex9q => ?_)
          have rx9q := n_max ex9q (a := x8q.toInt) (b := 0) rfl n_L0
          refine lv_istore (lv' := [(7, .int x9q), (6, .int x5q), (5, .int k1qy5), (4, .int k1qy4), (0, .ref ba), (1, .int t0), (2, .int w0), (3, .int l0)]) hx hb dX0_harmOfStep_59 hl (by decide) rfl (fun ls hl => ?_)
          refine lv_iload hx hb dX0_harmOfStep_61 (lv_at hl 3 rfl) ?_
          refine lv_aload_n hx hb dX0_harmOfStep_63 rfl (lv_at hl 4 rfl) ?_
          refine va_get (D := D) (ci := 2) (v := .ref bfa) (C := RX0) (T := TX0) (N := 5) hx hb hts kin_RX0 hown hG.1 hP 0 rfl rfl 0 (by decide) (hts _ wm_400) (fun _ h9 => h9) rfl dX0_harmOfStep_64 ?_
          refine va_get (D := D) (ci := 3) (v := .ref bfa_harm) (C := RX1) (T := TX1) (N := 5) hx hb hts kin_RX1 hown hG.1 hP 2 rfl rfl 2 (by decide) (hts _ wm_343) (fun _ h9 => h9) rfl dX0_harmOfStep_67 ?_
          refine lv_iload hx hb dX0_harmOfStep_70 (lv_at hl 2 rfl) ?_
          refine va_iald hx hb hG.1 hP 4 0 rfl rfl (n_in (by omega) (by omega)) dX0_harmOfStep_72 ?_
          refine lv_topi (fun x10q ex10q => ?_)
          refine lv_iload hx hb dX0_harmOfStep_73 (lv_at hl 1 rfl) ?_
          refine lv_iload hx hb dX0_harmOfStep_75 (lv_at hl 0 rfl) ?_
          refine lv_isub hx hb dX0_harmOfStep_77 ?_
          refine lv_topi (fun x11q ex11q => ?_)
          have gx11q := k_rng x5q
          refine lv_iconst (v := 0) hx hb dX0_harmOfStep_78 (by decide) ?_
          refine va_mmax hx hb (hml.trans hl.1.symm) hown (hts _ wm_1481) (hts _ wm_648) (hts _ wm_17) (hts _ wm_649) (Nat.le_of_ble_eq_true rfl) (Nat.le_of_ble_eq_true rfl) (Nat.le_of_ble_eq_true rfl) (Nat.le_of_ble_eq_true rfl) dX0_harmOfStep_79 ?_
          refine lv_topi (fun x12q ex12q => ?_)
          have rx12q := n_max ex12q (a := x11q.toInt) (b := 0) rfl n_L0
          refine lv_imul hx hb dX0_harmOfStep_82 ?_
          refine lv_topi (fun x13q ex13q => ?_)
          have gx13q := k_rng x10q
          have gx13q := k_rng x12q
          refine lv_iadd hx hb dX0_harmOfStep_83 ?_
          refine lv_topi (fun x14q ex14q => ?_)
          have gx14q := k_rng k1qy4
          have gx14q := k_rng x13q
          refine lv_istore (lv' := [(4, .int x14q), (7, .int x9q), (6, .int x5q), (5, .int k1qy5), (0, .ref ba), (1, .int t0), (2, .int w0), (3, .int l0)]) hx hb dX0_harmOfStep_84 hl (by decide) rfl (fun ls hl => ?_)
          obtain ⟨x15q, ex15q⟩ : ∃ z : Int32, z = k1qy5 + 1 := ⟨_, rfl⟩
          refine lv_iinc (v := x15q) (lv' := [(5, .int x15q), (4, .int x14q), (7, .int x9q), (6, .int x5q), (0, .ref ba), (1, .int t0), (2, .int w0), (3, .int l0)]) hx hb dX0_harmOfStep_86 hl (k := 3) rfl (by rw [ex15q]; rfl) (by decide) rfl (fun ls hl => ?_)
          have rx15q := n_add ex15q (a := k1qy5.toInt) (b := 1) rfl n_L1 (by omega) (by omega)
          refine lv_goto (tgt := 6) hx hb dX0_harmOfStep_89 (by decide) ?_
          exact k1qih ((4 - x15q.toInt).toNat) (by omega) x14q x15q H locs ls ⟨by omega, by omega⟩ rfl hP hD hS (lv_sub hl [0, 1, 4, 5, 6, 7] rfl)
        · simp only [k_lt, k_le, k_eq, ne_eq, ge_iff_le, gt_iff_lt] at c3q
          refine lv_iload_n hx hb dX0_harmOfStep_24 rfl (lv_at hl 4 rfl) ?_
          refine lv_goto (tgt := 31) hx hb dX0_harmOfStep_25 (by decide) ?_
          refine lv_iload_n hx hb dX0_harmOfStep_31 rfl (lv_at hl 5 rfl) ?_
          refine va_mmin hx hb (hml.trans hl.1.symm) hown (hts _ wm_1466) (hts _ wm_519) (hts _ wm_17) (hts _ wm_520) (Nat.le_of_ble_eq_true rfl) (Nat.le_of_ble_eq_true rfl) (Nat.le_of_ble_eq_true rfl) (Nat.le_of_ble_eq_true rfl) dX0_harmOfStep_32 ?_
          refine lv_topi (fun x16q ex16q => ?_)
          have rx16q := n_min ex16q (a := w0.toInt) (b := l0.toInt) rfl rfl
          refine lv_istore (lv' := [(6, .int x16q), (5, .int k1qy5), (4, .int k1qy4), (0, .ref ba), (1, .int t0), (2, .int w0), (3, .int l0)]) hx hb dX0_harmOfStep_35 hl (by decide) rfl (fun ls hl => ?_)
          refine lv_aload_n hx hb dX0_harmOfStep_37 rfl (lv_at hl 3 rfl) ?_
          refine va_get (D := D) (ci := 2) (v := .ref bfa) (C := RX0) (T := TX0) (N := 5) hx hb hts kin_RX0 hown hG.1 hP 0 rfl rfl 0 (by decide) (hts _ wm_400) (fun _ h9 => h9) rfl dX0_harmOfStep_38 ?_
          refine va_get (D := D) (ci := 3) (v := .ref bfa_hold) (C := RX1) (T := TX1) (N := 5) hx hb hts kin_RX1 hown hG.1 hP 2 rfl rfl 1 (by decide) (hts _ wm_339) (fun _ h9 => h9) rfl dX0_harmOfStep_41 ?_
          refine lv_iload hx hb dX0_harmOfStep_44 (lv_at hl 1 rfl) ?_
          refine va_iald hx hb hG.1 hP 3 0 rfl rfl (n_in (by omega) (by omega)) dX0_harmOfStep_46 ?_
          refine lv_topi (fun x17q ex17q => ?_)
          have rx17q : 0 ≤ x17q.toInt ∧ x17q.toInt ≤ 8 := by rw [ex17q]; exact h_bff_hold _ (n_lt (by omega) (by omega))
          refine lv_aload_n hx hb dX0_harmOfStep_47 rfl (lv_at hl 3 rfl) ?_
          refine va_get (D := D) (ci := 2) (v := .ref ba_without) (C := RX0) (T := TX0) (N := 5) hx hb hts kin_RX0 hown hG.1 hP 0 rfl rfl 2 (by decide) (hts _ wm_402) (fun _ h9 => h9) rfl dX0_harmOfStep_48 ?_
          refine lv_iload hx hb dX0_harmOfStep_51 (lv_at hl 1 rfl) ?_
          refine va_iald hx hb hG.1 hP 1 0 rfl rfl (n_in (by omega) (by omega)) dX0_harmOfStep_53 ?_
          refine lv_topi (fun x18q ex18q => ?_)
          have rx18q : 0 ≤ x18q.toInt ∧ x18q.toInt ≤ 9 := by rw [ex18q]; exact h_bf_without _ (n_lt (by omega) (by omega))
          refine lv_isub hx hb dX0_harmOfStep_54 ?_
          refine lv_topi (fun x19q ex19q => ?_)
          have rx19q := n_sub ex19q (a := x17q.toInt) (b := x18q.toInt) rfl rfl (by omega) (by omega)
          refine lv_iconst (v := 0) hx hb dX0_harmOfStep_55 (by decide) ?_
          refine va_mmax hx hb (hml.trans hl.1.symm) hown (hts _ wm_1481) (hts _ wm_648) (hts _ wm_17) (hts _ wm_649) (Nat.le_of_ble_eq_true rfl) (Nat.le_of_ble_eq_true rfl) (Nat.le_of_ble_eq_true rfl) (Nat.le_of_ble_eq_true rfl) dX0_harmOfStep_56 ?_
          refine lv_topi (fun x20q ex20q => ?_)
          have rx20q := n_max ex20q (a := x19q.toInt) (b := 0) rfl n_L0
          refine lv_istore (lv' := [(7, .int x20q), (6, .int x16q), (5, .int k1qy5), (4, .int k1qy4), (0, .ref ba), (1, .int t0), (2, .int w0), (3, .int l0)]) hx hb dX0_harmOfStep_59 hl (by decide) rfl (fun ls hl => ?_)
          refine lv_iload hx hb dX0_harmOfStep_61 (lv_at hl 3 rfl) ?_
          refine lv_aload_n hx hb dX0_harmOfStep_63 rfl (lv_at hl 4 rfl) ?_
          refine va_get (D := D) (ci := 2) (v := .ref bfa) (C := RX0) (T := TX0) (N := 5) hx hb hts kin_RX0 hown hG.1 hP 0 rfl rfl 0 (by decide) (hts _ wm_400) (fun _ h9 => h9) rfl dX0_harmOfStep_64 ?_
          refine va_get (D := D) (ci := 3) (v := .ref bfa_harm) (C := RX1) (T := TX1) (N := 5) hx hb hts kin_RX1 hown hG.1 hP 2 rfl rfl 2 (by decide) (hts _ wm_343) (fun _ h9 => h9) rfl dX0_harmOfStep_67 ?_
          refine lv_iload hx hb dX0_harmOfStep_70 (lv_at hl 2 rfl) ?_
          refine va_iald hx hb hG.1 hP 4 0 rfl rfl (n_in (by omega) (by omega)) dX0_harmOfStep_72 ?_
          refine lv_topi (fun x21q ex21q => ?_)
          refine lv_iload hx hb dX0_harmOfStep_73 (lv_at hl 1 rfl) ?_
          refine lv_iload hx hb dX0_harmOfStep_75 (lv_at hl 0 rfl) ?_
          refine lv_isub hx hb dX0_harmOfStep_77 ?_
          refine lv_topi (fun x22q ex22q => ?_)
          have gx22q := k_rng x16q
          refine lv_iconst (v := 0) hx hb dX0_harmOfStep_78 (by decide) ?_
          refine va_mmax hx hb (hml.trans hl.1.symm) hown (hts _ wm_1481) (hts _ wm_648) (hts _ wm_17) (hts _ wm_649) (Nat.le_of_ble_eq_true rfl) (Nat.le_of_ble_eq_true rfl) (Nat.le_of_ble_eq_true rfl) (Nat.le_of_ble_eq_true rfl) dX0_harmOfStep_79 ?_
          refine lv_topi (fun x23q ex23q => ?_)
          have rx23q := n_max ex23q (a := x22q.toInt) (b := 0) rfl n_L0
          refine lv_imul hx hb dX0_harmOfStep_82 ?_
          refine lv_topi (fun x24q ex24q => ?_)
          have gx24q := k_rng x21q
          have gx24q := k_rng x23q
          refine lv_iadd hx hb dX0_harmOfStep_83 ?_
          refine lv_topi (fun x25q ex25q => ?_)
          have gx25q := k_rng k1qy4
          have gx25q := k_rng x24q
          refine lv_istore (lv' := [(4, .int x25q), (7, .int x20q), (6, .int x16q), (5, .int k1qy5), (0, .ref ba), (1, .int t0), (2, .int w0), (3, .int l0)]) hx hb dX0_harmOfStep_84 hl (by decide) rfl (fun ls hl => ?_)
          obtain ⟨x26q, ex26q⟩ : ∃ z : Int32, z = k1qy5 + 1 := ⟨_, rfl⟩
          refine lv_iinc (v := x26q) (lv' := [(5, .int x26q), (4, .int x25q), (7, .int x20q), (6, .int x16q), (0, .ref ba), (1, .int t0), (2, .int w0), (3, .int l0)]) hx hb dX0_harmOfStep_86 hl (k := 3) rfl (by rw [ex26q]; rfl) (by decide) rfl (fun ls hl => ?_)
          have rx26q := n_add ex26q (a := k1qy5.toInt) (b := 1) rfl n_L1 (by omega) (by omega)
          refine lv_goto (tgt := 6) hx hb dX0_harmOfStep_89 (by decide) ?_
          exact k1qih ((4 - x26q.toInt).toNat) (by omega) x25q x26q H locs ls ⟨by omega, by omega⟩ rfl hP hD hS (lv_sub hl [0, 1, 4, 5, 6, 7] rfl)
  exact k1q _ 0 0 H locs ls ⟨by rw [n_L0]; omega, by rw [n_L0]; omega⟩ rfl hP hD hS (lv_sub hl [0, 1, 2, 3, 4, 5] rfl)

set_option maxHeartbeats 4000000 in
set_option maxRecDepth 100000 in
/-- Backlog.stateBehind -/
theorem c_bstateBehind (l : Launch) (hl0 : l.stackTraces = false) (D : va_G) (cy : Nat → ClassId) (sa : Nat → Nat) (ba ba_least ba_without bfa bfa_who bfa_hold bfa_harm bfa_cost : Nat) (b_minutes b_found bf_size t0 w0 : Int32) (bf_without bff_hold : Nat → Int32) (h_b_minutes : 0 ≤ b_minutes.toInt ∧ b_minutes.toInt ≤ 40) (h_bf_without : rowR 4 0 (9) bf_without) (h_bf_size : 0 ≤ bf_size.toInt ∧ bf_size.toInt ≤ 4) (h_bff_hold : rowR 4 0 (8) bff_hold) (h_t0 : 0 ≤ t0.toInt ∧ t0.toInt ≤ 3) (h_w0 : 0 ≤ w0.toInt ∧ w0.toInt ≤ 39) (sz : Nat) : Met l yX0_stateBehind (Cond.code yX0_stateBehind cX0_stateBehind 5 (some .int) :: kWS) ({ frames := 10, cells := 0, slots := 0, locals := 300 }) (kPre D cy sa [.ref ba, .int t0, .int w0] [(ba, .inr (2, [.ref bfa, .ref ba_least, .ref ba_without, .int b_minutes, .int b_found])), (ba_without, .inl (cy 0, 4, .inl bf_without)), (bfa, .inr (3, [.ref bfa_who, .ref bfa_hold, .ref bfa_harm, .ref bfa_cost, .int bf_size])), (bfa_hold, .inl (cy 0, 4, .inl bff_hold))] sz) (va_Qi (fun (r : Int32) (u : Unit) => (0 ≤ r.toInt ∧ r.toInt ≤ 10299)) (kB D (va_A [(ba, .inr (2, [.ref bfa, .ref ba_least, .ref ba_without, .int b_minutes, .int b_found])), (ba_without, .inl (cy 0, 4, .inl bf_without)), (bfa, .inr (3, [.ref bfa_who, .ref bfa_hold, .ref bfa_harm, .ref bfa_cost, .int bf_size])), (bfa_hold, .inl (cy 0, 4, .inl bff_hold))] sz) (fun (u : Unit) => [(ba, .inr (2, [.ref bfa, .ref ba_least, .ref ba_without, .int b_minutes, .int b_found])), (ba_without, .inl (cy 0, 4, .inl bf_without)), (bfa, .inr (3, [.ref bfa_who, .ref bfa_hold, .ref bfa_harm, .ref bfa_cost, .int bf_size])), (bfa_hold, .inl (cy 0, 4, .inl bff_hold))])) (va_A [(ba, .inr (2, [.ref bfa, .ref ba_least, .ref ba_without, .int b_minutes, .int b_found])), (ba_without, .inl (cy 0, 4, .inl bf_without)), (bfa, .inr (3, [.ref bfa_who, .ref bfa_hold, .ref bfa_harm, .ref bfa_cost, .int bf_size])), (bfa_hold, .inl (cy 0, 4, .inl bff_hold))] sz)) 0 0 (va_A [(ba, .inr (2, [.ref bfa, .ref ba_least, .ref ba_without, .int b_minutes, .int b_found])), (ba_without, .inl (cy 0, 4, .inl bf_without)), (bfa, .inr (3, [.ref bfa_who, .ref bfa_hold, .ref bfa_harm, .ref bfa_cost, .int bf_size])), (bfa_hold, .inl (cy 0, 4, .inl bff_hold))] sz) := by
  refine k_ofW (y := yX0_stateBehind) (cc := cX0_stateBehind) (maxL := 5) (ret := (some .int)) (av := [.ref ba, .int t0, .int w0]) (ws := [(ba, .inr (2, [.ref bfa, .ref ba_least, .ref ba_without, .int b_minutes, .int b_found])), (ba_without, .inl (cy 0, 4, .inl bf_without)), (bfa, .inr (3, [.ref bfa_who, .ref bfa_hold, .ref bfa_harm, .ref bfa_cost, .int bf_size])), (bfa_hold, .inl (cy 0, 4, .inl bff_hold))]) (Qc := fun A => (va_Qi (fun (r : Int32) (u : Unit) => (0 ≤ r.toInt ∧ r.toInt ≤ 10299)) (kB D A (fun (u : Unit) => [(ba, .inr (2, [.ref bfa, .ref ba_least, .ref ba_without, .int b_minutes, .int b_found])), (ba_without, .inl (cy 0, 4, .inl bf_without)), (bfa, .inr (3, [.ref bfa_who, .ref bfa_hold, .ref bfa_harm, .ref bfa_cost, .int bf_size])), (bfa_hold, .inl (cy 0, 4, .inl bff_hold))])) A)) (by decide) (Nat.le_of_ble_eq_true rfl) ?_
  intro p e s m below meth c ls A E hA hP hD hG hS hl
  obtain ⟨Q0, hQ0⟩ : ∃ Q0 : State → Prop, Q0 = MQ below (va_Qi (fun (r : Int32) (u : Unit) => (0 ≤ r.toInt ∧ r.toInt ≤ 10299)) (kB D A (fun (u : Unit) => [(ba, .inr (2, [.ref bfa, .ref ba_least, .ref ba_without, .int b_minutes, .int b_found])), (ba_without, .inl (cy 0, 4, .inl bf_without)), (bfa, .inr (3, [.ref bfa_who, .ref bfa_hold, .ref bfa_harm, .ref bfa_cost, .int bf_size])), (bfa_hold, .inl (cy 0, 4, .inl bff_hold))])) A) ([.ref ba, .int t0, .int w0] : List Value).toArray s 0 0 A := ⟨_, rfl⟩
  rw [← hQ0]
  obtain ⟨hx, hb, hml, hown, hts, hr, hlk, hnm⟩ := id E
  have hown : s.vm.findClass RX0 = some m.cls := hown
  have hl : lv_has ls 5 [(0, .ref ba), (1, .int t0), (2, .int w0)] := hl
  obtain ⟨H, hH⟩ : ∃ H, H = s.heap := ⟨_, rfl⟩
  have hP : va_P D vwCl [(ba, .inr (2, [.ref bfa, .ref ba_least, .ref ba_without, .int b_minutes, .int b_found])), (ba_without, .inl (cy 0, 4, .inl bf_without)), (bfa, .inr (3, [.ref bfa_who, .ref bfa_hold, .ref bfa_harm, .ref bfa_cost, .int bf_size])), (bfa_hold, .inl (cy 0, 4, .inl bff_hold))] H := by rw [hH]; exact hP
  have hS : va_S A s.heap H [] := by rw [hH]; exact va_S.rf
  rw [← hH]
  clear hH
  obtain ⟨locs, hlocs⟩ : ∃ locs : List Loc, locs = [] := ⟨_, rfl⟩
  rw [← hlocs] at hS ⊢
  refine lv_iconst (v := 0) hx hb dX0_stateBehind_0 (by decide) ?_
  refine lv_istore_n (lv' := [(3, .int 0), (0, .ref ba), (1, .int t0), (2, .int w0)]) hx hb dX0_stateBehind_1 rfl hl (by decide) rfl (fun ls hl => ?_)
  refine lv_iconst (v := 0) hx hb dX0_stateBehind_2 (by decide) ?_
  refine lv_istore (lv' := [(4, .int 0), (3, .int 0), (0, .ref ba), (1, .int t0), (2, .int w0)]) hx hb dX0_stateBehind_3 hl (by decide) rfl (fun ls hl => ?_)
  have k1q : ∀ (n : Nat) (k1qy3 : Int32) (k1qy4 : Int32) (H : Heap) (locs : List Loc) (ls : Array Slot), 0 ≤ k1qy3.toInt ∧ k1qy3.toInt ≤ 9999 → 0 ≤ k1qy4.toInt ∧ k1qy4.toInt ≤ 4 → (k1qy4.toInt = 0 ∧ k1qy3.toInt ≤ 0) ∨ (k1qy4.toInt = 1 ∧ k1qy3.toInt ≤ 9) ∨ (k1qy4.toInt = 2 ∧ k1qy3.toInt ≤ 99) ∨ (k1qy4.toInt = 3 ∧ k1qy3.toInt ≤ 999) ∨ (k1qy4.toInt = 4 ∧ k1qy3.toInt ≤ 9999) → (4 - k1qy4.toInt).toNat = n → va_P D vwCl [(ba, .inr (2, [.ref bfa, .ref ba_least, .ref ba_without, .int b_minutes, .int b_found])), (ba_without, .inl (cy 0, 4, .inl bf_without)), (bfa, .inr (3, [.ref bfa_who, .ref bfa_hold, .ref bfa_harm, .ref bfa_cost, .int bf_size])), (bfa_hold, .inl (cy 0, 4, .inl bff_hold))] H → va_D A [(ba, .inr (2, [.ref bfa, .ref ba_least, .ref ba_without, .int b_minutes, .int b_found])), (ba_without, .inl (cy 0, 4, .inl bf_without)), (bfa, .inr (3, [.ref bfa_who, .ref bfa_hold, .ref bfa_harm, .ref bfa_cost, .int bf_size])), (bfa_hold, .inl (cy 0, 4, .inl bff_hold))] → va_S A s.heap H locs → lv_has ls 5 [(4, .int k1qy4), (3, .int k1qy3), (0, .ref ba), (1, .int t0), (2, .int w0)] → W p l e ({ frames := 10, cells := 0, slots := 0, locals := 300 }) s m ([.ref ba, .int t0, .int w0] : List Value).toArray below meth c H locs 0 0 Q0 (F0 m 5 ls []) := by
    intro n
    induction n using Nat.strongRecOn with
    | ind n k1qih =>
      intro k1qy3 k1qy4 H locs ls hk1qy3 hk1qy4 hk1qi0 k1qm hP hD hS hl
      refine lv_iload hx hb dX0_stateBehind_5 (lv_at hl 0 rfl) ?_
      refine lv_aload_n hx hb dX0_stateBehind_7 rfl (lv_at hl 2 rfl) ?_
      refine va_get (D := D) (ci := 2) (v := .ref bfa) (C := RX0) (T := TX0) (N := 5) hx hb hts kin_RX0 hown hG.1 hP 0 rfl rfl 0 (by decide) (hts _ wm_400) (fun _ h9 => h9) rfl dX0_stateBehind_8 ?_
      refine va_get (D := D) (ci := 3) (v := .int bf_size) (C := RX1) (T := TX1) (N := 5) hx hb hts kin_RX1 hown hG.1 hP 2 rfl rfl 4 (by decide) (hts _ wm_346) (fun _ h9 => h9) rfl dX0_stateBehind_11 ?_
      refine lv_icmp_ge (tgt := 61) hx hb dX0_stateBehind_14 (by decide) (fun c2q => ?_) (fun c2q => ?_)
      · simp only [k_lt, k_le, k_eq, ne_eq, ge_iff_le, gt_iff_lt] at c2q
        refine lv_iload_n hx hb dX0_stateBehind_61 rfl (lv_at hl 3 rfl) ?_
        refine lv_bipush (v := 100) hx hb dX0_stateBehind_62 (by decide) ?_
        refine lv_imul hx hb dX0_stateBehind_64 ?_
        refine lv_topi (fun x3q ex3q => ?_)
        have rx3q := n_mul ex3q (a := t0.toInt) (b := 100) rfl n_L100 (by omega) (by omega)
        refine lv_iload_n hx hb dX0_stateBehind_65 rfl (lv_at hl 1 rfl) ?_
        refine lv_iadd hx hb dX0_stateBehind_66 ?_
        refine lv_topi (fun x4q ex4q => ?_)
        have rx4q := n_add ex4q (a := x3q.toInt) (b := k1qy3.toInt) rfl rfl (by omega) (by omega)
        rw [hQ0]
        exact k_iret () hx hb hr hlk ((show 0 ≤ x4q.toInt ∧ x4q.toInt ≤ 10299 by omega)) (hP.sub [0, 1, 2, 3] rfl) (hD.sub [0, 1, 2, 3] (by decide) rfl) hS (by decide) (by decide) dX0_stateBehind_67
      · simp only [k_lt, k_le, k_eq, ne_eq, ge_iff_le, gt_iff_lt] at c2q
        refine lv_iload hx hb dX0_stateBehind_17 (lv_at hl 0 rfl) ?_
        refine lv_iload_n hx hb dX0_stateBehind_19 rfl (lv_at hl 3 rfl) ?_
        refine lv_icmp_eq (tgt := 55) hx hb dX0_stateBehind_20 (by decide) (fun c5q => ?_) (fun c5q => ?_)
        · simp only [k_lt, k_le, k_eq, ne_eq, ge_iff_le, gt_iff_lt] at c5q
          obtain ⟨x6q, ex6q⟩ : ∃ z : Int32, z = k1qy4 + 1 := ⟨_, rfl⟩
          refine lv_iinc (v := x6q) (lv' := [(4, .int x6q), (3, .int k1qy3), (0, .ref ba), (1, .int t0), (2, .int w0)]) hx hb dX0_stateBehind_55 hl (k := 0) rfl (by rw [ex6q]; rfl) (by decide) rfl (fun ls hl => ?_)
          have rx6q := n_add ex6q (a := k1qy4.toInt) (b := 1) rfl n_L1 (by omega) (by omega)
          refine lv_goto (tgt := 5) hx hb dX0_stateBehind_58 (by decide) ?_
          exact k1qih ((4 - x6q.toInt).toNat) (by omega) k1qy3 x6q H locs ls ⟨by omega, by omega⟩ ⟨by omega, by omega⟩ (show (x6q.toInt = 0 ∧ k1qy3.toInt ≤ 0) ∨ (x6q.toInt = 1 ∧ k1qy3.toInt ≤ 9) ∨ (x6q.toInt = 2 ∧ k1qy3.toInt ≤ 99) ∨ (x6q.toInt = 3 ∧ k1qy3.toInt ≤ 999) ∨ (x6q.toInt = 4 ∧ k1qy3.toInt ≤ 9999) by omega) rfl hP hD hS (lv_sub hl [0, 1, 2, 3, 4] rfl)
        · simp only [k_lt, k_le, k_eq, ne_eq, ge_iff_le, gt_iff_lt] at c5q
          refine lv_iload_n hx hb dX0_stateBehind_23 rfl (lv_at hl 1 rfl) ?_
          refine lv_bipush (v := 10) hx hb dX0_stateBehind_24 (by decide) ?_
          refine lv_imul hx hb dX0_stateBehind_26 ?_
          refine lv_topi (fun x7q ex7q => ?_)
          have rx7q := n_mul ex7q (a := k1qy3.toInt) (b := 10) rfl n_L10 (by omega) (by omega)
          refine lv_aload_n hx hb dX0_stateBehind_27 rfl (lv_at hl 2 rfl) ?_
          refine va_get (D := D) (ci := 2) (v := .ref ba_without) (C := RX0) (T := TX0) (N := 5) hx hb hts kin_RX0 hown hG.1 hP 0 rfl rfl 2 (by decide) (hts _ wm_402) (fun _ h9 => h9) rfl dX0_stateBehind_28 ?_
          refine lv_iload hx hb dX0_stateBehind_31 (lv_at hl 0 rfl) ?_
          refine va_iald hx hb hG.1 hP 1 0 rfl rfl (n_in (by omega) (by omega)) dX0_stateBehind_33 ?_
          refine lv_topi (fun x8q ex8q => ?_)
          have rx8q : 0 ≤ x8q.toInt ∧ x8q.toInt ≤ 9 := by rw [ex8q]; exact h_bf_without _ (n_lt (by omega) (by omega))
          refine lv_iload_n hx hb dX0_stateBehind_34 rfl (lv_at hl 4 rfl) ?_
          refine lv_iadd hx hb dX0_stateBehind_35 ?_
          refine lv_topi (fun x9q ex9q => ?_)
          have rx9q := n_add ex9q (a := x8q.toInt) (b := w0.toInt) rfl rfl (by omega) (by omega)
          refine lv_iconst (v := 1) hx hb dX0_stateBehind_36 (by decide) ?_
          refine lv_iadd hx hb dX0_stateBehind_37 ?_
          refine lv_topi (fun x10q ex10q => ?_)
          have rx10q := n_add ex10q (a := x9q.toInt) (b := 1) rfl n_L1 (by omega) (by omega)
          refine lv_aload_n hx hb dX0_stateBehind_38 rfl (lv_at hl 2 rfl) ?_
          refine va_get (D := D) (ci := 2) (v := .ref bfa) (C := RX0) (T := TX0) (N := 5) hx hb hts kin_RX0 hown hG.1 hP 0 rfl rfl 0 (by decide) (hts _ wm_400) (fun _ h9 => h9) rfl dX0_stateBehind_39 ?_
          refine va_get (D := D) (ci := 3) (v := .ref bfa_hold) (C := RX1) (T := TX1) (N := 5) hx hb hts kin_RX1 hown hG.1 hP 2 rfl rfl 1 (by decide) (hts _ wm_339) (fun _ h9 => h9) rfl dX0_stateBehind_42 ?_
          refine lv_iload hx hb dX0_stateBehind_45 (lv_at hl 0 rfl) ?_
          refine va_iald hx hb hG.1 hP 3 0 rfl rfl (n_in (by omega) (by omega)) dX0_stateBehind_47 ?_
          refine lv_topi (fun x11q ex11q => ?_)
          have rx11q : 0 ≤ x11q.toInt ∧ x11q.toInt ≤ 8 := by rw [ex11q]; exact h_bff_hold _ (n_lt (by omega) (by omega))
          refine lv_iconst (v := 1) hx hb dX0_stateBehind_48 (by decide) ?_
          refine lv_iadd hx hb dX0_stateBehind_49 ?_
          refine lv_topi (fun x12q ex12q => ?_)
          have rx12q := n_add ex12q (a := x11q.toInt) (b := 1) rfl n_L1 (by omega) (by omega)
          refine va_mmin hx hb (hml.trans hl.1.symm) hown (hts _ wm_1466) (hts _ wm_519) (hts _ wm_17) (hts _ wm_520) (Nat.le_of_ble_eq_true rfl) (Nat.le_of_ble_eq_true rfl) (Nat.le_of_ble_eq_true rfl) (Nat.le_of_ble_eq_true rfl) dX0_stateBehind_50 ?_
          refine lv_topi (fun x13q ex13q => ?_)
          have rx13q := n_min ex13q (a := x10q.toInt) (b := x12q.toInt) rfl rfl
          refine lv_iadd hx hb dX0_stateBehind_53 ?_
          refine lv_topi (fun x14q ex14q => ?_)
          have rx14q := n_add ex14q (a := x7q.toInt) (b := x13q.toInt) rfl rfl (by omega) (by omega)
          refine lv_istore_n (lv' := [(3, .int x14q), (4, .int k1qy4), (0, .ref ba), (1, .int t0), (2, .int w0)]) hx hb dX0_stateBehind_54 rfl hl (by decide) rfl (fun ls hl => ?_)
          obtain ⟨x15q, ex15q⟩ : ∃ z : Int32, z = k1qy4 + 1 := ⟨_, rfl⟩
          refine lv_iinc (v := x15q) (lv' := [(4, .int x15q), (3, .int x14q), (0, .ref ba), (1, .int t0), (2, .int w0)]) hx hb dX0_stateBehind_55 hl (k := 1) rfl (by rw [ex15q]; rfl) (by decide) rfl (fun ls hl => ?_)
          have rx15q := n_add ex15q (a := k1qy4.toInt) (b := 1) rfl n_L1 (by omega) (by omega)
          refine lv_goto (tgt := 5) hx hb dX0_stateBehind_58 (by decide) ?_
          exact k1qih ((4 - x15q.toInt).toNat) (by omega) x14q x15q H locs ls ⟨by omega, by omega⟩ ⟨by omega, by omega⟩ (show (x15q.toInt = 0 ∧ x14q.toInt ≤ 0) ∨ (x15q.toInt = 1 ∧ x14q.toInt ≤ 9) ∨ (x15q.toInt = 2 ∧ x14q.toInt ≤ 99) ∨ (x15q.toInt = 3 ∧ x14q.toInt ≤ 999) ∨ (x15q.toInt = 4 ∧ x14q.toInt ≤ 9999) by omega) rfl hP hD hS (lv_sub hl [0, 1, 2, 3, 4] rfl)
  exact k1q _ 0 0 H locs ls ⟨by rw [n_L0]; omega, by rw [n_L0]; omega⟩ ⟨by rw [n_L0]; omega, by rw [n_L0]; omega⟩ (show ((0 : Int32).toInt = 0 ∧ (0 : Int32).toInt ≤ 0) ∨ ((0 : Int32).toInt = 1 ∧ (0 : Int32).toInt ≤ 9) ∨ ((0 : Int32).toInt = 2 ∧ (0 : Int32).toInt ≤ 99) ∨ ((0 : Int32).toInt = 3 ∧ (0 : Int32).toInt ≤ 999) ∨ ((0 : Int32).toInt = 4 ∧ (0 : Int32).toInt ≤ 9999) by first | omega | (simp only [n_L0]; omega) | (simp only [n_L0]; done) | decide) rfl hP hD hS (lv_sub hl [0, 1, 2, 3, 4] rfl)

set_option maxHeartbeats 4000000 in
set_option maxRecDepth 100000 in
/-- Backlog.goOn -/
theorem c_goOn (l : Launch) (hl0 : l.stackTraces = false) (D : va_G) (cy : Nat → ClassId) (sa : Nat → Nat) (ba ba_least ba_without bfa bfa_who bfa_hold bfa_harm bfa_cost : Nat) (b_minutes b_found bf_size n0 m0 v0 : Int32) (bf_least bf_without bff_hold bff_harm bff_cost : Nat → Int32) (h_b_minutes : 0 ≤ b_minutes.toInt ∧ b_minutes.toInt ≤ 40) (h_bf_without : rowR 4 0 (9) bf_without) (h_bf_size : 0 ≤ bf_size.toInt ∧ bf_size.toInt ≤ 4) (h_bff_hold : rowR 4 0 (8) bff_hold) (h_bff_cost : rowR 16 0 (39) bff_cost) (h_n0 : 0 ≤ n0.toInt ∧ n0.toInt ≤ 39) (sz : Nat) : Met l yX0_goOn (Cond.code yX0_goOn cX0_goOn 9 none :: kWS) ({ frames := 12, cells := 0, slots := 0, locals := 420 }) (kPre D cy sa [.ref ba, .int n0, .int m0, .int v0] [(ba, .inr (2, [.ref bfa, .ref ba_least, .ref ba_without, .int b_minutes, .int b_found])), (ba_least, .inl (cy 0, 12000, .inl bf_least)), (ba_without, .inl (cy 0, 4, .inl bf_without)), (bfa, .inr (3, [.ref bfa_who, .ref bfa_hold, .ref bfa_harm, .ref bfa_cost, .int bf_size])), (bfa_hold, .inl (cy 0, 4, .inl bff_hold)), (bfa_harm, .inl (cy 0, 4, .inl bff_harm)), (bfa_cost, .inl (cy 0, 16, .inl bff_cost))] sz) (va_Qv (fun (u : (Nat → Int32) × (Nat → Nat → Int32)) => True) (kB D (va_A [(ba, .inr (2, [.ref bfa, .ref ba_least, .ref ba_without, .int b_minutes, .int b_found])), (ba_least, .inl (cy 0, 12000, .inl bf_least)), (ba_without, .inl (cy 0, 4, .inl bf_without)), (bfa, .inr (3, [.ref bfa_who, .ref bfa_hold, .ref bfa_harm, .ref bfa_cost, .int bf_size])), (bfa_hold, .inl (cy 0, 4, .inl bff_hold)), (bfa_harm, .inl (cy 0, 4, .inl bff_harm)), (bfa_cost, .inl (cy 0, 16, .inl bff_cost))] sz) (fun (u : (Nat → Int32) × (Nat → Nat → Int32)) => [(ba, .inr (2, [.ref bfa, .ref ba_least, .ref ba_without, .int b_minutes, .int ((u.1 0))])), (ba_least, .inl (cy 0, 12000, .inl ((u.2 0)))), (ba_without, .inl (cy 0, 4, .inl bf_without)), (bfa, .inr (3, [.ref bfa_who, .ref bfa_hold, .ref bfa_harm, .ref bfa_cost, .int bf_size])), (bfa_hold, .inl (cy 0, 4, .inl bff_hold)), (bfa_harm, .inl (cy 0, 4, .inl bff_harm)), (bfa_cost, .inl (cy 0, 16, .inl bff_cost))])) (va_A [(ba, .inr (2, [.ref bfa, .ref ba_least, .ref ba_without, .int b_minutes, .int b_found])), (ba_least, .inl (cy 0, 12000, .inl bf_least)), (ba_without, .inl (cy 0, 4, .inl bf_without)), (bfa, .inr (3, [.ref bfa_who, .ref bfa_hold, .ref bfa_harm, .ref bfa_cost, .int bf_size])), (bfa_hold, .inl (cy 0, 4, .inl bff_hold)), (bfa_harm, .inl (cy 0, 4, .inl bff_harm)), (bfa_cost, .inl (cy 0, 16, .inl bff_cost))] sz)) 0 0 (va_A [(ba, .inr (2, [.ref bfa, .ref ba_least, .ref ba_without, .int b_minutes, .int b_found])), (ba_least, .inl (cy 0, 12000, .inl bf_least)), (ba_without, .inl (cy 0, 4, .inl bf_without)), (bfa, .inr (3, [.ref bfa_who, .ref bfa_hold, .ref bfa_harm, .ref bfa_cost, .int bf_size])), (bfa_hold, .inl (cy 0, 4, .inl bff_hold)), (bfa_harm, .inl (cy 0, 4, .inl bff_harm)), (bfa_cost, .inl (cy 0, 16, .inl bff_cost))] sz) := by
  refine k_ofW (y := yX0_goOn) (cc := cX0_goOn) (maxL := 9) (ret := none) (av := [.ref ba, .int n0, .int m0, .int v0]) (ws := [(ba, .inr (2, [.ref bfa, .ref ba_least, .ref ba_without, .int b_minutes, .int b_found])), (ba_least, .inl (cy 0, 12000, .inl bf_least)), (ba_without, .inl (cy 0, 4, .inl bf_without)), (bfa, .inr (3, [.ref bfa_who, .ref bfa_hold, .ref bfa_harm, .ref bfa_cost, .int bf_size])), (bfa_hold, .inl (cy 0, 4, .inl bff_hold)), (bfa_harm, .inl (cy 0, 4, .inl bff_harm)), (bfa_cost, .inl (cy 0, 16, .inl bff_cost))]) (Qc := fun A => (va_Qv (fun (u : (Nat → Int32) × (Nat → Nat → Int32)) => True) (kB D A (fun (u : (Nat → Int32) × (Nat → Nat → Int32)) => [(ba, .inr (2, [.ref bfa, .ref ba_least, .ref ba_without, .int b_minutes, .int ((u.1 0))])), (ba_least, .inl (cy 0, 12000, .inl ((u.2 0)))), (ba_without, .inl (cy 0, 4, .inl bf_without)), (bfa, .inr (3, [.ref bfa_who, .ref bfa_hold, .ref bfa_harm, .ref bfa_cost, .int bf_size])), (bfa_hold, .inl (cy 0, 4, .inl bff_hold)), (bfa_harm, .inl (cy 0, 4, .inl bff_harm)), (bfa_cost, .inl (cy 0, 16, .inl bff_cost))])) A)) (by decide) (Nat.le_of_ble_eq_true rfl) ?_
  intro p e s m below meth c ls A E hA hP hD hG hS hl
  obtain ⟨Q0, hQ0⟩ : ∃ Q0 : State → Prop, Q0 = MQ below (va_Qv (fun (u : (Nat → Int32) × (Nat → Nat → Int32)) => True) (kB D A (fun (u : (Nat → Int32) × (Nat → Nat → Int32)) => [(ba, .inr (2, [.ref bfa, .ref ba_least, .ref ba_without, .int b_minutes, .int ((u.1 0))])), (ba_least, .inl (cy 0, 12000, .inl ((u.2 0)))), (ba_without, .inl (cy 0, 4, .inl bf_without)), (bfa, .inr (3, [.ref bfa_who, .ref bfa_hold, .ref bfa_harm, .ref bfa_cost, .int bf_size])), (bfa_hold, .inl (cy 0, 4, .inl bff_hold)), (bfa_harm, .inl (cy 0, 4, .inl bff_harm)), (bfa_cost, .inl (cy 0, 16, .inl bff_cost))])) A) ([.ref ba, .int n0, .int m0, .int v0] : List Value).toArray s 0 0 A := ⟨_, rfl⟩
  rw [← hQ0]
  obtain ⟨hx, hb, hml, hown, hts, hr, hlk, hnm⟩ := id E
  have hown : s.vm.findClass RX0 = some m.cls := hown
  have hl : lv_has ls 9 [(0, .ref ba), (1, .int n0), (2, .int m0), (3, .int v0)] := hl
  have g_m0 := k_rng m0
  have g_v0 := k_rng v0
  obtain ⟨H, hH⟩ : ∃ H, H = s.heap := ⟨_, rfl⟩
  have hP : va_P D vwCl [(ba, .inr (2, [.ref bfa, .ref ba_least, .ref ba_without, .int b_minutes, .int b_found])), (ba_least, .inl (cy 0, 12000, .inl bf_least)), (ba_without, .inl (cy 0, 4, .inl bf_without)), (bfa, .inr (3, [.ref bfa_who, .ref bfa_hold, .ref bfa_harm, .ref bfa_cost, .int bf_size])), (bfa_hold, .inl (cy 0, 4, .inl bff_hold)), (bfa_harm, .inl (cy 0, 4, .inl bff_harm)), (bfa_cost, .inl (cy 0, 16, .inl bff_cost))] H := by rw [hH]; exact hP
  have hS : va_S A s.heap H [] := by rw [hH]; exact va_S.rf
  rw [← hH]
  clear hH
  obtain ⟨locs, hlocs⟩ : ∃ locs : List Loc, locs = [] := ⟨_, rfl⟩
  rw [← hlocs] at hS ⊢
  refine lv_iconst (v := 0) hx hb dX0_goOn_0 (by decide) ?_
  refine lv_istore (lv' := [(4, .int 0), (0, .ref ba), (1, .int n0), (2, .int m0), (3, .int v0)]) hx hb dX0_goOn_1 hl (by decide) rfl (fun ls hl => ?_)
  have k1q : ∀ (n : Nat) (k1qy4 : Int32) (k1qb_found : Int32) (k1qbf_least : Nat → Int32) (H : Heap) (locs : List Loc) (ls : Array Slot), 0 ≤ k1qy4.toInt ∧ k1qy4.toInt ≤ 4 → (4 - k1qy4.toInt).toNat = n → va_P D vwCl [(ba, .inr (2, [.ref bfa, .ref ba_least, .ref ba_without, .int b_minutes, .int k1qb_found])), (ba_least, .inl (cy 0, 12000, .inl k1qbf_least)), (ba_without, .inl (cy 0, 4, .inl bf_without)), (bfa, .inr (3, [.ref bfa_who, .ref bfa_hold, .ref bfa_harm, .ref bfa_cost, .int bf_size])), (bfa_hold, .inl (cy 0, 4, .inl bff_hold)), (bfa_harm, .inl (cy 0, 4, .inl bff_harm)), (bfa_cost, .inl (cy 0, 16, .inl bff_cost))] H → va_D A [(ba, .inr (2, [.ref bfa, .ref ba_least, .ref ba_without, .int b_minutes, .int k1qb_found])), (ba_least, .inl (cy 0, 12000, .inl k1qbf_least)), (ba_without, .inl (cy 0, 4, .inl bf_without)), (bfa, .inr (3, [.ref bfa_who, .ref bfa_hold, .ref bfa_harm, .ref bfa_cost, .int bf_size])), (bfa_hold, .inl (cy 0, 4, .inl bff_hold)), (bfa_harm, .inl (cy 0, 4, .inl bff_harm)), (bfa_cost, .inl (cy 0, 16, .inl bff_cost))] → va_S A s.heap H locs → lv_has ls 9 [(4, .int k1qy4), (0, .ref ba), (1, .int n0), (2, .int m0), (3, .int v0)] → W p l e ({ frames := 12, cells := 0, slots := 0, locals := 420 }) s m ([.ref ba, .int n0, .int m0, .int v0] : List Value).toArray below meth c H locs 0 0 Q0 (F0 m 3 ls []) := by
    intro n
    induction n using Nat.strongRecOn with
    | ind n k1qih =>
      intro k1qy4 k1qb_found k1qbf_least H locs ls hk1qy4 k1qm hP hD hS hl
      have gk1qb_found := k_rng k1qb_found
      refine lv_iload hx hb dX0_goOn_3 (lv_at hl 0 rfl) ?_
      refine lv_aload_n hx hb dX0_goOn_5 rfl (lv_at hl 1 rfl) ?_
      refine va_get (D := D) (ci := 2) (v := .ref bfa) (C := RX0) (T := TX0) (N := 5) hx hb hts kin_RX0 hown hG.1 hP 0 rfl rfl 0 (by decide) (hts _ wm_400) (fun _ h9 => h9) rfl dX0_goOn_6 ?_
      refine va_get (D := D) (ci := 3) (v := .int bf_size) (C := RX1) (T := TX1) (N := 5) hx hb hts kin_RX1 hown hG.1 hP 3 rfl rfl 4 (by decide) (hts _ wm_346) (fun _ h9 => h9) rfl dX0_goOn_9 ?_
      refine lv_icmp_ge (tgt := 143) hx hb dX0_goOn_12 (by decide) (fun c2q => ?_) (fun c2q => ?_)
      · simp only [k_lt, k_le, k_eq, ne_eq, ge_iff_le, gt_iff_lt] at c2q
        rw [hQ0]
        exact k_vret (fun k => [k1qb_found].getD k 0, fun k => [k1qbf_least].getD k (fun _ => 0)) hx hb hr hlk (trivial) (hP.sub [0, 1, 2, 3, 4, 5, 6] rfl) (hD.sub [0, 1, 2, 3, 4, 5, 6] (by decide) rfl) hS (by decide) (by decide) dX0_goOn_143
      · simp only [k_lt, k_le, k_eq, ne_eq, ge_iff_le, gt_iff_lt] at c2q
        refine lv_aload_n hx hb dX0_goOn_15 rfl (lv_at hl 1 rfl) ?_
        refine va_get (D := D) (ci := 2) (v := .ref bfa) (C := RX0) (T := TX0) (N := 5) hx hb hts kin_RX0 hown hG.1 hP 0 rfl rfl 0 (by decide) (hts _ wm_400) (fun _ h9 => h9) rfl dX0_goOn_16 ?_
        refine lv_iload_n hx hb dX0_goOn_19 rfl (lv_at hl 3 rfl) ?_
        refine lv_iload hx hb dX0_goOn_20 (lv_at hl 0 rfl) ?_
        refine k_cali [0, 1, 2, 4, 5] (⟨hP, hD, hG, hS, hA, rfl, rfl⟩ : kAt D cy sa A s H _ _ [(bfa, .inr (3, [.ref bfa_who, .ref bfa_hold, .ref bfa_harm, .ref bfa_cost, .int bf_size])), (bfa_cost, .inl (cy 0, 16, .inl bff_cost))] [3, 6]) (wr := [(ba, .inr (2, [.ref bfa, .ref ba_least, .ref ba_without, .int b_minutes, .int k1qb_found])), (ba_least, .inl (cy 0, 12000, .inl k1qbf_least)), (ba_without, .inl (cy 0, 4, .inl bf_without)), (bfa_hold, .inl (cy 0, 4, .inl bff_hold)), (bfa_harm, .inl (cy 0, 4, .inl bff_harm))]) rfl rfl (by decide) (k_runV 3 3 (As := [.int m0, .int k1qy4]) (rest := []) E lk_VRX0_55 rfl rfl rfl (c_fcost l hl0 D cy sa bfa bfa_who bfa_hold bfa_harm bfa_cost bf_size m0 k1qy4 bff_cost ⟨by omega, by omega⟩ h_bff_cost H.size) (⟨hP, hD, hG, hS, hA, rfl, rfl⟩ : kAt D cy sa A s H _ _ [(bfa, .inr (3, [.ref bfa_who, .ref bfa_hold, .ref bfa_harm, .ref bfa_cost, .int bf_size])), (bfa_cost, .inl (cy 0, 16, .inl bff_cost))] [3, 6]) hl.1 rfl rfl ⟨rfl, rfl, ⟨Nat.le_of_ble_eq_true rfl, Nat.le_of_ble_eq_true rfl⟩, ⟨Nat.le_of_ble_eq_true rfl, Nat.le_of_ble_eq_true rfl⟩, Nat.le_of_ble_eq_true rfl⟩ dX0_goOn_22) (fun r3q u4q H locs hwu4q hP hD hS => ?_)
        have hP : va_P D vwCl [(ba, .inr (2, [.ref bfa, .ref ba_least, .ref ba_without, .int b_minutes, .int k1qb_found])), (ba_least, .inl (cy 0, 12000, .inl k1qbf_least)), (ba_without, .inl (cy 0, 4, .inl bf_without)), (bfa_hold, .inl (cy 0, 4, .inl bff_hold)), (bfa_harm, .inl (cy 0, 4, .inl bff_harm)), (bfa, .inr (3, [.ref bfa_who, .ref bfa_hold, .ref bfa_harm, .ref bfa_cost, .int bf_size])), (bfa_cost, .inl (cy 0, 16, .inl bff_cost))] H := hP
        have hD : va_D A [(ba, .inr (2, [.ref bfa, .ref ba_least, .ref ba_without, .int b_minutes, .int k1qb_found])), (ba_least, .inl (cy 0, 12000, .inl k1qbf_least)), (ba_without, .inl (cy 0, 4, .inl bf_without)), (bfa_hold, .inl (cy 0, 4, .inl bff_hold)), (bfa_harm, .inl (cy 0, 4, .inl bff_harm)), (bfa, .inr (3, [.ref bfa_who, .ref bfa_hold, .ref bfa_harm, .ref bfa_cost, .int bf_size])), (bfa_cost, .inl (cy 0, 16, .inl bff_cost))] := hD
        have p5q := hwu4q
        refine lv_istore (lv' := [(5, .int r3q), (4, .int k1qy4), (0, .ref ba), (1, .int n0), (2, .int m0), (3, .int v0)]) hx hb dX0_goOn_25 hl (by decide) rfl (fun ls hl => ?_)
        refine lv_iload_n hx hb dX0_goOn_27 rfl (lv_at hl 5 rfl) ?_
        refine lv_iconst (v := 4) hx hb dX0_goOn_28 (by decide) ?_
        refine lv_aload_n hx hb dX0_goOn_29 rfl (lv_at hl 2 rfl) ?_
        refine lv_iload hx hb dX0_goOn_30 (lv_at hl 1 rfl) ?_
        refine lv_iload hx hb dX0_goOn_32 (lv_at hl 0 rfl) ?_
        refine lv_aload_n hx hb dX0_goOn_34 rfl (lv_at hl 2 rfl) ?_
        refine va_get (D := D) (ci := 2) (v := .int b_minutes) (C := RX0) (T := TX0) (N := 5) hx hb hts kin_RX0 hown hG.1 hP 0 rfl rfl 3 (by decide) (hts _ wm_403) (fun _ h9 => h9) rfl dX0_goOn_35 ?_
        refine lv_iload_n hx hb dX0_goOn_38 rfl (lv_at hl 3 rfl) ?_
        refine lv_isub hx hb dX0_goOn_39 ?_
        refine lv_topi (fun x6q ex6q => ?_)
        have rx6q := n_sub ex6q (a := b_minutes.toInt) (b := n0.toInt) rfl rfl (by omega) (by omega)
        refine k_cali [1, 6] (⟨hP, hD, hG, hS, hA, rfl, rfl⟩ : kAt D cy sa A s H _ _ [(ba, .inr (2, [.ref bfa, .ref ba_least, .ref ba_without, .int b_minutes, .int k1qb_found])), (ba_without, .inl (cy 0, 4, .inl bf_without)), (bfa, .inr (3, [.ref bfa_who, .ref bfa_hold, .ref bfa_harm, .ref bfa_cost, .int bf_size])), (bfa_hold, .inl (cy 0, 4, .inl bff_hold)), (bfa_harm, .inl (cy 0, 4, .inl bff_harm))] [0, 2, 5, 3, 4]) (wr := [(ba_least, .inl (cy 0, 12000, .inl k1qbf_least)), (bfa_cost, .inl (cy 0, 16, .inl bff_cost))]) rfl rfl (by decide) (k_runV 2 0 (As := [.int k1qy4, .int r3q, .int x6q]) (rest := [.int 4, .int v0]) E lk_VRX0_58 rfl rfl rfl (c_harmOfStep l hl0 D cy sa ba ba_least ba_without bfa bfa_who bfa_hold bfa_harm bfa_cost b_minutes k1qb_found bf_size k1qy4 r3q x6q bf_without bff_hold bff_harm ⟨by omega, by omega⟩ h_bf_without ⟨by omega, by omega⟩ h_bff_hold ⟨by omega, by omega⟩ H.size) (⟨hP, hD, hG, hS, hA, rfl, rfl⟩ : kAt D cy sa A s H _ _ [(ba, .inr (2, [.ref bfa, .ref ba_least, .ref ba_without, .int b_minutes, .int k1qb_found])), (ba_without, .inl (cy 0, 4, .inl bf_without)), (bfa, .inr (3, [.ref bfa_who, .ref bfa_hold, .ref bfa_harm, .ref bfa_cost, .int bf_size])), (bfa_hold, .inl (cy 0, 4, .inl bff_hold)), (bfa_harm, .inl (cy 0, 4, .inl bff_harm))] [0, 2, 5, 3, 4]) hl.1 rfl rfl ⟨rfl, rfl, ⟨Nat.le_of_ble_eq_true rfl, Nat.le_of_ble_eq_true rfl⟩, ⟨Nat.le_of_ble_eq_true rfl, Nat.le_of_ble_eq_true rfl⟩, Nat.le_of_ble_eq_true rfl⟩ dX0_goOn_40) (fun r7q u8q H locs hwu8q hP hD hS => ?_)
        have hP : va_P D vwCl [(ba_least, .inl (cy 0, 12000, .inl k1qbf_least)), (bfa_cost, .inl (cy 0, 16, .inl bff_cost)), (ba, .inr (2, [.ref bfa, .ref ba_least, .ref ba_without, .int b_minutes, .int k1qb_found])), (ba_without, .inl (cy 0, 4, .inl bf_without)), (bfa, .inr (3, [.ref bfa_who, .ref bfa_hold, .ref bfa_harm, .ref bfa_cost, .int bf_size])), (bfa_hold, .inl (cy 0, 4, .inl bff_hold)), (bfa_harm, .inl (cy 0, 4, .inl bff_harm))] H := hP
        have hD : va_D A [(ba_least, .inl (cy 0, 12000, .inl k1qbf_least)), (bfa_cost, .inl (cy 0, 16, .inl bff_cost)), (ba, .inr (2, [.ref bfa, .ref ba_least, .ref ba_without, .int b_minutes, .int k1qb_found])), (ba_without, .inl (cy 0, 4, .inl bf_without)), (bfa, .inr (3, [.ref bfa_who, .ref bfa_hold, .ref bfa_harm, .ref bfa_cost, .int bf_size])), (bfa_hold, .inl (cy 0, 4, .inl bff_hold)), (bfa_harm, .inl (cy 0, 4, .inl bff_harm))] := hD
        refine lv_imul hx hb dX0_goOn_43 ?_
        refine lv_topi (fun x9q ex9q => ?_)
        have gx9q := k_rng r7q
        refine lv_iadd hx hb dX0_goOn_44 ?_
        refine lv_topi (fun x10q ex10q => ?_)
        have gx10q := k_rng v0
        have gx10q := k_rng x9q
        refine lv_iload_n hx hb dX0_goOn_45 rfl (lv_at hl 3 rfl) ?_
        refine lv_if_ne (tgt := 54) hx hb dX0_goOn_46 (by decide) (fun c11q => ?_) (fun c11q => ?_)
        · simp only [k_lt, k_le, k_eq, ne_eq, ge_iff_le, gt_iff_lt, n_L0, n_L0] at c11q
          refine lv_iconst (v := 0) hx hb dX0_goOn_54 (by decide) ?_
          refine lv_iadd hx hb dX0_goOn_55 ?_
          refine lv_topi (fun x12q ex12q => ?_)
          have gx12q := k_rng x10q
          have rx12q := n_add ex12q (a := x10q.toInt) (b := 0) rfl n_L0 (by omega) (by omega)
          refine lv_istore (lv' := [(6, .int x12q), (5, .int r3q), (4, .int k1qy4), (0, .ref ba), (1, .int n0), (2, .int m0), (3, .int v0)]) hx hb dX0_goOn_56 hl (by decide) rfl (fun ls hl => ?_)
          refine lv_iload_n hx hb dX0_goOn_58 rfl (lv_at hl 4 rfl) ?_
          refine lv_iload hx hb dX0_goOn_59 (lv_at hl 1 rfl) ?_
          refine lv_iadd hx hb dX0_goOn_61 ?_
          refine lv_topi (fun x13q ex13q => ?_)
          have rx13q := n_add ex13q (a := n0.toInt) (b := r3q.toInt) rfl rfl (by omega) (by omega)
          refine lv_iconst (v := 1) hx hb dX0_goOn_62 (by decide) ?_
          refine lv_iadd hx hb dX0_goOn_63 ?_
          refine lv_topi (fun x14q ex14q => ?_)
          have rx14q := n_add ex14q (a := x13q.toInt) (b := 1) rfl n_L1 (by omega) (by omega)
          refine lv_istore (lv' := [(7, .int x14q), (6, .int x12q), (5, .int r3q), (4, .int k1qy4), (0, .ref ba), (1, .int n0), (2, .int m0), (3, .int v0)]) hx hb dX0_goOn_64 hl (by decide) rfl (fun ls hl => ?_)
          refine lv_iload hx hb dX0_goOn_66 (lv_at hl 0 rfl) ?_
          refine lv_aload_n hx hb dX0_goOn_68 rfl (lv_at hl 4 rfl) ?_
          refine va_get (D := D) (ci := 2) (v := .int b_minutes) (C := RX0) (T := TX0) (N := 5) hx hb hts kin_RX0 hown hG.1 hP 2 rfl rfl 3 (by decide) (hts _ wm_403) (fun _ h9 => h9) rfl dX0_goOn_69 ?_
          refine lv_icmp_lt (tgt := 91) hx hb dX0_goOn_72 (by decide) (fun c15q => ?_) (fun c15q => ?_)
          · simp only [k_lt, k_le, k_eq, ne_eq, ge_iff_le, gt_iff_lt] at c15q
            refine lv_iload hx hb dX0_goOn_91 (lv_at hl 0 rfl) ?_
            refine lv_sipush (v := 300) hx hb dX0_goOn_93 (by decide) ?_
            refine lv_imul hx hb dX0_goOn_96 ?_
            refine lv_topi (fun x16q ex16q => ?_)
            have rx16q := n_mul ex16q (a := x14q.toInt) (b := 300) rfl n_L300 (by omega) (by omega)
            refine lv_aload_n hx hb dX0_goOn_97 rfl (lv_at hl 4 rfl) ?_
            refine lv_iload hx hb dX0_goOn_98 (lv_at hl 3 rfl) ?_
            refine lv_iload hx hb dX0_goOn_100 (lv_at hl 2 rfl) ?_
            refine k_cali [0, 1, 6] (⟨hP, hD, hG, hS, hA, rfl, rfl⟩ : kAt D cy sa A s H _ _ [(ba, .inr (2, [.ref bfa, .ref ba_least, .ref ba_without, .int b_minutes, .int k1qb_found])), (ba_without, .inl (cy 0, 4, .inl bf_without)), (bfa, .inr (3, [.ref bfa_who, .ref bfa_hold, .ref bfa_harm, .ref bfa_cost, .int bf_size])), (bfa_hold, .inl (cy 0, 4, .inl bff_hold))] [2, 3, 4, 5]) (wr := [(ba_least, .inl (cy 0, 12000, .inl k1qbf_least)), (bfa_cost, .inl (cy 0, 16, .inl bff_cost)), (bfa_harm, .inl (cy 0, 4, .inl bff_harm))]) rfl rfl (by decide) (k_runV 2 2 (As := [.int k1qy4, .int r3q]) (rest := [.int x16q]) E lk_VRX0_62 rfl rfl rfl (c_bstateBehind l hl0 D cy sa ba ba_least ba_without bfa bfa_who bfa_hold bfa_harm bfa_cost b_minutes k1qb_found bf_size k1qy4 r3q bf_without bff_hold ⟨by omega, by omega⟩ h_bf_without ⟨by omega, by omega⟩ h_bff_hold ⟨by omega, by omega⟩ ⟨by omega, by omega⟩ H.size) (⟨hP, hD, hG, hS, hA, rfl, rfl⟩ : kAt D cy sa A s H _ _ [(ba, .inr (2, [.ref bfa, .ref ba_least, .ref ba_without, .int b_minutes, .int k1qb_found])), (ba_without, .inl (cy 0, 4, .inl bf_without)), (bfa, .inr (3, [.ref bfa_who, .ref bfa_hold, .ref bfa_harm, .ref bfa_cost, .int bf_size])), (bfa_hold, .inl (cy 0, 4, .inl bff_hold))] [2, 3, 4, 5]) hl.1 rfl rfl ⟨rfl, rfl, ⟨Nat.le_of_ble_eq_true rfl, Nat.le_of_ble_eq_true rfl⟩, ⟨Nat.le_of_ble_eq_true rfl, Nat.le_of_ble_eq_true rfl⟩, Nat.le_of_ble_eq_true rfl⟩ dX0_goOn_102) (fun r17q u18q H locs hwu18q hP hD hS => ?_)
            have hP : va_P D vwCl [(ba_least, .inl (cy 0, 12000, .inl k1qbf_least)), (bfa_cost, .inl (cy 0, 16, .inl bff_cost)), (bfa_harm, .inl (cy 0, 4, .inl bff_harm)), (ba, .inr (2, [.ref bfa, .ref ba_least, .ref ba_without, .int b_minutes, .int k1qb_found])), (ba_without, .inl (cy 0, 4, .inl bf_without)), (bfa, .inr (3, [.ref bfa_who, .ref bfa_hold, .ref bfa_harm, .ref bfa_cost, .int bf_size])), (bfa_hold, .inl (cy 0, 4, .inl bff_hold))] H := hP
            have hD : va_D A [(ba_least, .inl (cy 0, 12000, .inl k1qbf_least)), (bfa_cost, .inl (cy 0, 16, .inl bff_cost)), (bfa_harm, .inl (cy 0, 4, .inl bff_harm)), (ba, .inr (2, [.ref bfa, .ref ba_least, .ref ba_without, .int b_minutes, .int k1qb_found])), (ba_without, .inl (cy 0, 4, .inl bf_without)), (bfa, .inr (3, [.ref bfa_who, .ref bfa_hold, .ref bfa_harm, .ref bfa_cost, .int bf_size])), (bfa_hold, .inl (cy 0, 4, .inl bff_hold))] := hD
            have p19q := hwu18q
            refine lv_iadd hx hb dX0_goOn_105 ?_
            refine lv_topi (fun x20q ex20q => ?_)
            have rx20q := n_add ex20q (a := x16q.toInt) (b := r17q.toInt) rfl rfl (by omega) (by omega)
            refine lv_istore (lv' := [(8, .int x20q), (7, .int x14q), (6, .int x12q), (5, .int r3q), (4, .int k1qy4), (0, .ref ba), (1, .int n0), (2, .int m0), (3, .int v0)]) hx hb dX0_goOn_106 hl (by decide) rfl (fun ls hl => ?_)
            refine lv_iload hx hb dX0_goOn_108 (lv_at hl 0 rfl) ?_
            refine lv_aload_n hx hb dX0_goOn_110 rfl (lv_at hl 5 rfl) ?_
            refine va_get (D := D) (ci := 2) (v := .ref ba_least) (C := RX0) (T := TX0) (N := 5) hx hb hts kin_RX0 hown hG.1 hP 3 rfl rfl 1 (by decide) (hts _ wm_401) (fun _ h9 => h9) rfl dX0_goOn_111 ?_
            refine va_alen (v := 12000) hx hb hG.1 hP 0 0 rfl rfl rfl dX0_goOn_114 ?_
            refine lv_icmp_ge (tgt := 137) hx hb dX0_goOn_115 (by decide) (fun c21q => ?_) (fun c21q => ?_)
            · simp only [k_lt, k_le, k_eq, ne_eq, ge_iff_le, gt_iff_lt, n_L12000] at c21q
              obtain ⟨x22q, ex22q⟩ : ∃ z : Int32, z = k1qy4 + 1 := ⟨_, rfl⟩
              refine lv_iinc (v := x22q) (lv' := [(4, .int x22q), (8, .int x20q), (7, .int x14q), (6, .int x12q), (5, .int r3q), (0, .ref ba), (1, .int n0), (2, .int m0), (3, .int v0)]) hx hb dX0_goOn_137 hl (k := 4) rfl (by rw [ex22q]; rfl) (by decide) rfl (fun ls hl => ?_)
              have rx22q := n_add ex22q (a := k1qy4.toInt) (b := 1) rfl n_L1 (by omega) (by omega)
              refine lv_goto (tgt := 3) hx hb dX0_goOn_140 (by decide) ?_
              exact k1qih ((4 - x22q.toInt).toNat) (by omega) x22q k1qb_found k1qbf_least H locs ls ⟨by omega, by omega⟩ rfl (hP.sub [3, 0, 4, 5, 6, 2, 1] rfl) (hD.sub [3, 0, 4, 5, 6, 2, 1] (by decide) rfl) hS (lv_sub hl [0, 5, 6, 7, 8] rfl)
            · simp only [k_lt, k_le, k_eq, ne_eq, ge_iff_le, gt_iff_lt, n_L12000] at c21q
              refine lv_aload_n hx hb dX0_goOn_118 rfl (lv_at hl 5 rfl) ?_
              refine va_get (D := D) (ci := 2) (v := .ref ba_least) (C := RX0) (T := TX0) (N := 5) hx hb hts kin_RX0 hown hG.1 hP 3 rfl rfl 1 (by decide) (hts _ wm_401) (fun _ h9 => h9) rfl dX0_goOn_119 ?_
              refine lv_iload hx hb dX0_goOn_122 (lv_at hl 0 rfl) ?_
              refine lv_aload_n hx hb dX0_goOn_124 rfl (lv_at hl 5 rfl) ?_
              refine va_get (D := D) (ci := 2) (v := .ref ba_least) (C := RX0) (T := TX0) (N := 5) hx hb hts kin_RX0 hown hG.1 hP 3 rfl rfl 1 (by decide) (hts _ wm_401) (fun _ h9 => h9) rfl dX0_goOn_125 ?_
              refine lv_iload hx hb dX0_goOn_128 (lv_at hl 0 rfl) ?_
              refine va_iald hx hb hG.1 hP 0 0 rfl rfl (n_in (by omega) (by omega)) dX0_goOn_130 ?_
              refine lv_topi (fun x23q ex23q => ?_)
              refine lv_iload hx hb dX0_goOn_131 (lv_at hl 2 rfl) ?_
              refine va_mmin hx hb (hml.trans hl.1.symm) hown (hts _ wm_1466) (hts _ wm_519) (hts _ wm_17) (hts _ wm_520) (Nat.le_of_ble_eq_true rfl) (Nat.le_of_ble_eq_true rfl) (Nat.le_of_ble_eq_true rfl) (Nat.le_of_ble_eq_true rfl) dX0_goOn_133 ?_
              refine lv_topi (fun x24q ex24q => ?_)
              have rx24q := n_min ex24q (a := x23q.toInt) (b := x12q.toInt) rfl rfl
              refine va_iast hx hb hG.1 hP hD hS 0 0 rfl rfl (n_in (by omega) (by omega)) dX0_goOn_136 (fun H locs hP hD hS => ?_)
              have hP : va_P D vwCl [(ba_least, .inl (cy 0, 12000, .inl (upd (k1qbf_least) (x20q : Int32).toNatClampNeg x24q))), (bfa_cost, .inl (cy 0, 16, .inl bff_cost)), (bfa_harm, .inl (cy 0, 4, .inl bff_harm)), (ba, .inr (2, [.ref bfa, .ref ba_least, .ref ba_without, .int b_minutes, .int k1qb_found])), (ba_without, .inl (cy 0, 4, .inl bf_without)), (bfa, .inr (3, [.ref bfa_who, .ref bfa_hold, .ref bfa_harm, .ref bfa_cost, .int bf_size])), (bfa_hold, .inl (cy 0, 4, .inl bff_hold))] H := hP
              have hD : va_D A [(ba_least, .inl (cy 0, 12000, .inl (upd (k1qbf_least) (x20q : Int32).toNatClampNeg x24q))), (bfa_cost, .inl (cy 0, 16, .inl bff_cost)), (bfa_harm, .inl (cy 0, 4, .inl bff_harm)), (ba, .inr (2, [.ref bfa, .ref ba_least, .ref ba_without, .int b_minutes, .int k1qb_found])), (ba_without, .inl (cy 0, 4, .inl bf_without)), (bfa, .inr (3, [.ref bfa_who, .ref bfa_hold, .ref bfa_harm, .ref bfa_cost, .int bf_size])), (bfa_hold, .inl (cy 0, 4, .inl bff_hold))] := hD
              generalize upd (k1qbf_least) (x20q : Int32).toNatClampNeg x24q = f25q at hP hD
              have hP : va_P D vwCl [(ba_least, .inl (cy 0, 12000, .inl f25q)), (bfa_cost, .inl (cy 0, 16, .inl bff_cost)), (bfa_harm, .inl (cy 0, 4, .inl bff_harm)), (ba, .inr (2, [.ref bfa, .ref ba_least, .ref ba_without, .int b_minutes, .int k1qb_found])), (ba_without, .inl (cy 0, 4, .inl bf_without)), (bfa, .inr (3, [.ref bfa_who, .ref bfa_hold, .ref bfa_harm, .ref bfa_cost, .int bf_size])), (bfa_hold, .inl (cy 0, 4, .inl bff_hold))] H := hP
              have hD : va_D A [(ba_least, .inl (cy 0, 12000, .inl f25q)), (bfa_cost, .inl (cy 0, 16, .inl bff_cost)), (bfa_harm, .inl (cy 0, 4, .inl bff_harm)), (ba, .inr (2, [.ref bfa, .ref ba_least, .ref ba_without, .int b_minutes, .int k1qb_found])), (ba_without, .inl (cy 0, 4, .inl bf_without)), (bfa, .inr (3, [.ref bfa_who, .ref bfa_hold, .ref bfa_harm, .ref bfa_cost, .int bf_size])), (bfa_hold, .inl (cy 0, 4, .inl bff_hold))] := hD
              obtain ⟨x26q, ex26q⟩ : ∃ z : Int32, z = k1qy4 + 1 := ⟨_, rfl⟩
              refine lv_iinc (v := x26q) (lv' := [(4, .int x26q), (8, .int x20q), (7, .int x14q), (6, .int x12q), (5, .int r3q), (0, .ref ba), (1, .int n0), (2, .int m0), (3, .int v0)]) hx hb dX0_goOn_137 hl (k := 4) rfl (by rw [ex26q]; rfl) (by decide) rfl (fun ls hl => ?_)
              have rx26q := n_add ex26q (a := k1qy4.toInt) (b := 1) rfl n_L1 (by omega) (by omega)
              refine lv_goto (tgt := 3) hx hb dX0_goOn_140 (by decide) ?_
              exact k1qih ((4 - x26q.toInt).toNat) (by omega) x26q k1qb_found f25q H locs ls ⟨by omega, by omega⟩ rfl (hP.sub [3, 0, 4, 5, 6, 2, 1] rfl) (hD.sub [3, 0, 4, 5, 6, 2, 1] (by decide) rfl) hS (lv_sub hl [0, 5, 6, 7, 8] rfl)
          · simp only [k_lt, k_le, k_eq, ne_eq, ge_iff_le, gt_iff_lt] at c15q
            refine lv_aload_n hx hb dX0_goOn_75 rfl (lv_at hl 4 rfl) ?_
            refine lv_aload_n hx hb dX0_goOn_76 rfl (lv_at hl 4 rfl) ?_
            refine va_get (D := D) (ci := 2) (v := .int k1qb_found) (C := RX0) (T := TX0) (N := 5) hx hb hts kin_RX0 hown hG.1 hP 2 rfl rfl 4 (by decide) (hts _ wm_404) (fun _ h9 => h9) rfl dX0_goOn_77 ?_
            refine lv_iload hx hb dX0_goOn_80 (lv_at hl 1 rfl) ?_
            refine va_mmin hx hb (hml.trans hl.1.symm) hown (hts _ wm_1466) (hts _ wm_519) (hts _ wm_17) (hts _ wm_520) (Nat.le_of_ble_eq_true rfl) (Nat.le_of_ble_eq_true rfl) (Nat.le_of_ble_eq_true rfl) (Nat.le_of_ble_eq_true rfl) dX0_goOn_82 ?_
            refine lv_topi (fun x27q ex27q => ?_)
            have rx27q := n_min ex27q (a := k1qb_found.toInt) (b := x12q.toInt) rfl rfl
            refine va_put (D := D) (ci := 2) (v := .int x27q) (ty := .int) (C := RX0) (T := TX0) (N := 5) hx hb hts kin_RX0 tyX0 tyX0_ok nmX0 hown hG.1 hP hD hS 2 rfl rfl 4 (by decide) (hts _ wm_404) (fun _ h9 => h9) rfl (by decide +kernel) rfl rfl (Nat.le_of_ble_eq_true rfl) dX0_goOn_85 (fun H locs hP hD hS => ?_)
            have hP : va_P D vwCl [(ba_least, .inl (cy 0, 12000, .inl k1qbf_least)), (bfa_cost, .inl (cy 0, 16, .inl bff_cost)), (ba, .inr (2, [.ref bfa, .ref ba_least, .ref ba_without, .int b_minutes, .int x27q])), (ba_without, .inl (cy 0, 4, .inl bf_without)), (bfa, .inr (3, [.ref bfa_who, .ref bfa_hold, .ref bfa_harm, .ref bfa_cost, .int bf_size])), (bfa_hold, .inl (cy 0, 4, .inl bff_hold)), (bfa_harm, .inl (cy 0, 4, .inl bff_harm))] H := hP
            have hD : va_D A [(ba_least, .inl (cy 0, 12000, .inl k1qbf_least)), (bfa_cost, .inl (cy 0, 16, .inl bff_cost)), (ba, .inr (2, [.ref bfa, .ref ba_least, .ref ba_without, .int b_minutes, .int x27q])), (ba_without, .inl (cy 0, 4, .inl bf_without)), (bfa, .inr (3, [.ref bfa_who, .ref bfa_hold, .ref bfa_harm, .ref bfa_cost, .int bf_size])), (bfa_hold, .inl (cy 0, 4, .inl bff_hold)), (bfa_harm, .inl (cy 0, 4, .inl bff_harm))] := hD
            refine lv_goto (tgt := 137) hx hb dX0_goOn_88 (by decide) ?_
            obtain ⟨x28q, ex28q⟩ : ∃ z : Int32, z = k1qy4 + 1 := ⟨_, rfl⟩
            refine lv_iinc (v := x28q) (lv' := [(4, .int x28q), (7, .int x14q), (6, .int x12q), (5, .int r3q), (0, .ref ba), (1, .int n0), (2, .int m0), (3, .int v0)]) hx hb dX0_goOn_137 hl (k := 3) rfl (by rw [ex28q]; rfl) (by decide) rfl (fun ls hl => ?_)
            have rx28q := n_add ex28q (a := k1qy4.toInt) (b := 1) rfl n_L1 (by omega) (by omega)
            refine lv_goto (tgt := 3) hx hb dX0_goOn_140 (by decide) ?_
            exact k1qih ((4 - x28q.toInt).toNat) (by omega) x28q x27q k1qbf_least H locs ls ⟨by omega, by omega⟩ rfl (hP.sub [2, 0, 3, 4, 5, 6, 1] rfl) (hD.sub [2, 0, 3, 4, 5, 6, 1] (by decide) rfl) hS (lv_sub hl [0, 4, 5, 6, 7] rfl)
        · simp only [k_lt, k_le, k_eq, ne_eq, ge_iff_le, gt_iff_lt, n_L0, n_L0] at c11q
          refine lv_iload hx hb dX0_goOn_49 (lv_at hl 1 rfl) ?_
          refine lv_goto (tgt := 55) hx hb dX0_goOn_51 (by decide) ?_
          refine lv_iadd hx hb dX0_goOn_55 ?_
          refine lv_topi (fun x29q ex29q => ?_)
          have gx29q := k_rng x10q
          refine lv_istore (lv' := [(6, .int x29q), (5, .int r3q), (4, .int k1qy4), (0, .ref ba), (1, .int n0), (2, .int m0), (3, .int v0)]) hx hb dX0_goOn_56 hl (by decide) rfl (fun ls hl => ?_)
          refine lv_iload_n hx hb dX0_goOn_58 rfl (lv_at hl 4 rfl) ?_
          refine lv_iload hx hb dX0_goOn_59 (lv_at hl 1 rfl) ?_
          refine lv_iadd hx hb dX0_goOn_61 ?_
          refine lv_topi (fun x30q ex30q => ?_)
          have rx30q := n_add ex30q (a := n0.toInt) (b := r3q.toInt) rfl rfl (by omega) (by omega)
          refine lv_iconst (v := 1) hx hb dX0_goOn_62 (by decide) ?_
          refine lv_iadd hx hb dX0_goOn_63 ?_
          refine lv_topi (fun x31q ex31q => ?_)
          have rx31q := n_add ex31q (a := x30q.toInt) (b := 1) rfl n_L1 (by omega) (by omega)
          refine lv_istore (lv' := [(7, .int x31q), (6, .int x29q), (5, .int r3q), (4, .int k1qy4), (0, .ref ba), (1, .int n0), (2, .int m0), (3, .int v0)]) hx hb dX0_goOn_64 hl (by decide) rfl (fun ls hl => ?_)
          refine lv_iload hx hb dX0_goOn_66 (lv_at hl 0 rfl) ?_
          refine lv_aload_n hx hb dX0_goOn_68 rfl (lv_at hl 4 rfl) ?_
          refine va_get (D := D) (ci := 2) (v := .int b_minutes) (C := RX0) (T := TX0) (N := 5) hx hb hts kin_RX0 hown hG.1 hP 2 rfl rfl 3 (by decide) (hts _ wm_403) (fun _ h9 => h9) rfl dX0_goOn_69 ?_
          refine lv_icmp_lt (tgt := 91) hx hb dX0_goOn_72 (by decide) (fun c32q => ?_) (fun c32q => ?_)
          · simp only [k_lt, k_le, k_eq, ne_eq, ge_iff_le, gt_iff_lt] at c32q
            refine lv_iload hx hb dX0_goOn_91 (lv_at hl 0 rfl) ?_
            refine lv_sipush (v := 300) hx hb dX0_goOn_93 (by decide) ?_
            refine lv_imul hx hb dX0_goOn_96 ?_
            refine lv_topi (fun x33q ex33q => ?_)
            have rx33q := n_mul ex33q (a := x31q.toInt) (b := 300) rfl n_L300 (by omega) (by omega)
            refine lv_aload_n hx hb dX0_goOn_97 rfl (lv_at hl 4 rfl) ?_
            refine lv_iload hx hb dX0_goOn_98 (lv_at hl 3 rfl) ?_
            refine lv_iload hx hb dX0_goOn_100 (lv_at hl 2 rfl) ?_
            refine k_cali [0, 1, 6] (⟨hP, hD, hG, hS, hA, rfl, rfl⟩ : kAt D cy sa A s H _ _ [(ba, .inr (2, [.ref bfa, .ref ba_least, .ref ba_without, .int b_minutes, .int k1qb_found])), (ba_without, .inl (cy 0, 4, .inl bf_without)), (bfa, .inr (3, [.ref bfa_who, .ref bfa_hold, .ref bfa_harm, .ref bfa_cost, .int bf_size])), (bfa_hold, .inl (cy 0, 4, .inl bff_hold))] [2, 3, 4, 5]) (wr := [(ba_least, .inl (cy 0, 12000, .inl k1qbf_least)), (bfa_cost, .inl (cy 0, 16, .inl bff_cost)), (bfa_harm, .inl (cy 0, 4, .inl bff_harm))]) rfl rfl (by decide) (k_runV 2 2 (As := [.int k1qy4, .int r3q]) (rest := [.int x33q]) E lk_VRX0_62 rfl rfl rfl (c_bstateBehind l hl0 D cy sa ba ba_least ba_without bfa bfa_who bfa_hold bfa_harm bfa_cost b_minutes k1qb_found bf_size k1qy4 r3q bf_without bff_hold ⟨by omega, by omega⟩ h_bf_without ⟨by omega, by omega⟩ h_bff_hold ⟨by omega, by omega⟩ ⟨by omega, by omega⟩ H.size) (⟨hP, hD, hG, hS, hA, rfl, rfl⟩ : kAt D cy sa A s H _ _ [(ba, .inr (2, [.ref bfa, .ref ba_least, .ref ba_without, .int b_minutes, .int k1qb_found])), (ba_without, .inl (cy 0, 4, .inl bf_without)), (bfa, .inr (3, [.ref bfa_who, .ref bfa_hold, .ref bfa_harm, .ref bfa_cost, .int bf_size])), (bfa_hold, .inl (cy 0, 4, .inl bff_hold))] [2, 3, 4, 5]) hl.1 rfl rfl ⟨rfl, rfl, ⟨Nat.le_of_ble_eq_true rfl, Nat.le_of_ble_eq_true rfl⟩, ⟨Nat.le_of_ble_eq_true rfl, Nat.le_of_ble_eq_true rfl⟩, Nat.le_of_ble_eq_true rfl⟩ dX0_goOn_102) (fun r34q u35q H locs hwu35q hP hD hS => ?_)
            have hP : va_P D vwCl [(ba_least, .inl (cy 0, 12000, .inl k1qbf_least)), (bfa_cost, .inl (cy 0, 16, .inl bff_cost)), (bfa_harm, .inl (cy 0, 4, .inl bff_harm)), (ba, .inr (2, [.ref bfa, .ref ba_least, .ref ba_without, .int b_minutes, .int k1qb_found])), (ba_without, .inl (cy 0, 4, .inl bf_without)), (bfa, .inr (3, [.ref bfa_who, .ref bfa_hold, .ref bfa_harm, .ref bfa_cost, .int bf_size])), (bfa_hold, .inl (cy 0, 4, .inl bff_hold))] H := hP
            have hD : va_D A [(ba_least, .inl (cy 0, 12000, .inl k1qbf_least)), (bfa_cost, .inl (cy 0, 16, .inl bff_cost)), (bfa_harm, .inl (cy 0, 4, .inl bff_harm)), (ba, .inr (2, [.ref bfa, .ref ba_least, .ref ba_without, .int b_minutes, .int k1qb_found])), (ba_without, .inl (cy 0, 4, .inl bf_without)), (bfa, .inr (3, [.ref bfa_who, .ref bfa_hold, .ref bfa_harm, .ref bfa_cost, .int bf_size])), (bfa_hold, .inl (cy 0, 4, .inl bff_hold))] := hD
            have p36q := hwu35q
            refine lv_iadd hx hb dX0_goOn_105 ?_
            refine lv_topi (fun x37q ex37q => ?_)
            have rx37q := n_add ex37q (a := x33q.toInt) (b := r34q.toInt) rfl rfl (by omega) (by omega)
            refine lv_istore (lv' := [(8, .int x37q), (7, .int x31q), (6, .int x29q), (5, .int r3q), (4, .int k1qy4), (0, .ref ba), (1, .int n0), (2, .int m0), (3, .int v0)]) hx hb dX0_goOn_106 hl (by decide) rfl (fun ls hl => ?_)
            refine lv_iload hx hb dX0_goOn_108 (lv_at hl 0 rfl) ?_
            refine lv_aload_n hx hb dX0_goOn_110 rfl (lv_at hl 5 rfl) ?_
            refine va_get (D := D) (ci := 2) (v := .ref ba_least) (C := RX0) (T := TX0) (N := 5) hx hb hts kin_RX0 hown hG.1 hP 3 rfl rfl 1 (by decide) (hts _ wm_401) (fun _ h9 => h9) rfl dX0_goOn_111 ?_
            refine va_alen (v := 12000) hx hb hG.1 hP 0 0 rfl rfl rfl dX0_goOn_114 ?_
            refine lv_icmp_ge (tgt := 137) hx hb dX0_goOn_115 (by decide) (fun c38q => ?_) (fun c38q => ?_)
            · simp only [k_lt, k_le, k_eq, ne_eq, ge_iff_le, gt_iff_lt, n_L12000] at c38q
              obtain ⟨x39q, ex39q⟩ : ∃ z : Int32, z = k1qy4 + 1 := ⟨_, rfl⟩
              refine lv_iinc (v := x39q) (lv' := [(4, .int x39q), (8, .int x37q), (7, .int x31q), (6, .int x29q), (5, .int r3q), (0, .ref ba), (1, .int n0), (2, .int m0), (3, .int v0)]) hx hb dX0_goOn_137 hl (k := 4) rfl (by rw [ex39q]; rfl) (by decide) rfl (fun ls hl => ?_)
              have rx39q := n_add ex39q (a := k1qy4.toInt) (b := 1) rfl n_L1 (by omega) (by omega)
              refine lv_goto (tgt := 3) hx hb dX0_goOn_140 (by decide) ?_
              exact k1qih ((4 - x39q.toInt).toNat) (by omega) x39q k1qb_found k1qbf_least H locs ls ⟨by omega, by omega⟩ rfl (hP.sub [3, 0, 4, 5, 6, 2, 1] rfl) (hD.sub [3, 0, 4, 5, 6, 2, 1] (by decide) rfl) hS (lv_sub hl [0, 5, 6, 7, 8] rfl)
            · simp only [k_lt, k_le, k_eq, ne_eq, ge_iff_le, gt_iff_lt, n_L12000] at c38q
              refine lv_aload_n hx hb dX0_goOn_118 rfl (lv_at hl 5 rfl) ?_
              refine va_get (D := D) (ci := 2) (v := .ref ba_least) (C := RX0) (T := TX0) (N := 5) hx hb hts kin_RX0 hown hG.1 hP 3 rfl rfl 1 (by decide) (hts _ wm_401) (fun _ h9 => h9) rfl dX0_goOn_119 ?_
              refine lv_iload hx hb dX0_goOn_122 (lv_at hl 0 rfl) ?_
              refine lv_aload_n hx hb dX0_goOn_124 rfl (lv_at hl 5 rfl) ?_
              refine va_get (D := D) (ci := 2) (v := .ref ba_least) (C := RX0) (T := TX0) (N := 5) hx hb hts kin_RX0 hown hG.1 hP 3 rfl rfl 1 (by decide) (hts _ wm_401) (fun _ h9 => h9) rfl dX0_goOn_125 ?_
              refine lv_iload hx hb dX0_goOn_128 (lv_at hl 0 rfl) ?_
              refine va_iald hx hb hG.1 hP 0 0 rfl rfl (n_in (by omega) (by omega)) dX0_goOn_130 ?_
              refine lv_topi (fun x40q ex40q => ?_)
              refine lv_iload hx hb dX0_goOn_131 (lv_at hl 2 rfl) ?_
              refine va_mmin hx hb (hml.trans hl.1.symm) hown (hts _ wm_1466) (hts _ wm_519) (hts _ wm_17) (hts _ wm_520) (Nat.le_of_ble_eq_true rfl) (Nat.le_of_ble_eq_true rfl) (Nat.le_of_ble_eq_true rfl) (Nat.le_of_ble_eq_true rfl) dX0_goOn_133 ?_
              refine lv_topi (fun x41q ex41q => ?_)
              have rx41q := n_min ex41q (a := x40q.toInt) (b := x29q.toInt) rfl rfl
              refine va_iast hx hb hG.1 hP hD hS 0 0 rfl rfl (n_in (by omega) (by omega)) dX0_goOn_136 (fun H locs hP hD hS => ?_)
              have hP : va_P D vwCl [(ba_least, .inl (cy 0, 12000, .inl (upd (k1qbf_least) (x37q : Int32).toNatClampNeg x41q))), (bfa_cost, .inl (cy 0, 16, .inl bff_cost)), (bfa_harm, .inl (cy 0, 4, .inl bff_harm)), (ba, .inr (2, [.ref bfa, .ref ba_least, .ref ba_without, .int b_minutes, .int k1qb_found])), (ba_without, .inl (cy 0, 4, .inl bf_without)), (bfa, .inr (3, [.ref bfa_who, .ref bfa_hold, .ref bfa_harm, .ref bfa_cost, .int bf_size])), (bfa_hold, .inl (cy 0, 4, .inl bff_hold))] H := hP
              have hD : va_D A [(ba_least, .inl (cy 0, 12000, .inl (upd (k1qbf_least) (x37q : Int32).toNatClampNeg x41q))), (bfa_cost, .inl (cy 0, 16, .inl bff_cost)), (bfa_harm, .inl (cy 0, 4, .inl bff_harm)), (ba, .inr (2, [.ref bfa, .ref ba_least, .ref ba_without, .int b_minutes, .int k1qb_found])), (ba_without, .inl (cy 0, 4, .inl bf_without)), (bfa, .inr (3, [.ref bfa_who, .ref bfa_hold, .ref bfa_harm, .ref bfa_cost, .int bf_size])), (bfa_hold, .inl (cy 0, 4, .inl bff_hold))] := hD
              generalize upd (k1qbf_least) (x37q : Int32).toNatClampNeg x41q = f42q at hP hD
              have hP : va_P D vwCl [(ba_least, .inl (cy 0, 12000, .inl f42q)), (bfa_cost, .inl (cy 0, 16, .inl bff_cost)), (bfa_harm, .inl (cy 0, 4, .inl bff_harm)), (ba, .inr (2, [.ref bfa, .ref ba_least, .ref ba_without, .int b_minutes, .int k1qb_found])), (ba_without, .inl (cy 0, 4, .inl bf_without)), (bfa, .inr (3, [.ref bfa_who, .ref bfa_hold, .ref bfa_harm, .ref bfa_cost, .int bf_size])), (bfa_hold, .inl (cy 0, 4, .inl bff_hold))] H := hP
              have hD : va_D A [(ba_least, .inl (cy 0, 12000, .inl f42q)), (bfa_cost, .inl (cy 0, 16, .inl bff_cost)), (bfa_harm, .inl (cy 0, 4, .inl bff_harm)), (ba, .inr (2, [.ref bfa, .ref ba_least, .ref ba_without, .int b_minutes, .int k1qb_found])), (ba_without, .inl (cy 0, 4, .inl bf_without)), (bfa, .inr (3, [.ref bfa_who, .ref bfa_hold, .ref bfa_harm, .ref bfa_cost, .int bf_size])), (bfa_hold, .inl (cy 0, 4, .inl bff_hold))] := hD
              obtain ⟨x43q, ex43q⟩ : ∃ z : Int32, z = k1qy4 + 1 := ⟨_, rfl⟩
              refine lv_iinc (v := x43q) (lv' := [(4, .int x43q), (8, .int x37q), (7, .int x31q), (6, .int x29q), (5, .int r3q), (0, .ref ba), (1, .int n0), (2, .int m0), (3, .int v0)]) hx hb dX0_goOn_137 hl (k := 4) rfl (by rw [ex43q]; rfl) (by decide) rfl (fun ls hl => ?_)
              have rx43q := n_add ex43q (a := k1qy4.toInt) (b := 1) rfl n_L1 (by omega) (by omega)
              refine lv_goto (tgt := 3) hx hb dX0_goOn_140 (by decide) ?_
              exact k1qih ((4 - x43q.toInt).toNat) (by omega) x43q k1qb_found f42q H locs ls ⟨by omega, by omega⟩ rfl (hP.sub [3, 0, 4, 5, 6, 2, 1] rfl) (hD.sub [3, 0, 4, 5, 6, 2, 1] (by decide) rfl) hS (lv_sub hl [0, 5, 6, 7, 8] rfl)
          · simp only [k_lt, k_le, k_eq, ne_eq, ge_iff_le, gt_iff_lt] at c32q
            refine lv_aload_n hx hb dX0_goOn_75 rfl (lv_at hl 4 rfl) ?_
            refine lv_aload_n hx hb dX0_goOn_76 rfl (lv_at hl 4 rfl) ?_
            refine va_get (D := D) (ci := 2) (v := .int k1qb_found) (C := RX0) (T := TX0) (N := 5) hx hb hts kin_RX0 hown hG.1 hP 2 rfl rfl 4 (by decide) (hts _ wm_404) (fun _ h9 => h9) rfl dX0_goOn_77 ?_
            refine lv_iload hx hb dX0_goOn_80 (lv_at hl 1 rfl) ?_
            refine va_mmin hx hb (hml.trans hl.1.symm) hown (hts _ wm_1466) (hts _ wm_519) (hts _ wm_17) (hts _ wm_520) (Nat.le_of_ble_eq_true rfl) (Nat.le_of_ble_eq_true rfl) (Nat.le_of_ble_eq_true rfl) (Nat.le_of_ble_eq_true rfl) dX0_goOn_82 ?_
            refine lv_topi (fun x44q ex44q => ?_)
            have rx44q := n_min ex44q (a := k1qb_found.toInt) (b := x29q.toInt) rfl rfl
            refine va_put (D := D) (ci := 2) (v := .int x44q) (ty := .int) (C := RX0) (T := TX0) (N := 5) hx hb hts kin_RX0 tyX0 tyX0_ok nmX0 hown hG.1 hP hD hS 2 rfl rfl 4 (by decide) (hts _ wm_404) (fun _ h9 => h9) rfl (by decide +kernel) rfl rfl (Nat.le_of_ble_eq_true rfl) dX0_goOn_85 (fun H locs hP hD hS => ?_)
            have hP : va_P D vwCl [(ba_least, .inl (cy 0, 12000, .inl k1qbf_least)), (bfa_cost, .inl (cy 0, 16, .inl bff_cost)), (ba, .inr (2, [.ref bfa, .ref ba_least, .ref ba_without, .int b_minutes, .int x44q])), (ba_without, .inl (cy 0, 4, .inl bf_without)), (bfa, .inr (3, [.ref bfa_who, .ref bfa_hold, .ref bfa_harm, .ref bfa_cost, .int bf_size])), (bfa_hold, .inl (cy 0, 4, .inl bff_hold)), (bfa_harm, .inl (cy 0, 4, .inl bff_harm))] H := hP
            have hD : va_D A [(ba_least, .inl (cy 0, 12000, .inl k1qbf_least)), (bfa_cost, .inl (cy 0, 16, .inl bff_cost)), (ba, .inr (2, [.ref bfa, .ref ba_least, .ref ba_without, .int b_minutes, .int x44q])), (ba_without, .inl (cy 0, 4, .inl bf_without)), (bfa, .inr (3, [.ref bfa_who, .ref bfa_hold, .ref bfa_harm, .ref bfa_cost, .int bf_size])), (bfa_hold, .inl (cy 0, 4, .inl bff_hold)), (bfa_harm, .inl (cy 0, 4, .inl bff_harm))] := hD
            refine lv_goto (tgt := 137) hx hb dX0_goOn_88 (by decide) ?_
            obtain ⟨x45q, ex45q⟩ : ∃ z : Int32, z = k1qy4 + 1 := ⟨_, rfl⟩
            refine lv_iinc (v := x45q) (lv' := [(4, .int x45q), (7, .int x31q), (6, .int x29q), (5, .int r3q), (0, .ref ba), (1, .int n0), (2, .int m0), (3, .int v0)]) hx hb dX0_goOn_137 hl (k := 3) rfl (by rw [ex45q]; rfl) (by decide) rfl (fun ls hl => ?_)
            have rx45q := n_add ex45q (a := k1qy4.toInt) (b := 1) rfl n_L1 (by omega) (by omega)
            refine lv_goto (tgt := 3) hx hb dX0_goOn_140 (by decide) ?_
            exact k1qih ((4 - x45q.toInt).toNat) (by omega) x45q x44q k1qbf_least H locs ls ⟨by omega, by omega⟩ rfl (hP.sub [2, 0, 3, 4, 5, 6, 1] rfl) (hD.sub [2, 0, 3, 4, 5, 6, 1] (by decide) rfl) hS (lv_sub hl [0, 4, 5, 6, 7] rfl)
  exact k1q _ 0 b_found bf_least H locs ls ⟨by rw [n_L0]; omega, by rw [n_L0]; omega⟩ rfl hP hD hS (lv_sub hl [0, 1, 2, 3, 4] rfl)

set_option maxHeartbeats 4000000 in
set_option maxRecDepth 100000 in
/-- Backlog.reckon -/
theorem c_reckon (l : Launch) (hl0 : l.stackTraces = false) (D : va_G) (cy : Nat → ClassId) (sa : Nat → Nat) (ba ba_least ba_without bfa bfa_who bfa_hold bfa_harm bfa_cost : Nat) (b_minutes b_found bf_size t0 : Int32) (bf_least bf_without bff_hold bff_harm bff_cost : Nat → Int32) (h_b_minutes : 0 ≤ b_minutes.toInt ∧ b_minutes.toInt ≤ 40) (h_bf_without : rowR 4 0 (9) bf_without) (h_bf_size : 0 ≤ bf_size.toInt ∧ bf_size.toInt ≤ 4) (h_bff_hold : rowR 4 0 (8) bff_hold) (h_bff_cost : rowR 16 0 (39) bff_cost) (h_t0 : 1 ≤ t0.toInt ∧ t0.toInt ≤ 40) (sz : Nat) : Met l yX0_reckon (Cond.code yX0_reckon cX0_reckon 5 none :: kWS) ({ frames := 13, cells := 0, slots := 0, locals := 480 }) (kPre D cy sa [.ref ba, .int t0] [(ba, .inr (2, [.ref bfa, .ref ba_least, .ref ba_without, .int b_minutes, .int b_found])), (ba_least, .inl (cy 0, 12000, .inl bf_least)), (ba_without, .inl (cy 0, 4, .inl bf_without)), (bfa, .inr (3, [.ref bfa_who, .ref bfa_hold, .ref bfa_harm, .ref bfa_cost, .int bf_size])), (bfa_hold, .inl (cy 0, 4, .inl bff_hold)), (bfa_harm, .inl (cy 0, 4, .inl bff_harm)), (bfa_cost, .inl (cy 0, 16, .inl bff_cost))] sz) (va_Qv (fun (u : (Nat → Int32) × (Nat → Nat → Int32)) => (0 ≤ ((u.1 0)).toInt ∧ ((u.1 0)).toInt ≤ 40) ∧ (rowR 4 0 (9) ((u.2 1)))) (kB D (va_A [(ba, .inr (2, [.ref bfa, .ref ba_least, .ref ba_without, .int b_minutes, .int b_found])), (ba_least, .inl (cy 0, 12000, .inl bf_least)), (ba_without, .inl (cy 0, 4, .inl bf_without)), (bfa, .inr (3, [.ref bfa_who, .ref bfa_hold, .ref bfa_harm, .ref bfa_cost, .int bf_size])), (bfa_hold, .inl (cy 0, 4, .inl bff_hold)), (bfa_harm, .inl (cy 0, 4, .inl bff_harm)), (bfa_cost, .inl (cy 0, 16, .inl bff_cost))] sz) (fun (u : (Nat → Int32) × (Nat → Nat → Int32)) => [(ba, .inr (2, [.ref bfa, .ref ba_least, .ref ba_without, .int ((u.1 0)), .int ((u.1 1))])), (ba_least, .inl (cy 0, 12000, .inl ((u.2 0)))), (ba_without, .inl (cy 0, 4, .inl ((u.2 1)))), (bfa, .inr (3, [.ref bfa_who, .ref bfa_hold, .ref bfa_harm, .ref bfa_cost, .int bf_size])), (bfa_hold, .inl (cy 0, 4, .inl bff_hold)), (bfa_harm, .inl (cy 0, 4, .inl bff_harm)), (bfa_cost, .inl (cy 0, 16, .inl bff_cost))])) (va_A [(ba, .inr (2, [.ref bfa, .ref ba_least, .ref ba_without, .int b_minutes, .int b_found])), (ba_least, .inl (cy 0, 12000, .inl bf_least)), (ba_without, .inl (cy 0, 4, .inl bf_without)), (bfa, .inr (3, [.ref bfa_who, .ref bfa_hold, .ref bfa_harm, .ref bfa_cost, .int bf_size])), (bfa_hold, .inl (cy 0, 4, .inl bff_hold)), (bfa_harm, .inl (cy 0, 4, .inl bff_harm)), (bfa_cost, .inl (cy 0, 16, .inl bff_cost))] sz)) 0 0 (va_A [(ba, .inr (2, [.ref bfa, .ref ba_least, .ref ba_without, .int b_minutes, .int b_found])), (ba_least, .inl (cy 0, 12000, .inl bf_least)), (ba_without, .inl (cy 0, 4, .inl bf_without)), (bfa, .inr (3, [.ref bfa_who, .ref bfa_hold, .ref bfa_harm, .ref bfa_cost, .int bf_size])), (bfa_hold, .inl (cy 0, 4, .inl bff_hold)), (bfa_harm, .inl (cy 0, 4, .inl bff_harm)), (bfa_cost, .inl (cy 0, 16, .inl bff_cost))] sz) := by
  refine k_ofW (y := yX0_reckon) (cc := cX0_reckon) (maxL := 5) (ret := none) (av := [.ref ba, .int t0]) (ws := [(ba, .inr (2, [.ref bfa, .ref ba_least, .ref ba_without, .int b_minutes, .int b_found])), (ba_least, .inl (cy 0, 12000, .inl bf_least)), (ba_without, .inl (cy 0, 4, .inl bf_without)), (bfa, .inr (3, [.ref bfa_who, .ref bfa_hold, .ref bfa_harm, .ref bfa_cost, .int bf_size])), (bfa_hold, .inl (cy 0, 4, .inl bff_hold)), (bfa_harm, .inl (cy 0, 4, .inl bff_harm)), (bfa_cost, .inl (cy 0, 16, .inl bff_cost))]) (Qc := fun A => (va_Qv (fun (u : (Nat → Int32) × (Nat → Nat → Int32)) => (0 ≤ ((u.1 0)).toInt ∧ ((u.1 0)).toInt ≤ 40) ∧ (rowR 4 0 (9) ((u.2 1)))) (kB D A (fun (u : (Nat → Int32) × (Nat → Nat → Int32)) => [(ba, .inr (2, [.ref bfa, .ref ba_least, .ref ba_without, .int ((u.1 0)), .int ((u.1 1))])), (ba_least, .inl (cy 0, 12000, .inl ((u.2 0)))), (ba_without, .inl (cy 0, 4, .inl ((u.2 1)))), (bfa, .inr (3, [.ref bfa_who, .ref bfa_hold, .ref bfa_harm, .ref bfa_cost, .int bf_size])), (bfa_hold, .inl (cy 0, 4, .inl bff_hold)), (bfa_harm, .inl (cy 0, 4, .inl bff_harm)), (bfa_cost, .inl (cy 0, 16, .inl bff_cost))])) A)) (by decide) (Nat.le_of_ble_eq_true rfl) ?_
  intro p e s m below meth c ls A E hA hP hD hG hS hl
  obtain ⟨Q0, hQ0⟩ : ∃ Q0 : State → Prop, Q0 = MQ below (va_Qv (fun (u : (Nat → Int32) × (Nat → Nat → Int32)) => (0 ≤ ((u.1 0)).toInt ∧ ((u.1 0)).toInt ≤ 40) ∧ (rowR 4 0 (9) ((u.2 1)))) (kB D A (fun (u : (Nat → Int32) × (Nat → Nat → Int32)) => [(ba, .inr (2, [.ref bfa, .ref ba_least, .ref ba_without, .int ((u.1 0)), .int ((u.1 1))])), (ba_least, .inl (cy 0, 12000, .inl ((u.2 0)))), (ba_without, .inl (cy 0, 4, .inl ((u.2 1)))), (bfa, .inr (3, [.ref bfa_who, .ref bfa_hold, .ref bfa_harm, .ref bfa_cost, .int bf_size])), (bfa_hold, .inl (cy 0, 4, .inl bff_hold)), (bfa_harm, .inl (cy 0, 4, .inl bff_harm)), (bfa_cost, .inl (cy 0, 16, .inl bff_cost))])) A) ([.ref ba, .int t0] : List Value).toArray s 0 0 A := ⟨_, rfl⟩
  rw [← hQ0]
  obtain ⟨hx, hb, hml, hown, hts, hr, hlk, hnm⟩ := id E
  have hown : s.vm.findClass RX0 = some m.cls := hown
  have hl : lv_has ls 5 [(0, .ref ba), (1, .int t0)] := hl
  obtain ⟨H, hH⟩ : ∃ H, H = s.heap := ⟨_, rfl⟩
  have hP : va_P D vwCl [(ba, .inr (2, [.ref bfa, .ref ba_least, .ref ba_without, .int b_minutes, .int b_found])), (ba_least, .inl (cy 0, 12000, .inl bf_least)), (ba_without, .inl (cy 0, 4, .inl bf_without)), (bfa, .inr (3, [.ref bfa_who, .ref bfa_hold, .ref bfa_harm, .ref bfa_cost, .int bf_size])), (bfa_hold, .inl (cy 0, 4, .inl bff_hold)), (bfa_harm, .inl (cy 0, 4, .inl bff_harm)), (bfa_cost, .inl (cy 0, 16, .inl bff_cost))] H := by rw [hH]; exact hP
  have hS : va_S A s.heap H [] := by rw [hH]; exact va_S.rf
  rw [← hH]
  clear hH
  obtain ⟨locs, hlocs⟩ : ∃ locs : List Loc, locs = [] := ⟨_, rfl⟩
  rw [← hlocs] at hS ⊢
  refine lv_aload_n hx hb dX0_reckon_0 rfl (lv_at hl 0 rfl) ?_
  refine lv_iload_n hx hb dX0_reckon_1 rfl (lv_at hl 1 rfl) ?_
  refine lv_bipush (v := 40) hx hb dX0_reckon_2 (by decide) ?_
  refine va_mmin hx hb (hml.trans hl.1.symm) hown (hts _ wm_1466) (hts _ wm_519) (hts _ wm_17) (hts _ wm_520) (Nat.le_of_ble_eq_true rfl) (Nat.le_of_ble_eq_true rfl) (Nat.le_of_ble_eq_true rfl) (Nat.le_of_ble_eq_true rfl) dX0_reckon_4 ?_
  refine lv_topi (fun x1q ex1q => ?_)
  have rx1q := n_min ex1q (a := t0.toInt) (b := 40) rfl n_L40
  refine va_put (D := D) (ci := 2) (v := .int x1q) (ty := .int) (C := RX0) (T := TX0) (N := 5) hx hb hts kin_RX0 tyX0 tyX0_ok nmX0 hown hG.1 hP hD hS 0 rfl rfl 3 (by decide) (hts _ wm_403) (fun _ h9 => h9) rfl (by decide +kernel) rfl rfl (Nat.le_of_ble_eq_true rfl) dX0_reckon_7 (fun H locs hP hD hS => ?_)
  have hP : va_P D vwCl [(ba, .inr (2, [.ref bfa, .ref ba_least, .ref ba_without, .int x1q, .int b_found])), (ba_least, .inl (cy 0, 12000, .inl bf_least)), (ba_without, .inl (cy 0, 4, .inl bf_without)), (bfa, .inr (3, [.ref bfa_who, .ref bfa_hold, .ref bfa_harm, .ref bfa_cost, .int bf_size])), (bfa_hold, .inl (cy 0, 4, .inl bff_hold)), (bfa_harm, .inl (cy 0, 4, .inl bff_harm)), (bfa_cost, .inl (cy 0, 16, .inl bff_cost))] H := hP
  have hD : va_D A [(ba, .inr (2, [.ref bfa, .ref ba_least, .ref ba_without, .int x1q, .int b_found])), (ba_least, .inl (cy 0, 12000, .inl bf_least)), (ba_without, .inl (cy 0, 4, .inl bf_without)), (bfa, .inr (3, [.ref bfa_who, .ref bfa_hold, .ref bfa_harm, .ref bfa_cost, .int bf_size])), (bfa_hold, .inl (cy 0, 4, .inl bff_hold)), (bfa_harm, .inl (cy 0, 4, .inl bff_harm)), (bfa_cost, .inl (cy 0, 16, .inl bff_cost))] := hD
  refine lv_aload_n hx hb dX0_reckon_10 rfl (lv_at hl 0 rfl) ?_
  refine lv_ldc (v := 1000000000) hx hb hown (hts _ wm_399) dX0_reckon_11 ?_
  refine va_put (D := D) (ci := 2) (v := .int 1000000000) (ty := .int) (C := RX0) (T := TX0) (N := 5) hx hb hts kin_RX0 tyX0 tyX0_ok nmX0 hown hG.1 hP hD hS 0 rfl rfl 4 (by decide) (hts _ wm_404) (fun _ h9 => h9) rfl (by decide +kernel) rfl rfl (Nat.le_of_ble_eq_true rfl) dX0_reckon_13 (fun H locs hP hD hS => ?_)
  have hP : va_P D vwCl [(ba, .inr (2, [.ref bfa, .ref ba_least, .ref ba_without, .int x1q, .int 1000000000])), (ba_least, .inl (cy 0, 12000, .inl bf_least)), (ba_without, .inl (cy 0, 4, .inl bf_without)), (bfa, .inr (3, [.ref bfa_who, .ref bfa_hold, .ref bfa_harm, .ref bfa_cost, .int bf_size])), (bfa_hold, .inl (cy 0, 4, .inl bff_hold)), (bfa_harm, .inl (cy 0, 4, .inl bff_harm)), (bfa_cost, .inl (cy 0, 16, .inl bff_cost))] H := hP
  have hD : va_D A [(ba, .inr (2, [.ref bfa, .ref ba_least, .ref ba_without, .int x1q, .int 1000000000])), (ba_least, .inl (cy 0, 12000, .inl bf_least)), (ba_without, .inl (cy 0, 4, .inl bf_without)), (bfa, .inr (3, [.ref bfa_who, .ref bfa_hold, .ref bfa_harm, .ref bfa_cost, .int bf_size])), (bfa_hold, .inl (cy 0, 4, .inl bff_hold)), (bfa_harm, .inl (cy 0, 4, .inl bff_harm)), (bfa_cost, .inl (cy 0, 16, .inl bff_cost))] := hD
  refine lv_aload_n hx hb dX0_reckon_16 rfl (lv_at hl 0 rfl) ?_
  refine va_get (D := D) (ci := 2) (v := .ref ba_least) (C := RX0) (T := TX0) (N := 5) hx hb hts kin_RX0 hown hG.1 hP 0 rfl rfl 1 (by decide) (hts _ wm_401) (fun _ h9 => h9) rfl dX0_reckon_17 ?_
  refine lv_ldc (v := 1000000000) hx hb hown (hts _ wm_399) dX0_reckon_20 ?_
  refine k_calv [0, 2, 3, 4, 5, 6] (⟨hP, hD, hG, hS, hA, rfl, rfl⟩ : kAt D cy sa A s H _ _ [(ba_least, .inl (cy 0, 12000, .inl bf_least))] [1]) (wr := [(ba, .inr (2, [.ref bfa, .ref ba_least, .ref ba_without, .int x1q, .int 1000000000])), (ba_without, .inl (cy 0, 4, .inl bf_without)), (bfa, .inr (3, [.ref bfa_who, .ref bfa_hold, .ref bfa_harm, .ref bfa_cost, .int bf_size])), (bfa_hold, .inl (cy 0, 4, .inl bff_hold)), (bfa_harm, .inl (cy 0, 4, .inl bff_harm)), (bfa_cost, .inl (cy 0, 16, .inl bff_cost))]) rfl rfl (by decide) (k_runS (As := [.ref ba_least, .int 1000000000]) (rest := []) E lk_SRX0_36 (c_fill_12000 l hl0 D cy sa ba_least 1000000000 bf_least (1000000000) (1000000000) (by first | omega | (simp only [n_L1000000000]; omega) | (simp only [n_L1000000000]; done) | decide) (by first | omega | (simp only [n_L1000000000]; omega) | (simp only [n_L1000000000]; done) | decide) H.size) (⟨hP, hD, hG, hS, hA, rfl, rfl⟩ : kAt D cy sa A s H _ _ [(ba_least, .inl (cy 0, 12000, .inl bf_least))] [1]) hl.1 rfl rfl ⟨rfl, rfl, ⟨Nat.le_of_ble_eq_true rfl, Nat.le_of_ble_eq_true rfl⟩, ⟨Nat.le_of_ble_eq_true rfl, Nat.le_of_ble_eq_true rfl⟩, Nat.le_of_ble_eq_true rfl⟩ dX0_reckon_22) (fun u3q H locs hwu3q hP hD hS => ?_)
  have hP : va_P D vwCl [(ba, .inr (2, [.ref bfa, .ref ba_least, .ref ba_without, .int x1q, .int 1000000000])), (ba_without, .inl (cy 0, 4, .inl bf_without)), (bfa, .inr (3, [.ref bfa_who, .ref bfa_hold, .ref bfa_harm, .ref bfa_cost, .int bf_size])), (bfa_hold, .inl (cy 0, 4, .inl bff_hold)), (bfa_harm, .inl (cy 0, 4, .inl bff_harm)), (bfa_cost, .inl (cy 0, 16, .inl bff_cost)), (ba_least, .inl (cy 0, 12000, .inl ((u3q.2 0))))] H := hP
  have hD : va_D A [(ba, .inr (2, [.ref bfa, .ref ba_least, .ref ba_without, .int x1q, .int 1000000000])), (ba_without, .inl (cy 0, 4, .inl bf_without)), (bfa, .inr (3, [.ref bfa_who, .ref bfa_hold, .ref bfa_harm, .ref bfa_cost, .int bf_size])), (bfa_hold, .inl (cy 0, 4, .inl bff_hold)), (bfa_harm, .inl (cy 0, 4, .inl bff_harm)), (bfa_cost, .inl (cy 0, 16, .inl bff_cost)), (ba_least, .inl (cy 0, 12000, .inl ((u3q.2 0))))] := hD
  have p4q := hwu3q
  refine lv_aload_n hx hb dX0_reckon_25 rfl (lv_at hl 0 rfl) ?_
  refine va_get (D := D) (ci := 2) (v := .ref ba_least) (C := RX0) (T := TX0) (N := 5) hx hb hts kin_RX0 hown hG.1 hP 0 rfl rfl 1 (by decide) (hts _ wm_401) (fun _ h9 => h9) rfl dX0_reckon_26 ?_
  refine lv_iconst (v := 0) hx hb dX0_reckon_29 (by decide) ?_
  refine lv_iconst (v := 0) hx hb dX0_reckon_30 (by decide) ?_
  refine va_iast hx hb hG.1 hP hD hS 6 0 rfl rfl (by unfold vp_in; decide) dX0_reckon_31 (fun H locs hP hD hS => ?_)
  have hP : va_P D vwCl [(ba, .inr (2, [.ref bfa, .ref ba_least, .ref ba_without, .int x1q, .int 1000000000])), (ba_without, .inl (cy 0, 4, .inl bf_without)), (bfa, .inr (3, [.ref bfa_who, .ref bfa_hold, .ref bfa_harm, .ref bfa_cost, .int bf_size])), (bfa_hold, .inl (cy 0, 4, .inl bff_hold)), (bfa_harm, .inl (cy 0, 4, .inl bff_harm)), (bfa_cost, .inl (cy 0, 16, .inl bff_cost)), (ba_least, .inl (cy 0, 12000, .inl (upd ((u3q.2 0)) (0 : Int32).toNatClampNeg 0)))] H := hP
  have hD : va_D A [(ba, .inr (2, [.ref bfa, .ref ba_least, .ref ba_without, .int x1q, .int 1000000000])), (ba_without, .inl (cy 0, 4, .inl bf_without)), (bfa, .inr (3, [.ref bfa_who, .ref bfa_hold, .ref bfa_harm, .ref bfa_cost, .int bf_size])), (bfa_hold, .inl (cy 0, 4, .inl bff_hold)), (bfa_harm, .inl (cy 0, 4, .inl bff_harm)), (bfa_cost, .inl (cy 0, 16, .inl bff_cost)), (ba_least, .inl (cy 0, 12000, .inl (upd ((u3q.2 0)) (0 : Int32).toNatClampNeg 0)))] := hD
  generalize upd ((u3q.2 0)) (0 : Int32).toNatClampNeg 0 = f5q at hP hD
  have hP : va_P D vwCl [(ba, .inr (2, [.ref bfa, .ref ba_least, .ref ba_without, .int x1q, .int 1000000000])), (ba_without, .inl (cy 0, 4, .inl bf_without)), (bfa, .inr (3, [.ref bfa_who, .ref bfa_hold, .ref bfa_harm, .ref bfa_cost, .int bf_size])), (bfa_hold, .inl (cy 0, 4, .inl bff_hold)), (bfa_harm, .inl (cy 0, 4, .inl bff_harm)), (bfa_cost, .inl (cy 0, 16, .inl bff_cost)), (ba_least, .inl (cy 0, 12000, .inl f5q))] H := hP
  have hD : va_D A [(ba, .inr (2, [.ref bfa, .ref ba_least, .ref ba_without, .int x1q, .int 1000000000])), (ba_without, .inl (cy 0, 4, .inl bf_without)), (bfa, .inr (3, [.ref bfa_who, .ref bfa_hold, .ref bfa_harm, .ref bfa_cost, .int bf_size])), (bfa_hold, .inl (cy 0, 4, .inl bff_hold)), (bfa_harm, .inl (cy 0, 4, .inl bff_harm)), (bfa_cost, .inl (cy 0, 16, .inl bff_cost)), (ba_least, .inl (cy 0, 12000, .inl f5q))] := hD
  refine lv_iconst (v := 0) hx hb dX0_reckon_32 (by decide) ?_
  refine lv_istore_n (lv' := [(2, .int 0), (0, .ref ba), (1, .int t0)]) hx hb dX0_reckon_33 rfl hl (by decide) rfl (fun ls hl => ?_)
  have k6q : ∀ (n : Nat) (k6qy2 : Int32) (k6qb_found : Int32) (k6qbf_least : Nat → Int32) (k6qbf_without : Nat → Int32) (H : Heap) (locs : List Loc) (ls : Array Slot), 0 ≤ k6qy2.toInt ∧ k6qy2.toInt ≤ 40 → rowR 4 0 (9) k6qbf_without → (40 - k6qy2.toInt).toNat = n → va_P D vwCl [(ba, .inr (2, [.ref bfa, .ref ba_least, .ref ba_without, .int x1q, .int k6qb_found])), (ba_without, .inl (cy 0, 4, .inl k6qbf_without)), (bfa, .inr (3, [.ref bfa_who, .ref bfa_hold, .ref bfa_harm, .ref bfa_cost, .int bf_size])), (bfa_hold, .inl (cy 0, 4, .inl bff_hold)), (bfa_harm, .inl (cy 0, 4, .inl bff_harm)), (bfa_cost, .inl (cy 0, 16, .inl bff_cost)), (ba_least, .inl (cy 0, 12000, .inl k6qbf_least))] H → va_D A [(ba, .inr (2, [.ref bfa, .ref ba_least, .ref ba_without, .int x1q, .int k6qb_found])), (ba_without, .inl (cy 0, 4, .inl k6qbf_without)), (bfa, .inr (3, [.ref bfa_who, .ref bfa_hold, .ref bfa_harm, .ref bfa_cost, .int bf_size])), (bfa_hold, .inl (cy 0, 4, .inl bff_hold)), (bfa_harm, .inl (cy 0, 4, .inl bff_harm)), (bfa_cost, .inl (cy 0, 16, .inl bff_cost)), (ba_least, .inl (cy 0, 12000, .inl k6qbf_least))] → va_S A s.heap H locs → lv_has ls 5 [(2, .int k6qy2), (0, .ref ba), (1, .int t0)] → W p l e ({ frames := 13, cells := 0, slots := 0, locals := 480 }) s m ([.ref ba, .int t0] : List Value).toArray below meth c H locs 0 0 Q0 (F0 m 34 ls []) := by
    intro n
    induction n using Nat.strongRecOn with
    | ind n k6qih =>
      intro k6qy2 k6qb_found k6qbf_least k6qbf_without H locs ls hk6qy2 hk6qbf_without k6qm hP hD hS hl
      have gk6qb_found := k_rng k6qb_found
      refine lv_iload_n hx hb dX0_reckon_34 rfl (lv_at hl 0 rfl) ?_
      refine lv_aload_n hx hb dX0_reckon_35 rfl (lv_at hl 1 rfl) ?_
      refine va_get (D := D) (ci := 2) (v := .int x1q) (C := RX0) (T := TX0) (N := 5) hx hb hts kin_RX0 hown hG.1 hP 0 rfl rfl 3 (by decide) (hts _ wm_403) (fun _ h9 => h9) rfl dX0_reckon_36 ?_
      refine lv_icmp_ge (tgt := 100) hx hb dX0_reckon_39 (by decide) (fun c7q => ?_) (fun c7q => ?_)
      · simp only [k_lt, k_le, k_eq, ne_eq, ge_iff_le, gt_iff_lt] at c7q
        rw [hQ0]
        exact k_vret (fun k => [x1q, k6qb_found].getD k 0, fun k => [k6qbf_least, k6qbf_without].getD k (fun _ => 0)) hx hb hr hlk (⟨(show 0 ≤ x1q.toInt ∧ x1q.toInt ≤ 40 from ⟨by omega, by omega⟩), (show rowR 4 0 (9) k6qbf_without from hk6qbf_without)⟩) (hP.sub [0, 6, 1, 2, 3, 4, 5] rfl) (hD.sub [0, 6, 1, 2, 3, 4, 5] (by decide) rfl) hS (by decide) (by decide) dX0_reckon_100
      · simp only [k_lt, k_le, k_eq, ne_eq, ge_iff_le, gt_iff_lt] at c7q
        refine lv_iconst (v := 0) hx hb dX0_reckon_42 (by decide) ?_
        refine lv_istore_n (lv' := [(3, .int 0), (2, .int k6qy2), (0, .ref ba), (1, .int t0)]) hx hb dX0_reckon_43 rfl hl (by decide) rfl (fun ls hl => ?_)
        have k8q : ∀ (n : Nat) (k8qy3 : Int32) (k8qb_found : Int32) (k8qbf_least : Nat → Int32) (k8qbf_without : Nat → Int32) (H : Heap) (locs : List Loc) (ls : Array Slot), 0 ≤ k8qy3.toInt ∧ k8qy3.toInt ≤ 300 → rowR 4 0 (9) k8qbf_without → (300 - k8qy3.toInt).toNat = n → va_P D vwCl [(ba, .inr (2, [.ref bfa, .ref ba_least, .ref ba_without, .int x1q, .int k8qb_found])), (ba_without, .inl (cy 0, 4, .inl k8qbf_without)), (bfa, .inr (3, [.ref bfa_who, .ref bfa_hold, .ref bfa_harm, .ref bfa_cost, .int bf_size])), (bfa_hold, .inl (cy 0, 4, .inl bff_hold)), (bfa_harm, .inl (cy 0, 4, .inl bff_harm)), (bfa_cost, .inl (cy 0, 16, .inl bff_cost)), (ba_least, .inl (cy 0, 12000, .inl k8qbf_least))] H → va_D A [(ba, .inr (2, [.ref bfa, .ref ba_least, .ref ba_without, .int x1q, .int k8qb_found])), (ba_without, .inl (cy 0, 4, .inl k8qbf_without)), (bfa, .inr (3, [.ref bfa_who, .ref bfa_hold, .ref bfa_harm, .ref bfa_cost, .int bf_size])), (bfa_hold, .inl (cy 0, 4, .inl bff_hold)), (bfa_harm, .inl (cy 0, 4, .inl bff_harm)), (bfa_cost, .inl (cy 0, 16, .inl bff_cost)), (ba_least, .inl (cy 0, 12000, .inl k8qbf_least))] → va_S A s.heap H locs → lv_has ls 5 [(3, .int k8qy3), (2, .int k6qy2), (0, .ref ba), (1, .int t0)] → W p l e ({ frames := 13, cells := 0, slots := 0, locals := 480 }) s m ([.ref ba, .int t0] : List Value).toArray below meth c H locs 0 0 Q0 (F0 m 44 ls []) := by
          intro n
          induction n using Nat.strongRecOn with
          | ind n k8qih =>
            intro k8qy3 k8qb_found k8qbf_least k8qbf_without H locs ls hk8qy3 hk8qbf_without k8qm hP hD hS hl
            have gk8qb_found := k_rng k8qb_found
            refine lv_iload_n hx hb dX0_reckon_44 rfl (lv_at hl 0 rfl) ?_
            refine lv_sipush (v := 300) hx hb dX0_reckon_45 (by decide) ?_
            refine lv_icmp_ge (tgt := 94) hx hb dX0_reckon_48 (by decide) (fun c9q => ?_) (fun c9q => ?_)
            · simp only [k_lt, k_le, k_eq, ne_eq, ge_iff_le, gt_iff_lt, n_L300] at c9q
              obtain ⟨x10q, ex10q⟩ : ∃ z : Int32, z = k6qy2 + 1 := ⟨_, rfl⟩
              refine lv_iinc (v := x10q) (lv' := [(2, .int x10q), (3, .int k8qy3), (0, .ref ba), (1, .int t0)]) hx hb dX0_reckon_94 hl (k := 1) rfl (by rw [ex10q]; rfl) (by decide) rfl (fun ls hl => ?_)
              have rx10q := n_add ex10q (a := k6qy2.toInt) (b := 1) rfl n_L1 (by omega) (by omega)
              refine lv_goto (tgt := 34) hx hb dX0_reckon_97 (by decide) ?_
              exact k6qih ((40 - x10q.toInt).toNat) (by omega) x10q k8qb_found k8qbf_least k8qbf_without H locs ls ⟨by omega, by omega⟩ hk8qbf_without rfl hP hD hS (lv_sub hl [0, 2, 3] rfl)
            · simp only [k_lt, k_le, k_eq, ne_eq, ge_iff_le, gt_iff_lt, n_L300] at c9q
              refine lv_aload_n hx hb dX0_reckon_51 rfl (lv_at hl 2 rfl) ?_
              refine va_get (D := D) (ci := 2) (v := .ref ba_least) (C := RX0) (T := TX0) (N := 5) hx hb hts kin_RX0 hown hG.1 hP 0 rfl rfl 1 (by decide) (hts _ wm_401) (fun _ h9 => h9) rfl dX0_reckon_52 ?_
              refine lv_iload_n hx hb dX0_reckon_55 rfl (lv_at hl 1 rfl) ?_
              refine lv_sipush (v := 300) hx hb dX0_reckon_56 (by decide) ?_
              refine lv_imul hx hb dX0_reckon_59 ?_
              refine lv_topi (fun x11q ex11q => ?_)
              have rx11q := n_mul ex11q (a := k6qy2.toInt) (b := 300) rfl n_L300 (by omega) (by omega)
              refine lv_iload_n hx hb dX0_reckon_60 rfl (lv_at hl 0 rfl) ?_
              refine lv_iadd hx hb dX0_reckon_61 ?_
              refine lv_topi (fun x12q ex12q => ?_)
              have rx12q := n_add ex12q (a := x11q.toInt) (b := k8qy3.toInt) rfl rfl (by omega) (by omega)
              refine va_iald hx hb hG.1 hP 6 0 rfl rfl (n_in (by omega) (by omega)) dX0_reckon_62 ?_
              refine lv_topi (fun x13q ex13q => ?_)
              refine lv_istore (lv' := [(4, .int x13q), (3, .int k8qy3), (2, .int k6qy2), (0, .ref ba), (1, .int t0)]) hx hb dX0_reckon_63 hl (by decide) rfl (fun ls hl => ?_)
              refine lv_iload hx hb dX0_reckon_65 (lv_at hl 0 rfl) ?_
              refine lv_ldc (v := 1000000000) hx hb hown (hts _ wm_399) dX0_reckon_67 ?_
              refine lv_icmp_eq (tgt := 88) hx hb dX0_reckon_69 (by decide) (fun c14q => ?_) (fun c14q => ?_)
              · simp only [k_lt, k_le, k_eq, ne_eq, ge_iff_le, gt_iff_lt, n_L1000000000] at c14q
                obtain ⟨x15q, ex15q⟩ : ∃ z : Int32, z = k8qy3 + 1 := ⟨_, rfl⟩
                refine lv_iinc (v := x15q) (lv' := [(3, .int x15q), (4, .int x13q), (2, .int k6qy2), (0, .ref ba), (1, .int t0)]) hx hb dX0_reckon_88 hl (k := 1) rfl (by rw [ex15q]; rfl) (by decide) rfl (fun ls hl => ?_)
                have rx15q := n_add ex15q (a := k8qy3.toInt) (b := 1) rfl n_L1 (by omega) (by omega)
                refine lv_goto (tgt := 44) hx hb dX0_reckon_91 (by decide) ?_
                exact k8qih ((300 - x15q.toInt).toNat) (by omega) x15q k8qb_found k8qbf_least k8qbf_without H locs ls ⟨by omega, by omega⟩ hk8qbf_without rfl hP hD hS (lv_sub hl [0, 2, 3, 4] rfl)
              · simp only [k_lt, k_le, k_eq, ne_eq, ge_iff_le, gt_iff_lt, n_L1000000000] at c14q
                refine lv_aload_n hx hb dX0_reckon_72 rfl (lv_at hl 3 rfl) ?_
                refine lv_iload_n hx hb dX0_reckon_73 rfl (lv_at hl 1 rfl) ?_
                refine k_calv [3, 4, 5, 6] (⟨hP, hD, hG, hS, hA, rfl, rfl⟩ : kAt D cy sa A s H _ _ [(ba, .inr (2, [.ref bfa, .ref ba_least, .ref ba_without, .int x1q, .int k8qb_found])), (ba_without, .inl (cy 0, 4, .inl k8qbf_without)), (bfa, .inr (3, [.ref bfa_who, .ref bfa_hold, .ref bfa_harm, .ref bfa_cost, .int bf_size]))] [0, 1, 2]) (wr := [(bfa_hold, .inl (cy 0, 4, .inl bff_hold)), (bfa_harm, .inl (cy 0, 4, .inl bff_harm)), (bfa_cost, .inl (cy 0, 16, .inl bff_cost)), (ba_least, .inl (cy 0, 12000, .inl k8qbf_least))]) rfl rfl (by decide) (k_runV 2 0 (As := [.int k8qy3]) (rest := []) E lk_VRX0_42 rfl rfl rfl (c_takeApart l hl0 D cy sa ba ba_least ba_without bfa bfa_who bfa_hold bfa_harm bfa_cost x1q k8qb_found bf_size k8qy3 k8qbf_without ⟨by omega, by omega⟩ hk8qbf_without ⟨by omega, by omega⟩ ⟨by omega, by omega⟩ H.size) (⟨hP, hD, hG, hS, hA, rfl, rfl⟩ : kAt D cy sa A s H _ _ [(ba, .inr (2, [.ref bfa, .ref ba_least, .ref ba_without, .int x1q, .int k8qb_found])), (ba_without, .inl (cy 0, 4, .inl k8qbf_without)), (bfa, .inr (3, [.ref bfa_who, .ref bfa_hold, .ref bfa_harm, .ref bfa_cost, .int bf_size]))] [0, 1, 2]) hl.1 rfl rfl ⟨rfl, rfl, ⟨Nat.le_of_ble_eq_true rfl, Nat.le_of_ble_eq_true rfl⟩, ⟨Nat.le_of_ble_eq_true rfl, Nat.le_of_ble_eq_true rfl⟩, Nat.le_of_ble_eq_true rfl⟩ dX0_reckon_74) (fun u17q H locs hwu17q hP hD hS => ?_)
                have hP : va_P D vwCl [(bfa_hold, .inl (cy 0, 4, .inl bff_hold)), (bfa_harm, .inl (cy 0, 4, .inl bff_harm)), (bfa_cost, .inl (cy 0, 16, .inl bff_cost)), (ba_least, .inl (cy 0, 12000, .inl k8qbf_least)), (ba, .inr (2, [.ref bfa, .ref ba_least, .ref ba_without, .int x1q, .int k8qb_found])), (ba_without, .inl (cy 0, 4, .inl ((u17q.2 0)))), (bfa, .inr (3, [.ref bfa_who, .ref bfa_hold, .ref bfa_harm, .ref bfa_cost, .int bf_size]))] H := hP
                have hD : va_D A [(bfa_hold, .inl (cy 0, 4, .inl bff_hold)), (bfa_harm, .inl (cy 0, 4, .inl bff_harm)), (bfa_cost, .inl (cy 0, 16, .inl bff_cost)), (ba_least, .inl (cy 0, 12000, .inl k8qbf_least)), (ba, .inr (2, [.ref bfa, .ref ba_least, .ref ba_without, .int x1q, .int k8qb_found])), (ba_without, .inl (cy 0, 4, .inl ((u17q.2 0)))), (bfa, .inr (3, [.ref bfa_who, .ref bfa_hold, .ref bfa_harm, .ref bfa_cost, .int bf_size]))] := hD
                have p18q := hwu17q
                refine lv_aload_n hx hb dX0_reckon_77 rfl (lv_at hl 3 rfl) ?_
                refine lv_iload_n hx hb dX0_reckon_78 rfl (lv_at hl 2 rfl) ?_
                refine lv_iload_n hx hb dX0_reckon_79 rfl (lv_at hl 1 rfl) ?_
                refine lv_bipush (v := 100) hx hb dX0_reckon_80 (by decide) ?_
                refine lv_idiv hx hb dX0_reckon_82 (by decide) ?_
                refine lv_topi (fun x19q ex19q => ?_)
                have rx19q := n_div ex19q (a := k8qy3.toInt) (b := 100) rfl n_L100 (by omega) (by omega)
                refine lv_iload hx hb dX0_reckon_83 (lv_at hl 0 rfl) ?_
                refine k_calv [] (⟨hP, hD, hG, hS, hA, rfl, rfl⟩ : kAt D cy sa A s H _ _ [(ba, .inr (2, [.ref bfa, .ref ba_least, .ref ba_without, .int x1q, .int k8qb_found])), (ba_least, .inl (cy 0, 12000, .inl k8qbf_least)), (ba_without, .inl (cy 0, 4, .inl ((u17q.2 0)))), (bfa, .inr (3, [.ref bfa_who, .ref bfa_hold, .ref bfa_harm, .ref bfa_cost, .int bf_size])), (bfa_hold, .inl (cy 0, 4, .inl bff_hold)), (bfa_harm, .inl (cy 0, 4, .inl bff_harm)), (bfa_cost, .inl (cy 0, 16, .inl bff_cost))] [4, 3, 5, 6, 0, 1, 2]) (wr := []) rfl rfl (by decide) (k_runV 2 4 (As := [.int k6qy2, .int x19q, .int x13q]) (rest := []) E lk_VRX0_46 rfl rfl rfl (c_goOn l hl0 D cy sa ba ba_least ba_without bfa bfa_who bfa_hold bfa_harm bfa_cost x1q k8qb_found bf_size k6qy2 x19q x13q k8qbf_least ((u17q.2 0)) bff_hold bff_harm bff_cost ⟨by omega, by omega⟩ p18q ⟨by omega, by omega⟩ h_bff_hold h_bff_cost ⟨by omega, by omega⟩ H.size) (⟨hP, hD, hG, hS, hA, rfl, rfl⟩ : kAt D cy sa A s H _ _ [(ba, .inr (2, [.ref bfa, .ref ba_least, .ref ba_without, .int x1q, .int k8qb_found])), (ba_least, .inl (cy 0, 12000, .inl k8qbf_least)), (ba_without, .inl (cy 0, 4, .inl ((u17q.2 0)))), (bfa, .inr (3, [.ref bfa_who, .ref bfa_hold, .ref bfa_harm, .ref bfa_cost, .int bf_size])), (bfa_hold, .inl (cy 0, 4, .inl bff_hold)), (bfa_harm, .inl (cy 0, 4, .inl bff_harm)), (bfa_cost, .inl (cy 0, 16, .inl bff_cost))] [4, 3, 5, 6, 0, 1, 2]) hl.1 rfl rfl ⟨rfl, rfl, ⟨Nat.le_of_ble_eq_true rfl, Nat.le_of_ble_eq_true rfl⟩, ⟨Nat.le_of_ble_eq_true rfl, Nat.le_of_ble_eq_true rfl⟩, Nat.le_of_ble_eq_true rfl⟩ dX0_reckon_85) (fun u21q H locs hwu21q hP hD hS => ?_)
                have hP : va_P D vwCl [(ba, .inr (2, [.ref bfa, .ref ba_least, .ref ba_without, .int x1q, .int ((u21q.1 0))])), (ba_least, .inl (cy 0, 12000, .inl ((u21q.2 0)))), (ba_without, .inl (cy 0, 4, .inl ((u17q.2 0)))), (bfa, .inr (3, [.ref bfa_who, .ref bfa_hold, .ref bfa_harm, .ref bfa_cost, .int bf_size])), (bfa_hold, .inl (cy 0, 4, .inl bff_hold)), (bfa_harm, .inl (cy 0, 4, .inl bff_harm)), (bfa_cost, .inl (cy 0, 16, .inl bff_cost))] H := hP
                have hD : va_D A [(ba, .inr (2, [.ref bfa, .ref ba_least, .ref ba_without, .int x1q, .int ((u21q.1 0))])), (ba_least, .inl (cy 0, 12000, .inl ((u21q.2 0)))), (ba_without, .inl (cy 0, 4, .inl ((u17q.2 0)))), (bfa, .inr (3, [.ref bfa_who, .ref bfa_hold, .ref bfa_harm, .ref bfa_cost, .int bf_size])), (bfa_hold, .inl (cy 0, 4, .inl bff_hold)), (bfa_harm, .inl (cy 0, 4, .inl bff_harm)), (bfa_cost, .inl (cy 0, 16, .inl bff_cost))] := hD
                obtain ⟨x22q, ex22q⟩ : ∃ z : Int32, z = k8qy3 + 1 := ⟨_, rfl⟩
                refine lv_iinc (v := x22q) (lv' := [(3, .int x22q), (4, .int x13q), (2, .int k6qy2), (0, .ref ba), (1, .int t0)]) hx hb dX0_reckon_88 hl (k := 1) rfl (by rw [ex22q]; rfl) (by decide) rfl (fun ls hl => ?_)
                have rx22q := n_add ex22q (a := k8qy3.toInt) (b := 1) rfl n_L1 (by omega) (by omega)
                refine lv_goto (tgt := 44) hx hb dX0_reckon_91 (by decide) ?_
                exact k8qih ((300 - x22q.toInt).toNat) (by omega) x22q (u21q.1 0) (u21q.2 0) (u17q.2 0) H locs ls ⟨by omega, by omega⟩ p18q rfl (hP.sub [0, 2, 3, 4, 5, 6, 1] rfl) (hD.sub [0, 2, 3, 4, 5, 6, 1] (by decide) rfl) hS (lv_sub hl [0, 2, 3, 4] rfl)
        exact k8q _ 0 k6qb_found k6qbf_least k6qbf_without H locs ls ⟨by rw [n_L0]; omega, by rw [n_L0]; omega⟩ hk6qbf_without rfl hP hD hS (lv_sub hl [0, 1, 2, 3] rfl)
  exact k6q _ 0 1000000000 f5q bf_without H locs ls ⟨by rw [n_L0]; omega, by rw [n_L0]; omega⟩ h_bf_without rfl hP hD hS (lv_sub hl [0, 1, 2] rfl)

set_option maxHeartbeats 4000000 in
set_option maxRecDepth 100000 in
/-- Backlog.leastHarm -/
theorem c_leastHarm (l : Launch) (hl0 : l.stackTraces = false) (D : va_G) (cy : Nat → ClassId) (sa : Nat → Nat) (ba ba_least ba_without bfa bfa_who bfa_hold bfa_harm bfa_cost : Nat) (b_minutes b_found bf_size : Int32) (h_b_minutes : 0 ≤ b_minutes.toInt ∧ b_minutes.toInt ≤ 40) (h_bf_size : 0 ≤ bf_size.toInt ∧ bf_size.toInt ≤ 4) (sz : Nat) : Met l yX0_leastHarm (Cond.code yX0_leastHarm cX0_leastHarm 1 (some .int) :: kWS) ({ frames := 10, cells := 0, slots := 0, locals := 300 }) (kPre D cy sa [.ref ba] [(ba, .inr (2, [.ref bfa, .ref ba_least, .ref ba_without, .int b_minutes, .int b_found])), (bfa, .inr (3, [.ref bfa_who, .ref bfa_hold, .ref bfa_harm, .ref bfa_cost, .int bf_size]))] sz) (va_Qi (fun (r : Int32) (u : Unit) => True) (kB D (va_A [(ba, .inr (2, [.ref bfa, .ref ba_least, .ref ba_without, .int b_minutes, .int b_found])), (bfa, .inr (3, [.ref bfa_who, .ref bfa_hold, .ref bfa_harm, .ref bfa_cost, .int bf_size]))] sz) (fun (u : Unit) => [(ba, .inr (2, [.ref bfa, .ref ba_least, .ref ba_without, .int b_minutes, .int b_found])), (bfa, .inr (3, [.ref bfa_who, .ref bfa_hold, .ref bfa_harm, .ref bfa_cost, .int bf_size]))])) (va_A [(ba, .inr (2, [.ref bfa, .ref ba_least, .ref ba_without, .int b_minutes, .int b_found])), (bfa, .inr (3, [.ref bfa_who, .ref bfa_hold, .ref bfa_harm, .ref bfa_cost, .int bf_size]))] sz)) 0 0 (va_A [(ba, .inr (2, [.ref bfa, .ref ba_least, .ref ba_without, .int b_minutes, .int b_found])), (bfa, .inr (3, [.ref bfa_who, .ref bfa_hold, .ref bfa_harm, .ref bfa_cost, .int bf_size]))] sz) := by
  refine k_ofW (y := yX0_leastHarm) (cc := cX0_leastHarm) (maxL := 1) (ret := (some .int)) (av := [.ref ba]) (ws := [(ba, .inr (2, [.ref bfa, .ref ba_least, .ref ba_without, .int b_minutes, .int b_found])), (bfa, .inr (3, [.ref bfa_who, .ref bfa_hold, .ref bfa_harm, .ref bfa_cost, .int bf_size]))]) (Qc := fun A => (va_Qi (fun (r : Int32) (u : Unit) => True) (kB D A (fun (u : Unit) => [(ba, .inr (2, [.ref bfa, .ref ba_least, .ref ba_without, .int b_minutes, .int b_found])), (bfa, .inr (3, [.ref bfa_who, .ref bfa_hold, .ref bfa_harm, .ref bfa_cost, .int bf_size]))])) A)) (by decide) (Nat.le_of_ble_eq_true rfl) ?_
  intro p e s m below meth c ls A E hA hP hD hG hS hl
  obtain ⟨Q0, hQ0⟩ : ∃ Q0 : State → Prop, Q0 = MQ below (va_Qi (fun (r : Int32) (u : Unit) => True) (kB D A (fun (u : Unit) => [(ba, .inr (2, [.ref bfa, .ref ba_least, .ref ba_without, .int b_minutes, .int b_found])), (bfa, .inr (3, [.ref bfa_who, .ref bfa_hold, .ref bfa_harm, .ref bfa_cost, .int bf_size]))])) A) ([.ref ba] : List Value).toArray s 0 0 A := ⟨_, rfl⟩
  rw [← hQ0]
  obtain ⟨hx, hb, hml, hown, hts, hr, hlk, hnm⟩ := id E
  have hown : s.vm.findClass RX0 = some m.cls := hown
  have hl : lv_has ls 1 [(0, .ref ba)] := hl
  obtain ⟨H, hH⟩ : ∃ H, H = s.heap := ⟨_, rfl⟩
  have hP : va_P D vwCl [(ba, .inr (2, [.ref bfa, .ref ba_least, .ref ba_without, .int b_minutes, .int b_found])), (bfa, .inr (3, [.ref bfa_who, .ref bfa_hold, .ref bfa_harm, .ref bfa_cost, .int bf_size]))] H := by rw [hH]; exact hP
  have hS : va_S A s.heap H [] := by rw [hH]; exact va_S.rf
  rw [← hH]
  clear hH
  obtain ⟨locs, hlocs⟩ : ∃ locs : List Loc, locs = [] := ⟨_, rfl⟩
  rw [← hlocs] at hS ⊢
  refine lv_aload_n hx hb dX0_leastHarm_0 rfl (lv_at hl 0 rfl) ?_
  refine va_get (D := D) (ci := 2) (v := .int b_found) (C := RX0) (T := TX0) (N := 5) hx hb hts kin_RX0 hown hG.1 hP 0 rfl rfl 4 (by decide) (hts _ wm_404) (fun _ h9 => h9) rfl dX0_leastHarm_1 ?_
  refine lv_iconst (v := 4) hx hb dX0_leastHarm_4 (by decide) ?_
  refine lv_idiv hx hb dX0_leastHarm_5 (by decide) ?_
  refine lv_topi (fun x1q ex1q => ?_)
  have gx1q := k_rng b_found
  rw [hQ0]
  exact k_iret () hx hb hr hlk (trivial) (hP.sub [0, 1] rfl) (hD.sub [0, 1] (by decide) rfl) hS (by decide) (by decide) dX0_leastHarm_6

set_option maxHeartbeats 4000000 in
set_option maxRecDepth 100000 in
/-- Backlog.firstStep -/
theorem c_firstStep (l : Launch) (hl0 : l.stackTraces = false) (D : va_G) (cy : Nat → ClassId) (sa : Nat → Nat) (ba ba_least ba_without bfa bfa_who bfa_hold bfa_harm bfa_cost : Nat) (b_minutes b_found bf_size : Int32) (bff_who : Nat → Int32) (h_b_minutes : 0 ≤ b_minutes.toInt ∧ b_minutes.toInt ≤ 40) (h_bf_size : 0 ≤ bf_size.toInt ∧ bf_size.toInt ≤ 4) (h_bff_who : rowR 4 0 (8) bff_who) (sz : Nat) : Met l yX0_firstStep (Cond.code yX0_firstStep cX0_firstStep 2 (some .int) :: kWS) ({ frames := 11, cells := 0, slots := 0, locals := 360 }) (kPre D cy sa [.ref ba] [(ba, .inr (2, [.ref bfa, .ref ba_least, .ref ba_without, .int b_minutes, .int b_found])), (bfa, .inr (3, [.ref bfa_who, .ref bfa_hold, .ref bfa_harm, .ref bfa_cost, .int bf_size])), (bfa_who, .inl (cy 0, 4, .inl bff_who))] sz) (va_Qi (fun (r : Int32) (u : Unit) => True) (kB D (va_A [(ba, .inr (2, [.ref bfa, .ref ba_least, .ref ba_without, .int b_minutes, .int b_found])), (bfa, .inr (3, [.ref bfa_who, .ref bfa_hold, .ref bfa_harm, .ref bfa_cost, .int bf_size])), (bfa_who, .inl (cy 0, 4, .inl bff_who))] sz) (fun (u : Unit) => [(ba, .inr (2, [.ref bfa, .ref ba_least, .ref ba_without, .int b_minutes, .int b_found])), (bfa, .inr (3, [.ref bfa_who, .ref bfa_hold, .ref bfa_harm, .ref bfa_cost, .int bf_size])), (bfa_who, .inl (cy 0, 4, .inl bff_who))])) (va_A [(ba, .inr (2, [.ref bfa, .ref ba_least, .ref ba_without, .int b_minutes, .int b_found])), (bfa, .inr (3, [.ref bfa_who, .ref bfa_hold, .ref bfa_harm, .ref bfa_cost, .int bf_size])), (bfa_who, .inl (cy 0, 4, .inl bff_who))] sz)) 0 0 (va_A [(ba, .inr (2, [.ref bfa, .ref ba_least, .ref ba_without, .int b_minutes, .int b_found])), (bfa, .inr (3, [.ref bfa_who, .ref bfa_hold, .ref bfa_harm, .ref bfa_cost, .int bf_size])), (bfa_who, .inl (cy 0, 4, .inl bff_who))] sz) := by
  refine k_ofW (y := yX0_firstStep) (cc := cX0_firstStep) (maxL := 2) (ret := (some .int)) (av := [.ref ba]) (ws := [(ba, .inr (2, [.ref bfa, .ref ba_least, .ref ba_without, .int b_minutes, .int b_found])), (bfa, .inr (3, [.ref bfa_who, .ref bfa_hold, .ref bfa_harm, .ref bfa_cost, .int bf_size])), (bfa_who, .inl (cy 0, 4, .inl bff_who))]) (Qc := fun A => (va_Qi (fun (r : Int32) (u : Unit) => True) (kB D A (fun (u : Unit) => [(ba, .inr (2, [.ref bfa, .ref ba_least, .ref ba_without, .int b_minutes, .int b_found])), (bfa, .inr (3, [.ref bfa_who, .ref bfa_hold, .ref bfa_harm, .ref bfa_cost, .int bf_size])), (bfa_who, .inl (cy 0, 4, .inl bff_who))])) A)) (by decide) (Nat.le_of_ble_eq_true rfl) ?_
  intro p e s m below meth c ls A E hA hP hD hG hS hl
  obtain ⟨Q0, hQ0⟩ : ∃ Q0 : State → Prop, Q0 = MQ below (va_Qi (fun (r : Int32) (u : Unit) => True) (kB D A (fun (u : Unit) => [(ba, .inr (2, [.ref bfa, .ref ba_least, .ref ba_without, .int b_minutes, .int b_found])), (bfa, .inr (3, [.ref bfa_who, .ref bfa_hold, .ref bfa_harm, .ref bfa_cost, .int bf_size])), (bfa_who, .inl (cy 0, 4, .inl bff_who))])) A) ([.ref ba] : List Value).toArray s 0 0 A := ⟨_, rfl⟩
  rw [← hQ0]
  obtain ⟨hx, hb, hml, hown, hts, hr, hlk, hnm⟩ := id E
  have hown : s.vm.findClass RX0 = some m.cls := hown
  have hl : lv_has ls 2 [(0, .ref ba)] := hl
  obtain ⟨H, hH⟩ : ∃ H, H = s.heap := ⟨_, rfl⟩
  have hP : va_P D vwCl [(ba, .inr (2, [.ref bfa, .ref ba_least, .ref ba_without, .int b_minutes, .int b_found])), (bfa, .inr (3, [.ref bfa_who, .ref bfa_hold, .ref bfa_harm, .ref bfa_cost, .int bf_size])), (bfa_who, .inl (cy 0, 4, .inl bff_who))] H := by rw [hH]; exact hP
  have hS : va_S A s.heap H [] := by rw [hH]; exact va_S.rf
  rw [← hH]
  clear hH
  obtain ⟨locs, hlocs⟩ : ∃ locs : List Loc, locs = [] := ⟨_, rfl⟩
  rw [← hlocs] at hS ⊢
  refine lv_aload_n hx hb dX0_firstStep_0 rfl (lv_at hl 0 rfl) ?_
  refine va_get (D := D) (ci := 2) (v := .int b_found) (C := RX0) (T := TX0) (N := 5) hx hb hts kin_RX0 hown hG.1 hP 0 rfl rfl 4 (by decide) (hts _ wm_404) (fun _ h9 => h9) rfl dX0_firstStep_1 ?_
  refine lv_iconst (v := 4) hx hb dX0_firstStep_4 (by decide) ?_
  refine lv_irem hx hb dX0_firstStep_5 (by decide) ?_
  refine lv_topi (fun x1q ex1q => ?_)
  have gx1q := k_rng b_found
  refine lv_istore_n (lv' := [(1, .int x1q), (0, .ref ba)]) hx hb dX0_firstStep_6 rfl hl (by decide) rfl (fun ls hl => ?_)
  refine lv_aload_n hx hb dX0_firstStep_7 rfl (lv_at hl 1 rfl) ?_
  refine va_get (D := D) (ci := 2) (v := .ref bfa) (C := RX0) (T := TX0) (N := 5) hx hb hts kin_RX0 hown hG.1 hP 0 rfl rfl 0 (by decide) (hts _ wm_400) (fun _ h9 => h9) rfl dX0_firstStep_8 ?_
  refine lv_iload_n hx hb dX0_firstStep_11 rfl (lv_at hl 0 rfl) ?_
  refine k_cali [0, 2] (⟨hP, hD, hG, hS, hA, rfl, rfl⟩ : kAt D cy sa A s H _ _ [(bfa, .inr (3, [.ref bfa_who, .ref bfa_hold, .ref bfa_harm, .ref bfa_cost, .int bf_size]))] [1]) (wr := [(ba, .inr (2, [.ref bfa, .ref ba_least, .ref ba_without, .int b_minutes, .int b_found])), (bfa_who, .inl (cy 0, 4, .inl bff_who))]) rfl rfl (by decide) (k_runV 3 1 (As := [.int x1q]) (rest := []) E lk_VRX0_74 rfl rfl rfl (c_fhas l hl0 D cy sa bfa bfa_who bfa_hold bfa_harm bfa_cost bf_size x1q ⟨by omega, by omega⟩ H.size) (⟨hP, hD, hG, hS, hA, rfl, rfl⟩ : kAt D cy sa A s H _ _ [(bfa, .inr (3, [.ref bfa_who, .ref bfa_hold, .ref bfa_harm, .ref bfa_cost, .int bf_size]))] [1]) hl.1 rfl rfl ⟨rfl, rfl, ⟨Nat.le_of_ble_eq_true rfl, Nat.le_of_ble_eq_true rfl⟩, ⟨Nat.le_of_ble_eq_true rfl, Nat.le_of_ble_eq_true rfl⟩, Nat.le_of_ble_eq_true rfl⟩ dX0_firstStep_12) (fun r2q u3q H locs hwu3q hP hD hS => ?_)
  have hP : va_P D vwCl [(ba, .inr (2, [.ref bfa, .ref ba_least, .ref ba_without, .int b_minutes, .int b_found])), (bfa_who, .inl (cy 0, 4, .inl bff_who)), (bfa, .inr (3, [.ref bfa_who, .ref bfa_hold, .ref bfa_harm, .ref bfa_cost, .int bf_size]))] H := hP
  have hD : va_D A [(ba, .inr (2, [.ref bfa, .ref ba_least, .ref ba_without, .int b_minutes, .int b_found])), (bfa_who, .inl (cy 0, 4, .inl bff_who)), (bfa, .inr (3, [.ref bfa_who, .ref bfa_hold, .ref bfa_harm, .ref bfa_cost, .int bf_size]))] := hD
  have p4q := hwu3q
  refine lv_if_eq (tgt := 30) hx hb dX0_firstStep_15 (by decide) (fun c5q => ?_) (fun c5q => ?_)
  · simp only [k_lt, k_le, k_eq, ne_eq, ge_iff_le, gt_iff_lt, n_L0, n_L0] at c5q
    refine lv_iconst (v := (-1)) hx hb dX0_firstStep_30 (by decide) ?_
    rw [hQ0]
    exact k_iret () hx hb hr hlk (trivial) (hP.sub [0, 2, 1] rfl) (hD.sub [0, 2, 1] (by decide) rfl) hS (by decide) (by decide) dX0_firstStep_31
  · simp only [k_lt, k_le, k_eq, ne_eq, ge_iff_le, gt_iff_lt, n_L0, n_L0] at c5q
    refine lv_aload_n hx hb dX0_firstStep_18 rfl (lv_at hl 1 rfl) ?_
    refine va_get (D := D) (ci := 2) (v := .ref bfa) (C := RX0) (T := TX0) (N := 5) hx hb hts kin_RX0 hown hG.1 hP 0 rfl rfl 0 (by decide) (hts _ wm_400) (fun _ h9 => h9) rfl dX0_firstStep_19 ?_
    refine va_get (D := D) (ci := 3) (v := .ref bfa_who) (C := RX1) (T := TX1) (N := 5) hx hb hts kin_RX1 hown hG.1 hP 2 rfl rfl 0 (by decide) (hts _ wm_336) (fun _ h9 => h9) rfl dX0_firstStep_22 ?_
    refine lv_iload_n hx hb dX0_firstStep_25 rfl (lv_at hl 0 rfl) ?_
    refine va_iald hx hb hG.1 hP 1 0 rfl rfl (n_in (by omega) (by omega)) dX0_firstStep_26 ?_
    refine lv_topi (fun x6q ex6q => ?_)
    have rx6q : 0 ≤ x6q.toInt ∧ x6q.toInt ≤ 8 := by rw [ex6q]; exact h_bff_who _ (n_lt (by omega) (by omega))
    refine lv_goto (tgt := 31) hx hb dX0_firstStep_27 (by decide) ?_
    rw [hQ0]
    exact k_iret () hx hb hr hlk (trivial) (hP.sub [0, 2, 1] rfl) (hD.sub [0, 2, 1] (by decide) rfl) hS (by decide) (by decide) dX0_firstStep_31
