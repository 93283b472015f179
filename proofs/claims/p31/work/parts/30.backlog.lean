theorem n_L100 : (100 : Int32).toInt = 100 := by decide
theorem wm_400 : Cond.fieldLink RX0 26 "LentMinds$Backlog" "few" "LLentMinds$Few;" ∈ kWS := kws_at 400 (by decide +kernel) (by decide +kernel)
theorem wm_346 : Cond.fieldLink RX0 50 "LentMinds$Few" "size" "I" ∈ kWS := kws_at 346 (by decide +kernel) (by decide +kernel)
theorem wm_402 : Cond.fieldLink RX0 15 "LentMinds$Backlog" "without" "[I" ∈ kWS := kws_at 402 (by decide +kernel) (by decide +kernel)
theorem wm_1466 : Cond.methodLink RX0 30 Lib.Math.min.name ∈ kWS := kws_at 1466 (by decide +kernel) (by decide +kernel)
theorem wm_339 : Cond.fieldLink RX0 65 "LentMinds$Few" "hold" "[I" ∈ kWS := kws_at 339 (by decide +kernel) (by decide +kernel)
theorem wm_1481 : Cond.methodLink RX0 68 Lib.Math.max.name ∈ kWS := kws_at 1481 (by decide +kernel) (by decide +kernel)
theorem wm_343 : Cond.fieldLink RX0 71 "LentMinds$Few" "harm" "[I" ∈ kWS := kws_at 343 (by decide +kernel) (by decide +kernel)
theorem wm_1476 : Cond.methodLink RX0 55 yX1_costOf ∈ kWS := kws_at 1476 (by decide +kernel) (by decide +kernel)
theorem lk_VRX0_55 : kLV RX0 55 yX1_costOf (Cond.code yX1_costOf cX1_costOf 3 (some .int)) 2 := ⟨wm_1476, wm_877, wm_878, wm_9, wm_879, ⟨by decide +kernel, by decide +kernel, by decide +kernel⟩⟩
theorem wm_403 : Cond.fieldLink RX0 18 "LentMinds$Backlog" "minutes" "I" ∈ kWS := kws_at 403 (by decide +kernel) (by decide +kernel)
theorem wm_1480 : Cond.code yX0_harmOfStep cX0_harmOfStep 8 (some .int) ∈ kWS := kws_at 1480 (by decide +kernel) (by decide +kernel)
theorem wm_1477 : Cond.methodLink RX0 58 yX0_harmOfStep ∈ kWS := kws_at 1477 (by decide +kernel) (by decide +kernel)
theorem wm_s40 : Cond.selects RX0 yX0_harmOfStep yX0_harmOfStep ∈ kWS := kws_sel 40 (by decide +kernel) (by decide +kernel)
theorem wm_1479 : Cond.instanceMethod yX0_harmOfStep ∈ kWS := kws_at 1479 (by decide +kernel) (by decide +kernel)
theorem wm_11 : Cond.initialized RX0 ∈ kWS := kws_at 11 (by decide +kernel) (by decide +kernel)
theorem lk_VRX0_58 : kLV RX0 58 yX0_harmOfStep (Cond.code yX0_harmOfStep cX0_harmOfStep 8 (some .int)) 3 := ⟨wm_1477, wm_1479, wm_s40, wm_11, wm_1480, ⟨by decide +kernel, by decide +kernel, by decide +kernel⟩⟩
theorem n_L300 : (300 : Int32).toInt = 300 := by decide
theorem wm_1485 : Cond.code yX0_stateBehind cX0_stateBehind 5 (some .int) ∈ kWS := kws_at 1485 (by decide +kernel) (by decide +kernel)
theorem wm_1482 : Cond.methodLink RX0 62 yX0_stateBehind ∈ kWS := kws_at 1482 (by decide +kernel) (by decide +kernel)
theorem wm_s41 : Cond.selects RX0 yX0_stateBehind yX0_stateBehind ∈ kWS := kws_sel 41 (by decide +kernel) (by decide +kernel)
theorem wm_1484 : Cond.instanceMethod yX0_stateBehind ∈ kWS := kws_at 1484 (by decide +kernel) (by decide +kernel)
theorem lk_VRX0_62 : kLV RX0 62 yX0_stateBehind (Cond.code yX0_stateBehind cX0_stateBehind 5 (some .int)) 2 := ⟨wm_1482, wm_1484, wm_s41, wm_11, wm_1485, ⟨by decide +kernel, by decide +kernel, by decide +kernel⟩⟩
theorem wm_401 : Cond.fieldLink RX0 11 "LentMinds$Backlog" "least" "[I" ∈ kWS := kws_at 401 (by decide +kernel) (by decide +kernel)
theorem wm_404 : Cond.fieldLink RX0 23 "LentMinds$Backlog" "found" "I" ∈ kWS := kws_at 404 (by decide +kernel) (by decide +kernel)
theorem n_L40 : (40 : Int32).toInt = 40 := by decide
theorem wm_399 : Cond.constant RX0 22 (1000000000) ∈ kWS := kws_at 399 (by decide +kernel) (by decide +kernel)
theorem n_L1000000000 : (1000000000 : Int32).toInt = 1000000000 := by decide
theorem wm_1467 : Cond.methodLink RX0 36 yJ7_fill_53178 ∈ kWS := kws_at 1467 (by decide +kernel) (by decide +kernel)
theorem lk_SRX0_36 : kLS RX0 36 yJ7_fill_53178 (Cond.code yJ7_fill_53178 cJ7_fill_53178 4 none) 2 := ⟨wm_1467, wm_1031, wm_24, wm_1032, ⟨by decide +kernel, by decide +kernel, by decide +kernel⟩⟩
theorem wm_1471 : Cond.code yX0_takeApart cX0_takeApart 5 none ∈ kWS := kws_at 1471 (by decide +kernel) (by decide +kernel)
theorem wm_1468 : Cond.methodLink RX0 42 yX0_takeApart ∈ kWS := kws_at 1468 (by decide +kernel) (by decide +kernel)
theorem wm_s38 : Cond.selects RX0 yX0_takeApart yX0_takeApart ∈ kWS := kws_sel 38 (by decide +kernel) (by decide +kernel)
theorem wm_1470 : Cond.instanceMethod yX0_takeApart ∈ kWS := kws_at 1470 (by decide +kernel) (by decide +kernel)
theorem lk_VRX0_42 : kLV RX0 42 yX0_takeApart (Cond.code yX0_takeApart cX0_takeApart 5 none) 1 := ⟨wm_1468, wm_1470, wm_s38, wm_11, wm_1471, ⟨by decide +kernel, by decide +kernel, by decide +kernel⟩⟩
theorem wm_1475 : Cond.code yX0_goOn cX0_goOn 9 none ∈ kWS := kws_at 1475 (by decide +kernel) (by decide +kernel)
theorem wm_1472 : Cond.methodLink RX0 46 yX0_goOn ∈ kWS := kws_at 1472 (by decide +kernel) (by decide +kernel)
theorem wm_s39 : Cond.selects RX0 yX0_goOn yX0_goOn ∈ kWS := kws_sel 39 (by decide +kernel) (by decide +kernel)
theorem wm_1474 : Cond.instanceMethod yX0_goOn ∈ kWS := kws_at 1474 (by decide +kernel) (by decide +kernel)
theorem lk_VRX0_46 : kLV RX0 46 yX0_goOn (Cond.code yX0_goOn cX0_goOn 9 none) 3 := ⟨wm_1472, wm_1474, wm_s39, wm_11, wm_1475, ⟨by decide +kernel, by decide +kernel, by decide +kernel⟩⟩
theorem wm_1494 : Cond.methodLink RX0 74 yX1_has ∈ kWS := kws_at 1494 (by decide +kernel) (by decide +kernel)
theorem lk_VRX0_74 : kLV RX0 74 yX1_has (Cond.code yX1_has cX1_has 2 (some .boolean)) 1 := ⟨wm_1494, wm_861, wm_862, wm_9, wm_863, ⟨by decide +kernel, by decide +kernel, by decide +kernel⟩⟩
theorem wm_336 : Cond.fieldLink RX0 78 "LentMinds$Few" "who" "[I" ∈ kWS := kws_at 336 (by decide +kernel) (by decide +kernel)
theorem dX0_takeApart_0 : decode cX0_takeApart 0 = .ok (.iload_n 1, 1) := by decide +kernel
theorem dX0_takeApart_1 : decode cX0_takeApart 1 = .ok (.bipush 100, 2) := by decide +kernel
theorem dX0_takeApart_3 : decode cX0_takeApart 3 = .ok (.idiv, 1) := by decide +kernel
theorem dX0_takeApart_4 : decode cX0_takeApart 4 = .ok (.istore_n 2, 1) := by decide +kernel
theorem dX0_takeApart_5 : decode cX0_takeApart 5 = .ok (.iload_n 1, 1) := by decide +kernel
theorem dX0_takeApart_6 : decode cX0_takeApart 6 = .ok (.istore_n 3, 1) := by decide +kernel
theorem dX0_takeApart_7 : decode cX0_takeApart 7 = .ok (.aload_n 0, 1) := by decide +kernel
theorem dX0_takeApart_8 : decode cX0_takeApart 8 = .ok (.getfield 26, 3) := by decide +kernel
theorem dX0_takeApart_11 : decode cX0_takeApart 11 = .ok (.getfield 50, 3) := by decide +kernel
theorem dX0_takeApart_14 : decode cX0_takeApart 14 = .ok (.iconst 1, 1) := by decide +kernel
theorem dX0_takeApart_15 : decode cX0_takeApart 15 = .ok (.isub, 1) := by decide +kernel
theorem dX0_takeApart_16 : decode cX0_takeApart 16 = .ok (.istore 4, 2) := by decide +kernel
theorem dX0_takeApart_18 : decode cX0_takeApart 18 = .ok (.iload 4, 2) := by decide +kernel
theorem dX0_takeApart_20 : decode cX0_takeApart 20 = .ok (.ifCond .lt 45, 3) := by decide +kernel
theorem dX0_takeApart_23 : decode cX0_takeApart 23 = .ok (.aload_n 0, 1) := by decide +kernel
theorem dX0_takeApart_24 : decode cX0_takeApart 24 = .ok (.getfield 15, 3) := by decide +kernel
theorem dX0_takeApart_27 : decode cX0_takeApart 27 = .ok (.iload 4, 2) := by decide +kernel
theorem dX0_takeApart_29 : decode cX0_takeApart 29 = .ok (.iload 4, 2) := by decide +kernel
theorem dX0_takeApart_31 : decode cX0_takeApart 31 = .ok (.iload_n 2, 1) := by decide +kernel
theorem dX0_takeApart_32 : decode cX0_takeApart 32 = .ok (.if_icmp .ne 7, 3) := by decide +kernel
theorem dX0_takeApart_35 : decode cX0_takeApart 35 = .ok (.iconst 0, 1) := by decide +kernel
theorem dX0_takeApart_36 : decode cX0_takeApart 36 = .ok (.goto 7, 3) := by decide +kernel
theorem dX0_takeApart_39 : decode cX0_takeApart 39 = .ok (.iload_n 3, 1) := by decide +kernel
theorem dX0_takeApart_40 : decode cX0_takeApart 40 = .ok (.bipush 10, 2) := by decide +kernel
theorem dX0_takeApart_42 : decode cX0_takeApart 42 = .ok (.irem, 1) := by decide +kernel
theorem dX0_takeApart_43 : decode cX0_takeApart 43 = .ok (.iastore, 1) := by decide +kernel
theorem dX0_takeApart_44 : decode cX0_takeApart 44 = .ok (.iload 4, 2) := by decide +kernel
theorem dX0_takeApart_46 : decode cX0_takeApart 46 = .ok (.iload_n 2, 1) := by decide +kernel
theorem dX0_takeApart_47 : decode cX0_takeApart 47 = .ok (.if_icmp .ne 7, 3) := by decide +kernel
theorem dX0_takeApart_50 : decode cX0_takeApart 50 = .ok (.iload_n 3, 1) := by decide +kernel
theorem dX0_takeApart_51 : decode cX0_takeApart 51 = .ok (.goto 7, 3) := by decide +kernel
theorem dX0_takeApart_54 : decode cX0_takeApart 54 = .ok (.iload_n 3, 1) := by decide +kernel
theorem dX0_takeApart_55 : decode cX0_takeApart 55 = .ok (.bipush 10, 2) := by decide +kernel
theorem dX0_takeApart_57 : decode cX0_takeApart 57 = .ok (.idiv, 1) := by decide +kernel
theorem dX0_takeApart_58 : decode cX0_takeApart 58 = .ok (.istore_n 3, 1) := by decide +kernel
theorem dX0_takeApart_59 : decode cX0_takeApart 59 = .ok (.iinc 4 (-1), 3) := by decide +kernel
theorem dX0_takeApart_62 : decode cX0_takeApart 62 = .ok (.goto (-44), 3) := by decide +kernel
theorem dX0_takeApart_65 : decode cX0_takeApart 65 = .ok (.return_, 1) := by decide +kernel
theorem dX0_harmOfStep_0 : decode cX0_harmOfStep 0 = .ok (.iconst 0, 1) := by decide +kernel
theorem dX0_harmOfStep_1 : decode cX0_harmOfStep 1 = .ok (.istore 4, 2) := by decide +kernel
theorem dX0_harmOfStep_3 : decode cX0_harmOfStep 3 = .ok (.iconst 0, 1) := by decide +kernel
theorem dX0_harmOfStep_4 : decode cX0_harmOfStep 4 = .ok (.istore 5, 2) := by decide +kernel
theorem dX0_harmOfStep_6 : decode cX0_harmOfStep 6 = .ok (.iload 5, 2) := by decide +kernel
theorem dX0_harmOfStep_8 : decode cX0_harmOfStep 8 = .ok (.aload_n 0, 1) := by decide +kernel
theorem dX0_harmOfStep_9 : decode cX0_harmOfStep 9 = .ok (.getfield 26, 3) := by decide +kernel
theorem dX0_harmOfStep_12 : decode cX0_harmOfStep 12 = .ok (.getfield 50, 3) := by decide +kernel
theorem dX0_harmOfStep_15 : decode cX0_harmOfStep 15 = .ok (.if_icmp .ge 77, 3) := by decide +kernel
theorem dX0_harmOfStep_18 : decode cX0_harmOfStep 18 = .ok (.iload 5, 2) := by decide +kernel
theorem dX0_harmOfStep_20 : decode cX0_harmOfStep 20 = .ok (.iload_n 1, 1) := by decide +kernel
theorem dX0_harmOfStep_21 : decode cX0_harmOfStep 21 = .ok (.if_icmp .ne 7, 3) := by decide +kernel
theorem dX0_harmOfStep_24 : decode cX0_harmOfStep 24 = .ok (.iload_n 2, 1) := by decide +kernel
theorem dX0_harmOfStep_25 : decode cX0_harmOfStep 25 = .ok (.goto 6, 3) := by decide +kernel
theorem dX0_harmOfStep_28 : decode cX0_harmOfStep 28 = .ok (.iload_n 2, 1) := by decide +kernel
theorem dX0_harmOfStep_29 : decode cX0_harmOfStep 29 = .ok (.iconst 1, 1) := by decide +kernel
theorem dX0_harmOfStep_30 : decode cX0_harmOfStep 30 = .ok (.iadd, 1) := by decide +kernel
theorem dX0_harmOfStep_31 : decode cX0_harmOfStep 31 = .ok (.iload_n 3, 1) := by decide +kernel
theorem dX0_harmOfStep_32 : decode cX0_harmOfStep 32 = .ok (.invokestatic 30, 3) := by decide +kernel
theorem dX0_harmOfStep_35 : decode cX0_harmOfStep 35 = .ok (.istore 6, 2) := by decide +kernel
theorem dX0_harmOfStep_37 : decode cX0_harmOfStep 37 = .ok (.aload_n 0, 1) := by decide +kernel
theorem dX0_harmOfStep_38 : decode cX0_harmOfStep 38 = .ok (.getfield 26, 3) := by decide +kernel
theorem dX0_harmOfStep_41 : decode cX0_harmOfStep 41 = .ok (.getfield 65, 3) := by decide +kernel
theorem dX0_harmOfStep_44 : decode cX0_harmOfStep 44 = .ok (.iload 5, 2) := by decide +kernel
theorem dX0_harmOfStep_46 : decode cX0_harmOfStep 46 = .ok (.iaload, 1) := by decide +kernel
theorem dX0_harmOfStep_47 : decode cX0_harmOfStep 47 = .ok (.aload_n 0, 1) := by decide +kernel
theorem dX0_harmOfStep_48 : decode cX0_harmOfStep 48 = .ok (.getfield 15, 3) := by decide +kernel
theorem dX0_harmOfStep_51 : decode cX0_harmOfStep 51 = .ok (.iload 5, 2) := by decide +kernel
theorem dX0_harmOfStep_53 : decode cX0_harmOfStep 53 = .ok (.iaload, 1) := by decide +kernel
theorem dX0_harmOfStep_54 : decode cX0_harmOfStep 54 = .ok (.isub, 1) := by decide +kernel
theorem dX0_harmOfStep_55 : decode cX0_harmOfStep 55 = .ok (.iconst 0, 1) := by decide +kernel
theorem dX0_harmOfStep_56 : decode cX0_harmOfStep 56 = .ok (.invokestatic 68, 3) := by decide +kernel
theorem dX0_harmOfStep_59 : decode cX0_harmOfStep 59 = .ok (.istore 7, 2) := by decide +kernel
theorem dX0_harmOfStep_61 : decode cX0_harmOfStep 61 = .ok (.iload 4, 2) := by decide +kernel
theorem dX0_harmOfStep_63 : decode cX0_harmOfStep 63 = .ok (.aload_n 0, 1) := by decide +kernel
theorem dX0_harmOfStep_64 : decode cX0_harmOfStep 64 = .ok (.getfield 26, 3) := by decide +kernel
theorem dX0_harmOfStep_67 : decode cX0_harmOfStep 67 = .ok (.getfield 71, 3) := by decide +kernel
theorem dX0_harmOfStep_70 : decode cX0_harmOfStep 70 = .ok (.iload 5, 2) := by decide +kernel
theorem dX0_harmOfStep_72 : decode cX0_harmOfStep 72 = .ok (.iaload, 1) := by decide +kernel
theorem dX0_harmOfStep_73 : decode cX0_harmOfStep 73 = .ok (.iload 6, 2) := by decide +kernel
theorem dX0_harmOfStep_75 : decode cX0_harmOfStep 75 = .ok (.iload 7, 2) := by decide +kernel
theorem dX0_harmOfStep_77 : decode cX0_harmOfStep 77 = .ok (.isub, 1) := by decide +kernel
theorem dX0_harmOfStep_78 : decode cX0_harmOfStep 78 = .ok (.iconst 0, 1) := by decide +kernel
theorem dX0_harmOfStep_79 : decode cX0_harmOfStep 79 = .ok (.invokestatic 68, 3) := by decide +kernel
theorem dX0_harmOfStep_82 : decode cX0_harmOfStep 82 = .ok (.imul, 1) := by decide +kernel
theorem dX0_harmOfStep_83 : decode cX0_harmOfStep 83 = .ok (.iadd, 1) := by decide +kernel
theorem dX0_harmOfStep_84 : decode cX0_harmOfStep 84 = .ok (.istore 4, 2) := by decide +kernel
theorem dX0_harmOfStep_86 : decode cX0_harmOfStep 86 = .ok (.iinc 5 1, 3) := by decide +kernel
theorem dX0_harmOfStep_89 : decode cX0_harmOfStep 89 = .ok (.goto (-83), 3) := by decide +kernel
theorem dX0_harmOfStep_92 : decode cX0_harmOfStep 92 = .ok (.iload 4, 2) := by decide +kernel
theorem dX0_harmOfStep_94 : decode cX0_harmOfStep 94 = .ok (.ireturn, 1) := by decide +kernel
theorem dX0_stateBehind_0 : decode cX0_stateBehind 0 = .ok (.iconst 0, 1) := by decide +kernel
theorem dX0_stateBehind_1 : decode cX0_stateBehind 1 = .ok (.istore_n 3, 1) := by decide +kernel
theorem dX0_stateBehind_2 : decode cX0_stateBehind 2 = .ok (.iconst 0, 1) := by decide +kernel
theorem dX0_stateBehind_3 : decode cX0_stateBehind 3 = .ok (.istore 4, 2) := by decide +kernel
theorem dX0_stateBehind_5 : decode cX0_stateBehind 5 = .ok (.iload 4, 2) := by decide +kernel
theorem dX0_stateBehind_7 : decode cX0_stateBehind 7 = .ok (.aload_n 0, 1) := by decide +kernel
theorem dX0_stateBehind_8 : decode cX0_stateBehind 8 = .ok (.getfield 26, 3) := by decide +kernel
theorem dX0_stateBehind_11 : decode cX0_stateBehind 11 = .ok (.getfield 50, 3) := by decide +kernel
theorem dX0_stateBehind_14 : decode cX0_stateBehind 14 = .ok (.if_icmp .ge 47, 3) := by decide +kernel
theorem dX0_stateBehind_17 : decode cX0_stateBehind 17 = .ok (.iload 4, 2) := by decide +kernel
theorem dX0_stateBehind_19 : decode cX0_stateBehind 19 = .ok (.iload_n 1, 1) := by decide +kernel
theorem dX0_stateBehind_20 : decode cX0_stateBehind 20 = .ok (.if_icmp .eq 35, 3) := by decide +kernel
theorem dX0_stateBehind_23 : decode cX0_stateBehind 23 = .ok (.iload_n 3, 1) := by decide +kernel
theorem dX0_stateBehind_24 : decode cX0_stateBehind 24 = .ok (.bipush 10, 2) := by decide +kernel
theorem dX0_stateBehind_26 : decode cX0_stateBehind 26 = .ok (.imul, 1) := by decide +kernel
theorem dX0_stateBehind_27 : decode cX0_stateBehind 27 = .ok (.aload_n 0, 1) := by decide +kernel
theorem dX0_stateBehind_28 : decode cX0_stateBehind 28 = .ok (.getfield 15, 3) := by decide +kernel
theorem dX0_stateBehind_31 : decode cX0_stateBehind 31 = .ok (.iload 4, 2) := by decide +kernel
theorem dX0_stateBehind_33 : decode cX0_stateBehind 33 = .ok (.iaload, 1) := by decide +kernel
theorem dX0_stateBehind_34 : decode cX0_stateBehind 34 = .ok (.iload_n 2, 1) := by decide +kernel
theorem dX0_stateBehind_35 : decode cX0_stateBehind 35 = .ok (.iadd, 1) := by decide +kernel
theorem dX0_stateBehind_36 : decode cX0_stateBehind 36 = .ok (.iconst 1, 1) := by decide +kernel
theorem dX0_stateBehind_37 : decode cX0_stateBehind 37 = .ok (.iadd, 1) := by decide +kernel
theorem dX0_stateBehind_38 : decode cX0_stateBehind 38 = .ok (.aload_n 0, 1) := by decide +kernel
theorem dX0_stateBehind_39 : decode cX0_stateBehind 39 = .ok (.getfield 26, 3) := by decide +kernel
theorem dX0_stateBehind_42 : decode cX0_stateBehind 42 = .ok (.getfield 65, 3) := by decide +kernel
theorem dX0_stateBehind_45 : decode cX0_stateBehind 45 = .ok (.iload 4, 2) := by decide +kernel
theorem dX0_stateBehind_47 : decode cX0_stateBehind 47 = .ok (.iaload, 1) := by decide +kernel
theorem dX0_stateBehind_48 : decode cX0_stateBehind 48 = .ok (.iconst 1, 1) := by decide +kernel
theorem dX0_stateBehind_49 : decode cX0_stateBehind 49 = .ok (.iadd, 1) := by decide +kernel
theorem dX0_stateBehind_50 : decode cX0_stateBehind 50 = .ok (.invokestatic 30, 3) := by decide +kernel
theorem dX0_stateBehind_53 : decode cX0_stateBehind 53 = .ok (.iadd, 1) := by decide +kernel
theorem dX0_stateBehind_54 : decode cX0_stateBehind 54 = .ok (.istore_n 3, 1) := by decide +kernel
theorem dX0_stateBehind_55 : decode cX0_stateBehind 55 = .ok (.iinc 4 1, 3) := by decide +kernel
theorem dX0_stateBehind_58 : decode cX0_stateBehind 58 = .ok (.goto (-53), 3) := by decide +kernel
theorem dX0_stateBehind_61 : decode cX0_stateBehind 61 = .ok (.iload_n 1, 1) := by decide +kernel
theorem dX0_stateBehind_62 : decode cX0_stateBehind 62 = .ok (.bipush 100, 2) := by decide +kernel
theorem dX0_stateBehind_64 : decode cX0_stateBehind 64 = .ok (.imul, 1) := by decide +kernel
theorem dX0_stateBehind_65 : decode cX0_stateBehind 65 = .ok (.iload_n 3, 1) := by decide +kernel
theorem dX0_stateBehind_66 : decode cX0_stateBehind 66 = .ok (.iadd, 1) := by decide +kernel
theorem dX0_stateBehind_67 : decode cX0_stateBehind 67 = .ok (.ireturn, 1) := by decide +kernel
theorem dX0_goOn_0 : decode cX0_goOn 0 = .ok (.iconst 0, 1) := by decide +kernel
theorem dX0_goOn_1 : decode cX0_goOn 1 = .ok (.istore 4, 2) := by decide +kernel
theorem dX0_goOn_3 : decode cX0_goOn 3 = .ok (.iload 4, 2) := by decide +kernel
theorem dX0_goOn_5 : decode cX0_goOn 5 = .ok (.aload_n 0, 1) := by decide +kernel
theorem dX0_goOn_6 : decode cX0_goOn 6 = .ok (.getfield 26, 3) := by decide +kernel
theorem dX0_goOn_9 : decode cX0_goOn 9 = .ok (.getfield 50, 3) := by decide +kernel
theorem dX0_goOn_12 : decode cX0_goOn 12 = .ok (.if_icmp .ge 131, 3) := by decide +kernel
theorem dX0_goOn_15 : decode cX0_goOn 15 = .ok (.aload_n 0, 1) := by decide +kernel
theorem dX0_goOn_16 : decode cX0_goOn 16 = .ok (.getfield 26, 3) := by decide +kernel
theorem dX0_goOn_19 : decode cX0_goOn 19 = .ok (.iload_n 2, 1) := by decide +kernel
theorem dX0_goOn_20 : decode cX0_goOn 20 = .ok (.iload 4, 2) := by decide +kernel
theorem dX0_goOn_22 : decode cX0_goOn 22 = .ok (.invokevirtual 55, 3) := by decide +kernel
theorem dX0_goOn_25 : decode cX0_goOn 25 = .ok (.istore 5, 2) := by decide +kernel
theorem dX0_goOn_27 : decode cX0_goOn 27 = .ok (.iload_n 3, 1) := by decide +kernel
theorem dX0_goOn_28 : decode cX0_goOn 28 = .ok (.iconst 4, 1) := by decide +kernel
theorem dX0_goOn_29 : decode cX0_goOn 29 = .ok (.aload_n 0, 1) := by decide +kernel
theorem dX0_goOn_30 : decode cX0_goOn 30 = .ok (.iload 4, 2) := by decide +kernel
theorem dX0_goOn_32 : decode cX0_goOn 32 = .ok (.iload 5, 2) := by decide +kernel
theorem dX0_goOn_34 : decode cX0_goOn 34 = .ok (.aload_n 0, 1) := by decide +kernel
theorem dX0_goOn_35 : decode cX0_goOn 35 = .ok (.getfield 18, 3) := by decide +kernel
theorem dX0_goOn_38 : decode cX0_goOn 38 = .ok (.iload_n 1, 1) := by decide +kernel
theorem dX0_goOn_39 : decode cX0_goOn 39 = .ok (.isub, 1) := by decide +kernel
theorem dX0_goOn_40 : decode cX0_goOn 40 = .ok (.invokevirtual 58, 3) := by decide +kernel
theorem dX0_goOn_43 : decode cX0_goOn 43 = .ok (.imul, 1) := by decide +kernel
theorem dX0_goOn_44 : decode cX0_goOn 44 = .ok (.iadd, 1) := by decide +kernel
theorem dX0_goOn_45 : decode cX0_goOn 45 = .ok (.iload_n 1, 1) := by decide +kernel
theorem dX0_goOn_46 : decode cX0_goOn 46 = .ok (.ifCond .ne 8, 3) := by decide +kernel
theorem dX0_goOn_49 : decode cX0_goOn 49 = .ok (.iload 4, 2) := by decide +kernel
theorem dX0_goOn_51 : decode cX0_goOn 51 = .ok (.goto 4, 3) := by decide +kernel
theorem dX0_goOn_54 : decode cX0_goOn 54 = .ok (.iconst 0, 1) := by decide +kernel
theorem dX0_goOn_55 : decode cX0_goOn 55 = .ok (.iadd, 1) := by decide +kernel
theorem dX0_goOn_56 : decode cX0_goOn 56 = .ok (.istore 6, 2) := by decide +kernel
theorem dX0_goOn_58 : decode cX0_goOn 58 = .ok (.iload_n 1, 1) := by decide +kernel
theorem dX0_goOn_59 : decode cX0_goOn 59 = .ok (.iload 5, 2) := by decide +kernel
theorem dX0_goOn_61 : decode cX0_goOn 61 = .ok (.iadd, 1) := by decide +kernel
theorem dX0_goOn_62 : decode cX0_goOn 62 = .ok (.iconst 1, 1) := by decide +kernel
theorem dX0_goOn_63 : decode cX0_goOn 63 = .ok (.iadd, 1) := by decide +kernel
theorem dX0_goOn_64 : decode cX0_goOn 64 = .ok (.istore 7, 2) := by decide +kernel
theorem dX0_goOn_66 : decode cX0_goOn 66 = .ok (.iload 7, 2) := by decide +kernel
theorem dX0_goOn_68 : decode cX0_goOn 68 = .ok (.aload_n 0, 1) := by decide +kernel
theorem dX0_goOn_69 : decode cX0_goOn 69 = .ok (.getfield 18, 3) := by decide +kernel
theorem dX0_goOn_72 : decode cX0_goOn 72 = .ok (.if_icmp .lt 19, 3) := by decide +kernel
theorem dX0_goOn_75 : decode cX0_goOn 75 = .ok (.aload_n 0, 1) := by decide +kernel
theorem dX0_goOn_76 : decode cX0_goOn 76 = .ok (.aload_n 0, 1) := by decide +kernel
theorem dX0_goOn_77 : decode cX0_goOn 77 = .ok (.getfield 23, 3) := by decide +kernel
theorem dX0_goOn_80 : decode cX0_goOn 80 = .ok (.iload 6, 2) := by decide +kernel
theorem dX0_goOn_82 : decode cX0_goOn 82 = .ok (.invokestatic 30, 3) := by decide +kernel
theorem dX0_goOn_85 : decode cX0_goOn 85 = .ok (.putfield 23, 3) := by decide +kernel
theorem dX0_goOn_88 : decode cX0_goOn 88 = .ok (.goto 49, 3) := by decide +kernel
theorem dX0_goOn_91 : decode cX0_goOn 91 = .ok (.iload 7, 2) := by decide +kernel
theorem dX0_goOn_93 : decode cX0_goOn 93 = .ok (.sipush 300, 3) := by decide +kernel
theorem dX0_goOn_96 : decode cX0_goOn 96 = .ok (.imul, 1) := by decide +kernel
theorem dX0_goOn_97 : decode cX0_goOn 97 = .ok (.aload_n 0, 1) := by decide +kernel
theorem dX0_goOn_98 : decode cX0_goOn 98 = .ok (.iload 4, 2) := by decide +kernel
theorem dX0_goOn_100 : decode cX0_goOn 100 = .ok (.iload 5, 2) := by decide +kernel
theorem dX0_goOn_102 : decode cX0_goOn 102 = .ok (.invokevirtual 62, 3) := by decide +kernel
theorem dX0_goOn_105 : decode cX0_goOn 105 = .ok (.iadd, 1) := by decide +kernel
theorem dX0_goOn_106 : decode cX0_goOn 106 = .ok (.istore 8, 2) := by decide +kernel
theorem dX0_goOn_108 : decode cX0_goOn 108 = .ok (.iload 8, 2) := by decide +kernel
theorem dX0_goOn_110 : decode cX0_goOn 110 = .ok (.aload_n 0, 1) := by decide +kernel
theorem dX0_goOn_111 : decode cX0_goOn 111 = .ok (.getfield 11, 3) := by decide +kernel
theorem dX0_goOn_114 : decode cX0_goOn 114 = .ok (.arraylength, 1) := by decide +kernel
theorem dX0_goOn_115 : decode cX0_goOn 115 = .ok (.if_icmp .ge 22, 3) := by decide +kernel
theorem dX0_goOn_118 : decode cX0_goOn 118 = .ok (.aload_n 0, 1) := by decide +kernel
theorem dX0_goOn_119 : decode cX0_goOn 119 = .ok (.getfield 11, 3) := by decide +kernel
theorem dX0_goOn_122 : decode cX0_goOn 122 = .ok (.iload 8, 2) := by decide +kernel
theorem dX0_goOn_124 : decode cX0_goOn 124 = .ok (.aload_n 0, 1) := by decide +kernel
theorem dX0_goOn_125 : decode cX0_goOn 125 = .ok (.getfield 11, 3) := by decide +kernel
theorem dX0_goOn_128 : decode cX0_goOn 128 = .ok (.iload 8, 2) := by decide +kernel
theorem dX0_goOn_130 : decode cX0_goOn 130 = .ok (.iaload, 1) := by decide +kernel
theorem dX0_goOn_131 : decode cX0_goOn 131 = .ok (.iload 6, 2) := by decide +kernel
theorem dX0_goOn_133 : decode cX0_goOn 133 = .ok (.invokestatic 30, 3) := by decide +kernel
theorem dX0_goOn_136 : decode cX0_goOn 136 = .ok (.iastore, 1) := by decide +kernel
theorem dX0_goOn_137 : decode cX0_goOn 137 = .ok (.iinc 4 1, 3) := by decide +kernel
theorem dX0_goOn_140 : decode cX0_goOn 140 = .ok (.goto (-137), 3) := by decide +kernel
theorem dX0_goOn_143 : decode cX0_goOn 143 = .ok (.return_, 1) := by decide +kernel
theorem dX0_reckon_0 : decode cX0_reckon 0 = .ok (.aload_n 0, 1) := by decide +kernel
theorem dX0_reckon_1 : decode cX0_reckon 1 = .ok (.iload_n 1, 1) := by decide +kernel
theorem dX0_reckon_2 : decode cX0_reckon 2 = .ok (.bipush 40, 2) := by decide +kernel
theorem dX0_reckon_4 : decode cX0_reckon 4 = .ok (.invokestatic 30, 3) := by decide +kernel
theorem dX0_reckon_7 : decode cX0_reckon 7 = .ok (.putfield 18, 3) := by decide +kernel
theorem dX0_reckon_10 : decode cX0_reckon 10 = .ok (.aload_n 0, 1) := by decide +kernel
theorem dX0_reckon_11 : decode cX0_reckon 11 = .ok (.ldc 22, 2) := by decide +kernel
theorem dX0_reckon_13 : decode cX0_reckon 13 = .ok (.putfield 23, 3) := by decide +kernel
theorem dX0_reckon_16 : decode cX0_reckon 16 = .ok (.aload_n 0, 1) := by decide +kernel
theorem dX0_reckon_17 : decode cX0_reckon 17 = .ok (.getfield 11, 3) := by decide +kernel
theorem dX0_reckon_20 : decode cX0_reckon 20 = .ok (.ldc 22, 2) := by decide +kernel
theorem dX0_reckon_22 : decode cX0_reckon 22 = .ok (.invokestatic 36, 3) := by decide +kernel
theorem dX0_reckon_25 : decode cX0_reckon 25 = .ok (.aload_n 0, 1) := by decide +kernel
theorem dX0_reckon_26 : decode cX0_reckon 26 = .ok (.getfield 11, 3) := by decide +kernel
theorem dX0_reckon_29 : decode cX0_reckon 29 = .ok (.iconst 0, 1) := by decide +kernel
theorem dX0_reckon_30 : decode cX0_reckon 30 = .ok (.iconst 0, 1) := by decide +kernel
theorem dX0_reckon_31 : decode cX0_reckon 31 = .ok (.iastore, 1) := by decide +kernel
theorem dX0_reckon_32 : decode cX0_reckon 32 = .ok (.iconst 0, 1) := by decide +kernel
theorem dX0_reckon_33 : decode cX0_reckon 33 = .ok (.istore_n 2, 1) := by decide +kernel
theorem dX0_reckon_34 : decode cX0_reckon 34 = .ok (.iload_n 2, 1) := by decide +kernel
theorem dX0_reckon_35 : decode cX0_reckon 35 = .ok (.aload_n 0, 1) := by decide +kernel
theorem dX0_reckon_36 : decode cX0_reckon 36 = .ok (.getfield 18, 3) := by decide +kernel
theorem dX0_reckon_39 : decode cX0_reckon 39 = .ok (.if_icmp .ge 61, 3) := by decide +kernel
theorem dX0_reckon_42 : decode cX0_reckon 42 = .ok (.iconst 0, 1) := by decide +kernel
theorem dX0_reckon_43 : decode cX0_reckon 43 = .ok (.istore_n 3, 1) := by decide +kernel
theorem dX0_reckon_44 : decode cX0_reckon 44 = .ok (.iload_n 3, 1) := by decide +kernel
theorem dX0_reckon_45 : decode cX0_reckon 45 = .ok (.sipush 300, 3) := by decide +kernel
theorem dX0_reckon_48 : decode cX0_reckon 48 = .ok (.if_icmp .ge 46, 3) := by decide +kernel
theorem dX0_reckon_51 : decode cX0_reckon 51 = .ok (.aload_n 0, 1) := by decide +kernel
theorem dX0_reckon_52 : decode cX0_reckon 52 = .ok (.getfield 11, 3) := by decide +kernel
theorem dX0_reckon_55 : decode cX0_reckon 55 = .ok (.iload_n 2, 1) := by decide +kernel
theorem dX0_reckon_56 : decode cX0_reckon 56 = .ok (.sipush 300, 3) := by decide +kernel
theorem dX0_reckon_59 : decode cX0_reckon 59 = .ok (.imul, 1) := by decide +kernel
theorem dX0_reckon_60 : decode cX0_reckon 60 = .ok (.iload_n 3, 1) := by decide +kernel
theorem dX0_reckon_61 : decode cX0_reckon 61 = .ok (.iadd, 1) := by decide +kernel
theorem dX0_reckon_62 : decode cX0_reckon 62 = .ok (.iaload, 1) := by decide +kernel
theorem dX0_reckon_63 : decode cX0_reckon 63 = .ok (.istore 4, 2) := by decide +kernel
theorem dX0_reckon_65 : decode cX0_reckon 65 = .ok (.iload 4, 2) := by decide +kernel
theorem dX0_reckon_67 : decode cX0_reckon 67 = .ok (.ldc 22, 2) := by decide +kernel
theorem dX0_reckon_69 : decode cX0_reckon 69 = .ok (.if_icmp .eq 19, 3) := by decide +kernel
theorem dX0_reckon_72 : decode cX0_reckon 72 = .ok (.aload_n 0, 1) := by decide +kernel
theorem dX0_reckon_73 : decode cX0_reckon 73 = .ok (.iload_n 3, 1) := by decide +kernel
theorem dX0_reckon_74 : decode cX0_reckon 74 = .ok (.invokevirtual 42, 3) := by decide +kernel
theorem dX0_reckon_77 : decode cX0_reckon 77 = .ok (.aload_n 0, 1) := by decide +kernel
theorem dX0_reckon_78 : decode cX0_reckon 78 = .ok (.iload_n 2, 1) := by decide +kernel
theorem dX0_reckon_79 : decode cX0_reckon 79 = .ok (.iload_n 3, 1) := by decide +kernel
theorem dX0_reckon_80 : decode cX0_reckon 80 = .ok (.bipush 100, 2) := by decide +kernel
theorem dX0_reckon_82 : decode cX0_reckon 82 = .ok (.idiv, 1) := by decide +kernel
theorem dX0_reckon_83 : decode cX0_reckon 83 = .ok (.iload 4, 2) := by decide +kernel
theorem dX0_reckon_85 : decode cX0_reckon 85 = .ok (.invokevirtual 46, 3) := by decide +kernel
theorem dX0_reckon_88 : decode cX0_reckon 88 = .ok (.iinc 3 1, 3) := by decide +kernel
theorem dX0_reckon_91 : decode cX0_reckon 91 = .ok (.goto (-47), 3) := by decide +kernel
theorem dX0_reckon_94 : decode cX0_reckon 94 = .ok (.iinc 2 1, 3) := by decide +kernel
theorem dX0_reckon_97 : decode cX0_reckon 97 = .ok (.goto (-63), 3) := by decide +kernel
theorem dX0_reckon_100 : decode cX0_reckon 100 = .ok (.return_, 1) := by decide +kernel
theorem dX0_leastHarm_0 : decode cX0_leastHarm 0 = .ok (.aload_n 0, 1) := by decide +kernel
theorem dX0_leastHarm_1 : decode cX0_leastHarm 1 = .ok (.getfield 23, 3) := by decide +kernel
theorem dX0_leastHarm_4 : decode cX0_leastHarm 4 = .ok (.iconst 4, 1) := by decide +kernel
theorem dX0_leastHarm_5 : decode cX0_leastHarm 5 = .ok (.idiv, 1) := by decide +kernel
theorem dX0_leastHarm_6 : decode cX0_leastHarm 6 = .ok (.ireturn, 1) := by decide +kernel
theorem dX0_firstStep_0 : decode cX0_firstStep 0 = .ok (.aload_n 0, 1) := by decide +kernel
theorem dX0_firstStep_1 : decode cX0_firstStep 1 = .ok (.getfield 23, 3) := by decide +kernel
theorem dX0_firstStep_4 : decode cX0_firstStep 4 = .ok (.iconst 4, 1) := by decide +kernel
theorem dX0_firstStep_5 : decode cX0_firstStep 5 = .ok (.irem, 1) := by decide +kernel
theorem dX0_firstStep_6 : decode cX0_firstStep 6 = .ok (.istore_n 1, 1) := by decide +kernel
theorem dX0_firstStep_7 : decode cX0_firstStep 7 = .ok (.aload_n 0, 1) := by decide +kernel
theorem dX0_firstStep_8 : decode cX0_firstStep 8 = .ok (.getfield 26, 3) := by decide +kernel
theorem dX0_firstStep_11 : decode cX0_firstStep 11 = .ok (.iload_n 1, 1) := by decide +kernel
theorem dX0_firstStep_12 : decode cX0_firstStep 12 = .ok (.invokevirtual 74, 3) := by decide +kernel
theorem dX0_firstStep_15 : decode cX0_firstStep 15 = .ok (.ifCond .eq 15, 3) := by decide +kernel
theorem dX0_firstStep_18 : decode cX0_firstStep 18 = .ok (.aload_n 0, 1) := by decide +kernel
theorem dX0_firstStep_19 : decode cX0_firstStep 19 = .ok (.getfield 26, 3) := by decide +kernel
theorem dX0_firstStep_22 : decode cX0_firstStep 22 = .ok (.getfield 78, 3) := by decide +kernel
theorem dX0_firstStep_25 : decode cX0_firstStep 25 = .ok (.iload_n 1, 1) := by decide +kernel
theorem dX0_firstStep_26 : decode cX0_firstStep 26 = .ok (.iaload, 1) := by decide +kernel
theorem dX0_firstStep_27 : decode cX0_firstStep 27 = .ok (.goto 4, 3) := by decide +kernel
theorem dX0_firstStep_30 : decode cX0_firstStep 30 = .ok (.iconst (-1), 1) := by decide +kernel
theorem dX0_firstStep_31 : decode cX0_firstStep 31 = .ok (.ireturn, 1) := by decide +kernel
set_option maxHeartbeats 4000000 in
set_option maxRecDepth 100000 in
/-- Backlog.takeApart -/
theorem c_takeApart (l : Launch) (hl0 : l.stackTraces = false) (D : va_G) (cy : Nat → ClassId) (sa : Nat → Nat) (ba ba_least ba_without bfa bfa_who bfa_hold bfa_harm bfa_cost : Nat) (b_minutes b_found bf_size s0 : Int32) (bf_without : Nat → Int32) (h_b_minutes : 0 ≤ b_minutes.toInt ∧ b_minutes.toInt ≤ 40) (h_bf_without : rowR 4 0 (9) bf_without) (h_bf_size : 0 ≤ bf_size.toInt ∧ bf_size.toInt ≤ 4) (h_s0 : 0 ≤ s0.toInt ∧ s0.toInt ≤ 299) (sz : Nat) : Met l yX0_takeApart (Cond.code yX0_takeApart cX0_takeApart 5 none :: kWS) ({ frames := 10, cells := 0, slots := 0, locals := 300 }) (kPre D cy sa [.ref ba, .int s0] [(ba, .inr (2, [.ref bfa, .ref ba_least, .ref ba_without, .int b_minutes, .int b_found])), (ba_without, .inl (cy 0, 4, .inl bf_without)), (bfa, .inr (3, [.ref bfa_who, .ref bfa_hold, .ref bfa_harm, .ref bfa_cost, .int bf_size]))] sz) (va_Qv (fun (u : (Nat → Int32) × (Nat → Nat → Int32)) => (rowR 4 0 (9) ((u.2 0)))) (kB D (va_A [(ba, .inr (2, [.ref bfa, .ref ba_least, .ref ba_without, .int b_minutes, .int b_found])), (ba_without, .inl (cy 0, 4, .inl bf_without)), (bfa, .inr (3, [.ref bfa_who, .ref bfa_hold, .ref bfa_harm, .ref bfa_cost, .int bf_size]))] sz) (fun (u : (Nat → Int32) × (Nat → Nat → Int32)) => [(ba, .inr (2, [.ref bfa, .ref ba_least, .ref ba_without, .int b_minutes, .int b_found])), (ba_without, .inl (cy 0, 4, .inl ((u.2 0)))), (bfa, .inr (3, [.ref bfa_who, .ref bfa_hold, .ref bfa_harm, .ref bfa_cost, .int bf_size]))])) (va_A [(ba, .inr (2, [.ref bfa, .ref ba_least, .ref ba_without, .int b_minutes, .int b_found])), (ba_without, .inl (cy 0, 4, .inl bf_without)), (bfa, .inr (3, [.ref bfa_who, .ref bfa_hold, .ref bfa_harm, .ref bfa_cost, .int bf_size]))] sz)) 0 0 (va_A [(ba, .inr (2, [.ref bfa, .ref ba_least, .ref ba_without, .int b_minutes, .int b_found])), (ba_without, .inl (cy 0, 4, .inl bf_without)), (bfa, .inr (3, [.ref bfa_who, .ref bfa_hold, .ref bfa_harm, .ref bfa_cost, .int bf_size]))] sz) := by
  refine k_ofW (y := yX0_takeApart) (cc := cX0_takeApart) (maxL := 5) (ret := none) (av := [.ref ba, .int s0]) (ws := [(ba, .inr (2, [.ref bfa, .ref ba_least, .ref ba_without, .int b_minutes, .int b_found])), (ba_without, .inl (cy 0, 4, .inl bf_without)), (bfa, .inr (3, [.ref bfa_who, .ref bfa_hold, .ref bfa_harm, .ref bfa_cost, .int bf_size]))]) (Qc := fun A => (va_Qv (fun (u : (Nat → Int32) × (Nat → Nat → Int32)) => (rowR 4 0 (9) ((u.2 0)))) (kB D A (fun (u : (Nat → Int32) × (Nat → Nat → Int32)) => [(ba, .inr (2, [.ref bfa, .ref ba_least, .ref ba_without, .int b_minutes, .int b_found])), (ba_without, .inl (cy 0, 4, .inl ((u.2 0)))), (bfa, .inr (3, [.ref bfa_who, .ref bfa_hold, .ref bfa_harm, .ref bfa_cost, .int bf_size]))])) A)) (by decide) (Nat.le_of_ble_eq_true rfl) ?_
  intro p e s m below meth c ls A E hA hP hD hG hS hl
  obtain ⟨Q0, hQ0⟩ : ∃ Q0 : State → Prop, Q0 = MQ below (va_Qv (fun (u : (Nat → Int32) × (Nat → Nat → Int32)) => (rowR 4 0 (9) ((u.2 0)))) (kB D A (fun (u : (Nat → Int32) × (Nat → Nat → Int32)) => [(ba, .inr (2, [.ref bfa, .ref ba_least, .ref ba_without, .int b_minutes, .int b_found])), (ba_without, .inl (cy 0, 4, .inl ((u.2 0)))), (bfa, .inr (3, [.ref bfa_who, .ref bfa_hold, .ref bfa_harm, .ref bfa_cost, .int bf_size]))])) A) ([.ref ba, .int s0] : List Value).toArray s 0 0 A := ⟨_, rfl⟩
  rw [← hQ0]
  obtain ⟨hx, hb, hml, hown, hts, hr, hlk, hnm⟩ := id E
  have hown : s.vm.findClass RX0 = some m.cls := hown
  have hl : lv_has ls 5 [(0, .ref ba), (1, .int s0)] := hl
  obtain ⟨H, hH⟩ : ∃ H, H = s.heap := ⟨_, rfl⟩
  have hP : va_P D vwCl [(ba, .inr (2, [.ref bfa, .ref ba_least, .ref ba_without, .int b_minutes, .int b_found])), (ba_without, .inl (cy 0, 4, .inl bf_without)), (bfa, .inr (3, [.ref bfa_who, .ref bfa_hold, .ref bfa_harm, .ref bfa_cost, .int bf_size]))] H := by rw [hH]; exact hP
  have hS : va_S A s.heap H [] := by rw [hH]; exact va_S.rf
  rw [← hH]
  clear hH
  obtain ⟨locs, hlocs⟩ : ∃ locs : List Loc, locs = [] := ⟨_, rfl⟩
  rw [← hlocs] at hS ⊢
  refine lv_iload_n hx hb dX0_takeApart_0 rfl (lv_at hl 1 rfl) ?_
  refine lv_bipush (v := 100) hx hb dX0_takeApart_1 (by decide) ?_
  refine lv_idiv hx hb dX0_takeApart_3 (by decide) ?_
  refine lv_topi (fun x1 ex1 => ?_)
  have rx1 := n_div ex1 (a := s0.toInt) (b := 100) rfl n_L100 (by omega) (by omega)
  refine lv_istore_n (lv' := [(2, .int x1), (0, .ref ba), (1, .int s0)]) hx hb dX0_takeApart_4 rfl hl (by decide) rfl (fun ls hl => ?_)
  refine lv_iload_n hx hb dX0_takeApart_5 rfl (lv_at hl 2 rfl) ?_
  refine lv_istore_n (lv' := [(3, .int s0), (2, .int x1), (0, .ref ba), (1, .int s0)]) hx hb dX0_takeApart_6 rfl hl (by decide) rfl (fun ls hl => ?_)
  refine lv_aload_n hx hb dX0_takeApart_7 rfl (lv_at hl 2 rfl) ?_
  refine va_get (D := D) (ci := 2) (v := .ref bfa) (C := RX0) (T := TX0) (N := 5) hx hb hts kin_RX0 hown hG.1 hP 0 rfl rfl 0 (by decide) (hts _ wm_400) (fun _ h9 => h9) rfl dX0_takeApart_8 ?_
  refine va_get (D := D) (ci := 3) (v := .int bf_size) (C := RX1) (T := TX1) (N := 5) hx hb hts kin_RX1 hown hG.1 hP 2 rfl rfl 4 (by decide) (hts _ wm_346) (fun _ h9 => h9) rfl dX0_takeApart_11 ?_
  refine lv_iconst (v := 1) hx hb dX0_takeApart_14 (by decide) ?_
  refine lv_isub hx hb dX0_takeApart_15 ?_
  refine lv_topi (fun x2 ex2 => ?_)
  have rx2 := n_sub ex2 (a := bf_size.toInt) (b := 1) rfl n_L1 (by omega) (by omega)
  refine lv_istore (lv' := [(4, .int x2), (3, .int s0), (2, .int x1), (0, .ref ba), (1, .int s0)]) hx hb dX0_takeApart_16 hl (by decide) rfl (fun ls hl => ?_)
  have k3 : ∀ (n : Nat) (k3y3 : Int32) (k3y4 : Int32) (k3bf_without : Nat → Int32) (H : Heap) (locs : List Loc) (ls : Array Slot), 0 ≤ k3y3.toInt ∧ k3y3.toInt ≤ 299 → -1 ≤ k3y4.toInt ∧ k3y4.toInt ≤ 3 → rowR 4 0 (9) k3bf_without → (k3y4.toInt + 1).toNat = n → va_P D vwCl [(ba, .inr (2, [.ref bfa, .ref ba_least, .ref ba_without, .int b_minutes, .int b_found])), (ba_without, .inl (cy 0, 4, .inl k3bf_without)), (bfa, .inr (3, [.ref bfa_who, .ref bfa_hold, .ref bfa_harm, .ref bfa_cost, .int bf_size]))] H → va_D A [(ba, .inr (2, [.ref bfa, .ref ba_least, .ref ba_without, .int b_minutes, .int b_found])), (ba_without, .inl (cy 0, 4, .inl k3bf_without)), (bfa, .inr (3, [.ref bfa_who, .ref bfa_hold, .ref bfa_harm, .ref bfa_cost, .int bf_size]))] → va_S A s.heap H locs → lv_has ls 5 [(4, .int k3y4), (3, .int k3y3), (2, .int x1), (0, .ref ba), (1, .int s0)] → W p l e ({ frames := 10, cells := 0, slots := 0, locals := 300 }) s m ([.ref ba, .int s0] : List Value).toArray below meth c H locs 0 0 Q0 (F0 m 18 ls []) := by
    intro n
    induction n using Nat.strongRecOn with
    | ind n k3ih =>
      intro k3y3 k3y4 k3bf_without H locs ls hk3y3 hk3y4 hk3bf_without k3m hP hD hS hl
      refine lv_iload hx hb dX0_takeApart_18 (lv_at hl 0 rfl) ?_
      refine lv_if_lt (tgt := 65) hx hb dX0_takeApart_20 (by decide) (fun c4 => ?_) (fun c4 => ?_)
      · simp only [k_lt, k_le, k_eq, ne_eq, ge_iff_le, gt_iff_lt, n_L0, n_L0] at c4
        rw [hQ0]
        exact k_vret (fun k => [].getD k 0, fun k => [k3bf_without].getD k (fun _ => 0)) hx hb hr hlk ((show rowR 4 0 (9) k3bf_without from hk3bf_without)) (hP.sub [0, 1, 2] rfl) (hD.sub [0, 1, 2] (by decide) rfl) hS (by decide) (by decide) dX0_takeApart_65
      · simp only [k_lt, k_le, k_eq, ne_eq, ge_iff_le, gt_iff_lt, n_L0, n_L0] at c4
        refine lv_aload_n hx hb dX0_takeApart_23 rfl (lv_at hl 3 rfl) ?_
        refine va_get (D := D) (ci := 2) (v := .ref ba_without) (C := RX0) (T := TX0) (N := 5) hx hb hts kin_RX0 hown hG.1 hP 0 rfl rfl 2 (by decide) (hts _ wm_402) (fun _ h9 => h9) rfl dX0_takeApart_24 ?_
        refine lv_iload hx hb dX0_takeApart_27 (lv_at hl 0 rfl) ?_
        refine lv_iload hx hb dX0_takeApart_29 (lv_at hl 0 rfl) ?_
        refine lv_iload_n hx hb dX0_takeApart_31 rfl (lv_at hl 2 rfl) ?_
        refine lv_icmp_ne (tgt := 39) hx hb dX0_takeApart_32 (by decide) (fun c5 => ?_) (fun c5 => ?_)
        · simp only [k_lt, k_le, k_eq, ne_eq, ge_iff_le, gt_iff_lt] at c5
          refine lv_iload_n hx hb dX0_takeApart_39 rfl (lv_at hl 1 rfl) ?_
          refine lv_bipush (v := 10) hx hb dX0_takeApart_40 (by decide) ?_
          refine lv_irem hx hb dX0_takeApart_42 (by decide) ?_
          refine lv_topi (fun x6 ex6 => ?_)
          have rx6 := n_mod ex6 (a := k3y3.toInt) (b := 10) rfl n_L10 (by omega) (by omega)
          refine va_iast hx hb hG.1 hP hD hS 1 0 rfl rfl (n_in (by omega) (by omega)) dX0_takeApart_43 (fun H locs hP hD hS => ?_)
          have hP : va_P D vwCl [(ba, .inr (2, [.ref bfa, .ref ba_least, .ref ba_without, .int b_minutes, .int b_found])), (ba_without, .inl (cy 0, 4, .inl (upd (k3bf_without) (k3y4 : Int32).toNatClampNeg x6))), (bfa, .inr (3, [.ref bfa_who, .ref bfa_hold, .ref bfa_harm, .ref bfa_cost, .int bf_size]))] H := hP
          have hD : va_D A [(ba, .inr (2, [.ref bfa, .ref ba_least, .ref ba_without, .int b_minutes, .int b_found])), (ba_without, .inl (cy 0, 4, .inl (upd (k3bf_without) (k3y4 : Int32).toNatClampNeg x6))), (bfa, .inr (3, [.ref bfa_who, .ref bfa_hold, .ref bfa_harm, .ref bfa_cost, .int bf_size]))] := hD
          have hf7 : rowR 4 0 (9) (upd (k3bf_without) (k3y4 : Int32).toNatClampNeg x6) := rowR_upd hk3bf_without (by omega) (by omega)
          generalize upd (k3bf_without) (k3y4 : Int32).toNatClampNeg x6 = f7 at hP hD hf7
          have hP : va_P D vwCl [(ba, .inr (2, [.ref bfa, .ref ba_least, .ref ba_without, .int b_minutes, .int b_found])), (ba_without, .inl (cy 0, 4, .inl f7)), (bfa, .inr (3, [.ref bfa_who, .ref bfa_hold, .ref bfa_harm, .ref bfa_cost, .int bf_size]))] H := hP
          have hD : va_D A [(ba, .inr (2, [.ref bfa, .ref ba_least, .ref ba_without, .int b_minutes, .int b_found])), (ba_without, .inl (cy 0, 4, .inl f7)), (bfa, .inr (3, [.ref bfa_who, .ref bfa_hold, .ref bfa_harm, .ref bfa_cost, .int bf_size]))] := hD
          refine lv_iload hx hb dX0_takeApart_44 (lv_at hl 0 rfl) ?_
          refine lv_iload_n hx hb dX0_takeApart_46 rfl (lv_at hl 2 rfl) ?_
          refine lv_icmp_ne (tgt := 54) hx hb dX0_takeApart_47 (by decide) (fun c8 => ?_) (fun c8 => ?_)
          · simp only [k_lt, k_le, k_eq, ne_eq, ge_iff_le, gt_iff_lt] at c8
            refine lv_iload_n hx hb dX0_takeApart_54 rfl (lv_at hl 1 rfl) ?_
            refine lv_bipush (v := 10) hx hb dX0_takeApart_55 (by decide) ?_
            refine lv_idiv hx hb dX0_takeApart_57 (by decide) ?_
            refine lv_topi (fun x9 ex9 => ?_)
            have rx9 := n_div ex9 (a := k3y3.toInt) (b := 10) rfl n_L10 (by omega) (by omega)
            refine lv_istore_n (lv' := [(3, .int x9), (4, .int k3y4), (2, .int x1), (0, .ref ba), (1, .int s0)]) hx hb dX0_takeApart_58 rfl hl (by decide) rfl (fun ls hl => ?_)
            obtain ⟨x10, ex10⟩ : ∃ z : Int32, z = k3y4 + (-1) := ⟨_, rfl⟩
            refine lv_iinc (v := x10) (lv' := [(4, .int x10), (3, .int x9), (2, .int x1), (0, .ref ba), (1, .int s0)]) hx hb dX0_takeApart_59 hl (k := 1) rfl (by rw [ex10]; rfl) (by decide) rfl (fun ls hl => ?_)
            have rx10 := n_add ex10 (a := k3y4.toInt) (b := (-1)) rfl n_Lm1 (by omega) (by omega)
            refine lv_goto (tgt := 18) hx hb dX0_takeApart_62 (by decide) ?_
            exact k3ih ((x10.toInt + 1).toNat) (by omega) x9 x10 f7 H locs ls ⟨by omega, by omega⟩ ⟨by omega, by omega⟩ hf7 rfl hP hD hS (lv_sub hl [0, 1, 2, 3, 4] rfl)
          · simp only [k_lt, k_le, k_eq, ne_eq, ge_iff_le, gt_iff_lt] at c8
            refine lv_iload_n hx hb dX0_takeApart_50 rfl (lv_at hl 1 rfl) ?_
            refine lv_goto (tgt := 58) hx hb dX0_takeApart_51 (by decide) ?_
            refine lv_istore_n (lv' := [(3, .int k3y3), (4, .int k3y4), (2, .int x1), (0, .ref ba), (1, .int s0)]) hx hb dX0_takeApart_58 rfl hl (by decide) rfl (fun ls hl => ?_)
            obtain ⟨x11, ex11⟩ : ∃ z : Int32, z = k3y4 + (-1) := ⟨_, rfl⟩
            refine lv_iinc (v := x11) (lv' := [(4, .int x11), (3, .int k3y3), (2, .int x1), (0, .ref ba), (1, .int s0)]) hx hb dX0_takeApart_59 hl (k := 1) rfl (by rw [ex11]; rfl) (by decide) rfl (fun ls hl => ?_)
            have rx11 := n_add ex11 (a := k3y4.toInt) (b := (-1)) rfl n_Lm1 (by omega) (by omega)
            refine lv_goto (tgt := 18) hx hb dX0_takeApart_62 (by decide) ?_
            exact k3ih ((x11.toInt + 1).toNat) (by omega) k3y3 x11 f7 H locs ls ⟨by omega, by omega⟩ ⟨by omega, by omega⟩ hf7 rfl hP hD hS (lv_sub hl [0, 1, 2, 3, 4] rfl)
        · simp only [k_lt, k_le, k_eq, ne_eq, ge_iff_le, gt_iff_lt] at c5
          refine lv_iconst (v := 0) hx hb dX0_takeApart_35 (by decide) ?_
          refine lv_goto (tgt := 43) hx hb dX0_takeApart_36 (by decide) ?_
          refine va_iast hx hb hG.1 hP hD hS 1 0 rfl rfl (n_in (by omega) (by omega)) dX0_takeApart_43 (fun H locs hP hD hS => ?_)
          have hP : va_P D vwCl [(ba, .inr (2, [.ref bfa, .ref ba_least, .ref ba_without, .int b_minutes, .int b_found])), (ba_without, .inl (cy 0, 4, .inl (upd (k3bf_without) (k3y4 : Int32).toNatClampNeg 0))), (bfa, .inr (3, [.ref bfa_who, .ref bfa_hold, .ref bfa_harm, .ref bfa_cost, .int bf_size]))] H := hP
          have hD : va_D A [(ba, .inr (2, [.ref bfa, .ref ba_least, .ref ba_without, .int b_minutes, .int b_found])), (ba_without, .inl (cy 0, 4, .inl (upd (k3bf_without) (k3y4 : Int32).toNatClampNeg 0))), (bfa, .inr (3, [.ref bfa_who, .ref bfa_hold, .ref bfa_harm, .ref bfa_cost, .int bf_size]))] := hD
          have hf12 : rowR 4 0 (9) (upd (k3bf_without) (k3y4 : Int32).toNatClampNeg 0) := rowR_upd hk3bf_without (by rw [n_L0]; omega) (by rw [n_L0]; omega)
          generalize upd (k3bf_without) (k3y4 : Int32).toNatClampNeg 0 = f12 at hP hD hf12
          have hP : va_P D vwCl [(ba, .inr (2, [.ref bfa, .ref ba_least, .ref ba_without, .int b_minutes, .int b_found])), (ba_without, .inl (cy 0, 4, .inl f12)), (bfa, .inr (3, [.ref bfa_who, .ref bfa_hold, .ref bfa_harm, .ref bfa_cost, .int bf_size]))] H := hP
          have hD : va_D A [(ba, .inr (2, [.ref bfa, .ref ba_least, .ref ba_without, .int b_minutes, .int b_found])), (ba_without, .inl (cy 0, 4, .inl f12)), (bfa, .inr (3, [.ref bfa_who, .ref bfa_hold, .ref bfa_harm, .ref bfa_cost, .int bf_size]))] := hD
          refine lv_iload hx hb dX0_takeApart_44 (lv_at hl 0 rfl) ?_
          refine lv_iload_n hx hb dX0_takeApart_46 rfl (lv_at hl 2 rfl) ?_
          refine lv_icmp_ne (tgt := 54) hx hb dX0_takeApart_47 (by decide) (fun c13 => ?_) (fun c13 => ?_)
          · simp only [k_lt, k_le, k_eq, ne_eq, ge_iff_le, gt_iff_lt] at c13
            refine lv_iload_n hx hb dX0_takeApart_54 rfl (lv_at hl 1 rfl) ?_
            refine lv_bipush (v := 10) hx hb dX0_takeApart_55 (by decide) ?_
            refine lv_idiv hx hb dX0_takeApart_57 (by decide) ?_
            refine lv_topi (fun x14 ex14 => ?_)
            have rx14 := n_div ex14 (a := k3y3.toInt) (b := 10) rfl n_L10 (by omega) (by omega)
            refine lv_istore_n (lv' := [(3, .int x14), (4, .int k3y4), (2, .int x1), (0, .ref ba), (1, .int s0)]) hx hb dX0_takeApart_58 rfl hl (by decide) rfl (fun ls hl => ?_)
            obtain ⟨x15, ex15⟩ : ∃ z : Int32, z = k3y4 + (-1) := ⟨_, rfl⟩
            refine lv_iinc (v := x15) (lv' := [(4, .int x15), (3, .int x14), (2, .int x1), (0, .ref ba), (1, .int s0)]) hx hb dX0_takeApart_59 hl (k := 1) rfl (by rw [ex15]; rfl) (by decide) rfl (fun ls hl => ?_)
            have rx15 := n_add ex15 (a := k3y4.toInt) (b := (-1)) rfl n_Lm1 (by omega) (by omega)
            refine lv_goto (tgt := 18) hx hb dX0_takeApart_62 (by decide) ?_
            exact k3ih ((x15.toInt + 1).toNat) (by omega) x14 x15 f12 H locs ls ⟨by omega, by omega⟩ ⟨by omega, by omega⟩ hf12 rfl hP hD hS (lv_sub hl [0, 1, 2, 3, 4] rfl)
          · simp only [k_lt, k_le, k_eq, ne_eq, ge_iff_le, gt_iff_lt] at c13
            refine lv_iload_n hx hb dX0_takeApart_50 rfl (lv_at hl 1 rfl) ?_
            refine lv_goto (tgt := 58) hx hb dX0_takeApart_51 (by decide) ?_
            refine lv_istore_n (lv' := [(3, .int k3y3), (4, .int k3y4), (2, .int x1), (0, .ref ba), (1, .int s0)]) hx hb dX0_takeApart_58 rfl hl (by decide) rfl (fun ls hl => ?_)
            obtain ⟨x16, ex16⟩ : ∃ z : Int32, z = k3y4 + (-1) := ⟨_, rfl⟩
            refine lv_iinc (v := x16) (lv' := [(4, .int x16), (3, .int k3y3), (2, .int x1), (0, .ref ba), (1, .int s0)]) hx hb dX0_takeApart_59 hl (k := 1) rfl (by rw [ex16]; rfl) (by decide) rfl (fun ls hl => ?_)
            have rx16 := n_add ex16 (a := k3y4.toInt) (b := (-1)) rfl n_Lm1 (by omega) (by omega)
            refine lv_goto (tgt := 18) hx hb dX0_takeApart_62 (by decide) ?_
            exact k3ih ((x16.toInt + 1).toNat) (by omega) k3y3 x16 f12 H locs ls ⟨by omega, by omega⟩ ⟨by omega, by omega⟩ hf12 rfl hP hD hS (lv_sub hl [0, 1, 2, 3, 4] rfl)
  exact k3 _ s0 x2 bf_without H locs ls ⟨by omega, by omega⟩ ⟨by omega, by omega⟩ h_bf_without rfl hP hD hS (lv_sub hl [0, 1, 2, 3, 4] rfl)

set_option maxHeartbeats 4000000 in
set_option maxRecDepth 100000 in
/-- Backlog.harmOfStep -/
theorem c_harmOfStep (l : Launch) (hl0 : l.stackTraces = false) (D : va_G) (cy : Nat → ClassId) (sa : Nat → Nat) (ba ba_least ba_without bfa bfa_who bfa_hold bfa_harm bfa_cost : Nat) (b_minutes b_found bf_size t0 w0 l0 : Int32) (bf_without bff_hold bff_harm : Nat → Int32) (h_b_minutes : 0 ≤ b_minutes.toInt ∧ b_minutes.toInt ≤ 40) (h_bf_without : rowR 4 0 (9) bf_without) (h_bf_size : 0 ≤ bf_size.toInt ∧ bf_size.toInt ≤ 4) (h_bff_hold : rowR 4 0 (8) bff_hold) (h_w0 : 0 ≤ w0.toInt ∧ w0.toInt ≤ 39) (sz : Nat) : Met l yX0_harmOfStep (Cond.code yX0_harmOfStep cX0_harmOfStep 8 (some .int) :: kWS) ({ frames := 10, cells := 0, slots := 0, locals := 300 }) (kPre D cy sa [.ref ba, .int t0, .int w0, .int l0] [(ba, .inr (2, [.ref bfa, .ref ba_least, .ref ba_without, .int b_minutes, .int b_found])), (ba_without, .inl (cy 0, 4, .inl bf_without)), (bfa, .inr (3, [.ref bfa_who, .ref bfa_hold, .ref bfa_harm, .ref bfa_cost, .int bf_size])), (bfa_hold, .inl (cy 0, 4, .inl bff_hold)), (bfa_harm, .inl (cy 0, 4, .inl bff_harm))] sz) (va_Qi (fun (r : Int32) (u : Unit) => True) (kB D (va_A [(ba, .inr (2, [.ref bfa, .ref ba_least, .ref ba_without, .int b_minutes, .int b_found])), (ba_without, .inl (cy 0, 4, .inl bf_without)), (bfa, .inr (3, [.ref bfa_who, .ref bfa_hold, .ref bfa_harm, .ref bfa_cost, .int bf_size])), (bfa_hold, .inl (cy 0, 4, .inl bff_hold)), (bfa_harm, .inl (cy 0, 4, .inl bff_harm))] sz) (fun (u : Unit) => [(ba, .inr (2, [.ref bfa, .ref ba_least, .ref ba_without, .int b_minutes, .int b_found])), (ba_without, .inl (cy 0, 4, .inl bf_without)), (bfa, .inr (3, [.ref bfa_who, .ref bfa_hold, .ref bfa_harm, .ref bfa_cost, .int bf_size])), (bfa_hold, .inl (cy 0, 4, .inl bff_hold)), (bfa_harm, .inl (cy 0, 4, .inl bff_harm))])) (va_A [(ba, .inr (2, [.ref bfa, .ref ba_least, .ref ba_without, .int b_minutes, .int b_found])), (ba_without, .inl (cy 0, 4, .inl bf_without)), (bfa, .inr (3, [.ref bfa_who, .ref bfa_hold, .ref bfa_harm, .ref bfa_cost, .int bf_size])), (bfa_hold, .inl (cy 0, 4, .inl bff_hold)), (bfa_harm, .inl (cy 0, 4, .inl bff_harm))] sz)) 0 0 (va_A [(ba, .inr (2, [.ref bfa, .ref ba_least, .ref ba_without, .int b_minutes, .int b_found])), (ba_without, .inl (cy 0, 4, .inl bf_without)), (bfa, .inr (3, [.ref bfa_who, .ref bfa_hold, .ref bfa_harm, .ref bfa_cost, .int bf_size])), (bfa_hold, .inl (cy 0, 4, .inl bff_hold)), (bfa_harm, .inl (cy 0, 4, .inl bff_harm))] sz) := by
  refine k_ofW (y := yX0_harmOfStep) (cc := cX0_harmOfStep) (maxL := 8) (ret := (some .int)) (av := [.ref ba, .int t0, .int w0, .int l0]) (ws := [(ba, .inr (2, [.ref bfa, .ref ba_least, .ref ba_without, .int b_minutes, .int b_found])), (ba_without, .inl (cy 0, 4, .inl bf_without)), (bfa, .inr (3, [.ref bfa_who, .ref bfa_hold, .ref bfa_harm, .ref bfa_cost, .int bf_size])), (bfa_hold, .inl (cy 0, 4, .inl bff_hold)), (bfa_harm, .inl (cy 0, 4, .inl bff_harm))]) (Qc := fun A => (va_Qi (fun (r : Int32) (u : Unit) => True) (kB D A (fun (u : Unit) => [(ba, .inr (2, [.ref bfa, .ref ba_least, .ref ba_without, .int b_minutes, .int b_found])), (ba_without, .inl (cy 0, 4, .inl bf_without)), (bfa, .inr (3, [.ref bfa_who, .ref bfa_hold, .ref bfa_harm, .ref bfa_cost, .int bf_size])), (bfa_hold, .inl (cy 0, 4, .inl bff_hold)), (bfa_harm, .inl (cy 0, 4, .inl bff_harm))])) A)) (by decide) (Nat.le_of_ble_eq_true rfl) ?_
  intro p e s m below meth c ls A E hA hP hD hG hS hl
  obtain ⟨Q0, hQ0⟩ : ∃ Q0 : State → Prop, Q0 = MQ below (va_Qi (fun (r : Int32) (u : Unit) => True) (kB D A (fun (u : Unit) => [(ba, .inr (2, [.ref bfa, .ref ba_least, .ref ba_without, .int b_minutes, .int b_found])), (ba_without, .inl (cy 0, 4, .inl bf_without)), (bfa, .inr (3, [.ref bfa_who, .ref bfa_hold, .ref bfa_harm, .ref bfa_cost, .int bf_size])), (bfa_hold, .inl (cy 0, 4, .inl bff_hold)), (bfa_harm, .inl (cy 0, 4, .inl bff_harm))])) A) ([.ref ba, .int t0, .int w0, .int l0] : List Value).toArray s 0 0 A := ⟨_, rfl⟩
  rw [← hQ0]
  obtain ⟨hx, hb, hml, hown, hts, hr, hlk, hnm⟩ := id E
  have hown : s.vm.findClass RX0 = some m.cls := hown
  have hl : lv_has ls 8 [(0, .ref ba), (1, .int t0), (2, .int w0), (3, .int l0)] := hl
  have g_t0 := k_rng t0
  have g_l0 := k_rng l0
  obtain ⟨H, hH⟩ : ∃ H, H = s.heap := ⟨_, rfl⟩
  have hP : va_P D vwCl [(ba, .inr (2, [.ref bfa, .ref ba_least, .ref ba_without, .int b_minutes, .int b_found])), (ba_without, .inl (cy 0, 4, .inl bf_without)), (bfa, .inr (3, [.ref bfa_who, .ref bfa_hold, .ref bfa_harm, .ref bfa_cost, .int bf_size])), (bfa_hold, .inl (cy 0, 4, .inl bff_hold)), (bfa_harm, .inl (cy 0, 4, .inl bff_harm))] H := by rw [hH]; exact hP
  have hS : va_S A s.heap H [] := by rw [hH]; exact va_S.rf
  rw [← hH]
  clear hH
  obtain ⟨locs, hlocs⟩ : ∃ locs : List Loc, locs = [] := ⟨_, rfl⟩
  rw [← hlocs] at hS ⊢
  refine lv_iconst (v := 0) hx hb dX0_harmOfStep_0 (by decide) ?_
  refine lv_istore (lv' := [(4, .int 0), (0, .ref ba), (1, .int t0), (2, .int w0), (3, .int l0)]) hx hb dX0_harmOfStep_1 hl (by decide) rfl (fun ls hl => ?_)
  refine lv_iconst (v := 0) hx hb dX0_harmOfStep_3 (by decide) ?_
  refine lv_istore (lv' := [(5, .int 0), (4, .int 0), (0, .ref ba), (1, .int t0), (2, .int w0), (3, .int l0)]) hx hb dX0_harmOfStep_4 hl (by decide) rfl (fun ls hl => ?_)
  have k1 : ∀ (n : Nat) (k1y4 : Int32) (k1y5 : Int32) (H : Heap) (locs : List Loc) (ls : Array Slot), 0 ≤ k1y5.toInt ∧ k1y5.toInt ≤ 4 → (4 - k1y5.toInt).toNat = n → va_P D vwCl [(ba, .inr (2, [.ref bfa, .ref ba_least, .ref ba_without, .int b_minutes, .int b_found])), (ba_without, .inl (cy 0, 4, .inl bf_without)), (bfa, .inr (3, [.ref bfa_who, .ref bfa_hold, .ref bfa_harm, .ref bfa_cost, .int bf_size])), (bfa_hold, .inl (cy 0, 4, .inl bff_hold)), (bfa_harm, .inl (cy 0, 4, .inl bff_harm))] H → va_D A [(ba, .inr (2, [.ref bfa, .ref ba_least, .ref ba_without, .int b_minutes, .int b_found])), (ba_without, .inl (cy 0, 4, .inl bf_without)), (bfa, .inr (3, [.ref bfa_who, .ref bfa_hold, .ref bfa_harm, .ref bfa_cost, .int bf_size])), (bfa_hold, .inl (cy 0, 4, .inl bff_hold)), (bfa_harm, .inl (cy 0, 4, .inl bff_harm))] → va_S A s.heap H locs → lv_has ls 8 [(5, .int k1y5), (4, .int k1y4), (0, .ref ba), (1, .int t0), (2, .int w0), (3, .int l0)] → W p l e ({ frames := 10, cells := 0, slots := 0, locals := 300 }) s m ([.ref ba, .int t0, .int w0, .int l0] : List Value).toArray below meth c H locs 0 0 Q0 (F0 m 6 ls []) := by
    intro n
    induction n using Nat.strongRecOn with
    | ind n k1ih =>
      intro k1y4 k1y5 H locs ls hk1y5 k1m hP hD hS hl
      have gk1y4 := k_rng k1y4
      refine lv_iload hx hb dX0_harmOfStep_6 (lv_at hl 0 rfl) ?_
      refine lv_aload_n hx hb dX0_harmOfStep_8 rfl (lv_at hl 2 rfl) ?_
      refine va_get (D := D) (ci := 2) (v := .ref bfa) (C := RX0) (T := TX0) (N := 5) hx hb hts kin_RX0 hown hG.1 hP 0 rfl rfl 0 (by decide) (hts _ wm_400) (fun _ h9 => h9) rfl dX0_harmOfStep_9 ?_
      refine va_get (D := D) (ci := 3) (v := .int bf_size) (C := RX1) (T := TX1) (N := 5) hx hb hts kin_RX1 hown hG.1 hP 2 rfl rfl 4 (by decide) (hts _ wm_346) (fun _ h9 => h9) rfl dX0_harmOfStep_12 ?_
      refine lv_icmp_ge (tgt := 92) hx hb dX0_harmOfStep_15 (by decide) (fun c2 => ?_) (fun c2 => ?_)
      · simp only [k_lt, k_le, k_eq, ne_eq, ge_iff_le, gt_iff_lt] at c2
        refine lv_iload hx hb dX0_harmOfStep_92 (lv_at hl 1 rfl) ?_
        rw [hQ0]
        exact k_iret () hx hb hr hlk (trivial) (hP.sub [0, 1, 2, 3, 4] rfl) (hD.sub [0, 1, 2, 3, 4] (by decide) rfl) hS (by decide) (by decide) dX0_harmOfStep_94
      · simp only [k_lt, k_le, k_eq, ne_eq, ge_iff_le, gt_iff_lt] at c2
        refine lv_iload hx hb dX0_harmOfStep_18 (lv_at hl 0 rfl) ?_
        refine lv_iload_n hx hb dX0_harmOfStep_20 rfl (lv_at hl 3 rfl) ?_
        refine lv_icmp_ne (tgt := 28) hx hb dX0_harmOfStep_21 (by decide) (fun c3 => ?_) (fun c3 => ?_)
        · simp only [k_lt, k_le, k_eq, ne_eq, ge_iff_le, gt_iff_lt] at c3
          refine lv_iload_n hx hb dX0_harmOfStep_28 rfl (lv_at hl 4 rfl) ?_
          refine lv_iconst (v := 1) hx hb dX0_harmOfStep_29 (by decide) ?_
          refine lv_iadd hx hb dX0_harmOfStep_30 ?_
          refine lv_topi (fun x4 ex4 => ?_)
          have rx4 := n_add ex4 (a := w0.toInt) (b := 1) rfl n_L1 (by omega) (by omega)
          refine lv_iload_n hx hb dX0_harmOfStep_31 rfl (lv_at hl 5 rfl) ?_
          refine va_mmin hx hb (hml.trans hl.1.symm) hown (hts _ wm_1466) (hts _ wm_519) (hts _ wm_17) (hts _ wm_520) (Nat.le_of_ble_eq_true rfl) (Nat.le_of_ble_eq_true rfl) (Nat.le_of_ble_eq_true rfl) (Nat.le_of_ble_eq_true rfl) dX0_harmOfStep_32 ?_
          refine lv_topi (fun x5 ex5 => ?_)
          have rx5 := n_min ex5 (a := x4.toInt) (b := l0.toInt) rfl rfl
          refine lv_istore (lv' := [(6, .int x5), (5, .int k1y5), (4, .int k1y4), (0, .ref ba), (1, .int t0), (2, .int w0), (3, .int l0)]) hx hb dX0_harmOfStep_35 hl (by decide) rfl (fun ls hl => ?_)
          refine lv_aload_n hx hb dX0_harmOfStep_37 rfl (lv_at hl 3 rfl) ?_
          refine va_get (D := D) (ci := 2) (v := .ref bfa) (C := RX0) (T := TX0) (N := 5) hx hb hts kin_RX0 hown hG.1 hP 0 rfl rfl 0 (by decide) (hts _ wm_400) (fun _ h9 => h9) rfl dX0_harmOfStep_38 ?_
          refine va_get (D := D) (ci := 3) (v := .ref bfa_hold) (C := RX1) (T := TX1) (N := 5) hx hb hts kin_RX1 hown hG.1 hP 2 rfl rfl 1 (by decide) (hts _ wm_339) (fun _ h9 => h9) rfl dX0_harmOfStep_41 ?_
          refine lv_iload hx hb dX0_harmOfStep_44 (lv_at hl 1 rfl) ?_
          refine va_iald hx hb hG.1 hP 3 0 rfl rfl (n_in (by omega) (by omega)) dX0_harmOfStep_46 ?_
          refine lv_topi (fun x6 ex6 => ?_)
          have rx6 : 0 ≤ x6.toInt ∧ x6.toInt ≤ 8 := by rw [ex6]; exact h_bff_hold _ (n_lt (by omega) (by omega))
          refine lv_aload_n hx hb dX0_harmOfStep_47 rfl (lv_at hl 3 rfl) ?_
          refine va_get (D := D) (ci := 2) (v := .ref ba_without) (C := RX0) (T := TX0) (N := 5) hx hb hts kin_RX0 hown hG.1 hP 0 rfl rfl 2 (by decide) (hts _ wm_402) (fun _ h9 => h9) rfl dX0_harmOfStep_48 ?_
          refine lv_iload hx hb dX0_harmOfStep_51 (lv_at hl 1 rfl) ?_
          refine va_iald hx hb hG.1 hP 1 0 rfl rfl (n_in (by omega) (by omega)) dX0_harmOfStep_53 ?_
          refine lv_topi (fun x7 ex7 => ?_)
          have rx7 : 0 ≤ x7.toInt ∧ x7.toInt ≤ 9 := by rw [ex7]; exact h_bf_without _ (n_lt (by omega) (by omega))
          refine lv_isub hx hb dX0_harmOfStep_54 ?_
          refine lv_topi (fun x8 ex8 => ?_)
          have rx8 := n_sub ex8 (a := x6.toInt) (b := x7.toInt) rfl rfl (by omega) (by omega)
          refine lv_iconst (v := 0) hx hb dX0_harmOfStep_55 (by decide) ?_
          refine va_mmax hx hb (hml.trans hl.1.symm) hown (hts _ wm_1481) (hts _ wm_648) (hts _ wm_17) (hts _ wm_649) (Nat.le_of_ble_eq_true rfl) (Nat.le_of_ble_eq_true rfl) (Nat.le_of_ble_eq_true rfl) (Nat.le_of_ble_eq_true rfl) dX0_harmOfStep_56 ?_
          refine lv_topi (fun x9 ex9 => ?_)
          have rx9 := n_max ex9 (a := x8.toInt) (b := 0) rfl n_L0
          refine lv_istore (lv' := [(7, .int x9), (6, .int x5), (5, .int k1y5), (4, .int k1y4), (0, .ref ba), (1, .int t0), (2, .int w0), (3, .int l0)]) hx hb dX0_harmOfStep_59 hl (by decide) rfl (fun ls hl => ?_)
          refine lv_iload hx hb dX0_harmOfStep_61 (lv_at hl 3 rfl) ?_
          refine lv_aload_n hx hb dX0_harmOfStep_63 rfl (lv_at hl 4 rfl) ?_
          refine va_get (D := D) (ci := 2) (v := .ref bfa) (C := RX0) (T := TX0) (N := 5) hx hb hts kin_RX0 hown hG.1 hP 0 rfl rfl 0 (by decide) (hts _ wm_400) (fun _ h9 => h9) rfl dX0_harmOfStep_64 ?_
          refine va_get (D := D) (ci := 3) (v := .ref bfa_harm) (C := RX1) (T := TX1) (N := 5) hx hb hts kin_RX1 hown hG.1 hP 2 rfl rfl 2 (by decide) (hts _ wm_343) (fun _ h9 => h9) rfl dX0_harmOfStep_67 ?_
          refine lv_iload hx hb dX0_harmOfStep_70 (lv_at hl 2 rfl) ?_
          refine va_iald hx hb hG.1 hP 4 0 rfl rfl (n_in (by omega) (by omega)) dX0_harmOfStep_72 ?_
          refine lv_topi (fun x10 ex10 => ?_)
          refine lv_iload hx hb dX0_harmOfStep_73 (lv_at hl 1 rfl) ?_
          refine lv_iload hx hb dX0_harmOfStep_75 (lv_at hl 0 rfl) ?_
          refine lv_isub hx hb dX0_harmOfStep_77 ?_
          refine lv_topi (fun x11 ex11 => ?_)
          have gx11 := k_rng x5
          refine lv_iconst (v := 0) hx hb dX0_harmOfStep_78 (by decide) ?_
          refine va_mmax hx hb (hml.trans hl.1.symm) hown (hts _ wm_1481) (hts _ wm_648) (hts _ wm_17) (hts _ wm_649) (Nat.le_of_ble_eq_true rfl) (Nat.le_of_ble_eq_true rfl) (Nat.le_of_ble_eq_true rfl) (Nat.le_of_ble_eq_true rfl) dX0_harmOfStep_79 ?_
          refine lv_topi (fun x12 ex12 => ?_)
          have rx12 := n_max ex12 (a := x11.toInt) (b := 0) rfl n_L0
          refine lv_imul hx hb dX0_harmOfStep_82 ?_
          refine lv_topi (fun x13 ex13 => ?_)
          have gx13 := k_rng x10
          have gx13 := k_rng x12
          refine lv_iadd hx hb dX0_harmOfStep_83 ?_
          refine lv_topi (fun x14 ex14 => ?_)
          have gx14 := k_rng k1y4
          have gx14 := k_rng x13
          refine lv_istore (lv' := [(4, .int x14), (7, .int x9), (6, .int x5), (5, .int k1y5), (0, .ref ba), (1, .int t0), (2, .int w0), (3, .int l0)]) hx hb dX0_harmOfStep_84 hl (by decide) rfl (fun ls hl => ?_)
          obtain ⟨x15, ex15⟩ : ∃ z : Int32, z = k1y5 + 1 := ⟨_, rfl⟩
          refine lv_iinc (v := x15) (lv' := [(5, .int x15), (4, .int x14), (7, .int x9), (6, .int x5), (0, .ref ba), (1, .int t0), (2, .int w0), (3, .int l0)]) hx hb dX0_harmOfStep_86 hl (k := 3) rfl (by rw [ex15]; rfl) (by decide) rfl (fun ls hl => ?_)
          have rx15 := n_add ex15 (a := k1y5.toInt) (b := 1) rfl n_L1 (by omega) (by omega)
          refine lv_goto (tgt := 6) hx hb dX0_harmOfStep_89 (by decide) ?_
          exact k1ih ((4 - x15.toInt).toNat) (by omega) x14 x15 H locs ls ⟨by omega, by omega⟩ rfl hP hD hS (lv_sub hl [0, 1, 4, 5, 6, 7] rfl)
        · simp only [k_lt, k_le, k_eq, ne_eq, ge_iff_le, gt_iff_lt] at c3
          refine lv_iload_n hx hb dX0_harmOfStep_24 rfl (lv_at hl 4 rfl) ?_
          refine lv_goto (tgt := 31) hx hb dX0_harmOfStep_25 (by decide) ?_
          refine lv_iload_n hx hb dX0_harmOfStep_31 rfl (lv_at hl 5 rfl) ?_
          refine va_mmin hx hb (hml.trans hl.1.symm) hown (hts _ wm_1466) (hts _ wm_519) (hts _ wm_17) (hts _ wm_520) (Nat.le_of_ble_eq_true rfl) (Nat.le_of_ble_eq_true rfl) (Nat.le_of_ble_eq_true rfl) (Nat.le_of_ble_eq_true rfl) dX0_harmOfStep_32 ?_
          refine lv_topi (fun x16 ex16 => ?_)
          have rx16 := n_min ex16 (a := w0.toInt) (b := l0.toInt) rfl rfl
          refine lv_istore (lv' := [(6, .int x16), (5, .int k1y5), (4, .int k1y4), (0, .ref ba), (1, .int t0), (2, .int w0), (3, .int l0)]) hx hb dX0_harmOfStep_35 hl (by decide) rfl (fun ls hl => ?_)
          refine lv_aload_n hx hb dX0_harmOfStep_37 rfl (lv_at hl 3 rfl) ?_
          refine va_get (D := D) (ci := 2) (v := .ref bfa) (C := RX0) (T := TX0) (N := 5) hx hb hts kin_RX0 hown hG.1 hP 0 rfl rfl 0 (by decide) (hts _ wm_400) (fun _ h9 => h9) rfl dX0_harmOfStep_38 ?_
          refine va_get (D := D) (ci := 3) (v := .ref bfa_hold) (C := RX1) (T := TX1) (N := 5) hx hb hts kin_RX1 hown hG.1 hP 2 rfl rfl 1 (by decide) (hts _ wm_339) (fun _ h9 => h9) rfl dX0_harmOfStep_41 ?_
          refine lv_iload hx hb dX0_harmOfStep_44 (lv_at hl 1 rfl) ?_
          refine va_iald hx hb hG.1 hP 3 0 rfl rfl (n_in (by omega) (by omega)) dX0_harmOfStep_46 ?_
          refine lv_topi (fun x17 ex17 => ?_)
          have rx17 : 0 ≤ x17.toInt ∧ x17.toInt ≤ 8 := by rw [ex17]; exact h_bff_hold _ (n_lt (by omega) (by omega))
          refine lv_aload_n hx hb dX0_harmOfStep_47 rfl (lv_at hl 3 rfl) ?_
          refine va_get (D := D) (ci := 2) (v := .ref ba_without) (C := RX0) (T := TX0) (N := 5) hx hb hts kin_RX0 hown hG.1 hP 0 rfl rfl 2 (by decide) (hts _ wm_402) (fun _ h9 => h9) rfl dX0_harmOfStep_48 ?_
          refine lv_iload hx hb dX0_harmOfStep_51 (lv_at hl 1 rfl) ?_
          refine va_iald hx hb hG.1 hP 1 0 rfl rfl (n_in (by omega) (by omega)) dX0_harmOfStep_53 ?_
          refine lv_topi (fun x18 ex18 => ?_)
          have rx18 : 0 ≤ x18.toInt ∧ x18.toInt ≤ 9 := by rw [ex18]; exact h_bf_without _ (n_lt (by omega) (by omega))
          refine lv_isub hx hb dX0_harmOfStep_54 ?_
          refine lv_topi (fun x19 ex19 => ?_)
          have rx19 := n_sub ex19 (a := x17.toInt) (b := x18.toInt) rfl rfl (by omega) (by omega)
          refine lv_iconst (v := 0) hx hb dX0_harmOfStep_55 (by decide) ?_
          refine va_mmax hx hb (hml.trans hl.1.symm) hown (hts _ wm_1481) (hts _ wm_648) (hts _ wm_17) (hts _ wm_649) (Nat.le_of_ble_eq_true rfl) (Nat.le_of_ble_eq_true rfl) (Nat.le_of_ble_eq_true rfl) (Nat.le_of_ble_eq_true rfl) dX0_harmOfStep_56 ?_
          refine lv_topi (fun x20 ex20 => ?_)
          have rx20 := n_max ex20 (a := x19.toInt) (b := 0) rfl n_L0
          refine lv_istore (lv' := [(7, .int x20), (6, .int x16), (5, .int k1y5), (4, .int k1y4), (0, .ref ba), (1, .int t0), (2, .int w0), (3, .int l0)]) hx hb dX0_harmOfStep_59 hl (by decide) rfl (fun ls hl => ?_)
          refine lv_iload hx hb dX0_harmOfStep_61 (lv_at hl 3 rfl) ?_
          refine lv_aload_n hx hb dX0_harmOfStep_63 rfl (lv_at hl 4 rfl) ?_
          refine va_get (D := D) (ci := 2) (v := .ref bfa) (C := RX0) (T := TX0) (N := 5) hx hb hts kin_RX0 hown hG.1 hP 0 rfl rfl 0 (by decide) (hts _ wm_400) (fun _ h9 => h9) rfl dX0_harmOfStep_64 ?_
          refine va_get (D := D) (ci := 3) (v := .ref bfa_harm) (C := RX1) (T := TX1) (N := 5) hx hb hts kin_RX1 hown hG.1 hP 2 rfl rfl 2 (by decide) (hts _ wm_343) (fun _ h9 => h9) rfl dX0_harmOfStep_67 ?_
          refine lv_iload hx hb dX0_harmOfStep_70 (lv_at hl 2 rfl) ?_
          refine va_iald hx hb hG.1 hP 4 0 rfl rfl (n_in (by omega) (by omega)) dX0_harmOfStep_72 ?_
          refine lv_topi (fun x21 ex21 => ?_)
          refine lv_iload hx hb dX0_harmOfStep_73 (lv_at hl 1 rfl) ?_
          refine lv_iload hx hb dX0_harmOfStep_75 (lv_at hl 0 rfl) ?_
          refine lv_isub hx hb dX0_harmOfStep_77 ?_
          refine lv_topi (fun x22 ex22 => ?_)
          have gx22 := k_rng x16
          refine lv_iconst (v := 0) hx hb dX0_harmOfStep_78 (by decide) ?_
          refine va_mmax hx hb (hml.trans hl.1.symm) hown (hts _ wm_1481) (hts _ wm_648) (hts _ wm_17) (hts _ wm_649) (Nat.le_of_ble_eq_true rfl) (Nat.le_of_ble_eq_true rfl) (Nat.le_of_ble_eq_true rfl) (Nat.le_of_ble_eq_true rfl) dX0_harmOfStep_79 ?_
          refine lv_topi (fun x23 ex23 => ?_)
          have rx23 := n_max ex23 (a := x22.toInt) (b := 0) rfl n_L0
          refine lv_imul hx hb dX0_harmOfStep_82 ?_
          refine lv_topi (fun x24 ex24 => ?_)
          have gx24 := k_rng x21
          have gx24 := k_rng x23
          refine lv_iadd hx hb dX0_harmOfStep_83 ?_
          refine lv_topi (fun x25 ex25 => ?_)
          have gx25 := k_rng k1y4
          have gx25 := k_rng x24
          refine lv_istore (lv' := [(4, .int x25), (7, .int x20), (6, .int x16), (5, .int k1y5), (0, .ref ba), (1, .int t0), (2, .int w0), (3, .int l0)]) hx hb dX0_harmOfStep_84 hl (by decide) rfl (fun ls hl => ?_)
          obtain ⟨x26, ex26⟩ : ∃ z : Int32, z = k1y5 + 1 := ⟨_, rfl⟩
          refine lv_iinc (v := x26) (lv' := [(5, .int x26), (4, .int x25), (7, .int x20), (6, .int x16), (0, .ref ba), (1, .int t0), (2, .int w0), (3, .int l0)]) hx hb dX0_harmOfStep_86 hl (k := 3) rfl (by rw [ex26]; rfl) (by decide) rfl (fun ls hl => ?_)
          have rx26 := n_add ex26 (a := k1y5.toInt) (b := 1) rfl n_L1 (by omega) (by omega)
          refine lv_goto (tgt := 6) hx hb dX0_harmOfStep_89 (by decide) ?_
          exact k1ih ((4 - x26.toInt).toNat) (by omega) x25 x26 H locs ls ⟨by omega, by omega⟩ rfl hP hD hS (lv_sub hl [0, 1, 4, 5, 6, 7] rfl)
  exact k1 _ 0 0 H locs ls ⟨by rw [n_L0]; omega, by rw [n_L0]; omega⟩ rfl hP hD hS (lv_sub hl [0, 1, 2, 3, 4, 5] rfl)

set_option maxHeartbeats 4000000 in
set_option maxRecDepth 100000 in
/-- Backlog.stateBehind -/
theorem c_bstateBehind (l : Launch) (hl0 : l.stackTraces = false) (D : va_G) (cy : Nat → ClassId) (sa : Nat → Nat) (ba ba_least ba_without bfa bfa_who bfa_hold bfa_harm bfa_cost : Nat) (b_minutes b_found bf_size t0 w0 : Int32) (bf_without bff_hold : Nat → Int32) (h_b_minutes : 0 ≤ b_minutes.toInt ∧ b_minutes.toInt ≤ 40) (h_bf_without : rowR 4 0 (9) bf_without) (h_bf_size : 0 ≤ bf_size.toInt ∧ bf_size.toInt ≤ 4) (h_bff_hold : rowR 4 0 (8) bff_hold) (h_t0 : 0 ≤ t0.toInt ∧ t0.toInt ≤ 3) (h_w0 : 0 ≤ w0.toInt ∧ w0.toInt ≤ 39) (sz : Nat) : Met l yX0_stateBehind (Cond.code yX0_stateBehind cX0_stateBehind 5 (some .int) :: kWS) ({ frames := 10, cells := 0, slots := 0, locals := 300 }) (kPre D cy sa [.ref ba, .int t0, .int w0] [(ba, .inr (2, [.ref bfa, .ref ba_least, .ref ba_without, .int b_minutes, .int b_found])), (ba_without, .inl (cy 0, 4, .inl bf_without)), (bfa, .inr (3, [.ref bfa_who, .ref bfa_hold, .ref bfa_harm, .ref bfa_cost, .int bf_size])), (bfa_hold, .inl (cy 0, 4, .inl bff_hold))] sz) (va_Qi (fun (r : Int32) (u : Unit) => (0 ≤ r.toInt ∧ r.toInt ≤ 10299)) (kB D (va_A [(ba, .inr (2, [.ref bfa, .ref ba_least, .ref ba_without, .int b_minutes, .int b_found])), (ba_without, .inl (cy 0, 4, .inl bf_without)), (bfa, .inr (3, [.ref bfa_who, .ref bfa_hold, .ref bfa_harm, .ref bfa_cost, .int bf_size])), (bfa_hold, .inl (cy 0, 4, .inl bff_hold))] sz) (fun (u : Unit) => [(ba, .inr (2, [.ref bfa, .ref ba_least, .ref ba_without, .int b_minutes, .int b_found])), (ba_without, .inl (cy 0, 4, .inl bf_without)), (bfa, .inr (3, [.ref bfa_who, .ref bfa_hold, .ref bfa_harm, .ref bfa_cost, .int bf_size])), (bfa_hold, .inl (cy 0, 4, .inl bff_hold))])) (va_A [(ba, .inr (2, [.ref bfa, .ref ba_least, .ref ba_without, .int b_minutes, .int b_found])), (ba_without, .inl (cy 0, 4, .inl bf_without)), (bfa, .inr (3, [.ref bfa_who, .ref bfa_hold, .ref bfa_harm, .ref bfa_cost, .int bf_size])), (bfa_hold, .inl (cy 0, 4, .inl bff_hold))] sz)) 0 0 (va_A [(ba, .inr (2, [.ref bfa, .ref ba_least, .ref ba_without, .int b_minutes, .int b_found])), (ba_without, .inl (cy 0, 4, .inl bf_without)), (bfa, .inr (3, [.ref bfa_who, .ref bfa_hold, .ref bfa_harm, .ref bfa_cost, .int bf_size])), (bfa_hold, .inl (cy 0, 4, .inl bff_hold))] sz) := by
  refine k_ofW (y := yX0_stateBehind) (cc := cX0_stateBehind) (maxL := 5) (ret := (some .int)) (av := [.ref ba, .int t0, .int w0]) (ws := [(ba, .inr (2, [.ref bfa, .ref ba_least, .ref ba_without, .int b_minutes, .int b_found])), (ba_without, .inl (cy 0, 4, .inl bf_without)), (bfa, .inr (3, [.ref bfa_who, .ref bfa_hold, .ref bfa_harm, .ref bfa_cost, .int bf_size])), (bfa_hold, .inl (cy 0, 4, .inl bff_hold))]) (Qc := fun A => (va_Qi (fun (r : Int32) (u : Unit) => (0 ≤ r.toInt ∧ r.toInt ≤ 10299)) (kB D A (fun (u : Unit) => [(ba, .inr (2, [.ref bfa, .ref ba_least, .ref ba_without, .int b_minutes, .int b_found])), (ba_without, .inl (cy 0, 4, .inl bf_without)), (bfa, .inr (3, [.ref bfa_who, .ref bfa_hold, .ref bfa_harm, .ref bfa_cost, .int bf_size])), (bfa_hold, .inl (cy 0, 4, .inl bff_hold))])) A)) (by decide) (Nat.le_of_ble_eq_true rfl) ?_
  intro p e s m below meth c ls A E hA hP hD hG hS hl
  obtain ⟨Q0, hQ0⟩ : ∃ Q0 : State → Prop, Q0 = MQ below (va_Qi (fun (r : Int32) (u : Unit) => (0 ≤ r.toInt ∧ r.toInt ≤ 10299)) (kB D A (fun (u : Unit) => [(ba, .inr (2, [.ref bfa, .ref ba_least, .ref ba_without, .int b_minutes, .int b_found])), (ba_without, .inl (cy 0, 4, .inl bf_without)), (bfa, .inr (3, [.ref bfa_who, .ref bfa_hold, .ref bfa_harm, .ref bfa_cost, .int bf_size])), (bfa_hold, .inl (cy 0, 4, .inl bff_hold))])) A) ([.ref ba, .int t0, .int w0] : List Value).toArray s 0 0 A := ⟨_, rfl⟩
  rw [← hQ0]
  obtain ⟨hx, hb, hml, hown, hts, hr, hlk, hnm⟩ := id E
  have hown : s.vm.findClass RX0 = some m.cls := hown
  have hl : lv_has ls 5 [(0, .ref ba), (1, .int t0), (2, .int w0)] := hl
  obtain ⟨H, hH⟩ : ∃ H, H = s.heap := ⟨_, rfl⟩
  have hP : va_P D vwCl [(ba, .inr (2, [.ref bfa, .ref ba_least, .ref ba_without, .int b_minutes, .int b_found])), (ba_without, .inl (cy 0, 4, .inl bf_without)), (bfa, .inr (3, [.ref bfa_who, .ref bfa_hold, .ref bfa_harm, .ref bfa_cost, .int bf_size])), (bfa_hold, .inl (cy 0, 4, .inl bff_hold))] H := by rw [hH]; exact hP
  have hS : va_S A s.heap H [] := by rw [hH]; exact va_S.rf
  rw [← hH]
  clear hH
  obtain ⟨locs, hlocs⟩ : ∃ locs : List Loc, locs = [] := ⟨_, rfl⟩
  rw [← hlocs] at hS ⊢
  refine lv_iconst (v := 0) hx hb dX0_stateBehind_0 (by decide) ?_
  refine lv_istore_n (lv' := [(3, .int 0), (0, .ref ba), (1, .int t0), (2, .int w0)]) hx hb dX0_stateBehind_1 rfl hl (by decide) rfl (fun ls hl => ?_)
  refine lv_iconst (v := 0) hx hb dX0_stateBehind_2 (by decide) ?_
  refine lv_istore (lv' := [(4, .int 0), (3, .int 0), (0, .ref ba), (1, .int t0), (2, .int w0)]) hx hb dX0_stateBehind_3 hl (by decide) rfl (fun ls hl => ?_)
  have k1 : ∀ (n : Nat) (k1y3 : Int32) (k1y4 : Int32) (H : Heap) (locs : List Loc) (ls : Array Slot), 0 ≤ k1y3.toInt ∧ k1y3.toInt ≤ 9999 → 0 ≤ k1y4.toInt ∧ k1y4.toInt ≤ 4 → (k1y4.toInt = 0 ∧ k1y3.toInt ≤ 0) ∨ (k1y4.toInt = 1 ∧ k1y3.toInt ≤ 9) ∨ (k1y4.toInt = 2 ∧ k1y3.toInt ≤ 99) ∨ (k1y4.toInt = 3 ∧ k1y3.toInt ≤ 999) ∨ (k1y4.toInt = 4 ∧ k1y3.toInt ≤ 9999) → (4 - k1y4.toInt).toNat = n → va_P D vwCl [(ba, .inr (2, [.ref bfa, .ref ba_least, .ref ba_without, .int b_minutes, .int b_found])), (ba_without, .inl (cy 0, 4, .inl bf_without)), (bfa, .inr (3, [.ref bfa_who, .ref bfa_hold, .ref bfa_harm, .ref bfa_cost, .int bf_size])), (bfa_hold, .inl (cy 0, 4, .inl bff_hold))] H → va_D A [(ba, .inr (2, [.ref bfa, .ref ba_least, .ref ba_without, .int b_minutes, .int b_found])), (ba_without, .inl (cy 0, 4, .inl bf_without)), (bfa, .inr (3, [.ref bfa_who, .ref bfa_hold, .ref bfa_harm, .ref bfa_cost, .int bf_size])), (bfa_hold, .inl (cy 0, 4, .inl bff_hold))] → va_S A s.heap H locs → lv_has ls 5 [(4, .int k1y4), (3, .int k1y3), (0, .ref ba), (1, .int t0), (2, .int w0)] → W p l e ({ frames := 10, cells := 0, slots := 0, locals := 300 }) s m ([.ref ba, .int t0, .int w0] : List Value).toArray below meth c H locs 0 0 Q0 (F0 m 5 ls []) := by
    intro n
    induction n using Nat.strongRecOn with
    | ind n k1ih =>
      intro k1y3 k1y4 H locs ls hk1y3 hk1y4 hk1i0 k1m hP hD hS hl
      refine lv_iload hx hb dX0_stateBehind_5 (lv_at hl 0 rfl) ?_
      refine lv_aload_n hx hb dX0_stateBehind_7 rfl (lv_at hl 2 rfl) ?_
      refine va_get (D := D) (ci := 2) (v := .ref bfa) (C := RX0) (T := TX0) (N := 5) hx hb hts kin_RX0 hown hG.1 hP 0 rfl rfl 0 (by decide) (hts _ wm_400) (fun _ h9 => h9) rfl dX0_stateBehind_8 ?_
      refine va_get (D := D) (ci := 3) (v := .int bf_size) (C := RX1) (T := TX1) (N := 5) hx hb hts kin_RX1 hown hG.1 hP 2 rfl rfl 4 (by decide) (hts _ wm_346) (fun _ h9 => h9) rfl dX0_stateBehind_11 ?_
      refine lv_icmp_ge (tgt := 61) hx hb dX0_stateBehind_14 (by decide) (fun c2 => ?_) (fun c2 => ?_)
      · simp only [k_lt, k_le, k_eq, ne_eq, ge_iff_le, gt_iff_lt] at c2
        refine lv_iload_n hx hb dX0_stateBehind_61 rfl (lv_at hl 3 rfl) ?_
        refine lv_bipush (v := 100) hx hb dX0_stateBehind_62 (by decide) ?_
        refine lv_imul hx hb dX0_stateBehind_64 ?_
        refine lv_topi (fun x3 ex3 => ?_)
        have rx3 := n_mul ex3 (a := t0.toInt) (b := 100) rfl n_L100 (by omega) (by omega)
        refine lv_iload_n hx hb dX0_stateBehind_65 rfl (lv_at hl 1 rfl) ?_
        refine lv_iadd hx hb dX0_stateBehind_66 ?_
        refine lv_topi (fun x4 ex4 => ?_)
        have rx4 := n_add ex4 (a := x3.toInt) (b := k1y3.toInt) rfl rfl (by omega) (by omega)
        rw [hQ0]
        exact k_iret () hx hb hr hlk ((show 0 ≤ x4.toInt ∧ x4.toInt ≤ 10299 by omega)) (hP.sub [0, 1, 2, 3] rfl) (hD.sub [0, 1, 2, 3] (by decide) rfl) hS (by decide) (by decide) dX0_stateBehind_67
      · simp only [k_lt, k_le, k_eq, ne_eq, ge_iff_le, gt_iff_lt] at c2
        refine lv_iload hx hb dX0_stateBehind_17 (lv_at hl 0 rfl) ?_
        refine lv_iload_n hx hb dX0_stateBehind_19 rfl (lv_at hl 3 rfl) ?_
        refine lv_icmp_eq (tgt := 55) hx hb dX0_stateBehind_20 (by decide) (fun c5 => ?_) (fun c5 => ?_)
        · simp only [k_lt, k_le, k_eq, ne_eq, ge_iff_le, gt_iff_lt] at c5
          obtain ⟨x6, ex6⟩ : ∃ z : Int32, z = k1y4 + 1 := ⟨_, rfl⟩
          refine lv_iinc (v := x6) (lv' := [(4, .int x6), (3, .int k1y3), (0, .ref ba), (1, .int t0), (2, .int w0)]) hx hb dX0_stateBehind_55 hl (k := 0) rfl (by rw [ex6]; rfl) (by decide) rfl (fun ls hl => ?_)
          have rx6 := n_add ex6 (a := k1y4.toInt) (b := 1) rfl n_L1 (by omega) (by omega)
          refine lv_goto (tgt := 5) hx hb dX0_stateBehind_58 (by decide) ?_
          exact k1ih ((4 - x6.toInt).toNat) (by omega) k1y3 x6 H locs ls ⟨by omega, by omega⟩ ⟨by omega, by omega⟩ (show (x6.toInt = 0 ∧ k1y3.toInt ≤ 0) ∨ (x6.toInt = 1 ∧ k1y3.toInt ≤ 9) ∨ (x6.toInt = 2 ∧ k1y3.toInt ≤ 99) ∨ (x6.toInt = 3 ∧ k1y3.toInt ≤ 999) ∨ (x6.toInt = 4 ∧ k1y3.toInt ≤ 9999) by omega) rfl hP hD hS (lv_sub hl [0, 1, 2, 3, 4] rfl)
        · simp only [k_lt, k_le, k_eq, ne_eq, ge_iff_le, gt_iff_lt] at c5
          refine lv_iload_n hx hb dX0_stateBehind_23 rfl (lv_at hl 1 rfl) ?_
          refine lv_bipush (v := 10) hx hb dX0_stateBehind_24 (by decide) ?_
          refine lv_imul hx hb dX0_stateBehind_26 ?_
          refine lv_topi (fun x7 ex7 => ?_)
          have rx7 := n_mul ex7 (a := k1y3.toInt) (b := 10) rfl n_L10 (by omega) (by omega)
          refine lv_aload_n hx hb dX0_stateBehind_27 rfl (lv_at hl 2 rfl) ?_
          refine va_get (D := D) (ci := 2) (v := .ref ba_without) (C := RX0) (T := TX0) (N := 5) hx hb hts kin_RX0 hown hG.1 hP 0 rfl rfl 2 (by decide) (hts _ wm_402) (fun _ h9 => h9) rfl dX0_stateBehind_28 ?_
          refine lv_iload hx hb dX0_stateBehind_31 (lv_at hl 0 rfl) ?_
          refine va_iald hx hb hG.1 hP 1 0 rfl rfl (n_in (by omega) (by omega)) dX0_stateBehind_33 ?_
          refine lv_topi (fun x8 ex8 => ?_)
          have rx8 : 0 ≤ x8.toInt ∧ x8.toInt ≤ 9 := by rw [ex8]; exact h_bf_without _ (n_lt (by omega) (by omega))
          refine lv_iload_n hx hb dX0_stateBehind_34 rfl (lv_at hl 4 rfl) ?_
          refine lv_iadd hx hb dX0_stateBehind_35 ?_
          refine lv_topi (fun x9 ex9 => ?_)
          have rx9 := n_add ex9 (a := x8.toInt) (b := w0.toInt) rfl rfl (by omega) (by omega)
          refine lv_iconst (v := 1) hx hb dX0_stateBehind_36 (by decide) ?_
          refine lv_iadd hx hb dX0_stateBehind_37 ?_
          refine lv_topi (fun x10 ex10 => ?_)
          have rx10 := n_add ex10 (a := x9.toInt) (b := 1) rfl n_L1 (by omega) (by omega)
          refine lv_aload_n hx hb dX0_stateBehind_38 rfl (lv_at hl 2 rfl) ?_
          refine va_get (D := D) (ci := 2) (v := .ref bfa) (C := RX0) (T := TX0) (N := 5) hx hb hts kin_RX0 hown hG.1 hP 0 rfl rfl 0 (by decide) (hts _ wm_400) (fun _ h9 => h9) rfl dX0_stateBehind_39 ?_
          refine va_get (D := D) (ci := 3) (v := .ref bfa_hold) (C := RX1) (T := TX1) (N := 5) hx hb hts kin_RX1 hown hG.1 hP 2 rfl rfl 1 (by decide) (hts _ wm_339) (fun _ h9 => h9) rfl dX0_stateBehind_42 ?_
          refine lv_iload hx hb dX0_stateBehind_45 (lv_at hl 0 rfl) ?_
          refine va_iald hx hb hG.1 hP 3 0 rfl rfl (n_in (by omega) (by omega)) dX0_stateBehind_47 ?_
          refine lv_topi (fun x11 ex11 => ?_)
          have rx11 : 0 ≤ x11.toInt ∧ x11.toInt ≤ 8 := by rw [ex11]; exact h_bff_hold _ (n_lt (by omega) (by omega))
          refine lv_iconst (v := 1) hx hb dX0_stateBehind_48 (by decide) ?_
          refine lv_iadd hx hb dX0_stateBehind_49 ?_
          refine lv_topi (fun x12 ex12 => ?_)
          have rx12 := n_add ex12 (a := x11.toInt) (b := 1) rfl n_L1 (by omega) (by omega)
          refine va_mmin hx hb (hml.trans hl.1.symm) hown (hts _ wm_1466) (hts _ wm_519) (hts _ wm_17) (hts _ wm_520) (Nat.le_of_ble_eq_true rfl) (Nat.le_of_ble_eq_true rfl) (Nat.le_of_ble_eq_true rfl) (Nat.le_of_ble_eq_true rfl) dX0_stateBehind_50 ?_
          refine lv_topi (fun x13 ex13 => ?_)
          have rx13 := n_min ex13 (a := x10.toInt) (b := x12.toInt) rfl rfl
          refine lv_iadd hx hb dX0_stateBehind_53 ?_
          refine lv_topi (fun x14 ex14 => ?_)
          have rx14 := n_add ex14 (a := x7.toInt) (b := x13.toInt) rfl rfl (by omega) (by omega)
          refine lv_istore_n (lv' := [(3, .int x14), (4, .int k1y4), (0, .ref ba), (1, .int t0), (2, .int w0)]) hx hb dX0_stateBehind_54 rfl hl (by decide) rfl (fun ls hl => ?_)
          obtain ⟨x15, ex15⟩ : ∃ z : Int32, z = k1y4 + 1 := ⟨_, rfl⟩
          refine lv_iinc (v := x15) (lv' := [(4, .int x15), (3, .int x14), (0, .ref ba), (1, .int t0), (2, .int w0)]) hx hb dX0_stateBehind_55 hl (k := 1) rfl (by rw [ex15]; rfl) (by decide) rfl (fun ls hl => ?_)
          have rx15 := n_add ex15 (a := k1y4.toInt) (b := 1) rfl n_L1 (by omega) (by omega)
          refine lv_goto (tgt := 5) hx hb dX0_stateBehind_58 (by decide) ?_
          exact k1ih ((4 - x15.toInt).toNat) (by omega) x14 x15 H locs ls ⟨by omega, by omega⟩ ⟨by omega, by omega⟩ (show (x15.toInt = 0 ∧ x14.toInt ≤ 0) ∨ (x15.toInt = 1 ∧ x14.toInt ≤ 9) ∨ (x15.toInt = 2 ∧ x14.toInt ≤ 99) ∨ (x15.toInt = 3 ∧ x14.toInt ≤ 999) ∨ (x15.toInt = 4 ∧ x14.toInt ≤ 9999) by omega) rfl hP hD hS (lv_sub hl [0, 1, 2, 3, 4] rfl)
  exact k1 _ 0 0 H locs ls ⟨by rw [n_L0]; omega, by rw [n_L0]; omega⟩ ⟨by rw [n_L0]; omega, by rw [n_L0]; omega⟩ (show ((0 : Int32).toInt = 0 ∧ (0 : Int32).toInt ≤ 0) ∨ ((0 : Int32).toInt = 1 ∧ (0 : Int32).toInt ≤ 9) ∨ ((0 : Int32).toInt = 2 ∧ (0 : Int32).toInt ≤ 99) ∨ ((0 : Int32).toInt = 3 ∧ (0 : Int32).toInt ≤ 999) ∨ ((0 : Int32).toInt = 4 ∧ (0 : Int32).toInt ≤ 9999) by first | omega | (simp only [n_L0]; omega) | simp only [n_L0]) rfl hP hD hS (lv_sub hl [0, 1, 2, 3, 4] rfl)

set_option maxHeartbeats 4000000 in
set_option maxRecDepth 100000 in
/-- Backlog.goOn -/
theorem c_goOn (l : Launch) (hl0 : l.stackTraces = false) (D : va_G) (cy : Nat → ClassId) (sa : Nat → Nat) (ba ba_least ba_without bfa bfa_who bfa_hold bfa_harm bfa_cost : Nat) (b_minutes b_found bf_size n0 m0 v0 : Int32) (bf_least bf_without bff_hold bff_harm bff_cost : Nat → Int32) (h_b_minutes : 0 ≤ b_minutes.toInt ∧ b_minutes.toInt ≤ 40) (h_bf_without : rowR 4 0 (9) bf_without) (h_bf_size : 0 ≤ bf_size.toInt ∧ bf_size.toInt ≤ 4) (h_bff_hold : rowR 4 0 (8) bff_hold) (h_bff_cost : rowR 16 0 (39) bff_cost) (h_n0 : 0 ≤ n0.toInt ∧ n0.toInt ≤ 39) (sz : Nat) : Met l yX0_goOn (Cond.code yX0_goOn cX0_goOn 9 none :: kWS) ({ frames := 12, cells := 0, slots := 0, locals := 420 }) (kPre D cy sa [.ref ba, .int n0, .int m0, .int v0] [(ba, .inr (2, [.ref bfa, .ref ba_least, .ref ba_without, .int b_minutes, .int b_found])), (ba_least, .inl (cy 0, 12000, .inl bf_least)), (ba_without, .inl (cy 0, 4, .inl bf_without)), (bfa, .inr (3, [.ref bfa_who, .ref bfa_hold, .ref bfa_harm, .ref bfa_cost, .int bf_size])), (bfa_hold, .inl (cy 0, 4, .inl bff_hold)), (bfa_harm, .inl (cy 0, 4, .inl bff_harm)), (bfa_cost, .inl (cy 0, 16, .inl bff_cost))] sz) (va_Qv (fun (u : (Nat → Int32) × (Nat → Nat → Int32)) => True) (kB D (va_A [(ba, .inr (2, [.ref bfa, .ref ba_least, .ref ba_without, .int b_minutes, .int b_found])), (ba_least, .inl (cy 0, 12000, .inl bf_least)), (ba_without, .inl (cy 0, 4, .inl bf_without)), (bfa, .inr (3, [.ref bfa_who, .ref bfa_hold, .ref bfa_harm, .ref bfa_cost, .int bf_size])), (bfa_hold, .inl (cy 0, 4, .inl bff_hold)), (bfa_harm, .inl (cy 0, 4, .inl bff_harm)), (bfa_cost, .inl (cy 0, 16, .inl bff_cost))] sz) (fun (u : (Nat → Int32) × (Nat → Nat → Int32)) => [(ba, .inr (2, [.ref bfa, .ref ba_least, .ref ba_without, .int b_minutes, .int ((u.1 0))])), (ba_least, .inl (cy 0, 12000, .inl ((u.2 0)))), (ba_without, .inl (cy 0, 4, .inl bf_without)), (bfa, .inr (3, [.ref bfa_who, .ref bfa_hold, .ref bfa_harm, .ref bfa_cost, .int bf_size])), (bfa_hold, .inl (cy 0, 4, .inl bff_hold)), (bfa_harm, .inl (cy 0, 4, .inl bff_harm)), (bfa_cost, .inl (cy 0, 16, .inl bff_cost))])) (va_A [(ba, .inr (2, [.ref bfa, .ref ba_least, .ref ba_without, .int b_minutes, .int b_found])), (ba_least, .inl (cy 0, 12000, .inl bf_least)), (ba_without, .inl (cy 0, 4, .inl bf_without)), (bfa, .inr (3, [.ref bfa_who, .ref bfa_hold, .ref bfa_harm, .ref bfa_cost, .int bf_size])), (bfa_hold, .inl (cy 0, 4, .inl bff_hold)), (bfa_harm, .inl (cy 0, 4, .inl bff_harm)), (bfa_cost, .inl (cy 0, 16, .inl bff_cost))] sz)) 0 0 (va_A [(ba, .inr (2, [.ref bfa, .ref ba_least, .ref ba_without, .int b_minutes, .int b_found])), (ba_least, .inl (cy 0, 12000, .inl bf_least)), (ba_without, .inl (cy 0, 4, .inl bf_without)), (bfa, .inr (3, [.ref bfa_who, .ref bfa_hold, .ref bfa_harm, .ref bfa_cost, .int bf_size])), (bfa_hold, .inl (cy 0, 4, .inl bff_hold)), (bfa_harm, .inl (cy 0, 4, .inl bff_harm)), (bfa_cost, .inl (cy 0, 16, .inl bff_cost))] sz) := by
  refine k_ofW (y := yX0_goOn) (cc := cX0_goOn) (maxL := 9) (ret := none) (av := [.ref ba, .int n0, .int m0, .int v0]) (ws := [(ba, .inr (2, [.ref bfa, .ref ba_least, .ref ba_without, .int b_minutes, .int b_found])), (ba_least, .inl (cy 0, 12000, .inl bf_least)), (ba_without, .inl (cy 0, 4, .inl bf_without)), (bfa, .inr (3, [.ref bfa_who, .ref bfa_hold, .ref bfa_harm, .ref bfa_cost, .int bf_size])), (bfa_hold, .inl (cy 0, 4, .inl bff_hold)), (bfa_harm, .inl (cy 0, 4, .inl bff_harm)), (bfa_cost, .inl (cy 0, 16, .inl bff_cost))]) (Qc := fun A => (va_Qv (fun (u : (Nat → Int32) × (Nat → Nat → Int32)) => True) (kB D A (fun (u : (Nat → Int32) × (Nat → Nat → Int32)) => [(ba, .inr (2, [.ref bfa, .ref ba_least, .ref ba_without, .int b_minutes, .int ((u.1 0))])), (ba_least, .inl (cy 0, 12000, .inl ((u.2 0)))), (ba_without, .inl (cy 0, 4, .inl bf_without)), (bfa, .inr (3, [.ref bfa_who, .ref bfa_hold, .ref bfa_harm, .ref bfa_cost, .int bf_size])), (bfa_hold, .inl (cy 0, 4, .inl bff_hold)), (bfa_harm, .inl (cy 0, 4, .inl bff_harm)), (bfa_cost, .inl (cy 0, 16, .inl bff_cost))])) A)) (by decide) (Nat.le_of_ble_eq_true rfl) ?_
  intro p e s m below meth c ls A E hA hP hD hG hS hl
  obtain ⟨Q0, hQ0⟩ : ∃ Q0 : State → Prop, Q0 = MQ below (va_Qv (fun (u : (Nat → Int32) × (Nat → Nat → Int32)) => True) (kB D A (fun (u : (Nat → Int32) × (Nat → Nat → Int32)) => [(ba, .inr (2, [.ref bfa, .ref ba_least, .ref ba_without, .int b_minutes, .int ((u.1 0))])), (ba_least, .inl (cy 0, 12000, .inl ((u.2 0)))), (ba_without, .inl (cy 0, 4, .inl bf_without)), (bfa, .inr (3, [.ref bfa_who, .ref bfa_hold, .ref bfa_harm, .ref bfa_cost, .int bf_size])), (bfa_hold, .inl (cy 0, 4, .inl bff_hold)), (bfa_harm, .inl (cy 0, 4, .inl bff_harm)), (bfa_cost, .inl (cy 0, 16, .inl bff_cost))])) A) ([.ref ba, .int n0, .int m0, .int v0] : List Value).toArray s 0 0 A := ⟨_, rfl⟩
  rw [← hQ0]
  obtain ⟨hx, hb, hml, hown, hts, hr, hlk, hnm⟩ := id E
  have hown : s.vm.findClass RX0 = some m.cls := hown
  have hl : lv_has ls 9 [(0, .ref ba), (1, .int n0), (2, .int m0), (3, .int v0)] := hl
  have g_m0 := k_rng m0
  have g_v0 := k_rng v0
  obtain ⟨H, hH⟩ : ∃ H, H = s.heap := ⟨_, rfl⟩
  have hP : va_P D vwCl [(ba, .inr (2, [.ref bfa, .ref ba_least, .ref ba_without, .int b_minutes, .int b_found])), (ba_least, .inl (cy 0, 12000, .inl bf_least)), (ba_without, .inl (cy 0, 4, .inl bf_without)), (bfa, .inr (3, [.ref bfa_who, .ref bfa_hold, .ref bfa_harm, .ref bfa_cost, .int bf_size])), (bfa_hold, .inl (cy 0, 4, .inl bff_hold)), (bfa_harm, .inl (cy 0, 4, .inl bff_harm)), (bfa_cost, .inl (cy 0, 16, .inl bff_cost))] H := by rw [hH]; exact hP
  have hS : va_S A s.heap H [] := by rw [hH]; exact va_S.rf
  rw [← hH]
  clear hH
  obtain ⟨locs, hlocs⟩ : ∃ locs : List Loc, locs = [] := ⟨_, rfl⟩
  rw [← hlocs] at hS ⊢
  refine lv_iconst (v := 0) hx hb dX0_goOn_0 (by decide) ?_
  refine lv_istore (lv' := [(4, .int 0), (0, .ref ba), (1, .int n0), (2, .int m0), (3, .int v0)]) hx hb dX0_goOn_1 hl (by decide) rfl (fun ls hl => ?_)
  have k1 : ∀ (n : Nat) (k1y4 : Int32) (k1b_found : Int32) (k1bf_least : Nat → Int32) (H : Heap) (locs : List Loc) (ls : Array Slot), 0 ≤ k1y4.toInt ∧ k1y4.toInt ≤ 4 → (4 - k1y4.toInt).toNat = n → va_P D vwCl [(ba, .inr (2, [.ref bfa, .ref ba_least, .ref ba_without, .int b_minutes, .int k1b_found])), (ba_least, .inl (cy 0, 12000, .inl k1bf_least)), (ba_without, .inl (cy 0, 4, .inl bf_without)), (bfa, .inr (3, [.ref bfa_who, .ref bfa_hold, .ref bfa_harm, .ref bfa_cost, .int bf_size])), (bfa_hold, .inl (cy 0, 4, .inl bff_hold)), (bfa_harm, .inl (cy 0, 4, .inl bff_harm)), (bfa_cost, .inl (cy 0, 16, .inl bff_cost))] H → va_D A [(ba, .inr (2, [.ref bfa, .ref ba_least, .ref ba_without, .int b_minutes, .int k1b_found])), (ba_least, .inl (cy 0, 12000, .inl k1bf_least)), (ba_without, .inl (cy 0, 4, .inl bf_without)), (bfa, .inr (3, [.ref bfa_who, .ref bfa_hold, .ref bfa_harm, .ref bfa_cost, .int bf_size])), (bfa_hold, .inl (cy 0, 4, .inl bff_hold)), (bfa_harm, .inl (cy 0, 4, .inl bff_harm)), (bfa_cost, .inl (cy 0, 16, .inl bff_cost))] → va_S A s.heap H locs → lv_has ls 9 [(4, .int k1y4), (0, .ref ba), (1, .int n0), (2, .int m0), (3, .int v0)] → W p l e ({ frames := 12, cells := 0, slots := 0, locals := 420 }) s m ([.ref ba, .int n0, .int m0, .int v0] : List Value).toArray below meth c H locs 0 0 Q0 (F0 m 3 ls []) := by
    intro n
    induction n using Nat.strongRecOn with
    | ind n k1ih =>
      intro k1y4 k1b_found k1bf_least H locs ls hk1y4 k1m hP hD hS hl
      have gk1b_found := k_rng k1b_found
      refine lv_iload hx hb dX0_goOn_3 (lv_at hl 0 rfl) ?_
      refine lv_aload_n hx hb dX0_goOn_5 rfl (lv_at hl 1 rfl) ?_
      refine va_get (D := D) (ci := 2) (v := .ref bfa) (C := RX0) (T := TX0) (N := 5) hx hb hts kin_RX0 hown hG.1 hP 0 rfl rfl 0 (by decide) (hts _ wm_400) (fun _ h9 => h9) rfl dX0_goOn_6 ?_
      refine va_get (D := D) (ci := 3) (v := .int bf_size) (C := RX1) (T := TX1) (N := 5) hx hb hts kin_RX1 hown hG.1 hP 3 rfl rfl 4 (by decide) (hts _ wm_346) (fun _ h9 => h9) rfl dX0_goOn_9 ?_
      refine lv_icmp_ge (tgt := 143) hx hb dX0_goOn_12 (by decide) (fun c2 => ?_) (fun c2 => ?_)
      · simp only [k_lt, k_le, k_eq, ne_eq, ge_iff_le, gt_iff_lt] at c2
        rw [hQ0]
        exact k_vret (fun k => [k1b_found].getD k 0, fun k => [k1bf_least].getD k (fun _ => 0)) hx hb hr hlk (trivial) (hP.sub [0, 1, 2, 3, 4, 5, 6] rfl) (hD.sub [0, 1, 2, 3, 4, 5, 6] (by decide) rfl) hS (by decide) (by decide) dX0_goOn_143
      · simp only [k_lt, k_le, k_eq, ne_eq, ge_iff_le, gt_iff_lt] at c2
        refine lv_aload_n hx hb dX0_goOn_15 rfl (lv_at hl 1 rfl) ?_
        refine va_get (D := D) (ci := 2) (v := .ref bfa) (C := RX0) (T := TX0) (N := 5) hx hb hts kin_RX0 hown hG.1 hP 0 rfl rfl 0 (by decide) (hts _ wm_400) (fun _ h9 => h9) rfl dX0_goOn_16 ?_
        refine lv_iload_n hx hb dX0_goOn_19 rfl (lv_at hl 3 rfl) ?_
        refine lv_iload hx hb dX0_goOn_20 (lv_at hl 0 rfl) ?_
        refine k_cali [0, 1, 2, 4, 5] (⟨hP, hD, hG, hS, hA, rfl, rfl⟩ : kAt D cy sa A s H _ _ [(bfa, .inr (3, [.ref bfa_who, .ref bfa_hold, .ref bfa_harm, .ref bfa_cost, .int bf_size])), (bfa_cost, .inl (cy 0, 16, .inl bff_cost))] [3, 6]) (wr := [(ba, .inr (2, [.ref bfa, .ref ba_least, .ref ba_without, .int b_minutes, .int k1b_found])), (ba_least, .inl (cy 0, 12000, .inl k1bf_least)), (ba_without, .inl (cy 0, 4, .inl bf_without)), (bfa_hold, .inl (cy 0, 4, .inl bff_hold)), (bfa_harm, .inl (cy 0, 4, .inl bff_harm))]) rfl rfl (by decide) (k_runV 3 3 (As := [.int m0, .int k1y4]) (rest := []) E lk_VRX0_55 rfl rfl rfl (c_fcost l hl0 D cy sa bfa bfa_who bfa_hold bfa_harm bfa_cost bf_size m0 k1y4 bff_cost ⟨by omega, by omega⟩ h_bff_cost H.size) (⟨hP, hD, hG, hS, hA, rfl, rfl⟩ : kAt D cy sa A s H _ _ [(bfa, .inr (3, [.ref bfa_who, .ref bfa_hold, .ref bfa_harm, .ref bfa_cost, .int bf_size])), (bfa_cost, .inl (cy 0, 16, .inl bff_cost))] [3, 6]) hl.1 rfl rfl ⟨rfl, rfl, ⟨Nat.le_of_ble_eq_true rfl, Nat.le_of_ble_eq_true rfl⟩, ⟨Nat.le_of_ble_eq_true rfl, Nat.le_of_ble_eq_true rfl⟩, Nat.le_of_ble_eq_true rfl⟩ dX0_goOn_22) (fun r3 u4 H locs hwu4 hP hD hS => ?_)
        have hP : va_P D vwCl [(ba, .inr (2, [.ref bfa, .ref ba_least, .ref ba_without, .int b_minutes, .int k1b_found])), (ba_least, .inl (cy 0, 12000, .inl k1bf_least)), (ba_without, .inl (cy 0, 4, .inl bf_without)), (bfa_hold, .inl (cy 0, 4, .inl bff_hold)), (bfa_harm, .inl (cy 0, 4, .inl bff_harm)), (bfa, .inr (3, [.ref bfa_who, .ref bfa_hold, .ref bfa_harm, .ref bfa_cost, .int bf_size])), (bfa_cost, .inl (cy 0, 16, .inl bff_cost))] H := hP
        have hD : va_D A [(ba, .inr (2, [.ref bfa, .ref ba_least, .ref ba_without, .int b_minutes, .int k1b_found])), (ba_least, .inl (cy 0, 12000, .inl k1bf_least)), (ba_without, .inl (cy 0, 4, .inl bf_without)), (bfa_hold, .inl (cy 0, 4, .inl bff_hold)), (bfa_harm, .inl (cy 0, 4, .inl bff_harm)), (bfa, .inr (3, [.ref bfa_who, .ref bfa_hold, .ref bfa_harm, .ref bfa_cost, .int bf_size])), (bfa_cost, .inl (cy 0, 16, .inl bff_cost))] := hD
        have p5 := hwu4
        refine lv_istore (lv' := [(5, .int r3), (4, .int k1y4), (0, .ref ba), (1, .int n0), (2, .int m0), (3, .int v0)]) hx hb dX0_goOn_25 hl (by decide) rfl (fun ls hl => ?_)
        refine lv_iload_n hx hb dX0_goOn_27 rfl (lv_at hl 5 rfl) ?_
        refine lv_iconst (v := 4) hx hb dX0_goOn_28 (by decide) ?_
        refine lv_aload_n hx hb dX0_goOn_29 rfl (lv_at hl 2 rfl) ?_
        refine lv_iload hx hb dX0_goOn_30 (lv_at hl 1 rfl) ?_
        refine lv_iload hx hb dX0_goOn_32 (lv_at hl 0 rfl) ?_
        refine lv_aload_n hx hb dX0_goOn_34 rfl (lv_at hl 2 rfl) ?_
        refine va_get (D := D) (ci := 2) (v := .int b_minutes) (C := RX0) (T := TX0) (N := 5) hx hb hts kin_RX0 hown hG.1 hP 0 rfl rfl 3 (by decide) (hts _ wm_403) (fun _ h9 => h9) rfl dX0_goOn_35 ?_
        refine lv_iload_n hx hb dX0_goOn_38 rfl (lv_at hl 3 rfl) ?_
        refine lv_isub hx hb dX0_goOn_39 ?_
        refine lv_topi (fun x6 ex6 => ?_)
        have rx6 := n_sub ex6 (a := b_minutes.toInt) (b := n0.toInt) rfl rfl (by omega) (by omega)
        refine k_cali [1, 6] (⟨hP, hD, hG, hS, hA, rfl, rfl⟩ : kAt D cy sa A s H _ _ [(ba, .inr (2, [.ref bfa, .ref ba_least, .ref ba_without, .int b_minutes, .int k1b_found])), (ba_without, .inl (cy 0, 4, .inl bf_without)), (bfa, .inr (3, [.ref bfa_who, .ref bfa_hold, .ref bfa_harm, .ref bfa_cost, .int bf_size])), (bfa_hold, .inl (cy 0, 4, .inl bff_hold)), (bfa_harm, .inl (cy 0, 4, .inl bff_harm))] [0, 2, 5, 3, 4]) (wr := [(ba_least, .inl (cy 0, 12000, .inl k1bf_least)), (bfa_cost, .inl (cy 0, 16, .inl bff_cost))]) rfl rfl (by decide) (k_runV 2 0 (As := [.int k1y4, .int r3, .int x6]) (rest := [.int 4, .int v0]) E lk_VRX0_58 rfl rfl rfl (c_harmOfStep l hl0 D cy sa ba ba_least ba_without bfa bfa_who bfa_hold bfa_harm bfa_cost b_minutes k1b_found bf_size k1y4 r3 x6 bf_without bff_hold bff_harm ⟨by omega, by omega⟩ h_bf_without ⟨by omega, by omega⟩ h_bff_hold ⟨by omega, by omega⟩ H.size) (⟨hP, hD, hG, hS, hA, rfl, rfl⟩ : kAt D cy sa A s H _ _ [(ba, .inr (2, [.ref bfa, .ref ba_least, .ref ba_without, .int b_minutes, .int k1b_found])), (ba_without, .inl (cy 0, 4, .inl bf_without)), (bfa, .inr (3, [.ref bfa_who, .ref bfa_hold, .ref bfa_harm, .ref bfa_cost, .int bf_size])), (bfa_hold, .inl (cy 0, 4, .inl bff_hold)), (bfa_harm, .inl (cy 0, 4, .inl bff_harm))] [0, 2, 5, 3, 4]) hl.1 rfl rfl ⟨rfl, rfl, ⟨Nat.le_of_ble_eq_true rfl, Nat.le_of_ble_eq_true rfl⟩, ⟨Nat.le_of_ble_eq_true rfl, Nat.le_of_ble_eq_true rfl⟩, Nat.le_of_ble_eq_true rfl⟩ dX0_goOn_40) (fun r7 u8 H locs hwu8 hP hD hS => ?_)
        have hP : va_P D vwCl [(ba_least, .inl (cy 0, 12000, .inl k1bf_least)), (bfa_cost, .inl (cy 0, 16, .inl bff_cost)), (ba, .inr (2, [.ref bfa, .ref ba_least, .ref ba_without, .int b_minutes, .int k1b_found])), (ba_without, .inl (cy 0, 4, .inl bf_without)), (bfa, .inr (3, [.ref bfa_who, .ref bfa_hold, .ref bfa_harm, .ref bfa_cost, .int bf_size])), (bfa_hold, .inl (cy 0, 4, .inl bff_hold)), (bfa_harm, .inl (cy 0, 4, .inl bff_harm))] H := hP
        have hD : va_D A [(ba_least, .inl (cy 0, 12000, .inl k1bf_least)), (bfa_cost, .inl (cy 0, 16, .inl bff_cost)), (ba, .inr (2, [.ref bfa, .ref ba_least, .ref ba_without, .int b_minutes, .int k1b_found])), (ba_without, .inl (cy 0, 4, .inl bf_without)), (bfa, .inr (3, [.ref bfa_who, .ref bfa_hold, .ref bfa_harm, .ref bfa_cost, .int bf_size])), (bfa_hold, .inl (cy 0, 4, .inl bff_hold)), (bfa_harm, .inl (cy 0, 4, .inl bff_harm))] := hD
        refine lv_imul hx hb dX0_goOn_43 ?_
        refine lv_topi (fun x9 ex9 => ?_)
        have gx9 := k_rng r7
        refine lv_iadd hx hb dX0_goOn_44 ?_
        refine lv_topi (fun x10 ex10 => ?_)
        have gx10 := k_rng v0
        have gx10 := k_rng x9
        refine lv_iload_n hx hb dX0_goOn_45 rfl (lv_at hl 3 rfl) ?_
        refine lv_if_ne (tgt := 54) hx hb dX0_goOn_46 (by decide) (fun c11 => ?_) (fun c11 => ?_)
        · simp only [k_lt, k_le, k_eq, ne_eq, ge_iff_le, gt_iff_lt, n_L0, n_L0] at c11
          refine lv_iconst (v := 0) hx hb dX0_goOn_54 (by decide) ?_
          refine lv_iadd hx hb dX0_goOn_55 ?_
          refine lv_topi (fun x12 ex12 => ?_)
          have gx12 := k_rng x10
          have rx12 := n_add ex12 (a := x10.toInt) (b := 0) rfl n_L0 (by omega) (by omega)
          refine lv_istore (lv' := [(6, .int x12), (5, .int r3), (4, .int k1y4), (0, .ref ba), (1, .int n0), (2, .int m0), (3, .int v0)]) hx hb dX0_goOn_56 hl (by decide) rfl (fun ls hl => ?_)
          refine lv_iload_n hx hb dX0_goOn_58 rfl (lv_at hl 4 rfl) ?_
          refine lv_iload hx hb dX0_goOn_59 (lv_at hl 1 rfl) ?_
          refine lv_iadd hx hb dX0_goOn_61 ?_
          refine lv_topi (fun x13 ex13 => ?_)
          have rx13 := n_add ex13 (a := n0.toInt) (b := r3.toInt) rfl rfl (by omega) (by omega)
          refine lv_iconst (v := 1) hx hb dX0_goOn_62 (by decide) ?_
          refine lv_iadd hx hb dX0_goOn_63 ?_
          refine lv_topi (fun x14 ex14 => ?_)
          have rx14 := n_add ex14 (a := x13.toInt) (b := 1) rfl n_L1 (by omega) (by omega)
          refine lv_istore (lv' := [(7, .int x14), (6, .int x12), (5, .int r3), (4, .int k1y4), (0, .ref ba), (1, .int n0), (2, .int m0), (3, .int v0)]) hx hb dX0_goOn_64 hl (by decide) rfl (fun ls hl => ?_)
          refine lv_iload hx hb dX0_goOn_66 (lv_at hl 0 rfl) ?_
          refine lv_aload_n hx hb dX0_goOn_68 rfl (lv_at hl 4 rfl) ?_
          refine va_get (D := D) (ci := 2) (v := .int b_minutes) (C := RX0) (T := TX0) (N := 5) hx hb hts kin_RX0 hown hG.1 hP 2 rfl rfl 3 (by decide) (hts _ wm_403) (fun _ h9 => h9) rfl dX0_goOn_69 ?_
          refine lv_icmp_lt (tgt := 91) hx hb dX0_goOn_72 (by decide) (fun c15 => ?_) (fun c15 => ?_)
          · simp only [k_lt, k_le, k_eq, ne_eq, ge_iff_le, gt_iff_lt] at c15
            refine lv_iload hx hb dX0_goOn_91 (lv_at hl 0 rfl) ?_
            refine lv_sipush (v := 300) hx hb dX0_goOn_93 (by decide) ?_
            refine lv_imul hx hb dX0_goOn_96 ?_
            refine lv_topi (fun x16 ex16 => ?_)
            have rx16 := n_mul ex16 (a := x14.toInt) (b := 300) rfl n_L300 (by omega) (by omega)
            refine lv_aload_n hx hb dX0_goOn_97 rfl (lv_at hl 4 rfl) ?_
            refine lv_iload hx hb dX0_goOn_98 (lv_at hl 3 rfl) ?_
            refine lv_iload hx hb dX0_goOn_100 (lv_at hl 2 rfl) ?_
            refine k_cali [0, 1, 6] (⟨hP, hD, hG, hS, hA, rfl, rfl⟩ : kAt D cy sa A s H _ _ [(ba, .inr (2, [.ref bfa, .ref ba_least, .ref ba_without, .int b_minutes, .int k1b_found])), (ba_without, .inl (cy 0, 4, .inl bf_without)), (bfa, .inr (3, [.ref bfa_who, .ref bfa_hold, .ref bfa_harm, .ref bfa_cost, .int bf_size])), (bfa_hold, .inl (cy 0, 4, .inl bff_hold))] [2, 3, 4, 5]) (wr := [(ba_least, .inl (cy 0, 12000, .inl k1bf_least)), (bfa_cost, .inl (cy 0, 16, .inl bff_cost)), (bfa_harm, .inl (cy 0, 4, .inl bff_harm))]) rfl rfl (by decide) (k_runV 2 2 (As := [.int k1y4, .int r3]) (rest := [.int x16]) E lk_VRX0_62 rfl rfl rfl (c_bstateBehind l hl0 D cy sa ba ba_least ba_without bfa bfa_who bfa_hold bfa_harm bfa_cost b_minutes k1b_found bf_size k1y4 r3 bf_without bff_hold ⟨by omega, by omega⟩ h_bf_without ⟨by omega, by omega⟩ h_bff_hold ⟨by omega, by omega⟩ ⟨by omega, by omega⟩ H.size) (⟨hP, hD, hG, hS, hA, rfl, rfl⟩ : kAt D cy sa A s H _ _ [(ba, .inr (2, [.ref bfa, .ref ba_least, .ref ba_without, .int b_minutes, .int k1b_found])), (ba_without, .inl (cy 0, 4, .inl bf_without)), (bfa, .inr (3, [.ref bfa_who, .ref bfa_hold, .ref bfa_harm, .ref bfa_cost, .int bf_size])), (bfa_hold, .inl (cy 0, 4, .inl bff_hold))] [2, 3, 4, 5]) hl.1 rfl rfl ⟨rfl, rfl, ⟨Nat.le_of_ble_eq_true rfl, Nat.le_of_ble_eq_true rfl⟩, ⟨Nat.le_of_ble_eq_true rfl, Nat.le_of_ble_eq_true rfl⟩, Nat.le_of_ble_eq_true rfl⟩ dX0_goOn_102) (fun r17 u18 H locs hwu18 hP hD hS => ?_)
            have hP : va_P D vwCl [(ba_least, .inl (cy 0, 12000, .inl k1bf_least)), (bfa_cost, .inl (cy 0, 16, .inl bff_cost)), (bfa_harm, .inl (cy 0, 4, .inl bff_harm)), (ba, .inr (2, [.ref bfa, .ref ba_least, .ref ba_without, .int b_minutes, .int k1b_found])), (ba_without, .inl (cy 0, 4, .inl bf_without)), (bfa, .inr (3, [.ref bfa_who, .ref bfa_hold, .ref bfa_harm, .ref bfa_cost, .int bf_size])), (bfa_hold, .inl (cy 0, 4, .inl bff_hold))] H := hP
            have hD : va_D A [(ba_least, .inl (cy 0, 12000, .inl k1bf_least)), (bfa_cost, .inl (cy 0, 16, .inl bff_cost)), (bfa_harm, .inl (cy 0, 4, .inl bff_harm)), (ba, .inr (2, [.ref bfa, .ref ba_least, .ref ba_without, .int b_minutes, .int k1b_found])), (ba_without, .inl (cy 0, 4, .inl bf_without)), (bfa, .inr (3, [.ref bfa_who, .ref bfa_hold, .ref bfa_harm, .ref bfa_cost, .int bf_size])), (bfa_hold, .inl (cy 0, 4, .inl bff_hold))] := hD
            have p19 := hwu18
            refine lv_iadd hx hb dX0_goOn_105 ?_
            refine lv_topi (fun x20 ex20 => ?_)
            have rx20 := n_add ex20 (a := x16.toInt) (b := r17.toInt) rfl rfl (by omega) (by omega)
            refine lv_istore (lv' := [(8, .int x20), (7, .int x14), (6, .int x12), (5, .int r3), (4, .int k1y4), (0, .ref ba), (1, .int n0), (2, .int m0), (3, .int v0)]) hx hb dX0_goOn_106 hl (by decide) rfl (fun ls hl => ?_)
            refine lv_iload hx hb dX0_goOn_108 (lv_at hl 0 rfl) ?_
            refine lv_aload_n hx hb dX0_goOn_110 rfl (lv_at hl 5 rfl) ?_
            refine va_get (D := D) (ci := 2) (v := .ref ba_least) (C := RX0) (T := TX0) (N := 5) hx hb hts kin_RX0 hown hG.1 hP 3 rfl rfl 1 (by decide) (hts _ wm_401) (fun _ h9 => h9) rfl dX0_goOn_111 ?_
            refine va_alen (v := 12000) hx hb hG.1 hP 0 0 rfl rfl rfl dX0_goOn_114 ?_
            refine lv_icmp_ge (tgt := 137) hx hb dX0_goOn_115 (by decide) (fun c21 => ?_) (fun c21 => ?_)
            · simp only [k_lt, k_le, k_eq, ne_eq, ge_iff_le, gt_iff_lt, n_L12000] at c21
              obtain ⟨x22, ex22⟩ : ∃ z : Int32, z = k1y4 + 1 := ⟨_, rfl⟩
              refine lv_iinc (v := x22) (lv' := [(4, .int x22), (8, .int x20), (7, .int x14), (6, .int x12), (5, .int r3), (0, .ref ba), (1, .int n0), (2, .int m0), (3, .int v0)]) hx hb dX0_goOn_137 hl (k := 4) rfl (by rw [ex22]; rfl) (by decide) rfl (fun ls hl => ?_)
              have rx22 := n_add ex22 (a := k1y4.toInt) (b := 1) rfl n_L1 (by omega) (by omega)
              refine lv_goto (tgt := 3) hx hb dX0_goOn_140 (by decide) ?_
              exact k1ih ((4 - x22.toInt).toNat) (by omega) x22 k1b_found k1bf_least H locs ls ⟨by omega, by omega⟩ rfl (hP.sub [3, 0, 4, 5, 6, 2, 1] rfl) (hD.sub [3, 0, 4, 5, 6, 2, 1] (by decide) rfl) hS (lv_sub hl [0, 5, 6, 7, 8] rfl)
            · simp only [k_lt, k_le, k_eq, ne_eq, ge_iff_le, gt_iff_lt, n_L12000] at c21
              refine lv_aload_n hx hb dX0_goOn_118 rfl (lv_at hl 5 rfl) ?_
              refine va_get (D := D) (ci := 2) (v := .ref ba_least) (C := RX0) (T := TX0) (N := 5) hx hb hts kin_RX0 hown hG.1 hP 3 rfl rfl 1 (by decide) (hts _ wm_401) (fun _ h9 => h9) rfl dX0_goOn_119 ?_
              refine lv_iload hx hb dX0_goOn_122 (lv_at hl 0 rfl) ?_
              refine lv_aload_n hx hb dX0_goOn_124 rfl (lv_at hl 5 rfl) ?_
              refine va_get (D := D) (ci := 2) (v := .ref ba_least) (C := RX0) (T := TX0) (N := 5) hx hb hts kin_RX0 hown hG.1 hP 3 rfl rfl 1 (by decide) (hts _ wm_401) (fun _ h9 => h9) rfl dX0_goOn_125 ?_
              refine lv_iload hx hb dX0_goOn_128 (lv_at hl 0 rfl) ?_
              refine va_iald hx hb hG.1 hP 0 0 rfl rfl (n_in (by omega) (by omega)) dX0_goOn_130 ?_
              refine lv_topi (fun x23 ex23 => ?_)
              refine lv_iload hx hb dX0_goOn_131 (lv_at hl 2 rfl) ?_
              refine va_mmin hx hb (hml.trans hl.1.symm) hown (hts _ wm_1466) (hts _ wm_519) (hts _ wm_17) (hts _ wm_520) (Nat.le_of_ble_eq_true rfl) (Nat.le_of_ble_eq_true rfl) (Nat.le_of_ble_eq_true rfl) (Nat.le_of_ble_eq_true rfl) dX0_goOn_133 ?_
              refine lv_topi (fun x24 ex24 => ?_)
              have rx24 := n_min ex24 (a := x23.toInt) (b := x12.toInt) rfl rfl
              refine va_iast hx hb hG.1 hP hD hS 0 0 rfl rfl (n_in (by omega) (by omega)) dX0_goOn_136 (fun H locs hP hD hS => ?_)
              have hP : va_P D vwCl [(ba_least, .inl (cy 0, 12000, .inl (upd (k1bf_least) (x20 : Int32).toNatClampNeg x24))), (bfa_cost, .inl (cy 0, 16, .inl bff_cost)), (bfa_harm, .inl (cy 0, 4, .inl bff_harm)), (ba, .inr (2, [.ref bfa, .ref ba_least, .ref ba_without, .int b_minutes, .int k1b_found])), (ba_without, .inl (cy 0, 4, .inl bf_without)), (bfa, .inr (3, [.ref bfa_who, .ref bfa_hold, .ref bfa_harm, .ref bfa_cost, .int bf_size])), (bfa_hold, .inl (cy 0, 4, .inl bff_hold))] H := hP
              have hD : va_D A [(ba_least, .inl (cy 0, 12000, .inl (upd (k1bf_least) (x20 : Int32).toNatClampNeg x24))), (bfa_cost, .inl (cy 0, 16, .inl bff_cost)), (bfa_harm, .inl (cy 0, 4, .inl bff_harm)), (ba, .inr (2, [.ref bfa, .ref ba_least, .ref ba_without, .int b_minutes, .int k1b_found])), (ba_without, .inl (cy 0, 4, .inl bf_without)), (bfa, .inr (3, [.ref bfa_who, .ref bfa_hold, .ref bfa_harm, .ref bfa_cost, .int bf_size])), (bfa_hold, .inl (cy 0, 4, .inl bff_hold))] := hD
              generalize upd (k1bf_least) (x20 : Int32).toNatClampNeg x24 = f25 at hP hD
              have hP : va_P D vwCl [(ba_least, .inl (cy 0, 12000, .inl f25)), (bfa_cost, .inl (cy 0, 16, .inl bff_cost)), (bfa_harm, .inl (cy 0, 4, .inl bff_harm)), (ba, .inr (2, [.ref bfa, .ref ba_least, .ref ba_without, .int b_minutes, .int k1b_found])), (ba_without, .inl (cy 0, 4, .inl bf_without)), (bfa, .inr (3, [.ref bfa_who, .ref bfa_hold, .ref bfa_harm, .ref bfa_cost, .int bf_size])), (bfa_hold, .inl (cy 0, 4, .inl bff_hold))] H := hP
              have hD : va_D A [(ba_least, .inl (cy 0, 12000, .inl f25)), (bfa_cost, .inl (cy 0, 16, .inl bff_cost)), (bfa_harm, .inl (cy 0, 4, .inl bff_harm)), (ba, .inr (2, [.ref bfa, .ref ba_least, .ref ba_without, .int b_minutes, .int k1b_found])), (ba_without, .inl (cy 0, 4, .inl bf_without)), (bfa, .inr (3, [.ref bfa_who, .ref bfa_hold, .ref bfa_harm, .ref bfa_cost, .int bf_size])), (bfa_hold, .inl (cy 0, 4, .inl bff_hold))] := hD
              obtain ⟨x26, ex26⟩ : ∃ z : Int32, z = k1y4 + 1 := ⟨_, rfl⟩
              refine lv_iinc (v := x26) (lv' := [(4, .int x26), (8, .int x20), (7, .int x14), (6, .int x12), (5, .int r3), (0, .ref ba), (1, .int n0), (2, .int m0), (3, .int v0)]) hx hb dX0_goOn_137 hl (k := 4) rfl (by rw [ex26]; rfl) (by decide) rfl (fun ls hl => ?_)
              have rx26 := n_add ex26 (a := k1y4.toInt) (b := 1) rfl n_L1 (by omega) (by omega)
              refine lv_goto (tgt := 3) hx hb dX0_goOn_140 (by decide) ?_
              exact k1ih ((4 - x26.toInt).toNat) (by omega) x26 k1b_found f25 H locs ls ⟨by omega, by omega⟩ rfl (hP.sub [3, 0, 4, 5, 6, 2, 1] rfl) (hD.sub [3, 0, 4, 5, 6, 2, 1] (by decide) rfl) hS (lv_sub hl [0, 5, 6, 7, 8] rfl)
          · simp only [k_lt, k_le, k_eq, ne_eq, ge_iff_le, gt_iff_lt] at c15
            refine lv_aload_n hx hb dX0_goOn_75 rfl (lv_at hl 4 rfl) ?_
            refine lv_aload_n hx hb dX0_goOn_76 rfl (lv_at hl 4 rfl) ?_
            refine va_get (D := D) (ci := 2) (v := .int k1b_found) (C := RX0) (T := TX0) (N := 5) hx hb hts kin_RX0 hown hG.1 hP 2 rfl rfl 4 (by decide) (hts _ wm_404) (fun _ h9 => h9) rfl dX0_goOn_77 ?_
            refine lv_iload hx hb dX0_goOn_80 (lv_at hl 1 rfl) ?_
            refine va_mmin hx hb (hml.trans hl.1.symm) hown (hts _ wm_1466) (hts _ wm_519) (hts _ wm_17) (hts _ wm_520) (Nat.le_of_ble_eq_true rfl) (Nat.le_of_ble_eq_true rfl) (Nat.le_of_ble_eq_true rfl) (Nat.le_of_ble_eq_true rfl) dX0_goOn_82 ?_
            refine lv_topi (fun x27 ex27 => ?_)
            have rx27 := n_min ex27 (a := k1b_found.toInt) (b := x12.toInt) rfl rfl
            refine va_put (D := D) (ci := 2) (v := .int x27) (ty := .int) (C := RX0) (T := TX0) (N := 5) hx hb hts kin_RX0 tyX0 tyX0_ok nmX0 hown hG.1 hP hD hS 2 rfl rfl 4 (by decide) (hts _ wm_404) (fun _ h9 => h9) rfl (by decide +kernel) rfl rfl (Nat.le_of_ble_eq_true rfl) dX0_goOn_85 (fun H locs hP hD hS => ?_)
            have hP : va_P D vwCl [(ba_least, .inl (cy 0, 12000, .inl k1bf_least)), (bfa_cost, .inl (cy 0, 16, .inl bff_cost)), (ba, .inr (2, [.ref bfa, .ref ba_least, .ref ba_without, .int b_minutes, .int x27])), (ba_without, .inl (cy 0, 4, .inl bf_without)), (bfa, .inr (3, [.ref bfa_who, .ref bfa_hold, .ref bfa_harm, .ref bfa_cost, .int bf_size])), (bfa_hold, .inl (cy 0, 4, .inl bff_hold)), (bfa_harm, .inl (cy 0, 4, .inl bff_harm))] H := hP
            have hD : va_D A [(ba_least, .inl (cy 0, 12000, .inl k1bf_least)), (bfa_cost, .inl (cy 0, 16, .inl bff_cost)), (ba, .inr (2, [.ref bfa, .ref ba_least, .ref ba_without, .int b_minutes, .int x27])), (ba_without, .inl (cy 0, 4, .inl bf_without)), (bfa, .inr (3, [.ref bfa_who, .ref bfa_hold, .ref bfa_harm, .ref bfa_cost, .int bf_size])), (bfa_hold, .inl (cy 0, 4, .inl bff_hold)), (bfa_harm, .inl (cy 0, 4, .inl bff_harm))] := hD
            refine lv_goto (tgt := 137) hx hb dX0_goOn_88 (by decide) ?_
            obtain ⟨x28, ex28⟩ : ∃ z : Int32, z = k1y4 + 1 := ⟨_, rfl⟩
            refine lv_iinc (v := x28) (lv' := [(4, .int x28), (7, .int x14), (6, .int x12), (5, .int r3), (0, .ref ba), (1, .int n0), (2, .int m0), (3, .int v0)]) hx hb dX0_goOn_137 hl (k := 3) rfl (by rw [ex28]; rfl) (by decide) rfl (fun ls hl => ?_)
            have rx28 := n_add ex28 (a := k1y4.toInt) (b := 1) rfl n_L1 (by omega) (by omega)
            refine lv_goto (tgt := 3) hx hb dX0_goOn_140 (by decide) ?_
            exact k1ih ((4 - x28.toInt).toNat) (by omega) x28 x27 k1bf_least H locs ls ⟨by omega, by omega⟩ rfl (hP.sub [2, 0, 3, 4, 5, 6, 1] rfl) (hD.sub [2, 0, 3, 4, 5, 6, 1] (by decide) rfl) hS (lv_sub hl [0, 4, 5, 6, 7] rfl)
        · simp only [k_lt, k_le, k_eq, ne_eq, ge_iff_le, gt_iff_lt, n_L0, n_L0] at c11
          refine lv_iload hx hb dX0_goOn_49 (lv_at hl 1 rfl) ?_
          refine lv_goto (tgt := 55) hx hb dX0_goOn_51 (by decide) ?_
          refine lv_iadd hx hb dX0_goOn_55 ?_
          refine lv_topi (fun x29 ex29 => ?_)
          have gx29 := k_rng x10
          refine lv_istore (lv' := [(6, .int x29), (5, .int r3), (4, .int k1y4), (0, .ref ba), (1, .int n0), (2, .int m0), (3, .int v0)]) hx hb dX0_goOn_56 hl (by decide) rfl (fun ls hl => ?_)
          refine lv_iload_n hx hb dX0_goOn_58 rfl (lv_at hl 4 rfl) ?_
          refine lv_iload hx hb dX0_goOn_59 (lv_at hl 1 rfl) ?_
          refine lv_iadd hx hb dX0_goOn_61 ?_
          refine lv_topi (fun x30 ex30 => ?_)
          have rx30 := n_add ex30 (a := n0.toInt) (b := r3.toInt) rfl rfl (by omega) (by omega)
          refine lv_iconst (v := 1) hx hb dX0_goOn_62 (by decide) ?_
          refine lv_iadd hx hb dX0_goOn_63 ?_
          refine lv_topi (fun x31 ex31 => ?_)
          have rx31 := n_add ex31 (a := x30.toInt) (b := 1) rfl n_L1 (by omega) (by omega)
          refine lv_istore (lv' := [(7, .int x31), (6, .int x29), (5, .int r3), (4, .int k1y4), (0, .ref ba), (1, .int n0), (2, .int m0), (3, .int v0)]) hx hb dX0_goOn_64 hl (by decide) rfl (fun ls hl => ?_)
          refine lv_iload hx hb dX0_goOn_66 (lv_at hl 0 rfl) ?_
          refine lv_aload_n hx hb dX0_goOn_68 rfl (lv_at hl 4 rfl) ?_
          refine va_get (D := D) (ci := 2) (v := .int b_minutes) (C := RX0) (T := TX0) (N := 5) hx hb hts kin_RX0 hown hG.1 hP 2 rfl rfl 3 (by decide) (hts _ wm_403) (fun _ h9 => h9) rfl dX0_goOn_69 ?_
          refine lv_icmp_lt (tgt := 91) hx hb dX0_goOn_72 (by decide) (fun c32 => ?_) (fun c32 => ?_)
          · simp only [k_lt, k_le, k_eq, ne_eq, ge_iff_le, gt_iff_lt] at c32
            refine lv_iload hx hb dX0_goOn_91 (lv_at hl 0 rfl) ?_
            refine lv_sipush (v := 300) hx hb dX0_goOn_93 (by decide) ?_
            refine lv_imul hx hb dX0_goOn_96 ?_
            refine lv_topi (fun x33 ex33 => ?_)
            have rx33 := n_mul ex33 (a := x31.toInt) (b := 300) rfl n_L300 (by omega) (by omega)
            refine lv_aload_n hx hb dX0_goOn_97 rfl (lv_at hl 4 rfl) ?_
            refine lv_iload hx hb dX0_goOn_98 (lv_at hl 3 rfl) ?_
            refine lv_iload hx hb dX0_goOn_100 (lv_at hl 2 rfl) ?_
            refine k_cali [0, 1, 6] (⟨hP, hD, hG, hS, hA, rfl, rfl⟩ : kAt D cy sa A s H _ _ [(ba, .inr (2, [.ref bfa, .ref ba_least, .ref ba_without, .int b_minutes, .int k1b_found])), (ba_without, .inl (cy 0, 4, .inl bf_without)), (bfa, .inr (3, [.ref bfa_who, .ref bfa_hold, .ref bfa_harm, .ref bfa_cost, .int bf_size])), (bfa_hold, .inl (cy 0, 4, .inl bff_hold))] [2, 3, 4, 5]) (wr := [(ba_least, .inl (cy 0, 12000, .inl k1bf_least)), (bfa_cost, .inl (cy 0, 16, .inl bff_cost)), (bfa_harm, .inl (cy 0, 4, .inl bff_harm))]) rfl rfl (by decide) (k_runV 2 2 (As := [.int k1y4, .int r3]) (rest := [.int x33]) E lk_VRX0_62 rfl rfl rfl (c_bstateBehind l hl0 D cy sa ba ba_least ba_without bfa bfa_who bfa_hold bfa_harm bfa_cost b_minutes k1b_found bf_size k1y4 r3 bf_without bff_hold ⟨by omega, by omega⟩ h_bf_without ⟨by omega, by omega⟩ h_bff_hold ⟨by omega, by omega⟩ ⟨by omega, by omega⟩ H.size) (⟨hP, hD, hG, hS, hA, rfl, rfl⟩ : kAt D cy sa A s H _ _ [(ba, .inr (2, [.ref bfa, .ref ba_least, .ref ba_without, .int b_minutes, .int k1b_found])), (ba_without, .inl (cy 0, 4, .inl bf_without)), (bfa, .inr (3, [.ref bfa_who, .ref bfa_hold, .ref bfa_harm, .ref bfa_cost, .int bf_size])), (bfa_hold, .inl (cy 0, 4, .inl bff_hold))] [2, 3, 4, 5]) hl.1 rfl rfl ⟨rfl, rfl, ⟨Nat.le_of_ble_eq_true rfl, Nat.le_of_ble_eq_true rfl⟩, ⟨Nat.le_of_ble_eq_true rfl, Nat.le_of_ble_eq_true rfl⟩, Nat.le_of_ble_eq_true rfl⟩ dX0_goOn_102) (fun r34 u35 H locs hwu35 hP hD hS => ?_)
            have hP : va_P D vwCl [(ba_least, .inl (cy 0, 12000, .inl k1bf_least)), (bfa_cost, .inl (cy 0, 16, .inl bff_cost)), (bfa_harm, .inl (cy 0, 4, .inl bff_harm)), (ba, .inr (2, [.ref bfa, .ref ba_least, .ref ba_without, .int b_minutes, .int k1b_found])), (ba_without, .inl (cy 0, 4, .inl bf_without)), (bfa, .inr (3, [.ref bfa_who, .ref bfa_hold, .ref bfa_harm, .ref bfa_cost, .int bf_size])), (bfa_hold, .inl (cy 0, 4, .inl bff_hold))] H := hP
            have hD : va_D A [(ba_least, .inl (cy 0, 12000, .inl k1bf_least)), (bfa_cost, .inl (cy 0, 16, .inl bff_cost)), (bfa_harm, .inl (cy 0, 4, .inl bff_harm)), (ba, .inr (2, [.ref bfa, .ref ba_least, .ref ba_without, .int b_minutes, .int k1b_found])), (ba_without, .inl (cy 0, 4, .inl bf_without)), (bfa, .inr (3, [.ref bfa_who, .ref bfa_hold, .ref bfa_harm, .ref bfa_cost, .int bf_size])), (bfa_hold, .inl (cy 0, 4, .inl bff_hold))] := hD
            have p36 := hwu35
            refine lv_iadd hx hb dX0_goOn_105 ?_
            refine lv_topi (fun x37 ex37 => ?_)
            have rx37 := n_add ex37 (a := x33.toInt) (b := r34.toInt) rfl rfl (by omega) (by omega)
            refine lv_istore (lv' := [(8, .int x37), (7, .int x31), (6, .int x29), (5, .int r3), (4, .int k1y4), (0, .ref ba), (1, .int n0), (2, .int m0), (3, .int v0)]) hx hb dX0_goOn_106 hl (by decide) rfl (fun ls hl => ?_)
            refine lv_iload hx hb dX0_goOn_108 (lv_at hl 0 rfl) ?_
            refine lv_aload_n hx hb dX0_goOn_110 rfl (lv_at hl 5 rfl) ?_
            refine va_get (D := D) (ci := 2) (v := .ref ba_least) (C := RX0) (T := TX0) (N := 5) hx hb hts kin_RX0 hown hG.1 hP 3 rfl rfl 1 (by decide) (hts _ wm_401) (fun _ h9 => h9) rfl dX0_goOn_111 ?_
            refine va_alen (v := 12000) hx hb hG.1 hP 0 0 rfl rfl rfl dX0_goOn_114 ?_
            refine lv_icmp_ge (tgt := 137) hx hb dX0_goOn_115 (by decide) (fun c38 => ?_) (fun c38 => ?_)
            · simp only [k_lt, k_le, k_eq, ne_eq, ge_iff_le, gt_iff_lt, n_L12000] at c38
              obtain ⟨x39, ex39⟩ : ∃ z : Int32, z = k1y4 + 1 := ⟨_, rfl⟩
              refine lv_iinc (v := x39) (lv' := [(4, .int x39), (8, .int x37), (7, .int x31), (6, .int x29), (5, .int r3), (0, .ref ba), (1, .int n0), (2, .int m0), (3, .int v0)]) hx hb dX0_goOn_137 hl (k := 4) rfl (by rw [ex39]; rfl) (by decide) rfl (fun ls hl => ?_)
              have rx39 := n_add ex39 (a := k1y4.toInt) (b := 1) rfl n_L1 (by omega) (by omega)
              refine lv_goto (tgt := 3) hx hb dX0_goOn_140 (by decide) ?_
              exact k1ih ((4 - x39.toInt).toNat) (by omega) x39 k1b_found k1bf_least H locs ls ⟨by omega, by omega⟩ rfl (hP.sub [3, 0, 4, 5, 6, 2, 1] rfl) (hD.sub [3, 0, 4, 5, 6, 2, 1] (by decide) rfl) hS (lv_sub hl [0, 5, 6, 7, 8] rfl)
            · simp only [k_lt, k_le, k_eq, ne_eq, ge_iff_le, gt_iff_lt, n_L12000] at c38
              refine lv_aload_n hx hb dX0_goOn_118 rfl (lv_at hl 5 rfl) ?_
              refine va_get (D := D) (ci := 2) (v := .ref ba_least) (C := RX0) (T := TX0) (N := 5) hx hb hts kin_RX0 hown hG.1 hP 3 rfl rfl 1 (by decide) (hts _ wm_401) (fun _ h9 => h9) rfl dX0_goOn_119 ?_
              refine lv_iload hx hb dX0_goOn_122 (lv_at hl 0 rfl) ?_
              refine lv_aload_n hx hb dX0_goOn_124 rfl (lv_at hl 5 rfl) ?_
              refine va_get (D := D) (ci := 2) (v := .ref ba_least) (C := RX0) (T := TX0) (N := 5) hx hb hts kin_RX0 hown hG.1 hP 3 rfl rfl 1 (by decide) (hts _ wm_401) (fun _ h9 => h9) rfl dX0_goOn_125 ?_
              refine lv_iload hx hb dX0_goOn_128 (lv_at hl 0 rfl) ?_
              refine va_iald hx hb hG.1 hP 0 0 rfl rfl (n_in (by omega) (by omega)) dX0_goOn_130 ?_
              refine lv_topi (fun x40 ex40 => ?_)
              refine lv_iload hx hb dX0_goOn_131 (lv_at hl 2 rfl) ?_
              refine va_mmin hx hb (hml.trans hl.1.symm) hown (hts _ wm_1466) (hts _ wm_519) (hts _ wm_17) (hts _ wm_520) (Nat.le_of_ble_eq_true rfl) (Nat.le_of_ble_eq_true rfl) (Nat.le_of_ble_eq_true rfl) (Nat.le_of_ble_eq_true rfl) dX0_goOn_133 ?_
              refine lv_topi (fun x41 ex41 => ?_)
              have rx41 := n_min ex41 (a := x40.toInt) (b := x29.toInt) rfl rfl
              refine va_iast hx hb hG.1 hP hD hS 0 0 rfl rfl (n_in (by omega) (by omega)) dX0_goOn_136 (fun H locs hP hD hS => ?_)
              have hP : va_P D vwCl [(ba_least, .inl (cy 0, 12000, .inl (upd (k1bf_least) (x37 : Int32).toNatClampNeg x41))), (bfa_cost, .inl (cy 0, 16, .inl bff_cost)), (bfa_harm, .inl (cy 0, 4, .inl bff_harm)), (ba, .inr (2, [.ref bfa, .ref ba_least, .ref ba_without, .int b_minutes, .int k1b_found])), (ba_without, .inl (cy 0, 4, .inl bf_without)), (bfa, .inr (3, [.ref bfa_who, .ref bfa_hold, .ref bfa_harm, .ref bfa_cost, .int bf_size])), (bfa_hold, .inl (cy 0, 4, .inl bff_hold))] H := hP
              have hD : va_D A [(ba_least, .inl (cy 0, 12000, .inl (upd (k1bf_least) (x37 : Int32).toNatClampNeg x41))), (bfa_cost, .inl (cy 0, 16, .inl bff_cost)), (bfa_harm, .inl (cy 0, 4, .inl bff_harm)), (ba, .inr (2, [.ref bfa, .ref ba_least, .ref ba_without, .int b_minutes, .int k1b_found])), (ba_without, .inl (cy 0, 4, .inl bf_without)), (bfa, .inr (3, [.ref bfa_who, .ref bfa_hold, .ref bfa_harm, .ref bfa_cost, .int bf_size])), (bfa_hold, .inl (cy 0, 4, .inl bff_hold))] := hD
              generalize upd (k1bf_least) (x37 : Int32).toNatClampNeg x41 = f42 at hP hD
              have hP : va_P D vwCl [(ba_least, .inl (cy 0, 12000, .inl f42)), (bfa_cost, .inl (cy 0, 16, .inl bff_cost)), (bfa_harm, .inl (cy 0, 4, .inl bff_harm)), (ba, .inr (2, [.ref bfa, .ref ba_least, .ref ba_without, .int b_minutes, .int k1b_found])), (ba_without, .inl (cy 0, 4, .inl bf_without)), (bfa, .inr (3, [.ref bfa_who, .ref bfa_hold, .ref bfa_harm, .ref bfa_cost, .int bf_size])), (bfa_hold, .inl (cy 0, 4, .inl bff_hold))] H := hP
              have hD : va_D A [(ba_least, .inl (cy 0, 12000, .inl f42)), (bfa_cost, .inl (cy 0, 16, .inl bff_cost)), (bfa_harm, .inl (cy 0, 4, .inl bff_harm)), (ba, .inr (2, [.ref bfa, .ref ba_least, .ref ba_without, .int b_minutes, .int k1b_found])), (ba_without, .inl (cy 0, 4, .inl bf_without)), (bfa, .inr (3, [.ref bfa_who, .ref bfa_hold, .ref bfa_harm, .ref bfa_cost, .int bf_size])), (bfa_hold, .inl (cy 0, 4, .inl bff_hold))] := hD
              obtain ⟨x43, ex43⟩ : ∃ z : Int32, z = k1y4 + 1 := ⟨_, rfl⟩
              refine lv_iinc (v := x43) (lv' := [(4, .int x43), (8, .int x37), (7, .int x31), (6, .int x29), (5, .int r3), (0, .ref ba), (1, .int n0), (2, .int m0), (3, .int v0)]) hx hb dX0_goOn_137 hl (k := 4) rfl (by rw [ex43]; rfl) (by decide) rfl (fun ls hl => ?_)
              have rx43 := n_add ex43 (a := k1y4.toInt) (b := 1) rfl n_L1 (by omega) (by omega)
              refine lv_goto (tgt := 3) hx hb dX0_goOn_140 (by decide) ?_
              exact k1ih ((4 - x43.toInt).toNat) (by omega) x43 k1b_found f42 H locs ls ⟨by omega, by omega⟩ rfl (hP.sub [3, 0, 4, 5, 6, 2, 1] rfl) (hD.sub [3, 0, 4, 5, 6, 2, 1] (by decide) rfl) hS (lv_sub hl [0, 5, 6, 7, 8] rfl)
          · simp only [k_lt, k_le, k_eq, ne_eq, ge_iff_le, gt_iff_lt] at c32
            refine lv_aload_n hx hb dX0_goOn_75 rfl (lv_at hl 4 rfl) ?_
            refine lv_aload_n hx hb dX0_goOn_76 rfl (lv_at hl 4 rfl) ?_
            refine va_get (D := D) (ci := 2) (v := .int k1b_found) (C := RX0) (T := TX0) (N := 5) hx hb hts kin_RX0 hown hG.1 hP 2 rfl rfl 4 (by decide) (hts _ wm_404) (fun _ h9 => h9) rfl dX0_goOn_77 ?_
            refine lv_iload hx hb dX0_goOn_80 (lv_at hl 1 rfl) ?_
            refine va_mmin hx hb (hml.trans hl.1.symm) hown (hts _ wm_1466) (hts _ wm_519) (hts _ wm_17) (hts _ wm_520) (Nat.le_of_ble_eq_true rfl) (Nat.le_of_ble_eq_true rfl) (Nat.le_of_ble_eq_true rfl) (Nat.le_of_ble_eq_true rfl) dX0_goOn_82 ?_
            refine lv_topi (fun x44 ex44 => ?_)
            have rx44 := n_min ex44 (a := k1b_found.toInt) (b := x29.toInt) rfl rfl
            refine va_put (D := D) (ci := 2) (v := .int x44) (ty := .int) (C := RX0) (T := TX0) (N := 5) hx hb hts kin_RX0 tyX0 tyX0_ok nmX0 hown hG.1 hP hD hS 2 rfl rfl 4 (by decide) (hts _ wm_404) (fun _ h9 => h9) rfl (by decide +kernel) rfl rfl (Nat.le_of_ble_eq_true rfl) dX0_goOn_85 (fun H locs hP hD hS => ?_)
            have hP : va_P D vwCl [(ba_least, .inl (cy 0, 12000, .inl k1bf_least)), (bfa_cost, .inl (cy 0, 16, .inl bff_cost)), (ba, .inr (2, [.ref bfa, .ref ba_least, .ref ba_without, .int b_minutes, .int x44])), (ba_without, .inl (cy 0, 4, .inl bf_without)), (bfa, .inr (3, [.ref bfa_who, .ref bfa_hold, .ref bfa_harm, .ref bfa_cost, .int bf_size])), (bfa_hold, .inl (cy 0, 4, .inl bff_hold)), (bfa_harm, .inl (cy 0, 4, .inl bff_harm))] H := hP
            have hD : va_D A [(ba_least, .inl (cy 0, 12000, .inl k1bf_least)), (bfa_cost, .inl (cy 0, 16, .inl bff_cost)), (ba, .inr (2, [.ref bfa, .ref ba_least, .ref ba_without, .int b_minutes, .int x44])), (ba_without, .inl (cy 0, 4, .inl bf_without)), (bfa, .inr (3, [.ref bfa_who, .ref bfa_hold, .ref bfa_harm, .ref bfa_cost, .int bf_size])), (bfa_hold, .inl (cy 0, 4, .inl bff_hold)), (bfa_harm, .inl (cy 0, 4, .inl bff_harm))] := hD
            refine lv_goto (tgt := 137) hx hb dX0_goOn_88 (by decide) ?_
            obtain ⟨x45, ex45⟩ : ∃ z : Int32, z = k1y4 + 1 := ⟨_, rfl⟩
            refine lv_iinc (v := x45) (lv' := [(4, .int x45), (7, .int x31), (6, .int x29), (5, .int r3), (0, .ref ba), (1, .int n0), (2, .int m0), (3, .int v0)]) hx hb dX0_goOn_137 hl (k := 3) rfl (by rw [ex45]; rfl) (by decide) rfl (fun ls hl => ?_)
            have rx45 := n_add ex45 (a := k1y4.toInt) (b := 1) rfl n_L1 (by omega) (by omega)
            refine lv_goto (tgt := 3) hx hb dX0_goOn_140 (by decide) ?_
            exact k1ih ((4 - x45.toInt).toNat) (by omega) x45 x44 k1bf_least H locs ls ⟨by omega, by omega⟩ rfl (hP.sub [2, 0, 3, 4, 5, 6, 1] rfl) (hD.sub [2, 0, 3, 4, 5, 6, 1] (by decide) rfl) hS (lv_sub hl [0, 4, 5, 6, 7] rfl)
  exact k1 _ 0 b_found bf_least H locs ls ⟨by rw [n_L0]; omega, by rw [n_L0]; omega⟩ rfl hP hD hS (lv_sub hl [0, 1, 2, 3, 4] rfl)

set_option maxHeartbeats 4000000 in
set_option maxRecDepth 100000 in
/-- Backlog.reckon -/
theorem c_reckon (l : Launch) (hl0 : l.stackTraces = false) (D : va_G) (cy : Nat → ClassId) (sa : Nat → Nat) (ba ba_least ba_without bfa bfa_who bfa_hold bfa_harm bfa_cost : Nat) (b_minutes b_found bf_size t0 : Int32) (bf_least bf_without bff_hold bff_harm bff_cost : Nat → Int32) (h_b_minutes : 0 ≤ b_minutes.toInt ∧ b_minutes.toInt ≤ 40) (h_bf_without : rowR 4 0 (9) bf_without) (h_bf_size : 0 ≤ bf_size.toInt ∧ bf_size.toInt ≤ 4) (h_bff_hold : rowR 4 0 (8) bff_hold) (h_bff_cost : rowR 16 0 (39) bff_cost) (h_t0 : 1 ≤ t0.toInt ∧ t0.toInt ≤ 40) (sz : Nat) : Met l yX0_reckon (Cond.code yX0_reckon cX0_reckon 5 none :: kWS) ({ frames := 13, cells := 0, slots := 0, locals := 480 }) (kPre D cy sa [.ref ba, .int t0] [(ba, .inr (2, [.ref bfa, .ref ba_least, .ref ba_without, .int b_minutes, .int b_found])), (ba_least, .inl (cy 0, 12000, .inl bf_least)), (ba_without, .inl (cy 0, 4, .inl bf_without)), (bfa, .inr (3, [.ref bfa_who, .ref bfa_hold, .ref bfa_harm, .ref bfa_cost, .int bf_size])), (bfa_hold, .inl (cy 0, 4, .inl bff_hold)), (bfa_harm, .inl (cy 0, 4, .inl bff_harm)), (bfa_cost, .inl (cy 0, 16, .inl bff_cost))] sz) (va_Qv (fun (u : (Nat → Int32) × (Nat → Nat → Int32)) => (0 ≤ ((u.1 0)).toInt ∧ ((u.1 0)).toInt ≤ 40) ∧ (rowR 4 0 (9) ((u.2 1)))) (kB D (va_A [(ba, .inr (2, [.ref bfa, .ref ba_least, .ref ba_without, .int b_minutes, .int b_found])), (ba_least, .inl (cy 0, 12000, .inl bf_least)), (ba_without, .inl (cy 0, 4, .inl bf_without)), (bfa, .inr (3, [.ref bfa_who, .ref bfa_hold, .ref bfa_harm, .ref bfa_cost, .int bf_size])), (bfa_hold, .inl (cy 0, 4, .inl bff_hold)), (bfa_harm, .inl (cy 0, 4, .inl bff_harm)), (bfa_cost, .inl (cy 0, 16, .inl bff_cost))] sz) (fun (u : (Nat → Int32) × (Nat → Nat → Int32)) => [(ba, .inr (2, [.ref bfa, .ref ba_least, .ref ba_without, .int ((u.1 0)), .int ((u.1 1))])), (ba_least, .inl (cy 0, 12000, .inl ((u.2 0)))), (ba_without, .inl (cy 0, 4, .inl ((u.2 1)))), (bfa, .inr (3, [.ref bfa_who, .ref bfa_hold, .ref bfa_harm, .ref bfa_cost, .int bf_size])), (bfa_hold, .inl (cy 0, 4, .inl bff_hold)), (bfa_harm, .inl (cy 0, 4, .inl bff_harm)), (bfa_cost, .inl (cy 0, 16, .inl bff_cost))])) (va_A [(ba, .inr (2, [.ref bfa, .ref ba_least, .ref ba_without, .int b_minutes, .int b_found])), (ba_least, .inl (cy 0, 12000, .inl bf_least)), (ba_without, .inl (cy 0, 4, .inl bf_without)), (bfa, .inr (3, [.ref bfa_who, .ref bfa_hold, .ref bfa_harm, .ref bfa_cost, .int bf_size])), (bfa_hold, .inl (cy 0, 4, .inl bff_hold)), (bfa_harm, .inl (cy 0, 4, .inl bff_harm)), (bfa_cost, .inl (cy 0, 16, .inl bff_cost))] sz)) 0 0 (va_A [(ba, .inr (2, [.ref bfa, .ref ba_least, .ref ba_without, .int b_minutes, .int b_found])), (ba_least, .inl (cy 0, 12000, .inl bf_least)), (ba_without, .inl (cy 0, 4, .inl bf_without)), (bfa, .inr (3, [.ref bfa_who, .ref bfa_hold, .ref bfa_harm, .ref bfa_cost, .int bf_size])), (bfa_hold, .inl (cy 0, 4, .inl bff_hold)), (bfa_harm, .inl (cy 0, 4, .inl bff_harm)), (bfa_cost, .inl (cy 0, 16, .inl bff_cost))] sz) := by
  refine k_ofW (y := yX0_reckon) (cc := cX0_reckon) (maxL := 5) (ret := none) (av := [.ref ba, .int t0]) (ws := [(ba, .inr (2, [.ref bfa, .ref ba_least, .ref ba_without, .int b_minutes, .int b_found])), (ba_least, .inl (cy 0, 12000, .inl bf_least)), (ba_without, .inl (cy 0, 4, .inl bf_without)), (bfa, .inr (3, [.ref bfa_who, .ref bfa_hold, .ref bfa_harm, .ref bfa_cost, .int bf_size])), (bfa_hold, .inl (cy 0, 4, .inl bff_hold)), (bfa_harm, .inl (cy 0, 4, .inl bff_harm)), (bfa_cost, .inl (cy 0, 16, .inl bff_cost))]) (Qc := fun A => (va_Qv (fun (u : (Nat → Int32) × (Nat → Nat → Int32)) => (0 ≤ ((u.1 0)).toInt ∧ ((u.1 0)).toInt ≤ 40) ∧ (rowR 4 0 (9) ((u.2 1)))) (kB D A (fun (u : (Nat → Int32) × (Nat → Nat → Int32)) => [(ba, .inr (2, [.ref bfa, .ref ba_least, .ref ba_without, .int ((u.1 0)), .int ((u.1 1))])), (ba_least, .inl (cy 0, 12000, .inl ((u.2 0)))), (ba_without, .inl (cy 0, 4, .inl ((u.2 1)))), (bfa, .inr (3, [.ref bfa_who, .ref bfa_hold, .ref bfa_harm, .ref bfa_cost, .int bf_size])), (bfa_hold, .inl (cy 0, 4, .inl bff_hold)), (bfa_harm, .inl (cy 0, 4, .inl bff_harm)), (bfa_cost, .inl (cy 0, 16, .inl bff_cost))])) A)) (by decide) (Nat.le_of_ble_eq_true rfl) ?_
  intro p e s m below meth c ls A E hA hP hD hG hS hl
  obtain ⟨Q0, hQ0⟩ : ∃ Q0 : State → Prop, Q0 = MQ below (va_Qv (fun (u : (Nat → Int32) × (Nat → Nat → Int32)) => (0 ≤ ((u.1 0)).toInt ∧ ((u.1 0)).toInt ≤ 40) ∧ (rowR 4 0 (9) ((u.2 1)))) (kB D A (fun (u : (Nat → Int32) × (Nat → Nat → Int32)) => [(ba, .inr (2, [.ref bfa, .ref ba_least, .ref ba_without, .int ((u.1 0)), .int ((u.1 1))])), (ba_least, .inl (cy 0, 12000, .inl ((u.2 0)))), (ba_without, .inl (cy 0, 4, .inl ((u.2 1)))), (bfa, .inr (3, [.ref bfa_who, .ref bfa_hold, .ref bfa_harm, .ref bfa_cost, .int bf_size])), (bfa_hold, .inl (cy 0, 4, .inl bff_hold)), (bfa_harm, .inl (cy 0, 4, .inl bff_harm)), (bfa_cost, .inl (cy 0, 16, .inl bff_cost))])) A) ([.ref ba, .int t0] : List Value).toArray s 0 0 A := ⟨_, rfl⟩
  rw [← hQ0]
  obtain ⟨hx, hb, hml, hown, hts, hr, hlk, hnm⟩ := id E
  have hown : s.vm.findClass RX0 = some m.cls := hown
  have hl : lv_has ls 5 [(0, .ref ba), (1, .int t0)] := hl
  obtain ⟨H, hH⟩ : ∃ H, H = s.heap := ⟨_, rfl⟩
  have hP : va_P D vwCl [(ba, .inr (2, [.ref bfa, .ref ba_least, .ref ba_without, .int b_minutes, .int b_found])), (ba_least, .inl (cy 0, 12000, .inl bf_least)), (ba_without, .inl (cy 0, 4, .inl bf_without)), (bfa, .inr (3, [.ref bfa_who, .ref bfa_hold, .ref bfa_harm, .ref bfa_cost, .int bf_size])), (bfa_hold, .inl (cy 0, 4, .inl bff_hold)), (bfa_harm, .inl (cy 0, 4, .inl bff_harm)), (bfa_cost, .inl (cy 0, 16, .inl bff_cost))] H := by rw [hH]; exact hP
  have hS : va_S A s.heap H [] := by rw [hH]; exact va_S.rf
  rw [← hH]
  clear hH
  obtain ⟨locs, hlocs⟩ : ∃ locs : List Loc, locs = [] := ⟨_, rfl⟩
  rw [← hlocs] at hS ⊢
  refine lv_aload_n hx hb dX0_reckon_0 rfl (lv_at hl 0 rfl) ?_
  refine lv_iload_n hx hb dX0_reckon_1 rfl (lv_at hl 1 rfl) ?_
  refine lv_bipush (v := 40) hx hb dX0_reckon_2 (by decide) ?_
  refine va_mmin hx hb (hml.trans hl.1.symm) hown (hts _ wm_1466) (hts _ wm_519) (hts _ wm_17) (hts _ wm_520) (Nat.le_of_ble_eq_true rfl) (Nat.le_of_ble_eq_true rfl) (Nat.le_of_ble_eq_true rfl) (Nat.le_of_ble_eq_true rfl) dX0_reckon_4 ?_
  refine lv_topi (fun x1 ex1 => ?_)
  have rx1 := n_min ex1 (a := t0.toInt) (b := 40) rfl n_L40
  refine va_put (D := D) (ci := 2) (v := .int x1) (ty := .int) (C := RX0) (T := TX0) (N := 5) hx hb hts kin_RX0 tyX0 tyX0_ok nmX0 hown hG.1 hP hD hS 0 rfl rfl 3 (by decide) (hts _ wm_403) (fun _ h9 => h9) rfl (by decide +kernel) rfl rfl (Nat.le_of_ble_eq_true rfl) dX0_reckon_7 (fun H locs hP hD hS => ?_)
  have hP : va_P D vwCl [(ba, .inr (2, [.ref bfa, .ref ba_least, .ref ba_without, .int x1, .int b_found])), (ba_least, .inl (cy 0, 12000, .inl bf_least)), (ba_without, .inl (cy 0, 4, .inl bf_without)), (bfa, .inr (3, [.ref bfa_who, .ref bfa_hold, .ref bfa_harm, .ref bfa_cost, .int bf_size])), (bfa_hold, .inl (cy 0, 4, .inl bff_hold)), (bfa_harm, .inl (cy 0, 4, .inl bff_harm)), (bfa_cost, .inl (cy 0, 16, .inl bff_cost))] H := hP
  have hD : va_D A [(ba, .inr (2, [.ref bfa, .ref ba_least, .ref ba_without, .int x1, .int b_found])), (ba_least, .inl (cy 0, 12000, .inl bf_least)), (ba_without, .inl (cy 0, 4, .inl bf_without)), (bfa, .inr (3, [.ref bfa_who, .ref bfa_hold, .ref bfa_harm, .ref bfa_cost, .int bf_size])), (bfa_hold, .inl (cy 0, 4, .inl bff_hold)), (bfa_harm, .inl (cy 0, 4, .inl bff_harm)), (bfa_cost, .inl (cy 0, 16, .inl bff_cost))] := hD
  refine lv_aload_n hx hb dX0_reckon_10 rfl (lv_at hl 0 rfl) ?_
  refine lv_ldc (v := 1000000000) hx hb hown (hts _ wm_399) dX0_reckon_11 ?_
  refine va_put (D := D) (ci := 2) (v := .int 1000000000) (ty := .int) (C := RX0) (T := TX0) (N := 5) hx hb hts kin_RX0 tyX0 tyX0_ok nmX0 hown hG.1 hP hD hS 0 rfl rfl 4 (by decide) (hts _ wm_404) (fun _ h9 => h9) rfl (by decide +kernel) rfl rfl (Nat.le_of_ble_eq_true rfl) dX0_reckon_13 (fun H locs hP hD hS => ?_)
  have hP : va_P D vwCl [(ba, .inr (2, [.ref bfa, .ref ba_least, .ref ba_without, .int x1, .int 1000000000])), (ba_least, .inl (cy 0, 12000, .inl bf_least)), (ba_without, .inl (cy 0, 4, .inl bf_without)), (bfa, .inr (3, [.ref bfa_who, .ref bfa_hold, .ref bfa_harm, .ref bfa_cost, .int bf_size])), (bfa_hold, .inl (cy 0, 4, .inl bff_hold)), (bfa_harm, .inl (cy 0, 4, .inl bff_harm)), (bfa_cost, .inl (cy 0, 16, .inl bff_cost))] H := hP
  have hD : va_D A [(ba, .inr (2, [.ref bfa, .ref ba_least, .ref ba_without, .int x1, .int 1000000000])), (ba_least, .inl (cy 0, 12000, .inl bf_least)), (ba_without, .inl (cy 0, 4, .inl bf_without)), (bfa, .inr (3, [.ref bfa_who, .ref bfa_hold, .ref bfa_harm, .ref bfa_cost, .int bf_size])), (bfa_hold, .inl (cy 0, 4, .inl bff_hold)), (bfa_harm, .inl (cy 0, 4, .inl bff_harm)), (bfa_cost, .inl (cy 0, 16, .inl bff_cost))] := hD
  refine lv_aload_n hx hb dX0_reckon_16 rfl (lv_at hl 0 rfl) ?_
  refine va_get (D := D) (ci := 2) (v := .ref ba_least) (C := RX0) (T := TX0) (N := 5) hx hb hts kin_RX0 hown hG.1 hP 0 rfl rfl 1 (by decide) (hts _ wm_401) (fun _ h9 => h9) rfl dX0_reckon_17 ?_
  refine lv_ldc (v := 1000000000) hx hb hown (hts _ wm_399) dX0_reckon_20 ?_
  refine k_calv [0, 2, 3, 4, 5, 6] (⟨hP, hD, hG, hS, hA, rfl, rfl⟩ : kAt D cy sa A s H _ _ [(ba_least, .inl (cy 0, 12000, .inl bf_least))] [1]) (wr := [(ba, .inr (2, [.ref bfa, .ref ba_least, .ref ba_without, .int x1, .int 1000000000])), (ba_without, .inl (cy 0, 4, .inl bf_without)), (bfa, .inr (3, [.ref bfa_who, .ref bfa_hold, .ref bfa_harm, .ref bfa_cost, .int bf_size])), (bfa_hold, .inl (cy 0, 4, .inl bff_hold)), (bfa_harm, .inl (cy 0, 4, .inl bff_harm)), (bfa_cost, .inl (cy 0, 16, .inl bff_cost))]) rfl rfl (by decide) (k_runS (As := [.ref ba_least, .int 1000000000]) (rest := []) E lk_SRX0_36 (c_fill_12000 l hl0 D cy sa ba_least 1000000000 bf_least (1000000000) (1000000000) (by first | omega | (simp only [n_L1000000000]; omega) | simp only [n_L1000000000]) (by first | omega | (simp only [n_L1000000000]; omega) | simp only [n_L1000000000]) H.size) (⟨hP, hD, hG, hS, hA, rfl, rfl⟩ : kAt D cy sa A s H _ _ [(ba_least, .inl (cy 0, 12000, .inl bf_least))] [1]) hl.1 rfl rfl ⟨rfl, rfl, ⟨Nat.le_of_ble_eq_true rfl, Nat.le_of_ble_eq_true rfl⟩, ⟨Nat.le_of_ble_eq_true rfl, Nat.le_of_ble_eq_true rfl⟩, Nat.le_of_ble_eq_true rfl⟩ dX0_reckon_22) (fun u3 H locs hwu3 hP hD hS => ?_)
  have hP : va_P D vwCl [(ba, .inr (2, [.ref bfa, .ref ba_least, .ref ba_without, .int x1, .int 1000000000])), (ba_without, .inl (cy 0, 4, .inl bf_without)), (bfa, .inr (3, [.ref bfa_who, .ref bfa_hold, .ref bfa_harm, .ref bfa_cost, .int bf_size])), (bfa_hold, .inl (cy 0, 4, .inl bff_hold)), (bfa_harm, .inl (cy 0, 4, .inl bff_harm)), (bfa_cost, .inl (cy 0, 16, .inl bff_cost)), (ba_least, .inl (cy 0, 12000, .inl ((u3.2 0))))] H := hP
  have hD : va_D A [(ba, .inr (2, [.ref bfa, .ref ba_least, .ref ba_without, .int x1, .int 1000000000])), (ba_without, .inl (cy 0, 4, .inl bf_without)), (bfa, .inr (3, [.ref bfa_who, .ref bfa_hold, .ref bfa_harm, .ref bfa_cost, .int bf_size])), (bfa_hold, .inl (cy 0, 4, .inl bff_hold)), (bfa_harm, .inl (cy 0, 4, .inl bff_harm)), (bfa_cost, .inl (cy 0, 16, .inl bff_cost)), (ba_least, .inl (cy 0, 12000, .inl ((u3.2 0))))] := hD
  have p4 := hwu3
  refine lv_aload_n hx hb dX0_reckon_25 rfl (lv_at hl 0 rfl) ?_
  refine va_get (D := D) (ci := 2) (v := .ref ba_least) (C := RX0) (T := TX0) (N := 5) hx hb hts kin_RX0 hown hG.1 hP 0 rfl rfl 1 (by decide) (hts _ wm_401) (fun _ h9 => h9) rfl dX0_reckon_26 ?_
  refine lv_iconst (v := 0) hx hb dX0_reckon_29 (by decide) ?_
  refine lv_iconst (v := 0) hx hb dX0_reckon_30 (by decide) ?_
  refine va_iast hx hb hG.1 hP hD hS 6 0 rfl rfl (by unfold vp_in; decide) dX0_reckon_31 (fun H locs hP hD hS => ?_)
  have hP : va_P D vwCl [(ba, .inr (2, [.ref bfa, .ref ba_least, .ref ba_without, .int x1, .int 1000000000])), (ba_without, .inl (cy 0, 4, .inl bf_without)), (bfa, .inr (3, [.ref bfa_who, .ref bfa_hold, .ref bfa_harm, .ref bfa_cost, .int bf_size])), (bfa_hold, .inl (cy 0, 4, .inl bff_hold)), (bfa_harm, .inl (cy 0, 4, .inl bff_harm)), (bfa_cost, .inl (cy 0, 16, .inl bff_cost)), (ba_least, .inl (cy 0, 12000, .inl (upd ((u3.2 0)) (0 : Int32).toNatClampNeg 0)))] H := hP
  have hD : va_D A [(ba, .inr (2, [.ref bfa, .ref ba_least, .ref ba_without, .int x1, .int 1000000000])), (ba_without, .inl (cy 0, 4, .inl bf_without)), (bfa, .inr (3, [.ref bfa_who, .ref bfa_hold, .ref bfa_harm, .ref bfa_cost, .int bf_size])), (bfa_hold, .inl (cy 0, 4, .inl bff_hold)), (bfa_harm, .inl (cy 0, 4, .inl bff_harm)), (bfa_cost, .inl (cy 0, 16, .inl bff_cost)), (ba_least, .inl (cy 0, 12000, .inl (upd ((u3.2 0)) (0 : Int32).toNatClampNeg 0)))] := hD
  generalize upd ((u3.2 0)) (0 : Int32).toNatClampNeg 0 = f5 at hP hD
  have hP : va_P D vwCl [(ba, .inr (2, [.ref bfa, .ref ba_least, .ref ba_without, .int x1, .int 1000000000])), (ba_without, .inl (cy 0, 4, .inl bf_without)), (bfa, .inr (3, [.ref bfa_who, .ref bfa_hold, .ref bfa_harm, .ref bfa_cost, .int bf_size])), (bfa_hold, .inl (cy 0, 4, .inl bff_hold)), (bfa_harm, .inl (cy 0, 4, .inl bff_harm)), (bfa_cost, .inl (cy 0, 16, .inl bff_cost)), (ba_least, .inl (cy 0, 12000, .inl f5))] H := hP
  have hD : va_D A [(ba, .inr (2, [.ref bfa, .ref ba_least, .ref ba_without, .int x1, .int 1000000000])), (ba_without, .inl (cy 0, 4, .inl bf_without)), (bfa, .inr (3, [.ref bfa_who, .ref bfa_hold, .ref bfa_harm, .ref bfa_cost, .int bf_size])), (bfa_hold, .inl (cy 0, 4, .inl bff_hold)), (bfa_harm, .inl (cy 0, 4, .inl bff_harm)), (bfa_cost, .inl (cy 0, 16, .inl bff_cost)), (ba_least, .inl (cy 0, 12000, .inl f5))] := hD
  refine lv_iconst (v := 0) hx hb dX0_reckon_32 (by decide) ?_
  refine lv_istore_n (lv' := [(2, .int 0), (0, .ref ba), (1, .int t0)]) hx hb dX0_reckon_33 rfl hl (by decide) rfl (fun ls hl => ?_)
  have k6 : ∀ (n : Nat) (k6y2 : Int32) (k6b_found : Int32) (k6bf_least : Nat → Int32) (k6bf_without : Nat → Int32) (H : Heap) (locs : List Loc) (ls : Array Slot), 0 ≤ k6y2.toInt ∧ k6y2.toInt ≤ 40 → rowR 4 0 (9) k6bf_without → (40 - k6y2.toInt).toNat = n → va_P D vwCl [(ba, .inr (2, [.ref bfa, .ref ba_least, .ref ba_without, .int x1, .int k6b_found])), (ba_without, .inl (cy 0, 4, .inl k6bf_without)), (bfa, .inr (3, [.ref bfa_who, .ref bfa_hold, .ref bfa_harm, .ref bfa_cost, .int bf_size])), (bfa_hold, .inl (cy 0, 4, .inl bff_hold)), (bfa_harm, .inl (cy 0, 4, .inl bff_harm)), (bfa_cost, .inl (cy 0, 16, .inl bff_cost)), (ba_least, .inl (cy 0, 12000, .inl k6bf_least))] H → va_D A [(ba, .inr (2, [.ref bfa, .ref ba_least, .ref ba_without, .int x1, .int k6b_found])), (ba_without, .inl (cy 0, 4, .inl k6bf_without)), (bfa, .inr (3, [.ref bfa_who, .ref bfa_hold, .ref bfa_harm, .ref bfa_cost, .int bf_size])), (bfa_hold, .inl (cy 0, 4, .inl bff_hold)), (bfa_harm, .inl (cy 0, 4, .inl bff_harm)), (bfa_cost, .inl (cy 0, 16, .inl bff_cost)), (ba_least, .inl (cy 0, 12000, .inl k6bf_least))] → va_S A s.heap H locs → lv_has ls 5 [(2, .int k6y2), (0, .ref ba), (1, .int t0)] → W p l e ({ frames := 13, cells := 0, slots := 0, locals := 480 }) s m ([.ref ba, .int t0] : List Value).toArray below meth c H locs 0 0 Q0 (F0 m 34 ls []) := by
    intro n
    induction n using Nat.strongRecOn with
    | ind n k6ih =>
      intro k6y2 k6b_found k6bf_least k6bf_without H locs ls hk6y2 hk6bf_without k6m hP hD hS hl
      have gk6b_found := k_rng k6b_found
      refine lv_iload_n hx hb dX0_reckon_34 rfl (lv_at hl 0 rfl) ?_
      refine lv_aload_n hx hb dX0_reckon_35 rfl (lv_at hl 1 rfl) ?_
      refine va_get (D := D) (ci := 2) (v := .int x1) (C := RX0) (T := TX0) (N := 5) hx hb hts kin_RX0 hown hG.1 hP 0 rfl rfl 3 (by decide) (hts _ wm_403) (fun _ h9 => h9) rfl dX0_reckon_36 ?_
      refine lv_icmp_ge (tgt := 100) hx hb dX0_reckon_39 (by decide) (fun c7 => ?_) (fun c7 => ?_)
      · simp only [k_lt, k_le, k_eq, ne_eq, ge_iff_le, gt_iff_lt] at c7
        rw [hQ0]
        exact k_vret (fun k => [x1, k6b_found].getD k 0, fun k => [k6bf_least, k6bf_without].getD k (fun _ => 0)) hx hb hr hlk (⟨(show 0 ≤ x1.toInt ∧ x1.toInt ≤ 40 from ⟨by omega, by omega⟩), (show rowR 4 0 (9) k6bf_without from hk6bf_without)⟩) (hP.sub [0, 6, 1, 2, 3, 4, 5] rfl) (hD.sub [0, 6, 1, 2, 3, 4, 5] (by decide) rfl) hS (by decide) (by decide) dX0_reckon_100
      · simp only [k_lt, k_le, k_eq, ne_eq, ge_iff_le, gt_iff_lt] at c7
        refine lv_iconst (v := 0) hx hb dX0_reckon_42 (by decide) ?_
        refine lv_istore_n (lv' := [(3, .int 0), (2, .int k6y2), (0, .ref ba), (1, .int t0)]) hx hb dX0_reckon_43 rfl hl (by decide) rfl (fun ls hl => ?_)
        have k8 : ∀ (n : Nat) (k8y3 : Int32) (k8b_found : Int32) (k8bf_least : Nat → Int32) (k8bf_without : Nat → Int32) (H : Heap) (locs : List Loc) (ls : Array Slot), 0 ≤ k8y3.toInt ∧ k8y3.toInt ≤ 300 → rowR 4 0 (9) k8bf_without → (300 - k8y3.toInt).toNat = n → va_P D vwCl [(ba, .inr (2, [.ref bfa, .ref ba_least, .ref ba_without, .int x1, .int k8b_found])), (ba_without, .inl (cy 0, 4, .inl k8bf_without)), (bfa, .inr (3, [.ref bfa_who, .ref bfa_hold, .ref bfa_harm, .ref bfa_cost, .int bf_size])), (bfa_hold, .inl (cy 0, 4, .inl bff_hold)), (bfa_harm, .inl (cy 0, 4, .inl bff_harm)), (bfa_cost, .inl (cy 0, 16, .inl bff_cost)), (ba_least, .inl (cy 0, 12000, .inl k8bf_least))] H → va_D A [(ba, .inr (2, [.ref bfa, .ref ba_least, .ref ba_without, .int x1, .int k8b_found])), (ba_without, .inl (cy 0, 4, .inl k8bf_without)), (bfa, .inr (3, [.ref bfa_who, .ref bfa_hold, .ref bfa_harm, .ref bfa_cost, .int bf_size])), (bfa_hold, .inl (cy 0, 4, .inl bff_hold)), (bfa_harm, .inl (cy 0, 4, .inl bff_harm)), (bfa_cost, .inl (cy 0, 16, .inl bff_cost)), (ba_least, .inl (cy 0, 12000, .inl k8bf_least))] → va_S A s.heap H locs → lv_has ls 5 [(3, .int k8y3), (2, .int k6y2), (0, .ref ba), (1, .int t0)] → W p l e ({ frames := 13, cells := 0, slots := 0, locals := 480 }) s m ([.ref ba, .int t0] : List Value).toArray below meth c H locs 0 0 Q0 (F0 m 44 ls []) := by
          intro n
          induction n using Nat.strongRecOn with
          | ind n k8ih =>
            intro k8y3 k8b_found k8bf_least k8bf_without H locs ls hk8y3 hk8bf_without k8m hP hD hS hl
            have gk8b_found := k_rng k8b_found
            refine lv_iload_n hx hb dX0_reckon_44 rfl (lv_at hl 0 rfl) ?_
            refine lv_sipush (v := 300) hx hb dX0_reckon_45 (by decide) ?_
            refine lv_icmp_ge (tgt := 94) hx hb dX0_reckon_48 (by decide) (fun c9 => ?_) (fun c9 => ?_)
            · simp only [k_lt, k_le, k_eq, ne_eq, ge_iff_le, gt_iff_lt, n_L300] at c9
              obtain ⟨x10, ex10⟩ : ∃ z : Int32, z = k6y2 + 1 := ⟨_, rfl⟩
              refine lv_iinc (v := x10) (lv' := [(2, .int x10), (3, .int k8y3), (0, .ref ba), (1, .int t0)]) hx hb dX0_reckon_94 hl (k := 1) rfl (by rw [ex10]; rfl) (by decide) rfl (fun ls hl => ?_)
              have rx10 := n_add ex10 (a := k6y2.toInt) (b := 1) rfl n_L1 (by omega) (by omega)
              refine lv_goto (tgt := 34) hx hb dX0_reckon_97 (by decide) ?_
              exact k6ih ((40 - x10.toInt).toNat) (by omega) x10 k8b_found k8bf_least k8bf_without H locs ls ⟨by omega, by omega⟩ hk8bf_without rfl hP hD hS (lv_sub hl [0, 2, 3] rfl)
            · simp only [k_lt, k_le, k_eq, ne_eq, ge_iff_le, gt_iff_lt, n_L300] at c9
              refine lv_aload_n hx hb dX0_reckon_51 rfl (lv_at hl 2 rfl) ?_
              refine va_get (D := D) (ci := 2) (v := .ref ba_least) (C := RX0) (T := TX0) (N := 5) hx hb hts kin_RX0 hown hG.1 hP 0 rfl rfl 1 (by decide) (hts _ wm_401) (fun _ h9 => h9) rfl dX0_reckon_52 ?_
              refine lv_iload_n hx hb dX0_reckon_55 rfl (lv_at hl 1 rfl) ?_
              refine lv_sipush (v := 300) hx hb dX0_reckon_56 (by decide) ?_
              refine lv_imul hx hb dX0_reckon_59 ?_
              refine lv_topi (fun x11 ex11 => ?_)
              have rx11 := n_mul ex11 (a := k6y2.toInt) (b := 300) rfl n_L300 (by omega) (by omega)
              refine lv_iload_n hx hb dX0_reckon_60 rfl (lv_at hl 0 rfl) ?_
              refine lv_iadd hx hb dX0_reckon_61 ?_
              refine lv_topi (fun x12 ex12 => ?_)
              have rx12 := n_add ex12 (a := x11.toInt) (b := k8y3.toInt) rfl rfl (by omega) (by omega)
              refine va_iald hx hb hG.1 hP 6 0 rfl rfl (n_in (by omega) (by omega)) dX0_reckon_62 ?_
              refine lv_topi (fun x13 ex13 => ?_)
              refine lv_istore (lv' := [(4, .int x13), (3, .int k8y3), (2, .int k6y2), (0, .ref ba), (1, .int t0)]) hx hb dX0_reckon_63 hl (by decide) rfl (fun ls hl => ?_)
              refine lv_iload hx hb dX0_reckon_65 (lv_at hl 0 rfl) ?_
              refine lv_ldc (v := 1000000000) hx hb hown (hts _ wm_399) dX0_reckon_67 ?_
              refine lv_icmp_eq (tgt := 88) hx hb dX0_reckon_69 (by decide) (fun c14 => ?_) (fun c14 => ?_)
              · simp only [k_lt, k_le, k_eq, ne_eq, ge_iff_le, gt_iff_lt, n_L1000000000] at c14
                obtain ⟨x15, ex15⟩ : ∃ z : Int32, z = k8y3 + 1 := ⟨_, rfl⟩
                refine lv_iinc (v := x15) (lv' := [(3, .int x15), (4, .int x13), (2, .int k6y2), (0, .ref ba), (1, .int t0)]) hx hb dX0_reckon_88 hl (k := 1) rfl (by rw [ex15]; rfl) (by decide) rfl (fun ls hl => ?_)
                have rx15 := n_add ex15 (a := k8y3.toInt) (b := 1) rfl n_L1 (by omega) (by omega)
                refine lv_goto (tgt := 44) hx hb dX0_reckon_91 (by decide) ?_
                exact k8ih ((300 - x15.toInt).toNat) (by omega) x15 k8b_found k8bf_least k8bf_without H locs ls ⟨by omega, by omega⟩ hk8bf_without rfl hP hD hS (lv_sub hl [0, 2, 3, 4] rfl)
              · simp only [k_lt, k_le, k_eq, ne_eq, ge_iff_le, gt_iff_lt, n_L1000000000] at c14
                refine lv_aload_n hx hb dX0_reckon_72 rfl (lv_at hl 3 rfl) ?_
                refine lv_iload_n hx hb dX0_reckon_73 rfl (lv_at hl 1 rfl) ?_
                refine k_calv [3, 4, 5, 6] (⟨hP, hD, hG, hS, hA, rfl, rfl⟩ : kAt D cy sa A s H _ _ [(ba, .inr (2, [.ref bfa, .ref ba_least, .ref ba_without, .int x1, .int k8b_found])), (ba_without, .inl (cy 0, 4, .inl k8bf_without)), (bfa, .inr (3, [.ref bfa_who, .ref bfa_hold, .ref bfa_harm, .ref bfa_cost, .int bf_size]))] [0, 1, 2]) (wr := [(bfa_hold, .inl (cy 0, 4, .inl bff_hold)), (bfa_harm, .inl (cy 0, 4, .inl bff_harm)), (bfa_cost, .inl (cy 0, 16, .inl bff_cost)), (ba_least, .inl (cy 0, 12000, .inl k8bf_least))]) rfl rfl (by decide) (k_runV 2 0 (As := [.int k8y3]) (rest := []) E lk_VRX0_42 rfl rfl rfl (c_takeApart l hl0 D cy sa ba ba_least ba_without bfa bfa_who bfa_hold bfa_harm bfa_cost x1 k8b_found bf_size k8y3 k8bf_without ⟨by omega, by omega⟩ hk8bf_without ⟨by omega, by omega⟩ ⟨by omega, by omega⟩ H.size) (⟨hP, hD, hG, hS, hA, rfl, rfl⟩ : kAt D cy sa A s H _ _ [(ba, .inr (2, [.ref bfa, .ref ba_least, .ref ba_without, .int x1, .int k8b_found])), (ba_without, .inl (cy 0, 4, .inl k8bf_without)), (bfa, .inr (3, [.ref bfa_who, .ref bfa_hold, .ref bfa_harm, .ref bfa_cost, .int bf_size]))] [0, 1, 2]) hl.1 rfl rfl ⟨rfl, rfl, ⟨Nat.le_of_ble_eq_true rfl, Nat.le_of_ble_eq_true rfl⟩, ⟨Nat.le_of_ble_eq_true rfl, Nat.le_of_ble_eq_true rfl⟩, Nat.le_of_ble_eq_true rfl⟩ dX0_reckon_74) (fun u17 H locs hwu17 hP hD hS => ?_)
                have hP : va_P D vwCl [(bfa_hold, .inl (cy 0, 4, .inl bff_hold)), (bfa_harm, .inl (cy 0, 4, .inl bff_harm)), (bfa_cost, .inl (cy 0, 16, .inl bff_cost)), (ba_least, .inl (cy 0, 12000, .inl k8bf_least)), (ba, .inr (2, [.ref bfa, .ref ba_least, .ref ba_without, .int x1, .int k8b_found])), (ba_without, .inl (cy 0, 4, .inl ((u17.2 0)))), (bfa, .inr (3, [.ref bfa_who, .ref bfa_hold, .ref bfa_harm, .ref bfa_cost, .int bf_size]))] H := hP
                have hD : va_D A [(bfa_hold, .inl (cy 0, 4, .inl bff_hold)), (bfa_harm, .inl (cy 0, 4, .inl bff_harm)), (bfa_cost, .inl (cy 0, 16, .inl bff_cost)), (ba_least, .inl (cy 0, 12000, .inl k8bf_least)), (ba, .inr (2, [.ref bfa, .ref ba_least, .ref ba_without, .int x1, .int k8b_found])), (ba_without, .inl (cy 0, 4, .inl ((u17.2 0)))), (bfa, .inr (3, [.ref bfa_who, .ref bfa_hold, .ref bfa_harm, .ref bfa_cost, .int bf_size]))] := hD
                have p18 := hwu17
                refine lv_aload_n hx hb dX0_reckon_77 rfl (lv_at hl 3 rfl) ?_
                refine lv_iload_n hx hb dX0_reckon_78 rfl (lv_at hl 2 rfl) ?_
                refine lv_iload_n hx hb dX0_reckon_79 rfl (lv_at hl 1 rfl) ?_
                refine lv_bipush (v := 100) hx hb dX0_reckon_80 (by decide) ?_
                refine lv_idiv hx hb dX0_reckon_82 (by decide) ?_
                refine lv_topi (fun x19 ex19 => ?_)
                have rx19 := n_div ex19 (a := k8y3.toInt) (b := 100) rfl n_L100 (by omega) (by omega)
                refine lv_iload hx hb dX0_reckon_83 (lv_at hl 0 rfl) ?_
                refine k_calv [] (⟨hP, hD, hG, hS, hA, rfl, rfl⟩ : kAt D cy sa A s H _ _ [(ba, .inr (2, [.ref bfa, .ref ba_least, .ref ba_without, .int x1, .int k8b_found])), (ba_least, .inl (cy 0, 12000, .inl k8bf_least)), (ba_without, .inl (cy 0, 4, .inl ((u17.2 0)))), (bfa, .inr (3, [.ref bfa_who, .ref bfa_hold, .ref bfa_harm, .ref bfa_cost, .int bf_size])), (bfa_hold, .inl (cy 0, 4, .inl bff_hold)), (bfa_harm, .inl (cy 0, 4, .inl bff_harm)), (bfa_cost, .inl (cy 0, 16, .inl bff_cost))] [4, 3, 5, 6, 0, 1, 2]) (wr := []) rfl rfl (by decide) (k_runV 2 4 (As := [.int k6y2, .int x19, .int x13]) (rest := []) E lk_VRX0_46 rfl rfl rfl (c_goOn l hl0 D cy sa ba ba_least ba_without bfa bfa_who bfa_hold bfa_harm bfa_cost x1 k8b_found bf_size k6y2 x19 x13 k8bf_least ((u17.2 0)) bff_hold bff_harm bff_cost ⟨by omega, by omega⟩ p18 ⟨by omega, by omega⟩ h_bff_hold h_bff_cost ⟨by omega, by omega⟩ H.size) (⟨hP, hD, hG, hS, hA, rfl, rfl⟩ : kAt D cy sa A s H _ _ [(ba, .inr (2, [.ref bfa, .ref ba_least, .ref ba_without, .int x1, .int k8b_found])), (ba_least, .inl (cy 0, 12000, .inl k8bf_least)), (ba_without, .inl (cy 0, 4, .inl ((u17.2 0)))), (bfa, .inr (3, [.ref bfa_who, .ref bfa_hold, .ref bfa_harm, .ref bfa_cost, .int bf_size])), (bfa_hold, .inl (cy 0, 4, .inl bff_hold)), (bfa_harm, .inl (cy 0, 4, .inl bff_harm)), (bfa_cost, .inl (cy 0, 16, .inl bff_cost))] [4, 3, 5, 6, 0, 1, 2]) hl.1 rfl rfl ⟨rfl, rfl, ⟨Nat.le_of_ble_eq_true rfl, Nat.le_of_ble_eq_true rfl⟩, ⟨Nat.le_of_ble_eq_true rfl, Nat.le_of_ble_eq_true rfl⟩, Nat.le_of_ble_eq_true rfl⟩ dX0_reckon_85) (fun u21 H locs hwu21 hP hD hS => ?_)
                have hP : va_P D vwCl [(ba, .inr (2, [.ref bfa, .ref ba_least, .ref ba_without, .int x1, .int ((u21.1 0))])), (ba_least, .inl (cy 0, 12000, .inl ((u21.2 0)))), (ba_without, .inl (cy 0, 4, .inl ((u17.2 0)))), (bfa, .inr (3, [.ref bfa_who, .ref bfa_hold, .ref bfa_harm, .ref bfa_cost, .int bf_size])), (bfa_hold, .inl (cy 0, 4, .inl bff_hold)), (bfa_harm, .inl (cy 0, 4, .inl bff_harm)), (bfa_cost, .inl (cy 0, 16, .inl bff_cost))] H := hP
                have hD : va_D A [(ba, .inr (2, [.ref bfa, .ref ba_least, .ref ba_without, .int x1, .int ((u21.1 0))])), (ba_least, .inl (cy 0, 12000, .inl ((u21.2 0)))), (ba_without, .inl (cy 0, 4, .inl ((u17.2 0)))), (bfa, .inr (3, [.ref bfa_who, .ref bfa_hold, .ref bfa_harm, .ref bfa_cost, .int bf_size])), (bfa_hold, .inl (cy 0, 4, .inl bff_hold)), (bfa_harm, .inl (cy 0, 4, .inl bff_harm)), (bfa_cost, .inl (cy 0, 16, .inl bff_cost))] := hD
                obtain ⟨x22, ex22⟩ : ∃ z : Int32, z = k8y3 + 1 := ⟨_, rfl⟩
                refine lv_iinc (v := x22) (lv' := [(3, .int x22), (4, .int x13), (2, .int k6y2), (0, .ref ba), (1, .int t0)]) hx hb dX0_reckon_88 hl (k := 1) rfl (by rw [ex22]; rfl) (by decide) rfl (fun ls hl => ?_)
                have rx22 := n_add ex22 (a := k8y3.toInt) (b := 1) rfl n_L1 (by omega) (by omega)
                refine lv_goto (tgt := 44) hx hb dX0_reckon_91 (by decide) ?_
                exact k8ih ((300 - x22.toInt).toNat) (by omega) x22 (u21.1 0) (u21.2 0) (u17.2 0) H locs ls ⟨by omega, by omega⟩ p18 rfl (hP.sub [0, 2, 3, 4, 5, 6, 1] rfl) (hD.sub [0, 2, 3, 4, 5, 6, 1] (by decide) rfl) hS (lv_sub hl [0, 2, 3, 4] rfl)
        exact k8 _ 0 k6b_found k6bf_least k6bf_without H locs ls ⟨by rw [n_L0]; omega, by rw [n_L0]; omega⟩ hk6bf_without rfl hP hD hS (lv_sub hl [0, 1, 2, 3] rfl)
  exact k6 _ 0 1000000000 f5 bf_without H locs ls ⟨by rw [n_L0]; omega, by rw [n_L0]; omega⟩ h_bf_without rfl hP hD hS (lv_sub hl [0, 1, 2] rfl)

set_option maxHeartbeats 4000000 in
set_option maxRecDepth 100000 in
/-- Backlog.leastHarm -/
theorem c_leastHarm (l : Launch) (hl0 : l.stackTraces = false) (D : va_G) (cy : Nat → ClassId) (sa : Nat → Nat) (ba ba_least ba_without bfa bfa_who bfa_hold bfa_harm bfa_cost : Nat) (b_minutes b_found bf_size : Int32) (h_b_minutes : 0 ≤ b_minutes.toInt ∧ b_minutes.toInt ≤ 40) (h_bf_size : 0 ≤ bf_size.toInt ∧ bf_size.toInt ≤ 4) (sz : Nat) : Met l yX0_leastHarm (Cond.code yX0_leastHarm cX0_leastHarm 1 (some .int) :: kWS) ({ frames := 10, cells := 0, slots := 0, locals := 300 }) (kPre D cy sa [.ref ba] [(ba, .inr (2, [.ref bfa, .ref ba_least, .ref ba_without, .int b_minutes, .int b_found])), (bfa, .inr (3, [.ref bfa_who, .ref bfa_hold, .ref bfa_harm, .ref bfa_cost, .int bf_size]))] sz) (va_Qi (fun (r : Int32) (u : Unit) => True) (kB D (va_A [(ba, .inr (2, [.ref bfa, .ref ba_least, .ref ba_without, .int b_minutes, .int b_found])), (bfa, .inr (3, [.ref bfa_who, .ref bfa_hold, .ref bfa_harm, .ref bfa_cost, .int bf_size]))] sz) (fun (u : Unit) => [(ba, .inr (2, [.ref bfa, .ref ba_least, .ref ba_without, .int b_minutes, .int b_found])), (bfa, .inr (3, [.ref bfa_who, .ref bfa_hold, .ref bfa_harm, .ref bfa_cost, .int bf_size]))])) (va_A [(ba, .inr (2, [.ref bfa, .ref ba_least, .ref ba_without, .int b_minutes, .int b_found])), (bfa, .inr (3, [.ref bfa_who, .ref bfa_hold, .ref bfa_harm, .ref bfa_cost, .int bf_size]))] sz)) 0 0 (va_A [(ba, .inr (2, [.ref bfa, .ref ba_least, .ref ba_without, .int b_minutes, .int b_found])), (bfa, .inr (3, [.ref bfa_who, .ref bfa_hold, .ref bfa_harm, .ref bfa_cost, .int bf_size]))] sz) := by
  refine k_ofW (y := yX0_leastHarm) (cc := cX0_leastHarm) (maxL := 1) (ret := (some .int)) (av := [.ref ba]) (ws := [(ba, .inr (2, [.ref bfa, .ref ba_least, .ref ba_without, .int b_minutes, .int b_found])), (bfa, .inr (3, [.ref bfa_who, .ref bfa_hold, .ref bfa_harm, .ref bfa_cost, .int bf_size]))]) (Qc := fun A => (va_Qi (fun (r : Int32) (u : Unit) => True) (kB D A (fun (u : Unit) => [(ba, .inr (2, [.ref bfa, .ref ba_least, .ref ba_without, .int b_minutes, .int b_found])), (bfa, .inr (3, [.ref bfa_who, .ref bfa_hold, .ref bfa_harm, .ref bfa_cost, .int bf_size]))])) A)) (by decide) (Nat.le_of_ble_eq_true rfl) ?_
  intro p e s m below meth c ls A E hA hP hD hG hS hl
  obtain ⟨Q0, hQ0⟩ : ∃ Q0 : State → Prop, Q0 = MQ below (va_Qi (fun (r : Int32) (u : Unit) => True) (kB D A (fun (u : Unit) => [(ba, .inr (2, [.ref bfa, .ref ba_least, .ref ba_without, .int b_minutes, .int b_found])), (bfa, .inr (3, [.ref bfa_who, .ref bfa_hold, .ref bfa_harm, .ref bfa_cost, .int bf_size]))])) A) ([.ref ba] : List Value).toArray s 0 0 A := ⟨_, rfl⟩
  rw [← hQ0]
  obtain ⟨hx, hb, hml, hown, hts, hr, hlk, hnm⟩ := id E
  have hown : s.vm.findClass RX0 = some m.cls := hown
  have hl : lv_has ls 1 [(0, .ref ba)] := hl
  obtain ⟨H, hH⟩ : ∃ H, H = s.heap := ⟨_, rfl⟩
  have hP : va_P D vwCl [(ba, .inr (2, [.ref bfa, .ref ba_least, .ref ba_without, .int b_minutes, .int b_found])), (bfa, .inr (3, [.ref bfa_who, .ref bfa_hold, .ref bfa_harm, .ref bfa_cost, .int bf_size]))] H := by rw [hH]; exact hP
  have hS : va_S A s.heap H [] := by rw [hH]; exact va_S.rf
  rw [← hH]
  clear hH
  obtain ⟨locs, hlocs⟩ : ∃ locs : List Loc, locs = [] := ⟨_, rfl⟩
  rw [← hlocs] at hS ⊢
  refine lv_aload_n hx hb dX0_leastHarm_0 rfl (lv_at hl 0 rfl) ?_
  refine va_get (D := D) (ci := 2) (v := .int b_found) (C := RX0) (T := TX0) (N := 5) hx hb hts kin_RX0 hown hG.1 hP 0 rfl rfl 4 (by decide) (hts _ wm_404) (fun _ h9 => h9) rfl dX0_leastHarm_1 ?_
  refine lv_iconst (v := 4) hx hb dX0_leastHarm_4 (by decide) ?_
  refine lv_idiv hx hb dX0_leastHarm_5 (by decide) ?_
  refine lv_topi (fun x1 ex1 => ?_)
  have gx1 := k_rng b_found
  rw [hQ0]
  exact k_iret () hx hb hr hlk (trivial) (hP.sub [0, 1] rfl) (hD.sub [0, 1] (by decide) rfl) hS (by decide) (by decide) dX0_leastHarm_6

set_option maxHeartbeats 4000000 in
set_option maxRecDepth 100000 in
/-- Backlog.firstStep -/
theorem c_firstStep (l : Launch) (hl0 : l.stackTraces = false) (D : va_G) (cy : Nat → ClassId) (sa : Nat → Nat) (ba ba_least ba_without bfa bfa_who bfa_hold bfa_harm bfa_cost : Nat) (b_minutes b_found bf_size : Int32) (bff_who : Nat → Int32) (h_b_minutes : 0 ≤ b_minutes.toInt ∧ b_minutes.toInt ≤ 40) (h_bf_size : 0 ≤ bf_size.toInt ∧ bf_size.toInt ≤ 4) (h_bff_who : rowR 4 0 (8) bff_who) (sz : Nat) : Met l yX0_firstStep (Cond.code yX0_firstStep cX0_firstStep 2 (some .int) :: kWS) ({ frames := 11, cells := 0, slots := 0, locals := 360 }) (kPre D cy sa [.ref ba] [(ba, .inr (2, [.ref bfa, .ref ba_least, .ref ba_without, .int b_minutes, .int b_found])), (bfa, .inr (3, [.ref bfa_who, .ref bfa_hold, .ref bfa_harm, .ref bfa_cost, .int bf_size])), (bfa_who, .inl (cy 0, 4, .inl bff_who))] sz) (va_Qi (fun (r : Int32) (u : Unit) => True) (kB D (va_A [(ba, .inr (2, [.ref bfa, .ref ba_least, .ref ba_without, .int b_minutes, .int b_found])), (bfa, .inr (3, [.ref bfa_who, .ref bfa_hold, .ref bfa_harm, .ref bfa_cost, .int bf_size])), (bfa_who, .inl (cy 0, 4, .inl bff_who))] sz) (fun (u : Unit) => [(ba, .inr (2, [.ref bfa, .ref ba_least, .ref ba_without, .int b_minutes, .int b_found])), (bfa, .inr (3, [.ref bfa_who, .ref bfa_hold, .ref bfa_harm, .ref bfa_cost, .int bf_size])), (bfa_who, .inl (cy 0, 4, .inl bff_who))])) (va_A [(ba, .inr (2, [.ref bfa, .ref ba_least, .ref ba_without, .int b_minutes, .int b_found])), (bfa, .inr (3, [.ref bfa_who, .ref bfa_hold, .ref bfa_harm, .ref bfa_cost, .int bf_size])), (bfa_who, .inl (cy 0, 4, .inl bff_who))] sz)) 0 0 (va_A [(ba, .inr (2, [.ref bfa, .ref ba_least, .ref ba_without, .int b_minutes, .int b_found])), (bfa, .inr (3, [.ref bfa_who, .ref bfa_hold, .ref bfa_harm, .ref bfa_cost, .int bf_size])), (bfa_who, .inl (cy 0, 4, .inl bff_who))] sz) := by
  refine k_ofW (y := yX0_firstStep) (cc := cX0_firstStep) (maxL := 2) (ret := (some .int)) (av := [.ref ba]) (ws := [(ba, .inr (2, [.ref bfa, .ref ba_least, .ref ba_without, .int b_minutes, .int b_found])), (bfa, .inr (3, [.ref bfa_who, .ref bfa_hold, .ref bfa_harm, .ref bfa_cost, .int bf_size])), (bfa_who, .inl (cy 0, 4, .inl bff_who))]) (Qc := fun A => (va_Qi (fun (r : Int32) (u : Unit) => True) (kB D A (fun (u : Unit) => [(ba, .inr (2, [.ref bfa, .ref ba_least, .ref ba_without, .int b_minutes, .int b_found])), (bfa, .inr (3, [.ref bfa_who, .ref bfa_hold, .ref bfa_harm, .ref bfa_cost, .int bf_size])), (bfa_who, .inl (cy 0, 4, .inl bff_who))])) A)) (by decide) (Nat.le_of_ble_eq_true rfl) ?_
  intro p e s m below meth c ls A E hA hP hD hG hS hl
  obtain ⟨Q0, hQ0⟩ : ∃ Q0 : State → Prop, Q0 = MQ below (va_Qi (fun (r : Int32) (u : Unit) => True) (kB D A (fun (u : Unit) => [(ba, .inr (2, [.ref bfa, .ref ba_least, .ref ba_without, .int b_minutes, .int b_found])), (bfa, .inr (3, [.ref bfa_who, .ref bfa_hold, .ref bfa_harm, .ref bfa_cost, .int bf_size])), (bfa_who, .inl (cy 0, 4, .inl bff_who))])) A) ([.ref ba] : List Value).toArray s 0 0 A := ⟨_, rfl⟩
  rw [← hQ0]
  obtain ⟨hx, hb, hml, hown, hts, hr, hlk, hnm⟩ := id E
  have hown : s.vm.findClass RX0 = some m.cls := hown
  have hl : lv_has ls 2 [(0, .ref ba)] := hl
  obtain ⟨H, hH⟩ : ∃ H, H = s.heap := ⟨_, rfl⟩
  have hP : va_P D vwCl [(ba, .inr (2, [.ref bfa, .ref ba_least, .ref ba_without, .int b_minutes, .int b_found])), (bfa, .inr (3, [.ref bfa_who, .ref bfa_hold, .ref bfa_harm, .ref bfa_cost, .int bf_size])), (bfa_who, .inl (cy 0, 4, .inl bff_who))] H := by rw [hH]; exact hP
  have hS : va_S A s.heap H [] := by rw [hH]; exact va_S.rf
  rw [← hH]
  clear hH
  obtain ⟨locs, hlocs⟩ : ∃ locs : List Loc, locs = [] := ⟨_, rfl⟩
  rw [← hlocs] at hS ⊢
  refine lv_aload_n hx hb dX0_firstStep_0 rfl (lv_at hl 0 rfl) ?_
  refine va_get (D := D) (ci := 2) (v := .int b_found) (C := RX0) (T := TX0) (N := 5) hx hb hts kin_RX0 hown hG.1 hP 0 rfl rfl 4 (by decide) (hts _ wm_404) (fun _ h9 => h9) rfl dX0_firstStep_1 ?_
  refine lv_iconst (v := 4) hx hb dX0_firstStep_4 (by decide) ?_
  refine lv_irem hx hb dX0_firstStep_5 (by decide) ?_
  refine lv_topi (fun x1 ex1 => ?_)
  have gx1 := k_rng b_found
  refine lv_istore_n (lv' := [(1, .int x1), (0, .ref ba)]) hx hb dX0_firstStep_6 rfl hl (by decide) rfl (fun ls hl => ?_)
  refine lv_aload_n hx hb dX0_firstStep_7 rfl (lv_at hl 1 rfl) ?_
  refine va_get (D := D) (ci := 2) (v := .ref bfa) (C := RX0) (T := TX0) (N := 5) hx hb hts kin_RX0 hown hG.1 hP 0 rfl rfl 0 (by decide) (hts _ wm_400) (fun _ h9 => h9) rfl dX0_firstStep_8 ?_
  refine lv_iload_n hx hb dX0_firstStep_11 rfl (lv_at hl 0 rfl) ?_
  refine k_cali [0, 2] (⟨hP, hD, hG, hS, hA, rfl, rfl⟩ : kAt D cy sa A s H _ _ [(bfa, .inr (3, [.ref bfa_who, .ref bfa_hold, .ref bfa_harm, .ref bfa_cost, .int bf_size]))] [1]) (wr := [(ba, .inr (2, [.ref bfa, .ref ba_least, .ref ba_without, .int b_minutes, .int b_found])), (bfa_who, .inl (cy 0, 4, .inl bff_who))]) rfl rfl (by decide) (k_runV 3 1 (As := [.int x1]) (rest := []) E lk_VRX0_74 rfl rfl rfl (c_fhas l hl0 D cy sa bfa bfa_who bfa_hold bfa_harm bfa_cost bf_size x1 ⟨by omega, by omega⟩ H.size) (⟨hP, hD, hG, hS, hA, rfl, rfl⟩ : kAt D cy sa A s H _ _ [(bfa, .inr (3, [.ref bfa_who, .ref bfa_hold, .ref bfa_harm, .ref bfa_cost, .int bf_size]))] [1]) hl.1 rfl rfl ⟨rfl, rfl, ⟨Nat.le_of_ble_eq_true rfl, Nat.le_of_ble_eq_true rfl⟩, ⟨Nat.le_of_ble_eq_true rfl, Nat.le_of_ble_eq_true rfl⟩, Nat.le_of_ble_eq_true rfl⟩ dX0_firstStep_12) (fun r2 u3 H locs hwu3 hP hD hS => ?_)
  have hP : va_P D vwCl [(ba, .inr (2, [.ref bfa, .ref ba_least, .ref ba_without, .int b_minutes, .int b_found])), (bfa_who, .inl (cy 0, 4, .inl bff_who)), (bfa, .inr (3, [.ref bfa_who, .ref bfa_hold, .ref bfa_harm, .ref bfa_cost, .int bf_size]))] H := hP
  have hD : va_D A [(ba, .inr (2, [.ref bfa, .ref ba_least, .ref ba_without, .int b_minutes, .int b_found])), (bfa_who, .inl (cy 0, 4, .inl bff_who)), (bfa, .inr (3, [.ref bfa_who, .ref bfa_hold, .ref bfa_harm, .ref bfa_cost, .int bf_size]))] := hD
  have p4 := hwu3
  refine lv_if_eq (tgt := 30) hx hb dX0_firstStep_15 (by decide) (fun c5 => ?_) (fun c5 => ?_)
  · simp only [k_lt, k_le, k_eq, ne_eq, ge_iff_le, gt_iff_lt, n_L0, n_L0] at c5
    refine lv_iconst (v := (-1)) hx hb dX0_firstStep_30 (by decide) ?_
    rw [hQ0]
    exact k_iret () hx hb hr hlk (trivial) (hP.sub [0, 2, 1] rfl) (hD.sub [0, 2, 1] (by decide) rfl) hS (by decide) (by decide) dX0_firstStep_31
  · simp only [k_lt, k_le, k_eq, ne_eq, ge_iff_le, gt_iff_lt, n_L0, n_L0] at c5
    refine lv_aload_n hx hb dX0_firstStep_18 rfl (lv_at hl 1 rfl) ?_
    refine va_get (D := D) (ci := 2) (v := .ref bfa) (C := RX0) (T := TX0) (N := 5) hx hb hts kin_RX0 hown hG.1 hP 0 rfl rfl 0 (by decide) (hts _ wm_400) (fun _ h9 => h9) rfl dX0_firstStep_19 ?_
    refine va_get (D := D) (ci := 3) (v := .ref bfa_who) (C := RX1) (T := TX1) (N := 5) hx hb hts kin_RX1 hown hG.1 hP 2 rfl rfl 0 (by decide) (hts _ wm_336) (fun _ h9 => h9) rfl dX0_firstStep_22 ?_
    refine lv_iload_n hx hb dX0_firstStep_25 rfl (lv_at hl 0 rfl) ?_
    refine va_iald hx hb hG.1 hP 1 0 rfl rfl (n_in (by omega) (by omega)) dX0_firstStep_26 ?_
    refine lv_topi (fun x6 ex6 => ?_)
    have rx6 : 0 ≤ x6.toInt ∧ x6.toInt ≤ 8 := by rw [ex6]; exact h_bff_who _ (n_lt (by omega) (by omega))
    refine lv_goto (tgt := 31) hx hb dX0_firstStep_27 (by decide) ?_
    rw [hQ0]
    exact k_iret () hx hb hr hlk (trivial) (hP.sub [0, 2, 1] rfl) (hD.sub [0, 2, 1] (by decide) rfl) hS (by decide) (by decide) dX0_firstStep_31
