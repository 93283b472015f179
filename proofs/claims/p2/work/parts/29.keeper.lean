theorem wm_372 : Cond.fieldLink RX4 28 "LentMinds$Keeper" "depth" "I" ∈ kWS := kws_at 372 (by decide +kernel) (by decide +kernel)
theorem wm_368 : Cond.fieldLink RX4 15 "LentMinds$Keeper" "path" "[I" ∈ kWS := kws_at 368 (by decide +kernel) (by decide +kernel)
theorem wm_369 : Cond.fieldLink RX4 18 "LentMinds$Keeper" "move" "[I" ∈ kWS := kws_at 369 (by decide +kernel) (by decide +kernel)
theorem wm_367 : Cond.fieldLink RX4 11 "LentMinds$Keeper" "mark" "[I" ∈ kWS := kws_at 367 (by decide +kernel) (by decide +kernel)
theorem wm_371 : Cond.fieldLink RX4 24 "LentMinds$Keeper" "block" "I" ∈ kWS := kws_at 371 (by decide +kernel) (by decide +kernel)
theorem wm_875 : Cond.code yX4_placeOfMind cX4_placeOfMind 2 (some .int) ∈ kWS := kws_at 875 (by decide +kernel) (by decide +kernel)
theorem wm_872 : Cond.methodLink RX4 72 yX4_placeOfMind ∈ kWS := kws_at 872 (by decide +kernel) (by decide +kernel)
theorem wm_s7 : Cond.selects RX4 yX4_placeOfMind yX4_placeOfMind ∈ kWS := kws_sel 7 (by decide +kernel) (by decide +kernel)
theorem wm_874 : Cond.instanceMethod yX4_placeOfMind ∈ kWS := kws_at 874 (by decide +kernel) (by decide +kernel)
theorem wm_10 : Cond.initialized RX4 ∈ kWS := kws_at 10 (by decide +kernel) (by decide +kernel)
theorem lk_VRX4_72 : kLV RX4 72 yX4_placeOfMind (Cond.code yX4_placeOfMind cX4_placeOfMind 2 (some .int)) 1 := ⟨wm_872, wm_874, wm_s7, wm_10, wm_875, ⟨by decide +kernel, by decide +kernel, by decide +kernel⟩⟩
theorem wm_366 : Cond.fieldLink RX4 34 "LentMinds$Keeper" "few" "LLentMinds$Few;" ∈ kWS := kws_at 366 (by decide +kernel) (by decide +kernel)
theorem wm_347 : Cond.fieldLink RX4 58 "LentMinds$Few" "size" "I" ∈ kWS := kws_at 347 (by decide +kernel) (by decide +kernel)
theorem wm_879 : Cond.code yX1_costOf cX1_costOf 3 (some .int) ∈ kWS := kws_at 879 (by decide +kernel) (by decide +kernel)
theorem wm_876 : Cond.methodLink RX4 76 yX1_costOf ∈ kWS := kws_at 876 (by decide +kernel) (by decide +kernel)
theorem wm_878 : Cond.selects RX1 yX1_costOf yX1_costOf ∈ kWS := kws_at 878 (by decide +kernel) (by decide +kernel)
theorem wm_877 : Cond.instanceMethod yX1_costOf ∈ kWS := kws_at 877 (by decide +kernel) (by decide +kernel)
theorem lk_VRX4_76 : kLV RX4 76 yX1_costOf (Cond.code yX1_costOf cX1_costOf 3 (some .int)) 2 := ⟨wm_876, wm_877, wm_878, wm_9, wm_879, ⟨by decide +kernel, by decide +kernel, by decide +kernel⟩⟩
theorem wm_370 : Cond.fieldLink RX4 21 "LentMinds$Keeper" "without" "[I" ∈ kWS := kws_at 370 (by decide +kernel) (by decide +kernel)
theorem wm_340 : Cond.fieldLink RX4 79 "LentMinds$Few" "hold" "[I" ∈ kWS := kws_at 340 (by decide +kernel) (by decide +kernel)
theorem wm_545 : Cond.methodLink RX4 61 Lib.Math.min.name ∈ kWS := kws_at 545 (by decide +kernel) (by decide +kernel)
theorem wm_548 : Cond.code yJ7_fill_fda19 cJ7_fill_fda19 5 none ∈ kWS := kws_at 548 (by decide +kernel) (by decide +kernel)
theorem wm_546 : Cond.methodLink RX4 66 yJ7_fill_fda19 ∈ kWS := kws_at 546 (by decide +kernel) (by decide +kernel)
theorem wm_547 : Cond.static yJ7_fill_fda19 ∈ kWS := kws_at 547 (by decide +kernel) (by decide +kernel)
theorem lk_SRX4_66 : kLS RX4 66 yJ7_fill_fda19 (Cond.code yJ7_fill_fda19 cJ7_fill_fda19 5 none) 4 := ⟨wm_546, wm_547, wm_24, wm_548, ⟨by decide +kernel, by decide +kernel, by decide +kernel⟩⟩
theorem wm_374 : Cond.fieldLink RX4 31 "LentMinds$Keeper" "first" "I" ∈ kWS := kws_at 374 (by decide +kernel) (by decide +kernel)
theorem wm_859 : Cond.code yX4_push cX4_push 2 none ∈ kWS := kws_at 859 (by decide +kernel) (by decide +kernel)
theorem wm_856 : Cond.methodLink RX4 54 yX4_push ∈ kWS := kws_at 856 (by decide +kernel) (by decide +kernel)
theorem wm_s4 : Cond.selects RX4 yX4_push yX4_push ∈ kWS := kws_sel 4 (by decide +kernel) (by decide +kernel)
theorem wm_858 : Cond.instanceMethod yX4_push ∈ kWS := kws_at 858 (by decide +kernel) (by decide +kernel)
theorem lk_VRX4_54 : kLV RX4 54 yX4_push (Cond.code yX4_push cX4_push 2 none) 1 := ⟨wm_856, wm_858, wm_s4, wm_10, wm_859, ⟨by decide +kernel, by decide +kernel, by decide +kernel⟩⟩
theorem wm_544 : Cond.code yX4_begin cX4_begin 2 none ∈ kWS := kws_at 544 (by decide +kernel) (by decide +kernel)
theorem wm_541 : Cond.methodLink RX4 38 yX4_begin ∈ kWS := kws_at 541 (by decide +kernel) (by decide +kernel)
theorem wm_s2 : Cond.selects RX4 yX4_begin yX4_begin ∈ kWS := kws_sel 2 (by decide +kernel) (by decide +kernel)
theorem wm_543 : Cond.instanceMethod yX4_begin ∈ kWS := kws_at 543 (by decide +kernel) (by decide +kernel)
theorem lk_VRX4_38 : kLV RX4 38 yX4_begin (Cond.code yX4_begin cX4_begin 2 none) 0 := ⟨wm_541, wm_543, wm_s2, wm_10, wm_544, ⟨by decide +kernel, by decide +kernel, by decide +kernel⟩⟩
theorem wm_860 : Cond.methodLink RX4 41 yX1_has ∈ kWS := kws_at 860 (by decide +kernel) (by decide +kernel)
theorem lk_VRX4_41 : kLV RX4 41 yX1_has (Cond.code yX1_has cX1_has 2 (some .boolean)) 1 := ⟨wm_860, wm_861, wm_862, wm_9, wm_863, ⟨by decide +kernel, by decide +kernel, by decide +kernel⟩⟩
theorem wm_871 : Cond.code yX4_stateBehind cX4_stateBehind 9 (some .int) ∈ kWS := kws_at 871 (by decide +kernel) (by decide +kernel)
theorem wm_868 : Cond.methodLink RX4 50 yX4_stateBehind ∈ kWS := kws_at 868 (by decide +kernel) (by decide +kernel)
theorem wm_s6 : Cond.selects RX4 yX4_stateBehind yX4_stateBehind ∈ kWS := kws_sel 6 (by decide +kernel) (by decide +kernel)
theorem wm_870 : Cond.instanceMethod yX4_stateBehind ∈ kWS := kws_at 870 (by decide +kernel) (by decide +kernel)
theorem lk_VRX4_50 : kLV RX4 50 yX4_stateBehind (Cond.code yX4_stateBehind cX4_stateBehind 9 (some .int)) 2 := ⟨wm_868, wm_870, wm_s6, wm_10, wm_871, ⟨by decide +kernel, by decide +kernel, by decide +kernel⟩⟩
theorem wm_867 : Cond.code yX4_giveUp cX4_giveUp 1 none ∈ kWS := kws_at 867 (by decide +kernel) (by decide +kernel)
theorem wm_864 : Cond.methodLink RX4 47 yX4_giveUp ∈ kWS := kws_at 864 (by decide +kernel) (by decide +kernel)
theorem wm_s5 : Cond.selects RX4 yX4_giveUp yX4_giveUp ∈ kWS := kws_sel 5 (by decide +kernel) (by decide +kernel)
theorem wm_866 : Cond.instanceMethod yX4_giveUp ∈ kWS := kws_at 866 (by decide +kernel) (by decide +kernel)
theorem lk_VRX4_47 : kLV RX4 47 yX4_giveUp (Cond.code yX4_giveUp cX4_giveUp 1 none) 0 := ⟨wm_864, wm_866, wm_s5, wm_10, wm_867, ⟨by decide +kernel, by decide +kernel, by decide +kernel⟩⟩
theorem n_L17496 : (17496 : Int32).toInt = 17496 := by decide
theorem wm_337 : Cond.fieldLink RX4 82 "LentMinds$Few" "who" "[I" ∈ kWS := kws_at 337 (by decide +kernel) (by decide +kernel)
theorem dX4_push_0 : decode cX4_push 0 = .ok (.aload_n 0, 1) := by decide +kernel
theorem dX4_push_1 : decode cX4_push 1 = .ok (.getfield 28, 3) := by decide +kernel
theorem dX4_push_4 : decode cX4_push 4 = .ok (.sipush 2916, 3) := by decide +kernel
theorem dX4_push_7 : decode cX4_push 7 = .ok (.if_icmp .ge 50, 3) := by decide +kernel
theorem dX4_push_10 : decode cX4_push 10 = .ok (.iload_n 1, 1) := by decide +kernel
theorem dX4_push_11 : decode cX4_push 11 = .ok (.sipush 2916, 3) := by decide +kernel
theorem dX4_push_14 : decode cX4_push 14 = .ok (.if_icmp .ge 43, 3) := by decide +kernel
theorem dX4_push_17 : decode cX4_push 17 = .ok (.aload_n 0, 1) := by decide +kernel
theorem dX4_push_18 : decode cX4_push 18 = .ok (.getfield 15, 3) := by decide +kernel
theorem dX4_push_21 : decode cX4_push 21 = .ok (.aload_n 0, 1) := by decide +kernel
theorem dX4_push_22 : decode cX4_push 22 = .ok (.getfield 28, 3) := by decide +kernel
theorem dX4_push_25 : decode cX4_push 25 = .ok (.iload_n 1, 1) := by decide +kernel
theorem dX4_push_26 : decode cX4_push 26 = .ok (.iastore, 1) := by decide +kernel
theorem dX4_push_27 : decode cX4_push 27 = .ok (.aload_n 0, 1) := by decide +kernel
theorem dX4_push_28 : decode cX4_push 28 = .ok (.getfield 18, 3) := by decide +kernel
theorem dX4_push_31 : decode cX4_push 31 = .ok (.aload_n 0, 1) := by decide +kernel
theorem dX4_push_32 : decode cX4_push 32 = .ok (.getfield 28, 3) := by decide +kernel
theorem dX4_push_35 : decode cX4_push 35 = .ok (.iconst 0, 1) := by decide +kernel
theorem dX4_push_36 : decode cX4_push 36 = .ok (.iastore, 1) := by decide +kernel
theorem dX4_push_37 : decode cX4_push 37 = .ok (.aload_n 0, 1) := by decide +kernel
theorem dX4_push_38 : decode cX4_push 38 = .ok (.dup, 1) := by decide +kernel
theorem dX4_push_39 : decode cX4_push 39 = .ok (.getfield 28, 3) := by decide +kernel
theorem dX4_push_42 : decode cX4_push 42 = .ok (.iconst 1, 1) := by decide +kernel
theorem dX4_push_43 : decode cX4_push 43 = .ok (.iadd, 1) := by decide +kernel
theorem dX4_push_44 : decode cX4_push 44 = .ok (.putfield 28, 3) := by decide +kernel
theorem dX4_push_47 : decode cX4_push 47 = .ok (.aload_n 0, 1) := by decide +kernel
theorem dX4_push_48 : decode cX4_push 48 = .ok (.getfield 11, 3) := by decide +kernel
theorem dX4_push_51 : decode cX4_push 51 = .ok (.iload_n 1, 1) := by decide +kernel
theorem dX4_push_52 : decode cX4_push 52 = .ok (.aload_n 0, 1) := by decide +kernel
theorem dX4_push_53 : decode cX4_push 53 = .ok (.getfield 28, 3) := by decide +kernel
theorem dX4_push_56 : decode cX4_push 56 = .ok (.iastore, 1) := by decide +kernel
theorem dX4_push_57 : decode cX4_push 57 = .ok (.return_, 1) := by decide +kernel
theorem dX4_giveUp_0 : decode cX4_giveUp 0 = .ok (.aload_n 0, 1) := by decide +kernel
theorem dX4_giveUp_1 : decode cX4_giveUp 1 = .ok (.dup, 1) := by decide +kernel
theorem dX4_giveUp_2 : decode cX4_giveUp 2 = .ok (.getfield 28, 3) := by decide +kernel
theorem dX4_giveUp_5 : decode cX4_giveUp 5 = .ok (.iconst 1, 1) := by decide +kernel
theorem dX4_giveUp_6 : decode cX4_giveUp 6 = .ok (.isub, 1) := by decide +kernel
theorem dX4_giveUp_7 : decode cX4_giveUp 7 = .ok (.putfield 28, 3) := by decide +kernel
theorem dX4_giveUp_10 : decode cX4_giveUp 10 = .ok (.aload_n 0, 1) := by decide +kernel
theorem dX4_giveUp_11 : decode cX4_giveUp 11 = .ok (.getfield 11, 3) := by decide +kernel
theorem dX4_giveUp_14 : decode cX4_giveUp 14 = .ok (.aload_n 0, 1) := by decide +kernel
theorem dX4_giveUp_15 : decode cX4_giveUp 15 = .ok (.getfield 15, 3) := by decide +kernel
theorem dX4_giveUp_18 : decode cX4_giveUp 18 = .ok (.aload_n 0, 1) := by decide +kernel
theorem dX4_giveUp_19 : decode cX4_giveUp 19 = .ok (.getfield 28, 3) := by decide +kernel
theorem dX4_giveUp_22 : decode cX4_giveUp 22 = .ok (.iaload, 1) := by decide +kernel
theorem dX4_giveUp_23 : decode cX4_giveUp 23 = .ok (.iconst (-1), 1) := by decide +kernel
theorem dX4_giveUp_24 : decode cX4_giveUp 24 = .ok (.iastore, 1) := by decide +kernel
theorem dX4_giveUp_25 : decode cX4_giveUp 25 = .ok (.aload_n 0, 1) := by decide +kernel
theorem dX4_giveUp_26 : decode cX4_giveUp 26 = .ok (.getfield 28, 3) := by decide +kernel
theorem dX4_giveUp_29 : decode cX4_giveUp 29 = .ok (.ifCond .le 18, 3) := by decide +kernel
theorem dX4_giveUp_32 : decode cX4_giveUp 32 = .ok (.aload_n 0, 1) := by decide +kernel
theorem dX4_giveUp_33 : decode cX4_giveUp 33 = .ok (.getfield 18, 3) := by decide +kernel
theorem dX4_giveUp_36 : decode cX4_giveUp 36 = .ok (.aload_n 0, 1) := by decide +kernel
theorem dX4_giveUp_37 : decode cX4_giveUp 37 = .ok (.getfield 28, 3) := by decide +kernel
theorem dX4_giveUp_40 : decode cX4_giveUp 40 = .ok (.iconst 1, 1) := by decide +kernel
theorem dX4_giveUp_41 : decode cX4_giveUp 41 = .ok (.isub, 1) := by decide +kernel
theorem dX4_giveUp_42 : decode cX4_giveUp 42 = .ok (.dup2, 1) := by decide +kernel
theorem dX4_giveUp_43 : decode cX4_giveUp 43 = .ok (.iaload, 1) := by decide +kernel
theorem dX4_giveUp_44 : decode cX4_giveUp 44 = .ok (.iconst 1, 1) := by decide +kernel
theorem dX4_giveUp_45 : decode cX4_giveUp 45 = .ok (.iadd, 1) := by decide +kernel
theorem dX4_giveUp_46 : decode cX4_giveUp 46 = .ok (.iastore, 1) := by decide +kernel
theorem dX4_giveUp_47 : decode cX4_giveUp 47 = .ok (.return_, 1) := by decide +kernel
theorem dX4_placeOfMind_0 : decode cX4_placeOfMind 0 = .ok (.aload_n 0, 1) := by decide +kernel
theorem dX4_placeOfMind_1 : decode cX4_placeOfMind 1 = .ok (.getfield 24, 3) := by decide +kernel
theorem dX4_placeOfMind_4 : decode cX4_placeOfMind 4 = .ok (.iconst 1, 1) := by decide +kernel
theorem dX4_placeOfMind_5 : decode cX4_placeOfMind 5 = .ok (.if_icmp .ge 7, 3) := by decide +kernel
theorem dX4_placeOfMind_8 : decode cX4_placeOfMind 8 = .ok (.iconst 0, 1) := by decide +kernel
theorem dX4_placeOfMind_9 : decode cX4_placeOfMind 9 = .ok (.goto 9, 3) := by decide +kernel
theorem dX4_placeOfMind_12 : decode cX4_placeOfMind 12 = .ok (.iload_n 1, 1) := by decide +kernel
theorem dX4_placeOfMind_13 : decode cX4_placeOfMind 13 = .ok (.aload_n 0, 1) := by decide +kernel
theorem dX4_placeOfMind_14 : decode cX4_placeOfMind 14 = .ok (.getfield 24, 3) := by decide +kernel
theorem dX4_placeOfMind_17 : decode cX4_placeOfMind 17 = .ok (.idiv, 1) := by decide +kernel
theorem dX4_placeOfMind_18 : decode cX4_placeOfMind 18 = .ok (.ireturn, 1) := by decide +kernel
theorem dX4_stateBehind_0 : decode cX4_stateBehind 0 = .ok (.aload_n 0, 1) := by decide +kernel
theorem dX4_stateBehind_1 : decode cX4_stateBehind 1 = .ok (.iload_n 1, 1) := by decide +kernel
theorem dX4_stateBehind_2 : decode cX4_stateBehind 2 = .ok (.invokevirtual 72, 3) := by decide +kernel
theorem dX4_stateBehind_5 : decode cX4_stateBehind 5 = .ok (.istore_n 3, 1) := by decide +kernel
theorem dX4_stateBehind_6 : decode cX4_stateBehind 6 = .ok (.iload_n 1, 1) := by decide +kernel
theorem dX4_stateBehind_7 : decode cX4_stateBehind 7 = .ok (.istore 4, 2) := by decide +kernel
theorem dX4_stateBehind_9 : decode cX4_stateBehind 9 = .ok (.aload_n 0, 1) := by decide +kernel
theorem dX4_stateBehind_10 : decode cX4_stateBehind 10 = .ok (.getfield 34, 3) := by decide +kernel
theorem dX4_stateBehind_13 : decode cX4_stateBehind 13 = .ok (.getfield 58, 3) := by decide +kernel
theorem dX4_stateBehind_16 : decode cX4_stateBehind 16 = .ok (.iconst 1, 1) := by decide +kernel
theorem dX4_stateBehind_17 : decode cX4_stateBehind 17 = .ok (.isub, 1) := by decide +kernel
theorem dX4_stateBehind_18 : decode cX4_stateBehind 18 = .ok (.istore 5, 2) := by decide +kernel
theorem dX4_stateBehind_20 : decode cX4_stateBehind 20 = .ok (.iload 5, 2) := by decide +kernel
theorem dX4_stateBehind_22 : decode cX4_stateBehind 22 = .ok (.ifCond .lt 49, 3) := by decide +kernel
theorem dX4_stateBehind_25 : decode cX4_stateBehind 25 = .ok (.aload_n 0, 1) := by decide +kernel
theorem dX4_stateBehind_26 : decode cX4_stateBehind 26 = .ok (.getfield 21, 3) := by decide +kernel
theorem dX4_stateBehind_29 : decode cX4_stateBehind 29 = .ok (.iload 5, 2) := by decide +kernel
theorem dX4_stateBehind_31 : decode cX4_stateBehind 31 = .ok (.iload 5, 2) := by decide +kernel
theorem dX4_stateBehind_33 : decode cX4_stateBehind 33 = .ok (.iload_n 3, 1) := by decide +kernel
theorem dX4_stateBehind_34 : decode cX4_stateBehind 34 = .ok (.if_icmp .ne 7, 3) := by decide +kernel
theorem dX4_stateBehind_37 : decode cX4_stateBehind 37 = .ok (.iconst 0, 1) := by decide +kernel
theorem dX4_stateBehind_38 : decode cX4_stateBehind 38 = .ok (.goto 8, 3) := by decide +kernel
theorem dX4_stateBehind_41 : decode cX4_stateBehind 41 = .ok (.iload 4, 2) := by decide +kernel
theorem dX4_stateBehind_43 : decode cX4_stateBehind 43 = .ok (.bipush 9, 2) := by decide +kernel
theorem dX4_stateBehind_45 : decode cX4_stateBehind 45 = .ok (.irem, 1) := by decide +kernel
theorem dX4_stateBehind_46 : decode cX4_stateBehind 46 = .ok (.iastore, 1) := by decide +kernel
theorem dX4_stateBehind_47 : decode cX4_stateBehind 47 = .ok (.iload 5, 2) := by decide +kernel
theorem dX4_stateBehind_49 : decode cX4_stateBehind 49 = .ok (.iload_n 3, 1) := by decide +kernel
theorem dX4_stateBehind_50 : decode cX4_stateBehind 50 = .ok (.if_icmp .ne 8, 3) := by decide +kernel
theorem dX4_stateBehind_53 : decode cX4_stateBehind 53 = .ok (.iload 4, 2) := by decide +kernel
theorem dX4_stateBehind_55 : decode cX4_stateBehind 55 = .ok (.goto 8, 3) := by decide +kernel
theorem dX4_stateBehind_58 : decode cX4_stateBehind 58 = .ok (.iload 4, 2) := by decide +kernel
theorem dX4_stateBehind_60 : decode cX4_stateBehind 60 = .ok (.bipush 9, 2) := by decide +kernel
theorem dX4_stateBehind_62 : decode cX4_stateBehind 62 = .ok (.idiv, 1) := by decide +kernel
theorem dX4_stateBehind_63 : decode cX4_stateBehind 63 = .ok (.istore 4, 2) := by decide +kernel
theorem dX4_stateBehind_65 : decode cX4_stateBehind 65 = .ok (.iinc 5 (-1), 3) := by decide +kernel
theorem dX4_stateBehind_68 : decode cX4_stateBehind 68 = .ok (.goto (-48), 3) := by decide +kernel
theorem dX4_stateBehind_71 : decode cX4_stateBehind 71 = .ok (.aload_n 0, 1) := by decide +kernel
theorem dX4_stateBehind_72 : decode cX4_stateBehind 72 = .ok (.getfield 34, 3) := by decide +kernel
theorem dX4_stateBehind_75 : decode cX4_stateBehind 75 = .ok (.iload_n 3, 1) := by decide +kernel
theorem dX4_stateBehind_76 : decode cX4_stateBehind 76 = .ok (.iload_n 2, 1) := by decide +kernel
theorem dX4_stateBehind_77 : decode cX4_stateBehind 77 = .ok (.invokevirtual 76, 3) := by decide +kernel
theorem dX4_stateBehind_80 : decode cX4_stateBehind 80 = .ok (.istore 5, 2) := by decide +kernel
theorem dX4_stateBehind_82 : decode cX4_stateBehind 82 = .ok (.iload_n 2, 1) := by decide +kernel
theorem dX4_stateBehind_83 : decode cX4_stateBehind 83 = .ok (.istore 6, 2) := by decide +kernel
theorem dX4_stateBehind_85 : decode cX4_stateBehind 85 = .ok (.iconst 0, 1) := by decide +kernel
theorem dX4_stateBehind_86 : decode cX4_stateBehind 86 = .ok (.istore 7, 2) := by decide +kernel
theorem dX4_stateBehind_88 : decode cX4_stateBehind 88 = .ok (.iload 7, 2) := by decide +kernel
theorem dX4_stateBehind_90 : decode cX4_stateBehind 90 = .ok (.aload_n 0, 1) := by decide +kernel
theorem dX4_stateBehind_91 : decode cX4_stateBehind 91 = .ok (.getfield 34, 3) := by decide +kernel
theorem dX4_stateBehind_94 : decode cX4_stateBehind 94 = .ok (.getfield 58, 3) := by decide +kernel
theorem dX4_stateBehind_97 : decode cX4_stateBehind 97 = .ok (.if_icmp .ge 71, 3) := by decide +kernel
theorem dX4_stateBehind_100 : decode cX4_stateBehind 100 = .ok (.aload_n 0, 1) := by decide +kernel
theorem dX4_stateBehind_101 : decode cX4_stateBehind 101 = .ok (.getfield 21, 3) := by decide +kernel
theorem dX4_stateBehind_104 : decode cX4_stateBehind 104 = .ok (.iload 7, 2) := by decide +kernel
theorem dX4_stateBehind_106 : decode cX4_stateBehind 106 = .ok (.iaload, 1) := by decide +kernel
theorem dX4_stateBehind_107 : decode cX4_stateBehind 107 = .ok (.iload 5, 2) := by decide +kernel
theorem dX4_stateBehind_109 : decode cX4_stateBehind 109 = .ok (.iadd, 1) := by decide +kernel
theorem dX4_stateBehind_110 : decode cX4_stateBehind 110 = .ok (.iload 7, 2) := by decide +kernel
theorem dX4_stateBehind_112 : decode cX4_stateBehind 112 = .ok (.iload_n 2, 1) := by decide +kernel
theorem dX4_stateBehind_113 : decode cX4_stateBehind 113 = .ok (.if_icmp .ne 7, 3) := by decide +kernel
theorem dX4_stateBehind_116 : decode cX4_stateBehind 116 = .ok (.iconst 0, 1) := by decide +kernel
theorem dX4_stateBehind_117 : decode cX4_stateBehind 117 = .ok (.goto 4, 3) := by decide +kernel
theorem dX4_stateBehind_120 : decode cX4_stateBehind 120 = .ok (.iconst 1, 1) := by decide +kernel
theorem dX4_stateBehind_121 : decode cX4_stateBehind 121 = .ok (.iadd, 1) := by decide +kernel
theorem dX4_stateBehind_122 : decode cX4_stateBehind 122 = .ok (.istore 8, 2) := by decide +kernel
theorem dX4_stateBehind_124 : decode cX4_stateBehind 124 = .ok (.iload 8, 2) := by decide +kernel
theorem dX4_stateBehind_126 : decode cX4_stateBehind 126 = .ok (.aload_n 0, 1) := by decide +kernel
theorem dX4_stateBehind_127 : decode cX4_stateBehind 127 = .ok (.getfield 34, 3) := by decide +kernel
theorem dX4_stateBehind_130 : decode cX4_stateBehind 130 = .ok (.getfield 79, 3) := by decide +kernel
theorem dX4_stateBehind_133 : decode cX4_stateBehind 133 = .ok (.iload 7, 2) := by decide +kernel
theorem dX4_stateBehind_135 : decode cX4_stateBehind 135 = .ok (.iaload, 1) := by decide +kernel
theorem dX4_stateBehind_136 : decode cX4_stateBehind 136 = .ok (.if_icmp .le 5, 3) := by decide +kernel
theorem dX4_stateBehind_139 : decode cX4_stateBehind 139 = .ok (.iconst (-1), 1) := by decide +kernel
theorem dX4_stateBehind_140 : decode cX4_stateBehind 140 = .ok (.ireturn, 1) := by decide +kernel
theorem dX4_stateBehind_141 : decode cX4_stateBehind 141 = .ok (.iload 7, 2) := by decide +kernel
theorem dX4_stateBehind_143 : decode cX4_stateBehind 143 = .ok (.iload_n 2, 1) := by decide +kernel
theorem dX4_stateBehind_144 : decode cX4_stateBehind 144 = .ok (.if_icmp .ne 8, 3) := by decide +kernel
theorem dX4_stateBehind_147 : decode cX4_stateBehind 147 = .ok (.iload 6, 2) := by decide +kernel
theorem dX4_stateBehind_149 : decode cX4_stateBehind 149 = .ok (.goto 11, 3) := by decide +kernel
theorem dX4_stateBehind_152 : decode cX4_stateBehind 152 = .ok (.iload 6, 2) := by decide +kernel
theorem dX4_stateBehind_154 : decode cX4_stateBehind 154 = .ok (.bipush 9, 2) := by decide +kernel
theorem dX4_stateBehind_156 : decode cX4_stateBehind 156 = .ok (.imul, 1) := by decide +kernel
theorem dX4_stateBehind_157 : decode cX4_stateBehind 157 = .ok (.iload 8, 2) := by decide +kernel
theorem dX4_stateBehind_159 : decode cX4_stateBehind 159 = .ok (.iadd, 1) := by decide +kernel
theorem dX4_stateBehind_160 : decode cX4_stateBehind 160 = .ok (.istore 6, 2) := by decide +kernel
theorem dX4_stateBehind_162 : decode cX4_stateBehind 162 = .ok (.iinc 7 1, 3) := by decide +kernel
theorem dX4_stateBehind_165 : decode cX4_stateBehind 165 = .ok (.goto (-77), 3) := by decide +kernel
theorem dX4_stateBehind_168 : decode cX4_stateBehind 168 = .ok (.iload 6, 2) := by decide +kernel
theorem dX4_stateBehind_170 : decode cX4_stateBehind 170 = .ok (.ireturn, 1) := by decide +kernel
theorem dX4_begin_0 : decode cX4_begin 0 = .ok (.aload_n 0, 1) := by decide +kernel
theorem dX4_begin_1 : decode cX4_begin 1 = .ok (.iconst 1, 1) := by decide +kernel
theorem dX4_begin_2 : decode cX4_begin 2 = .ok (.putfield 24, 3) := by decide +kernel
theorem dX4_begin_5 : decode cX4_begin 5 = .ok (.iconst 1, 1) := by decide +kernel
theorem dX4_begin_6 : decode cX4_begin 6 = .ok (.istore_n 1, 1) := by decide +kernel
theorem dX4_begin_7 : decode cX4_begin 7 = .ok (.iload_n 1, 1) := by decide +kernel
theorem dX4_begin_8 : decode cX4_begin 8 = .ok (.aload_n 0, 1) := by decide +kernel
theorem dX4_begin_9 : decode cX4_begin 9 = .ok (.getfield 34, 3) := by decide +kernel
theorem dX4_begin_12 : decode cX4_begin 12 = .ok (.getfield 58, 3) := by decide +kernel
theorem dX4_begin_15 : decode cX4_begin 15 = .ok (.if_icmp .ge 20, 3) := by decide +kernel
theorem dX4_begin_18 : decode cX4_begin 18 = .ok (.aload_n 0, 1) := by decide +kernel
theorem dX4_begin_19 : decode cX4_begin 19 = .ok (.dup, 1) := by decide +kernel
theorem dX4_begin_20 : decode cX4_begin 20 = .ok (.getfield 24, 3) := by decide +kernel
theorem dX4_begin_23 : decode cX4_begin 23 = .ok (.bipush 9, 2) := by decide +kernel
theorem dX4_begin_25 : decode cX4_begin 25 = .ok (.imul, 1) := by decide +kernel
theorem dX4_begin_26 : decode cX4_begin 26 = .ok (.putfield 24, 3) := by decide +kernel
theorem dX4_begin_29 : decode cX4_begin 29 = .ok (.iinc 1 1, 3) := by decide +kernel
theorem dX4_begin_32 : decode cX4_begin 32 = .ok (.goto (-25), 3) := by decide +kernel
theorem dX4_begin_35 : decode cX4_begin 35 = .ok (.aload_n 0, 1) := by decide +kernel
theorem dX4_begin_36 : decode cX4_begin 36 = .ok (.getfield 11, 3) := by decide +kernel
theorem dX4_begin_39 : decode cX4_begin 39 = .ok (.iconst 0, 1) := by decide +kernel
theorem dX4_begin_40 : decode cX4_begin 40 = .ok (.aload_n 0, 1) := by decide +kernel
theorem dX4_begin_41 : decode cX4_begin 41 = .ok (.getfield 24, 3) := by decide +kernel
theorem dX4_begin_44 : decode cX4_begin 44 = .ok (.aload_n 0, 1) := by decide +kernel
theorem dX4_begin_45 : decode cX4_begin 45 = .ok (.getfield 34, 3) := by decide +kernel
theorem dX4_begin_48 : decode cX4_begin 48 = .ok (.getfield 58, 3) := by decide +kernel
theorem dX4_begin_51 : decode cX4_begin 51 = .ok (.imul, 1) := by decide +kernel
theorem dX4_begin_52 : decode cX4_begin 52 = .ok (.sipush 2916, 3) := by decide +kernel
theorem dX4_begin_55 : decode cX4_begin 55 = .ok (.invokestatic 61, 3) := by decide +kernel
theorem dX4_begin_58 : decode cX4_begin 58 = .ok (.iconst 0, 1) := by decide +kernel
theorem dX4_begin_59 : decode cX4_begin 59 = .ok (.invokestatic 66, 3) := by decide +kernel
theorem dX4_begin_62 : decode cX4_begin 62 = .ok (.aload_n 0, 1) := by decide +kernel
theorem dX4_begin_63 : decode cX4_begin 63 = .ok (.iconst 0, 1) := by decide +kernel
theorem dX4_begin_64 : decode cX4_begin 64 = .ok (.putfield 28, 3) := by decide +kernel
theorem dX4_begin_67 : decode cX4_begin 67 = .ok (.aload_n 0, 1) := by decide +kernel
theorem dX4_begin_68 : decode cX4_begin 68 = .ok (.iconst 0, 1) := by decide +kernel
theorem dX4_begin_69 : decode cX4_begin 69 = .ok (.putfield 31, 3) := by decide +kernel
theorem dX4_begin_72 : decode cX4_begin 72 = .ok (.aload_n 0, 1) := by decide +kernel
theorem dX4_begin_73 : decode cX4_begin 73 = .ok (.iconst 0, 1) := by decide +kernel
theorem dX4_begin_74 : decode cX4_begin 74 = .ok (.invokevirtual 54, 3) := by decide +kernel
theorem dX4_begin_77 : decode cX4_begin 77 = .ok (.return_, 1) := by decide +kernel
theorem dX4_hold_0 : decode cX4_hold 0 = .ok (.aload_n 0, 1) := by decide +kernel
theorem dX4_hold_1 : decode cX4_hold 1 = .ok (.invokevirtual 38, 3) := by decide +kernel
theorem dX4_hold_4 : decode cX4_hold 4 = .ok (.sipush 17496, 3) := by decide +kernel
theorem dX4_hold_7 : decode cX4_hold 7 = .ok (.istore_n 1, 1) := by decide +kernel
theorem dX4_hold_8 : decode cX4_hold 8 = .ok (.iload_n 1, 1) := by decide +kernel
theorem dX4_hold_9 : decode cX4_hold 9 = .ok (.ifCond .le 130, 3) := by decide +kernel
theorem dX4_hold_12 : decode cX4_hold 12 = .ok (.aload_n 0, 1) := by decide +kernel
theorem dX4_hold_13 : decode cX4_hold 13 = .ok (.getfield 28, 3) := by decide +kernel
theorem dX4_hold_16 : decode cX4_hold 16 = .ok (.ifCond .le 123, 3) := by decide +kernel
theorem dX4_hold_19 : decode cX4_hold 19 = .ok (.aload_n 0, 1) := by decide +kernel
theorem dX4_hold_20 : decode cX4_hold 20 = .ok (.getfield 18, 3) := by decide +kernel
theorem dX4_hold_23 : decode cX4_hold 23 = .ok (.aload_n 0, 1) := by decide +kernel
theorem dX4_hold_24 : decode cX4_hold 24 = .ok (.getfield 28, 3) := by decide +kernel
theorem dX4_hold_27 : decode cX4_hold 27 = .ok (.iconst 1, 1) := by decide +kernel
theorem dX4_hold_28 : decode cX4_hold 28 = .ok (.isub, 1) := by decide +kernel
theorem dX4_hold_29 : decode cX4_hold 29 = .ok (.iaload, 1) := by decide +kernel
theorem dX4_hold_30 : decode cX4_hold 30 = .ok (.istore_n 2, 1) := by decide +kernel
theorem dX4_hold_31 : decode cX4_hold 31 = .ok (.aload_n 0, 1) := by decide +kernel
theorem dX4_hold_32 : decode cX4_hold 32 = .ok (.getfield 34, 3) := by decide +kernel
theorem dX4_hold_35 : decode cX4_hold 35 = .ok (.iload_n 2, 1) := by decide +kernel
theorem dX4_hold_36 : decode cX4_hold 36 = .ok (.invokevirtual 41, 3) := by decide +kernel
theorem dX4_hold_39 : decode cX4_hold 39 = .ok (.ifCond .ne 10, 3) := by decide +kernel
theorem dX4_hold_42 : decode cX4_hold 42 = .ok (.aload_n 0, 1) := by decide +kernel
theorem dX4_hold_43 : decode cX4_hold 43 = .ok (.invokevirtual 47, 3) := by decide +kernel
theorem dX4_hold_46 : decode cX4_hold 46 = .ok (.goto 87, 3) := by decide +kernel
theorem dX4_hold_49 : decode cX4_hold 49 = .ok (.aload_n 0, 1) := by decide +kernel
theorem dX4_hold_50 : decode cX4_hold 50 = .ok (.aload_n 0, 1) := by decide +kernel
theorem dX4_hold_51 : decode cX4_hold 51 = .ok (.getfield 15, 3) := by decide +kernel
theorem dX4_hold_54 : decode cX4_hold 54 = .ok (.aload_n 0, 1) := by decide +kernel
theorem dX4_hold_55 : decode cX4_hold 55 = .ok (.getfield 28, 3) := by decide +kernel
theorem dX4_hold_58 : decode cX4_hold 58 = .ok (.iconst 1, 1) := by decide +kernel
theorem dX4_hold_59 : decode cX4_hold 59 = .ok (.isub, 1) := by decide +kernel
theorem dX4_hold_60 : decode cX4_hold 60 = .ok (.iaload, 1) := by decide +kernel
theorem dX4_hold_61 : decode cX4_hold 61 = .ok (.iload_n 2, 1) := by decide +kernel
theorem dX4_hold_62 : decode cX4_hold 62 = .ok (.invokevirtual 50, 3) := by decide +kernel
theorem dX4_hold_65 : decode cX4_hold 65 = .ok (.istore_n 3, 1) := by decide +kernel
theorem dX4_hold_66 : decode cX4_hold 66 = .ok (.iload_n 3, 1) := by decide +kernel
theorem dX4_hold_67 : decode cX4_hold 67 = .ok (.ifCond .lt 20, 3) := by decide +kernel
theorem dX4_hold_70 : decode cX4_hold 70 = .ok (.iload_n 3, 1) := by decide +kernel
theorem dX4_hold_71 : decode cX4_hold 71 = .ok (.sipush 2916, 3) := by decide +kernel
theorem dX4_hold_74 : decode cX4_hold 74 = .ok (.if_icmp .ge 13, 3) := by decide +kernel
theorem dX4_hold_77 : decode cX4_hold 77 = .ok (.aload_n 0, 1) := by decide +kernel
theorem dX4_hold_78 : decode cX4_hold 78 = .ok (.getfield 11, 3) := by decide +kernel
theorem dX4_hold_81 : decode cX4_hold 81 = .ok (.iload_n 3, 1) := by decide +kernel
theorem dX4_hold_82 : decode cX4_hold 82 = .ok (.iaload, 1) := by decide +kernel
theorem dX4_hold_83 : decode cX4_hold 83 = .ok (.iconst (-1), 1) := by decide +kernel
theorem dX4_hold_84 : decode cX4_hold 84 = .ok (.if_icmp .ne 21, 3) := by decide +kernel
theorem dX4_hold_87 : decode cX4_hold 87 = .ok (.aload_n 0, 1) := by decide +kernel
theorem dX4_hold_88 : decode cX4_hold 88 = .ok (.getfield 18, 3) := by decide +kernel
theorem dX4_hold_91 : decode cX4_hold 91 = .ok (.aload_n 0, 1) := by decide +kernel
theorem dX4_hold_92 : decode cX4_hold 92 = .ok (.getfield 28, 3) := by decide +kernel
theorem dX4_hold_95 : decode cX4_hold 95 = .ok (.iconst 1, 1) := by decide +kernel
theorem dX4_hold_96 : decode cX4_hold 96 = .ok (.isub, 1) := by decide +kernel
theorem dX4_hold_97 : decode cX4_hold 97 = .ok (.dup2, 1) := by decide +kernel
theorem dX4_hold_98 : decode cX4_hold 98 = .ok (.iaload, 1) := by decide +kernel
theorem dX4_hold_99 : decode cX4_hold 99 = .ok (.iconst 1, 1) := by decide +kernel
theorem dX4_hold_100 : decode cX4_hold 100 = .ok (.iadd, 1) := by decide +kernel
theorem dX4_hold_101 : decode cX4_hold 101 = .ok (.iastore, 1) := by decide +kernel
theorem dX4_hold_102 : decode cX4_hold 102 = .ok (.goto 31, 3) := by decide +kernel
theorem dX4_hold_105 : decode cX4_hold 105 = .ok (.aload_n 0, 1) := by decide +kernel
theorem dX4_hold_106 : decode cX4_hold 106 = .ok (.getfield 11, 3) := by decide +kernel
theorem dX4_hold_109 : decode cX4_hold 109 = .ok (.iload_n 3, 1) := by decide +kernel
theorem dX4_hold_110 : decode cX4_hold 110 = .ok (.iaload, 1) := by decide +kernel
theorem dX4_hold_111 : decode cX4_hold 111 = .ok (.ifCond .le 17, 3) := by decide +kernel
theorem dX4_hold_114 : decode cX4_hold 114 = .ok (.aload_n 0, 1) := by decide +kernel
theorem dX4_hold_115 : decode cX4_hold 115 = .ok (.aload_n 0, 1) := by decide +kernel
theorem dX4_hold_116 : decode cX4_hold 116 = .ok (.getfield 11, 3) := by decide +kernel
theorem dX4_hold_119 : decode cX4_hold 119 = .ok (.iload_n 3, 1) := by decide +kernel
theorem dX4_hold_120 : decode cX4_hold 120 = .ok (.iaload, 1) := by decide +kernel
theorem dX4_hold_121 : decode cX4_hold 121 = .ok (.iconst 1, 1) := by decide +kernel
theorem dX4_hold_122 : decode cX4_hold 122 = .ok (.isub, 1) := by decide +kernel
theorem dX4_hold_123 : decode cX4_hold 123 = .ok (.putfield 31, 3) := by decide +kernel
theorem dX4_hold_126 : decode cX4_hold 126 = .ok (.iconst 1, 1) := by decide +kernel
theorem dX4_hold_127 : decode cX4_hold 127 = .ok (.ireturn, 1) := by decide +kernel
theorem dX4_hold_128 : decode cX4_hold 128 = .ok (.aload_n 0, 1) := by decide +kernel
theorem dX4_hold_129 : decode cX4_hold 129 = .ok (.iload_n 3, 1) := by decide +kernel
theorem dX4_hold_130 : decode cX4_hold 130 = .ok (.invokevirtual 54, 3) := by decide +kernel
theorem dX4_hold_133 : decode cX4_hold 133 = .ok (.iinc 1 (-1), 3) := by decide +kernel
theorem dX4_hold_136 : decode cX4_hold 136 = .ok (.goto (-128), 3) := by decide +kernel
theorem dX4_hold_139 : decode cX4_hold 139 = .ok (.iconst 0, 1) := by decide +kernel
theorem dX4_hold_140 : decode cX4_hold 140 = .ok (.ireturn, 1) := by decide +kernel
theorem dX4_bodyOfStep_0 : decode cX4_bodyOfStep 0 = .ok (.aload_n 0, 1) := by decide +kernel
theorem dX4_bodyOfStep_1 : decode cX4_bodyOfStep 1 = .ok (.getfield 28, 3) := by decide +kernel
theorem dX4_bodyOfStep_4 : decode cX4_bodyOfStep 4 = .ok (.aload_n 0, 1) := by decide +kernel
theorem dX4_bodyOfStep_5 : decode cX4_bodyOfStep 5 = .ok (.getfield 31, 3) := by decide +kernel
theorem dX4_bodyOfStep_8 : decode cX4_bodyOfStep 8 = .ok (.isub, 1) := by decide +kernel
theorem dX4_bodyOfStep_9 : decode cX4_bodyOfStep 9 = .ok (.istore_n 2, 1) := by decide +kernel
theorem dX4_bodyOfStep_10 : decode cX4_bodyOfStep 10 = .ok (.iload_n 2, 1) := by decide +kernel
theorem dX4_bodyOfStep_11 : decode cX4_bodyOfStep 11 = .ok (.iconst 1, 1) := by decide +kernel
theorem dX4_bodyOfStep_12 : decode cX4_bodyOfStep 12 = .ok (.if_icmp .lt 7, 3) := by decide +kernel
theorem dX4_bodyOfStep_15 : decode cX4_bodyOfStep 15 = .ok (.iload_n 1, 1) := by decide +kernel
theorem dX4_bodyOfStep_16 : decode cX4_bodyOfStep 16 = .ok (.ifCond .ge 5, 3) := by decide +kernel
theorem dX4_bodyOfStep_19 : decode cX4_bodyOfStep 19 = .ok (.iconst (-1), 1) := by decide +kernel
theorem dX4_bodyOfStep_20 : decode cX4_bodyOfStep 20 = .ok (.ireturn, 1) := by decide +kernel
theorem dX4_bodyOfStep_21 : decode cX4_bodyOfStep 21 = .ok (.iload_n 1, 1) := by decide +kernel
theorem dX4_bodyOfStep_22 : decode cX4_bodyOfStep 22 = .ok (.aload_n 0, 1) := by decide +kernel
theorem dX4_bodyOfStep_23 : decode cX4_bodyOfStep 23 = .ok (.getfield 28, 3) := by decide +kernel
theorem dX4_bodyOfStep_26 : decode cX4_bodyOfStep 26 = .ok (.if_icmp .ge 7, 3) := by decide +kernel
theorem dX4_bodyOfStep_29 : decode cX4_bodyOfStep 29 = .ok (.iload_n 1, 1) := by decide +kernel
theorem dX4_bodyOfStep_30 : decode cX4_bodyOfStep 30 = .ok (.goto 16, 3) := by decide +kernel
theorem dX4_bodyOfStep_33 : decode cX4_bodyOfStep 33 = .ok (.aload_n 0, 1) := by decide +kernel
theorem dX4_bodyOfStep_34 : decode cX4_bodyOfStep 34 = .ok (.getfield 31, 3) := by decide +kernel
theorem dX4_bodyOfStep_37 : decode cX4_bodyOfStep 37 = .ok (.iload_n 1, 1) := by decide +kernel
theorem dX4_bodyOfStep_38 : decode cX4_bodyOfStep 38 = .ok (.aload_n 0, 1) := by decide +kernel
theorem dX4_bodyOfStep_39 : decode cX4_bodyOfStep 39 = .ok (.getfield 31, 3) := by decide +kernel
theorem dX4_bodyOfStep_42 : decode cX4_bodyOfStep 42 = .ok (.isub, 1) := by decide +kernel
theorem dX4_bodyOfStep_43 : decode cX4_bodyOfStep 43 = .ok (.iload_n 2, 1) := by decide +kernel
theorem dX4_bodyOfStep_44 : decode cX4_bodyOfStep 44 = .ok (.irem, 1) := by decide +kernel
theorem dX4_bodyOfStep_45 : decode cX4_bodyOfStep 45 = .ok (.iadd, 1) := by decide +kernel
theorem dX4_bodyOfStep_46 : decode cX4_bodyOfStep 46 = .ok (.istore_n 3, 1) := by decide +kernel
theorem dX4_bodyOfStep_47 : decode cX4_bodyOfStep 47 = .ok (.aload_n 0, 1) := by decide +kernel
theorem dX4_bodyOfStep_48 : decode cX4_bodyOfStep 48 = .ok (.getfield 34, 3) := by decide +kernel
theorem dX4_bodyOfStep_51 : decode cX4_bodyOfStep 51 = .ok (.aload_n 0, 1) := by decide +kernel
theorem dX4_bodyOfStep_52 : decode cX4_bodyOfStep 52 = .ok (.getfield 18, 3) := by decide +kernel
theorem dX4_bodyOfStep_55 : decode cX4_bodyOfStep 55 = .ok (.iload_n 3, 1) := by decide +kernel
theorem dX4_bodyOfStep_56 : decode cX4_bodyOfStep 56 = .ok (.iaload, 1) := by decide +kernel
theorem dX4_bodyOfStep_57 : decode cX4_bodyOfStep 57 = .ok (.invokevirtual 41, 3) := by decide +kernel
theorem dX4_bodyOfStep_60 : decode cX4_bodyOfStep 60 = .ok (.ifCond .eq 20, 3) := by decide +kernel
theorem dX4_bodyOfStep_63 : decode cX4_bodyOfStep 63 = .ok (.aload_n 0, 1) := by decide +kernel
theorem dX4_bodyOfStep_64 : decode cX4_bodyOfStep 64 = .ok (.getfield 34, 3) := by decide +kernel
theorem dX4_bodyOfStep_67 : decode cX4_bodyOfStep 67 = .ok (.getfield 82, 3) := by decide +kernel
theorem dX4_bodyOfStep_70 : decode cX4_bodyOfStep 70 = .ok (.aload_n 0, 1) := by decide +kernel
theorem dX4_bodyOfStep_71 : decode cX4_bodyOfStep 71 = .ok (.getfield 18, 3) := by decide +kernel
theorem dX4_bodyOfStep_74 : decode cX4_bodyOfStep 74 = .ok (.iload_n 3, 1) := by decide +kernel
theorem dX4_bodyOfStep_75 : decode cX4_bodyOfStep 75 = .ok (.iaload, 1) := by decide +kernel
theorem dX4_bodyOfStep_76 : decode cX4_bodyOfStep 76 = .ok (.iaload, 1) := by decide +kernel
theorem dX4_bodyOfStep_77 : decode cX4_bodyOfStep 77 = .ok (.goto 4, 3) := by decide +kernel
theorem dX4_bodyOfStep_80 : decode cX4_bodyOfStep 80 = .ok (.iconst (-1), 1) := by decide +kernel
theorem dX4_bodyOfStep_81 : decode cX4_bodyOfStep 81 = .ok (.ireturn, 1) := by decide +kernel
theorem dX4_minutesOfRound_0 : decode cX4_minutesOfRound 0 = .ok (.iconst 0, 1) := by decide +kernel
theorem dX4_minutesOfRound_1 : decode cX4_minutesOfRound 1 = .ok (.istore_n 1, 1) := by decide +kernel
theorem dX4_minutesOfRound_2 : decode cX4_minutesOfRound 2 = .ok (.aload_n 0, 1) := by decide +kernel
theorem dX4_minutesOfRound_3 : decode cX4_minutesOfRound 3 = .ok (.getfield 31, 3) := by decide +kernel
theorem dX4_minutesOfRound_6 : decode cX4_minutesOfRound 6 = .ok (.istore_n 2, 1) := by decide +kernel
theorem dX4_minutesOfRound_7 : decode cX4_minutesOfRound 7 = .ok (.iload_n 2, 1) := by decide +kernel
theorem dX4_minutesOfRound_8 : decode cX4_minutesOfRound 8 = .ok (.aload_n 0, 1) := by decide +kernel
theorem dX4_minutesOfRound_9 : decode cX4_minutesOfRound 9 = .ok (.getfield 28, 3) := by decide +kernel
theorem dX4_minutesOfRound_12 : decode cX4_minutesOfRound 12 = .ok (.if_icmp .ge 37, 3) := by decide +kernel
theorem dX4_minutesOfRound_15 : decode cX4_minutesOfRound 15 = .ok (.iload_n 1, 1) := by decide +kernel
theorem dX4_minutesOfRound_16 : decode cX4_minutesOfRound 16 = .ok (.aload_n 0, 1) := by decide +kernel
theorem dX4_minutesOfRound_17 : decode cX4_minutesOfRound 17 = .ok (.getfield 34, 3) := by decide +kernel
theorem dX4_minutesOfRound_20 : decode cX4_minutesOfRound 20 = .ok (.aload_n 0, 1) := by decide +kernel
theorem dX4_minutesOfRound_21 : decode cX4_minutesOfRound 21 = .ok (.aload_n 0, 1) := by decide +kernel
theorem dX4_minutesOfRound_22 : decode cX4_minutesOfRound 22 = .ok (.getfield 15, 3) := by decide +kernel
theorem dX4_minutesOfRound_25 : decode cX4_minutesOfRound 25 = .ok (.iload_n 2, 1) := by decide +kernel
theorem dX4_minutesOfRound_26 : decode cX4_minutesOfRound 26 = .ok (.iaload, 1) := by decide +kernel
theorem dX4_minutesOfRound_27 : decode cX4_minutesOfRound 27 = .ok (.invokevirtual 72, 3) := by decide +kernel
theorem dX4_minutesOfRound_30 : decode cX4_minutesOfRound 30 = .ok (.aload_n 0, 1) := by decide +kernel
theorem dX4_minutesOfRound_31 : decode cX4_minutesOfRound 31 = .ok (.getfield 18, 3) := by decide +kernel
theorem dX4_minutesOfRound_34 : decode cX4_minutesOfRound 34 = .ok (.iload_n 2, 1) := by decide +kernel
theorem dX4_minutesOfRound_35 : decode cX4_minutesOfRound 35 = .ok (.iaload, 1) := by decide +kernel
theorem dX4_minutesOfRound_36 : decode cX4_minutesOfRound 36 = .ok (.invokevirtual 76, 3) := by decide +kernel
theorem dX4_minutesOfRound_39 : decode cX4_minutesOfRound 39 = .ok (.iconst 1, 1) := by decide +kernel
theorem dX4_minutesOfRound_40 : decode cX4_minutesOfRound 40 = .ok (.iadd, 1) := by decide +kernel
theorem dX4_minutesOfRound_41 : decode cX4_minutesOfRound 41 = .ok (.iadd, 1) := by decide +kernel
theorem dX4_minutesOfRound_42 : decode cX4_minutesOfRound 42 = .ok (.istore_n 1, 1) := by decide +kernel
theorem dX4_minutesOfRound_43 : decode cX4_minutesOfRound 43 = .ok (.iinc 2 1, 3) := by decide +kernel
theorem dX4_minutesOfRound_46 : decode cX4_minutesOfRound 46 = .ok (.goto (-39), 3) := by decide +kernel
theorem dX4_minutesOfRound_49 : decode cX4_minutesOfRound 49 = .ok (.iload_n 1, 1) := by decide +kernel
theorem dX4_minutesOfRound_50 : decode cX4_minutesOfRound 50 = .ok (.ireturn, 1) := by decide +kernel
set_option maxHeartbeats 4000000 in
set_option maxRecDepth 100000 in
/-- Keeper.push -/
theorem c_push (l : Launch) (hl0 : l.stackTraces = false) (D : va_G) (cy : Nat → ClassId) (sa : Nat → Nat) (za za_mark za_path za_move za_without zfa zfa_who zfa_hold zfa_harm zfa_cost : Nat) (z_block z_depth z_first zf_size s0 : Int32) (zf_mark zf_path zf_move : Nat → Int32) (h_z_depth : 0 ≤ z_depth.toInt ∧ z_depth.toInt ≤ 2916) (h_z_first : 0 ≤ z_first.toInt ∧ z_first.toInt ≤ 2147483647) (h_zf_path : rowR 2916 0 (2915) zf_path) (h_zf_size : 0 ≤ zf_size.toInt ∧ zf_size.toInt ≤ 4) (h_s0 : 0 ≤ s0.toInt ∧ s0.toInt ≤ 2147483647) (sz : Nat) : Met l yX4_push (Cond.code yX4_push cX4_push 2 none :: kWS) ({ frames := 10, cells := 0, slots := 0, locals := 300 }) (kPre D cy sa [.ref za, .int s0] [(za, .inr (6, [.ref zfa, .ref za_mark, .ref za_path, .ref za_move, .ref za_without, .int z_block, .int z_depth, .int z_first])), (za_mark, .inl (cy 0, 2916, .inl zf_mark)), (za_path, .inl (cy 0, 2916, .inl zf_path)), (za_move, .inl (cy 0, 2916, .inl zf_move)), (zfa, .inr (3, [.ref zfa_who, .ref zfa_hold, .ref zfa_harm, .ref zfa_cost, .int zf_size]))] sz) (va_Qv (fun (u : (Nat → Int32) × (Nat → Nat → Int32)) => (0 ≤ ((u.1 0)).toInt ∧ ((u.1 0)).toInt ≤ 2916) ∧ (rowR 2916 0 (2915) ((u.2 1)))) (kB D (va_A [(za, .inr (6, [.ref zfa, .ref za_mark, .ref za_path, .ref za_move, .ref za_without, .int z_block, .int z_depth, .int z_first])), (za_mark, .inl (cy 0, 2916, .inl zf_mark)), (za_path, .inl (cy 0, 2916, .inl zf_path)), (za_move, .inl (cy 0, 2916, .inl zf_move)), (zfa, .inr (3, [.ref zfa_who, .ref zfa_hold, .ref zfa_harm, .ref zfa_cost, .int zf_size]))] sz) (fun (u : (Nat → Int32) × (Nat → Nat → Int32)) => [(za, .inr (6, [.ref zfa, .ref za_mark, .ref za_path, .ref za_move, .ref za_without, .int z_block, .int ((u.1 0)), .int z_first])), (za_mark, .inl (cy 0, 2916, .inl ((u.2 0)))), (za_path, .inl (cy 0, 2916, .inl ((u.2 1)))), (za_move, .inl (cy 0, 2916, .inl ((u.2 2)))), (zfa, .inr (3, [.ref zfa_who, .ref zfa_hold, .ref zfa_harm, .ref zfa_cost, .int zf_size]))])) (va_A [(za, .inr (6, [.ref zfa, .ref za_mark, .ref za_path, .ref za_move, .ref za_without, .int z_block, .int z_depth, .int z_first])), (za_mark, .inl (cy 0, 2916, .inl zf_mark)), (za_path, .inl (cy 0, 2916, .inl zf_path)), (za_move, .inl (cy 0, 2916, .inl zf_move)), (zfa, .inr (3, [.ref zfa_who, .ref zfa_hold, .ref zfa_harm, .ref zfa_cost, .int zf_size]))] sz)) 0 0 (va_A [(za, .inr (6, [.ref zfa, .ref za_mark, .ref za_path, .ref za_move, .ref za_without, .int z_block, .int z_depth, .int z_first])), (za_mark, .inl (cy 0, 2916, .inl zf_mark)), (za_path, .inl (cy 0, 2916, .inl zf_path)), (za_move, .inl (cy 0, 2916, .inl zf_move)), (zfa, .inr (3, [.ref zfa_who, .ref zfa_hold, .ref zfa_harm, .ref zfa_cost, .int zf_size]))] sz) := by
  refine k_ofW (y := yX4_push) (cc := cX4_push) (maxL := 2) (ret := none) (av := [.ref za, .int s0]) (ws := [(za, .inr (6, [.ref zfa, .ref za_mark, .ref za_path, .ref za_move, .ref za_without, .int z_block, .int z_depth, .int z_first])), (za_mark, .inl (cy 0, 2916, .inl zf_mark)), (za_path, .inl (cy 0, 2916, .inl zf_path)), (za_move, .inl (cy 0, 2916, .inl zf_move)), (zfa, .inr (3, [.ref zfa_who, .ref zfa_hold, .ref zfa_harm, .ref zfa_cost, .int zf_size]))]) (Qc := fun A => (va_Qv (fun (u : (Nat → Int32) × (Nat → Nat → Int32)) => (0 ≤ ((u.1 0)).toInt ∧ ((u.1 0)).toInt ≤ 2916) ∧ (rowR 2916 0 (2915) ((u.2 1)))) (kB D A (fun (u : (Nat → Int32) × (Nat → Nat → Int32)) => [(za, .inr (6, [.ref zfa, .ref za_mark, .ref za_path, .ref za_move, .ref za_without, .int z_block, .int ((u.1 0)), .int z_first])), (za_mark, .inl (cy 0, 2916, .inl ((u.2 0)))), (za_path, .inl (cy 0, 2916, .inl ((u.2 1)))), (za_move, .inl (cy 0, 2916, .inl ((u.2 2)))), (zfa, .inr (3, [.ref zfa_who, .ref zfa_hold, .ref zfa_harm, .ref zfa_cost, .int zf_size]))])) A)) (by decide) (Nat.le_of_ble_eq_true rfl) ?_
  intro p e s m below meth c ls A E hA hP hD hG hS hl
  obtain ⟨Q0, hQ0⟩ : ∃ Q0 : State → Prop, Q0 = MQ below (va_Qv (fun (u : (Nat → Int32) × (Nat → Nat → Int32)) => (0 ≤ ((u.1 0)).toInt ∧ ((u.1 0)).toInt ≤ 2916) ∧ (rowR 2916 0 (2915) ((u.2 1)))) (kB D A (fun (u : (Nat → Int32) × (Nat → Nat → Int32)) => [(za, .inr (6, [.ref zfa, .ref za_mark, .ref za_path, .ref za_move, .ref za_without, .int z_block, .int ((u.1 0)), .int z_first])), (za_mark, .inl (cy 0, 2916, .inl ((u.2 0)))), (za_path, .inl (cy 0, 2916, .inl ((u.2 1)))), (za_move, .inl (cy 0, 2916, .inl ((u.2 2)))), (zfa, .inr (3, [.ref zfa_who, .ref zfa_hold, .ref zfa_harm, .ref zfa_cost, .int zf_size]))])) A) ([.ref za, .int s0] : List Value).toArray s 0 0 A := ⟨_, rfl⟩
  rw [← hQ0]
  obtain ⟨hx, hb, hml, hown, hts, hr, hlk, hnm⟩ := id E
  have hown : s.vm.findClass RX4 = some m.cls := hown
  have hl : lv_has ls 2 [(0, .ref za), (1, .int s0)] := hl
  obtain ⟨H, hH⟩ : ∃ H, H = s.heap := ⟨_, rfl⟩
  have hP : va_P D vwCl [(za, .inr (6, [.ref zfa, .ref za_mark, .ref za_path, .ref za_move, .ref za_without, .int z_block, .int z_depth, .int z_first])), (za_mark, .inl (cy 0, 2916, .inl zf_mark)), (za_path, .inl (cy 0, 2916, .inl zf_path)), (za_move, .inl (cy 0, 2916, .inl zf_move)), (zfa, .inr (3, [.ref zfa_who, .ref zfa_hold, .ref zfa_harm, .ref zfa_cost, .int zf_size]))] H := by rw [hH]; exact hP
  have hS : va_S A s.heap H [] := by rw [hH]; exact va_S.rf
  rw [← hH]
  clear hH
  obtain ⟨locs, hlocs⟩ : ∃ locs : List Loc, locs = [] := ⟨_, rfl⟩
  rw [← hlocs] at hS ⊢
  refine lv_aload_n hx hb dX4_push_0 rfl (lv_at hl 0 rfl) ?_
  refine va_get (D := D) (ci := 6) (v := .int z_depth) (C := RX4) (T := TX4) (N := 8) hx hb hts kin_RX4 hown hG.1 hP 0 rfl rfl 6 (by decide) (hts _ wm_372) (fun _ h9 => h9) rfl dX4_push_1 ?_
  refine lv_sipush (v := 2916) hx hb dX4_push_4 (by decide) ?_
  refine lv_icmp_ge (tgt := 57) hx hb dX4_push_7 (by decide) (fun c1q => ?_) (fun c1q => ?_)
  · simp only [k_lt, k_le, k_eq, ne_eq, ge_iff_le, gt_iff_lt, n_L2916] at c1q
    rw [hQ0]
    exact k_vret (fun k => [z_depth].getD k 0, fun k => [zf_mark, zf_path, zf_move].getD k (fun _ => 0)) hx hb hr hlk (⟨(show 0 ≤ z_depth.toInt ∧ z_depth.toInt ≤ 2916 from ⟨by omega, by omega⟩), (show rowR 2916 0 (2915) zf_path from h_zf_path)⟩) (hP.sub [0, 1, 2, 3, 4] rfl) (hD.sub [0, 1, 2, 3, 4] (by decide) rfl) hS (by decide) (by decide) dX4_push_57
  · simp only [k_lt, k_le, k_eq, ne_eq, ge_iff_le, gt_iff_lt, n_L2916] at c1q
    refine lv_iload_n hx hb dX4_push_10 rfl (lv_at hl 1 rfl) ?_
    refine lv_sipush (v := 2916) hx hb dX4_push_11 (by decide) ?_
    refine lv_icmp_ge (tgt := 57) hx hb dX4_push_14 (by decide) (fun c2q => ?_) (fun c2q => ?_)
    · simp only [k_lt, k_le, k_eq, ne_eq, ge_iff_le, gt_iff_lt, n_L2916] at c2q
      rw [hQ0]
      exact k_vret (fun k => [z_depth].getD k 0, fun k => [zf_mark, zf_path, zf_move].getD k (fun _ => 0)) hx hb hr hlk (⟨(show 0 ≤ z_depth.toInt ∧ z_depth.toInt ≤ 2916 from ⟨by omega, by omega⟩), (show rowR 2916 0 (2915) zf_path from h_zf_path)⟩) (hP.sub [0, 1, 2, 3, 4] rfl) (hD.sub [0, 1, 2, 3, 4] (by decide) rfl) hS (by decide) (by decide) dX4_push_57
    · simp only [k_lt, k_le, k_eq, ne_eq, ge_iff_le, gt_iff_lt, n_L2916] at c2q
      refine lv_aload_n hx hb dX4_push_17 rfl (lv_at hl 0 rfl) ?_
      refine va_get (D := D) (ci := 6) (v := .ref za_path) (C := RX4) (T := TX4) (N := 8) hx hb hts kin_RX4 hown hG.1 hP 0 rfl rfl 2 (by decide) (hts _ wm_368) (fun _ h9 => h9) rfl dX4_push_18 ?_
      refine lv_aload_n hx hb dX4_push_21 rfl (lv_at hl 0 rfl) ?_
      refine va_get (D := D) (ci := 6) (v := .int z_depth) (C := RX4) (T := TX4) (N := 8) hx hb hts kin_RX4 hown hG.1 hP 0 rfl rfl 6 (by decide) (hts _ wm_372) (fun _ h9 => h9) rfl dX4_push_22 ?_
      refine lv_iload_n hx hb dX4_push_25 rfl (lv_at hl 1 rfl) ?_
      refine va_iast hx hb hG.1 hP hD hS 2 0 rfl rfl (n_in (by omega) (by omega)) dX4_push_26 (fun H locs hP hD hS => ?_)
      have hP : va_P D vwCl [(za, .inr (6, [.ref zfa, .ref za_mark, .ref za_path, .ref za_move, .ref za_without, .int z_block, .int z_depth, .int z_first])), (za_mark, .inl (cy 0, 2916, .inl zf_mark)), (za_path, .inl (cy 0, 2916, .inl (upd (zf_path) (z_depth : Int32).toNatClampNeg s0))), (za_move, .inl (cy 0, 2916, .inl zf_move)), (zfa, .inr (3, [.ref zfa_who, .ref zfa_hold, .ref zfa_harm, .ref zfa_cost, .int zf_size]))] H := hP
      have hD : va_D A [(za, .inr (6, [.ref zfa, .ref za_mark, .ref za_path, .ref za_move, .ref za_without, .int z_block, .int z_depth, .int z_first])), (za_mark, .inl (cy 0, 2916, .inl zf_mark)), (za_path, .inl (cy 0, 2916, .inl (upd (zf_path) (z_depth : Int32).toNatClampNeg s0))), (za_move, .inl (cy 0, 2916, .inl zf_move)), (zfa, .inr (3, [.ref zfa_who, .ref zfa_hold, .ref zfa_harm, .ref zfa_cost, .int zf_size]))] := hD
      have hf3q : rowR 2916 0 (2915) (upd (zf_path) (z_depth : Int32).toNatClampNeg s0) := rowR_upd h_zf_path (by omega) (by omega)
      generalize upd (zf_path) (z_depth : Int32).toNatClampNeg s0 = f3q at hP hD hf3q
      have hP : va_P D vwCl [(za, .inr (6, [.ref zfa, .ref za_mark, .ref za_path, .ref za_move, .ref za_without, .int z_block, .int z_depth, .int z_first])), (za_mark, .inl (cy 0, 2916, .inl zf_mark)), (za_path, .inl (cy 0, 2916, .inl f3q)), (za_move, .inl (cy 0, 2916, .inl zf_move)), (zfa, .inr (3, [.ref zfa_who, .ref zfa_hold, .ref zfa_harm, .ref zfa_cost, .int zf_size]))] H := hP
      have hD : va_D A [(za, .inr (6, [.ref zfa, .ref za_mark, .ref za_path, .ref za_move, .ref za_without, .int z_block, .int z_depth, .int z_first])), (za_mark, .inl (cy 0, 2916, .inl zf_mark)), (za_path, .inl (cy 0, 2916, .inl f3q)), (za_move, .inl (cy 0, 2916, .inl zf_move)), (zfa, .inr (3, [.ref zfa_who, .ref zfa_hold, .ref zfa_harm, .ref zfa_cost, .int zf_size]))] := hD
      refine lv_aload_n hx hb dX4_push_27 rfl (lv_at hl 0 rfl) ?_
      refine va_get (D := D) (ci := 6) (v := .ref za_move) (C := RX4) (T := TX4) (N := 8) hx hb hts kin_RX4 hown hG.1 hP 0 rfl rfl 3 (by decide) (hts _ wm_369) (fun _ h9 => h9) rfl dX4_push_28 ?_
      refine lv_aload_n hx hb dX4_push_31 rfl (lv_at hl 0 rfl) ?_
      refine va_get (D := D) (ci := 6) (v := .int z_depth) (C := RX4) (T := TX4) (N := 8) hx hb hts kin_RX4 hown hG.1 hP 0 rfl rfl 6 (by decide) (hts _ wm_372) (fun _ h9 => h9) rfl dX4_push_32 ?_
      refine lv_iconst (v := 0) hx hb dX4_push_35 (by decide) ?_
      refine va_iast hx hb hG.1 hP hD hS 3 0 rfl rfl (n_in (by omega) (by omega)) dX4_push_36 (fun H locs hP hD hS => ?_)
      have hP : va_P D vwCl [(za, .inr (6, [.ref zfa, .ref za_mark, .ref za_path, .ref za_move, .ref za_without, .int z_block, .int z_depth, .int z_first])), (za_mark, .inl (cy 0, 2916, .inl zf_mark)), (za_path, .inl (cy 0, 2916, .inl f3q)), (za_move, .inl (cy 0, 2916, .inl (upd (zf_move) (z_depth : Int32).toNatClampNeg 0))), (zfa, .inr (3, [.ref zfa_who, .ref zfa_hold, .ref zfa_harm, .ref zfa_cost, .int zf_size]))] H := hP
      have hD : va_D A [(za, .inr (6, [.ref zfa, .ref za_mark, .ref za_path, .ref za_move, .ref za_without, .int z_block, .int z_depth, .int z_first])), (za_mark, .inl (cy 0, 2916, .inl zf_mark)), (za_path, .inl (cy 0, 2916, .inl f3q)), (za_move, .inl (cy 0, 2916, .inl (upd (zf_move) (z_depth : Int32).toNatClampNeg 0))), (zfa, .inr (3, [.ref zfa_who, .ref zfa_hold, .ref zfa_harm, .ref zfa_cost, .int zf_size]))] := hD
      generalize upd (zf_move) (z_depth : Int32).toNatClampNeg 0 = f4q at hP hD
      have hP : va_P D vwCl [(za, .inr (6, [.ref zfa, .ref za_mark, .ref za_path, .ref za_move, .ref za_without, .int z_block, .int z_depth, .int z_first])), (za_mark, .inl (cy 0, 2916, .inl zf_mark)), (za_path, .inl (cy 0, 2916, .inl f3q)), (za_move, .inl (cy 0, 2916, .inl f4q)), (zfa, .inr (3, [.ref zfa_who, .ref zfa_hold, .ref zfa_harm, .ref zfa_cost, .int zf_size]))] H := hP
      have hD : va_D A [(za, .inr (6, [.ref zfa, .ref za_mark, .ref za_path, .ref za_move, .ref za_without, .int z_block, .int z_depth, .int z_first])), (za_mark, .inl (cy 0, 2916, .inl zf_mark)), (za_path, .inl (cy 0, 2916, .inl f3q)), (za_move, .inl (cy 0, 2916, .inl f4q)), (zfa, .inr (3, [.ref zfa_who, .ref zfa_hold, .ref zfa_harm, .ref zfa_cost, .int zf_size]))] := hD
      refine lv_aload_n hx hb dX4_push_37 rfl (lv_at hl 0 rfl) ?_
      refine lv_dup hx hb dX4_push_38 rfl ?_
      refine va_get (D := D) (ci := 6) (v := .int z_depth) (C := RX4) (T := TX4) (N := 8) hx hb hts kin_RX4 hown hG.1 hP 0 rfl rfl 6 (by decide) (hts _ wm_372) (fun _ h9 => h9) rfl dX4_push_39 ?_
      refine lv_iconst (v := 1) hx hb dX4_push_42 (by decide) ?_
      refine lv_iadd hx hb dX4_push_43 ?_
      refine lv_topi (fun x5q ex5q => ?_)
      have rx5q := n_add ex5q (a := z_depth.toInt) (b := 1) rfl n_L1 (by omega) (by omega)
      refine va_put (D := D) (ci := 6) (v := .int x5q) (ty := .int) (C := RX4) (T := TX4) (N := 8) hx hb hts kin_RX4 tyX4 tyX4_ok nmX4 hown hG.1 hP hD hS 0 rfl rfl 6 (by decide) (hts _ wm_372) (fun _ h9 => h9) rfl (by decide +kernel) rfl rfl (Nat.le_of_ble_eq_true rfl) dX4_push_44 (fun H locs hP hD hS => ?_)
      have hP : va_P D vwCl [(za, .inr (6, [.ref zfa, .ref za_mark, .ref za_path, .ref za_move, .ref za_without, .int z_block, .int x5q, .int z_first])), (za_mark, .inl (cy 0, 2916, .inl zf_mark)), (za_path, .inl (cy 0, 2916, .inl f3q)), (za_move, .inl (cy 0, 2916, .inl f4q)), (zfa, .inr (3, [.ref zfa_who, .ref zfa_hold, .ref zfa_harm, .ref zfa_cost, .int zf_size]))] H := hP
      have hD : va_D A [(za, .inr (6, [.ref zfa, .ref za_mark, .ref za_path, .ref za_move, .ref za_without, .int z_block, .int x5q, .int z_first])), (za_mark, .inl (cy 0, 2916, .inl zf_mark)), (za_path, .inl (cy 0, 2916, .inl f3q)), (za_move, .inl (cy 0, 2916, .inl f4q)), (zfa, .inr (3, [.ref zfa_who, .ref zfa_hold, .ref zfa_harm, .ref zfa_cost, .int zf_size]))] := hD
      refine lv_aload_n hx hb dX4_push_47 rfl (lv_at hl 0 rfl) ?_
      refine va_get (D := D) (ci := 6) (v := .ref za_mark) (C := RX4) (T := TX4) (N := 8) hx hb hts kin_RX4 hown hG.1 hP 0 rfl rfl 1 (by decide) (hts _ wm_367) (fun _ h9 => h9) rfl dX4_push_48 ?_
      refine lv_iload_n hx hb dX4_push_51 rfl (lv_at hl 1 rfl) ?_
      refine lv_aload_n hx hb dX4_push_52 rfl (lv_at hl 0 rfl) ?_
      refine va_get (D := D) (ci := 6) (v := .int x5q) (C := RX4) (T := TX4) (N := 8) hx hb hts kin_RX4 hown hG.1 hP 0 rfl rfl 6 (by decide) (hts _ wm_372) (fun _ h9 => h9) rfl dX4_push_53 ?_
      refine va_iast hx hb hG.1 hP hD hS 1 0 rfl rfl (n_in (by omega) (by omega)) dX4_push_56 (fun H locs hP hD hS => ?_)
      have hP : va_P D vwCl [(za, .inr (6, [.ref zfa, .ref za_mark, .ref za_path, .ref za_move, .ref za_without, .int z_block, .int x5q, .int z_first])), (za_mark, .inl (cy 0, 2916, .inl (upd (zf_mark) (s0 : Int32).toNatClampNeg x5q))), (za_path, .inl (cy 0, 2916, .inl f3q)), (za_move, .inl (cy 0, 2916, .inl f4q)), (zfa, .inr (3, [.ref zfa_who, .ref zfa_hold, .ref zfa_harm, .ref zfa_cost, .int zf_size]))] H := hP
      have hD : va_D A [(za, .inr (6, [.ref zfa, .ref za_mark, .ref za_path, .ref za_move, .ref za_without, .int z_block, .int x5q, .int z_first])), (za_mark, .inl (cy 0, 2916, .inl (upd (zf_mark) (s0 : Int32).toNatClampNeg x5q))), (za_path, .inl (cy 0, 2916, .inl f3q)), (za_move, .inl (cy 0, 2916, .inl f4q)), (zfa, .inr (3, [.ref zfa_who, .ref zfa_hold, .ref zfa_harm, .ref zfa_cost, .int zf_size]))] := hD
      generalize upd (zf_mark) (s0 : Int32).toNatClampNeg x5q = f6q at hP hD
      have hP : va_P D vwCl [(za, .inr (6, [.ref zfa, .ref za_mark, .ref za_path, .ref za_move, .ref za_without, .int z_block, .int x5q, .int z_first])), (za_mark, .inl (cy 0, 2916, .inl f6q)), (za_path, .inl (cy 0, 2916, .inl f3q)), (za_move, .inl (cy 0, 2916, .inl f4q)), (zfa, .inr (3, [.ref zfa_who, .ref zfa_hold, .ref zfa_harm, .ref zfa_cost, .int zf_size]))] H := hP
      have hD : va_D A [(za, .inr (6, [.ref zfa, .ref za_mark, .ref za_path, .ref za_move, .ref za_without, .int z_block, .int x5q, .int z_first])), (za_mark, .inl (cy 0, 2916, .inl f6q)), (za_path, .inl (cy 0, 2916, .inl f3q)), (za_move, .inl (cy 0, 2916, .inl f4q)), (zfa, .inr (3, [.ref zfa_who, .ref zfa_hold, .ref zfa_harm, .ref zfa_cost, .int zf_size]))] := hD
      rw [hQ0]
      exact k_vret (fun k => [x5q].getD k 0, fun k => [f6q, f3q, f4q].getD k (fun _ => 0)) hx hb hr hlk (⟨(show 0 ≤ x5q.toInt ∧ x5q.toInt ≤ 2916 from ⟨by omega, by omega⟩), (show rowR 2916 0 (2915) f3q from hf3q)⟩) (hP.sub [0, 1, 2, 3, 4] rfl) (hD.sub [0, 1, 2, 3, 4] (by decide) rfl) hS (by decide) (by decide) dX4_push_57

set_option maxHeartbeats 4000000 in
set_option maxRecDepth 100000 in
/-- Keeper.giveUp -/
theorem c_giveUp (l : Launch) (hl0 : l.stackTraces = false) (D : va_G) (cy : Nat → ClassId) (sa : Nat → Nat) (za za_mark za_path za_move za_without zfa zfa_who zfa_hold zfa_harm zfa_cost : Nat) (z_block z_depth z_first zf_size : Int32) (zf_mark zf_path zf_move : Nat → Int32) (h_z_depth : 0 ≤ z_depth.toInt ∧ z_depth.toInt ≤ 2916) (h_z_first : 0 ≤ z_first.toInt ∧ z_first.toInt ≤ 2147483647) (h_zf_path : rowR 2916 0 (2915) zf_path) (h_zf_size : 0 ≤ zf_size.toInt ∧ zf_size.toInt ≤ 4) (hdp : 1 ≤ z_depth.toInt) (sz : Nat) : Met l yX4_giveUp (Cond.code yX4_giveUp cX4_giveUp 1 none :: kWS) ({ frames := 10, cells := 0, slots := 0, locals := 300 }) (kPre D cy sa [.ref za] [(za, .inr (6, [.ref zfa, .ref za_mark, .ref za_path, .ref za_move, .ref za_without, .int z_block, .int z_depth, .int z_first])), (za_mark, .inl (cy 0, 2916, .inl zf_mark)), (za_path, .inl (cy 0, 2916, .inl zf_path)), (za_move, .inl (cy 0, 2916, .inl zf_move)), (zfa, .inr (3, [.ref zfa_who, .ref zfa_hold, .ref zfa_harm, .ref zfa_cost, .int zf_size]))] sz) (va_Qv (fun (u : (Nat → Int32) × (Nat → Nat → Int32)) => (0 ≤ ((u.1 0)).toInt ∧ ((u.1 0)).toInt ≤ 2916)) (kB D (va_A [(za, .inr (6, [.ref zfa, .ref za_mark, .ref za_path, .ref za_move, .ref za_without, .int z_block, .int z_depth, .int z_first])), (za_mark, .inl (cy 0, 2916, .inl zf_mark)), (za_path, .inl (cy 0, 2916, .inl zf_path)), (za_move, .inl (cy 0, 2916, .inl zf_move)), (zfa, .inr (3, [.ref zfa_who, .ref zfa_hold, .ref zfa_harm, .ref zfa_cost, .int zf_size]))] sz) (fun (u : (Nat → Int32) × (Nat → Nat → Int32)) => [(za, .inr (6, [.ref zfa, .ref za_mark, .ref za_path, .ref za_move, .ref za_without, .int z_block, .int ((u.1 0)), .int z_first])), (za_mark, .inl (cy 0, 2916, .inl ((u.2 0)))), (za_path, .inl (cy 0, 2916, .inl zf_path)), (za_move, .inl (cy 0, 2916, .inl ((u.2 1)))), (zfa, .inr (3, [.ref zfa_who, .ref zfa_hold, .ref zfa_harm, .ref zfa_cost, .int zf_size]))])) (va_A [(za, .inr (6, [.ref zfa, .ref za_mark, .ref za_path, .ref za_move, .ref za_without, .int z_block, .int z_depth, .int z_first])), (za_mark, .inl (cy 0, 2916, .inl zf_mark)), (za_path, .inl (cy 0, 2916, .inl zf_path)), (za_move, .inl (cy 0, 2916, .inl zf_move)), (zfa, .inr (3, [.ref zfa_who, .ref zfa_hold, .ref zfa_harm, .ref zfa_cost, .int zf_size]))] sz)) 0 0 (va_A [(za, .inr (6, [.ref zfa, .ref za_mark, .ref za_path, .ref za_move, .ref za_without, .int z_block, .int z_depth, .int z_first])), (za_mark, .inl (cy 0, 2916, .inl zf_mark)), (za_path, .inl (cy 0, 2916, .inl zf_path)), (za_move, .inl (cy 0, 2916, .inl zf_move)), (zfa, .inr (3, [.ref zfa_who, .ref zfa_hold, .ref zfa_harm, .ref zfa_cost, .int zf_size]))] sz) := by
  refine k_ofW (y := yX4_giveUp) (cc := cX4_giveUp) (maxL := 1) (ret := none) (av := [.ref za]) (ws := [(za, .inr (6, [.ref zfa, .ref za_mark, .ref za_path, .ref za_move, .ref za_without, .int z_block, .int z_depth, .int z_first])), (za_mark, .inl (cy 0, 2916, .inl zf_mark)), (za_path, .inl (cy 0, 2916, .inl zf_path)), (za_move, .inl (cy 0, 2916, .inl zf_move)), (zfa, .inr (3, [.ref zfa_who, .ref zfa_hold, .ref zfa_harm, .ref zfa_cost, .int zf_size]))]) (Qc := fun A => (va_Qv (fun (u : (Nat → Int32) × (Nat → Nat → Int32)) => (0 ≤ ((u.1 0)).toInt ∧ ((u.1 0)).toInt ≤ 2916)) (kB D A (fun (u : (Nat → Int32) × (Nat → Nat → Int32)) => [(za, .inr (6, [.ref zfa, .ref za_mark, .ref za_path, .ref za_move, .ref za_without, .int z_block, .int ((u.1 0)), .int z_first])), (za_mark, .inl (cy 0, 2916, .inl ((u.2 0)))), (za_path, .inl (cy 0, 2916, .inl zf_path)), (za_move, .inl (cy 0, 2916, .inl ((u.2 1)))), (zfa, .inr (3, [.ref zfa_who, .ref zfa_hold, .ref zfa_harm, .ref zfa_cost, .int zf_size]))])) A)) (by decide) (Nat.le_of_ble_eq_true rfl) ?_
  intro p e s m below meth c ls A E hA hP hD hG hS hl
  obtain ⟨Q0, hQ0⟩ : ∃ Q0 : State → Prop, Q0 = MQ below (va_Qv (fun (u : (Nat → Int32) × (Nat → Nat → Int32)) => (0 ≤ ((u.1 0)).toInt ∧ ((u.1 0)).toInt ≤ 2916)) (kB D A (fun (u : (Nat → Int32) × (Nat → Nat → Int32)) => [(za, .inr (6, [.ref zfa, .ref za_mark, .ref za_path, .ref za_move, .ref za_without, .int z_block, .int ((u.1 0)), .int z_first])), (za_mark, .inl (cy 0, 2916, .inl ((u.2 0)))), (za_path, .inl (cy 0, 2916, .inl zf_path)), (za_move, .inl (cy 0, 2916, .inl ((u.2 1)))), (zfa, .inr (3, [.ref zfa_who, .ref zfa_hold, .ref zfa_harm, .ref zfa_cost, .int zf_size]))])) A) ([.ref za] : List Value).toArray s 0 0 A := ⟨_, rfl⟩
  rw [← hQ0]
  obtain ⟨hx, hb, hml, hown, hts, hr, hlk, hnm⟩ := id E
  have hown : s.vm.findClass RX4 = some m.cls := hown
  have hl : lv_has ls 1 [(0, .ref za)] := hl
  obtain ⟨H, hH⟩ : ∃ H, H = s.heap := ⟨_, rfl⟩
  have hP : va_P D vwCl [(za, .inr (6, [.ref zfa, .ref za_mark, .ref za_path, .ref za_move, .ref za_without, .int z_block, .int z_depth, .int z_first])), (za_mark, .inl (cy 0, 2916, .inl zf_mark)), (za_path, .inl (cy 0, 2916, .inl zf_path)), (za_move, .inl (cy 0, 2916, .inl zf_move)), (zfa, .inr (3, [.ref zfa_who, .ref zfa_hold, .ref zfa_harm, .ref zfa_cost, .int zf_size]))] H := by rw [hH]; exact hP
  have hS : va_S A s.heap H [] := by rw [hH]; exact va_S.rf
  rw [← hH]
  clear hH
  obtain ⟨locs, hlocs⟩ : ∃ locs : List Loc, locs = [] := ⟨_, rfl⟩
  rw [← hlocs] at hS ⊢
  refine lv_aload_n hx hb dX4_giveUp_0 rfl (lv_at hl 0 rfl) ?_
  refine lv_dup hx hb dX4_giveUp_1 rfl ?_
  refine va_get (D := D) (ci := 6) (v := .int z_depth) (C := RX4) (T := TX4) (N := 8) hx hb hts kin_RX4 hown hG.1 hP 0 rfl rfl 6 (by decide) (hts _ wm_372) (fun _ h9 => h9) rfl dX4_giveUp_2 ?_
  refine lv_iconst (v := 1) hx hb dX4_giveUp_5 (by decide) ?_
  refine lv_isub hx hb dX4_giveUp_6 ?_
  refine lv_topi (fun x1q ex1q => ?_)
  have rx1q := n_sub ex1q (a := z_depth.toInt) (b := 1) rfl n_L1 (by omega) (by omega)
  refine va_put (D := D) (ci := 6) (v := .int x1q) (ty := .int) (C := RX4) (T := TX4) (N := 8) hx hb hts kin_RX4 tyX4 tyX4_ok nmX4 hown hG.1 hP hD hS 0 rfl rfl 6 (by decide) (hts _ wm_372) (fun _ h9 => h9) rfl (by decide +kernel) rfl rfl (Nat.le_of_ble_eq_true rfl) dX4_giveUp_7 (fun H locs hP hD hS => ?_)
  have hP : va_P D vwCl [(za, .inr (6, [.ref zfa, .ref za_mark, .ref za_path, .ref za_move, .ref za_without, .int z_block, .int x1q, .int z_first])), (za_mark, .inl (cy 0, 2916, .inl zf_mark)), (za_path, .inl (cy 0, 2916, .inl zf_path)), (za_move, .inl (cy 0, 2916, .inl zf_move)), (zfa, .inr (3, [.ref zfa_who, .ref zfa_hold, .ref zfa_harm, .ref zfa_cost, .int zf_size]))] H := hP
  have hD : va_D A [(za, .inr (6, [.ref zfa, .ref za_mark, .ref za_path, .ref za_move, .ref za_without, .int z_block, .int x1q, .int z_first])), (za_mark, .inl (cy 0, 2916, .inl zf_mark)), (za_path, .inl (cy 0, 2916, .inl zf_path)), (za_move, .inl (cy 0, 2916, .inl zf_move)), (zfa, .inr (3, [.ref zfa_who, .ref zfa_hold, .ref zfa_harm, .ref zfa_cost, .int zf_size]))] := hD
  refine lv_aload_n hx hb dX4_giveUp_10 rfl (lv_at hl 0 rfl) ?_
  refine va_get (D := D) (ci := 6) (v := .ref za_mark) (C := RX4) (T := TX4) (N := 8) hx hb hts kin_RX4 hown hG.1 hP 0 rfl rfl 1 (by decide) (hts _ wm_367) (fun _ h9 => h9) rfl dX4_giveUp_11 ?_
  refine lv_aload_n hx hb dX4_giveUp_14 rfl (lv_at hl 0 rfl) ?_
  refine va_get (D := D) (ci := 6) (v := .ref za_path) (C := RX4) (T := TX4) (N := 8) hx hb hts kin_RX4 hown hG.1 hP 0 rfl rfl 2 (by decide) (hts _ wm_368) (fun _ h9 => h9) rfl dX4_giveUp_15 ?_
  refine lv_aload_n hx hb dX4_giveUp_18 rfl (lv_at hl 0 rfl) ?_
  refine va_get (D := D) (ci := 6) (v := .int x1q) (C := RX4) (T := TX4) (N := 8) hx hb hts kin_RX4 hown hG.1 hP 0 rfl rfl 6 (by decide) (hts _ wm_372) (fun _ h9 => h9) rfl dX4_giveUp_19 ?_
  refine va_iald hx hb hG.1 hP 2 0 rfl rfl (n_in (by omega) (by omega)) dX4_giveUp_22 ?_
  refine lv_topi (fun x2q ex2q => ?_)
  have rx2q : 0 ≤ x2q.toInt ∧ x2q.toInt ≤ 2915 := by rw [ex2q]; exact h_zf_path _ (n_lt (by omega) (by omega))
  refine lv_iconst (v := (-1)) hx hb dX4_giveUp_23 (by decide) ?_
  refine va_iast hx hb hG.1 hP hD hS 1 0 rfl rfl (n_in (by omega) (by omega)) dX4_giveUp_24 (fun H locs hP hD hS => ?_)
  have hP : va_P D vwCl [(za, .inr (6, [.ref zfa, .ref za_mark, .ref za_path, .ref za_move, .ref za_without, .int z_block, .int x1q, .int z_first])), (za_mark, .inl (cy 0, 2916, .inl (upd (zf_mark) (x2q : Int32).toNatClampNeg (-1)))), (za_path, .inl (cy 0, 2916, .inl zf_path)), (za_move, .inl (cy 0, 2916, .inl zf_move)), (zfa, .inr (3, [.ref zfa_who, .ref zfa_hold, .ref zfa_harm, .ref zfa_cost, .int zf_size]))] H := hP
  have hD : va_D A [(za, .inr (6, [.ref zfa, .ref za_mark, .ref za_path, .ref za_move, .ref za_without, .int z_block, .int x1q, .int z_first])), (za_mark, .inl (cy 0, 2916, .inl (upd (zf_mark) (x2q : Int32).toNatClampNeg (-1)))), (za_path, .inl (cy 0, 2916, .inl zf_path)), (za_move, .inl (cy 0, 2916, .inl zf_move)), (zfa, .inr (3, [.ref zfa_who, .ref zfa_hold, .ref zfa_harm, .ref zfa_cost, .int zf_size]))] := hD
  generalize upd (zf_mark) (x2q : Int32).toNatClampNeg (-1) = f3q at hP hD
  have hP : va_P D vwCl [(za, .inr (6, [.ref zfa, .ref za_mark, .ref za_path, .ref za_move, .ref za_without, .int z_block, .int x1q, .int z_first])), (za_mark, .inl (cy 0, 2916, .inl f3q)), (za_path, .inl (cy 0, 2916, .inl zf_path)), (za_move, .inl (cy 0, 2916, .inl zf_move)), (zfa, .inr (3, [.ref zfa_who, .ref zfa_hold, .ref zfa_harm, .ref zfa_cost, .int zf_size]))] H := hP
  have hD : va_D A [(za, .inr (6, [.ref zfa, .ref za_mark, .ref za_path, .ref za_move, .ref za_without, .int z_block, .int x1q, .int z_first])), (za_mark, .inl (cy 0, 2916, .inl f3q)), (za_path, .inl (cy 0, 2916, .inl zf_path)), (za_move, .inl (cy 0, 2916, .inl zf_move)), (zfa, .inr (3, [.ref zfa_who, .ref zfa_hold, .ref zfa_harm, .ref zfa_cost, .int zf_size]))] := hD
  refine lv_aload_n hx hb dX4_giveUp_25 rfl (lv_at hl 0 rfl) ?_
  refine va_get (D := D) (ci := 6) (v := .int x1q) (C := RX4) (T := TX4) (N := 8) hx hb hts kin_RX4 hown hG.1 hP 0 rfl rfl 6 (by decide) (hts _ wm_372) (fun _ h9 => h9) rfl dX4_giveUp_26 ?_
  refine lv_if_le (tgt := 47) hx hb dX4_giveUp_29 (by decide) (fun c4q => ?_) (fun c4q => ?_)
  · simp only [k_lt, k_le, k_eq, ne_eq, ge_iff_le, gt_iff_lt, n_L0, n_L0] at c4q
    rw [hQ0]
    exact k_vret (fun k => [x1q].getD k 0, fun k => [f3q, zf_move].getD k (fun _ => 0)) hx hb hr hlk ((show 0 ≤ x1q.toInt ∧ x1q.toInt ≤ 2916 from ⟨by omega, by omega⟩)) (hP.sub [0, 1, 2, 3, 4] rfl) (hD.sub [0, 1, 2, 3, 4] (by decide) rfl) hS (by decide) (by decide) dX4_giveUp_47
  · simp only [k_lt, k_le, k_eq, ne_eq, ge_iff_le, gt_iff_lt, n_L0, n_L0] at c4q
    refine lv_aload_n hx hb dX4_giveUp_32 rfl (lv_at hl 0 rfl) ?_
    refine va_get (D := D) (ci := 6) (v := .ref za_move) (C := RX4) (T := TX4) (N := 8) hx hb hts kin_RX4 hown hG.1 hP 0 rfl rfl 3 (by decide) (hts _ wm_369) (fun _ h9 => h9) rfl dX4_giveUp_33 ?_
    refine lv_aload_n hx hb dX4_giveUp_36 rfl (lv_at hl 0 rfl) ?_
    refine va_get (D := D) (ci := 6) (v := .int x1q) (C := RX4) (T := TX4) (N := 8) hx hb hts kin_RX4 hown hG.1 hP 0 rfl rfl 6 (by decide) (hts _ wm_372) (fun _ h9 => h9) rfl dX4_giveUp_37 ?_
    refine lv_iconst (v := 1) hx hb dX4_giveUp_40 (by decide) ?_
    refine lv_isub hx hb dX4_giveUp_41 ?_
    refine lv_topi (fun x5q ex5q => ?_)
    have rx5q := n_sub ex5q (a := x1q.toInt) (b := 1) rfl n_L1 (by omega) (by omega)
    refine lv_dup2_11 hx hb dX4_giveUp_42 rfl rfl ?_
    refine va_iald hx hb hG.1 hP 3 0 rfl rfl (n_in (by omega) (by omega)) dX4_giveUp_43 ?_
    refine lv_topi (fun x6q ex6q => ?_)
    refine lv_iconst (v := 1) hx hb dX4_giveUp_44 (by decide) ?_
    refine lv_iadd hx hb dX4_giveUp_45 ?_
    refine lv_topi (fun x7q ex7q => ?_)
    have gx7q := k_rng x6q
    refine va_iast hx hb hG.1 hP hD hS 3 0 rfl rfl (n_in (by omega) (by omega)) dX4_giveUp_46 (fun H locs hP hD hS => ?_)
    have hP : va_P D vwCl [(za, .inr (6, [.ref zfa, .ref za_mark, .ref za_path, .ref za_move, .ref za_without, .int z_block, .int x1q, .int z_first])), (za_mark, .inl (cy 0, 2916, .inl f3q)), (za_path, .inl (cy 0, 2916, .inl zf_path)), (za_move, .inl (cy 0, 2916, .inl (upd (zf_move) (x5q : Int32).toNatClampNeg x7q))), (zfa, .inr (3, [.ref zfa_who, .ref zfa_hold, .ref zfa_harm, .ref zfa_cost, .int zf_size]))] H := hP
    have hD : va_D A [(za, .inr (6, [.ref zfa, .ref za_mark, .ref za_path, .ref za_move, .ref za_without, .int z_block, .int x1q, .int z_first])), (za_mark, .inl (cy 0, 2916, .inl f3q)), (za_path, .inl (cy 0, 2916, .inl zf_path)), (za_move, .inl (cy 0, 2916, .inl (upd (zf_move) (x5q : Int32).toNatClampNeg x7q))), (zfa, .inr (3, [.ref zfa_who, .ref zfa_hold, .ref zfa_harm, .ref zfa_cost, .int zf_size]))] := hD
    generalize upd (zf_move) (x5q : Int32).toNatClampNeg x7q = f8q at hP hD
    have hP : va_P D vwCl [(za, .inr (6, [.ref zfa, .ref za_mark, .ref za_path, .ref za_move, .ref za_without, .int z_block, .int x1q, .int z_first])), (za_mark, .inl (cy 0, 2916, .inl f3q)), (za_path, .inl (cy 0, 2916, .inl zf_path)), (za_move, .inl (cy 0, 2916, .inl f8q)), (zfa, .inr (3, [.ref zfa_who, .ref zfa_hold, .ref zfa_harm, .ref zfa_cost, .int zf_size]))] H := hP
    have hD : va_D A [(za, .inr (6, [.ref zfa, .ref za_mark, .ref za_path, .ref za_move, .ref za_without, .int z_block, .int x1q, .int z_first])), (za_mark, .inl (cy 0, 2916, .inl f3q)), (za_path, .inl (cy 0, 2916, .inl zf_path)), (za_move, .inl (cy 0, 2916, .inl f8q)), (zfa, .inr (3, [.ref zfa_who, .ref zfa_hold, .ref zfa_harm, .ref zfa_cost, .int zf_size]))] := hD
    rw [hQ0]
    exact k_vret (fun k => [x1q].getD k 0, fun k => [f3q, f8q].getD k (fun _ => 0)) hx hb hr hlk ((show 0 ≤ x1q.toInt ∧ x1q.toInt ≤ 2916 from ⟨by omega, by omega⟩)) (hP.sub [0, 1, 2, 3, 4] rfl) (hD.sub [0, 1, 2, 3, 4] (by decide) rfl) hS (by decide) (by decide) dX4_giveUp_47

set_option maxHeartbeats 4000000 in
set_option maxRecDepth 100000 in
/-- Keeper.placeOfMind -/
theorem c_placeOfMind (l : Launch) (hl0 : l.stackTraces = false) (D : va_G) (cy : Nat → ClassId) (sa : Nat → Nat) (za za_mark za_path za_move za_without zfa zfa_who zfa_hold zfa_harm zfa_cost : Nat) (z_block z_depth z_first zf_size s0 : Int32) (h_z_depth : 0 ≤ z_depth.toInt ∧ z_depth.toInt ≤ 2916) (h_z_first : 0 ≤ z_first.toInt ∧ z_first.toInt ≤ 2147483647) (h_zf_size : 0 ≤ zf_size.toInt ∧ zf_size.toInt ≤ 4) (sz : Nat) : Met l yX4_placeOfMind (Cond.code yX4_placeOfMind cX4_placeOfMind 2 (some .int) :: kWS) ({ frames := 10, cells := 0, slots := 0, locals := 300 }) (kPre D cy sa [.ref za, .int s0] [(za, .inr (6, [.ref zfa, .ref za_mark, .ref za_path, .ref za_move, .ref za_without, .int z_block, .int z_depth, .int z_first])), (zfa, .inr (3, [.ref zfa_who, .ref zfa_hold, .ref zfa_harm, .ref zfa_cost, .int zf_size]))] sz) (va_Qi (fun (r : Int32) (u : Unit) => True) (kB D (va_A [(za, .inr (6, [.ref zfa, .ref za_mark, .ref za_path, .ref za_move, .ref za_without, .int z_block, .int z_depth, .int z_first])), (zfa, .inr (3, [.ref zfa_who, .ref zfa_hold, .ref zfa_harm, .ref zfa_cost, .int zf_size]))] sz) (fun (u : Unit) => [(za, .inr (6, [.ref zfa, .ref za_mark, .ref za_path, .ref za_move, .ref za_without, .int z_block, .int z_depth, .int z_first])), (zfa, .inr (3, [.ref zfa_who, .ref zfa_hold, .ref zfa_harm, .ref zfa_cost, .int zf_size]))])) (va_A [(za, .inr (6, [.ref zfa, .ref za_mark, .ref za_path, .ref za_move, .ref za_without, .int z_block, .int z_depth, .int z_first])), (zfa, .inr (3, [.ref zfa_who, .ref zfa_hold, .ref zfa_harm, .ref zfa_cost, .int zf_size]))] sz)) 0 0 (va_A [(za, .inr (6, [.ref zfa, .ref za_mark, .ref za_path, .ref za_move, .ref za_without, .int z_block, .int z_depth, .int z_first])), (zfa, .inr (3, [.ref zfa_who, .ref zfa_hold, .ref zfa_harm, .ref zfa_cost, .int zf_size]))] sz) := by
  refine k_ofW (y := yX4_placeOfMind) (cc := cX4_placeOfMind) (maxL := 2) (ret := (some .int)) (av := [.ref za, .int s0]) (ws := [(za, .inr (6, [.ref zfa, .ref za_mark, .ref za_path, .ref za_move, .ref za_without, .int z_block, .int z_depth, .int z_first])), (zfa, .inr (3, [.ref zfa_who, .ref zfa_hold, .ref zfa_harm, .ref zfa_cost, .int zf_size]))]) (Qc := fun A => (va_Qi (fun (r : Int32) (u : Unit) => True) (kB D A (fun (u : Unit) => [(za, .inr (6, [.ref zfa, .ref za_mark, .ref za_path, .ref za_move, .ref za_without, .int z_block, .int z_depth, .int z_first])), (zfa, .inr (3, [.ref zfa_who, .ref zfa_hold, .ref zfa_harm, .ref zfa_cost, .int zf_size]))])) A)) (by decide) (Nat.le_of_ble_eq_true rfl) ?_
  intro p e s m below meth c ls A E hA hP hD hG hS hl
  obtain ⟨Q0, hQ0⟩ : ∃ Q0 : State → Prop, Q0 = MQ below (va_Qi (fun (r : Int32) (u : Unit) => True) (kB D A (fun (u : Unit) => [(za, .inr (6, [.ref zfa, .ref za_mark, .ref za_path, .ref za_move, .ref za_without, .int z_block, .int z_depth, .int z_first])), (zfa, .inr (3, [.ref zfa_who, .ref zfa_hold, .ref zfa_harm, .ref zfa_cost, .int zf_size]))])) A) ([.ref za, .int s0] : List Value).toArray s 0 0 A := ⟨_, rfl⟩
  rw [← hQ0]
  obtain ⟨hx, hb, hml, hown, hts, hr, hlk, hnm⟩ := id E
  have hown : s.vm.findClass RX4 = some m.cls := hown
  have hl : lv_has ls 2 [(0, .ref za), (1, .int s0)] := hl
  have g_s0 := k_rng s0
  obtain ⟨H, hH⟩ : ∃ H, H = s.heap := ⟨_, rfl⟩
  have hP : va_P D vwCl [(za, .inr (6, [.ref zfa, .ref za_mark, .ref za_path, .ref za_move, .ref za_without, .int z_block, .int z_depth, .int z_first])), (zfa, .inr (3, [.ref zfa_who, .ref zfa_hold, .ref zfa_harm, .ref zfa_cost, .int zf_size]))] H := by rw [hH]; exact hP
  have hS : va_S A s.heap H [] := by rw [hH]; exact va_S.rf
  rw [← hH]
  clear hH
  obtain ⟨locs, hlocs⟩ : ∃ locs : List Loc, locs = [] := ⟨_, rfl⟩
  rw [← hlocs] at hS ⊢
  refine lv_aload_n hx hb dX4_placeOfMind_0 rfl (lv_at hl 0 rfl) ?_
  refine va_get (D := D) (ci := 6) (v := .int z_block) (C := RX4) (T := TX4) (N := 8) hx hb hts kin_RX4 hown hG.1 hP 0 rfl rfl 5 (by decide) (hts _ wm_371) (fun _ h9 => h9) rfl dX4_placeOfMind_1 ?_
  refine lv_iconst (v := 1) hx hb dX4_placeOfMind_4 (by decide) ?_
  refine lv_icmp_ge (tgt := 12) hx hb dX4_placeOfMind_5 (by decide) (fun c1q => ?_) (fun c1q => ?_)
  · simp only [k_lt, k_le, k_eq, ne_eq, ge_iff_le, gt_iff_lt, n_L1] at c1q
    refine lv_iload_n hx hb dX4_placeOfMind_12 rfl (lv_at hl 1 rfl) ?_
    refine lv_aload_n hx hb dX4_placeOfMind_13 rfl (lv_at hl 0 rfl) ?_
    refine va_get (D := D) (ci := 6) (v := .int z_block) (C := RX4) (T := TX4) (N := 8) hx hb hts kin_RX4 hown hG.1 hP 0 rfl rfl 5 (by decide) (hts _ wm_371) (fun _ h9 => h9) rfl dX4_placeOfMind_14 ?_
    refine lv_idiv hx hb dX4_placeOfMind_17 (n_ne (by omega)) ?_
    refine lv_topi (fun x2q ex2q => ?_)
    have gx2q := k_rng s0
    have gx2q := k_rng z_block
    rw [hQ0]
    exact k_iret () hx hb hr hlk (trivial) (hP.sub [0, 1] rfl) (hD.sub [0, 1] (by decide) rfl) hS (by decide) (by decide) dX4_placeOfMind_18
  · simp only [k_lt, k_le, k_eq, ne_eq, ge_iff_le, gt_iff_lt, n_L1] at c1q
    refine lv_iconst (v := 0) hx hb dX4_placeOfMind_8 (by decide) ?_
    refine lv_goto (tgt := 18) hx hb dX4_placeOfMind_9 (by decide) ?_
    rw [hQ0]
    exact k_iret () hx hb hr hlk (trivial) (hP.sub [0, 1] rfl) (hD.sub [0, 1] (by decide) rfl) hS (by decide) (by decide) dX4_placeOfMind_18

set_option maxHeartbeats 4000000 in
set_option maxRecDepth 100000 in
/-- Keeper.stateBehind -/
theorem c_kstateBehind (l : Launch) (hl0 : l.stackTraces = false) (D : va_G) (cy : Nat → ClassId) (sa : Nat → Nat) (za za_mark za_path za_move za_without zfa zfa_who zfa_hold zfa_harm zfa_cost : Nat) (z_block z_depth z_first zf_size s0 t0 : Int32) (zf_without zff_hold zff_cost : Nat → Int32) (h_z_depth : 0 ≤ z_depth.toInt ∧ z_depth.toInt ≤ 2916) (h_z_first : 0 ≤ z_first.toInt ∧ z_first.toInt ≤ 2147483647) (h_zf_size : 0 ≤ zf_size.toInt ∧ zf_size.toInt ≤ 4) (h_zff_hold : rowR 4 0 (8) zff_hold) (h_zff_cost : rowR 16 0 (39) zff_cost) (sz : Nat) : Met l yX4_stateBehind (Cond.code yX4_stateBehind cX4_stateBehind 9 (some .int) :: kWS) ({ frames := 12, cells := 0, slots := 0, locals := 420 }) (kPre D cy sa [.ref za, .int s0, .int t0] [(za, .inr (6, [.ref zfa, .ref za_mark, .ref za_path, .ref za_move, .ref za_without, .int z_block, .int z_depth, .int z_first])), (za_without, .inl (cy 0, 4, .inl zf_without)), (zfa, .inr (3, [.ref zfa_who, .ref zfa_hold, .ref zfa_harm, .ref zfa_cost, .int zf_size])), (zfa_hold, .inl (cy 0, 4, .inl zff_hold)), (zfa_cost, .inl (cy 0, 16, .inl zff_cost))] sz) (va_Qi (fun (r : Int32) (u : (Nat → Int32) × (Nat → Nat → Int32)) => True) (kB D (va_A [(za, .inr (6, [.ref zfa, .ref za_mark, .ref za_path, .ref za_move, .ref za_without, .int z_block, .int z_depth, .int z_first])), (za_without, .inl (cy 0, 4, .inl zf_without)), (zfa, .inr (3, [.ref zfa_who, .ref zfa_hold, .ref zfa_harm, .ref zfa_cost, .int zf_size])), (zfa_hold, .inl (cy 0, 4, .inl zff_hold)), (zfa_cost, .inl (cy 0, 16, .inl zff_cost))] sz) (fun (u : (Nat → Int32) × (Nat → Nat → Int32)) => [(za, .inr (6, [.ref zfa, .ref za_mark, .ref za_path, .ref za_move, .ref za_without, .int z_block, .int z_depth, .int z_first])), (za_without, .inl (cy 0, 4, .inl ((u.2 0)))), (zfa, .inr (3, [.ref zfa_who, .ref zfa_hold, .ref zfa_harm, .ref zfa_cost, .int zf_size])), (zfa_hold, .inl (cy 0, 4, .inl zff_hold)), (zfa_cost, .inl (cy 0, 16, .inl zff_cost))])) (va_A [(za, .inr (6, [.ref zfa, .ref za_mark, .ref za_path, .ref za_move, .ref za_without, .int z_block, .int z_depth, .int z_first])), (za_without, .inl (cy 0, 4, .inl zf_without)), (zfa, .inr (3, [.ref zfa_who, .ref zfa_hold, .ref zfa_harm, .ref zfa_cost, .int zf_size])), (zfa_hold, .inl (cy 0, 4, .inl zff_hold)), (zfa_cost, .inl (cy 0, 16, .inl zff_cost))] sz)) 0 0 (va_A [(za, .inr (6, [.ref zfa, .ref za_mark, .ref za_path, .ref za_move, .ref za_without, .int z_block, .int z_depth, .int z_first])), (za_without, .inl (cy 0, 4, .inl zf_without)), (zfa, .inr (3, [.ref zfa_who, .ref zfa_hold, .ref zfa_harm, .ref zfa_cost, .int zf_size])), (zfa_hold, .inl (cy 0, 4, .inl zff_hold)), (zfa_cost, .inl (cy 0, 16, .inl zff_cost))] sz) := by
  refine k_ofW (y := yX4_stateBehind) (cc := cX4_stateBehind) (maxL := 9) (ret := (some .int)) (av := [.ref za, .int s0, .int t0]) (ws := [(za, .inr (6, [.ref zfa, .ref za_mark, .ref za_path, .ref za_move, .ref za_without, .int z_block, .int z_depth, .int z_first])), (za_without, .inl (cy 0, 4, .inl zf_without)), (zfa, .inr (3, [.ref zfa_who, .ref zfa_hold, .ref zfa_harm, .ref zfa_cost, .int zf_size])), (zfa_hold, .inl (cy 0, 4, .inl zff_hold)), (zfa_cost, .inl (cy 0, 16, .inl zff_cost))]) (Qc := fun A => (va_Qi (fun (r : Int32) (u : (Nat → Int32) × (Nat → Nat → Int32)) => True) (kB D A (fun (u : (Nat → Int32) × (Nat → Nat → Int32)) => [(za, .inr (6, [.ref zfa, .ref za_mark, .ref za_path, .ref za_move, .ref za_without, .int z_block, .int z_depth, .int z_first])), (za_without, .inl (cy 0, 4, .inl ((u.2 0)))), (zfa, .inr (3, [.ref zfa_who, .ref zfa_hold, .ref zfa_harm, .ref zfa_cost, .int zf_size])), (zfa_hold, .inl (cy 0, 4, .inl zff_hold)), (zfa_cost, .inl (cy 0, 16, .inl zff_cost))])) A)) (by decide) (Nat.le_of_ble_eq_true rfl) ?_
  intro p e s m below meth c ls A E hA hP hD hG hS hl
  obtain ⟨Q0, hQ0⟩ : ∃ Q0 : State → Prop, Q0 = MQ below (va_Qi (fun (r : Int32) (u : (Nat → Int32) × (Nat → Nat → Int32)) => True) (kB D A (fun (u : (Nat → Int32) × (Nat → Nat → Int32)) => [(za, .inr (6, [.ref zfa, .ref za_mark, .ref za_path, .ref za_move, .ref za_without, .int z_block, .int z_depth, .int z_first])), (za_without, .inl (cy 0, 4, .inl ((u.2 0)))), (zfa, .inr (3, [.ref zfa_who, .ref zfa_hold, .ref zfa_harm, .ref zfa_cost, .int zf_size])), (zfa_hold, .inl (cy 0, 4, .inl zff_hold)), (zfa_cost, .inl (cy 0, 16, .inl zff_cost))])) A) ([.ref za, .int s0, .int t0] : List Value).toArray s 0 0 A := ⟨_, rfl⟩
  rw [← hQ0]
  obtain ⟨hx, hb, hml, hown, hts, hr, hlk, hnm⟩ := id E
  have hown : s.vm.findClass RX4 = some m.cls := hown
  have hl : lv_has ls 9 [(0, .ref za), (1, .int s0), (2, .int t0)] := hl
  have g_s0 := k_rng s0
  have g_t0 := k_rng t0
  obtain ⟨H, hH⟩ : ∃ H, H = s.heap := ⟨_, rfl⟩
  have hP : va_P D vwCl [(za, .inr (6, [.ref zfa, .ref za_mark, .ref za_path, .ref za_move, .ref za_without, .int z_block, .int z_depth, .int z_first])), (za_without, .inl (cy 0, 4, .inl zf_without)), (zfa, .inr (3, [.ref zfa_who, .ref zfa_hold, .ref zfa_harm, .ref zfa_cost, .int zf_size])), (zfa_hold, .inl (cy 0, 4, .inl zff_hold)), (zfa_cost, .inl (cy 0, 16, .inl zff_cost))] H := by rw [hH]; exact hP
  have hS : va_S A s.heap H [] := by rw [hH]; exact va_S.rf
  rw [← hH]
  clear hH
  obtain ⟨locs, hlocs⟩ : ∃ locs : List Loc, locs = [] := ⟨_, rfl⟩
  rw [← hlocs] at hS ⊢
  refine lv_aload_n hx hb dX4_stateBehind_0 rfl (lv_at hl 0 rfl) ?_
  refine lv_iload_n hx hb dX4_stateBehind_1 rfl (lv_at hl 1 rfl) ?_
  refine k_cali [1, 3, 4] (⟨hP, hD, hG, hS, hA, rfl, rfl⟩ : kAt D cy sa A s H _ _ [(za, .inr (6, [.ref zfa, .ref za_mark, .ref za_path, .ref za_move, .ref za_without, .int z_block, .int z_depth, .int z_first])), (zfa, .inr (3, [.ref zfa_who, .ref zfa_hold, .ref zfa_harm, .ref zfa_cost, .int zf_size]))] [0, 2]) (wr := [(za_without, .inl (cy 0, 4, .inl zf_without)), (zfa_hold, .inl (cy 0, 4, .inl zff_hold)), (zfa_cost, .inl (cy 0, 16, .inl zff_cost))]) rfl rfl (by decide) (k_runV 6 0 (As := [.int s0]) (rest := []) E lk_VRX4_72 rfl rfl rfl (c_placeOfMind l hl0 D cy sa za za_mark za_path za_move za_without zfa zfa_who zfa_hold zfa_harm zfa_cost z_block z_depth z_first zf_size s0 ⟨by omega, by omega⟩ ⟨by omega, by omega⟩ ⟨by omega, by omega⟩ H.size) (⟨hP, hD, hG, hS, hA, rfl, rfl⟩ : kAt D cy sa A s H _ _ [(za, .inr (6, [.ref zfa, .ref za_mark, .ref za_path, .ref za_move, .ref za_without, .int z_block, .int z_depth, .int z_first])), (zfa, .inr (3, [.ref zfa_who, .ref zfa_hold, .ref zfa_harm, .ref zfa_cost, .int zf_size]))] [0, 2]) hl.1 rfl rfl ⟨rfl, rfl, ⟨Nat.le_of_ble_eq_true rfl, Nat.le_of_ble_eq_true rfl⟩, ⟨Nat.le_of_ble_eq_true rfl, Nat.le_of_ble_eq_true rfl⟩, Nat.le_of_ble_eq_true rfl⟩ dX4_stateBehind_2) (fun r1q u2q H locs hwu2q hP hD hS => ?_)
  have hP : va_P D vwCl [(za_without, .inl (cy 0, 4, .inl zf_without)), (zfa_hold, .inl (cy 0, 4, .inl zff_hold)), (zfa_cost, .inl (cy 0, 16, .inl zff_cost)), (za, .inr (6, [.ref zfa, .ref za_mark, .ref za_path, .ref za_move, .ref za_without, .int z_block, .int z_depth, .int z_first])), (zfa, .inr (3, [.ref zfa_who, .ref zfa_hold, .ref zfa_harm, .ref zfa_cost, .int zf_size]))] H := hP
  have hD : va_D A [(za_without, .inl (cy 0, 4, .inl zf_without)), (zfa_hold, .inl (cy 0, 4, .inl zff_hold)), (zfa_cost, .inl (cy 0, 16, .inl zff_cost)), (za, .inr (6, [.ref zfa, .ref za_mark, .ref za_path, .ref za_move, .ref za_without, .int z_block, .int z_depth, .int z_first])), (zfa, .inr (3, [.ref zfa_who, .ref zfa_hold, .ref zfa_harm, .ref zfa_cost, .int zf_size]))] := hD
  refine lv_istore_n (lv' := [(3, .int r1q), (0, .ref za), (1, .int s0), (2, .int t0)]) hx hb dX4_stateBehind_5 rfl hl (by decide) rfl (fun ls hl => ?_)
  refine lv_iload_n hx hb dX4_stateBehind_6 rfl (lv_at hl 2 rfl) ?_
  refine lv_istore (lv' := [(4, .int s0), (3, .int r1q), (0, .ref za), (1, .int s0), (2, .int t0)]) hx hb dX4_stateBehind_7 hl (by decide) rfl (fun ls hl => ?_)
  refine lv_aload_n hx hb dX4_stateBehind_9 rfl (lv_at hl 2 rfl) ?_
  refine va_get (D := D) (ci := 6) (v := .ref zfa) (C := RX4) (T := TX4) (N := 8) hx hb hts kin_RX4 hown hG.1 hP 3 rfl rfl 0 (by decide) (hts _ wm_366) (fun _ h9 => h9) rfl dX4_stateBehind_10 ?_
  refine va_get (D := D) (ci := 3) (v := .int zf_size) (C := RX1) (T := TX1) (N := 5) hx hb hts kin_RX1 hown hG.1 hP 4 rfl rfl 4 (by decide) (hts _ wm_347) (fun _ h9 => h9) rfl dX4_stateBehind_13 ?_
  refine lv_iconst (v := 1) hx hb dX4_stateBehind_16 (by decide) ?_
  refine lv_isub hx hb dX4_stateBehind_17 ?_
  refine lv_topi (fun x3q ex3q => ?_)
  have rx3q := n_sub ex3q (a := zf_size.toInt) (b := 1) rfl n_L1 (by omega) (by omega)
  refine lv_istore (lv' := [(5, .int x3q), (4, .int s0), (3, .int r1q), (0, .ref za), (1, .int s0), (2, .int t0)]) hx hb dX4_stateBehind_18 hl (by decide) rfl (fun ls hl => ?_)
  have k4q : ∀ (n : Nat) (k4qy4 : Int32) (k4qy5 : Int32) (k4qzf_without : Nat → Int32) (H : Heap) (locs : List Loc) (ls : Array Slot), -1 ≤ k4qy5.toInt ∧ k4qy5.toInt ≤ 3 → (k4qy5.toInt + 1).toNat = n → va_P D vwCl [(za_without, .inl (cy 0, 4, .inl k4qzf_without)), (zfa_hold, .inl (cy 0, 4, .inl zff_hold)), (zfa_cost, .inl (cy 0, 16, .inl zff_cost)), (za, .inr (6, [.ref zfa, .ref za_mark, .ref za_path, .ref za_move, .ref za_without, .int z_block, .int z_depth, .int z_first])), (zfa, .inr (3, [.ref zfa_who, .ref zfa_hold, .ref zfa_harm, .ref zfa_cost, .int zf_size]))] H → va_D A [(za_without, .inl (cy 0, 4, .inl k4qzf_without)), (zfa_hold, .inl (cy 0, 4, .inl zff_hold)), (zfa_cost, .inl (cy 0, 16, .inl zff_cost)), (za, .inr (6, [.ref zfa, .ref za_mark, .ref za_path, .ref za_move, .ref za_without, .int z_block, .int z_depth, .int z_first])), (zfa, .inr (3, [.ref zfa_who, .ref zfa_hold, .ref zfa_harm, .ref zfa_cost, .int zf_size]))] → va_S A s.heap H locs → lv_has ls 9 [(5, .int k4qy5), (4, .int k4qy4), (3, .int r1q), (0, .ref za), (1, .int s0), (2, .int t0)] → W p l e ({ frames := 12, cells := 0, slots := 0, locals := 420 }) s m ([.ref za, .int s0, .int t0] : List Value).toArray below meth c H locs 0 0 Q0 (F0 m 20 ls []) := by
    intro n
    induction n using Nat.strongRecOn with
    | ind n k4qih =>
      intro k4qy4 k4qy5 k4qzf_without H locs ls hk4qy5 k4qm hP hD hS hl
      have gk4qy4 := k_rng k4qy4
      refine lv_iload hx hb dX4_stateBehind_20 (lv_at hl 0 rfl) ?_
      refine lv_if_lt (tgt := 71) hx hb dX4_stateBehind_22 (by decide) (fun c5q => ?_) (fun c5q => ?_)
      · simp only [k_lt, k_le, k_eq, ne_eq, ge_iff_le, gt_iff_lt, n_L0, n_L0] at c5q
        refine lv_aload_n hx hb dX4_stateBehind_71 rfl (lv_at hl 3 rfl) ?_
        refine va_get (D := D) (ci := 6) (v := .ref zfa) (C := RX4) (T := TX4) (N := 8) hx hb hts kin_RX4 hown hG.1 hP 3 rfl rfl 0 (by decide) (hts _ wm_366) (fun _ h9 => h9) rfl dX4_stateBehind_72 ?_
        refine lv_iload_n hx hb dX4_stateBehind_75 rfl (lv_at hl 2 rfl) ?_
        refine lv_iload_n hx hb dX4_stateBehind_76 rfl (lv_at hl 5 rfl) ?_
        refine k_cali [0, 1, 3] (⟨hP, hD, hG, hS, hA, rfl, rfl⟩ : kAt D cy sa A s H _ _ [(zfa, .inr (3, [.ref zfa_who, .ref zfa_hold, .ref zfa_harm, .ref zfa_cost, .int zf_size])), (zfa_cost, .inl (cy 0, 16, .inl zff_cost))] [4, 2]) (wr := [(za_without, .inl (cy 0, 4, .inl k4qzf_without)), (zfa_hold, .inl (cy 0, 4, .inl zff_hold)), (za, .inr (6, [.ref zfa, .ref za_mark, .ref za_path, .ref za_move, .ref za_without, .int z_block, .int z_depth, .int z_first]))]) rfl rfl (by decide) (k_runV 3 4 (As := [.int r1q, .int t0]) (rest := []) E lk_VRX4_76 rfl rfl rfl (c_fcost l hl0 D cy sa zfa zfa_who zfa_hold zfa_harm zfa_cost zf_size r1q t0 zff_cost ⟨by omega, by omega⟩ h_zff_cost H.size) (⟨hP, hD, hG, hS, hA, rfl, rfl⟩ : kAt D cy sa A s H _ _ [(zfa, .inr (3, [.ref zfa_who, .ref zfa_hold, .ref zfa_harm, .ref zfa_cost, .int zf_size])), (zfa_cost, .inl (cy 0, 16, .inl zff_cost))] [4, 2]) hl.1 rfl rfl ⟨rfl, rfl, ⟨Nat.le_of_ble_eq_true rfl, Nat.le_of_ble_eq_true rfl⟩, ⟨Nat.le_of_ble_eq_true rfl, Nat.le_of_ble_eq_true rfl⟩, Nat.le_of_ble_eq_true rfl⟩ dX4_stateBehind_77) (fun r6q u7q H locs hwu7q hP hD hS => ?_)
        have hP : va_P D vwCl [(za_without, .inl (cy 0, 4, .inl k4qzf_without)), (zfa_hold, .inl (cy 0, 4, .inl zff_hold)), (za, .inr (6, [.ref zfa, .ref za_mark, .ref za_path, .ref za_move, .ref za_without, .int z_block, .int z_depth, .int z_first])), (zfa, .inr (3, [.ref zfa_who, .ref zfa_hold, .ref zfa_harm, .ref zfa_cost, .int zf_size])), (zfa_cost, .inl (cy 0, 16, .inl zff_cost))] H := hP
        have hD : va_D A [(za_without, .inl (cy 0, 4, .inl k4qzf_without)), (zfa_hold, .inl (cy 0, 4, .inl zff_hold)), (za, .inr (6, [.ref zfa, .ref za_mark, .ref za_path, .ref za_move, .ref za_without, .int z_block, .int z_depth, .int z_first])), (zfa, .inr (3, [.ref zfa_who, .ref zfa_hold, .ref zfa_harm, .ref zfa_cost, .int zf_size])), (zfa_cost, .inl (cy 0, 16, .inl zff_cost))] := hD
        have p8q := hwu7q
        refine lv_istore (lv' := [(5, .int r6q), (4, .int k4qy4), (3, .int r1q), (0, .ref za), (1, .int s0), (2, .int t0)]) hx hb dX4_stateBehind_80 hl (by decide) rfl (fun ls hl => ?_)
        refine lv_iload_n hx hb dX4_stateBehind_82 rfl (lv_at hl 5 rfl) ?_
        refine lv_istore (lv' := [(6, .int t0), (5, .int r6q), (4, .int k4qy4), (3, .int r1q), (0, .ref za), (1, .int s0), (2, .int t0)]) hx hb dX4_stateBehind_83 hl (by decide) rfl (fun ls hl => ?_)
        refine lv_iconst (v := 0) hx hb dX4_stateBehind_85 (by decide) ?_
        refine lv_istore (lv' := [(7, .int 0), (6, .int t0), (5, .int r6q), (4, .int k4qy4), (3, .int r1q), (0, .ref za), (1, .int s0), (2, .int t0)]) hx hb dX4_stateBehind_86 hl (by decide) rfl (fun ls hl => ?_)
        have k9q : ∀ (n : Nat) (k9qy6 : Int32) (k9qy7 : Int32) (H : Heap) (locs : List Loc) (ls : Array Slot), 0 ≤ k9qy7.toInt ∧ k9qy7.toInt ≤ 4 → (4 - k9qy7.toInt).toNat = n → va_P D vwCl [(za_without, .inl (cy 0, 4, .inl k4qzf_without)), (zfa_hold, .inl (cy 0, 4, .inl zff_hold)), (za, .inr (6, [.ref zfa, .ref za_mark, .ref za_path, .ref za_move, .ref za_without, .int z_block, .int z_depth, .int z_first])), (zfa, .inr (3, [.ref zfa_who, .ref zfa_hold, .ref zfa_harm, .ref zfa_cost, .int zf_size])), (zfa_cost, .inl (cy 0, 16, .inl zff_cost))] H → va_D A [(za_without, .inl (cy 0, 4, .inl k4qzf_without)), (zfa_hold, .inl (cy 0, 4, .inl zff_hold)), (za, .inr (6, [.ref zfa, .ref za_mark, .ref za_path, .ref za_move, .ref za_without, .int z_block, .int z_depth, .int z_first])), (zfa, .inr (3, [.ref zfa_who, .ref zfa_hold, .ref zfa_harm, .ref zfa_cost, .int zf_size])), (zfa_cost, .inl (cy 0, 16, .inl zff_cost))] → va_S A s.heap H locs → lv_has ls 9 [(7, .int k9qy7), (6, .int k9qy6), (5, .int r6q), (4, .int k4qy4), (3, .int r1q), (0, .ref za), (1, .int s0), (2, .int t0)] → W p l e ({ frames := 12, cells := 0, slots := 0, locals := 420 }) s m ([.ref za, .int s0, .int t0] : List Value).toArray below meth c H locs 0 0 Q0 (F0 m 88 ls []) := by
          intro n
          induction n using Nat.strongRecOn with
          | ind n k9qih =>
            intro k9qy6 k9qy7 H locs ls hk9qy7 k9qm hP hD hS hl
            have gk9qy6 := k_rng k9qy6
            refine lv_iload hx hb dX4_stateBehind_88 (lv_at hl 0 rfl) ?_
            refine lv_aload_n hx hb dX4_stateBehind_90 rfl (lv_at hl 5 rfl) ?_
            refine va_get (D := D) (ci := 6) (v := .ref zfa) (C := RX4) (T := TX4) (N := 8) hx hb hts kin_RX4 hown hG.1 hP 2 rfl rfl 0 (by decide) (hts _ wm_366) (fun _ h9 => h9) rfl dX4_stateBehind_91 ?_
            refine va_get (D := D) (ci := 3) (v := .int zf_size) (C := RX1) (T := TX1) (N := 5) hx hb hts kin_RX1 hown hG.1 hP 3 rfl rfl 4 (by decide) (hts _ wm_347) (fun _ h9 => h9) rfl dX4_stateBehind_94 ?_
            refine lv_icmp_ge (tgt := 168) hx hb dX4_stateBehind_97 (by decide) (fun c10q => ?_) (fun c10q => ?_)
            · simp only [k_lt, k_le, k_eq, ne_eq, ge_iff_le, gt_iff_lt] at c10q
              refine lv_iload hx hb dX4_stateBehind_168 (lv_at hl 1 rfl) ?_
              rw [hQ0]
              exact k_iret (fun k => [].getD k 0, fun k => [k4qzf_without].getD k (fun _ => 0)) hx hb hr hlk (trivial) (hP.sub [2, 0, 3, 1, 4] rfl) (hD.sub [2, 0, 3, 1, 4] (by decide) rfl) hS (by decide) (by decide) dX4_stateBehind_170
            · simp only [k_lt, k_le, k_eq, ne_eq, ge_iff_le, gt_iff_lt] at c10q
              refine lv_aload_n hx hb dX4_stateBehind_100 rfl (lv_at hl 5 rfl) ?_
              refine va_get (D := D) (ci := 6) (v := .ref za_without) (C := RX4) (T := TX4) (N := 8) hx hb hts kin_RX4 hown hG.1 hP 2 rfl rfl 4 (by decide) (hts _ wm_370) (fun _ h9 => h9) rfl dX4_stateBehind_101 ?_
              refine lv_iload hx hb dX4_stateBehind_104 (lv_at hl 0 rfl) ?_
              refine va_iald hx hb hG.1 hP 0 0 rfl rfl (n_in (by omega) (by omega)) dX4_stateBehind_106 ?_
              refine lv_topi (fun x11q ex11q => ?_)
              refine lv_iload hx hb dX4_stateBehind_107 (lv_at hl 2 rfl) ?_
              refine lv_iadd hx hb dX4_stateBehind_109 ?_
              refine lv_topi (fun x12q ex12q => ?_)
              have gx12q := k_rng x11q
              refine lv_iload hx hb dX4_stateBehind_110 (lv_at hl 0 rfl) ?_
              refine lv_iload_n hx hb dX4_stateBehind_112 rfl (lv_at hl 7 rfl) ?_
              refine lv_icmp_ne (tgt := 120) hx hb dX4_stateBehind_113 (by decide) (fun c13q => ?_) (fun c13q => ?_)
              · simp only [k_lt, k_le, k_eq, ne_eq, ge_iff_le, gt_iff_lt] at c13q
                refine lv_iconst (v := 1) hx hb dX4_stateBehind_120 (by decide) ?_
                refine lv_iadd hx hb dX4_stateBehind_121 ?_
                refine lv_topi (fun x14q ex14q => ?_)
                have gx14q := k_rng x12q
                refine lv_istore (lv' := [(8, .int x14q), (7, .int k9qy7), (6, .int k9qy6), (5, .int r6q), (4, .int k4qy4), (3, .int r1q), (0, .ref za), (1, .int s0), (2, .int t0)]) hx hb dX4_stateBehind_122 hl (by decide) rfl (fun ls hl => ?_)
                refine lv_iload hx hb dX4_stateBehind_124 (lv_at hl 0 rfl) ?_
                refine lv_aload_n hx hb dX4_stateBehind_126 rfl (lv_at hl 6 rfl) ?_
                refine va_get (D := D) (ci := 6) (v := .ref zfa) (C := RX4) (T := TX4) (N := 8) hx hb hts kin_RX4 hown hG.1 hP 2 rfl rfl 0 (by decide) (hts _ wm_366) (fun _ h9 => h9) rfl dX4_stateBehind_127 ?_
                refine va_get (D := D) (ci := 3) (v := .ref zfa_hold) (C := RX1) (T := TX1) (N := 5) hx hb hts kin_RX1 hown hG.1 hP 3 rfl rfl 1 (by decide) (hts _ wm_340) (fun _ h9 => h9) rfl dX4_stateBehind_130 ?_
                refine lv_iload hx hb dX4_stateBehind_133 (lv_at hl 1 rfl) ?_
                refine va_iald hx hb hG.1 hP 1 0 rfl rfl (n_in (by omega) (by omega)) dX4_stateBehind_135 ?_
                refine lv_topi (fun x15q ex15q => ?_)
                have rx15q : 0 ≤ x15q.toInt ∧ x15q.toInt ≤ 8 := by rw [ex15q]; exact h_zff_hold _ (n_lt (by omega) (by omega))
                refine lv_icmp_le (tgt := 141) hx hb dX4_stateBehind_136 (by decide) (fun c16q => ?_) (fun c16q => ?_)
                · simp only [k_lt, k_le, k_eq, ne_eq, ge_iff_le, gt_iff_lt] at c16q
                  refine lv_iload hx hb dX4_stateBehind_141 (lv_at hl 1 rfl) ?_
                  refine lv_iload_n hx hb dX4_stateBehind_143 rfl (lv_at hl 8 rfl) ?_
                  refine lv_icmp_ne (tgt := 152) hx hb dX4_stateBehind_144 (by decide) (fun c17q => ?_) (fun c17q => ?_)
                  · simp only [k_lt, k_le, k_eq, ne_eq, ge_iff_le, gt_iff_lt] at c17q
                    refine lv_iload hx hb dX4_stateBehind_152 (lv_at hl 2 rfl) ?_
                    refine lv_bipush (v := 9) hx hb dX4_stateBehind_154 (by decide) ?_
                    refine lv_imul hx hb dX4_stateBehind_156 ?_
                    refine lv_topi (fun x18q ex18q => ?_)
                    have gx18q := k_rng k9qy6
                    refine lv_iload hx hb dX4_stateBehind_157 (lv_at hl 0 rfl) ?_
                    refine lv_iadd hx hb dX4_stateBehind_159 ?_
                    refine lv_topi (fun x19q ex19q => ?_)
                    have gx19q := k_rng x18q
                    have gx19q := k_rng x14q
                    refine lv_istore (lv' := [(6, .int x19q), (8, .int x14q), (7, .int k9qy7), (5, .int r6q), (4, .int k4qy4), (3, .int r1q), (0, .ref za), (1, .int s0), (2, .int t0)]) hx hb dX4_stateBehind_160 hl (by decide) rfl (fun ls hl => ?_)
                    obtain ⟨x20q, ex20q⟩ : ∃ z : Int32, z = k9qy7 + 1 := ⟨_, rfl⟩
                    refine lv_iinc (v := x20q) (lv' := [(7, .int x20q), (6, .int x19q), (8, .int x14q), (5, .int r6q), (4, .int k4qy4), (3, .int r1q), (0, .ref za), (1, .int s0), (2, .int t0)]) hx hb dX4_stateBehind_162 hl (k := 2) rfl (by rw [ex20q]; rfl) (by decide) rfl (fun ls hl => ?_)
                    have rx20q := n_add ex20q (a := k9qy7.toInt) (b := 1) rfl n_L1 (by omega) (by omega)
                    refine lv_goto (tgt := 88) hx hb dX4_stateBehind_165 (by decide) ?_
                    exact k9qih ((4 - x20q.toInt).toNat) (by omega) x19q x20q H locs ls ⟨by omega, by omega⟩ rfl hP hD hS (lv_sub hl [0, 1, 3, 4, 5, 6, 7, 8] rfl)
                  · simp only [k_lt, k_le, k_eq, ne_eq, ge_iff_le, gt_iff_lt] at c17q
                    refine lv_iload hx hb dX4_stateBehind_147 (lv_at hl 2 rfl) ?_
                    refine lv_goto (tgt := 160) hx hb dX4_stateBehind_149 (by decide) ?_
                    refine lv_istore (lv' := [(6, .int k9qy6), (8, .int x14q), (7, .int k9qy7), (5, .int r6q), (4, .int k4qy4), (3, .int r1q), (0, .ref za), (1, .int s0), (2, .int t0)]) hx hb dX4_stateBehind_160 hl (by decide) rfl (fun ls hl => ?_)
                    obtain ⟨x21q, ex21q⟩ : ∃ z : Int32, z = k9qy7 + 1 := ⟨_, rfl⟩
                    refine lv_iinc (v := x21q) (lv' := [(7, .int x21q), (6, .int k9qy6), (8, .int x14q), (5, .int r6q), (4, .int k4qy4), (3, .int r1q), (0, .ref za), (1, .int s0), (2, .int t0)]) hx hb dX4_stateBehind_162 hl (k := 2) rfl (by rw [ex21q]; rfl) (by decide) rfl (fun ls hl => ?_)
                    have rx21q := n_add ex21q (a := k9qy7.toInt) (b := 1) rfl n_L1 (by omega) (by omega)
                    refine lv_goto (tgt := 88) hx hb dX4_stateBehind_165 (by decide) ?_
                    exact k9qih ((4 - x21q.toInt).toNat) (by omega) k9qy6 x21q H locs ls ⟨by omega, by omega⟩ rfl hP hD hS (lv_sub hl [0, 1, 3, 4, 5, 6, 7, 8] rfl)
                · simp only [k_lt, k_le, k_eq, ne_eq, ge_iff_le, gt_iff_lt] at c16q
                  refine lv_iconst (v := (-1)) hx hb dX4_stateBehind_139 (by decide) ?_
                  rw [hQ0]
                  exact k_iret (fun k => [].getD k 0, fun k => [k4qzf_without].getD k (fun _ => 0)) hx hb hr hlk (trivial) (hP.sub [2, 0, 3, 1, 4] rfl) (hD.sub [2, 0, 3, 1, 4] (by decide) rfl) hS (by decide) (by decide) dX4_stateBehind_140
              · simp only [k_lt, k_le, k_eq, ne_eq, ge_iff_le, gt_iff_lt] at c13q
                refine lv_iconst (v := 0) hx hb dX4_stateBehind_116 (by decide) ?_
                refine lv_goto (tgt := 121) hx hb dX4_stateBehind_117 (by decide) ?_
                refine lv_iadd hx hb dX4_stateBehind_121 ?_
                refine lv_topi (fun x22q ex22q => ?_)
                have gx22q := k_rng x12q
                have rx22q := n_add ex22q (a := x12q.toInt) (b := 0) rfl n_L0 (by omega) (by omega)
                refine lv_istore (lv' := [(8, .int x22q), (7, .int k9qy7), (6, .int k9qy6), (5, .int r6q), (4, .int k4qy4), (3, .int r1q), (0, .ref za), (1, .int s0), (2, .int t0)]) hx hb dX4_stateBehind_122 hl (by decide) rfl (fun ls hl => ?_)
                refine lv_iload hx hb dX4_stateBehind_124 (lv_at hl 0 rfl) ?_
                refine lv_aload_n hx hb dX4_stateBehind_126 rfl (lv_at hl 6 rfl) ?_
                refine va_get (D := D) (ci := 6) (v := .ref zfa) (C := RX4) (T := TX4) (N := 8) hx hb hts kin_RX4 hown hG.1 hP 2 rfl rfl 0 (by decide) (hts _ wm_366) (fun _ h9 => h9) rfl dX4_stateBehind_127 ?_
                refine va_get (D := D) (ci := 3) (v := .ref zfa_hold) (C := RX1) (T := TX1) (N := 5) hx hb hts kin_RX1 hown hG.1 hP 3 rfl rfl 1 (by decide) (hts _ wm_340) (fun _ h9 => h9) rfl dX4_stateBehind_130 ?_
                refine lv_iload hx hb dX4_stateBehind_133 (lv_at hl 1 rfl) ?_
                refine va_iald hx hb hG.1 hP 1 0 rfl rfl (n_in (by omega) (by omega)) dX4_stateBehind_135 ?_
                refine lv_topi (fun x23q ex23q => ?_)
                have rx23q : 0 ≤ x23q.toInt ∧ x23q.toInt ≤ 8 := by rw [ex23q]; exact h_zff_hold _ (n_lt (by omega) (by omega))
                refine lv_icmp_le (tgt := 141) hx hb dX4_stateBehind_136 (by decide) (fun c24q => ?_) (fun c24q => ?_)
                · simp only [k_lt, k_le, k_eq, ne_eq, ge_iff_le, gt_iff_lt] at c24q
                  refine lv_iload hx hb dX4_stateBehind_141 (lv_at hl 1 rfl) ?_
                  refine lv_iload_n hx hb dX4_stateBehind_143 rfl (lv_at hl 8 rfl) ?_
                  refine lv_icmp_ne (tgt := 152) hx hb dX4_stateBehind_144 (by decide) (fun c25q => ?_) (fun c25q => ?_)
                  · simp only [k_lt, k_le, k_eq, ne_eq, ge_iff_le, gt_iff_lt] at c25q
                    refine lv_iload hx hb dX4_stateBehind_152 (lv_at hl 2 rfl) ?_
                    refine lv_bipush (v := 9) hx hb dX4_stateBehind_154 (by decide) ?_
                    refine lv_imul hx hb dX4_stateBehind_156 ?_
                    refine lv_topi (fun x26q ex26q => ?_)
                    have gx26q := k_rng k9qy6
                    refine lv_iload hx hb dX4_stateBehind_157 (lv_at hl 0 rfl) ?_
                    refine lv_iadd hx hb dX4_stateBehind_159 ?_
                    refine lv_topi (fun x27q ex27q => ?_)
                    have gx27q := k_rng x26q
                    have gx27q := k_rng x22q
                    refine lv_istore (lv' := [(6, .int x27q), (8, .int x22q), (7, .int k9qy7), (5, .int r6q), (4, .int k4qy4), (3, .int r1q), (0, .ref za), (1, .int s0), (2, .int t0)]) hx hb dX4_stateBehind_160 hl (by decide) rfl (fun ls hl => ?_)
                    obtain ⟨x28q, ex28q⟩ : ∃ z : Int32, z = k9qy7 + 1 := ⟨_, rfl⟩
                    refine lv_iinc (v := x28q) (lv' := [(7, .int x28q), (6, .int x27q), (8, .int x22q), (5, .int r6q), (4, .int k4qy4), (3, .int r1q), (0, .ref za), (1, .int s0), (2, .int t0)]) hx hb dX4_stateBehind_162 hl (k := 2) rfl (by rw [ex28q]; rfl) (by decide) rfl (fun ls hl => ?_)
                    have rx28q := n_add ex28q (a := k9qy7.toInt) (b := 1) rfl n_L1 (by omega) (by omega)
                    refine lv_goto (tgt := 88) hx hb dX4_stateBehind_165 (by decide) ?_
                    exact k9qih ((4 - x28q.toInt).toNat) (by omega) x27q x28q H locs ls ⟨by omega, by omega⟩ rfl hP hD hS (lv_sub hl [0, 1, 3, 4, 5, 6, 7, 8] rfl)
                  · simp only [k_lt, k_le, k_eq, ne_eq, ge_iff_le, gt_iff_lt] at c25q
                    refine lv_iload hx hb dX4_stateBehind_147 (lv_at hl 2 rfl) ?_
                    refine lv_goto (tgt := 160) hx hb dX4_stateBehind_149 (by decide) ?_
                    refine lv_istore (lv' := [(6, .int k9qy6), (8, .int x22q), (7, .int k9qy7), (5, .int r6q), (4, .int k4qy4), (3, .int r1q), (0, .ref za), (1, .int s0), (2, .int t0)]) hx hb dX4_stateBehind_160 hl (by decide) rfl (fun ls hl => ?_)
                    obtain ⟨x29q, ex29q⟩ : ∃ z : Int32, z = k9qy7 + 1 := ⟨_, rfl⟩
                    refine lv_iinc (v := x29q) (lv' := [(7, .int x29q), (6, .int k9qy6), (8, .int x22q), (5, .int r6q), (4, .int k4qy4), (3, .int r1q), (0, .ref za), (1, .int s0), (2, .int t0)]) hx hb dX4_stateBehind_162 hl (k := 2) rfl (by rw [ex29q]; rfl) (by decide) rfl (fun ls hl => ?_)
                    have rx29q := n_add ex29q (a := k9qy7.toInt) (b := 1) rfl n_L1 (by omega) (by omega)
                    refine lv_goto (tgt := 88) hx hb dX4_stateBehind_165 (by decide) ?_
                    exact k9qih ((4 - x29q.toInt).toNat) (by omega) k9qy6 x29q H locs ls ⟨by omega, by omega⟩ rfl hP hD hS (lv_sub hl [0, 1, 3, 4, 5, 6, 7, 8] rfl)
                · simp only [k_lt, k_le, k_eq, ne_eq, ge_iff_le, gt_iff_lt] at c24q
                  refine lv_iconst (v := (-1)) hx hb dX4_stateBehind_139 (by decide) ?_
                  rw [hQ0]
                  exact k_iret (fun k => [].getD k 0, fun k => [k4qzf_without].getD k (fun _ => 0)) hx hb hr hlk (trivial) (hP.sub [2, 0, 3, 1, 4] rfl) (hD.sub [2, 0, 3, 1, 4] (by decide) rfl) hS (by decide) (by decide) dX4_stateBehind_140
        exact k9q _ t0 0 H locs ls ⟨by rw [n_L0]; omega, by rw [n_L0]; omega⟩ rfl hP hD hS (lv_sub hl [0, 1, 2, 3, 4, 5, 6, 7] rfl)
      · simp only [k_lt, k_le, k_eq, ne_eq, ge_iff_le, gt_iff_lt, n_L0, n_L0] at c5q
        refine lv_aload_n hx hb dX4_stateBehind_25 rfl (lv_at hl 3 rfl) ?_
        refine va_get (D := D) (ci := 6) (v := .ref za_without) (C := RX4) (T := TX4) (N := 8) hx hb hts kin_RX4 hown hG.1 hP 3 rfl rfl 4 (by decide) (hts _ wm_370) (fun _ h9 => h9) rfl dX4_stateBehind_26 ?_
        refine lv_iload hx hb dX4_stateBehind_29 (lv_at hl 0 rfl) ?_
        refine lv_iload hx hb dX4_stateBehind_31 (lv_at hl 0 rfl) ?_
        refine lv_iload_n hx hb dX4_stateBehind_33 rfl (lv_at hl 2 rfl) ?_
        refine lv_icmp_ne (tgt := 41) hx hb dX4_stateBehind_34 (by decide) (fun c30q => ?_) (fun c30q => ?_)
        · simp only [k_lt, k_le, k_eq, ne_eq, ge_iff_le, gt_iff_lt] at c30q
          refine lv_iload hx hb dX4_stateBehind_41 (lv_at hl 1 rfl) ?_
          refine lv_bipush (v := 9) hx hb dX4_stateBehind_43 (by decide) ?_
          refine lv_irem hx hb dX4_stateBehind_45 (by decide) ?_
          refine lv_topi (fun x31q ex31q => ?_)
          have gx31q := k_rng k4qy4
          refine va_iast hx hb hG.1 hP hD hS 0 0 rfl rfl (n_in (by omega) (by omega)) dX4_stateBehind_46 (fun H locs hP hD hS => ?_)
          have hP : va_P D vwCl [(za_without, .inl (cy 0, 4, .inl (upd (k4qzf_without) (k4qy5 : Int32).toNatClampNeg x31q))), (zfa_hold, .inl (cy 0, 4, .inl zff_hold)), (zfa_cost, .inl (cy 0, 16, .inl zff_cost)), (za, .inr (6, [.ref zfa, .ref za_mark, .ref za_path, .ref za_move, .ref za_without, .int z_block, .int z_depth, .int z_first])), (zfa, .inr (3, [.ref zfa_who, .ref zfa_hold, .ref zfa_harm, .ref zfa_cost, .int zf_size]))] H := hP
          have hD : va_D A [(za_without, .inl (cy 0, 4, .inl (upd (k4qzf_without) (k4qy5 : Int32).toNatClampNeg x31q))), (zfa_hold, .inl (cy 0, 4, .inl zff_hold)), (zfa_cost, .inl (cy 0, 16, .inl zff_cost)), (za, .inr (6, [.ref zfa, .ref za_mark, .ref za_path, .ref za_move, .ref za_without, .int z_block, .int z_depth, .int z_first])), (zfa, .inr (3, [.ref zfa_who, .ref zfa_hold, .ref zfa_harm, .ref zfa_cost, .int zf_size]))] := hD
          generalize upd (k4qzf_without) (k4qy5 : Int32).toNatClampNeg x31q = f32q at hP hD
          have hP : va_P D vwCl [(za_without, .inl (cy 0, 4, .inl f32q)), (zfa_hold, .inl (cy 0, 4, .inl zff_hold)), (zfa_cost, .inl (cy 0, 16, .inl zff_cost)), (za, .inr (6, [.ref zfa, .ref za_mark, .ref za_path, .ref za_move, .ref za_without, .int z_block, .int z_depth, .int z_first])), (zfa, .inr (3, [.ref zfa_who, .ref zfa_hold, .ref zfa_harm, .ref zfa_cost, .int zf_size]))] H := hP
          have hD : va_D A [(za_without, .inl (cy 0, 4, .inl f32q)), (zfa_hold, .inl (cy 0, 4, .inl zff_hold)), (zfa_cost, .inl (cy 0, 16, .inl zff_cost)), (za, .inr (6, [.ref zfa, .ref za_mark, .ref za_path, .ref za_move, .ref za_without, .int z_block, .int z_depth, .int z_first])), (zfa, .inr (3, [.ref zfa_who, .ref zfa_hold, .ref zfa_harm, .ref zfa_cost, .int zf_size]))] := hD
          refine lv_iload hx hb dX4_stateBehind_47 (lv_at hl 0 rfl) ?_
          refine lv_iload_n hx hb dX4_stateBehind_49 rfl (lv_at hl 2 rfl) ?_
          refine lv_icmp_ne (tgt := 58) hx hb dX4_stateBehind_50 (by decide) (fun c33q => ?_) (fun c33q => ?_)
          · simp only [k_lt, k_le, k_eq, ne_eq, ge_iff_le, gt_iff_lt] at c33q
            refine lv_iload hx hb dX4_stateBehind_58 (lv_at hl 1 rfl) ?_
            refine lv_bipush (v := 9) hx hb dX4_stateBehind_60 (by decide) ?_
            refine lv_idiv hx hb dX4_stateBehind_62 (by decide) ?_
            refine lv_topi (fun x34q ex34q => ?_)
            have gx34q := k_rng k4qy4
            refine lv_istore (lv' := [(4, .int x34q), (5, .int k4qy5), (3, .int r1q), (0, .ref za), (1, .int s0), (2, .int t0)]) hx hb dX4_stateBehind_63 hl (by decide) rfl (fun ls hl => ?_)
            obtain ⟨x35q, ex35q⟩ : ∃ z : Int32, z = k4qy5 + (-1) := ⟨_, rfl⟩
            refine lv_iinc (v := x35q) (lv' := [(5, .int x35q), (4, .int x34q), (3, .int r1q), (0, .ref za), (1, .int s0), (2, .int t0)]) hx hb dX4_stateBehind_65 hl (k := 1) rfl (by rw [ex35q]; rfl) (by decide) rfl (fun ls hl => ?_)
            have rx35q := n_add ex35q (a := k4qy5.toInt) (b := (-1)) rfl n_Lm1 (by omega) (by omega)
            refine lv_goto (tgt := 20) hx hb dX4_stateBehind_68 (by decide) ?_
            exact k4qih ((x35q.toInt + 1).toNat) (by omega) x34q x35q f32q H locs ls ⟨by omega, by omega⟩ rfl hP hD hS (lv_sub hl [0, 1, 2, 3, 4, 5] rfl)
          · simp only [k_lt, k_le, k_eq, ne_eq, ge_iff_le, gt_iff_lt] at c33q
            refine lv_iload hx hb dX4_stateBehind_53 (lv_at hl 1 rfl) ?_
            refine lv_goto (tgt := 63) hx hb dX4_stateBehind_55 (by decide) ?_
            refine lv_istore (lv' := [(4, .int k4qy4), (5, .int k4qy5), (3, .int r1q), (0, .ref za), (1, .int s0), (2, .int t0)]) hx hb dX4_stateBehind_63 hl (by decide) rfl (fun ls hl => ?_)
            obtain ⟨x36q, ex36q⟩ : ∃ z : Int32, z = k4qy5 + (-1) := ⟨_, rfl⟩
            refine lv_iinc (v := x36q) (lv' := [(5, .int x36q), (4, .int k4qy4), (3, .int r1q), (0, .ref za), (1, .int s0), (2, .int t0)]) hx hb dX4_stateBehind_65 hl (k := 1) rfl (by rw [ex36q]; rfl) (by decide) rfl (fun ls hl => ?_)
            have rx36q := n_add ex36q (a := k4qy5.toInt) (b := (-1)) rfl n_Lm1 (by omega) (by omega)
            refine lv_goto (tgt := 20) hx hb dX4_stateBehind_68 (by decide) ?_
            exact k4qih ((x36q.toInt + 1).toNat) (by omega) k4qy4 x36q f32q H locs ls ⟨by omega, by omega⟩ rfl hP hD hS (lv_sub hl [0, 1, 2, 3, 4, 5] rfl)
        · simp only [k_lt, k_le, k_eq, ne_eq, ge_iff_le, gt_iff_lt] at c30q
          refine lv_iconst (v := 0) hx hb dX4_stateBehind_37 (by decide) ?_
          refine lv_goto (tgt := 46) hx hb dX4_stateBehind_38 (by decide) ?_
          refine va_iast hx hb hG.1 hP hD hS 0 0 rfl rfl (n_in (by omega) (by omega)) dX4_stateBehind_46 (fun H locs hP hD hS => ?_)
          have hP : va_P D vwCl [(za_without, .inl (cy 0, 4, .inl (upd (k4qzf_without) (k4qy5 : Int32).toNatClampNeg 0))), (zfa_hold, .inl (cy 0, 4, .inl zff_hold)), (zfa_cost, .inl (cy 0, 16, .inl zff_cost)), (za, .inr (6, [.ref zfa, .ref za_mark, .ref za_path, .ref za_move, .ref za_without, .int z_block, .int z_depth, .int z_first])), (zfa, .inr (3, [.ref zfa_who, .ref zfa_hold, .ref zfa_harm, .ref zfa_cost, .int zf_size]))] H := hP
          have hD : va_D A [(za_without, .inl (cy 0, 4, .inl (upd (k4qzf_without) (k4qy5 : Int32).toNatClampNeg 0))), (zfa_hold, .inl (cy 0, 4, .inl zff_hold)), (zfa_cost, .inl (cy 0, 16, .inl zff_cost)), (za, .inr (6, [.ref zfa, .ref za_mark, .ref za_path, .ref za_move, .ref za_without, .int z_block, .int z_depth, .int z_first])), (zfa, .inr (3, [.ref zfa_who, .ref zfa_hold, .ref zfa_harm, .ref zfa_cost, .int zf_size]))] := hD
          generalize upd (k4qzf_without) (k4qy5 : Int32).toNatClampNeg 0 = f37q at hP hD
          have hP : va_P D vwCl [(za_without, .inl (cy 0, 4, .inl f37q)), (zfa_hold, .inl (cy 0, 4, .inl zff_hold)), (zfa_cost, .inl (cy 0, 16, .inl zff_cost)), (za, .inr (6, [.ref zfa, .ref za_mark, .ref za_path, .ref za_move, .ref za_without, .int z_block, .int z_depth, .int z_first])), (zfa, .inr (3, [.ref zfa_who, .ref zfa_hold, .ref zfa_harm, .ref zfa_cost, .int zf_size]))] H := hP
          have hD : va_D A [(za_without, .inl (cy 0, 4, .inl f37q)), (zfa_hold, .inl (cy 0, 4, .inl zff_hold)), (zfa_cost, .inl (cy 0, 16, .inl zff_cost)), (za, .inr (6, [.ref zfa, .ref za_mark, .ref za_path, .ref za_move, .ref za_without, .int z_block, .int z_depth, .int z_first])), (zfa, .inr (3, [.ref zfa_who, .ref zfa_hold, .ref zfa_harm, .ref zfa_cost, .int zf_size]))] := hD
          refine lv_iload hx hb dX4_stateBehind_47 (lv_at hl 0 rfl) ?_
          refine lv_iload_n hx hb dX4_stateBehind_49 rfl (lv_at hl 2 rfl) ?_
          refine lv_icmp_ne (tgt := 58) hx hb dX4_stateBehind_50 (by decide) (fun c38q => ?_) (fun c38q => ?_)
          · simp only [k_lt, k_le, k_eq, ne_eq, ge_iff_le, gt_iff_lt] at c38q
            refine lv_iload hx hb dX4_stateBehind_58 (lv_at hl 1 rfl) ?_
            refine lv_bipush (v := 9) hx hb dX4_stateBehind_60 (by decide) ?_
            refine lv_idiv hx hb dX4_stateBehind_62 (by decide) ?_
            refine lv_topi (fun x39q ex39q => ?_)
            have gx39q := k_rng k4qy4
            refine lv_istore (lv' := [(4, .int x39q), (5, .int k4qy5), (3, .int r1q), (0, .ref za), (1, .int s0), (2, .int t0)]) hx hb dX4_stateBehind_63 hl (by decide) rfl (fun ls hl => ?_)
            obtain ⟨x40q, ex40q⟩ : ∃ z : Int32, z = k4qy5 + (-1) := ⟨_, rfl⟩
            refine lv_iinc (v := x40q) (lv' := [(5, .int x40q), (4, .int x39q), (3, .int r1q), (0, .ref za), (1, .int s0), (2, .int t0)]) hx hb dX4_stateBehind_65 hl (k := 1) rfl (by rw [ex40q]; rfl) (by decide) rfl (fun ls hl => ?_)
            have rx40q := n_add ex40q (a := k4qy5.toInt) (b := (-1)) rfl n_Lm1 (by omega) (by omega)
            refine lv_goto (tgt := 20) hx hb dX4_stateBehind_68 (by decide) ?_
            exact k4qih ((x40q.toInt + 1).toNat) (by omega) x39q x40q f37q H locs ls ⟨by omega, by omega⟩ rfl hP hD hS (lv_sub hl [0, 1, 2, 3, 4, 5] rfl)
          · simp only [k_lt, k_le, k_eq, ne_eq, ge_iff_le, gt_iff_lt] at c38q
            refine lv_iload hx hb dX4_stateBehind_53 (lv_at hl 1 rfl) ?_
            refine lv_goto (tgt := 63) hx hb dX4_stateBehind_55 (by decide) ?_
            refine lv_istore (lv' := [(4, .int k4qy4), (5, .int k4qy5), (3, .int r1q), (0, .ref za), (1, .int s0), (2, .int t0)]) hx hb dX4_stateBehind_63 hl (by decide) rfl (fun ls hl => ?_)
            obtain ⟨x41q, ex41q⟩ : ∃ z : Int32, z = k4qy5 + (-1) := ⟨_, rfl⟩
            refine lv_iinc (v := x41q) (lv' := [(5, .int x41q), (4, .int k4qy4), (3, .int r1q), (0, .ref za), (1, .int s0), (2, .int t0)]) hx hb dX4_stateBehind_65 hl (k := 1) rfl (by rw [ex41q]; rfl) (by decide) rfl (fun ls hl => ?_)
            have rx41q := n_add ex41q (a := k4qy5.toInt) (b := (-1)) rfl n_Lm1 (by omega) (by omega)
            refine lv_goto (tgt := 20) hx hb dX4_stateBehind_68 (by decide) ?_
            exact k4qih ((x41q.toInt + 1).toNat) (by omega) k4qy4 x41q f37q H locs ls ⟨by omega, by omega⟩ rfl hP hD hS (lv_sub hl [0, 1, 2, 3, 4, 5] rfl)
  exact k4q _ s0 x3q zf_without H locs ls ⟨by omega, by omega⟩ rfl hP hD hS (lv_sub hl [0, 1, 2, 3, 4, 5] rfl)

set_option maxHeartbeats 4000000 in
set_option maxRecDepth 100000 in
/-- Keeper.begin -/
theorem c_kbegin (l : Launch) (hl0 : l.stackTraces = false) (D : va_G) (cy : Nat → ClassId) (sa : Nat → Nat) (za za_mark za_path za_move za_without zfa zfa_who zfa_hold zfa_harm zfa_cost : Nat) (z_block z_depth z_first zf_size : Int32) (zf_mark zf_path zf_move : Nat → Int32) (h_z_depth : 0 ≤ z_depth.toInt ∧ z_depth.toInt ≤ 2916) (h_z_first : 0 ≤ z_first.toInt ∧ z_first.toInt ≤ 2147483647) (h_zf_path : rowR 2916 0 (2915) zf_path) (h_zf_size : 0 ≤ zf_size.toInt ∧ zf_size.toInt ≤ 4) (sz : Nat) : Met l yX4_begin (Cond.code yX4_begin cX4_begin 2 none :: kWS) ({ frames := 12, cells := 0, slots := 0, locals := 420 }) (kPre D cy sa [.ref za] [(za, .inr (6, [.ref zfa, .ref za_mark, .ref za_path, .ref za_move, .ref za_without, .int z_block, .int z_depth, .int z_first])), (za_mark, .inl (cy 0, 2916, .inl zf_mark)), (za_path, .inl (cy 0, 2916, .inl zf_path)), (za_move, .inl (cy 0, 2916, .inl zf_move)), (zfa, .inr (3, [.ref zfa_who, .ref zfa_hold, .ref zfa_harm, .ref zfa_cost, .int zf_size]))] sz) (va_Qv (fun (u : (Nat → Int32) × (Nat → Nat → Int32)) => (0 ≤ ((u.1 1)).toInt ∧ ((u.1 1)).toInt ≤ 2916) ∧ (0 ≤ ((u.1 2)).toInt ∧ ((u.1 2)).toInt ≤ 2147483647) ∧ (rowR 2916 0 (2915) ((u.2 1)))) (kB D (va_A [(za, .inr (6, [.ref zfa, .ref za_mark, .ref za_path, .ref za_move, .ref za_without, .int z_block, .int z_depth, .int z_first])), (za_mark, .inl (cy 0, 2916, .inl zf_mark)), (za_path, .inl (cy 0, 2916, .inl zf_path)), (za_move, .inl (cy 0, 2916, .inl zf_move)), (zfa, .inr (3, [.ref zfa_who, .ref zfa_hold, .ref zfa_harm, .ref zfa_cost, .int zf_size]))] sz) (fun (u : (Nat → Int32) × (Nat → Nat → Int32)) => [(za, .inr (6, [.ref zfa, .ref za_mark, .ref za_path, .ref za_move, .ref za_without, .int ((u.1 0)), .int ((u.1 1)), .int ((u.1 2))])), (za_mark, .inl (cy 0, 2916, .inl ((u.2 0)))), (za_path, .inl (cy 0, 2916, .inl ((u.2 1)))), (za_move, .inl (cy 0, 2916, .inl ((u.2 2)))), (zfa, .inr (3, [.ref zfa_who, .ref zfa_hold, .ref zfa_harm, .ref zfa_cost, .int zf_size]))])) (va_A [(za, .inr (6, [.ref zfa, .ref za_mark, .ref za_path, .ref za_move, .ref za_without, .int z_block, .int z_depth, .int z_first])), (za_mark, .inl (cy 0, 2916, .inl zf_mark)), (za_path, .inl (cy 0, 2916, .inl zf_path)), (za_move, .inl (cy 0, 2916, .inl zf_move)), (zfa, .inr (3, [.ref zfa_who, .ref zfa_hold, .ref zfa_harm, .ref zfa_cost, .int zf_size]))] sz)) 0 0 (va_A [(za, .inr (6, [.ref zfa, .ref za_mark, .ref za_path, .ref za_move, .ref za_without, .int z_block, .int z_depth, .int z_first])), (za_mark, .inl (cy 0, 2916, .inl zf_mark)), (za_path, .inl (cy 0, 2916, .inl zf_path)), (za_move, .inl (cy 0, 2916, .inl zf_move)), (zfa, .inr (3, [.ref zfa_who, .ref zfa_hold, .ref zfa_harm, .ref zfa_cost, .int zf_size]))] sz) := by
  refine k_ofW (y := yX4_begin) (cc := cX4_begin) (maxL := 2) (ret := none) (av := [.ref za]) (ws := [(za, .inr (6, [.ref zfa, .ref za_mark, .ref za_path, .ref za_move, .ref za_without, .int z_block, .int z_depth, .int z_first])), (za_mark, .inl (cy 0, 2916, .inl zf_mark)), (za_path, .inl (cy 0, 2916, .inl zf_path)), (za_move, .inl (cy 0, 2916, .inl zf_move)), (zfa, .inr (3, [.ref zfa_who, .ref zfa_hold, .ref zfa_harm, .ref zfa_cost, .int zf_size]))]) (Qc := fun A => (va_Qv (fun (u : (Nat → Int32) × (Nat → Nat → Int32)) => (0 ≤ ((u.1 1)).toInt ∧ ((u.1 1)).toInt ≤ 2916) ∧ (0 ≤ ((u.1 2)).toInt ∧ ((u.1 2)).toInt ≤ 2147483647) ∧ (rowR 2916 0 (2915) ((u.2 1)))) (kB D A (fun (u : (Nat → Int32) × (Nat → Nat → Int32)) => [(za, .inr (6, [.ref zfa, .ref za_mark, .ref za_path, .ref za_move, .ref za_without, .int ((u.1 0)), .int ((u.1 1)), .int ((u.1 2))])), (za_mark, .inl (cy 0, 2916, .inl ((u.2 0)))), (za_path, .inl (cy 0, 2916, .inl ((u.2 1)))), (za_move, .inl (cy 0, 2916, .inl ((u.2 2)))), (zfa, .inr (3, [.ref zfa_who, .ref zfa_hold, .ref zfa_harm, .ref zfa_cost, .int zf_size]))])) A)) (by decide) (Nat.le_of_ble_eq_true rfl) ?_
  intro p e s m below meth c ls A E hA hP hD hG hS hl
  obtain ⟨Q0, hQ0⟩ : ∃ Q0 : State → Prop, Q0 = MQ below (va_Qv (fun (u : (Nat → Int32) × (Nat → Nat → Int32)) => (0 ≤ ((u.1 1)).toInt ∧ ((u.1 1)).toInt ≤ 2916) ∧ (0 ≤ ((u.1 2)).toInt ∧ ((u.1 2)).toInt ≤ 2147483647) ∧ (rowR 2916 0 (2915) ((u.2 1)))) (kB D A (fun (u : (Nat → Int32) × (Nat → Nat → Int32)) => [(za, .inr (6, [.ref zfa, .ref za_mark, .ref za_path, .ref za_move, .ref za_without, .int ((u.1 0)), .int ((u.1 1)), .int ((u.1 2))])), (za_mark, .inl (cy 0, 2916, .inl ((u.2 0)))), (za_path, .inl (cy 0, 2916, .inl ((u.2 1)))), (za_move, .inl (cy 0, 2916, .inl ((u.2 2)))), (zfa, .inr (3, [.ref zfa_who, .ref zfa_hold, .ref zfa_harm, .ref zfa_cost, .int zf_size]))])) A) ([.ref za] : List Value).toArray s 0 0 A := ⟨_, rfl⟩
  rw [← hQ0]
  obtain ⟨hx, hb, hml, hown, hts, hr, hlk, hnm⟩ := id E
  have hown : s.vm.findClass RX4 = some m.cls := hown
  have hl : lv_has ls 2 [(0, .ref za)] := hl
  obtain ⟨H, hH⟩ : ∃ H, H = s.heap := ⟨_, rfl⟩
  have hP : va_P D vwCl [(za, .inr (6, [.ref zfa, .ref za_mark, .ref za_path, .ref za_move, .ref za_without, .int z_block, .int z_depth, .int z_first])), (za_mark, .inl (cy 0, 2916, .inl zf_mark)), (za_path, .inl (cy 0, 2916, .inl zf_path)), (za_move, .inl (cy 0, 2916, .inl zf_move)), (zfa, .inr (3, [.ref zfa_who, .ref zfa_hold, .ref zfa_harm, .ref zfa_cost, .int zf_size]))] H := by rw [hH]; exact hP
  have hS : va_S A s.heap H [] := by rw [hH]; exact va_S.rf
  rw [← hH]
  clear hH
  obtain ⟨locs, hlocs⟩ : ∃ locs : List Loc, locs = [] := ⟨_, rfl⟩
  rw [← hlocs] at hS ⊢
  refine lv_aload_n hx hb dX4_begin_0 rfl (lv_at hl 0 rfl) ?_
  refine lv_iconst (v := 1) hx hb dX4_begin_1 (by decide) ?_
  refine va_put (D := D) (ci := 6) (v := .int 1) (ty := .int) (C := RX4) (T := TX4) (N := 8) hx hb hts kin_RX4 tyX4 tyX4_ok nmX4 hown hG.1 hP hD hS 0 rfl rfl 5 (by decide) (hts _ wm_371) (fun _ h9 => h9) rfl (by decide +kernel) rfl rfl (Nat.le_of_ble_eq_true rfl) dX4_begin_2 (fun H locs hP hD hS => ?_)
  have hP : va_P D vwCl [(za, .inr (6, [.ref zfa, .ref za_mark, .ref za_path, .ref za_move, .ref za_without, .int 1, .int z_depth, .int z_first])), (za_mark, .inl (cy 0, 2916, .inl zf_mark)), (za_path, .inl (cy 0, 2916, .inl zf_path)), (za_move, .inl (cy 0, 2916, .inl zf_move)), (zfa, .inr (3, [.ref zfa_who, .ref zfa_hold, .ref zfa_harm, .ref zfa_cost, .int zf_size]))] H := hP
  have hD : va_D A [(za, .inr (6, [.ref zfa, .ref za_mark, .ref za_path, .ref za_move, .ref za_without, .int 1, .int z_depth, .int z_first])), (za_mark, .inl (cy 0, 2916, .inl zf_mark)), (za_path, .inl (cy 0, 2916, .inl zf_path)), (za_move, .inl (cy 0, 2916, .inl zf_move)), (zfa, .inr (3, [.ref zfa_who, .ref zfa_hold, .ref zfa_harm, .ref zfa_cost, .int zf_size]))] := hD
  refine lv_iconst (v := 1) hx hb dX4_begin_5 (by decide) ?_
  refine lv_istore_n (lv' := [(1, .int 1), (0, .ref za)]) hx hb dX4_begin_6 rfl hl (by decide) rfl (fun ls hl => ?_)
  have k1q : ∀ (n : Nat) (k1qy1 : Int32) (k1qz_block : Int32) (H : Heap) (locs : List Loc) (ls : Array Slot), 1 ≤ k1qy1.toInt ∧ k1qy1.toInt ≤ 4 → (k1qy1.toInt = 1 ∧ k1qz_block.toInt = 1) ∨ (k1qy1.toInt = 2 ∧ k1qz_block.toInt = 9) ∨ (k1qy1.toInt = 3 ∧ k1qz_block.toInt = 81) ∨ (k1qy1.toInt = 4 ∧ k1qz_block.toInt = 729) → (4 - k1qy1.toInt).toNat = n → va_P D vwCl [(za, .inr (6, [.ref zfa, .ref za_mark, .ref za_path, .ref za_move, .ref za_without, .int k1qz_block, .int z_depth, .int z_first])), (za_mark, .inl (cy 0, 2916, .inl zf_mark)), (za_path, .inl (cy 0, 2916, .inl zf_path)), (za_move, .inl (cy 0, 2916, .inl zf_move)), (zfa, .inr (3, [.ref zfa_who, .ref zfa_hold, .ref zfa_harm, .ref zfa_cost, .int zf_size]))] H → va_D A [(za, .inr (6, [.ref zfa, .ref za_mark, .ref za_path, .ref za_move, .ref za_without, .int k1qz_block, .int z_depth, .int z_first])), (za_mark, .inl (cy 0, 2916, .inl zf_mark)), (za_path, .inl (cy 0, 2916, .inl zf_path)), (za_move, .inl (cy 0, 2916, .inl zf_move)), (zfa, .inr (3, [.ref zfa_who, .ref zfa_hold, .ref zfa_harm, .ref zfa_cost, .int zf_size]))] → va_S A s.heap H locs → lv_has ls 2 [(1, .int k1qy1), (0, .ref za)] → W p l e ({ frames := 12, cells := 0, slots := 0, locals := 420 }) s m ([.ref za] : List Value).toArray below meth c H locs 0 0 Q0 (F0 m 7 ls []) := by
    intro n
    induction n using Nat.strongRecOn with
    | ind n k1qih =>
      intro k1qy1 k1qz_block H locs ls hk1qy1 hk1qi0 k1qm hP hD hS hl
      have gk1qz_block := k_rng k1qz_block
      refine lv_iload_n hx hb dX4_begin_7 rfl (lv_at hl 0 rfl) ?_
      refine lv_aload_n hx hb dX4_begin_8 rfl (lv_at hl 1 rfl) ?_
      refine va_get (D := D) (ci := 6) (v := .ref zfa) (C := RX4) (T := TX4) (N := 8) hx hb hts kin_RX4 hown hG.1 hP 0 rfl rfl 0 (by decide) (hts _ wm_366) (fun _ h9 => h9) rfl dX4_begin_9 ?_
      refine va_get (D := D) (ci := 3) (v := .int zf_size) (C := RX1) (T := TX1) (N := 5) hx hb hts kin_RX1 hown hG.1 hP 4 rfl rfl 4 (by decide) (hts _ wm_347) (fun _ h9 => h9) rfl dX4_begin_12 ?_
      refine lv_icmp_ge (tgt := 35) hx hb dX4_begin_15 (by decide) (fun c2q => ?_) (fun c2q => ?_)
      · simp only [k_lt, k_le, k_eq, ne_eq, ge_iff_le, gt_iff_lt] at c2q
        refine lv_aload_n hx hb dX4_begin_35 rfl (lv_at hl 1 rfl) ?_
        refine va_get (D := D) (ci := 6) (v := .ref za_mark) (C := RX4) (T := TX4) (N := 8) hx hb hts kin_RX4 hown hG.1 hP 0 rfl rfl 1 (by decide) (hts _ wm_367) (fun _ h9 => h9) rfl dX4_begin_36 ?_
        refine lv_iconst (v := 0) hx hb dX4_begin_39 (by decide) ?_
        refine lv_aload_n hx hb dX4_begin_40 rfl (lv_at hl 1 rfl) ?_
        refine va_get (D := D) (ci := 6) (v := .int k1qz_block) (C := RX4) (T := TX4) (N := 8) hx hb hts kin_RX4 hown hG.1 hP 0 rfl rfl 5 (by decide) (hts _ wm_371) (fun _ h9 => h9) rfl dX4_begin_41 ?_
        refine lv_aload_n hx hb dX4_begin_44 rfl (lv_at hl 1 rfl) ?_
        refine va_get (D := D) (ci := 6) (v := .ref zfa) (C := RX4) (T := TX4) (N := 8) hx hb hts kin_RX4 hown hG.1 hP 0 rfl rfl 0 (by decide) (hts _ wm_366) (fun _ h9 => h9) rfl dX4_begin_45 ?_
        refine va_get (D := D) (ci := 3) (v := .int zf_size) (C := RX1) (T := TX1) (N := 5) hx hb hts kin_RX1 hown hG.1 hP 4 rfl rfl 4 (by decide) (hts _ wm_347) (fun _ h9 => h9) rfl dX4_begin_48 ?_
        refine lv_imul hx hb dX4_begin_51 ?_
        refine lv_topi (fun x3q ex3q => ?_)
        have rx3q := n_mulR ex3q (a := 729) (b := 4) ⟨by omega, by omega⟩ ⟨by omega, by omega⟩ (by decide)
        refine lv_sipush (v := 2916) hx hb dX4_begin_52 (by decide) ?_
        refine va_mmin hx hb (hml.trans hl.1.symm) hown (hts _ wm_545) (hts _ wm_519) (hts _ wm_17) (hts _ wm_520) (Nat.le_of_ble_eq_true rfl) (Nat.le_of_ble_eq_true rfl) (Nat.le_of_ble_eq_true rfl) (Nat.le_of_ble_eq_true rfl) dX4_begin_55 ?_
        refine lv_topi (fun x4q ex4q => ?_)
        have rx4q := n_min ex4q (a := x3q.toInt) (b := 2916) rfl n_L2916
        refine lv_iconst (v := 0) hx hb dX4_begin_58 (by decide) ?_
        refine k_calv [0, 2, 3, 4] (⟨hP, hD, hG, hS, hA, rfl, rfl⟩ : kAt D cy sa A s H _ _ [(za_mark, .inl (cy 0, 2916, .inl zf_mark))] [1]) (wr := [(za, .inr (6, [.ref zfa, .ref za_mark, .ref za_path, .ref za_move, .ref za_without, .int k1qz_block, .int z_depth, .int z_first])), (za_path, .inl (cy 0, 2916, .inl zf_path)), (za_move, .inl (cy 0, 2916, .inl zf_move)), (zfa, .inr (3, [.ref zfa_who, .ref zfa_hold, .ref zfa_harm, .ref zfa_cost, .int zf_size]))]) rfl rfl (by decide) (k_runS (As := [.ref za_mark, .int 0, .int x4q, .int 0]) (rest := []) E lk_SRX4_66 (c_fillr l hl0 D cy sa za_mark 0 x4q 0 zf_mark (by decide) ⟨by omega, by omega⟩ (by first | omega | (simp only [n_L0]; omega) | (simp only [n_L0]; done) | decide) H.size) (⟨hP, hD, hG, hS, hA, rfl, rfl⟩ : kAt D cy sa A s H _ _ [(za_mark, .inl (cy 0, 2916, .inl zf_mark))] [1]) hl.1 rfl rfl ⟨rfl, rfl, ⟨Nat.le_of_ble_eq_true rfl, Nat.le_of_ble_eq_true rfl⟩, ⟨Nat.le_of_ble_eq_true rfl, Nat.le_of_ble_eq_true rfl⟩, Nat.le_of_ble_eq_true rfl⟩ dX4_begin_59) (fun u6q H locs hwu6q hP hD hS => ?_)
        have hP : va_P D vwCl [(za, .inr (6, [.ref zfa, .ref za_mark, .ref za_path, .ref za_move, .ref za_without, .int k1qz_block, .int z_depth, .int z_first])), (za_path, .inl (cy 0, 2916, .inl zf_path)), (za_move, .inl (cy 0, 2916, .inl zf_move)), (zfa, .inr (3, [.ref zfa_who, .ref zfa_hold, .ref zfa_harm, .ref zfa_cost, .int zf_size])), (za_mark, .inl (cy 0, 2916, .inl ((u6q.2 0))))] H := hP
        have hD : va_D A [(za, .inr (6, [.ref zfa, .ref za_mark, .ref za_path, .ref za_move, .ref za_without, .int k1qz_block, .int z_depth, .int z_first])), (za_path, .inl (cy 0, 2916, .inl zf_path)), (za_move, .inl (cy 0, 2916, .inl zf_move)), (zfa, .inr (3, [.ref zfa_who, .ref zfa_hold, .ref zfa_harm, .ref zfa_cost, .int zf_size])), (za_mark, .inl (cy 0, 2916, .inl ((u6q.2 0))))] := hD
        refine lv_aload_n hx hb dX4_begin_62 rfl (lv_at hl 1 rfl) ?_
        refine lv_iconst (v := 0) hx hb dX4_begin_63 (by decide) ?_
        refine va_put (D := D) (ci := 6) (v := .int 0) (ty := .int) (C := RX4) (T := TX4) (N := 8) hx hb hts kin_RX4 tyX4 tyX4_ok nmX4 hown hG.1 hP hD hS 0 rfl rfl 6 (by decide) (hts _ wm_372) (fun _ h9 => h9) rfl (by decide +kernel) rfl rfl (Nat.le_of_ble_eq_true rfl) dX4_begin_64 (fun H locs hP hD hS => ?_)
        have hP : va_P D vwCl [(za, .inr (6, [.ref zfa, .ref za_mark, .ref za_path, .ref za_move, .ref za_without, .int k1qz_block, .int 0, .int z_first])), (za_path, .inl (cy 0, 2916, .inl zf_path)), (za_move, .inl (cy 0, 2916, .inl zf_move)), (zfa, .inr (3, [.ref zfa_who, .ref zfa_hold, .ref zfa_harm, .ref zfa_cost, .int zf_size])), (za_mark, .inl (cy 0, 2916, .inl ((u6q.2 0))))] H := hP
        have hD : va_D A [(za, .inr (6, [.ref zfa, .ref za_mark, .ref za_path, .ref za_move, .ref za_without, .int k1qz_block, .int 0, .int z_first])), (za_path, .inl (cy 0, 2916, .inl zf_path)), (za_move, .inl (cy 0, 2916, .inl zf_move)), (zfa, .inr (3, [.ref zfa_who, .ref zfa_hold, .ref zfa_harm, .ref zfa_cost, .int zf_size])), (za_mark, .inl (cy 0, 2916, .inl ((u6q.2 0))))] := hD
        refine lv_aload_n hx hb dX4_begin_67 rfl (lv_at hl 1 rfl) ?_
        refine lv_iconst (v := 0) hx hb dX4_begin_68 (by decide) ?_
        refine va_put (D := D) (ci := 6) (v := .int 0) (ty := .int) (C := RX4) (T := TX4) (N := 8) hx hb hts kin_RX4 tyX4 tyX4_ok nmX4 hown hG.1 hP hD hS 0 rfl rfl 7 (by decide) (hts _ wm_374) (fun _ h9 => h9) rfl (by decide +kernel) rfl rfl (Nat.le_of_ble_eq_true rfl) dX4_begin_69 (fun H locs hP hD hS => ?_)
        have hP : va_P D vwCl [(za, .inr (6, [.ref zfa, .ref za_mark, .ref za_path, .ref za_move, .ref za_without, .int k1qz_block, .int 0, .int 0])), (za_path, .inl (cy 0, 2916, .inl zf_path)), (za_move, .inl (cy 0, 2916, .inl zf_move)), (zfa, .inr (3, [.ref zfa_who, .ref zfa_hold, .ref zfa_harm, .ref zfa_cost, .int zf_size])), (za_mark, .inl (cy 0, 2916, .inl ((u6q.2 0))))] H := hP
        have hD : va_D A [(za, .inr (6, [.ref zfa, .ref za_mark, .ref za_path, .ref za_move, .ref za_without, .int k1qz_block, .int 0, .int 0])), (za_path, .inl (cy 0, 2916, .inl zf_path)), (za_move, .inl (cy 0, 2916, .inl zf_move)), (zfa, .inr (3, [.ref zfa_who, .ref zfa_hold, .ref zfa_harm, .ref zfa_cost, .int zf_size])), (za_mark, .inl (cy 0, 2916, .inl ((u6q.2 0))))] := hD
        refine lv_aload_n hx hb dX4_begin_72 rfl (lv_at hl 1 rfl) ?_
        refine lv_iconst (v := 0) hx hb dX4_begin_73 (by decide) ?_
        refine k_calv [] (⟨hP, hD, hG, hS, hA, rfl, rfl⟩ : kAt D cy sa A s H _ _ [(za, .inr (6, [.ref zfa, .ref za_mark, .ref za_path, .ref za_move, .ref za_without, .int k1qz_block, .int 0, .int 0])), (za_mark, .inl (cy 0, 2916, .inl ((u6q.2 0)))), (za_path, .inl (cy 0, 2916, .inl zf_path)), (za_move, .inl (cy 0, 2916, .inl zf_move)), (zfa, .inr (3, [.ref zfa_who, .ref zfa_hold, .ref zfa_harm, .ref zfa_cost, .int zf_size]))] [0, 4, 1, 2, 3]) (wr := []) rfl rfl (by decide) (k_runV 6 0 (As := [.int 0]) (rest := []) E lk_VRX4_54 rfl rfl rfl (c_push l hl0 D cy sa za za_mark za_path za_move za_without zfa zfa_who zfa_hold zfa_harm zfa_cost k1qz_block 0 0 zf_size 0 ((u6q.2 0)) zf_path zf_move (by decide) (by decide) h_zf_path ⟨by omega, by omega⟩ (by decide) H.size) (⟨hP, hD, hG, hS, hA, rfl, rfl⟩ : kAt D cy sa A s H _ _ [(za, .inr (6, [.ref zfa, .ref za_mark, .ref za_path, .ref za_move, .ref za_without, .int k1qz_block, .int 0, .int 0])), (za_mark, .inl (cy 0, 2916, .inl ((u6q.2 0)))), (za_path, .inl (cy 0, 2916, .inl zf_path)), (za_move, .inl (cy 0, 2916, .inl zf_move)), (zfa, .inr (3, [.ref zfa_who, .ref zfa_hold, .ref zfa_harm, .ref zfa_cost, .int zf_size]))] [0, 4, 1, 2, 3]) hl.1 rfl rfl ⟨rfl, rfl, ⟨Nat.le_of_ble_eq_true rfl, Nat.le_of_ble_eq_true rfl⟩, ⟨Nat.le_of_ble_eq_true rfl, Nat.le_of_ble_eq_true rfl⟩, Nat.le_of_ble_eq_true rfl⟩ dX4_begin_74) (fun u8q H locs hwu8q hP hD hS => ?_)
        have hP : va_P D vwCl [(za, .inr (6, [.ref zfa, .ref za_mark, .ref za_path, .ref za_move, .ref za_without, .int k1qz_block, .int ((u8q.1 0)), .int 0])), (za_mark, .inl (cy 0, 2916, .inl ((u8q.2 0)))), (za_path, .inl (cy 0, 2916, .inl ((u8q.2 1)))), (za_move, .inl (cy 0, 2916, .inl ((u8q.2 2)))), (zfa, .inr (3, [.ref zfa_who, .ref zfa_hold, .ref zfa_harm, .ref zfa_cost, .int zf_size]))] H := hP
        have hD : va_D A [(za, .inr (6, [.ref zfa, .ref za_mark, .ref za_path, .ref za_move, .ref za_without, .int k1qz_block, .int ((u8q.1 0)), .int 0])), (za_mark, .inl (cy 0, 2916, .inl ((u8q.2 0)))), (za_path, .inl (cy 0, 2916, .inl ((u8q.2 1)))), (za_move, .inl (cy 0, 2916, .inl ((u8q.2 2)))), (zfa, .inr (3, [.ref zfa_who, .ref zfa_hold, .ref zfa_harm, .ref zfa_cost, .int zf_size]))] := hD
        obtain ⟨p9q, p10q⟩ := hwu8q
        rw [hQ0]
        exact k_vret (fun k => [k1qz_block, ((u8q.1 0)), 0].getD k 0, fun k => [(u8q.2 0), (u8q.2 1), (u8q.2 2)].getD k (fun _ => 0)) hx hb hr hlk (⟨(show 0 ≤ ((u8q.1 0)).toInt ∧ ((u8q.1 0)).toInt ≤ 2916 from ⟨by first | omega | (simp only [n_L0]; omega) | (simp only [n_L0]; done) | decide, by first | omega | (simp only [n_L0]; omega) | (simp only [n_L0]; done) | decide⟩), (show 0 ≤ (0 : Int32).toInt ∧ (0 : Int32).toInt ≤ 2147483647 by decide), (show rowR 2916 0 (2915) ((u8q.2 1)) from p10q)⟩) (hP.sub [0, 1, 2, 3, 4] rfl) (hD.sub [0, 1, 2, 3, 4] (by decide) rfl) hS (by decide) (by decide) dX4_begin_77
      · simp only [k_lt, k_le, k_eq, ne_eq, ge_iff_le, gt_iff_lt] at c2q
        refine lv_aload_n hx hb dX4_begin_18 rfl (lv_at hl 1 rfl) ?_
        refine lv_dup hx hb dX4_begin_19 rfl ?_
        refine va_get (D := D) (ci := 6) (v := .int k1qz_block) (C := RX4) (T := TX4) (N := 8) hx hb hts kin_RX4 hown hG.1 hP 0 rfl rfl 5 (by decide) (hts _ wm_371) (fun _ h9 => h9) rfl dX4_begin_20 ?_
        refine lv_bipush (v := 9) hx hb dX4_begin_23 (by decide) ?_
        refine lv_imul hx hb dX4_begin_25 ?_
        refine lv_topi (fun x11q ex11q => ?_)
        have rx11q := n_mul ex11q (a := k1qz_block.toInt) (b := 9) rfl n_L9 (by omega) (by omega)
        refine va_put (D := D) (ci := 6) (v := .int x11q) (ty := .int) (C := RX4) (T := TX4) (N := 8) hx hb hts kin_RX4 tyX4 tyX4_ok nmX4 hown hG.1 hP hD hS 0 rfl rfl 5 (by decide) (hts _ wm_371) (fun _ h9 => h9) rfl (by decide +kernel) rfl rfl (Nat.le_of_ble_eq_true rfl) dX4_begin_26 (fun H locs hP hD hS => ?_)
        have hP : va_P D vwCl [(za, .inr (6, [.ref zfa, .ref za_mark, .ref za_path, .ref za_move, .ref za_without, .int x11q, .int z_depth, .int z_first])), (za_mark, .inl (cy 0, 2916, .inl zf_mark)), (za_path, .inl (cy 0, 2916, .inl zf_path)), (za_move, .inl (cy 0, 2916, .inl zf_move)), (zfa, .inr (3, [.ref zfa_who, .ref zfa_hold, .ref zfa_harm, .ref zfa_cost, .int zf_size]))] H := hP
        have hD : va_D A [(za, .inr (6, [.ref zfa, .ref za_mark, .ref za_path, .ref za_move, .ref za_without, .int x11q, .int z_depth, .int z_first])), (za_mark, .inl (cy 0, 2916, .inl zf_mark)), (za_path, .inl (cy 0, 2916, .inl zf_path)), (za_move, .inl (cy 0, 2916, .inl zf_move)), (zfa, .inr (3, [.ref zfa_who, .ref zfa_hold, .ref zfa_harm, .ref zfa_cost, .int zf_size]))] := hD
        obtain ⟨x12q, ex12q⟩ : ∃ z : Int32, z = k1qy1 + 1 := ⟨_, rfl⟩
        refine lv_iinc (v := x12q) (lv' := [(1, .int x12q), (0, .ref za)]) hx hb dX4_begin_29 hl (k := 0) rfl (by rw [ex12q]; rfl) (by decide) rfl (fun ls hl => ?_)
        have rx12q := n_add ex12q (a := k1qy1.toInt) (b := 1) rfl n_L1 (by omega) (by omega)
        refine lv_goto (tgt := 7) hx hb dX4_begin_32 (by decide) ?_
        exact k1qih ((4 - x12q.toInt).toNat) (by omega) x12q x11q H locs ls ⟨by omega, by omega⟩ (show (x12q.toInt = 1 ∧ x11q.toInt = 1) ∨ (x12q.toInt = 2 ∧ x11q.toInt = 9) ∨ (x12q.toInt = 3 ∧ x11q.toInt = 81) ∨ (x12q.toInt = 4 ∧ x11q.toInt = 729) by omega) rfl hP hD hS (lv_sub hl [0, 1] rfl)
  exact k1q _ 1 1 H locs ls ⟨by rw [n_L1]; omega, by rw [n_L1]; omega⟩ (show ((1 : Int32).toInt = 1 ∧ (1 : Int32).toInt = 1) ∨ ((1 : Int32).toInt = 2 ∧ (1 : Int32).toInt = 9) ∨ ((1 : Int32).toInt = 3 ∧ (1 : Int32).toInt = 81) ∨ ((1 : Int32).toInt = 4 ∧ (1 : Int32).toInt = 729) by first | omega | (simp only [n_L1]; omega) | (simp only [n_L1]; done) | decide) rfl hP hD hS (lv_sub hl [0, 1] rfl)

set_option maxHeartbeats 4000000 in
set_option maxRecDepth 100000 in
/-- Keeper.hold -/
theorem c_khold (l : Launch) (hl0 : l.stackTraces = false) (D : va_G) (cy : Nat → ClassId) (sa : Nat → Nat) (za za_mark za_path za_move za_without zfa zfa_who zfa_hold zfa_harm zfa_cost : Nat) (z_block z_depth z_first zf_size : Int32) (zf_mark zf_path zf_move zf_without zff_hold zff_cost : Nat → Int32) (h_z_depth : 0 ≤ z_depth.toInt ∧ z_depth.toInt ≤ 2916) (h_z_first : 0 ≤ z_first.toInt ∧ z_first.toInt ≤ 2147483647) (h_zf_path : rowR 2916 0 (2915) zf_path) (h_zf_size : 0 ≤ zf_size.toInt ∧ zf_size.toInt ≤ 4) (h_zff_hold : rowR 4 0 (8) zff_hold) (h_zff_cost : rowR 16 0 (39) zff_cost) (sz : Nat) : Met l yX4_hold (Cond.code yX4_hold cX4_hold 4 (some .boolean) :: kWS) ({ frames := 13, cells := 0, slots := 0, locals := 480 }) (kPre D cy sa [.ref za] [(za, .inr (6, [.ref zfa, .ref za_mark, .ref za_path, .ref za_move, .ref za_without, .int z_block, .int z_depth, .int z_first])), (za_mark, .inl (cy 0, 2916, .inl zf_mark)), (za_path, .inl (cy 0, 2916, .inl zf_path)), (za_move, .inl (cy 0, 2916, .inl zf_move)), (za_without, .inl (cy 0, 4, .inl zf_without)), (zfa, .inr (3, [.ref zfa_who, .ref zfa_hold, .ref zfa_harm, .ref zfa_cost, .int zf_size])), (zfa_hold, .inl (cy 0, 4, .inl zff_hold)), (zfa_cost, .inl (cy 0, 16, .inl zff_cost))] sz) (va_Qi (fun (r : Int32) (u : (Nat → Int32) × (Nat → Nat → Int32)) => (r.toInt = 0 ∨ r.toInt = 1) ∧ (0 ≤ ((u.1 1)).toInt ∧ ((u.1 1)).toInt ≤ 2916) ∧ (0 ≤ ((u.1 2)).toInt ∧ ((u.1 2)).toInt ≤ 2147483647) ∧ (rowR 2916 0 (2915) ((u.2 1)))) (kB D (va_A [(za, .inr (6, [.ref zfa, .ref za_mark, .ref za_path, .ref za_move, .ref za_without, .int z_block, .int z_depth, .int z_first])), (za_mark, .inl (cy 0, 2916, .inl zf_mark)), (za_path, .inl (cy 0, 2916, .inl zf_path)), (za_move, .inl (cy 0, 2916, .inl zf_move)), (za_without, .inl (cy 0, 4, .inl zf_without)), (zfa, .inr (3, [.ref zfa_who, .ref zfa_hold, .ref zfa_harm, .ref zfa_cost, .int zf_size])), (zfa_hold, .inl (cy 0, 4, .inl zff_hold)), (zfa_cost, .inl (cy 0, 16, .inl zff_cost))] sz) (fun (u : (Nat → Int32) × (Nat → Nat → Int32)) => [(za, .inr (6, [.ref zfa, .ref za_mark, .ref za_path, .ref za_move, .ref za_without, .int ((u.1 0)), .int ((u.1 1)), .int ((u.1 2))])), (za_mark, .inl (cy 0, 2916, .inl ((u.2 0)))), (za_path, .inl (cy 0, 2916, .inl ((u.2 1)))), (za_move, .inl (cy 0, 2916, .inl ((u.2 2)))), (za_without, .inl (cy 0, 4, .inl ((u.2 3)))), (zfa, .inr (3, [.ref zfa_who, .ref zfa_hold, .ref zfa_harm, .ref zfa_cost, .int zf_size])), (zfa_hold, .inl (cy 0, 4, .inl zff_hold)), (zfa_cost, .inl (cy 0, 16, .inl zff_cost))])) (va_A [(za, .inr (6, [.ref zfa, .ref za_mark, .ref za_path, .ref za_move, .ref za_without, .int z_block, .int z_depth, .int z_first])), (za_mark, .inl (cy 0, 2916, .inl zf_mark)), (za_path, .inl (cy 0, 2916, .inl zf_path)), (za_move, .inl (cy 0, 2916, .inl zf_move)), (za_without, .inl (cy 0, 4, .inl zf_without)), (zfa, .inr (3, [.ref zfa_who, .ref zfa_hold, .ref zfa_harm, .ref zfa_cost, .int zf_size])), (zfa_hold, .inl (cy 0, 4, .inl zff_hold)), (zfa_cost, .inl (cy 0, 16, .inl zff_cost))] sz)) 0 0 (va_A [(za, .inr (6, [.ref zfa, .ref za_mark, .ref za_path, .ref za_move, .ref za_without, .int z_block, .int z_depth, .int z_first])), (za_mark, .inl (cy 0, 2916, .inl zf_mark)), (za_path, .inl (cy 0, 2916, .inl zf_path)), (za_move, .inl (cy 0, 2916, .inl zf_move)), (za_without, .inl (cy 0, 4, .inl zf_without)), (zfa, .inr (3, [.ref zfa_who, .ref zfa_hold, .ref zfa_harm, .ref zfa_cost, .int zf_size])), (zfa_hold, .inl (cy 0, 4, .inl zff_hold)), (zfa_cost, .inl (cy 0, 16, .inl zff_cost))] sz) := by
  refine k_ofW (y := yX4_hold) (cc := cX4_hold) (maxL := 4) (ret := (some .boolean)) (av := [.ref za]) (ws := [(za, .inr (6, [.ref zfa, .ref za_mark, .ref za_path, .ref za_move, .ref za_without, .int z_block, .int z_depth, .int z_first])), (za_mark, .inl (cy 0, 2916, .inl zf_mark)), (za_path, .inl (cy 0, 2916, .inl zf_path)), (za_move, .inl (cy 0, 2916, .inl zf_move)), (za_without, .inl (cy 0, 4, .inl zf_without)), (zfa, .inr (3, [.ref zfa_who, .ref zfa_hold, .ref zfa_harm, .ref zfa_cost, .int zf_size])), (zfa_hold, .inl (cy 0, 4, .inl zff_hold)), (zfa_cost, .inl (cy 0, 16, .inl zff_cost))]) (Qc := fun A => (va_Qi (fun (r : Int32) (u : (Nat → Int32) × (Nat → Nat → Int32)) => (r.toInt = 0 ∨ r.toInt = 1) ∧ (0 ≤ ((u.1 1)).toInt ∧ ((u.1 1)).toInt ≤ 2916) ∧ (0 ≤ ((u.1 2)).toInt ∧ ((u.1 2)).toInt ≤ 2147483647) ∧ (rowR 2916 0 (2915) ((u.2 1)))) (kB D A (fun (u : (Nat → Int32) × (Nat → Nat → Int32)) => [(za, .inr (6, [.ref zfa, .ref za_mark, .ref za_path, .ref za_move, .ref za_without, .int ((u.1 0)), .int ((u.1 1)), .int ((u.1 2))])), (za_mark, .inl (cy 0, 2916, .inl ((u.2 0)))), (za_path, .inl (cy 0, 2916, .inl ((u.2 1)))), (za_move, .inl (cy 0, 2916, .inl ((u.2 2)))), (za_without, .inl (cy 0, 4, .inl ((u.2 3)))), (zfa, .inr (3, [.ref zfa_who, .ref zfa_hold, .ref zfa_harm, .ref zfa_cost, .int zf_size])), (zfa_hold, .inl (cy 0, 4, .inl zff_hold)), (zfa_cost, .inl (cy 0, 16, .inl zff_cost))])) A)) (by decide) (Nat.le_of_ble_eq_true rfl) ?_
  intro p e s m below meth c ls A E hA hP hD hG hS hl
  obtain ⟨Q0, hQ0⟩ : ∃ Q0 : State → Prop, Q0 = MQ below (va_Qi (fun (r : Int32) (u : (Nat → Int32) × (Nat → Nat → Int32)) => (r.toInt = 0 ∨ r.toInt = 1) ∧ (0 ≤ ((u.1 1)).toInt ∧ ((u.1 1)).toInt ≤ 2916) ∧ (0 ≤ ((u.1 2)).toInt ∧ ((u.1 2)).toInt ≤ 2147483647) ∧ (rowR 2916 0 (2915) ((u.2 1)))) (kB D A (fun (u : (Nat → Int32) × (Nat → Nat → Int32)) => [(za, .inr (6, [.ref zfa, .ref za_mark, .ref za_path, .ref za_move, .ref za_without, .int ((u.1 0)), .int ((u.1 1)), .int ((u.1 2))])), (za_mark, .inl (cy 0, 2916, .inl ((u.2 0)))), (za_path, .inl (cy 0, 2916, .inl ((u.2 1)))), (za_move, .inl (cy 0, 2916, .inl ((u.2 2)))), (za_without, .inl (cy 0, 4, .inl ((u.2 3)))), (zfa, .inr (3, [.ref zfa_who, .ref zfa_hold, .ref zfa_harm, .ref zfa_cost, .int zf_size])), (zfa_hold, .inl (cy 0, 4, .inl zff_hold)), (zfa_cost, .inl (cy 0, 16, .inl zff_cost))])) A) ([.ref za] : List Value).toArray s 0 0 A := ⟨_, rfl⟩
  rw [← hQ0]
  obtain ⟨hx, hb, hml, hown, hts, hr, hlk, hnm⟩ := id E
  have hown : s.vm.findClass RX4 = some m.cls := hown
  have hl : lv_has ls 4 [(0, .ref za)] := hl
  obtain ⟨H, hH⟩ : ∃ H, H = s.heap := ⟨_, rfl⟩
  have hP : va_P D vwCl [(za, .inr (6, [.ref zfa, .ref za_mark, .ref za_path, .ref za_move, .ref za_without, .int z_block, .int z_depth, .int z_first])), (za_mark, .inl (cy 0, 2916, .inl zf_mark)), (za_path, .inl (cy 0, 2916, .inl zf_path)), (za_move, .inl (cy 0, 2916, .inl zf_move)), (za_without, .inl (cy 0, 4, .inl zf_without)), (zfa, .inr (3, [.ref zfa_who, .ref zfa_hold, .ref zfa_harm, .ref zfa_cost, .int zf_size])), (zfa_hold, .inl (cy 0, 4, .inl zff_hold)), (zfa_cost, .inl (cy 0, 16, .inl zff_cost))] H := by rw [hH]; exact hP
  have hS : va_S A s.heap H [] := by rw [hH]; exact va_S.rf
  rw [← hH]
  clear hH
  obtain ⟨locs, hlocs⟩ : ∃ locs : List Loc, locs = [] := ⟨_, rfl⟩
  rw [← hlocs] at hS ⊢
  refine lv_aload_n hx hb dX4_hold_0 rfl (lv_at hl 0 rfl) ?_
  refine k_calv [4, 6, 7] (⟨hP, hD, hG, hS, hA, rfl, rfl⟩ : kAt D cy sa A s H _ _ [(za, .inr (6, [.ref zfa, .ref za_mark, .ref za_path, .ref za_move, .ref za_without, .int z_block, .int z_depth, .int z_first])), (za_mark, .inl (cy 0, 2916, .inl zf_mark)), (za_path, .inl (cy 0, 2916, .inl zf_path)), (za_move, .inl (cy 0, 2916, .inl zf_move)), (zfa, .inr (3, [.ref zfa_who, .ref zfa_hold, .ref zfa_harm, .ref zfa_cost, .int zf_size]))] [0, 1, 2, 3, 5]) (wr := [(za_without, .inl (cy 0, 4, .inl zf_without)), (zfa_hold, .inl (cy 0, 4, .inl zff_hold)), (zfa_cost, .inl (cy 0, 16, .inl zff_cost))]) rfl rfl (by decide) (k_runV 6 0 (As := []) (rest := []) E lk_VRX4_38 rfl rfl rfl (c_kbegin l hl0 D cy sa za za_mark za_path za_move za_without zfa zfa_who zfa_hold zfa_harm zfa_cost z_block z_depth z_first zf_size zf_mark zf_path zf_move ⟨by omega, by omega⟩ ⟨by omega, by omega⟩ h_zf_path ⟨by omega, by omega⟩ H.size) (⟨hP, hD, hG, hS, hA, rfl, rfl⟩ : kAt D cy sa A s H _ _ [(za, .inr (6, [.ref zfa, .ref za_mark, .ref za_path, .ref za_move, .ref za_without, .int z_block, .int z_depth, .int z_first])), (za_mark, .inl (cy 0, 2916, .inl zf_mark)), (za_path, .inl (cy 0, 2916, .inl zf_path)), (za_move, .inl (cy 0, 2916, .inl zf_move)), (zfa, .inr (3, [.ref zfa_who, .ref zfa_hold, .ref zfa_harm, .ref zfa_cost, .int zf_size]))] [0, 1, 2, 3, 5]) hl.1 rfl rfl ⟨rfl, rfl, ⟨Nat.le_of_ble_eq_true rfl, Nat.le_of_ble_eq_true rfl⟩, ⟨Nat.le_of_ble_eq_true rfl, Nat.le_of_ble_eq_true rfl⟩, Nat.le_of_ble_eq_true rfl⟩ dX4_hold_1) (fun u2q H locs hwu2q hP hD hS => ?_)
  have hP : va_P D vwCl [(za_without, .inl (cy 0, 4, .inl zf_without)), (zfa_hold, .inl (cy 0, 4, .inl zff_hold)), (zfa_cost, .inl (cy 0, 16, .inl zff_cost)), (za, .inr (6, [.ref zfa, .ref za_mark, .ref za_path, .ref za_move, .ref za_without, .int ((u2q.1 0)), .int ((u2q.1 1)), .int ((u2q.1 2))])), (za_mark, .inl (cy 0, 2916, .inl ((u2q.2 0)))), (za_path, .inl (cy 0, 2916, .inl ((u2q.2 1)))), (za_move, .inl (cy 0, 2916, .inl ((u2q.2 2)))), (zfa, .inr (3, [.ref zfa_who, .ref zfa_hold, .ref zfa_harm, .ref zfa_cost, .int zf_size]))] H := hP
  have hD : va_D A [(za_without, .inl (cy 0, 4, .inl zf_without)), (zfa_hold, .inl (cy 0, 4, .inl zff_hold)), (zfa_cost, .inl (cy 0, 16, .inl zff_cost)), (za, .inr (6, [.ref zfa, .ref za_mark, .ref za_path, .ref za_move, .ref za_without, .int ((u2q.1 0)), .int ((u2q.1 1)), .int ((u2q.1 2))])), (za_mark, .inl (cy 0, 2916, .inl ((u2q.2 0)))), (za_path, .inl (cy 0, 2916, .inl ((u2q.2 1)))), (za_move, .inl (cy 0, 2916, .inl ((u2q.2 2)))), (zfa, .inr (3, [.ref zfa_who, .ref zfa_hold, .ref zfa_harm, .ref zfa_cost, .int zf_size]))] := hD
  obtain ⟨p3q, p4q, p5q⟩ := hwu2q
  refine lv_sipush (v := 17496) hx hb dX4_hold_4 (by decide) ?_
  refine lv_istore_n (lv' := [(1, .int 17496), (0, .ref za)]) hx hb dX4_hold_7 rfl hl (by decide) rfl (fun ls hl => ?_)
  have k6q : ∀ (n : Nat) (k6qy1 : Int32) (k6qz_depth : Int32) (k6qz_first : Int32) (k6qzf_mark : Nat → Int32) (k6qzf_path : Nat → Int32) (k6qzf_move : Nat → Int32) (k6qzf_without : Nat → Int32) (H : Heap) (locs : List Loc) (ls : Array Slot), 0 ≤ k6qy1.toInt ∧ k6qy1.toInt ≤ 17496 → 0 ≤ k6qz_depth.toInt ∧ k6qz_depth.toInt ≤ 2916 → 0 ≤ k6qz_first.toInt ∧ k6qz_first.toInt ≤ 2147483647 → rowR 2916 0 (2915) k6qzf_path → (k6qy1.toInt).toNat = n → va_P D vwCl [(za_without, .inl (cy 0, 4, .inl k6qzf_without)), (zfa_hold, .inl (cy 0, 4, .inl zff_hold)), (zfa_cost, .inl (cy 0, 16, .inl zff_cost)), (za, .inr (6, [.ref zfa, .ref za_mark, .ref za_path, .ref za_move, .ref za_without, .int ((u2q.1 0)), .int k6qz_depth, .int k6qz_first])), (za_mark, .inl (cy 0, 2916, .inl k6qzf_mark)), (za_path, .inl (cy 0, 2916, .inl k6qzf_path)), (za_move, .inl (cy 0, 2916, .inl k6qzf_move)), (zfa, .inr (3, [.ref zfa_who, .ref zfa_hold, .ref zfa_harm, .ref zfa_cost, .int zf_size]))] H → va_D A [(za_without, .inl (cy 0, 4, .inl k6qzf_without)), (zfa_hold, .inl (cy 0, 4, .inl zff_hold)), (zfa_cost, .inl (cy 0, 16, .inl zff_cost)), (za, .inr (6, [.ref zfa, .ref za_mark, .ref za_path, .ref za_move, .ref za_without, .int ((u2q.1 0)), .int k6qz_depth, .int k6qz_first])), (za_mark, .inl (cy 0, 2916, .inl k6qzf_mark)), (za_path, .inl (cy 0, 2916, .inl k6qzf_path)), (za_move, .inl (cy 0, 2916, .inl k6qzf_move)), (zfa, .inr (3, [.ref zfa_who, .ref zfa_hold, .ref zfa_harm, .ref zfa_cost, .int zf_size]))] → va_S A s.heap H locs → lv_has ls 4 [(1, .int k6qy1), (0, .ref za)] → W p l e ({ frames := 13, cells := 0, slots := 0, locals := 480 }) s m ([.ref za] : List Value).toArray below meth c H locs 0 0 Q0 (F0 m 8 ls []) := by
    intro n
    induction n using Nat.strongRecOn with
    | ind n k6qih =>
      intro k6qy1 k6qz_depth k6qz_first k6qzf_mark k6qzf_path k6qzf_move k6qzf_without H locs ls hk6qy1 hk6qz_depth hk6qz_first hk6qzf_path k6qm hP hD hS hl
      refine lv_iload_n hx hb dX4_hold_8 rfl (lv_at hl 0 rfl) ?_
      refine lv_if_le (tgt := 139) hx hb dX4_hold_9 (by decide) (fun c7q => ?_) (fun c7q => ?_)
      · simp only [k_lt, k_le, k_eq, ne_eq, ge_iff_le, gt_iff_lt, n_L0, n_L0] at c7q
        refine lv_iconst (v := 0) hx hb dX4_hold_139 (by decide) ?_
        rw [hQ0]
        exact k_zret (fun k => [((u2q.1 0)), k6qz_depth, k6qz_first].getD k 0, fun k => [k6qzf_mark, k6qzf_path, k6qzf_move, k6qzf_without].getD k (fun _ => 0)) hx hb hr hlk (k_nz (by decide)) (⟨(by show (0 : Int32).toInt = 0 ∨ (0 : Int32).toInt = 1; rw [n_L0]; omega), (show 0 ≤ k6qz_depth.toInt ∧ k6qz_depth.toInt ≤ 2916 from ⟨by omega, by omega⟩), (show 0 ≤ k6qz_first.toInt ∧ k6qz_first.toInt ≤ 2147483647 from ⟨by omega, by omega⟩), (show rowR 2916 0 (2915) k6qzf_path from hk6qzf_path)⟩) (hP.sub [3, 4, 5, 6, 0, 7, 1, 2] rfl) (hD.sub [3, 4, 5, 6, 0, 7, 1, 2] (by decide) rfl) hS (by decide) (by decide) dX4_hold_140
      · simp only [k_lt, k_le, k_eq, ne_eq, ge_iff_le, gt_iff_lt, n_L0, n_L0] at c7q
        refine lv_aload_n hx hb dX4_hold_12 rfl (lv_at hl 1 rfl) ?_
        refine va_get (D := D) (ci := 6) (v := .int k6qz_depth) (C := RX4) (T := TX4) (N := 8) hx hb hts kin_RX4 hown hG.1 hP 3 rfl rfl 6 (by decide) (hts _ wm_372) (fun _ h9 => h9) rfl dX4_hold_13 ?_
        refine lv_if_le (tgt := 139) hx hb dX4_hold_16 (by decide) (fun c8q => ?_) (fun c8q => ?_)
        · simp only [k_lt, k_le, k_eq, ne_eq, ge_iff_le, gt_iff_lt, n_L0, n_L0] at c8q
          refine lv_iconst (v := 0) hx hb dX4_hold_139 (by decide) ?_
          rw [hQ0]
          exact k_zret (fun k => [((u2q.1 0)), k6qz_depth, k6qz_first].getD k 0, fun k => [k6qzf_mark, k6qzf_path, k6qzf_move, k6qzf_without].getD k (fun _ => 0)) hx hb hr hlk (k_nz (by decide)) (⟨(by show (0 : Int32).toInt = 0 ∨ (0 : Int32).toInt = 1; rw [n_L0]; omega), (show 0 ≤ k6qz_depth.toInt ∧ k6qz_depth.toInt ≤ 2916 from ⟨by omega, by omega⟩), (show 0 ≤ k6qz_first.toInt ∧ k6qz_first.toInt ≤ 2147483647 from ⟨by omega, by omega⟩), (show rowR 2916 0 (2915) k6qzf_path from hk6qzf_path)⟩) (hP.sub [3, 4, 5, 6, 0, 7, 1, 2] rfl) (hD.sub [3, 4, 5, 6, 0, 7, 1, 2] (by decide) rfl) hS (by decide) (by decide) dX4_hold_140
        · simp only [k_lt, k_le, k_eq, ne_eq, ge_iff_le, gt_iff_lt, n_L0, n_L0] at c8q
          refine lv_aload_n hx hb dX4_hold_19 rfl (lv_at hl 1 rfl) ?_
          refine va_get (D := D) (ci := 6) (v := .ref za_move) (C := RX4) (T := TX4) (N := 8) hx hb hts kin_RX4 hown hG.1 hP 3 rfl rfl 3 (by decide) (hts _ wm_369) (fun _ h9 => h9) rfl dX4_hold_20 ?_
          refine lv_aload_n hx hb dX4_hold_23 rfl (lv_at hl 1 rfl) ?_
          refine va_get (D := D) (ci := 6) (v := .int k6qz_depth) (C := RX4) (T := TX4) (N := 8) hx hb hts kin_RX4 hown hG.1 hP 3 rfl rfl 6 (by decide) (hts _ wm_372) (fun _ h9 => h9) rfl dX4_hold_24 ?_
          refine lv_iconst (v := 1) hx hb dX4_hold_27 (by decide) ?_
          refine lv_isub hx hb dX4_hold_28 ?_
          refine lv_topi (fun x9q ex9q => ?_)
          have rx9q := n_sub ex9q (a := k6qz_depth.toInt) (b := 1) rfl n_L1 (by omega) (by omega)
          refine va_iald hx hb hG.1 hP 6 0 rfl rfl (n_in (by omega) (by omega)) dX4_hold_29 ?_
          refine lv_topi (fun x10q ex10q => ?_)
          refine lv_istore_n (lv' := [(2, .int x10q), (1, .int k6qy1), (0, .ref za)]) hx hb dX4_hold_30 rfl hl (by decide) rfl (fun ls hl => ?_)
          refine lv_aload_n hx hb dX4_hold_31 rfl (lv_at hl 2 rfl) ?_
          refine va_get (D := D) (ci := 6) (v := .ref zfa) (C := RX4) (T := TX4) (N := 8) hx hb hts kin_RX4 hown hG.1 hP 3 rfl rfl 0 (by decide) (hts _ wm_366) (fun _ h9 => h9) rfl dX4_hold_32 ?_
          refine lv_iload_n hx hb dX4_hold_35 rfl (lv_at hl 0 rfl) ?_
          refine k_cali [0, 1, 2, 3, 4, 5, 6] (⟨hP, hD, hG, hS, hA, rfl, rfl⟩ : kAt D cy sa A s H _ _ [(zfa, .inr (3, [.ref zfa_who, .ref zfa_hold, .ref zfa_harm, .ref zfa_cost, .int zf_size]))] [7]) (wr := [(za_without, .inl (cy 0, 4, .inl k6qzf_without)), (zfa_hold, .inl (cy 0, 4, .inl zff_hold)), (zfa_cost, .inl (cy 0, 16, .inl zff_cost)), (za, .inr (6, [.ref zfa, .ref za_mark, .ref za_path, .ref za_move, .ref za_without, .int ((u2q.1 0)), .int k6qz_depth, .int k6qz_first])), (za_mark, .inl (cy 0, 2916, .inl k6qzf_mark)), (za_path, .inl (cy 0, 2916, .inl k6qzf_path)), (za_move, .inl (cy 0, 2916, .inl k6qzf_move))]) rfl rfl (by decide) (k_runV 3 7 (As := [.int x10q]) (rest := []) E lk_VRX4_41 rfl rfl rfl (c_fhas l hl0 D cy sa zfa zfa_who zfa_hold zfa_harm zfa_cost zf_size x10q ⟨by omega, by omega⟩ H.size) (⟨hP, hD, hG, hS, hA, rfl, rfl⟩ : kAt D cy sa A s H _ _ [(zfa, .inr (3, [.ref zfa_who, .ref zfa_hold, .ref zfa_harm, .ref zfa_cost, .int zf_size]))] [7]) hl.1 rfl rfl ⟨rfl, rfl, ⟨Nat.le_of_ble_eq_true rfl, Nat.le_of_ble_eq_true rfl⟩, ⟨Nat.le_of_ble_eq_true rfl, Nat.le_of_ble_eq_true rfl⟩, Nat.le_of_ble_eq_true rfl⟩ dX4_hold_36) (fun r11q u12q H locs hwu12q hP hD hS => ?_)
          have hP : va_P D vwCl [(za_without, .inl (cy 0, 4, .inl k6qzf_without)), (zfa_hold, .inl (cy 0, 4, .inl zff_hold)), (zfa_cost, .inl (cy 0, 16, .inl zff_cost)), (za, .inr (6, [.ref zfa, .ref za_mark, .ref za_path, .ref za_move, .ref za_without, .int ((u2q.1 0)), .int k6qz_depth, .int k6qz_first])), (za_mark, .inl (cy 0, 2916, .inl k6qzf_mark)), (za_path, .inl (cy 0, 2916, .inl k6qzf_path)), (za_move, .inl (cy 0, 2916, .inl k6qzf_move)), (zfa, .inr (3, [.ref zfa_who, .ref zfa_hold, .ref zfa_harm, .ref zfa_cost, .int zf_size]))] H := hP
          have hD : va_D A [(za_without, .inl (cy 0, 4, .inl k6qzf_without)), (zfa_hold, .inl (cy 0, 4, .inl zff_hold)), (zfa_cost, .inl (cy 0, 16, .inl zff_cost)), (za, .inr (6, [.ref zfa, .ref za_mark, .ref za_path, .ref za_move, .ref za_without, .int ((u2q.1 0)), .int k6qz_depth, .int k6qz_first])), (za_mark, .inl (cy 0, 2916, .inl k6qzf_mark)), (za_path, .inl (cy 0, 2916, .inl k6qzf_path)), (za_move, .inl (cy 0, 2916, .inl k6qzf_move)), (zfa, .inr (3, [.ref zfa_who, .ref zfa_hold, .ref zfa_harm, .ref zfa_cost, .int zf_size]))] := hD
          have p13q := hwu12q
          refine lv_if_ne (tgt := 49) hx hb dX4_hold_39 (by decide) (fun c14q => ?_) (fun c14q => ?_)
          · simp only [k_lt, k_le, k_eq, ne_eq, ge_iff_le, gt_iff_lt, n_L0, n_L0] at c14q
            refine lv_aload_n hx hb dX4_hold_49 rfl (lv_at hl 2 rfl) ?_
            refine lv_aload_n hx hb dX4_hold_50 rfl (lv_at hl 2 rfl) ?_
            refine va_get (D := D) (ci := 6) (v := .ref za_path) (C := RX4) (T := TX4) (N := 8) hx hb hts kin_RX4 hown hG.1 hP 3 rfl rfl 2 (by decide) (hts _ wm_368) (fun _ h9 => h9) rfl dX4_hold_51 ?_
            refine lv_aload_n hx hb dX4_hold_54 rfl (lv_at hl 2 rfl) ?_
            refine va_get (D := D) (ci := 6) (v := .int k6qz_depth) (C := RX4) (T := TX4) (N := 8) hx hb hts kin_RX4 hown hG.1 hP 3 rfl rfl 6 (by decide) (hts _ wm_372) (fun _ h9 => h9) rfl dX4_hold_55 ?_
            refine lv_iconst (v := 1) hx hb dX4_hold_58 (by decide) ?_
            refine lv_isub hx hb dX4_hold_59 ?_
            refine lv_topi (fun x15q ex15q => ?_)
            have rx15q := n_sub ex15q (a := k6qz_depth.toInt) (b := 1) rfl n_L1 (by omega) (by omega)
            refine va_iald hx hb hG.1 hP 5 0 rfl rfl (n_in (by omega) (by omega)) dX4_hold_60 ?_
            refine lv_topi (fun x16q ex16q => ?_)
            have rx16q : 0 ≤ x16q.toInt ∧ x16q.toInt ≤ 2915 := by rw [ex16q]; exact hk6qzf_path _ (n_lt (by omega) (by omega))
            refine lv_iload_n hx hb dX4_hold_61 rfl (lv_at hl 0 rfl) ?_
            refine k_cali [4, 5, 6] (⟨hP, hD, hG, hS, hA, rfl, rfl⟩ : kAt D cy sa A s H _ _ [(za, .inr (6, [.ref zfa, .ref za_mark, .ref za_path, .ref za_move, .ref za_without, .int ((u2q.1 0)), .int k6qz_depth, .int k6qz_first])), (za_without, .inl (cy 0, 4, .inl k6qzf_without)), (zfa, .inr (3, [.ref zfa_who, .ref zfa_hold, .ref zfa_harm, .ref zfa_cost, .int zf_size])), (zfa_hold, .inl (cy 0, 4, .inl zff_hold)), (zfa_cost, .inl (cy 0, 16, .inl zff_cost))] [3, 0, 7, 1, 2]) (wr := [(za_mark, .inl (cy 0, 2916, .inl k6qzf_mark)), (za_path, .inl (cy 0, 2916, .inl k6qzf_path)), (za_move, .inl (cy 0, 2916, .inl k6qzf_move))]) rfl rfl (by decide) (k_runV 6 3 (As := [.int x16q, .int x10q]) (rest := []) E lk_VRX4_50 rfl rfl rfl (c_kstateBehind l hl0 D cy sa za za_mark za_path za_move za_without zfa zfa_who zfa_hold zfa_harm zfa_cost ((u2q.1 0)) k6qz_depth k6qz_first zf_size x16q x10q k6qzf_without zff_hold zff_cost ⟨by omega, by omega⟩ ⟨by omega, by omega⟩ ⟨by omega, by omega⟩ h_zff_hold h_zff_cost H.size) (⟨hP, hD, hG, hS, hA, rfl, rfl⟩ : kAt D cy sa A s H _ _ [(za, .inr (6, [.ref zfa, .ref za_mark, .ref za_path, .ref za_move, .ref za_without, .int ((u2q.1 0)), .int k6qz_depth, .int k6qz_first])), (za_without, .inl (cy 0, 4, .inl k6qzf_without)), (zfa, .inr (3, [.ref zfa_who, .ref zfa_hold, .ref zfa_harm, .ref zfa_cost, .int zf_size])), (zfa_hold, .inl (cy 0, 4, .inl zff_hold)), (zfa_cost, .inl (cy 0, 16, .inl zff_cost))] [3, 0, 7, 1, 2]) hl.1 rfl rfl ⟨rfl, rfl, ⟨Nat.le_of_ble_eq_true rfl, Nat.le_of_ble_eq_true rfl⟩, ⟨Nat.le_of_ble_eq_true rfl, Nat.le_of_ble_eq_true rfl⟩, Nat.le_of_ble_eq_true rfl⟩ dX4_hold_62) (fun r17q u18q H locs hwu18q hP hD hS => ?_)
            have hP : va_P D vwCl [(za_mark, .inl (cy 0, 2916, .inl k6qzf_mark)), (za_path, .inl (cy 0, 2916, .inl k6qzf_path)), (za_move, .inl (cy 0, 2916, .inl k6qzf_move)), (za, .inr (6, [.ref zfa, .ref za_mark, .ref za_path, .ref za_move, .ref za_without, .int ((u2q.1 0)), .int k6qz_depth, .int k6qz_first])), (za_without, .inl (cy 0, 4, .inl ((u18q.2 0)))), (zfa, .inr (3, [.ref zfa_who, .ref zfa_hold, .ref zfa_harm, .ref zfa_cost, .int zf_size])), (zfa_hold, .inl (cy 0, 4, .inl zff_hold)), (zfa_cost, .inl (cy 0, 16, .inl zff_cost))] H := hP
            have hD : va_D A [(za_mark, .inl (cy 0, 2916, .inl k6qzf_mark)), (za_path, .inl (cy 0, 2916, .inl k6qzf_path)), (za_move, .inl (cy 0, 2916, .inl k6qzf_move)), (za, .inr (6, [.ref zfa, .ref za_mark, .ref za_path, .ref za_move, .ref za_without, .int ((u2q.1 0)), .int k6qz_depth, .int k6qz_first])), (za_without, .inl (cy 0, 4, .inl ((u18q.2 0)))), (zfa, .inr (3, [.ref zfa_who, .ref zfa_hold, .ref zfa_harm, .ref zfa_cost, .int zf_size])), (zfa_hold, .inl (cy 0, 4, .inl zff_hold)), (zfa_cost, .inl (cy 0, 16, .inl zff_cost))] := hD
            refine lv_istore_n (lv' := [(3, .int r17q), (2, .int x10q), (1, .int k6qy1), (0, .ref za)]) hx hb dX4_hold_65 rfl hl (by decide) rfl (fun ls hl => ?_)
            refine lv_iload_n hx hb dX4_hold_66 rfl (lv_at hl 0 rfl) ?_
            refine lv_if_lt (tgt := 87) hx hb dX4_hold_67 (by decide) (fun c19q => ?_) (fun c19q => ?_)
            · simp only [k_lt, k_le, k_eq, ne_eq, ge_iff_le, gt_iff_lt, n_L0, n_L0] at c19q
              refine lv_aload_n hx hb dX4_hold_87 rfl (lv_at hl 3 rfl) ?_
              refine va_get (D := D) (ci := 6) (v := .ref za_move) (C := RX4) (T := TX4) (N := 8) hx hb hts kin_RX4 hown hG.1 hP 3 rfl rfl 3 (by decide) (hts _ wm_369) (fun _ h9 => h9) rfl dX4_hold_88 ?_
              refine lv_aload_n hx hb dX4_hold_91 rfl (lv_at hl 3 rfl) ?_
              refine va_get (D := D) (ci := 6) (v := .int k6qz_depth) (C := RX4) (T := TX4) (N := 8) hx hb hts kin_RX4 hown hG.1 hP 3 rfl rfl 6 (by decide) (hts _ wm_372) (fun _ h9 => h9) rfl dX4_hold_92 ?_
              refine lv_iconst (v := 1) hx hb dX4_hold_95 (by decide) ?_
              refine lv_isub hx hb dX4_hold_96 ?_
              refine lv_topi (fun x20q ex20q => ?_)
              have rx20q := n_sub ex20q (a := k6qz_depth.toInt) (b := 1) rfl n_L1 (by omega) (by omega)
              refine lv_dup2_11 hx hb dX4_hold_97 rfl rfl ?_
              refine va_iald hx hb hG.1 hP 2 0 rfl rfl (n_in (by omega) (by omega)) dX4_hold_98 ?_
              refine lv_topi (fun x21q ex21q => ?_)
              refine lv_iconst (v := 1) hx hb dX4_hold_99 (by decide) ?_
              refine lv_iadd hx hb dX4_hold_100 ?_
              refine lv_topi (fun x22q ex22q => ?_)
              have gx22q := k_rng x21q
              refine va_iast hx hb hG.1 hP hD hS 2 0 rfl rfl (n_in (by omega) (by omega)) dX4_hold_101 (fun H locs hP hD hS => ?_)
              have hP : va_P D vwCl [(za_mark, .inl (cy 0, 2916, .inl k6qzf_mark)), (za_path, .inl (cy 0, 2916, .inl k6qzf_path)), (za_move, .inl (cy 0, 2916, .inl (upd (k6qzf_move) (x20q : Int32).toNatClampNeg x22q))), (za, .inr (6, [.ref zfa, .ref za_mark, .ref za_path, .ref za_move, .ref za_without, .int ((u2q.1 0)), .int k6qz_depth, .int k6qz_first])), (za_without, .inl (cy 0, 4, .inl ((u18q.2 0)))), (zfa, .inr (3, [.ref zfa_who, .ref zfa_hold, .ref zfa_harm, .ref zfa_cost, .int zf_size])), (zfa_hold, .inl (cy 0, 4, .inl zff_hold)), (zfa_cost, .inl (cy 0, 16, .inl zff_cost))] H := hP
              have hD : va_D A [(za_mark, .inl (cy 0, 2916, .inl k6qzf_mark)), (za_path, .inl (cy 0, 2916, .inl k6qzf_path)), (za_move, .inl (cy 0, 2916, .inl (upd (k6qzf_move) (x20q : Int32).toNatClampNeg x22q))), (za, .inr (6, [.ref zfa, .ref za_mark, .ref za_path, .ref za_move, .ref za_without, .int ((u2q.1 0)), .int k6qz_depth, .int k6qz_first])), (za_without, .inl (cy 0, 4, .inl ((u18q.2 0)))), (zfa, .inr (3, [.ref zfa_who, .ref zfa_hold, .ref zfa_harm, .ref zfa_cost, .int zf_size])), (zfa_hold, .inl (cy 0, 4, .inl zff_hold)), (zfa_cost, .inl (cy 0, 16, .inl zff_cost))] := hD
              generalize upd (k6qzf_move) (x20q : Int32).toNatClampNeg x22q = f23q at hP hD
              have hP : va_P D vwCl [(za_mark, .inl (cy 0, 2916, .inl k6qzf_mark)), (za_path, .inl (cy 0, 2916, .inl k6qzf_path)), (za_move, .inl (cy 0, 2916, .inl f23q)), (za, .inr (6, [.ref zfa, .ref za_mark, .ref za_path, .ref za_move, .ref za_without, .int ((u2q.1 0)), .int k6qz_depth, .int k6qz_first])), (za_without, .inl (cy 0, 4, .inl ((u18q.2 0)))), (zfa, .inr (3, [.ref zfa_who, .ref zfa_hold, .ref zfa_harm, .ref zfa_cost, .int zf_size])), (zfa_hold, .inl (cy 0, 4, .inl zff_hold)), (zfa_cost, .inl (cy 0, 16, .inl zff_cost))] H := hP
              have hD : va_D A [(za_mark, .inl (cy 0, 2916, .inl k6qzf_mark)), (za_path, .inl (cy 0, 2916, .inl k6qzf_path)), (za_move, .inl (cy 0, 2916, .inl f23q)), (za, .inr (6, [.ref zfa, .ref za_mark, .ref za_path, .ref za_move, .ref za_without, .int ((u2q.1 0)), .int k6qz_depth, .int k6qz_first])), (za_without, .inl (cy 0, 4, .inl ((u18q.2 0)))), (zfa, .inr (3, [.ref zfa_who, .ref zfa_hold, .ref zfa_harm, .ref zfa_cost, .int zf_size])), (zfa_hold, .inl (cy 0, 4, .inl zff_hold)), (zfa_cost, .inl (cy 0, 16, .inl zff_cost))] := hD
              refine lv_goto (tgt := 133) hx hb dX4_hold_102 (by decide) ?_
              obtain ⟨x24q, ex24q⟩ : ∃ z : Int32, z = k6qy1 + (-1) := ⟨_, rfl⟩
              refine lv_iinc (v := x24q) (lv' := [(1, .int x24q), (3, .int r17q), (2, .int x10q), (0, .ref za)]) hx hb dX4_hold_133 hl (k := 2) rfl (by rw [ex24q]; rfl) (by decide) rfl (fun ls hl => ?_)
              have rx24q := n_add ex24q (a := k6qy1.toInt) (b := (-1)) rfl n_Lm1 (by omega) (by omega)
              refine lv_goto (tgt := 8) hx hb dX4_hold_136 (by decide) ?_
              exact k6qih ((x24q.toInt).toNat) (by omega) x24q k6qz_depth k6qz_first k6qzf_mark k6qzf_path f23q (u18q.2 0) H locs ls ⟨by omega, by omega⟩ ⟨by omega, by omega⟩ ⟨by omega, by omega⟩ hk6qzf_path rfl (hP.sub [4, 6, 7, 3, 0, 1, 2, 5] rfl) (hD.sub [4, 6, 7, 3, 0, 1, 2, 5] (by decide) rfl) hS (lv_sub hl [0, 3] rfl)
            · simp only [k_lt, k_le, k_eq, ne_eq, ge_iff_le, gt_iff_lt, n_L0, n_L0] at c19q
              refine lv_iload_n hx hb dX4_hold_70 rfl (lv_at hl 0 rfl) ?_
              refine lv_sipush (v := 2916) hx hb dX4_hold_71 (by decide) ?_
              refine lv_icmp_ge (tgt := 87) hx hb dX4_hold_74 (by decide) (fun c25q => ?_) (fun c25q => ?_)
              · simp only [k_lt, k_le, k_eq, ne_eq, ge_iff_le, gt_iff_lt, n_L2916] at c25q
                refine lv_aload_n hx hb dX4_hold_87 rfl (lv_at hl 3 rfl) ?_
                refine va_get (D := D) (ci := 6) (v := .ref za_move) (C := RX4) (T := TX4) (N := 8) hx hb hts kin_RX4 hown hG.1 hP 3 rfl rfl 3 (by decide) (hts _ wm_369) (fun _ h9 => h9) rfl dX4_hold_88 ?_
                refine lv_aload_n hx hb dX4_hold_91 rfl (lv_at hl 3 rfl) ?_
                refine va_get (D := D) (ci := 6) (v := .int k6qz_depth) (C := RX4) (T := TX4) (N := 8) hx hb hts kin_RX4 hown hG.1 hP 3 rfl rfl 6 (by decide) (hts _ wm_372) (fun _ h9 => h9) rfl dX4_hold_92 ?_
                refine lv_iconst (v := 1) hx hb dX4_hold_95 (by decide) ?_
                refine lv_isub hx hb dX4_hold_96 ?_
                refine lv_topi (fun x26q ex26q => ?_)
                have rx26q := n_sub ex26q (a := k6qz_depth.toInt) (b := 1) rfl n_L1 (by omega) (by omega)
                refine lv_dup2_11 hx hb dX4_hold_97 rfl rfl ?_
                refine va_iald hx hb hG.1 hP 2 0 rfl rfl (n_in (by omega) (by omega)) dX4_hold_98 ?_
                refine lv_topi (fun x27q ex27q => ?_)
                refine lv_iconst (v := 1) hx hb dX4_hold_99 (by decide) ?_
                refine lv_iadd hx hb dX4_hold_100 ?_
                refine lv_topi (fun x28q ex28q => ?_)
                have gx28q := k_rng x27q
                refine va_iast hx hb hG.1 hP hD hS 2 0 rfl rfl (n_in (by omega) (by omega)) dX4_hold_101 (fun H locs hP hD hS => ?_)
                have hP : va_P D vwCl [(za_mark, .inl (cy 0, 2916, .inl k6qzf_mark)), (za_path, .inl (cy 0, 2916, .inl k6qzf_path)), (za_move, .inl (cy 0, 2916, .inl (upd (k6qzf_move) (x26q : Int32).toNatClampNeg x28q))), (za, .inr (6, [.ref zfa, .ref za_mark, .ref za_path, .ref za_move, .ref za_without, .int ((u2q.1 0)), .int k6qz_depth, .int k6qz_first])), (za_without, .inl (cy 0, 4, .inl ((u18q.2 0)))), (zfa, .inr (3, [.ref zfa_who, .ref zfa_hold, .ref zfa_harm, .ref zfa_cost, .int zf_size])), (zfa_hold, .inl (cy 0, 4, .inl zff_hold)), (zfa_cost, .inl (cy 0, 16, .inl zff_cost))] H := hP
                have hD : va_D A [(za_mark, .inl (cy 0, 2916, .inl k6qzf_mark)), (za_path, .inl (cy 0, 2916, .inl k6qzf_path)), (za_move, .inl (cy 0, 2916, .inl (upd (k6qzf_move) (x26q : Int32).toNatClampNeg x28q))), (za, .inr (6, [.ref zfa, .ref za_mark, .ref za_path, .ref za_move, .ref za_without, .int ((u2q.1 0)), .int k6qz_depth, .int k6qz_first])), (za_without, .inl (cy 0, 4, .inl ((u18q.2 0)))), (zfa, .inr (3, [.ref zfa_who, .ref zfa_hold, .ref zfa_harm, .ref zfa_cost, .int zf_size])), (zfa_hold, .inl (cy 0, 4, .inl zff_hold)), (zfa_cost, .inl (cy 0, 16, .inl zff_cost))] := hD
                generalize upd (k6qzf_move) (x26q : Int32).toNatClampNeg x28q = f29q at hP hD
                have hP : va_P D vwCl [(za_mark, .inl (cy 0, 2916, .inl k6qzf_mark)), (za_path, .inl (cy 0, 2916, .inl k6qzf_path)), (za_move, .inl (cy 0, 2916, .inl f29q)), (za, .inr (6, [.ref zfa, .ref za_mark, .ref za_path, .ref za_move, .ref za_without, .int ((u2q.1 0)), .int k6qz_depth, .int k6qz_first])), (za_without, .inl (cy 0, 4, .inl ((u18q.2 0)))), (zfa, .inr (3, [.ref zfa_who, .ref zfa_hold, .ref zfa_harm, .ref zfa_cost, .int zf_size])), (zfa_hold, .inl (cy 0, 4, .inl zff_hold)), (zfa_cost, .inl (cy 0, 16, .inl zff_cost))] H := hP
                have hD : va_D A [(za_mark, .inl (cy 0, 2916, .inl k6qzf_mark)), (za_path, .inl (cy 0, 2916, .inl k6qzf_path)), (za_move, .inl (cy 0, 2916, .inl f29q)), (za, .inr (6, [.ref zfa, .ref za_mark, .ref za_path, .ref za_move, .ref za_without, .int ((u2q.1 0)), .int k6qz_depth, .int k6qz_first])), (za_without, .inl (cy 0, 4, .inl ((u18q.2 0)))), (zfa, .inr (3, [.ref zfa_who, .ref zfa_hold, .ref zfa_harm, .ref zfa_cost, .int zf_size])), (zfa_hold, .inl (cy 0, 4, .inl zff_hold)), (zfa_cost, .inl (cy 0, 16, .inl zff_cost))] := hD
                refine lv_goto (tgt := 133) hx hb dX4_hold_102 (by decide) ?_
                obtain ⟨x30q, ex30q⟩ : ∃ z : Int32, z = k6qy1 + (-1) := ⟨_, rfl⟩
                refine lv_iinc (v := x30q) (lv' := [(1, .int x30q), (3, .int r17q), (2, .int x10q), (0, .ref za)]) hx hb dX4_hold_133 hl (k := 2) rfl (by rw [ex30q]; rfl) (by decide) rfl (fun ls hl => ?_)
                have rx30q := n_add ex30q (a := k6qy1.toInt) (b := (-1)) rfl n_Lm1 (by omega) (by omega)
                refine lv_goto (tgt := 8) hx hb dX4_hold_136 (by decide) ?_
                exact k6qih ((x30q.toInt).toNat) (by omega) x30q k6qz_depth k6qz_first k6qzf_mark k6qzf_path f29q (u18q.2 0) H locs ls ⟨by omega, by omega⟩ ⟨by omega, by omega⟩ ⟨by omega, by omega⟩ hk6qzf_path rfl (hP.sub [4, 6, 7, 3, 0, 1, 2, 5] rfl) (hD.sub [4, 6, 7, 3, 0, 1, 2, 5] (by decide) rfl) hS (lv_sub hl [0, 3] rfl)
              · simp only [k_lt, k_le, k_eq, ne_eq, ge_iff_le, gt_iff_lt, n_L2916] at c25q
                refine lv_aload_n hx hb dX4_hold_77 rfl (lv_at hl 3 rfl) ?_
                refine va_get (D := D) (ci := 6) (v := .ref za_mark) (C := RX4) (T := TX4) (N := 8) hx hb hts kin_RX4 hown hG.1 hP 3 rfl rfl 1 (by decide) (hts _ wm_367) (fun _ h9 => h9) rfl dX4_hold_78 ?_
                refine lv_iload_n hx hb dX4_hold_81 rfl (lv_at hl 0 rfl) ?_
                refine va_iald hx hb hG.1 hP 0 0 rfl rfl (n_in (by omega) (by omega)) dX4_hold_82 ?_
                refine lv_topi (fun x31q ex31q => ?_)
                refine lv_iconst (v := (-1)) hx hb dX4_hold_83 (by decide) ?_
                refine lv_icmp_ne (tgt := 105) hx hb dX4_hold_84 (by decide) (fun c32q => ?_) (fun c32q => ?_)
                · simp only [k_lt, k_le, k_eq, ne_eq, ge_iff_le, gt_iff_lt, n_Lm1] at c32q
                  refine lv_aload_n hx hb dX4_hold_105 rfl (lv_at hl 3 rfl) ?_
                  refine va_get (D := D) (ci := 6) (v := .ref za_mark) (C := RX4) (T := TX4) (N := 8) hx hb hts kin_RX4 hown hG.1 hP 3 rfl rfl 1 (by decide) (hts _ wm_367) (fun _ h9 => h9) rfl dX4_hold_106 ?_
                  refine lv_iload_n hx hb dX4_hold_109 rfl (lv_at hl 0 rfl) ?_
                  refine va_iald hx hb hG.1 hP 0 0 rfl rfl (n_in (by omega) (by omega)) dX4_hold_110 ?_
                  refine lv_topi (fun x33q ex33q => ?_)
                  have qx33q : x31q = x33q := ex31q.trans ex33q.symm
                  subst qx33q
                  refine lv_if_le (tgt := 128) hx hb dX4_hold_111 (by decide) (fun c34q => ?_) (fun c34q => ?_)
                  · simp only [k_lt, k_le, k_eq, ne_eq, ge_iff_le, gt_iff_lt, n_L0, n_L0] at c34q
                    refine lv_aload_n hx hb dX4_hold_128 rfl (lv_at hl 3 rfl) ?_
                    refine lv_iload_n hx hb dX4_hold_129 rfl (lv_at hl 0 rfl) ?_
                    refine k_calv [4, 6, 7] (⟨hP, hD, hG, hS, hA, rfl, rfl⟩ : kAt D cy sa A s H _ _ [(za, .inr (6, [.ref zfa, .ref za_mark, .ref za_path, .ref za_move, .ref za_without, .int ((u2q.1 0)), .int k6qz_depth, .int k6qz_first])), (za_mark, .inl (cy 0, 2916, .inl k6qzf_mark)), (za_path, .inl (cy 0, 2916, .inl k6qzf_path)), (za_move, .inl (cy 0, 2916, .inl k6qzf_move)), (zfa, .inr (3, [.ref zfa_who, .ref zfa_hold, .ref zfa_harm, .ref zfa_cost, .int zf_size]))] [3, 0, 1, 2, 5]) (wr := [(za_without, .inl (cy 0, 4, .inl ((u18q.2 0)))), (zfa_hold, .inl (cy 0, 4, .inl zff_hold)), (zfa_cost, .inl (cy 0, 16, .inl zff_cost))]) rfl rfl (by decide) (k_runV 6 3 (As := [.int r17q]) (rest := []) E lk_VRX4_54 rfl rfl rfl (c_push l hl0 D cy sa za za_mark za_path za_move za_without zfa zfa_who zfa_hold zfa_harm zfa_cost ((u2q.1 0)) k6qz_depth k6qz_first zf_size r17q k6qzf_mark k6qzf_path k6qzf_move ⟨by omega, by omega⟩ ⟨by omega, by omega⟩ hk6qzf_path ⟨by omega, by omega⟩ ⟨by omega, by omega⟩ H.size) (⟨hP, hD, hG, hS, hA, rfl, rfl⟩ : kAt D cy sa A s H _ _ [(za, .inr (6, [.ref zfa, .ref za_mark, .ref za_path, .ref za_move, .ref za_without, .int ((u2q.1 0)), .int k6qz_depth, .int k6qz_first])), (za_mark, .inl (cy 0, 2916, .inl k6qzf_mark)), (za_path, .inl (cy 0, 2916, .inl k6qzf_path)), (za_move, .inl (cy 0, 2916, .inl k6qzf_move)), (zfa, .inr (3, [.ref zfa_who, .ref zfa_hold, .ref zfa_harm, .ref zfa_cost, .int zf_size]))] [3, 0, 1, 2, 5]) hl.1 rfl rfl ⟨rfl, rfl, ⟨Nat.le_of_ble_eq_true rfl, Nat.le_of_ble_eq_true rfl⟩, ⟨Nat.le_of_ble_eq_true rfl, Nat.le_of_ble_eq_true rfl⟩, Nat.le_of_ble_eq_true rfl⟩ dX4_hold_130) (fun u36q H locs hwu36q hP hD hS => ?_)
                    have hP : va_P D vwCl [(za_without, .inl (cy 0, 4, .inl ((u18q.2 0)))), (zfa_hold, .inl (cy 0, 4, .inl zff_hold)), (zfa_cost, .inl (cy 0, 16, .inl zff_cost)), (za, .inr (6, [.ref zfa, .ref za_mark, .ref za_path, .ref za_move, .ref za_without, .int ((u2q.1 0)), .int ((u36q.1 0)), .int k6qz_first])), (za_mark, .inl (cy 0, 2916, .inl ((u36q.2 0)))), (za_path, .inl (cy 0, 2916, .inl ((u36q.2 1)))), (za_move, .inl (cy 0, 2916, .inl ((u36q.2 2)))), (zfa, .inr (3, [.ref zfa_who, .ref zfa_hold, .ref zfa_harm, .ref zfa_cost, .int zf_size]))] H := hP
                    have hD : va_D A [(za_without, .inl (cy 0, 4, .inl ((u18q.2 0)))), (zfa_hold, .inl (cy 0, 4, .inl zff_hold)), (zfa_cost, .inl (cy 0, 16, .inl zff_cost)), (za, .inr (6, [.ref zfa, .ref za_mark, .ref za_path, .ref za_move, .ref za_without, .int ((u2q.1 0)), .int ((u36q.1 0)), .int k6qz_first])), (za_mark, .inl (cy 0, 2916, .inl ((u36q.2 0)))), (za_path, .inl (cy 0, 2916, .inl ((u36q.2 1)))), (za_move, .inl (cy 0, 2916, .inl ((u36q.2 2)))), (zfa, .inr (3, [.ref zfa_who, .ref zfa_hold, .ref zfa_harm, .ref zfa_cost, .int zf_size]))] := hD
                    obtain ⟨p37q, p38q⟩ := hwu36q
                    obtain ⟨x39q, ex39q⟩ : ∃ z : Int32, z = k6qy1 + (-1) := ⟨_, rfl⟩
                    refine lv_iinc (v := x39q) (lv' := [(1, .int x39q), (3, .int r17q), (2, .int x10q), (0, .ref za)]) hx hb dX4_hold_133 hl (k := 2) rfl (by rw [ex39q]; rfl) (by decide) rfl (fun ls hl => ?_)
                    have rx39q := n_add ex39q (a := k6qy1.toInt) (b := (-1)) rfl n_Lm1 (by omega) (by omega)
                    refine lv_goto (tgt := 8) hx hb dX4_hold_136 (by decide) ?_
                    exact k6qih ((x39q.toInt).toNat) (by omega) x39q (u36q.1 0) k6qz_first (u36q.2 0) (u36q.2 1) (u36q.2 2) (u18q.2 0) H locs ls ⟨by omega, by omega⟩ ⟨by omega, by omega⟩ ⟨by omega, by omega⟩ p38q rfl hP hD hS (lv_sub hl [0, 3] rfl)
                  · simp only [k_lt, k_le, k_eq, ne_eq, ge_iff_le, gt_iff_lt, n_L0, n_L0] at c34q
                    refine lv_aload_n hx hb dX4_hold_114 rfl (lv_at hl 3 rfl) ?_
                    refine lv_aload_n hx hb dX4_hold_115 rfl (lv_at hl 3 rfl) ?_
                    refine va_get (D := D) (ci := 6) (v := .ref za_mark) (C := RX4) (T := TX4) (N := 8) hx hb hts kin_RX4 hown hG.1 hP 3 rfl rfl 1 (by decide) (hts _ wm_367) (fun _ h9 => h9) rfl dX4_hold_116 ?_
                    refine lv_iload_n hx hb dX4_hold_119 rfl (lv_at hl 0 rfl) ?_
                    refine va_iald hx hb hG.1 hP 0 0 rfl rfl (n_in (by omega) (by omega)) dX4_hold_120 ?_
                    refine lv_topi (fun x40q ex40q => ?_)
                    have qx40q : x31q = x40q := ex31q.trans ex40q.symm
                    subst qx40q
                    refine lv_iconst (v := 1) hx hb dX4_hold_121 (by decide) ?_
                    refine lv_isub hx hb dX4_hold_122 ?_
                    refine lv_topi (fun x41q ex41q => ?_)
                    have gx41q := k_rng x31q
                    have rx41q := n_sub ex41q (a := x31q.toInt) (b := 1) rfl n_L1 (by omega) (by omega)
                    refine va_put (D := D) (ci := 6) (v := .int x41q) (ty := .int) (C := RX4) (T := TX4) (N := 8) hx hb hts kin_RX4 tyX4 tyX4_ok nmX4 hown hG.1 hP hD hS 3 rfl rfl 7 (by decide) (hts _ wm_374) (fun _ h9 => h9) rfl (by decide +kernel) rfl rfl (Nat.le_of_ble_eq_true rfl) dX4_hold_123 (fun H locs hP hD hS => ?_)
                    have hP : va_P D vwCl [(za_mark, .inl (cy 0, 2916, .inl k6qzf_mark)), (za_path, .inl (cy 0, 2916, .inl k6qzf_path)), (za_move, .inl (cy 0, 2916, .inl k6qzf_move)), (za, .inr (6, [.ref zfa, .ref za_mark, .ref za_path, .ref za_move, .ref za_without, .int ((u2q.1 0)), .int k6qz_depth, .int x41q])), (za_without, .inl (cy 0, 4, .inl ((u18q.2 0)))), (zfa, .inr (3, [.ref zfa_who, .ref zfa_hold, .ref zfa_harm, .ref zfa_cost, .int zf_size])), (zfa_hold, .inl (cy 0, 4, .inl zff_hold)), (zfa_cost, .inl (cy 0, 16, .inl zff_cost))] H := hP
                    have hD : va_D A [(za_mark, .inl (cy 0, 2916, .inl k6qzf_mark)), (za_path, .inl (cy 0, 2916, .inl k6qzf_path)), (za_move, .inl (cy 0, 2916, .inl k6qzf_move)), (za, .inr (6, [.ref zfa, .ref za_mark, .ref za_path, .ref za_move, .ref za_without, .int ((u2q.1 0)), .int k6qz_depth, .int x41q])), (za_without, .inl (cy 0, 4, .inl ((u18q.2 0)))), (zfa, .inr (3, [.ref zfa_who, .ref zfa_hold, .ref zfa_harm, .ref zfa_cost, .int zf_size])), (zfa_hold, .inl (cy 0, 4, .inl zff_hold)), (zfa_cost, .inl (cy 0, 16, .inl zff_cost))] := hD
                    refine lv_iconst (v := 1) hx hb dX4_hold_126 (by decide) ?_
                    rw [hQ0]
                    exact k_zret (fun k => [((u2q.1 0)), k6qz_depth, x41q].getD k 0, fun k => [k6qzf_mark, k6qzf_path, k6qzf_move, (u18q.2 0)].getD k (fun _ => 0)) hx hb hr hlk (k_nz (by decide)) (⟨(by show (1 : Int32).toInt = 0 ∨ (1 : Int32).toInt = 1; rw [n_L1]; omega), (show 0 ≤ k6qz_depth.toInt ∧ k6qz_depth.toInt ≤ 2916 from ⟨by omega, by omega⟩), (show 0 ≤ x41q.toInt ∧ x41q.toInt ≤ 2147483647 from ⟨by omega, by omega⟩), (show rowR 2916 0 (2915) k6qzf_path from hk6qzf_path)⟩) (hP.sub [3, 0, 1, 2, 4, 5, 6, 7] rfl) (hD.sub [3, 0, 1, 2, 4, 5, 6, 7] (by decide) rfl) hS (by decide) (by decide) dX4_hold_127
                · simp only [k_lt, k_le, k_eq, ne_eq, ge_iff_le, gt_iff_lt, n_Lm1] at c32q
                  refine lv_aload_n hx hb dX4_hold_87 rfl (lv_at hl 3 rfl) ?_
                  refine va_get (D := D) (ci := 6) (v := .ref za_move) (C := RX4) (T := TX4) (N := 8) hx hb hts kin_RX4 hown hG.1 hP 3 rfl rfl 3 (by decide) (hts _ wm_369) (fun _ h9 => h9) rfl dX4_hold_88 ?_
                  refine lv_aload_n hx hb dX4_hold_91 rfl (lv_at hl 3 rfl) ?_
                  refine va_get (D := D) (ci := 6) (v := .int k6qz_depth) (C := RX4) (T := TX4) (N := 8) hx hb hts kin_RX4 hown hG.1 hP 3 rfl rfl 6 (by decide) (hts _ wm_372) (fun _ h9 => h9) rfl dX4_hold_92 ?_
                  refine lv_iconst (v := 1) hx hb dX4_hold_95 (by decide) ?_
                  refine lv_isub hx hb dX4_hold_96 ?_
                  refine lv_topi (fun x42q ex42q => ?_)
                  have rx42q := n_sub ex42q (a := k6qz_depth.toInt) (b := 1) rfl n_L1 (by omega) (by omega)
                  refine lv_dup2_11 hx hb dX4_hold_97 rfl rfl ?_
                  refine va_iald hx hb hG.1 hP 2 0 rfl rfl (n_in (by omega) (by omega)) dX4_hold_98 ?_
                  refine lv_topi (fun x43q ex43q => ?_)
                  refine lv_iconst (v := 1) hx hb dX4_hold_99 (by decide) ?_
                  refine lv_iadd hx hb dX4_hold_100 ?_
                  refine lv_topi (fun x44q ex44q => ?_)
                  have gx44q := k_rng x43q
                  refine va_iast hx hb hG.1 hP hD hS 2 0 rfl rfl (n_in (by omega) (by omega)) dX4_hold_101 (fun H locs hP hD hS => ?_)
                  have hP : va_P D vwCl [(za_mark, .inl (cy 0, 2916, .inl k6qzf_mark)), (za_path, .inl (cy 0, 2916, .inl k6qzf_path)), (za_move, .inl (cy 0, 2916, .inl (upd (k6qzf_move) (x42q : Int32).toNatClampNeg x44q))), (za, .inr (6, [.ref zfa, .ref za_mark, .ref za_path, .ref za_move, .ref za_without, .int ((u2q.1 0)), .int k6qz_depth, .int k6qz_first])), (za_without, .inl (cy 0, 4, .inl ((u18q.2 0)))), (zfa, .inr (3, [.ref zfa_who, .ref zfa_hold, .ref zfa_harm, .ref zfa_cost, .int zf_size])), (zfa_hold, .inl (cy 0, 4, .inl zff_hold)), (zfa_cost, .inl (cy 0, 16, .inl zff_cost))] H := hP
                  have hD : va_D A [(za_mark, .inl (cy 0, 2916, .inl k6qzf_mark)), (za_path, .inl (cy 0, 2916, .inl k6qzf_path)), (za_move, .inl (cy 0, 2916, .inl (upd (k6qzf_move) (x42q : Int32).toNatClampNeg x44q))), (za, .inr (6, [.ref zfa, .ref za_mark, .ref za_path, .ref za_move, .ref za_without, .int ((u2q.1 0)), .int k6qz_depth, .int k6qz_first])), (za_without, .inl (cy 0, 4, .inl ((u18q.2 0)))), (zfa, .inr (3, [.ref zfa_who, .ref zfa_hold, .ref zfa_harm, .ref zfa_cost, .int zf_size])), (zfa_hold, .inl (cy 0, 4, .inl zff_hold)), (zfa_cost, .inl (cy 0, 16, .inl zff_cost))] := hD
                  generalize upd (k6qzf_move) (x42q : Int32).toNatClampNeg x44q = f45q at hP hD
                  have hP : va_P D vwCl [(za_mark, .inl (cy 0, 2916, .inl k6qzf_mark)), (za_path, .inl (cy 0, 2916, .inl k6qzf_path)), (za_move, .inl (cy 0, 2916, .inl f45q)), (za, .inr (6, [.ref zfa, .ref za_mark, .ref za_path, .ref za_move, .ref za_without, .int ((u2q.1 0)), .int k6qz_depth, .int k6qz_first])), (za_without, .inl (cy 0, 4, .inl ((u18q.2 0)))), (zfa, .inr (3, [.ref zfa_who, .ref zfa_hold, .ref zfa_harm, .ref zfa_cost, .int zf_size])), (zfa_hold, .inl (cy 0, 4, .inl zff_hold)), (zfa_cost, .inl (cy 0, 16, .inl zff_cost))] H := hP
                  have hD : va_D A [(za_mark, .inl (cy 0, 2916, .inl k6qzf_mark)), (za_path, .inl (cy 0, 2916, .inl k6qzf_path)), (za_move, .inl (cy 0, 2916, .inl f45q)), (za, .inr (6, [.ref zfa, .ref za_mark, .ref za_path, .ref za_move, .ref za_without, .int ((u2q.1 0)), .int k6qz_depth, .int k6qz_first])), (za_without, .inl (cy 0, 4, .inl ((u18q.2 0)))), (zfa, .inr (3, [.ref zfa_who, .ref zfa_hold, .ref zfa_harm, .ref zfa_cost, .int zf_size])), (zfa_hold, .inl (cy 0, 4, .inl zff_hold)), (zfa_cost, .inl (cy 0, 16, .inl zff_cost))] := hD
                  refine lv_goto (tgt := 133) hx hb dX4_hold_102 (by decide) ?_
                  obtain ⟨x46q, ex46q⟩ : ∃ z : Int32, z = k6qy1 + (-1) := ⟨_, rfl⟩
                  refine lv_iinc (v := x46q) (lv' := [(1, .int x46q), (3, .int r17q), (2, .int x10q), (0, .ref za)]) hx hb dX4_hold_133 hl (k := 2) rfl (by rw [ex46q]; rfl) (by decide) rfl (fun ls hl => ?_)
                  have rx46q := n_add ex46q (a := k6qy1.toInt) (b := (-1)) rfl n_Lm1 (by omega) (by omega)
                  refine lv_goto (tgt := 8) hx hb dX4_hold_136 (by decide) ?_
                  exact k6qih ((x46q.toInt).toNat) (by omega) x46q k6qz_depth k6qz_first k6qzf_mark k6qzf_path f45q (u18q.2 0) H locs ls ⟨by omega, by omega⟩ ⟨by omega, by omega⟩ ⟨by omega, by omega⟩ hk6qzf_path rfl (hP.sub [4, 6, 7, 3, 0, 1, 2, 5] rfl) (hD.sub [4, 6, 7, 3, 0, 1, 2, 5] (by decide) rfl) hS (lv_sub hl [0, 3] rfl)
          · simp only [k_lt, k_le, k_eq, ne_eq, ge_iff_le, gt_iff_lt, n_L0, n_L0] at c14q
            refine lv_aload_n hx hb dX4_hold_42 rfl (lv_at hl 2 rfl) ?_
            refine k_calv [0, 1, 2] (⟨hP, hD, hG, hS, hA, rfl, rfl⟩ : kAt D cy sa A s H _ _ [(za, .inr (6, [.ref zfa, .ref za_mark, .ref za_path, .ref za_move, .ref za_without, .int ((u2q.1 0)), .int k6qz_depth, .int k6qz_first])), (za_mark, .inl (cy 0, 2916, .inl k6qzf_mark)), (za_path, .inl (cy 0, 2916, .inl k6qzf_path)), (za_move, .inl (cy 0, 2916, .inl k6qzf_move)), (zfa, .inr (3, [.ref zfa_who, .ref zfa_hold, .ref zfa_harm, .ref zfa_cost, .int zf_size]))] [3, 4, 5, 6, 7]) (wr := [(za_without, .inl (cy 0, 4, .inl k6qzf_without)), (zfa_hold, .inl (cy 0, 4, .inl zff_hold)), (zfa_cost, .inl (cy 0, 16, .inl zff_cost))]) rfl rfl (by decide) (k_runV 6 3 (As := []) (rest := []) E lk_VRX4_47 rfl rfl rfl (c_giveUp l hl0 D cy sa za za_mark za_path za_move za_without zfa zfa_who zfa_hold zfa_harm zfa_cost ((u2q.1 0)) k6qz_depth k6qz_first zf_size k6qzf_mark k6qzf_path k6qzf_move ⟨by omega, by omega⟩ ⟨by omega, by omega⟩ hk6qzf_path ⟨by omega, by omega⟩ (by omega) H.size) (⟨hP, hD, hG, hS, hA, rfl, rfl⟩ : kAt D cy sa A s H _ _ [(za, .inr (6, [.ref zfa, .ref za_mark, .ref za_path, .ref za_move, .ref za_without, .int ((u2q.1 0)), .int k6qz_depth, .int k6qz_first])), (za_mark, .inl (cy 0, 2916, .inl k6qzf_mark)), (za_path, .inl (cy 0, 2916, .inl k6qzf_path)), (za_move, .inl (cy 0, 2916, .inl k6qzf_move)), (zfa, .inr (3, [.ref zfa_who, .ref zfa_hold, .ref zfa_harm, .ref zfa_cost, .int zf_size]))] [3, 4, 5, 6, 7]) hl.1 rfl rfl ⟨rfl, rfl, ⟨Nat.le_of_ble_eq_true rfl, Nat.le_of_ble_eq_true rfl⟩, ⟨Nat.le_of_ble_eq_true rfl, Nat.le_of_ble_eq_true rfl⟩, Nat.le_of_ble_eq_true rfl⟩ dX4_hold_43) (fun u48q H locs hwu48q hP hD hS => ?_)
            have hP : va_P D vwCl [(za_without, .inl (cy 0, 4, .inl k6qzf_without)), (zfa_hold, .inl (cy 0, 4, .inl zff_hold)), (zfa_cost, .inl (cy 0, 16, .inl zff_cost)), (za, .inr (6, [.ref zfa, .ref za_mark, .ref za_path, .ref za_move, .ref za_without, .int ((u2q.1 0)), .int ((u48q.1 0)), .int k6qz_first])), (za_mark, .inl (cy 0, 2916, .inl ((u48q.2 0)))), (za_path, .inl (cy 0, 2916, .inl k6qzf_path)), (za_move, .inl (cy 0, 2916, .inl ((u48q.2 1)))), (zfa, .inr (3, [.ref zfa_who, .ref zfa_hold, .ref zfa_harm, .ref zfa_cost, .int zf_size]))] H := hP
            have hD : va_D A [(za_without, .inl (cy 0, 4, .inl k6qzf_without)), (zfa_hold, .inl (cy 0, 4, .inl zff_hold)), (zfa_cost, .inl (cy 0, 16, .inl zff_cost)), (za, .inr (6, [.ref zfa, .ref za_mark, .ref za_path, .ref za_move, .ref za_without, .int ((u2q.1 0)), .int ((u48q.1 0)), .int k6qz_first])), (za_mark, .inl (cy 0, 2916, .inl ((u48q.2 0)))), (za_path, .inl (cy 0, 2916, .inl k6qzf_path)), (za_move, .inl (cy 0, 2916, .inl ((u48q.2 1)))), (zfa, .inr (3, [.ref zfa_who, .ref zfa_hold, .ref zfa_harm, .ref zfa_cost, .int zf_size]))] := hD
            have p49q := hwu48q
            refine lv_goto (tgt := 133) hx hb dX4_hold_46 (by decide) ?_
            obtain ⟨x50q, ex50q⟩ : ∃ z : Int32, z = k6qy1 + (-1) := ⟨_, rfl⟩
            refine lv_iinc (v := x50q) (lv' := [(1, .int x50q), (2, .int x10q), (0, .ref za)]) hx hb dX4_hold_133 hl (k := 1) rfl (by rw [ex50q]; rfl) (by decide) rfl (fun ls hl => ?_)
            have rx50q := n_add ex50q (a := k6qy1.toInt) (b := (-1)) rfl n_Lm1 (by omega) (by omega)
            refine lv_goto (tgt := 8) hx hb dX4_hold_136 (by decide) ?_
            exact k6qih ((x50q.toInt).toNat) (by omega) x50q (u48q.1 0) k6qz_first (u48q.2 0) k6qzf_path (u48q.2 1) k6qzf_without H locs ls ⟨by omega, by omega⟩ ⟨by omega, by omega⟩ ⟨by omega, by omega⟩ hk6qzf_path rfl hP hD hS (lv_sub hl [0, 2] rfl)
  exact k6q _ 17496 (u2q.1 1) (u2q.1 2) (u2q.2 0) (u2q.2 1) (u2q.2 2) zf_without H locs ls ⟨by rw [n_L17496]; omega, by rw [n_L17496]; omega⟩ ⟨by first | omega | (simp only [n_L17496]; omega) | (simp only [n_L17496]; done) | decide, by first | omega | (simp only [n_L17496]; omega) | (simp only [n_L17496]; done) | decide⟩ ⟨by first | omega | (simp only [n_L17496]; omega) | (simp only [n_L17496]; done) | decide, by first | omega | (simp only [n_L17496]; omega) | (simp only [n_L17496]; done) | decide⟩ p5q rfl hP hD hS (lv_sub hl [0, 1] rfl)

set_option maxHeartbeats 4000000 in
set_option maxRecDepth 100000 in
/-- Keeper.bodyOfStep -/
theorem c_bodyOfStep (l : Launch) (hl0 : l.stackTraces = false) (D : va_G) (cy : Nat → ClassId) (sa : Nat → Nat) (za za_mark za_path za_move za_without zfa zfa_who zfa_hold zfa_harm zfa_cost : Nat) (z_block z_depth z_first zf_size k0 : Int32) (zf_move zff_who : Nat → Int32) (h_z_depth : 0 ≤ z_depth.toInt ∧ z_depth.toInt ≤ 2916) (h_z_first : 0 ≤ z_first.toInt ∧ z_first.toInt ≤ 2147483647) (h_zf_size : 0 ≤ zf_size.toInt ∧ zf_size.toInt ≤ 4) (h_zff_who : rowR 4 0 (8) zff_who) (sz : Nat) : Met l yX4_bodyOfStep (Cond.code yX4_bodyOfStep cX4_bodyOfStep 4 (some .int) :: kWS) ({ frames := 11, cells := 0, slots := 0, locals := 360 }) (kPre D cy sa [.ref za, .int k0] [(za, .inr (6, [.ref zfa, .ref za_mark, .ref za_path, .ref za_move, .ref za_without, .int z_block, .int z_depth, .int z_first])), (za_move, .inl (cy 0, 2916, .inl zf_move)), (zfa, .inr (3, [.ref zfa_who, .ref zfa_hold, .ref zfa_harm, .ref zfa_cost, .int zf_size])), (zfa_who, .inl (cy 0, 4, .inl zff_who))] sz) (va_Qi (fun (r : Int32) (u : Unit) => True) (kB D (va_A [(za, .inr (6, [.ref zfa, .ref za_mark, .ref za_path, .ref za_move, .ref za_without, .int z_block, .int z_depth, .int z_first])), (za_move, .inl (cy 0, 2916, .inl zf_move)), (zfa, .inr (3, [.ref zfa_who, .ref zfa_hold, .ref zfa_harm, .ref zfa_cost, .int zf_size])), (zfa_who, .inl (cy 0, 4, .inl zff_who))] sz) (fun (u : Unit) => [(za, .inr (6, [.ref zfa, .ref za_mark, .ref za_path, .ref za_move, .ref za_without, .int z_block, .int z_depth, .int z_first])), (za_move, .inl (cy 0, 2916, .inl zf_move)), (zfa, .inr (3, [.ref zfa_who, .ref zfa_hold, .ref zfa_harm, .ref zfa_cost, .int zf_size])), (zfa_who, .inl (cy 0, 4, .inl zff_who))])) (va_A [(za, .inr (6, [.ref zfa, .ref za_mark, .ref za_path, .ref za_move, .ref za_without, .int z_block, .int z_depth, .int z_first])), (za_move, .inl (cy 0, 2916, .inl zf_move)), (zfa, .inr (3, [.ref zfa_who, .ref zfa_hold, .ref zfa_harm, .ref zfa_cost, .int zf_size])), (zfa_who, .inl (cy 0, 4, .inl zff_who))] sz)) 0 0 (va_A [(za, .inr (6, [.ref zfa, .ref za_mark, .ref za_path, .ref za_move, .ref za_without, .int z_block, .int z_depth, .int z_first])), (za_move, .inl (cy 0, 2916, .inl zf_move)), (zfa, .inr (3, [.ref zfa_who, .ref zfa_hold, .ref zfa_harm, .ref zfa_cost, .int zf_size])), (zfa_who, .inl (cy 0, 4, .inl zff_who))] sz) := by
  refine k_ofW (y := yX4_bodyOfStep) (cc := cX4_bodyOfStep) (maxL := 4) (ret := (some .int)) (av := [.ref za, .int k0]) (ws := [(za, .inr (6, [.ref zfa, .ref za_mark, .ref za_path, .ref za_move, .ref za_without, .int z_block, .int z_depth, .int z_first])), (za_move, .inl (cy 0, 2916, .inl zf_move)), (zfa, .inr (3, [.ref zfa_who, .ref zfa_hold, .ref zfa_harm, .ref zfa_cost, .int zf_size])), (zfa_who, .inl (cy 0, 4, .inl zff_who))]) (Qc := fun A => (va_Qi (fun (r : Int32) (u : Unit) => True) (kB D A (fun (u : Unit) => [(za, .inr (6, [.ref zfa, .ref za_mark, .ref za_path, .ref za_move, .ref za_without, .int z_block, .int z_depth, .int z_first])), (za_move, .inl (cy 0, 2916, .inl zf_move)), (zfa, .inr (3, [.ref zfa_who, .ref zfa_hold, .ref zfa_harm, .ref zfa_cost, .int zf_size])), (zfa_who, .inl (cy 0, 4, .inl zff_who))])) A)) (by decide) (Nat.le_of_ble_eq_true rfl) ?_
  intro p e s m below meth c ls A E hA hP hD hG hS hl
  obtain ⟨Q0, hQ0⟩ : ∃ Q0 : State → Prop, Q0 = MQ below (va_Qi (fun (r : Int32) (u : Unit) => True) (kB D A (fun (u : Unit) => [(za, .inr (6, [.ref zfa, .ref za_mark, .ref za_path, .ref za_move, .ref za_without, .int z_block, .int z_depth, .int z_first])), (za_move, .inl (cy 0, 2916, .inl zf_move)), (zfa, .inr (3, [.ref zfa_who, .ref zfa_hold, .ref zfa_harm, .ref zfa_cost, .int zf_size])), (zfa_who, .inl (cy 0, 4, .inl zff_who))])) A) ([.ref za, .int k0] : List Value).toArray s 0 0 A := ⟨_, rfl⟩
  rw [← hQ0]
  obtain ⟨hx, hb, hml, hown, hts, hr, hlk, hnm⟩ := id E
  have hown : s.vm.findClass RX4 = some m.cls := hown
  have hl : lv_has ls 4 [(0, .ref za), (1, .int k0)] := hl
  have g_k0 := k_rng k0
  obtain ⟨H, hH⟩ : ∃ H, H = s.heap := ⟨_, rfl⟩
  have hP : va_P D vwCl [(za, .inr (6, [.ref zfa, .ref za_mark, .ref za_path, .ref za_move, .ref za_without, .int z_block, .int z_depth, .int z_first])), (za_move, .inl (cy 0, 2916, .inl zf_move)), (zfa, .inr (3, [.ref zfa_who, .ref zfa_hold, .ref zfa_harm, .ref zfa_cost, .int zf_size])), (zfa_who, .inl (cy 0, 4, .inl zff_who))] H := by rw [hH]; exact hP
  have hS : va_S A s.heap H [] := by rw [hH]; exact va_S.rf
  rw [← hH]
  clear hH
  obtain ⟨locs, hlocs⟩ : ∃ locs : List Loc, locs = [] := ⟨_, rfl⟩
  rw [← hlocs] at hS ⊢
  refine lv_aload_n hx hb dX4_bodyOfStep_0 rfl (lv_at hl 0 rfl) ?_
  refine va_get (D := D) (ci := 6) (v := .int z_depth) (C := RX4) (T := TX4) (N := 8) hx hb hts kin_RX4 hown hG.1 hP 0 rfl rfl 6 (by decide) (hts _ wm_372) (fun _ h9 => h9) rfl dX4_bodyOfStep_1 ?_
  refine lv_aload_n hx hb dX4_bodyOfStep_4 rfl (lv_at hl 0 rfl) ?_
  refine va_get (D := D) (ci := 6) (v := .int z_first) (C := RX4) (T := TX4) (N := 8) hx hb hts kin_RX4 hown hG.1 hP 0 rfl rfl 7 (by decide) (hts _ wm_374) (fun _ h9 => h9) rfl dX4_bodyOfStep_5 ?_
  refine lv_isub hx hb dX4_bodyOfStep_8 ?_
  refine lv_topi (fun x1q ex1q => ?_)
  have gx1q := k_rng z_first
  have rx1q := n_sub ex1q (a := z_depth.toInt) (b := z_first.toInt) rfl rfl (by omega) (by omega)
  refine lv_istore_n (lv' := [(2, .int x1q), (0, .ref za), (1, .int k0)]) hx hb dX4_bodyOfStep_9 rfl hl (by decide) rfl (fun ls hl => ?_)
  refine lv_iload_n hx hb dX4_bodyOfStep_10 rfl (lv_at hl 0 rfl) ?_
  refine lv_iconst (v := 1) hx hb dX4_bodyOfStep_11 (by decide) ?_
  refine lv_icmp_lt (tgt := 19) hx hb dX4_bodyOfStep_12 (by decide) (fun c2q => ?_) (fun c2q => ?_)
  · simp only [k_lt, k_le, k_eq, ne_eq, ge_iff_le, gt_iff_lt, n_L1] at c2q
    refine lv_iconst (v := (-1)) hx hb dX4_bodyOfStep_19 (by decide) ?_
    rw [hQ0]
    exact k_iret () hx hb hr hlk (trivial) (hP.sub [0, 1, 2, 3] rfl) (hD.sub [0, 1, 2, 3] (by decide) rfl) hS (by decide) (by decide) dX4_bodyOfStep_20
  · simp only [k_lt, k_le, k_eq, ne_eq, ge_iff_le, gt_iff_lt, n_L1] at c2q
    refine lv_iload_n hx hb dX4_bodyOfStep_15 rfl (lv_at hl 2 rfl) ?_
    refine lv_if_ge (tgt := 21) hx hb dX4_bodyOfStep_16 (by decide) (fun c3q => ?_) (fun c3q => ?_)
    · simp only [k_lt, k_le, k_eq, ne_eq, ge_iff_le, gt_iff_lt, n_L0, n_L0] at c3q
      refine lv_iload_n hx hb dX4_bodyOfStep_21 rfl (lv_at hl 2 rfl) ?_
      refine lv_aload_n hx hb dX4_bodyOfStep_22 rfl (lv_at hl 1 rfl) ?_
      refine va_get (D := D) (ci := 6) (v := .int z_depth) (C := RX4) (T := TX4) (N := 8) hx hb hts kin_RX4 hown hG.1 hP 0 rfl rfl 6 (by decide) (hts _ wm_372) (fun _ h9 => h9) rfl dX4_bodyOfStep_23 ?_
      refine lv_icmp_ge (tgt := 33) hx hb dX4_bodyOfStep_26 (by decide) (fun c4q => ?_) (fun c4q => ?_)
      · simp only [k_lt, k_le, k_eq, ne_eq, ge_iff_le, gt_iff_lt] at c4q
        refine lv_aload_n hx hb dX4_bodyOfStep_33 rfl (lv_at hl 1 rfl) ?_
        refine va_get (D := D) (ci := 6) (v := .int z_first) (C := RX4) (T := TX4) (N := 8) hx hb hts kin_RX4 hown hG.1 hP 0 rfl rfl 7 (by decide) (hts _ wm_374) (fun _ h9 => h9) rfl dX4_bodyOfStep_34 ?_
        refine lv_iload_n hx hb dX4_bodyOfStep_37 rfl (lv_at hl 2 rfl) ?_
        refine lv_aload_n hx hb dX4_bodyOfStep_38 rfl (lv_at hl 1 rfl) ?_
        refine va_get (D := D) (ci := 6) (v := .int z_first) (C := RX4) (T := TX4) (N := 8) hx hb hts kin_RX4 hown hG.1 hP 0 rfl rfl 7 (by decide) (hts _ wm_374) (fun _ h9 => h9) rfl dX4_bodyOfStep_39 ?_
        refine lv_isub hx hb dX4_bodyOfStep_42 ?_
        refine lv_topi (fun x5q ex5q => ?_)
        have gx5q := k_rng k0
        have gx5q := k_rng z_first
        have rx5q := n_sub ex5q (a := k0.toInt) (b := z_first.toInt) rfl rfl (by omega) (by omega)
        refine lv_iload_n hx hb dX4_bodyOfStep_43 rfl (lv_at hl 0 rfl) ?_
        refine lv_irem hx hb dX4_bodyOfStep_44 (n_ne (by omega)) ?_
        refine lv_topi (fun x6q ex6q => ?_)
        have gx6q := k_rng x5q
        have rx6q := n_modR ex6q (by omega) (by omega)
        refine lv_iadd hx hb dX4_bodyOfStep_45 ?_
        refine lv_topi (fun x7q ex7q => ?_)
        have rx7q := n_add ex7q (a := z_first.toInt) (b := x6q.toInt) rfl rfl (by omega) (by omega)
        refine lv_istore_n (lv' := [(3, .int x7q), (2, .int x1q), (0, .ref za), (1, .int k0)]) hx hb dX4_bodyOfStep_46 rfl hl (by decide) rfl (fun ls hl => ?_)
        refine lv_aload_n hx hb dX4_bodyOfStep_47 rfl (lv_at hl 2 rfl) ?_
        refine va_get (D := D) (ci := 6) (v := .ref zfa) (C := RX4) (T := TX4) (N := 8) hx hb hts kin_RX4 hown hG.1 hP 0 rfl rfl 0 (by decide) (hts _ wm_366) (fun _ h9 => h9) rfl dX4_bodyOfStep_48 ?_
        refine lv_aload_n hx hb dX4_bodyOfStep_51 rfl (lv_at hl 2 rfl) ?_
        refine va_get (D := D) (ci := 6) (v := .ref za_move) (C := RX4) (T := TX4) (N := 8) hx hb hts kin_RX4 hown hG.1 hP 0 rfl rfl 3 (by decide) (hts _ wm_369) (fun _ h9 => h9) rfl dX4_bodyOfStep_52 ?_
        refine lv_iload_n hx hb dX4_bodyOfStep_55 rfl (lv_at hl 0 rfl) ?_
        refine va_iald hx hb hG.1 hP 1 0 rfl rfl (n_in (by omega) (by omega)) dX4_bodyOfStep_56 ?_
        refine lv_topi (fun x8q ex8q => ?_)
        refine k_cali [0, 1, 3] (⟨hP, hD, hG, hS, hA, rfl, rfl⟩ : kAt D cy sa A s H _ _ [(zfa, .inr (3, [.ref zfa_who, .ref zfa_hold, .ref zfa_harm, .ref zfa_cost, .int zf_size]))] [2]) (wr := [(za, .inr (6, [.ref zfa, .ref za_mark, .ref za_path, .ref za_move, .ref za_without, .int z_block, .int z_depth, .int z_first])), (za_move, .inl (cy 0, 2916, .inl zf_move)), (zfa_who, .inl (cy 0, 4, .inl zff_who))]) rfl rfl (by decide) (k_runV 3 2 (As := [.int x8q]) (rest := []) E lk_VRX4_41 rfl rfl rfl (c_fhas l hl0 D cy sa zfa zfa_who zfa_hold zfa_harm zfa_cost zf_size x8q ⟨by omega, by omega⟩ H.size) (⟨hP, hD, hG, hS, hA, rfl, rfl⟩ : kAt D cy sa A s H _ _ [(zfa, .inr (3, [.ref zfa_who, .ref zfa_hold, .ref zfa_harm, .ref zfa_cost, .int zf_size]))] [2]) hl.1 rfl rfl ⟨rfl, rfl, ⟨Nat.le_of_ble_eq_true rfl, Nat.le_of_ble_eq_true rfl⟩, ⟨Nat.le_of_ble_eq_true rfl, Nat.le_of_ble_eq_true rfl⟩, Nat.le_of_ble_eq_true rfl⟩ dX4_bodyOfStep_57) (fun r9q u10q H locs hwu10q hP hD hS => ?_)
        have hP : va_P D vwCl [(za, .inr (6, [.ref zfa, .ref za_mark, .ref za_path, .ref za_move, .ref za_without, .int z_block, .int z_depth, .int z_first])), (za_move, .inl (cy 0, 2916, .inl zf_move)), (zfa_who, .inl (cy 0, 4, .inl zff_who)), (zfa, .inr (3, [.ref zfa_who, .ref zfa_hold, .ref zfa_harm, .ref zfa_cost, .int zf_size]))] H := hP
        have hD : va_D A [(za, .inr (6, [.ref zfa, .ref za_mark, .ref za_path, .ref za_move, .ref za_without, .int z_block, .int z_depth, .int z_first])), (za_move, .inl (cy 0, 2916, .inl zf_move)), (zfa_who, .inl (cy 0, 4, .inl zff_who)), (zfa, .inr (3, [.ref zfa_who, .ref zfa_hold, .ref zfa_harm, .ref zfa_cost, .int zf_size]))] := hD
        have p11q := hwu10q
        refine lv_if_eq (tgt := 80) hx hb dX4_bodyOfStep_60 (by decide) (fun c12q => ?_) (fun c12q => ?_)
        · simp only [k_lt, k_le, k_eq, ne_eq, ge_iff_le, gt_iff_lt, n_L0, n_L0] at c12q
          refine lv_iconst (v := (-1)) hx hb dX4_bodyOfStep_80 (by decide) ?_
          rw [hQ0]
          exact k_iret () hx hb hr hlk (trivial) (hP.sub [0, 1, 3, 2] rfl) (hD.sub [0, 1, 3, 2] (by decide) rfl) hS (by decide) (by decide) dX4_bodyOfStep_81
        · simp only [k_lt, k_le, k_eq, ne_eq, ge_iff_le, gt_iff_lt, n_L0, n_L0] at c12q
          refine lv_aload_n hx hb dX4_bodyOfStep_63 rfl (lv_at hl 2 rfl) ?_
          refine va_get (D := D) (ci := 6) (v := .ref zfa) (C := RX4) (T := TX4) (N := 8) hx hb hts kin_RX4 hown hG.1 hP 0 rfl rfl 0 (by decide) (hts _ wm_366) (fun _ h9 => h9) rfl dX4_bodyOfStep_64 ?_
          refine va_get (D := D) (ci := 3) (v := .ref zfa_who) (C := RX1) (T := TX1) (N := 5) hx hb hts kin_RX1 hown hG.1 hP 3 rfl rfl 0 (by decide) (hts _ wm_337) (fun _ h9 => h9) rfl dX4_bodyOfStep_67 ?_
          refine lv_aload_n hx hb dX4_bodyOfStep_70 rfl (lv_at hl 2 rfl) ?_
          refine va_get (D := D) (ci := 6) (v := .ref za_move) (C := RX4) (T := TX4) (N := 8) hx hb hts kin_RX4 hown hG.1 hP 0 rfl rfl 3 (by decide) (hts _ wm_369) (fun _ h9 => h9) rfl dX4_bodyOfStep_71 ?_
          refine lv_iload_n hx hb dX4_bodyOfStep_74 rfl (lv_at hl 0 rfl) ?_
          refine va_iald hx hb hG.1 hP 1 0 rfl rfl (n_in (by omega) (by omega)) dX4_bodyOfStep_75 ?_
          refine lv_topi (fun x13q ex13q => ?_)
          have qx13q : x8q = x13q := ex8q.trans ex13q.symm
          subst qx13q
          refine va_iald hx hb hG.1 hP 2 0 rfl rfl (n_in (by omega) (by omega)) dX4_bodyOfStep_76 ?_
          refine lv_topi (fun x14q ex14q => ?_)
          have rx14q : 0 ≤ x14q.toInt ∧ x14q.toInt ≤ 8 := by rw [ex14q]; exact h_zff_who _ (n_lt (by omega) (by omega))
          refine lv_goto (tgt := 81) hx hb dX4_bodyOfStep_77 (by decide) ?_
          rw [hQ0]
          exact k_iret () hx hb hr hlk (trivial) (hP.sub [0, 1, 3, 2] rfl) (hD.sub [0, 1, 3, 2] (by decide) rfl) hS (by decide) (by decide) dX4_bodyOfStep_81
      · simp only [k_lt, k_le, k_eq, ne_eq, ge_iff_le, gt_iff_lt] at c4q
        refine lv_iload_n hx hb dX4_bodyOfStep_29 rfl (lv_at hl 2 rfl) ?_
        refine lv_goto (tgt := 46) hx hb dX4_bodyOfStep_30 (by decide) ?_
        refine lv_istore_n (lv' := [(3, .int k0), (2, .int x1q), (0, .ref za), (1, .int k0)]) hx hb dX4_bodyOfStep_46 rfl hl (by decide) rfl (fun ls hl => ?_)
        refine lv_aload_n hx hb dX4_bodyOfStep_47 rfl (lv_at hl 2 rfl) ?_
        refine va_get (D := D) (ci := 6) (v := .ref zfa) (C := RX4) (T := TX4) (N := 8) hx hb hts kin_RX4 hown hG.1 hP 0 rfl rfl 0 (by decide) (hts _ wm_366) (fun _ h9 => h9) rfl dX4_bodyOfStep_48 ?_
        refine lv_aload_n hx hb dX4_bodyOfStep_51 rfl (lv_at hl 2 rfl) ?_
        refine va_get (D := D) (ci := 6) (v := .ref za_move) (C := RX4) (T := TX4) (N := 8) hx hb hts kin_RX4 hown hG.1 hP 0 rfl rfl 3 (by decide) (hts _ wm_369) (fun _ h9 => h9) rfl dX4_bodyOfStep_52 ?_
        refine lv_iload_n hx hb dX4_bodyOfStep_55 rfl (lv_at hl 0 rfl) ?_
        refine va_iald hx hb hG.1 hP 1 0 rfl rfl (n_in (by omega) (by omega)) dX4_bodyOfStep_56 ?_
        refine lv_topi (fun x15q ex15q => ?_)
        refine k_cali [0, 1, 3] (⟨hP, hD, hG, hS, hA, rfl, rfl⟩ : kAt D cy sa A s H _ _ [(zfa, .inr (3, [.ref zfa_who, .ref zfa_hold, .ref zfa_harm, .ref zfa_cost, .int zf_size]))] [2]) (wr := [(za, .inr (6, [.ref zfa, .ref za_mark, .ref za_path, .ref za_move, .ref za_without, .int z_block, .int z_depth, .int z_first])), (za_move, .inl (cy 0, 2916, .inl zf_move)), (zfa_who, .inl (cy 0, 4, .inl zff_who))]) rfl rfl (by decide) (k_runV 3 2 (As := [.int x15q]) (rest := []) E lk_VRX4_41 rfl rfl rfl (c_fhas l hl0 D cy sa zfa zfa_who zfa_hold zfa_harm zfa_cost zf_size x15q ⟨by omega, by omega⟩ H.size) (⟨hP, hD, hG, hS, hA, rfl, rfl⟩ : kAt D cy sa A s H _ _ [(zfa, .inr (3, [.ref zfa_who, .ref zfa_hold, .ref zfa_harm, .ref zfa_cost, .int zf_size]))] [2]) hl.1 rfl rfl ⟨rfl, rfl, ⟨Nat.le_of_ble_eq_true rfl, Nat.le_of_ble_eq_true rfl⟩, ⟨Nat.le_of_ble_eq_true rfl, Nat.le_of_ble_eq_true rfl⟩, Nat.le_of_ble_eq_true rfl⟩ dX4_bodyOfStep_57) (fun r16q u17q H locs hwu17q hP hD hS => ?_)
        have hP : va_P D vwCl [(za, .inr (6, [.ref zfa, .ref za_mark, .ref za_path, .ref za_move, .ref za_without, .int z_block, .int z_depth, .int z_first])), (za_move, .inl (cy 0, 2916, .inl zf_move)), (zfa_who, .inl (cy 0, 4, .inl zff_who)), (zfa, .inr (3, [.ref zfa_who, .ref zfa_hold, .ref zfa_harm, .ref zfa_cost, .int zf_size]))] H := hP
        have hD : va_D A [(za, .inr (6, [.ref zfa, .ref za_mark, .ref za_path, .ref za_move, .ref za_without, .int z_block, .int z_depth, .int z_first])), (za_move, .inl (cy 0, 2916, .inl zf_move)), (zfa_who, .inl (cy 0, 4, .inl zff_who)), (zfa, .inr (3, [.ref zfa_who, .ref zfa_hold, .ref zfa_harm, .ref zfa_cost, .int zf_size]))] := hD
        have p18q := hwu17q
        refine lv_if_eq (tgt := 80) hx hb dX4_bodyOfStep_60 (by decide) (fun c19q => ?_) (fun c19q => ?_)
        · simp only [k_lt, k_le, k_eq, ne_eq, ge_iff_le, gt_iff_lt, n_L0, n_L0] at c19q
          refine lv_iconst (v := (-1)) hx hb dX4_bodyOfStep_80 (by decide) ?_
          rw [hQ0]
          exact k_iret () hx hb hr hlk (trivial) (hP.sub [0, 1, 3, 2] rfl) (hD.sub [0, 1, 3, 2] (by decide) rfl) hS (by decide) (by decide) dX4_bodyOfStep_81
        · simp only [k_lt, k_le, k_eq, ne_eq, ge_iff_le, gt_iff_lt, n_L0, n_L0] at c19q
          refine lv_aload_n hx hb dX4_bodyOfStep_63 rfl (lv_at hl 2 rfl) ?_
          refine va_get (D := D) (ci := 6) (v := .ref zfa) (C := RX4) (T := TX4) (N := 8) hx hb hts kin_RX4 hown hG.1 hP 0 rfl rfl 0 (by decide) (hts _ wm_366) (fun _ h9 => h9) rfl dX4_bodyOfStep_64 ?_
          refine va_get (D := D) (ci := 3) (v := .ref zfa_who) (C := RX1) (T := TX1) (N := 5) hx hb hts kin_RX1 hown hG.1 hP 3 rfl rfl 0 (by decide) (hts _ wm_337) (fun _ h9 => h9) rfl dX4_bodyOfStep_67 ?_
          refine lv_aload_n hx hb dX4_bodyOfStep_70 rfl (lv_at hl 2 rfl) ?_
          refine va_get (D := D) (ci := 6) (v := .ref za_move) (C := RX4) (T := TX4) (N := 8) hx hb hts kin_RX4 hown hG.1 hP 0 rfl rfl 3 (by decide) (hts _ wm_369) (fun _ h9 => h9) rfl dX4_bodyOfStep_71 ?_
          refine lv_iload_n hx hb dX4_bodyOfStep_74 rfl (lv_at hl 0 rfl) ?_
          refine va_iald hx hb hG.1 hP 1 0 rfl rfl (n_in (by omega) (by omega)) dX4_bodyOfStep_75 ?_
          refine lv_topi (fun x20q ex20q => ?_)
          have qx20q : x15q = x20q := ex15q.trans ex20q.symm
          subst qx20q
          refine va_iald hx hb hG.1 hP 2 0 rfl rfl (n_in (by omega) (by omega)) dX4_bodyOfStep_76 ?_
          refine lv_topi (fun x21q ex21q => ?_)
          have rx21q : 0 ≤ x21q.toInt ∧ x21q.toInt ≤ 8 := by rw [ex21q]; exact h_zff_who _ (n_lt (by omega) (by omega))
          refine lv_goto (tgt := 81) hx hb dX4_bodyOfStep_77 (by decide) ?_
          rw [hQ0]
          exact k_iret () hx hb hr hlk (trivial) (hP.sub [0, 1, 3, 2] rfl) (hD.sub [0, 1, 3, 2] (by decide) rfl) hS (by decide) (by decide) dX4_bodyOfStep_81
    · simp only [k_lt, k_le, k_eq, ne_eq, ge_iff_le, gt_iff_lt, n_L0, n_L0] at c3q
      refine lv_iconst (v := (-1)) hx hb dX4_bodyOfStep_19 (by decide) ?_
      rw [hQ0]
      exact k_iret () hx hb hr hlk (trivial) (hP.sub [0, 1, 2, 3] rfl) (hD.sub [0, 1, 2, 3] (by decide) rfl) hS (by decide) (by decide) dX4_bodyOfStep_20

set_option maxHeartbeats 4000000 in
set_option maxRecDepth 100000 in
/-- Keeper.minutesOfRound -/
theorem c_minutesOfRound (l : Launch) (hl0 : l.stackTraces = false) (D : va_G) (cy : Nat → ClassId) (sa : Nat → Nat) (za za_mark za_path za_move za_without zfa zfa_who zfa_hold zfa_harm zfa_cost : Nat) (z_block z_depth z_first zf_size : Int32) (zf_path zf_move zff_cost : Nat → Int32) (h_z_depth : 0 ≤ z_depth.toInt ∧ z_depth.toInt ≤ 2916) (h_z_first : 0 ≤ z_first.toInt ∧ z_first.toInt ≤ 2147483647) (h_zf_path : rowR 2916 0 (2915) zf_path) (h_zf_size : 0 ≤ zf_size.toInt ∧ zf_size.toInt ≤ 4) (h_zff_cost : rowR 16 0 (39) zff_cost) (sz : Nat) : Met l yX4_minutesOfRound (Cond.code yX4_minutesOfRound cX4_minutesOfRound 3 (some .int) :: kWS) ({ frames := 12, cells := 0, slots := 0, locals := 420 }) (kPre D cy sa [.ref za] [(za, .inr (6, [.ref zfa, .ref za_mark, .ref za_path, .ref za_move, .ref za_without, .int z_block, .int z_depth, .int z_first])), (za_path, .inl (cy 0, 2916, .inl zf_path)), (za_move, .inl (cy 0, 2916, .inl zf_move)), (zfa, .inr (3, [.ref zfa_who, .ref zfa_hold, .ref zfa_harm, .ref zfa_cost, .int zf_size])), (zfa_cost, .inl (cy 0, 16, .inl zff_cost))] sz) (va_Qi (fun (r : Int32) (u : Unit) => True) (kB D (va_A [(za, .inr (6, [.ref zfa, .ref za_mark, .ref za_path, .ref za_move, .ref za_without, .int z_block, .int z_depth, .int z_first])), (za_path, .inl (cy 0, 2916, .inl zf_path)), (za_move, .inl (cy 0, 2916, .inl zf_move)), (zfa, .inr (3, [.ref zfa_who, .ref zfa_hold, .ref zfa_harm, .ref zfa_cost, .int zf_size])), (zfa_cost, .inl (cy 0, 16, .inl zff_cost))] sz) (fun (u : Unit) => [(za, .inr (6, [.ref zfa, .ref za_mark, .ref za_path, .ref za_move, .ref za_without, .int z_block, .int z_depth, .int z_first])), (za_path, .inl (cy 0, 2916, .inl zf_path)), (za_move, .inl (cy 0, 2916, .inl zf_move)), (zfa, .inr (3, [.ref zfa_who, .ref zfa_hold, .ref zfa_harm, .ref zfa_cost, .int zf_size])), (zfa_cost, .inl (cy 0, 16, .inl zff_cost))])) (va_A [(za, .inr (6, [.ref zfa, .ref za_mark, .ref za_path, .ref za_move, .ref za_without, .int z_block, .int z_depth, .int z_first])), (za_path, .inl (cy 0, 2916, .inl zf_path)), (za_move, .inl (cy 0, 2916, .inl zf_move)), (zfa, .inr (3, [.ref zfa_who, .ref zfa_hold, .ref zfa_harm, .ref zfa_cost, .int zf_size])), (zfa_cost, .inl (cy 0, 16, .inl zff_cost))] sz)) 0 0 (va_A [(za, .inr (6, [.ref zfa, .ref za_mark, .ref za_path, .ref za_move, .ref za_without, .int z_block, .int z_depth, .int z_first])), (za_path, .inl (cy 0, 2916, .inl zf_path)), (za_move, .inl (cy 0, 2916, .inl zf_move)), (zfa, .inr (3, [.ref zfa_who, .ref zfa_hold, .ref zfa_harm, .ref zfa_cost, .int zf_size])), (zfa_cost, .inl (cy 0, 16, .inl zff_cost))] sz) := by
  refine k_ofW (y := yX4_minutesOfRound) (cc := cX4_minutesOfRound) (maxL := 3) (ret := (some .int)) (av := [.ref za]) (ws := [(za, .inr (6, [.ref zfa, .ref za_mark, .ref za_path, .ref za_move, .ref za_without, .int z_block, .int z_depth, .int z_first])), (za_path, .inl (cy 0, 2916, .inl zf_path)), (za_move, .inl (cy 0, 2916, .inl zf_move)), (zfa, .inr (3, [.ref zfa_who, .ref zfa_hold, .ref zfa_harm, .ref zfa_cost, .int zf_size])), (zfa_cost, .inl (cy 0, 16, .inl zff_cost))]) (Qc := fun A => (va_Qi (fun (r : Int32) (u : Unit) => True) (kB D A (fun (u : Unit) => [(za, .inr (6, [.ref zfa, .ref za_mark, .ref za_path, .ref za_move, .ref za_without, .int z_block, .int z_depth, .int z_first])), (za_path, .inl (cy 0, 2916, .inl zf_path)), (za_move, .inl (cy 0, 2916, .inl zf_move)), (zfa, .inr (3, [.ref zfa_who, .ref zfa_hold, .ref zfa_harm, .ref zfa_cost, .int zf_size])), (zfa_cost, .inl (cy 0, 16, .inl zff_cost))])) A)) (by decide) (Nat.le_of_ble_eq_true rfl) ?_
  intro p e s m below meth c ls A E hA hP hD hG hS hl
  obtain ⟨Q0, hQ0⟩ : ∃ Q0 : State → Prop, Q0 = MQ below (va_Qi (fun (r : Int32) (u : Unit) => True) (kB D A (fun (u : Unit) => [(za, .inr (6, [.ref zfa, .ref za_mark, .ref za_path, .ref za_move, .ref za_without, .int z_block, .int z_depth, .int z_first])), (za_path, .inl (cy 0, 2916, .inl zf_path)), (za_move, .inl (cy 0, 2916, .inl zf_move)), (zfa, .inr (3, [.ref zfa_who, .ref zfa_hold, .ref zfa_harm, .ref zfa_cost, .int zf_size])), (zfa_cost, .inl (cy 0, 16, .inl zff_cost))])) A) ([.ref za] : List Value).toArray s 0 0 A := ⟨_, rfl⟩
  rw [← hQ0]
  obtain ⟨hx, hb, hml, hown, hts, hr, hlk, hnm⟩ := id E
  have hown : s.vm.findClass RX4 = some m.cls := hown
  have hl : lv_has ls 3 [(0, .ref za)] := hl
  obtain ⟨H, hH⟩ : ∃ H, H = s.heap := ⟨_, rfl⟩
  have hP : va_P D vwCl [(za, .inr (6, [.ref zfa, .ref za_mark, .ref za_path, .ref za_move, .ref za_without, .int z_block, .int z_depth, .int z_first])), (za_path, .inl (cy 0, 2916, .inl zf_path)), (za_move, .inl (cy 0, 2916, .inl zf_move)), (zfa, .inr (3, [.ref zfa_who, .ref zfa_hold, .ref zfa_harm, .ref zfa_cost, .int zf_size])), (zfa_cost, .inl (cy 0, 16, .inl zff_cost))] H := by rw [hH]; exact hP
  have hS : va_S A s.heap H [] := by rw [hH]; exact va_S.rf
  rw [← hH]
  clear hH
  obtain ⟨locs, hlocs⟩ : ∃ locs : List Loc, locs = [] := ⟨_, rfl⟩
  rw [← hlocs] at hS ⊢
  refine lv_iconst (v := 0) hx hb dX4_minutesOfRound_0 (by decide) ?_
  refine lv_istore_n (lv' := [(1, .int 0), (0, .ref za)]) hx hb dX4_minutesOfRound_1 rfl hl (by decide) rfl (fun ls hl => ?_)
  refine lv_aload_n hx hb dX4_minutesOfRound_2 rfl (lv_at hl 1 rfl) ?_
  refine va_get (D := D) (ci := 6) (v := .int z_first) (C := RX4) (T := TX4) (N := 8) hx hb hts kin_RX4 hown hG.1 hP 0 rfl rfl 7 (by decide) (hts _ wm_374) (fun _ h9 => h9) rfl dX4_minutesOfRound_3 ?_
  refine lv_istore_n (lv' := [(2, .int z_first), (1, .int 0), (0, .ref za)]) hx hb dX4_minutesOfRound_6 rfl hl (by decide) rfl (fun ls hl => ?_)
  have k1q : ∀ (n : Nat) (k1qy1 : Int32) (k1qy2 : Int32) (H : Heap) (locs : List Loc) (ls : Array Slot), 0 ≤ k1qy2.toInt ∧ k1qy2.toInt ≤ 2147483647 → (2916 - k1qy2.toInt).toNat = n → va_P D vwCl [(za, .inr (6, [.ref zfa, .ref za_mark, .ref za_path, .ref za_move, .ref za_without, .int z_block, .int z_depth, .int z_first])), (za_path, .inl (cy 0, 2916, .inl zf_path)), (za_move, .inl (cy 0, 2916, .inl zf_move)), (zfa, .inr (3, [.ref zfa_who, .ref zfa_hold, .ref zfa_harm, .ref zfa_cost, .int zf_size])), (zfa_cost, .inl (cy 0, 16, .inl zff_cost))] H → va_D A [(za, .inr (6, [.ref zfa, .ref za_mark, .ref za_path, .ref za_move, .ref za_without, .int z_block, .int z_depth, .int z_first])), (za_path, .inl (cy 0, 2916, .inl zf_path)), (za_move, .inl (cy 0, 2916, .inl zf_move)), (zfa, .inr (3, [.ref zfa_who, .ref zfa_hold, .ref zfa_harm, .ref zfa_cost, .int zf_size])), (zfa_cost, .inl (cy 0, 16, .inl zff_cost))] → va_S A s.heap H locs → lv_has ls 3 [(2, .int k1qy2), (1, .int k1qy1), (0, .ref za)] → W p l e ({ frames := 12, cells := 0, slots := 0, locals := 420 }) s m ([.ref za] : List Value).toArray below meth c H locs 0 0 Q0 (F0 m 7 ls []) := by
    intro n
    induction n using Nat.strongRecOn with
    | ind n k1qih =>
      intro k1qy1 k1qy2 H locs ls hk1qy2 k1qm hP hD hS hl
      have gk1qy1 := k_rng k1qy1
      refine lv_iload_n hx hb dX4_minutesOfRound_7 rfl (lv_at hl 0 rfl) ?_
      refine lv_aload_n hx hb dX4_minutesOfRound_8 rfl (lv_at hl 2 rfl) ?_
      refine va_get (D := D) (ci := 6) (v := .int z_depth) (C := RX4) (T := TX4) (N := 8) hx hb hts kin_RX4 hown hG.1 hP 0 rfl rfl 6 (by decide) (hts _ wm_372) (fun _ h9 => h9) rfl dX4_minutesOfRound_9 ?_
      refine lv_icmp_ge (tgt := 49) hx hb dX4_minutesOfRound_12 (by decide) (fun c2q => ?_) (fun c2q => ?_)
      · simp only [k_lt, k_le, k_eq, ne_eq, ge_iff_le, gt_iff_lt] at c2q
        refine lv_iload_n hx hb dX4_minutesOfRound_49 rfl (lv_at hl 1 rfl) ?_
        rw [hQ0]
        exact k_iret () hx hb hr hlk (trivial) (hP.sub [0, 1, 2, 3, 4] rfl) (hD.sub [0, 1, 2, 3, 4] (by decide) rfl) hS (by decide) (by decide) dX4_minutesOfRound_50
      · simp only [k_lt, k_le, k_eq, ne_eq, ge_iff_le, gt_iff_lt] at c2q
        refine lv_iload_n hx hb dX4_minutesOfRound_15 rfl (lv_at hl 1 rfl) ?_
        refine lv_aload_n hx hb dX4_minutesOfRound_16 rfl (lv_at hl 2 rfl) ?_
        refine va_get (D := D) (ci := 6) (v := .ref zfa) (C := RX4) (T := TX4) (N := 8) hx hb hts kin_RX4 hown hG.1 hP 0 rfl rfl 0 (by decide) (hts _ wm_366) (fun _ h9 => h9) rfl dX4_minutesOfRound_17 ?_
        refine lv_aload_n hx hb dX4_minutesOfRound_20 rfl (lv_at hl 2 rfl) ?_
        refine lv_aload_n hx hb dX4_minutesOfRound_21 rfl (lv_at hl 2 rfl) ?_
        refine va_get (D := D) (ci := 6) (v := .ref za_path) (C := RX4) (T := TX4) (N := 8) hx hb hts kin_RX4 hown hG.1 hP 0 rfl rfl 2 (by decide) (hts _ wm_368) (fun _ h9 => h9) rfl dX4_minutesOfRound_22 ?_
        refine lv_iload_n hx hb dX4_minutesOfRound_25 rfl (lv_at hl 0 rfl) ?_
        refine va_iald hx hb hG.1 hP 1 0 rfl rfl (n_in (by omega) (by omega)) dX4_minutesOfRound_26 ?_
        refine lv_topi (fun x3q ex3q => ?_)
        have rx3q : 0 ≤ x3q.toInt ∧ x3q.toInt ≤ 2915 := by rw [ex3q]; exact h_zf_path _ (n_lt (by omega) (by omega))
        refine k_cali [1, 2, 4] (⟨hP, hD, hG, hS, hA, rfl, rfl⟩ : kAt D cy sa A s H _ _ [(za, .inr (6, [.ref zfa, .ref za_mark, .ref za_path, .ref za_move, .ref za_without, .int z_block, .int z_depth, .int z_first])), (zfa, .inr (3, [.ref zfa_who, .ref zfa_hold, .ref zfa_harm, .ref zfa_cost, .int zf_size]))] [0, 3]) (wr := [(za_path, .inl (cy 0, 2916, .inl zf_path)), (za_move, .inl (cy 0, 2916, .inl zf_move)), (zfa_cost, .inl (cy 0, 16, .inl zff_cost))]) rfl rfl (by decide) (k_runV 6 0 (As := [.int x3q]) (rest := [.ref zfa, .int k1qy1]) E lk_VRX4_72 rfl rfl rfl (c_placeOfMind l hl0 D cy sa za za_mark za_path za_move za_without zfa zfa_who zfa_hold zfa_harm zfa_cost z_block z_depth z_first zf_size x3q ⟨by omega, by omega⟩ ⟨by omega, by omega⟩ ⟨by omega, by omega⟩ H.size) (⟨hP, hD, hG, hS, hA, rfl, rfl⟩ : kAt D cy sa A s H _ _ [(za, .inr (6, [.ref zfa, .ref za_mark, .ref za_path, .ref za_move, .ref za_without, .int z_block, .int z_depth, .int z_first])), (zfa, .inr (3, [.ref zfa_who, .ref zfa_hold, .ref zfa_harm, .ref zfa_cost, .int zf_size]))] [0, 3]) hl.1 rfl rfl ⟨rfl, rfl, ⟨Nat.le_of_ble_eq_true rfl, Nat.le_of_ble_eq_true rfl⟩, ⟨Nat.le_of_ble_eq_true rfl, Nat.le_of_ble_eq_true rfl⟩, Nat.le_of_ble_eq_true rfl⟩ dX4_minutesOfRound_27) (fun r4q u5q H locs hwu5q hP hD hS => ?_)
        have hP : va_P D vwCl [(za_path, .inl (cy 0, 2916, .inl zf_path)), (za_move, .inl (cy 0, 2916, .inl zf_move)), (zfa_cost, .inl (cy 0, 16, .inl zff_cost)), (za, .inr (6, [.ref zfa, .ref za_mark, .ref za_path, .ref za_move, .ref za_without, .int z_block, .int z_depth, .int z_first])), (zfa, .inr (3, [.ref zfa_who, .ref zfa_hold, .ref zfa_harm, .ref zfa_cost, .int zf_size]))] H := hP
        have hD : va_D A [(za_path, .inl (cy 0, 2916, .inl zf_path)), (za_move, .inl (cy 0, 2916, .inl zf_move)), (zfa_cost, .inl (cy 0, 16, .inl zff_cost)), (za, .inr (6, [.ref zfa, .ref za_mark, .ref za_path, .ref za_move, .ref za_without, .int z_block, .int z_depth, .int z_first])), (zfa, .inr (3, [.ref zfa_who, .ref zfa_hold, .ref zfa_harm, .ref zfa_cost, .int zf_size]))] := hD
        refine lv_aload_n hx hb dX4_minutesOfRound_30 rfl (lv_at hl 2 rfl) ?_
        refine va_get (D := D) (ci := 6) (v := .ref za_move) (C := RX4) (T := TX4) (N := 8) hx hb hts kin_RX4 hown hG.1 hP 3 rfl rfl 3 (by decide) (hts _ wm_369) (fun _ h9 => h9) rfl dX4_minutesOfRound_31 ?_
        refine lv_iload_n hx hb dX4_minutesOfRound_34 rfl (lv_at hl 0 rfl) ?_
        refine va_iald hx hb hG.1 hP 1 0 rfl rfl (n_in (by omega) (by omega)) dX4_minutesOfRound_35 ?_
        refine lv_topi (fun x6q ex6q => ?_)
        refine k_cali [0, 1, 3] (⟨hP, hD, hG, hS, hA, rfl, rfl⟩ : kAt D cy sa A s H _ _ [(zfa, .inr (3, [.ref zfa_who, .ref zfa_hold, .ref zfa_harm, .ref zfa_cost, .int zf_size])), (zfa_cost, .inl (cy 0, 16, .inl zff_cost))] [4, 2]) (wr := [(za_path, .inl (cy 0, 2916, .inl zf_path)), (za_move, .inl (cy 0, 2916, .inl zf_move)), (za, .inr (6, [.ref zfa, .ref za_mark, .ref za_path, .ref za_move, .ref za_without, .int z_block, .int z_depth, .int z_first]))]) rfl rfl (by decide) (k_runV 3 4 (As := [.int r4q, .int x6q]) (rest := [.int k1qy1]) E lk_VRX4_76 rfl rfl rfl (c_fcost l hl0 D cy sa zfa zfa_who zfa_hold zfa_harm zfa_cost zf_size r4q x6q zff_cost ⟨by omega, by omega⟩ h_zff_cost H.size) (⟨hP, hD, hG, hS, hA, rfl, rfl⟩ : kAt D cy sa A s H _ _ [(zfa, .inr (3, [.ref zfa_who, .ref zfa_hold, .ref zfa_harm, .ref zfa_cost, .int zf_size])), (zfa_cost, .inl (cy 0, 16, .inl zff_cost))] [4, 2]) hl.1 rfl rfl ⟨rfl, rfl, ⟨Nat.le_of_ble_eq_true rfl, Nat.le_of_ble_eq_true rfl⟩, ⟨Nat.le_of_ble_eq_true rfl, Nat.le_of_ble_eq_true rfl⟩, Nat.le_of_ble_eq_true rfl⟩ dX4_minutesOfRound_36) (fun r7q u8q H locs hwu8q hP hD hS => ?_)
        have hP : va_P D vwCl [(za_path, .inl (cy 0, 2916, .inl zf_path)), (za_move, .inl (cy 0, 2916, .inl zf_move)), (za, .inr (6, [.ref zfa, .ref za_mark, .ref za_path, .ref za_move, .ref za_without, .int z_block, .int z_depth, .int z_first])), (zfa, .inr (3, [.ref zfa_who, .ref zfa_hold, .ref zfa_harm, .ref zfa_cost, .int zf_size])), (zfa_cost, .inl (cy 0, 16, .inl zff_cost))] H := hP
        have hD : va_D A [(za_path, .inl (cy 0, 2916, .inl zf_path)), (za_move, .inl (cy 0, 2916, .inl zf_move)), (za, .inr (6, [.ref zfa, .ref za_mark, .ref za_path, .ref za_move, .ref za_without, .int z_block, .int z_depth, .int z_first])), (zfa, .inr (3, [.ref zfa_who, .ref zfa_hold, .ref zfa_harm, .ref zfa_cost, .int zf_size])), (zfa_cost, .inl (cy 0, 16, .inl zff_cost))] := hD
        have p9q := hwu8q
        refine lv_iconst (v := 1) hx hb dX4_minutesOfRound_39 (by decide) ?_
        refine lv_iadd hx hb dX4_minutesOfRound_40 ?_
        refine lv_topi (fun x10q ex10q => ?_)
        have rx10q := n_add ex10q (a := r7q.toInt) (b := 1) rfl n_L1 (by omega) (by omega)
        refine lv_iadd hx hb dX4_minutesOfRound_41 ?_
        refine lv_topi (fun x11q ex11q => ?_)
        have gx11q := k_rng k1qy1
        refine lv_istore_n (lv' := [(1, .int x11q), (2, .int k1qy2), (0, .ref za)]) hx hb dX4_minutesOfRound_42 rfl hl (by decide) rfl (fun ls hl => ?_)
        obtain ⟨x12q, ex12q⟩ : ∃ z : Int32, z = k1qy2 + 1 := ⟨_, rfl⟩
        refine lv_iinc (v := x12q) (lv' := [(2, .int x12q), (1, .int x11q), (0, .ref za)]) hx hb dX4_minutesOfRound_43 hl (k := 1) rfl (by rw [ex12q]; rfl) (by decide) rfl (fun ls hl => ?_)
        have rx12q := n_add ex12q (a := k1qy2.toInt) (b := 1) rfl n_L1 (by omega) (by omega)
        refine lv_goto (tgt := 7) hx hb dX4_minutesOfRound_46 (by decide) ?_
        exact k1qih ((2916 - x12q.toInt).toNat) (by omega) x11q x12q H locs ls ⟨by omega, by omega⟩ rfl (hP.sub [2, 0, 1, 3, 4] rfl) (hD.sub [2, 0, 1, 3, 4] (by decide) rfl) hS (lv_sub hl [0, 1, 2] rfl)
  exact k1q _ 0 z_first H locs ls ⟨by first | omega | (simp only [n_L0]; omega) | (simp only [n_L0]; done) | decide, by first | omega | (simp only [n_L0]; omega) | (simp only [n_L0]; done) | decide⟩ rfl hP hD hS (lv_sub hl [0, 1, 2] rfl)
