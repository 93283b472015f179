theorem n_L12000 : (12000 : Int32).toInt = 12000 := by decide
theorem n_L2916 : (2916 : Int32).toInt = 2916 := by decide
theorem wm_551 : Cond.code yJ7_rangeCheck_23922 cJ7_rangeCheck_23922 3 none ∈ kWS := kws_at 551 (by decide +kernel) (by decide +kernel)
theorem wm_549 : Cond.methodLink RJ7 13 yJ7_rangeCheck_23922 ∈ kWS := kws_at 549 (by decide +kernel) (by decide +kernel)
theorem wm_550 : Cond.static yJ7_rangeCheck_23922 ∈ kWS := kws_at 550 (by decide +kernel) (by decide +kernel)
theorem wm_24 : Cond.initialized RJ7 ∈ kWS := kws_at 24 (by decide +kernel) (by decide +kernel)
theorem lk_SRJ7_13 : kLS RJ7 13 yJ7_rangeCheck_23922 (Cond.code yJ7_rangeCheck_23922 cJ7_rangeCheck_23922 3 none) 3 := ⟨wm_549, wm_550, wm_24, wm_551, ⟨by decide +kernel, by decide +kernel, by decide +kernel⟩⟩
theorem wm_503 : Cond.constant RJ6 265 (1431655765) ∈ kWS := kws_at 503 (by decide +kernel) (by decide +kernel)
theorem n_L1431655765 : (1431655765 : Int32).toInt = 1431655765 := by decide
theorem wm_504 : Cond.constant RJ6 266 (858993459) ∈ kWS := kws_at 504 (by decide +kernel) (by decide +kernel)
theorem n_L858993459 : (858993459 : Int32).toInt = 858993459 := by decide
theorem wm_505 : Cond.constant RJ6 267 (252645135) ∈ kWS := kws_at 505 (by decide +kernel) (by decide +kernel)
theorem n_L252645135 : (252645135 : Int32).toInt = 252645135 := by decide
theorem n_L63 : (63 : Int32).toInt = 63 := by decide
theorem wm_124 : Cond.fieldLink RX2 52 "LentMinds$House" "joints" "I" ∈ kWS := kws_at 124 (by decide +kernel) (by decide +kernel)
theorem wm_132 : Cond.fieldLink RX2 61 "LentMinds$House" "day" "I" ∈ kWS := kws_at 132 (by decide +kernel) (by decide +kernel)
theorem n_L10 : (10 : Int32).toInt = 10 := by decide
theorem n_L480 : (480 : Int32).toInt = 480 := by decide
theorem wm_1032 : Cond.code yJ7_fill_53178 cJ7_fill_53178 4 none ∈ kWS := kws_at 1032 (by decide +kernel) (by decide +kernel)
theorem wm_1030 : Cond.methodLink RX5 43 yJ7_fill_53178 ∈ kWS := kws_at 1030 (by decide +kernel) (by decide +kernel)
theorem wm_1031 : Cond.static yJ7_fill_53178 ∈ kWS := kws_at 1031 (by decide +kernel) (by decide +kernel)
theorem lk_SRX5_43 : kLS RX5 43 yJ7_fill_53178 (Cond.code yJ7_fill_53178 cJ7_fill_53178 4 none) 2 := ⟨wm_1030, wm_1031, wm_24, wm_1032, ⟨by decide +kernel, by decide +kernel, by decide +kernel⟩⟩
theorem wm_1036 : Cond.code yX5_forget cX5_forget 1 none ∈ kWS := kws_at 1036 (by decide +kernel) (by decide +kernel)
theorem wm_1033 : Cond.methodLink RX5 49 yX5_forget ∈ kWS := kws_at 1033 (by decide +kernel) (by decide +kernel)
theorem wm_1035 : Cond.selects RX5 yX5_forget yX5_forget ∈ kWS := kws_at 1035 (by decide +kernel) (by decide +kernel)
theorem wm_1034 : Cond.instanceMethod yX5_forget ∈ kWS := kws_at 1034 (by decide +kernel) (by decide +kernel)
theorem lk_VRX5_49 : kLV RX5 49 yX5_forget (Cond.code yX5_forget cX5_forget 1 none) 0 := ⟨wm_1033, wm_1034, wm_1035, wm_4, wm_1036, ⟨by decide +kernel, by decide +kernel, by decide +kernel⟩⟩
theorem dJ7_fill_53178_0 : decode cJ7_fill_53178 0 = .ok (.iconst 0, 1) := by decide +kernel
theorem dJ7_fill_53178_1 : decode cJ7_fill_53178 1 = .ok (.istore_n 2, 1) := by decide +kernel
theorem dJ7_fill_53178_2 : decode cJ7_fill_53178 2 = .ok (.aload_n 0, 1) := by decide +kernel
theorem dJ7_fill_53178_3 : decode cJ7_fill_53178 3 = .ok (.arraylength, 1) := by decide +kernel
theorem dJ7_fill_53178_4 : decode cJ7_fill_53178 4 = .ok (.istore_n 3, 1) := by decide +kernel
theorem dJ7_fill_53178_5 : decode cJ7_fill_53178 5 = .ok (.iload_n 2, 1) := by decide +kernel
theorem dJ7_fill_53178_6 : decode cJ7_fill_53178 6 = .ok (.iload_n 3, 1) := by decide +kernel
theorem dJ7_fill_53178_7 : decode cJ7_fill_53178 7 = .ok (.if_icmp .ge 13, 3) := by decide +kernel
theorem dJ7_fill_53178_10 : decode cJ7_fill_53178 10 = .ok (.aload_n 0, 1) := by decide +kernel
theorem dJ7_fill_53178_11 : decode cJ7_fill_53178 11 = .ok (.iload_n 2, 1) := by decide +kernel
theorem dJ7_fill_53178_12 : decode cJ7_fill_53178 12 = .ok (.iload_n 1, 1) := by decide +kernel
theorem dJ7_fill_53178_13 : decode cJ7_fill_53178 13 = .ok (.iastore, 1) := by decide +kernel
theorem dJ7_fill_53178_14 : decode cJ7_fill_53178 14 = .ok (.iinc 2 1, 3) := by decide +kernel
theorem dJ7_fill_53178_17 : decode cJ7_fill_53178 17 = .ok (.goto (-12), 3) := by decide +kernel
theorem dJ7_fill_53178_20 : decode cJ7_fill_53178 20 = .ok (.return_, 1) := by decide +kernel
theorem dJ7_rangeCheck_23922_0 : decode cJ7_rangeCheck_23922 0 = .ok (.iload_n 1, 1) := by decide +kernel
theorem dJ7_rangeCheck_23922_1 : decode cJ7_rangeCheck_23922 1 = .ok (.iload_n 2, 1) := by decide +kernel
theorem dJ7_rangeCheck_23922_2 : decode cJ7_rangeCheck_23922 2 = .ok (.if_icmp .le 44, 3) := by decide +kernel
theorem dJ7_rangeCheck_23922_5 : decode cJ7_rangeCheck_23922 5 = .ok (.new 43, 3) := by decide +kernel
theorem dJ7_rangeCheck_23922_8 : decode cJ7_rangeCheck_23922 8 = .ok (.dup, 1) := by decide +kernel
theorem dJ7_rangeCheck_23922_9 : decode cJ7_rangeCheck_23922 9 = .ok (.new 45, 3) := by decide +kernel
theorem dJ7_rangeCheck_23922_12 : decode cJ7_rangeCheck_23922 12 = .ok (.dup, 1) := by decide +kernel
theorem dJ7_rangeCheck_23922_13 : decode cJ7_rangeCheck_23922 13 = .ok (.invokespecial 47, 3) := by decide +kernel
theorem dJ7_rangeCheck_23922_16 : decode cJ7_rangeCheck_23922 16 = .ok (.ldc 48, 2) := by decide +kernel
theorem dJ7_rangeCheck_23922_18 : decode cJ7_rangeCheck_23922 18 = .ok (.invokevirtual 50, 3) := by decide +kernel
theorem dJ7_rangeCheck_23922_21 : decode cJ7_rangeCheck_23922 21 = .ok (.iload_n 1, 1) := by decide +kernel
theorem dJ7_rangeCheck_23922_22 : decode cJ7_rangeCheck_23922 22 = .ok (.invokevirtual 54, 3) := by decide +kernel
theorem dJ7_rangeCheck_23922_25 : decode cJ7_rangeCheck_23922 25 = .ok (.ldc 57, 2) := by decide +kernel
theorem dJ7_rangeCheck_23922_27 : decode cJ7_rangeCheck_23922 27 = .ok (.invokevirtual 50, 3) := by decide +kernel
theorem dJ7_rangeCheck_23922_30 : decode cJ7_rangeCheck_23922 30 = .ok (.iload_n 2, 1) := by decide +kernel
theorem dJ7_rangeCheck_23922_31 : decode cJ7_rangeCheck_23922 31 = .ok (.invokevirtual 54, 3) := by decide +kernel
theorem dJ7_rangeCheck_23922_34 : decode cJ7_rangeCheck_23922 34 = .ok (.ldc 59, 2) := by decide +kernel
theorem dJ7_rangeCheck_23922_36 : decode cJ7_rangeCheck_23922 36 = .ok (.invokevirtual 50, 3) := by decide +kernel
theorem dJ7_rangeCheck_23922_39 : decode cJ7_rangeCheck_23922 39 = .ok (.invokevirtual 61, 3) := by decide +kernel
theorem dJ7_rangeCheck_23922_42 : decode cJ7_rangeCheck_23922 42 = .ok (.invokespecial 65, 3) := by decide +kernel
theorem dJ7_rangeCheck_23922_45 : decode cJ7_rangeCheck_23922 45 = .ok (.athrow, 1) := by decide +kernel
theorem dJ7_rangeCheck_23922_46 : decode cJ7_rangeCheck_23922 46 = .ok (.iload_n 1, 1) := by decide +kernel
theorem dJ7_rangeCheck_23922_47 : decode cJ7_rangeCheck_23922 47 = .ok (.ifCond .ge 12, 3) := by decide +kernel
theorem dJ7_rangeCheck_23922_50 : decode cJ7_rangeCheck_23922 50 = .ok (.new 68, 3) := by decide +kernel
theorem dJ7_rangeCheck_23922_53 : decode cJ7_rangeCheck_23922 53 = .ok (.dup, 1) := by decide +kernel
theorem dJ7_rangeCheck_23922_54 : decode cJ7_rangeCheck_23922 54 = .ok (.iload_n 1, 1) := by decide +kernel
theorem dJ7_rangeCheck_23922_55 : decode cJ7_rangeCheck_23922 55 = .ok (.invokespecial 70, 3) := by decide +kernel
theorem dJ7_rangeCheck_23922_58 : decode cJ7_rangeCheck_23922 58 = .ok (.athrow, 1) := by decide +kernel
theorem dJ7_rangeCheck_23922_59 : decode cJ7_rangeCheck_23922 59 = .ok (.iload_n 2, 1) := by decide +kernel
theorem dJ7_rangeCheck_23922_60 : decode cJ7_rangeCheck_23922 60 = .ok (.iload_n 0, 1) := by decide +kernel
theorem dJ7_rangeCheck_23922_61 : decode cJ7_rangeCheck_23922 61 = .ok (.if_icmp .le 12, 3) := by decide +kernel
theorem dJ7_rangeCheck_23922_64 : decode cJ7_rangeCheck_23922 64 = .ok (.new 68, 3) := by decide +kernel
theorem dJ7_rangeCheck_23922_67 : decode cJ7_rangeCheck_23922 67 = .ok (.dup, 1) := by decide +kernel
theorem dJ7_rangeCheck_23922_68 : decode cJ7_rangeCheck_23922 68 = .ok (.iload_n 2, 1) := by decide +kernel
theorem dJ7_rangeCheck_23922_69 : decode cJ7_rangeCheck_23922 69 = .ok (.invokespecial 70, 3) := by decide +kernel
theorem dJ7_rangeCheck_23922_72 : decode cJ7_rangeCheck_23922 72 = .ok (.athrow, 1) := by decide +kernel
theorem dJ7_rangeCheck_23922_73 : decode cJ7_rangeCheck_23922 73 = .ok (.return_, 1) := by decide +kernel
theorem dJ7_fill_fda19_0 : decode cJ7_fill_fda19 0 = .ok (.aload_n 0, 1) := by decide +kernel
theorem dJ7_fill_fda19_1 : decode cJ7_fill_fda19 1 = .ok (.arraylength, 1) := by decide +kernel
theorem dJ7_fill_fda19_2 : decode cJ7_fill_fda19 2 = .ok (.iload_n 1, 1) := by decide +kernel
theorem dJ7_fill_fda19_3 : decode cJ7_fill_fda19 3 = .ok (.iload_n 2, 1) := by decide +kernel
theorem dJ7_fill_fda19_4 : decode cJ7_fill_fda19 4 = .ok (.invokestatic 13, 3) := by decide +kernel
theorem dJ7_fill_fda19_7 : decode cJ7_fill_fda19 7 = .ok (.iload_n 1, 1) := by decide +kernel
theorem dJ7_fill_fda19_8 : decode cJ7_fill_fda19 8 = .ok (.istore 4, 2) := by decide +kernel
theorem dJ7_fill_fda19_10 : decode cJ7_fill_fda19 10 = .ok (.iload 4, 2) := by decide +kernel
theorem dJ7_fill_fda19_12 : decode cJ7_fill_fda19 12 = .ok (.iload_n 2, 1) := by decide +kernel
theorem dJ7_fill_fda19_13 : decode cJ7_fill_fda19 13 = .ok (.if_icmp .ge 14, 3) := by decide +kernel
theorem dJ7_fill_fda19_16 : decode cJ7_fill_fda19 16 = .ok (.aload_n 0, 1) := by decide +kernel
theorem dJ7_fill_fda19_17 : decode cJ7_fill_fda19 17 = .ok (.iload 4, 2) := by decide +kernel
theorem dJ7_fill_fda19_19 : decode cJ7_fill_fda19 19 = .ok (.iload_n 3, 1) := by decide +kernel
theorem dJ7_fill_fda19_20 : decode cJ7_fill_fda19 20 = .ok (.iastore, 1) := by decide +kernel
theorem dJ7_fill_fda19_21 : decode cJ7_fill_fda19 21 = .ok (.iinc 4 1, 3) := by decide +kernel
theorem dJ7_fill_fda19_24 : decode cJ7_fill_fda19 24 = .ok (.goto (-14), 3) := by decide +kernel
theorem dJ7_fill_fda19_27 : decode cJ7_fill_fda19 27 = .ok (.return_, 1) := by decide +kernel
theorem dJ6_bitCount_0f7a4_0 : decode cJ6_bitCount_0f7a4 0 = .ok (.iload_n 0, 1) := by decide +kernel
theorem dJ6_bitCount_0f7a4_1 : decode cJ6_bitCount_0f7a4 1 = .ok (.iload_n 0, 1) := by decide +kernel
theorem dJ6_bitCount_0f7a4_2 : decode cJ6_bitCount_0f7a4 2 = .ok (.iconst 1, 1) := by decide +kernel
theorem dJ6_bitCount_0f7a4_3 : decode cJ6_bitCount_0f7a4 3 = .ok (.iushr, 1) := by decide +kernel
theorem dJ6_bitCount_0f7a4_4 : decode cJ6_bitCount_0f7a4 4 = .ok (.ldc_w 265, 3) := by decide +kernel
theorem dJ6_bitCount_0f7a4_7 : decode cJ6_bitCount_0f7a4 7 = .ok (.iand, 1) := by decide +kernel
theorem dJ6_bitCount_0f7a4_8 : decode cJ6_bitCount_0f7a4 8 = .ok (.isub, 1) := by decide +kernel
theorem dJ6_bitCount_0f7a4_9 : decode cJ6_bitCount_0f7a4 9 = .ok (.istore_n 0, 1) := by decide +kernel
theorem dJ6_bitCount_0f7a4_10 : decode cJ6_bitCount_0f7a4 10 = .ok (.iload_n 0, 1) := by decide +kernel
theorem dJ6_bitCount_0f7a4_11 : decode cJ6_bitCount_0f7a4 11 = .ok (.ldc_w 266, 3) := by decide +kernel
theorem dJ6_bitCount_0f7a4_14 : decode cJ6_bitCount_0f7a4 14 = .ok (.iand, 1) := by decide +kernel
theorem dJ6_bitCount_0f7a4_15 : decode cJ6_bitCount_0f7a4 15 = .ok (.iload_n 0, 1) := by decide +kernel
theorem dJ6_bitCount_0f7a4_16 : decode cJ6_bitCount_0f7a4 16 = .ok (.iconst 2, 1) := by decide +kernel
theorem dJ6_bitCount_0f7a4_17 : decode cJ6_bitCount_0f7a4 17 = .ok (.iushr, 1) := by decide +kernel
theorem dJ6_bitCount_0f7a4_18 : decode cJ6_bitCount_0f7a4 18 = .ok (.ldc_w 266, 3) := by decide +kernel
theorem dJ6_bitCount_0f7a4_21 : decode cJ6_bitCount_0f7a4 21 = .ok (.iand, 1) := by decide +kernel
theorem dJ6_bitCount_0f7a4_22 : decode cJ6_bitCount_0f7a4 22 = .ok (.iadd, 1) := by decide +kernel
theorem dJ6_bitCount_0f7a4_23 : decode cJ6_bitCount_0f7a4 23 = .ok (.istore_n 0, 1) := by decide +kernel
theorem dJ6_bitCount_0f7a4_24 : decode cJ6_bitCount_0f7a4 24 = .ok (.iload_n 0, 1) := by decide +kernel
theorem dJ6_bitCount_0f7a4_25 : decode cJ6_bitCount_0f7a4 25 = .ok (.iload_n 0, 1) := by decide +kernel
theorem dJ6_bitCount_0f7a4_26 : decode cJ6_bitCount_0f7a4 26 = .ok (.iconst 4, 1) := by decide +kernel
theorem dJ6_bitCount_0f7a4_27 : decode cJ6_bitCount_0f7a4 27 = .ok (.iushr, 1) := by decide +kernel
theorem dJ6_bitCount_0f7a4_28 : decode cJ6_bitCount_0f7a4 28 = .ok (.iadd, 1) := by decide +kernel
theorem dJ6_bitCount_0f7a4_29 : decode cJ6_bitCount_0f7a4 29 = .ok (.ldc_w 267, 3) := by decide +kernel
theorem dJ6_bitCount_0f7a4_32 : decode cJ6_bitCount_0f7a4 32 = .ok (.iand, 1) := by decide +kernel
theorem dJ6_bitCount_0f7a4_33 : decode cJ6_bitCount_0f7a4 33 = .ok (.istore_n 0, 1) := by decide +kernel
theorem dJ6_bitCount_0f7a4_34 : decode cJ6_bitCount_0f7a4 34 = .ok (.iload_n 0, 1) := by decide +kernel
theorem dJ6_bitCount_0f7a4_35 : decode cJ6_bitCount_0f7a4 35 = .ok (.iload_n 0, 1) := by decide +kernel
theorem dJ6_bitCount_0f7a4_36 : decode cJ6_bitCount_0f7a4 36 = .ok (.bipush 8, 2) := by decide +kernel
theorem dJ6_bitCount_0f7a4_38 : decode cJ6_bitCount_0f7a4 38 = .ok (.iushr, 1) := by decide +kernel
theorem dJ6_bitCount_0f7a4_39 : decode cJ6_bitCount_0f7a4 39 = .ok (.iadd, 1) := by decide +kernel
theorem dJ6_bitCount_0f7a4_40 : decode cJ6_bitCount_0f7a4 40 = .ok (.istore_n 0, 1) := by decide +kernel
theorem dJ6_bitCount_0f7a4_41 : decode cJ6_bitCount_0f7a4 41 = .ok (.iload_n 0, 1) := by decide +kernel
theorem dJ6_bitCount_0f7a4_42 : decode cJ6_bitCount_0f7a4 42 = .ok (.iload_n 0, 1) := by decide +kernel
theorem dJ6_bitCount_0f7a4_43 : decode cJ6_bitCount_0f7a4 43 = .ok (.bipush 16, 2) := by decide +kernel
theorem dJ6_bitCount_0f7a4_45 : decode cJ6_bitCount_0f7a4 45 = .ok (.iushr, 1) := by decide +kernel
theorem dJ6_bitCount_0f7a4_46 : decode cJ6_bitCount_0f7a4 46 = .ok (.iadd, 1) := by decide +kernel
theorem dJ6_bitCount_0f7a4_47 : decode cJ6_bitCount_0f7a4 47 = .ok (.istore_n 0, 1) := by decide +kernel
theorem dJ6_bitCount_0f7a4_48 : decode cJ6_bitCount_0f7a4 48 = .ok (.iload_n 0, 1) := by decide +kernel
theorem dJ6_bitCount_0f7a4_49 : decode cJ6_bitCount_0f7a4 49 = .ok (.bipush 63, 2) := by decide +kernel
theorem dJ6_bitCount_0f7a4_51 : decode cJ6_bitCount_0f7a4 51 = .ok (.iand, 1) := by decide +kernel
theorem dJ6_bitCount_0f7a4_52 : decode cJ6_bitCount_0f7a4 52 = .ok (.ireturn, 1) := by decide +kernel
theorem dX2_begin_0 : decode cX2_begin 0 = .ok (.aload_n 0, 1) := by decide +kernel
theorem dX2_begin_1 : decode cX2_begin 1 = .ok (.iconst 0, 1) := by decide +kernel
theorem dX2_begin_2 : decode cX2_begin 2 = .ok (.putfield 48, 3) := by decide +kernel
theorem dX2_begin_5 : decode cX2_begin 5 = .ok (.aload_n 0, 1) := by decide +kernel
theorem dX2_begin_6 : decode cX2_begin 6 = .ok (.iconst 0, 1) := by decide +kernel
theorem dX2_begin_7 : decode cX2_begin 7 = .ok (.putfield 52, 3) := by decide +kernel
theorem dX2_begin_10 : decode cX2_begin 10 = .ok (.aload_n 0, 1) := by decide +kernel
theorem dX2_begin_11 : decode cX2_begin 11 = .ok (.iconst 1, 1) := by decide +kernel
theorem dX2_begin_12 : decode cX2_begin 12 = .ok (.putfield 55, 3) := by decide +kernel
theorem dX2_begin_15 : decode cX2_begin 15 = .ok (.aload_n 0, 1) := by decide +kernel
theorem dX2_begin_16 : decode cX2_begin 16 = .ok (.bipush 10, 2) := by decide +kernel
theorem dX2_begin_18 : decode cX2_begin 18 = .ok (.putfield 58, 3) := by decide +kernel
theorem dX2_begin_21 : decode cX2_begin 21 = .ok (.aload_n 0, 1) := by decide +kernel
theorem dX2_begin_22 : decode cX2_begin 22 = .ok (.sipush 480, 3) := by decide +kernel
theorem dX2_begin_25 : decode cX2_begin 25 = .ok (.putfield 61, 3) := by decide +kernel
theorem dX2_begin_28 : decode cX2_begin 28 = .ok (.return_, 1) := by decide +kernel
theorem dX5_begin_0 : decode cX5_begin 0 = .ok (.aload_n 0, 1) := by decide +kernel
theorem dX5_begin_1 : decode cX5_begin 1 = .ok (.getfield 9, 3) := by decide +kernel
theorem dX5_begin_4 : decode cX5_begin 4 = .ok (.iconst 0, 1) := by decide +kernel
theorem dX5_begin_5 : decode cX5_begin 5 = .ok (.invokestatic 43, 3) := by decide +kernel
theorem dX5_begin_8 : decode cX5_begin 8 = .ok (.aload_n 0, 1) := by decide +kernel
theorem dX5_begin_9 : decode cX5_begin 9 = .ok (.getfield 15, 3) := by decide +kernel
theorem dX5_begin_12 : decode cX5_begin 12 = .ok (.iconst 0, 1) := by decide +kernel
theorem dX5_begin_13 : decode cX5_begin 13 = .ok (.invokestatic 43, 3) := by decide +kernel
theorem dX5_begin_16 : decode cX5_begin 16 = .ok (.aload_n 0, 1) := by decide +kernel
theorem dX5_begin_17 : decode cX5_begin 17 = .ok (.iconst 0, 1) := by decide +kernel
theorem dX5_begin_18 : decode cX5_begin 18 = .ok (.putfield 18, 3) := by decide +kernel
theorem dX5_begin_21 : decode cX5_begin 21 = .ok (.aload_n 0, 1) := by decide +kernel
theorem dX5_begin_22 : decode cX5_begin 22 = .ok (.iconst 0, 1) := by decide +kernel
theorem dX5_begin_23 : decode cX5_begin 23 = .ok (.putfield 22, 3) := by decide +kernel
theorem dX5_begin_26 : decode cX5_begin 26 = .ok (.aload_n 0, 1) := by decide +kernel
theorem dX5_begin_27 : decode cX5_begin 27 = .ok (.iconst 0, 1) := by decide +kernel
theorem dX5_begin_28 : decode cX5_begin 28 = .ok (.putfield 25, 3) := by decide +kernel
theorem dX5_begin_31 : decode cX5_begin 31 = .ok (.aload_n 0, 1) := by decide +kernel
theorem dX5_begin_32 : decode cX5_begin 32 = .ok (.iconst 0, 1) := by decide +kernel
theorem dX5_begin_33 : decode cX5_begin 33 = .ok (.putfield 28, 3) := by decide +kernel
theorem dX5_begin_36 : decode cX5_begin 36 = .ok (.aload_n 0, 1) := by decide +kernel
theorem dX5_begin_37 : decode cX5_begin 37 = .ok (.iconst 0, 1) := by decide +kernel
theorem dX5_begin_38 : decode cX5_begin 38 = .ok (.putfield 31, 3) := by decide +kernel
theorem dX5_begin_41 : decode cX5_begin 41 = .ok (.aload_n 0, 1) := by decide +kernel
theorem dX5_begin_42 : decode cX5_begin 42 = .ok (.invokevirtual 49, 3) := by decide +kernel
theorem dX5_begin_45 : decode cX5_begin 45 = .ok (.return_, 1) := by decide +kernel
set_option maxHeartbeats 4000000 in
set_option maxRecDepth 100000 in
/-- Arrays.fill, 9 -/
theorem c_fill_9 (l : Launch) (hl0 : l.stackTraces = false) (D : va_G) (cy : Nat → ClassId) (sa : Nat → Nat) (ta : Nat) (v0 : Int32) (tf : Nat → Int32) (L0 : Int) (U0 : Int) (hL0 : L0 ≤ v0.toInt) (hU0 : v0.toInt ≤ U0) (sz : Nat) : Met l yJ7_fill_53178 (Cond.code yJ7_fill_53178 cJ7_fill_53178 4 none :: kWS) ({ frames := 10, cells := 0, slots := 0, locals := 300 }) (kPre D cy sa [.ref ta, .int v0] [(ta, .inl (cy 0, 9, .inl tf))] sz) (va_Qv (fun (u : (Nat → Int32) × (Nat → Nat → Int32)) => (rowR 9 L0 (U0) ((u.2 0)))) (kB D (va_A [(ta, .inl (cy 0, 9, .inl tf))] sz) (fun (u : (Nat → Int32) × (Nat → Nat → Int32)) => [(ta, .inl (cy 0, 9, .inl ((u.2 0))))])) (va_A [(ta, .inl (cy 0, 9, .inl tf))] sz)) 0 0 (va_A [(ta, .inl (cy 0, 9, .inl tf))] sz) := by
  refine k_ofW (y := yJ7_fill_53178) (cc := cJ7_fill_53178) (maxL := 4) (ret := none) (av := [.ref ta, .int v0]) (ws := [(ta, .inl (cy 0, 9, .inl tf))]) (Qc := fun A => (va_Qv (fun (u : (Nat → Int32) × (Nat → Nat → Int32)) => (rowR 9 L0 (U0) ((u.2 0)))) (kB D A (fun (u : (Nat → Int32) × (Nat → Nat → Int32)) => [(ta, .inl (cy 0, 9, .inl ((u.2 0))))])) A)) (by decide) (Nat.le_of_ble_eq_true rfl) ?_
  intro p e s m below meth c ls A E hA hP hD hG hS hl
  obtain ⟨Q0, hQ0⟩ : ∃ Q0 : State → Prop, Q0 = MQ below (va_Qv (fun (u : (Nat → Int32) × (Nat → Nat → Int32)) => (rowR 9 L0 (U0) ((u.2 0)))) (kB D A (fun (u : (Nat → Int32) × (Nat → Nat → Int32)) => [(ta, .inl (cy 0, 9, .inl ((u.2 0))))])) A) ([.ref ta, .int v0] : List Value).toArray s 0 0 A := ⟨_, rfl⟩
  rw [← hQ0]
  obtain ⟨hx, hb, hml, hown, hts, hr, hlk, hnm⟩ := id E
  have hown : s.vm.findClass RJ7 = some m.cls := hown
  have hl : lv_has ls 4 [(0, .ref ta), (1, .int v0)] := hl
  have g_v0 := k_rng v0
  obtain ⟨H, hH⟩ : ∃ H, H = s.heap := ⟨_, rfl⟩
  have hP : va_P D vwCl [(ta, .inl (cy 0, 9, .inl tf))] H := by rw [hH]; exact hP
  have hS : va_S A s.heap H [] := by rw [hH]; exact va_S.rf
  rw [← hH]
  clear hH
  obtain ⟨locs, hlocs⟩ : ∃ locs : List Loc, locs = [] := ⟨_, rfl⟩
  rw [← hlocs] at hS ⊢
  refine lv_iconst (v := 0) hx hb dJ7_fill_53178_0 (by decide) ?_
  refine lv_istore_n (lv' := [(2, .int 0), (0, .ref ta), (1, .int v0)]) hx hb dJ7_fill_53178_1 rfl hl (by decide) rfl (fun ls hl => ?_)
  refine lv_aload_n hx hb dJ7_fill_53178_2 rfl (lv_at hl 1 rfl) ?_
  refine va_alen (v := 9) hx hb hG.1 hP 0 0 rfl rfl rfl dJ7_fill_53178_3 ?_
  refine lv_istore_n (lv' := [(3, .int 9), (2, .int 0), (0, .ref ta), (1, .int v0)]) hx hb dJ7_fill_53178_4 rfl hl (by decide) rfl (fun ls hl => ?_)
  have k1q : ∀ (n : Nat) (k1qy2 : Int32) (k1qtf_e : Nat → Int32) (H : Heap) (locs : List Loc) (ls : Array Slot), 0 ≤ k1qy2.toInt ∧ k1qy2.toInt ≤ 9 → rowR (k1qy2.toInt).toNat L0 (U0) k1qtf_e → (9 - k1qy2.toInt).toNat = n → va_P D vwCl [(ta, .inl (cy 0, 9, .inl k1qtf_e))] H → va_D A [(ta, .inl (cy 0, 9, .inl k1qtf_e))] → va_S A s.heap H locs → lv_has ls 4 [(3, .int 9), (2, .int k1qy2), (0, .ref ta), (1, .int v0)] → W p l e ({ frames := 10, cells := 0, slots := 0, locals := 300 }) s m ([.ref ta, .int v0] : List Value).toArray below meth c H locs 0 0 Q0 (F0 m 5 ls []) := by
    intro n
    induction n using Nat.strongRecOn with
    | ind n k1qih =>
      intro k1qy2 k1qtf_e H locs ls hk1qy2 hk1qi0 k1qm hP hD hS hl
      refine lv_iload_n hx hb dJ7_fill_53178_5 rfl (lv_at hl 1 rfl) ?_
      refine lv_iload_n hx hb dJ7_fill_53178_6 rfl (lv_at hl 0 rfl) ?_
      refine lv_icmp_ge (tgt := 20) hx hb dJ7_fill_53178_7 (by decide) (fun c2q => ?_) (fun c2q => ?_)
      · simp only [k_lt, k_le, k_eq, ne_eq, ge_iff_le, gt_iff_lt, n_L9] at c2q
        have h99 : rowR 9 L0 (U0) k1qtf_e := rowR_len hk1qi0 (by omega)
        rw [hQ0]
        exact k_vret (fun k => [].getD k 0, fun k => [k1qtf_e].getD k (fun _ => 0)) hx hb hr hlk ((show rowR 9 L0 (U0) k1qtf_e from h99)) (hP.sub [0] rfl) (hD.sub [0] (by decide) rfl) hS (by decide) (by decide) dJ7_fill_53178_20
      · simp only [k_lt, k_le, k_eq, ne_eq, ge_iff_le, gt_iff_lt, n_L9] at c2q
        refine lv_aload_n hx hb dJ7_fill_53178_10 rfl (lv_at hl 2 rfl) ?_
        refine lv_iload_n hx hb dJ7_fill_53178_11 rfl (lv_at hl 1 rfl) ?_
        refine lv_iload_n hx hb dJ7_fill_53178_12 rfl (lv_at hl 3 rfl) ?_
        refine va_iast hx hb hG.1 hP hD hS 0 0 rfl rfl (n_in (by omega) (by omega)) dJ7_fill_53178_13 (fun H locs hP hD hS => ?_)
        have hP : va_P D vwCl [(ta, .inl (cy 0, 9, .inl (upd (k1qtf_e) (k1qy2 : Int32).toNatClampNeg v0)))] H := hP
        have hD : va_D A [(ta, .inl (cy 0, 9, .inl (upd (k1qtf_e) (k1qy2 : Int32).toNatClampNeg v0)))] := hD
        have hf3q : rowR (k1qy2.toInt.toNat + 1) L0 U0 (upd (k1qtf_e) (k1qy2 : Int32).toNatClampNeg v0) := rowR_fill hk1qi0 hL0 hU0 rfl
        generalize upd (k1qtf_e) (k1qy2 : Int32).toNatClampNeg v0 = f3q at hP hD hf3q
        have hP : va_P D vwCl [(ta, .inl (cy 0, 9, .inl f3q))] H := hP
        have hD : va_D A [(ta, .inl (cy 0, 9, .inl f3q))] := hD
        obtain ⟨x4q, ex4q⟩ : ∃ z : Int32, z = k1qy2 + 1 := ⟨_, rfl⟩
        refine lv_iinc (v := x4q) (lv' := [(2, .int x4q), (3, .int 9), (0, .ref ta), (1, .int v0)]) hx hb dJ7_fill_53178_14 hl (k := 1) rfl (by rw [ex4q]; rfl) (by decide) rfl (fun ls hl => ?_)
        have rx4q := n_add ex4q (a := k1qy2.toInt) (b := 1) rfl n_L1 (by omega) (by omega)
        refine lv_goto (tgt := 5) hx hb dJ7_fill_53178_17 (by decide) ?_
        exact k1qih ((9 - x4q.toInt).toNat) (by omega) x4q f3q H locs ls ⟨by omega, by omega⟩ (rowR_len hf3q (by omega)) rfl hP hD hS (lv_sub hl [1, 0, 2, 3] rfl)
  exact k1q _ 0 tf H locs ls ⟨by rw [n_L0]; omega, by rw [n_L0]; omega⟩ (rowR_nil (by (try simp only [n_L0]); omega)) rfl hP hD hS (lv_sub hl [0, 1, 2, 3] rfl)

set_option maxHeartbeats 4000000 in
set_option maxRecDepth 100000 in
/-- Arrays.fill, 12000 -/
theorem c_fill_12000 (l : Launch) (hl0 : l.stackTraces = false) (D : va_G) (cy : Nat → ClassId) (sa : Nat → Nat) (ta : Nat) (v0 : Int32) (tf : Nat → Int32) (L0 : Int) (U0 : Int) (hL0 : L0 ≤ v0.toInt) (hU0 : v0.toInt ≤ U0) (sz : Nat) : Met l yJ7_fill_53178 (Cond.code yJ7_fill_53178 cJ7_fill_53178 4 none :: kWS) ({ frames := 10, cells := 0, slots := 0, locals := 300 }) (kPre D cy sa [.ref ta, .int v0] [(ta, .inl (cy 0, 12000, .inl tf))] sz) (va_Qv (fun (u : (Nat → Int32) × (Nat → Nat → Int32)) => (rowR 12000 L0 (U0) ((u.2 0)))) (kB D (va_A [(ta, .inl (cy 0, 12000, .inl tf))] sz) (fun (u : (Nat → Int32) × (Nat → Nat → Int32)) => [(ta, .inl (cy 0, 12000, .inl ((u.2 0))))])) (va_A [(ta, .inl (cy 0, 12000, .inl tf))] sz)) 0 0 (va_A [(ta, .inl (cy 0, 12000, .inl tf))] sz) := by
  refine k_ofW (y := yJ7_fill_53178) (cc := cJ7_fill_53178) (maxL := 4) (ret := none) (av := [.ref ta, .int v0]) (ws := [(ta, .inl (cy 0, 12000, .inl tf))]) (Qc := fun A => (va_Qv (fun (u : (Nat → Int32) × (Nat → Nat → Int32)) => (rowR 12000 L0 (U0) ((u.2 0)))) (kB D A (fun (u : (Nat → Int32) × (Nat → Nat → Int32)) => [(ta, .inl (cy 0, 12000, .inl ((u.2 0))))])) A)) (by decide) (Nat.le_of_ble_eq_true rfl) ?_
  intro p e s m below meth c ls A E hA hP hD hG hS hl
  obtain ⟨Q0, hQ0⟩ : ∃ Q0 : State → Prop, Q0 = MQ below (va_Qv (fun (u : (Nat → Int32) × (Nat → Nat → Int32)) => (rowR 12000 L0 (U0) ((u.2 0)))) (kB D A (fun (u : (Nat → Int32) × (Nat → Nat → Int32)) => [(ta, .inl (cy 0, 12000, .inl ((u.2 0))))])) A) ([.ref ta, .int v0] : List Value).toArray s 0 0 A := ⟨_, rfl⟩
  rw [← hQ0]
  obtain ⟨hx, hb, hml, hown, hts, hr, hlk, hnm⟩ := id E
  have hown : s.vm.findClass RJ7 = some m.cls := hown
  have hl : lv_has ls 4 [(0, .ref ta), (1, .int v0)] := hl
  have g_v0 := k_rng v0
  obtain ⟨H, hH⟩ : ∃ H, H = s.heap := ⟨_, rfl⟩
  have hP : va_P D vwCl [(ta, .inl (cy 0, 12000, .inl tf))] H := by rw [hH]; exact hP
  have hS : va_S A s.heap H [] := by rw [hH]; exact va_S.rf
  rw [← hH]
  clear hH
  obtain ⟨locs, hlocs⟩ : ∃ locs : List Loc, locs = [] := ⟨_, rfl⟩
  rw [← hlocs] at hS ⊢
  refine lv_iconst (v := 0) hx hb dJ7_fill_53178_0 (by decide) ?_
  refine lv_istore_n (lv' := [(2, .int 0), (0, .ref ta), (1, .int v0)]) hx hb dJ7_fill_53178_1 rfl hl (by decide) rfl (fun ls hl => ?_)
  refine lv_aload_n hx hb dJ7_fill_53178_2 rfl (lv_at hl 1 rfl) ?_
  refine va_alen (v := 12000) hx hb hG.1 hP 0 0 rfl rfl rfl dJ7_fill_53178_3 ?_
  refine lv_istore_n (lv' := [(3, .int 12000), (2, .int 0), (0, .ref ta), (1, .int v0)]) hx hb dJ7_fill_53178_4 rfl hl (by decide) rfl (fun ls hl => ?_)
  have k1q : ∀ (n : Nat) (k1qy2 : Int32) (k1qtf_e : Nat → Int32) (H : Heap) (locs : List Loc) (ls : Array Slot), 0 ≤ k1qy2.toInt ∧ k1qy2.toInt ≤ 12000 → rowR (k1qy2.toInt).toNat L0 (U0) k1qtf_e → (12000 - k1qy2.toInt).toNat = n → va_P D vwCl [(ta, .inl (cy 0, 12000, .inl k1qtf_e))] H → va_D A [(ta, .inl (cy 0, 12000, .inl k1qtf_e))] → va_S A s.heap H locs → lv_has ls 4 [(3, .int 12000), (2, .int k1qy2), (0, .ref ta), (1, .int v0)] → W p l e ({ frames := 10, cells := 0, slots := 0, locals := 300 }) s m ([.ref ta, .int v0] : List Value).toArray below meth c H locs 0 0 Q0 (F0 m 5 ls []) := by
    intro n
    induction n using Nat.strongRecOn with
    | ind n k1qih =>
      intro k1qy2 k1qtf_e H locs ls hk1qy2 hk1qi0 k1qm hP hD hS hl
      refine lv_iload_n hx hb dJ7_fill_53178_5 rfl (lv_at hl 1 rfl) ?_
      refine lv_iload_n hx hb dJ7_fill_53178_6 rfl (lv_at hl 0 rfl) ?_
      refine lv_icmp_ge (tgt := 20) hx hb dJ7_fill_53178_7 (by decide) (fun c2q => ?_) (fun c2q => ?_)
      · simp only [k_lt, k_le, k_eq, ne_eq, ge_iff_le, gt_iff_lt, n_L12000] at c2q
        have h99 : rowR 12000 L0 (U0) k1qtf_e := rowR_len hk1qi0 (by omega)
        rw [hQ0]
        exact k_vret (fun k => [].getD k 0, fun k => [k1qtf_e].getD k (fun _ => 0)) hx hb hr hlk ((show rowR 12000 L0 (U0) k1qtf_e from h99)) (hP.sub [0] rfl) (hD.sub [0] (by decide) rfl) hS (by decide) (by decide) dJ7_fill_53178_20
      · simp only [k_lt, k_le, k_eq, ne_eq, ge_iff_le, gt_iff_lt, n_L12000] at c2q
        refine lv_aload_n hx hb dJ7_fill_53178_10 rfl (lv_at hl 2 rfl) ?_
        refine lv_iload_n hx hb dJ7_fill_53178_11 rfl (lv_at hl 1 rfl) ?_
        refine lv_iload_n hx hb dJ7_fill_53178_12 rfl (lv_at hl 3 rfl) ?_
        refine va_iast hx hb hG.1 hP hD hS 0 0 rfl rfl (n_in (by omega) (by omega)) dJ7_fill_53178_13 (fun H locs hP hD hS => ?_)
        have hP : va_P D vwCl [(ta, .inl (cy 0, 12000, .inl (upd (k1qtf_e) (k1qy2 : Int32).toNatClampNeg v0)))] H := hP
        have hD : va_D A [(ta, .inl (cy 0, 12000, .inl (upd (k1qtf_e) (k1qy2 : Int32).toNatClampNeg v0)))] := hD
        have hf3q : rowR (k1qy2.toInt.toNat + 1) L0 U0 (upd (k1qtf_e) (k1qy2 : Int32).toNatClampNeg v0) := rowR_fill hk1qi0 hL0 hU0 rfl
        generalize upd (k1qtf_e) (k1qy2 : Int32).toNatClampNeg v0 = f3q at hP hD hf3q
        have hP : va_P D vwCl [(ta, .inl (cy 0, 12000, .inl f3q))] H := hP
        have hD : va_D A [(ta, .inl (cy 0, 12000, .inl f3q))] := hD
        obtain ⟨x4q, ex4q⟩ : ∃ z : Int32, z = k1qy2 + 1 := ⟨_, rfl⟩
        refine lv_iinc (v := x4q) (lv' := [(2, .int x4q), (3, .int 12000), (0, .ref ta), (1, .int v0)]) hx hb dJ7_fill_53178_14 hl (k := 1) rfl (by rw [ex4q]; rfl) (by decide) rfl (fun ls hl => ?_)
        have rx4q := n_add ex4q (a := k1qy2.toInt) (b := 1) rfl n_L1 (by omega) (by omega)
        refine lv_goto (tgt := 5) hx hb dJ7_fill_53178_17 (by decide) ?_
        exact k1qih ((12000 - x4q.toInt).toNat) (by omega) x4q f3q H locs ls ⟨by omega, by omega⟩ (rowR_len hf3q (by omega)) rfl hP hD hS (lv_sub hl [1, 0, 2, 3] rfl)
  exact k1q _ 0 tf H locs ls ⟨by rw [n_L0]; omega, by rw [n_L0]; omega⟩ (rowR_nil (by (try simp only [n_L0]); omega)) rfl hP hD hS (lv_sub hl [0, 1, 2, 3] rfl)

set_option maxHeartbeats 4000000 in
set_option maxRecDepth 100000 in
/-- Arrays.rangeCheck -/
theorem c_rangeCheck (l : Launch) (hl0 : l.stackTraces = false) (D : va_G) (cy : Nat → ClassId) (sa : Nat → Nat) (n0 f0 t0 : Int32) (hr0 : 0 ≤ f0.toInt) (hr1 : f0.toInt ≤ t0.toInt) (hr2 : t0.toInt ≤ n0.toInt) (sz : Nat) : Met l yJ7_rangeCheck_23922 (Cond.code yJ7_rangeCheck_23922 cJ7_rangeCheck_23922 3 none :: kWS) ({ frames := 10, cells := 0, slots := 0, locals := 300 }) (kPre D cy sa [.int n0, .int f0, .int t0] [] sz) (va_Qv (fun (u : Unit) => True) (kB D (va_A [] sz) (fun (u : Unit) => [])) (va_A [] sz)) 0 0 (va_A [] sz) := by
  refine k_ofW (y := yJ7_rangeCheck_23922) (cc := cJ7_rangeCheck_23922) (maxL := 3) (ret := none) (av := [.int n0, .int f0, .int t0]) (ws := []) (Qc := fun A => (va_Qv (fun (u : Unit) => True) (kB D A (fun (u : Unit) => [])) A)) (by decide) (Nat.le_of_ble_eq_true rfl) ?_
  intro p e s m below meth c ls A E hA hP hD hG hS hl
  obtain ⟨Q0, hQ0⟩ : ∃ Q0 : State → Prop, Q0 = MQ below (va_Qv (fun (u : Unit) => True) (kB D A (fun (u : Unit) => [])) A) ([.int n0, .int f0, .int t0] : List Value).toArray s 0 0 A := ⟨_, rfl⟩
  rw [← hQ0]
  obtain ⟨hx, hb, hml, hown, hts, hr, hlk, hnm⟩ := id E
  have hown : s.vm.findClass RJ7 = some m.cls := hown
  have hl : lv_has ls 3 [(0, .int n0), (1, .int f0), (2, .int t0)] := hl
  have g_n0 := k_rng n0
  have g_f0 := k_rng f0
  have g_t0 := k_rng t0
  obtain ⟨H, hH⟩ : ∃ H, H = s.heap := ⟨_, rfl⟩
  have hP : va_P D vwCl [] H := by rw [hH]; exact hP
  have hS : va_S A s.heap H [] := by rw [hH]; exact va_S.rf
  rw [← hH]
  clear hH
  obtain ⟨locs, hlocs⟩ : ∃ locs : List Loc, locs = [] := ⟨_, rfl⟩
  rw [← hlocs] at hS ⊢
  refine lv_iload_n hx hb dJ7_rangeCheck_23922_0 rfl (lv_at hl 1 rfl) ?_
  refine lv_iload_n hx hb dJ7_rangeCheck_23922_1 rfl (lv_at hl 2 rfl) ?_
  refine lv_icmp_le (tgt := 46) hx hb dJ7_rangeCheck_23922_2 (by decide) (fun c1q => ?_) (fun c1q => by exfalso; simp only [k_lt, k_le, k_eq, ne_eq, ge_iff_le, gt_iff_lt] at c1q; omega)
  simp only [k_lt, k_le, k_eq, ne_eq, ge_iff_le, gt_iff_lt] at c1q
  refine lv_iload_n hx hb dJ7_rangeCheck_23922_46 rfl (lv_at hl 1 rfl) ?_
  refine lv_if_ge (tgt := 59) hx hb dJ7_rangeCheck_23922_47 (by decide) (fun c2q => ?_) (fun c2q => by exfalso; simp only [k_lt, k_le, k_eq, ne_eq, ge_iff_le, gt_iff_lt, n_L0, n_L0] at c2q; omega)
  simp only [k_lt, k_le, k_eq, ne_eq, ge_iff_le, gt_iff_lt, n_L0, n_L0] at c2q
  refine lv_iload_n hx hb dJ7_rangeCheck_23922_59 rfl (lv_at hl 2 rfl) ?_
  refine lv_iload_n hx hb dJ7_rangeCheck_23922_60 rfl (lv_at hl 0 rfl) ?_
  refine lv_icmp_le (tgt := 73) hx hb dJ7_rangeCheck_23922_61 (by decide) (fun c3q => ?_) (fun c3q => by exfalso; simp only [k_lt, k_le, k_eq, ne_eq, ge_iff_le, gt_iff_lt] at c3q; omega)
  simp only [k_lt, k_le, k_eq, ne_eq, ge_iff_le, gt_iff_lt] at c3q
  rw [hQ0]
  exact k_vret () hx hb hr hlk (trivial) (hP.sub [] rfl) (hD.sub [] (by decide) rfl) hS (by decide) (by decide) dJ7_rangeCheck_23922_73

set_option maxHeartbeats 4000000 in
set_option maxRecDepth 100000 in
/-- Arrays.fill, a part of 2916 -/
theorem c_fillr (l : Launch) (hl0 : l.stackTraces = false) (D : va_G) (cy : Nat → ClassId) (sa : Nat → Nat) (ta : Nat) (f0 t0 v0 : Int32) (tf : Nat → Int32) (h_f0 : 0 ≤ f0.toInt ∧ f0.toInt ≤ 2916) (h_t0 : 0 ≤ t0.toInt ∧ t0.toInt ≤ 2916) (hr1 : f0.toInt ≤ t0.toInt) (sz : Nat) : Met l yJ7_fill_fda19 (Cond.code yJ7_fill_fda19 cJ7_fill_fda19 5 none :: kWS) ({ frames := 11, cells := 0, slots := 0, locals := 360 }) (kPre D cy sa [.ref ta, .int f0, .int t0, .int v0] [(ta, .inl (cy 0, 2916, .inl tf))] sz) (va_Qv (fun (u : (Nat → Int32) × (Nat → Nat → Int32)) => True) (kB D (va_A [(ta, .inl (cy 0, 2916, .inl tf))] sz) (fun (u : (Nat → Int32) × (Nat → Nat → Int32)) => [(ta, .inl (cy 0, 2916, .inl ((u.2 0))))])) (va_A [(ta, .inl (cy 0, 2916, .inl tf))] sz)) 0 0 (va_A [(ta, .inl (cy 0, 2916, .inl tf))] sz) := by
  refine k_ofW (y := yJ7_fill_fda19) (cc := cJ7_fill_fda19) (maxL := 5) (ret := none) (av := [.ref ta, .int f0, .int t0, .int v0]) (ws := [(ta, .inl (cy 0, 2916, .inl tf))]) (Qc := fun A => (va_Qv (fun (u : (Nat → Int32) × (Nat → Nat → Int32)) => True) (kB D A (fun (u : (Nat → Int32) × (Nat → Nat → Int32)) => [(ta, .inl (cy 0, 2916, .inl ((u.2 0))))])) A)) (by decide) (Nat.le_of_ble_eq_true rfl) ?_
  intro p e s m below meth c ls A E hA hP hD hG hS hl
  obtain ⟨Q0, hQ0⟩ : ∃ Q0 : State → Prop, Q0 = MQ below (va_Qv (fun (u : (Nat → Int32) × (Nat → Nat → Int32)) => True) (kB D A (fun (u : (Nat → Int32) × (Nat → Nat → Int32)) => [(ta, .inl (cy 0, 2916, .inl ((u.2 0))))])) A) ([.ref ta, .int f0, .int t0, .int v0] : List Value).toArray s 0 0 A := ⟨_, rfl⟩
  rw [← hQ0]
  obtain ⟨hx, hb, hml, hown, hts, hr, hlk, hnm⟩ := id E
  have hown : s.vm.findClass RJ7 = some m.cls := hown
  have hl : lv_has ls 5 [(0, .ref ta), (1, .int f0), (2, .int t0), (3, .int v0)] := hl
  have g_v0 := k_rng v0
  obtain ⟨H, hH⟩ : ∃ H, H = s.heap := ⟨_, rfl⟩
  have hP : va_P D vwCl [(ta, .inl (cy 0, 2916, .inl tf))] H := by rw [hH]; exact hP
  have hS : va_S A s.heap H [] := by rw [hH]; exact va_S.rf
  rw [← hH]
  clear hH
  obtain ⟨locs, hlocs⟩ : ∃ locs : List Loc, locs = [] := ⟨_, rfl⟩
  rw [← hlocs] at hS ⊢
  refine lv_aload_n hx hb dJ7_fill_fda19_0 rfl (lv_at hl 0 rfl) ?_
  refine va_alen (v := 2916) hx hb hG.1 hP 0 0 rfl rfl rfl dJ7_fill_fda19_1 ?_
  refine lv_iload_n hx hb dJ7_fill_fda19_2 rfl (lv_at hl 1 rfl) ?_
  refine lv_iload_n hx hb dJ7_fill_fda19_3 rfl (lv_at hl 2 rfl) ?_
  refine k_calv [0] (⟨hP, hD, hG, hS, hA, rfl, rfl⟩ : kAt D cy sa A s H _ _ [] []) (wr := [(ta, .inl (cy 0, 2916, .inl tf))]) rfl rfl (by decide) (k_runS (As := [.int 2916, .int f0, .int t0]) (rest := []) E lk_SRJ7_13 (c_rangeCheck l hl0 D cy sa 2916 f0 t0 (by first | omega | (simp only [n_L2916]; omega) | (simp only [n_L2916]; done) | decide) (by first | omega | (simp only [n_L2916]; omega) | (simp only [n_L2916]; done) | decide) (by first | omega | (simp only [n_L2916]; omega) | (simp only [n_L2916]; done) | decide) H.size) (⟨hP, hD, hG, hS, hA, rfl, rfl⟩ : kAt D cy sa A s H _ _ [] []) hl.1 rfl rfl ⟨rfl, rfl, ⟨Nat.le_of_ble_eq_true rfl, Nat.le_of_ble_eq_true rfl⟩, ⟨Nat.le_of_ble_eq_true rfl, Nat.le_of_ble_eq_true rfl⟩, Nat.le_of_ble_eq_true rfl⟩ dJ7_fill_fda19_4) (fun u2q H locs hwu2q hP hD hS => ?_)
  have hP : va_P D vwCl [(ta, .inl (cy 0, 2916, .inl tf))] H := hP
  have hD : va_D A [(ta, .inl (cy 0, 2916, .inl tf))] := hD
  refine lv_iload_n hx hb dJ7_fill_fda19_7 rfl (lv_at hl 1 rfl) ?_
  refine lv_istore (lv' := [(4, .int f0), (0, .ref ta), (1, .int f0), (2, .int t0), (3, .int v0)]) hx hb dJ7_fill_fda19_8 hl (by decide) rfl (fun ls hl => ?_)
  have k3q : ∀ (n : Nat) (k3qy4 : Int32) (k3qtf_e : Nat → Int32) (H : Heap) (locs : List Loc) (ls : Array Slot), 0 ≤ k3qy4.toInt ∧ k3qy4.toInt ≤ 2916 → (2916 - k3qy4.toInt).toNat = n → va_P D vwCl [(ta, .inl (cy 0, 2916, .inl k3qtf_e))] H → va_D A [(ta, .inl (cy 0, 2916, .inl k3qtf_e))] → va_S A s.heap H locs → lv_has ls 5 [(4, .int k3qy4), (0, .ref ta), (1, .int f0), (2, .int t0), (3, .int v0)] → W p l e ({ frames := 11, cells := 0, slots := 0, locals := 360 }) s m ([.ref ta, .int f0, .int t0, .int v0] : List Value).toArray below meth c H locs 0 0 Q0 (F0 m 10 ls []) := by
    intro n
    induction n using Nat.strongRecOn with
    | ind n k3qih =>
      intro k3qy4 k3qtf_e H locs ls hk3qy4 k3qm hP hD hS hl
      refine lv_iload hx hb dJ7_fill_fda19_10 (lv_at hl 0 rfl) ?_
      refine lv_iload_n hx hb dJ7_fill_fda19_12 rfl (lv_at hl 3 rfl) ?_
      refine lv_icmp_ge (tgt := 27) hx hb dJ7_fill_fda19_13 (by decide) (fun c4q => ?_) (fun c4q => ?_)
      · simp only [k_lt, k_le, k_eq, ne_eq, ge_iff_le, gt_iff_lt] at c4q
        rw [hQ0]
        exact k_vret (fun k => [].getD k 0, fun k => [k3qtf_e].getD k (fun _ => 0)) hx hb hr hlk (trivial) (hP.sub [0] rfl) (hD.sub [0] (by decide) rfl) hS (by decide) (by decide) dJ7_fill_fda19_27
      · simp only [k_lt, k_le, k_eq, ne_eq, ge_iff_le, gt_iff_lt] at c4q
        refine lv_aload_n hx hb dJ7_fill_fda19_16 rfl (lv_at hl 1 rfl) ?_
        refine lv_iload hx hb dJ7_fill_fda19_17 (lv_at hl 0 rfl) ?_
        refine lv_iload_n hx hb dJ7_fill_fda19_19 rfl (lv_at hl 4 rfl) ?_
        refine va_iast hx hb hG.1 hP hD hS 0 0 rfl rfl (n_in (by omega) (by omega)) dJ7_fill_fda19_20 (fun H locs hP hD hS => ?_)
        have hP : va_P D vwCl [(ta, .inl (cy 0, 2916, .inl (upd (k3qtf_e) (k3qy4 : Int32).toNatClampNeg v0)))] H := hP
        have hD : va_D A [(ta, .inl (cy 0, 2916, .inl (upd (k3qtf_e) (k3qy4 : Int32).toNatClampNeg v0)))] := hD
        generalize upd (k3qtf_e) (k3qy4 : Int32).toNatClampNeg v0 = f5q at hP hD
        have hP : va_P D vwCl [(ta, .inl (cy 0, 2916, .inl f5q))] H := hP
        have hD : va_D A [(ta, .inl (cy 0, 2916, .inl f5q))] := hD
        obtain ⟨x6q, ex6q⟩ : ∃ z : Int32, z = k3qy4 + 1 := ⟨_, rfl⟩
        refine lv_iinc (v := x6q) (lv' := [(4, .int x6q), (0, .ref ta), (1, .int f0), (2, .int t0), (3, .int v0)]) hx hb dJ7_fill_fda19_21 hl (k := 0) rfl (by rw [ex6q]; rfl) (by decide) rfl (fun ls hl => ?_)
        have rx6q := n_add ex6q (a := k3qy4.toInt) (b := 1) rfl n_L1 (by omega) (by omega)
        refine lv_goto (tgt := 10) hx hb dJ7_fill_fda19_24 (by decide) ?_
        exact k3qih ((2916 - x6q.toInt).toNat) (by omega) x6q f5q H locs ls ⟨by omega, by omega⟩ rfl hP hD hS (lv_sub hl [0, 1, 2, 3, 4] rfl)
  exact k3q _ f0 tf H locs ls ⟨by omega, by omega⟩ rfl hP hD hS (lv_sub hl [0, 1, 2, 3, 4] rfl)

set_option maxHeartbeats 4000000 in
set_option maxRecDepth 100000 in
/-- Integer.bitCount -/
theorem c_bitCount (l : Launch) (hl0 : l.stackTraces = false) (D : va_G) (cy : Nat → ClassId) (sa : Nat → Nat) (v0 : Int32)  (sz : Nat) : Met l yJ6_bitCount_0f7a4 (Cond.code yJ6_bitCount_0f7a4 cJ6_bitCount_0f7a4 1 (some .int) :: kWS) ({ frames := 10, cells := 0, slots := 0, locals := 300 }) (kPre D cy sa [.int v0] [] sz) (va_Qi (fun (r : Int32) (u : Unit) => (0 ≤ r.toInt ∧ r.toInt ≤ 63)) (kB D (va_A [] sz) (fun (u : Unit) => [])) (va_A [] sz)) 0 0 (va_A [] sz) := by
  refine k_ofW (y := yJ6_bitCount_0f7a4) (cc := cJ6_bitCount_0f7a4) (maxL := 1) (ret := (some .int)) (av := [.int v0]) (ws := []) (Qc := fun A => (va_Qi (fun (r : Int32) (u : Unit) => (0 ≤ r.toInt ∧ r.toInt ≤ 63)) (kB D A (fun (u : Unit) => [])) A)) (by decide) (Nat.le_of_ble_eq_true rfl) ?_
  intro p e s m below meth c ls A E hA hP hD hG hS hl
  obtain ⟨Q0, hQ0⟩ : ∃ Q0 : State → Prop, Q0 = MQ below (va_Qi (fun (r : Int32) (u : Unit) => (0 ≤ r.toInt ∧ r.toInt ≤ 63)) (kB D A (fun (u : Unit) => [])) A) ([.int v0] : List Value).toArray s 0 0 A := ⟨_, rfl⟩
  rw [← hQ0]
  obtain ⟨hx, hb, hml, hown, hts, hr, hlk, hnm⟩ := id E
  have hown : s.vm.findClass RJ6 = some m.cls := hown
  have hl : lv_has ls 1 [(0, .int v0)] := hl
  have g_v0 := k_rng v0
  obtain ⟨H, hH⟩ : ∃ H, H = s.heap := ⟨_, rfl⟩
  have hP : va_P D vwCl [] H := by rw [hH]; exact hP
  have hS : va_S A s.heap H [] := by rw [hH]; exact va_S.rf
  rw [← hH]
  clear hH
  obtain ⟨locs, hlocs⟩ : ∃ locs : List Loc, locs = [] := ⟨_, rfl⟩
  rw [← hlocs] at hS ⊢
  refine lv_iload_n hx hb dJ6_bitCount_0f7a4_0 rfl (lv_at hl 0 rfl) ?_
  refine lv_iload_n hx hb dJ6_bitCount_0f7a4_1 rfl (lv_at hl 0 rfl) ?_
  refine lv_iconst (v := 1) hx hb dJ6_bitCount_0f7a4_2 (by decide) ?_
  obtain ⟨x1q, ex1q⟩ : ∃ z : Int32, z = ((v0 : Int32).toUInt32 >>> ((1 : Int32).toUInt32 &&& Int32.toUInt32 31)).toInt32 := ⟨_, rfl⟩
  refine lv_iushr (v := x1q) hx hb dJ6_bitCount_0f7a4_3 ex1q.symm ?_
  refine lv_ldcw (v := 1431655765) hx hb hown (hts _ wm_503) dJ6_bitCount_0f7a4_4 ?_
  refine lv_iand hx hb dJ6_bitCount_0f7a4_7 ?_
  refine lv_topi (fun x2q ex2q => ?_)
  have rx2q := n_and ex2q (b := 1431655765) n_L1431655765 (by omega)
  refine lv_isub hx hb dJ6_bitCount_0f7a4_8 ?_
  refine lv_topi (fun x3q ex3q => ?_)
  have gx3q := k_rng v0
  refine lv_istore_n (lv' := [(0, .int x3q)]) hx hb dJ6_bitCount_0f7a4_9 rfl hl (by decide) rfl (fun ls hl => ?_)
  refine lv_iload_n hx hb dJ6_bitCount_0f7a4_10 rfl (lv_at hl 0 rfl) ?_
  refine lv_ldcw (v := 858993459) hx hb hown (hts _ wm_504) dJ6_bitCount_0f7a4_11 ?_
  refine lv_iand hx hb dJ6_bitCount_0f7a4_14 ?_
  refine lv_topi (fun x4q ex4q => ?_)
  have rx4q := n_and ex4q (b := 858993459) n_L858993459 (by omega)
  refine lv_iload_n hx hb dJ6_bitCount_0f7a4_15 rfl (lv_at hl 0 rfl) ?_
  refine lv_iconst (v := 2) hx hb dJ6_bitCount_0f7a4_16 (by decide) ?_
  obtain ⟨x5q, ex5q⟩ : ∃ z : Int32, z = ((x3q : Int32).toUInt32 >>> ((2 : Int32).toUInt32 &&& Int32.toUInt32 31)).toInt32 := ⟨_, rfl⟩
  refine lv_iushr (v := x5q) hx hb dJ6_bitCount_0f7a4_17 ex5q.symm ?_
  refine lv_ldcw (v := 858993459) hx hb hown (hts _ wm_504) dJ6_bitCount_0f7a4_18 ?_
  refine lv_iand hx hb dJ6_bitCount_0f7a4_21 ?_
  refine lv_topi (fun x6q ex6q => ?_)
  have rx6q := n_and ex6q (b := 858993459) n_L858993459 (by omega)
  refine lv_iadd hx hb dJ6_bitCount_0f7a4_22 ?_
  refine lv_topi (fun x7q ex7q => ?_)
  have rx7q := n_add ex7q (a := x4q.toInt) (b := x6q.toInt) rfl rfl (by omega) (by omega)
  refine lv_istore_n (lv' := [(0, .int x7q)]) hx hb dJ6_bitCount_0f7a4_23 rfl hl (by decide) rfl (fun ls hl => ?_)
  refine lv_iload_n hx hb dJ6_bitCount_0f7a4_24 rfl (lv_at hl 0 rfl) ?_
  refine lv_iload_n hx hb dJ6_bitCount_0f7a4_25 rfl (lv_at hl 0 rfl) ?_
  refine lv_iconst (v := 4) hx hb dJ6_bitCount_0f7a4_26 (by decide) ?_
  obtain ⟨x8q, ex8q⟩ : ∃ z : Int32, z = ((x7q : Int32).toUInt32 >>> ((4 : Int32).toUInt32 &&& Int32.toUInt32 31)).toInt32 := ⟨_, rfl⟩
  refine lv_iushr (v := x8q) hx hb dJ6_bitCount_0f7a4_27 ex8q.symm ?_
  refine lv_iadd hx hb dJ6_bitCount_0f7a4_28 ?_
  refine lv_topi (fun x9q ex9q => ?_)
  have gx9q := k_rng x8q
  refine lv_ldcw (v := 252645135) hx hb hown (hts _ wm_505) dJ6_bitCount_0f7a4_29 ?_
  refine lv_iand hx hb dJ6_bitCount_0f7a4_32 ?_
  refine lv_topi (fun x10q ex10q => ?_)
  have rx10q := n_and ex10q (b := 252645135) n_L252645135 (by omega)
  refine lv_istore_n (lv' := [(0, .int x10q)]) hx hb dJ6_bitCount_0f7a4_33 rfl hl (by decide) rfl (fun ls hl => ?_)
  refine lv_iload_n hx hb dJ6_bitCount_0f7a4_34 rfl (lv_at hl 0 rfl) ?_
  refine lv_iload_n hx hb dJ6_bitCount_0f7a4_35 rfl (lv_at hl 0 rfl) ?_
  refine lv_bipush (v := 8) hx hb dJ6_bitCount_0f7a4_36 (by decide) ?_
  obtain ⟨x11q, ex11q⟩ : ∃ z : Int32, z = ((x10q : Int32).toUInt32 >>> ((8 : Int32).toUInt32 &&& Int32.toUInt32 31)).toInt32 := ⟨_, rfl⟩
  refine lv_iushr (v := x11q) hx hb dJ6_bitCount_0f7a4_38 ex11q.symm ?_
  refine lv_iadd hx hb dJ6_bitCount_0f7a4_39 ?_
  refine lv_topi (fun x12q ex12q => ?_)
  have gx12q := k_rng x11q
  refine lv_istore_n (lv' := [(0, .int x12q)]) hx hb dJ6_bitCount_0f7a4_40 rfl hl (by decide) rfl (fun ls hl => ?_)
  refine lv_iload_n hx hb dJ6_bitCount_0f7a4_41 rfl (lv_at hl 0 rfl) ?_
  refine lv_iload_n hx hb dJ6_bitCount_0f7a4_42 rfl (lv_at hl 0 rfl) ?_
  refine lv_bipush (v := 16) hx hb dJ6_bitCount_0f7a4_43 (by decide) ?_
  obtain ⟨x13q, ex13q⟩ : ∃ z : Int32, z = ((x12q : Int32).toUInt32 >>> ((16 : Int32).toUInt32 &&& Int32.toUInt32 31)).toInt32 := ⟨_, rfl⟩
  refine lv_iushr (v := x13q) hx hb dJ6_bitCount_0f7a4_45 ex13q.symm ?_
  refine lv_iadd hx hb dJ6_bitCount_0f7a4_46 ?_
  refine lv_topi (fun x14q ex14q => ?_)
  have gx14q := k_rng x12q
  have gx14q := k_rng x13q
  refine lv_istore_n (lv' := [(0, .int x14q)]) hx hb dJ6_bitCount_0f7a4_47 rfl hl (by decide) rfl (fun ls hl => ?_)
  refine lv_iload_n hx hb dJ6_bitCount_0f7a4_48 rfl (lv_at hl 0 rfl) ?_
  refine lv_bipush (v := 63) hx hb dJ6_bitCount_0f7a4_49 (by decide) ?_
  refine lv_iand hx hb dJ6_bitCount_0f7a4_51 ?_
  refine lv_topi (fun x15q ex15q => ?_)
  have rx15q := n_and ex15q (b := 63) n_L63 (by omega)
  rw [hQ0]
  exact k_iret () hx hb hr hlk ((show 0 ≤ x15q.toInt ∧ x15q.toInt ≤ 63 by omega)) (hP.sub [] rfl) (hD.sub [] (by decide) rfl) hS (by decide) (by decide) dJ6_bitCount_0f7a4_52

set_option maxHeartbeats 4000000 in
set_option maxRecDepth 100000 in
/-- House.begin -/
theorem c_hbegin (l : Launch) (hl0 : l.stackTraces = false) (D : va_G) (cy : Nat → ClassId) (sa : Nat → Nat) (ha ha_x ha_y ha_holds ha_needs ha_harm ha_worth ha_joint ha_habit ha_sleepsFrom ha_sleepsTo ha_criesDrifted ha_criesElse : Nat) (h_bodies h_joints h_breath h_stride h_day : Int32) (h_h_bodies : 0 ≤ h_bodies.toInt ∧ h_bodies.toInt ≤ 9) (h_h_breath : 0 ≤ h_breath.toInt ∧ h_breath.toInt ≤ 9) (h_h_day : 0 ≤ h_day.toInt ∧ h_day.toInt ≤ 480) (sz : Nat) : Met l yX2_begin (Cond.code yX2_begin cX2_begin 1 none :: kWS) ({ frames := 10, cells := 0, slots := 0, locals := 300 }) (kPre D cy sa [.ref ha] [(ha, .inr (4, [.ref ha_x, .ref ha_y, .ref ha_holds, .ref ha_needs, .ref ha_harm, .ref ha_worth, .ref ha_joint, .ref ha_habit, .ref ha_sleepsFrom, .ref ha_sleepsTo, .ref ha_criesDrifted, .ref ha_criesElse, .int h_bodies, .int h_joints, .int h_breath, .int h_stride, .int h_day]))] sz) (va_Qv (fun (u : (Nat → Int32) × (Nat → Nat → Int32)) => (0 ≤ ((u.1 0)).toInt ∧ ((u.1 0)).toInt ≤ 9) ∧ (0 ≤ ((u.1 2)).toInt ∧ ((u.1 2)).toInt ≤ 9) ∧ (0 ≤ ((u.1 4)).toInt ∧ ((u.1 4)).toInt ≤ 480)) (kB D (va_A [(ha, .inr (4, [.ref ha_x, .ref ha_y, .ref ha_holds, .ref ha_needs, .ref ha_harm, .ref ha_worth, .ref ha_joint, .ref ha_habit, .ref ha_sleepsFrom, .ref ha_sleepsTo, .ref ha_criesDrifted, .ref ha_criesElse, .int h_bodies, .int h_joints, .int h_breath, .int h_stride, .int h_day]))] sz) (fun (u : (Nat → Int32) × (Nat → Nat → Int32)) => [(ha, .inr (4, [.ref ha_x, .ref ha_y, .ref ha_holds, .ref ha_needs, .ref ha_harm, .ref ha_worth, .ref ha_joint, .ref ha_habit, .ref ha_sleepsFrom, .ref ha_sleepsTo, .ref ha_criesDrifted, .ref ha_criesElse, .int ((u.1 0)), .int ((u.1 1)), .int ((u.1 2)), .int ((u.1 3)), .int ((u.1 4))]))])) (va_A [(ha, .inr (4, [.ref ha_x, .ref ha_y, .ref ha_holds, .ref ha_needs, .ref ha_harm, .ref ha_worth, .ref ha_joint, .ref ha_habit, .ref ha_sleepsFrom, .ref ha_sleepsTo, .ref ha_criesDrifted, .ref ha_criesElse, .int h_bodies, .int h_joints, .int h_breath, .int h_stride, .int h_day]))] sz)) 0 0 (va_A [(ha, .inr (4, [.ref ha_x, .ref ha_y, .ref ha_holds, .ref ha_needs, .ref ha_harm, .ref ha_worth, .ref ha_joint, .ref ha_habit, .ref ha_sleepsFrom, .ref ha_sleepsTo, .ref ha_criesDrifted, .ref ha_criesElse, .int h_bodies, .int h_joints, .int h_breath, .int h_stride, .int h_day]))] sz) := by
  refine k_ofW (y := yX2_begin) (cc := cX2_begin) (maxL := 1) (ret := none) (av := [.ref ha]) (ws := [(ha, .inr (4, [.ref ha_x, .ref ha_y, .ref ha_holds, .ref ha_needs, .ref ha_harm, .ref ha_worth, .ref ha_joint, .ref ha_habit, .ref ha_sleepsFrom, .ref ha_sleepsTo, .ref ha_criesDrifted, .ref ha_criesElse, .int h_bodies, .int h_joints, .int h_breath, .int h_stride, .int h_day]))]) (Qc := fun A => (va_Qv (fun (u : (Nat → Int32) × (Nat → Nat → Int32)) => (0 ≤ ((u.1 0)).toInt ∧ ((u.1 0)).toInt ≤ 9) ∧ (0 ≤ ((u.1 2)).toInt ∧ ((u.1 2)).toInt ≤ 9) ∧ (0 ≤ ((u.1 4)).toInt ∧ ((u.1 4)).toInt ≤ 480)) (kB D A (fun (u : (Nat → Int32) × (Nat → Nat → Int32)) => [(ha, .inr (4, [.ref ha_x, .ref ha_y, .ref ha_holds, .ref ha_needs, .ref ha_harm, .ref ha_worth, .ref ha_joint, .ref ha_habit, .ref ha_sleepsFrom, .ref ha_sleepsTo, .ref ha_criesDrifted, .ref ha_criesElse, .int ((u.1 0)), .int ((u.1 1)), .int ((u.1 2)), .int ((u.1 3)), .int ((u.1 4))]))])) A)) (by decide) (Nat.le_of_ble_eq_true rfl) ?_
  intro p e s m below meth c ls A E hA hP hD hG hS hl
  obtain ⟨Q0, hQ0⟩ : ∃ Q0 : State → Prop, Q0 = MQ below (va_Qv (fun (u : (Nat → Int32) × (Nat → Nat → Int32)) => (0 ≤ ((u.1 0)).toInt ∧ ((u.1 0)).toInt ≤ 9) ∧ (0 ≤ ((u.1 2)).toInt ∧ ((u.1 2)).toInt ≤ 9) ∧ (0 ≤ ((u.1 4)).toInt ∧ ((u.1 4)).toInt ≤ 480)) (kB D A (fun (u : (Nat → Int32) × (Nat → Nat → Int32)) => [(ha, .inr (4, [.ref ha_x, .ref ha_y, .ref ha_holds, .ref ha_needs, .ref ha_harm, .ref ha_worth, .ref ha_joint, .ref ha_habit, .ref ha_sleepsFrom, .ref ha_sleepsTo, .ref ha_criesDrifted, .ref ha_criesElse, .int ((u.1 0)), .int ((u.1 1)), .int ((u.1 2)), .int ((u.1 3)), .int ((u.1 4))]))])) A) ([.ref ha] : List Value).toArray s 0 0 A := ⟨_, rfl⟩
  rw [← hQ0]
  obtain ⟨hx, hb, hml, hown, hts, hr, hlk, hnm⟩ := id E
  have hown : s.vm.findClass RX2 = some m.cls := hown
  have hl : lv_has ls 1 [(0, .ref ha)] := hl
  obtain ⟨H, hH⟩ : ∃ H, H = s.heap := ⟨_, rfl⟩
  have hP : va_P D vwCl [(ha, .inr (4, [.ref ha_x, .ref ha_y, .ref ha_holds, .ref ha_needs, .ref ha_harm, .ref ha_worth, .ref ha_joint, .ref ha_habit, .ref ha_sleepsFrom, .ref ha_sleepsTo, .ref ha_criesDrifted, .ref ha_criesElse, .int h_bodies, .int h_joints, .int h_breath, .int h_stride, .int h_day]))] H := by rw [hH]; exact hP
  have hS : va_S A s.heap H [] := by rw [hH]; exact va_S.rf
  rw [← hH]
  clear hH
  obtain ⟨locs, hlocs⟩ : ∃ locs : List Loc, locs = [] := ⟨_, rfl⟩
  rw [← hlocs] at hS ⊢
  refine lv_aload_n hx hb dX2_begin_0 rfl (lv_at hl 0 rfl) ?_
  refine lv_iconst (v := 0) hx hb dX2_begin_1 (by decide) ?_
  refine va_put (D := D) (ci := 4) (v := .int 0) (ty := .int) (C := RX2) (T := TX2) (N := 17) hx hb hts kin_RX2 tyX2 tyX2_ok nmX2 hown hG.1 hP hD hS 0 rfl rfl 12 (by decide) (hts _ wm_117) (fun _ h9 => h9) rfl (by decide +kernel) rfl rfl (Nat.le_of_ble_eq_true rfl) dX2_begin_2 (fun H locs hP hD hS => ?_)
  have hP : va_P D vwCl [(ha, .inr (4, [.ref ha_x, .ref ha_y, .ref ha_holds, .ref ha_needs, .ref ha_harm, .ref ha_worth, .ref ha_joint, .ref ha_habit, .ref ha_sleepsFrom, .ref ha_sleepsTo, .ref ha_criesDrifted, .ref ha_criesElse, .int 0, .int h_joints, .int h_breath, .int h_stride, .int h_day]))] H := hP
  have hD : va_D A [(ha, .inr (4, [.ref ha_x, .ref ha_y, .ref ha_holds, .ref ha_needs, .ref ha_harm, .ref ha_worth, .ref ha_joint, .ref ha_habit, .ref ha_sleepsFrom, .ref ha_sleepsTo, .ref ha_criesDrifted, .ref ha_criesElse, .int 0, .int h_joints, .int h_breath, .int h_stride, .int h_day]))] := hD
  refine lv_aload_n hx hb dX2_begin_5 rfl (lv_at hl 0 rfl) ?_
  refine lv_iconst (v := 0) hx hb dX2_begin_6 (by decide) ?_
  refine va_put (D := D) (ci := 4) (v := .int 0) (ty := .int) (C := RX2) (T := TX2) (N := 17) hx hb hts kin_RX2 tyX2 tyX2_ok nmX2 hown hG.1 hP hD hS 0 rfl rfl 13 (by decide) (hts _ wm_124) (fun _ h9 => h9) rfl (by decide +kernel) rfl rfl (Nat.le_of_ble_eq_true rfl) dX2_begin_7 (fun H locs hP hD hS => ?_)
  have hP : va_P D vwCl [(ha, .inr (4, [.ref ha_x, .ref ha_y, .ref ha_holds, .ref ha_needs, .ref ha_harm, .ref ha_worth, .ref ha_joint, .ref ha_habit, .ref ha_sleepsFrom, .ref ha_sleepsTo, .ref ha_criesDrifted, .ref ha_criesElse, .int 0, .int 0, .int h_breath, .int h_stride, .int h_day]))] H := hP
  have hD : va_D A [(ha, .inr (4, [.ref ha_x, .ref ha_y, .ref ha_holds, .ref ha_needs, .ref ha_harm, .ref ha_worth, .ref ha_joint, .ref ha_habit, .ref ha_sleepsFrom, .ref ha_sleepsTo, .ref ha_criesDrifted, .ref ha_criesElse, .int 0, .int 0, .int h_breath, .int h_stride, .int h_day]))] := hD
  refine lv_aload_n hx hb dX2_begin_10 rfl (lv_at hl 0 rfl) ?_
  refine lv_iconst (v := 1) hx hb dX2_begin_11 (by decide) ?_
  refine va_put (D := D) (ci := 4) (v := .int 1) (ty := .int) (C := RX2) (T := TX2) (N := 17) hx hb hts kin_RX2 tyX2 tyX2_ok nmX2 hown hG.1 hP hD hS 0 rfl rfl 14 (by decide) (hts _ wm_126) (fun _ h9 => h9) rfl (by decide +kernel) rfl rfl (Nat.le_of_ble_eq_true rfl) dX2_begin_12 (fun H locs hP hD hS => ?_)
  have hP : va_P D vwCl [(ha, .inr (4, [.ref ha_x, .ref ha_y, .ref ha_holds, .ref ha_needs, .ref ha_harm, .ref ha_worth, .ref ha_joint, .ref ha_habit, .ref ha_sleepsFrom, .ref ha_sleepsTo, .ref ha_criesDrifted, .ref ha_criesElse, .int 0, .int 0, .int 1, .int h_stride, .int h_day]))] H := hP
  have hD : va_D A [(ha, .inr (4, [.ref ha_x, .ref ha_y, .ref ha_holds, .ref ha_needs, .ref ha_harm, .ref ha_worth, .ref ha_joint, .ref ha_habit, .ref ha_sleepsFrom, .ref ha_sleepsTo, .ref ha_criesDrifted, .ref ha_criesElse, .int 0, .int 0, .int 1, .int h_stride, .int h_day]))] := hD
  refine lv_aload_n hx hb dX2_begin_15 rfl (lv_at hl 0 rfl) ?_
  refine lv_bipush (v := 10) hx hb dX2_begin_16 (by decide) ?_
  refine va_put (D := D) (ci := 4) (v := .int 10) (ty := .int) (C := RX2) (T := TX2) (N := 17) hx hb hts kin_RX2 tyX2 tyX2_ok nmX2 hown hG.1 hP hD hS 0 rfl rfl 15 (by decide) (hts _ wm_129) (fun _ h9 => h9) rfl (by decide +kernel) rfl rfl (Nat.le_of_ble_eq_true rfl) dX2_begin_18 (fun H locs hP hD hS => ?_)
  have hP : va_P D vwCl [(ha, .inr (4, [.ref ha_x, .ref ha_y, .ref ha_holds, .ref ha_needs, .ref ha_harm, .ref ha_worth, .ref ha_joint, .ref ha_habit, .ref ha_sleepsFrom, .ref ha_sleepsTo, .ref ha_criesDrifted, .ref ha_criesElse, .int 0, .int 0, .int 1, .int 10, .int h_day]))] H := hP
  have hD : va_D A [(ha, .inr (4, [.ref ha_x, .ref ha_y, .ref ha_holds, .ref ha_needs, .ref ha_harm, .ref ha_worth, .ref ha_joint, .ref ha_habit, .ref ha_sleepsFrom, .ref ha_sleepsTo, .ref ha_criesDrifted, .ref ha_criesElse, .int 0, .int 0, .int 1, .int 10, .int h_day]))] := hD
  refine lv_aload_n hx hb dX2_begin_21 rfl (lv_at hl 0 rfl) ?_
  refine lv_sipush (v := 480) hx hb dX2_begin_22 (by decide) ?_
  refine va_put (D := D) (ci := 4) (v := .int 480) (ty := .int) (C := RX2) (T := TX2) (N := 17) hx hb hts kin_RX2 tyX2 tyX2_ok nmX2 hown hG.1 hP hD hS 0 rfl rfl 16 (by decide) (hts _ wm_132) (fun _ h9 => h9) rfl (by decide +kernel) rfl rfl (Nat.le_of_ble_eq_true rfl) dX2_begin_25 (fun H locs hP hD hS => ?_)
  have hP : va_P D vwCl [(ha, .inr (4, [.ref ha_x, .ref ha_y, .ref ha_holds, .ref ha_needs, .ref ha_harm, .ref ha_worth, .ref ha_joint, .ref ha_habit, .ref ha_sleepsFrom, .ref ha_sleepsTo, .ref ha_criesDrifted, .ref ha_criesElse, .int 0, .int 0, .int 1, .int 10, .int 480]))] H := hP
  have hD : va_D A [(ha, .inr (4, [.ref ha_x, .ref ha_y, .ref ha_holds, .ref ha_needs, .ref ha_harm, .ref ha_worth, .ref ha_joint, .ref ha_habit, .ref ha_sleepsFrom, .ref ha_sleepsTo, .ref ha_criesDrifted, .ref ha_criesElse, .int 0, .int 0, .int 1, .int 10, .int 480]))] := hD
  rw [hQ0]
  exact k_vret (fun k => [0, 0, 1, 10, 480].getD k 0, fun k => [].getD k (fun _ => 0)) hx hb hr hlk (⟨(show 0 ≤ (0 : Int32).toInt ∧ (0 : Int32).toInt ≤ 9 by decide), (show 0 ≤ (1 : Int32).toInt ∧ (1 : Int32).toInt ≤ 9 by decide), (show 0 ≤ (480 : Int32).toInt ∧ (480 : Int32).toInt ≤ 480 by decide)⟩) (hP.sub [0] rfl) (hD.sub [0] (by decide) rfl) hS (by decide) (by decide) dX2_begin_28

set_option maxHeartbeats 4000000 in
set_option maxRecDepth 100000 in
/-- Moment.begin -/
theorem c_mbegin (l : Launch) (hl0 : l.stackTraces = false) (D : va_G) (cy : Nat → ClassId) (sa : Nat → Nat) (ma ma_without ma_did : Nat) (m_now m_mind m_way m_done m_abed m_harm m_worth m_passes : Int32) (mf_without mf_did : Nat → Int32) (h_m_now : 0 ≤ m_now.toInt ∧ m_now.toInt ≤ 480) (h_m_mind : -1 ≤ m_mind.toInt ∧ m_mind.toInt ≤ 8) (h_mf_did : rowR 9 0 (9 * m_now.toInt + 240) mf_did) (sz : Nat) : Met l yX5_begin (Cond.code yX5_begin cX5_begin 1 none :: kWS) ({ frames := 11, cells := 0, slots := 0, locals := 360 }) (kPre D cy sa [.ref ma] [(ma, .inr (7, [.ref ma_without, .ref ma_did, .int m_now, .int m_mind, .int m_way, .int m_done, .int m_abed, .int m_harm, .int m_worth, .int m_passes])), (ma_without, .inl (cy 0, 9, .inl mf_without)), (ma_did, .inl (cy 0, 9, .inl mf_did))] sz) (va_Qv (fun (u : (Nat → Int32) × (Nat → Nat → Int32)) => (0 ≤ ((u.1 0)).toInt ∧ ((u.1 0)).toInt ≤ 480) ∧ (-1 ≤ ((u.1 1)).toInt ∧ ((u.1 1)).toInt ≤ 8) ∧ (rowR 9 0 (9 * ((u.1 0)).toInt + 240) ((u.2 1)))) (kB D (va_A [(ma, .inr (7, [.ref ma_without, .ref ma_did, .int m_now, .int m_mind, .int m_way, .int m_done, .int m_abed, .int m_harm, .int m_worth, .int m_passes])), (ma_without, .inl (cy 0, 9, .inl mf_without)), (ma_did, .inl (cy 0, 9, .inl mf_did))] sz) (fun (u : (Nat → Int32) × (Nat → Nat → Int32)) => [(ma, .inr (7, [.ref ma_without, .ref ma_did, .int ((u.1 0)), .int ((u.1 1)), .int ((u.1 2)), .int ((u.1 3)), .int ((u.1 4)), .int ((u.1 5)), .int ((u.1 6)), .int ((u.1 7))])), (ma_without, .inl (cy 0, 9, .inl ((u.2 0)))), (ma_did, .inl (cy 0, 9, .inl ((u.2 1))))])) (va_A [(ma, .inr (7, [.ref ma_without, .ref ma_did, .int m_now, .int m_mind, .int m_way, .int m_done, .int m_abed, .int m_harm, .int m_worth, .int m_passes])), (ma_without, .inl (cy 0, 9, .inl mf_without)), (ma_did, .inl (cy 0, 9, .inl mf_did))] sz)) 0 0 (va_A [(ma, .inr (7, [.ref ma_without, .ref ma_did, .int m_now, .int m_mind, .int m_way, .int m_done, .int m_abed, .int m_harm, .int m_worth, .int m_passes])), (ma_without, .inl (cy 0, 9, .inl mf_without)), (ma_did, .inl (cy 0, 9, .inl mf_did))] sz) := by
  refine k_ofW (y := yX5_begin) (cc := cX5_begin) (maxL := 1) (ret := none) (av := [.ref ma]) (ws := [(ma, .inr (7, [.ref ma_without, .ref ma_did, .int m_now, .int m_mind, .int m_way, .int m_done, .int m_abed, .int m_harm, .int m_worth, .int m_passes])), (ma_without, .inl (cy 0, 9, .inl mf_without)), (ma_did, .inl (cy 0, 9, .inl mf_did))]) (Qc := fun A => (va_Qv (fun (u : (Nat → Int32) × (Nat → Nat → Int32)) => (0 ≤ ((u.1 0)).toInt ∧ ((u.1 0)).toInt ≤ 480) ∧ (-1 ≤ ((u.1 1)).toInt ∧ ((u.1 1)).toInt ≤ 8) ∧ (rowR 9 0 (9 * ((u.1 0)).toInt + 240) ((u.2 1)))) (kB D A (fun (u : (Nat → Int32) × (Nat → Nat → Int32)) => [(ma, .inr (7, [.ref ma_without, .ref ma_did, .int ((u.1 0)), .int ((u.1 1)), .int ((u.1 2)), .int ((u.1 3)), .int ((u.1 4)), .int ((u.1 5)), .int ((u.1 6)), .int ((u.1 7))])), (ma_without, .inl (cy 0, 9, .inl ((u.2 0)))), (ma_did, .inl (cy 0, 9, .inl ((u.2 1))))])) A)) (by decide) (Nat.le_of_ble_eq_true rfl) ?_
  intro p e s m below meth c ls A E hA hP hD hG hS hl
  obtain ⟨Q0, hQ0⟩ : ∃ Q0 : State → Prop, Q0 = MQ below (va_Qv (fun (u : (Nat → Int32) × (Nat → Nat → Int32)) => (0 ≤ ((u.1 0)).toInt ∧ ((u.1 0)).toInt ≤ 480) ∧ (-1 ≤ ((u.1 1)).toInt ∧ ((u.1 1)).toInt ≤ 8) ∧ (rowR 9 0 (9 * ((u.1 0)).toInt + 240) ((u.2 1)))) (kB D A (fun (u : (Nat → Int32) × (Nat → Nat → Int32)) => [(ma, .inr (7, [.ref ma_without, .ref ma_did, .int ((u.1 0)), .int ((u.1 1)), .int ((u.1 2)), .int ((u.1 3)), .int ((u.1 4)), .int ((u.1 5)), .int ((u.1 6)), .int ((u.1 7))])), (ma_without, .inl (cy 0, 9, .inl ((u.2 0)))), (ma_did, .inl (cy 0, 9, .inl ((u.2 1))))])) A) ([.ref ma] : List Value).toArray s 0 0 A := ⟨_, rfl⟩
  rw [← hQ0]
  obtain ⟨hx, hb, hml, hown, hts, hr, hlk, hnm⟩ := id E
  have hown : s.vm.findClass RX5 = some m.cls := hown
  have hl : lv_has ls 1 [(0, .ref ma)] := hl
  obtain ⟨H, hH⟩ : ∃ H, H = s.heap := ⟨_, rfl⟩
  have hP : va_P D vwCl [(ma, .inr (7, [.ref ma_without, .ref ma_did, .int m_now, .int m_mind, .int m_way, .int m_done, .int m_abed, .int m_harm, .int m_worth, .int m_passes])), (ma_without, .inl (cy 0, 9, .inl mf_without)), (ma_did, .inl (cy 0, 9, .inl mf_did))] H := by rw [hH]; exact hP
  have hS : va_S A s.heap H [] := by rw [hH]; exact va_S.rf
  rw [← hH]
  clear hH
  obtain ⟨locs, hlocs⟩ : ∃ locs : List Loc, locs = [] := ⟨_, rfl⟩
  rw [← hlocs] at hS ⊢
  refine lv_aload_n hx hb dX5_begin_0 rfl (lv_at hl 0 rfl) ?_
  refine va_get (D := D) (ci := 7) (v := .ref ma_without) (C := RX5) (T := TX5) (N := 10) hx hb hts kin_RX5 hown hG.1 hP 0 rfl rfl 0 (by decide) (hts _ wm_179) (fun _ h9 => h9) rfl dX5_begin_1 ?_
  refine lv_iconst (v := 0) hx hb dX5_begin_4 (by decide) ?_
  refine k_calv [0, 2] (⟨hP, hD, hG, hS, hA, rfl, rfl⟩ : kAt D cy sa A s H _ _ [(ma_without, .inl (cy 0, 9, .inl mf_without))] [1]) (wr := [(ma, .inr (7, [.ref ma_without, .ref ma_did, .int m_now, .int m_mind, .int m_way, .int m_done, .int m_abed, .int m_harm, .int m_worth, .int m_passes])), (ma_did, .inl (cy 0, 9, .inl mf_did))]) rfl rfl (by decide) (k_runS (As := [.ref ma_without, .int 0]) (rest := []) E lk_SRX5_43 (c_fill_9 l hl0 D cy sa ma_without 0 mf_without (0) (0) (by first | omega | (simp only [n_L0]; omega) | (simp only [n_L0]; done) | decide) (by first | omega | (simp only [n_L0]; omega) | (simp only [n_L0]; done) | decide) H.size) (⟨hP, hD, hG, hS, hA, rfl, rfl⟩ : kAt D cy sa A s H _ _ [(ma_without, .inl (cy 0, 9, .inl mf_without))] [1]) hl.1 rfl rfl ⟨rfl, rfl, ⟨Nat.le_of_ble_eq_true rfl, Nat.le_of_ble_eq_true rfl⟩, ⟨Nat.le_of_ble_eq_true rfl, Nat.le_of_ble_eq_true rfl⟩, Nat.le_of_ble_eq_true rfl⟩ dX5_begin_5) (fun u2q H locs hwu2q hP hD hS => ?_)
  have hP : va_P D vwCl [(ma, .inr (7, [.ref ma_without, .ref ma_did, .int m_now, .int m_mind, .int m_way, .int m_done, .int m_abed, .int m_harm, .int m_worth, .int m_passes])), (ma_did, .inl (cy 0, 9, .inl mf_did)), (ma_without, .inl (cy 0, 9, .inl ((u2q.2 0))))] H := hP
  have hD : va_D A [(ma, .inr (7, [.ref ma_without, .ref ma_did, .int m_now, .int m_mind, .int m_way, .int m_done, .int m_abed, .int m_harm, .int m_worth, .int m_passes])), (ma_did, .inl (cy 0, 9, .inl mf_did)), (ma_without, .inl (cy 0, 9, .inl ((u2q.2 0))))] := hD
  have p3q := hwu2q
  refine lv_aload_n hx hb dX5_begin_8 rfl (lv_at hl 0 rfl) ?_
  refine va_get (D := D) (ci := 7) (v := .ref ma_did) (C := RX5) (T := TX5) (N := 10) hx hb hts kin_RX5 hown hG.1 hP 0 rfl rfl 1 (by decide) (hts _ wm_181) (fun _ h9 => h9) rfl dX5_begin_9 ?_
  refine lv_iconst (v := 0) hx hb dX5_begin_12 (by decide) ?_
  refine k_calv [0, 2] (⟨hP, hD, hG, hS, hA, rfl, rfl⟩ : kAt D cy sa A s H _ _ [(ma_did, .inl (cy 0, 9, .inl mf_did))] [1]) (wr := [(ma, .inr (7, [.ref ma_without, .ref ma_did, .int m_now, .int m_mind, .int m_way, .int m_done, .int m_abed, .int m_harm, .int m_worth, .int m_passes])), (ma_without, .inl (cy 0, 9, .inl ((u2q.2 0))))]) rfl rfl (by decide) (k_runS (As := [.ref ma_did, .int 0]) (rest := []) E lk_SRX5_43 (c_fill_9 l hl0 D cy sa ma_did 0 mf_did (0) (0) (by first | omega | (simp only [n_L0]; omega) | (simp only [n_L0]; done) | decide) (by first | omega | (simp only [n_L0]; omega) | (simp only [n_L0]; done) | decide) H.size) (⟨hP, hD, hG, hS, hA, rfl, rfl⟩ : kAt D cy sa A s H _ _ [(ma_did, .inl (cy 0, 9, .inl mf_did))] [1]) hl.1 rfl rfl ⟨rfl, rfl, ⟨Nat.le_of_ble_eq_true rfl, Nat.le_of_ble_eq_true rfl⟩, ⟨Nat.le_of_ble_eq_true rfl, Nat.le_of_ble_eq_true rfl⟩, Nat.le_of_ble_eq_true rfl⟩ dX5_begin_13) (fun u5q H locs hwu5q hP hD hS => ?_)
  have hP : va_P D vwCl [(ma, .inr (7, [.ref ma_without, .ref ma_did, .int m_now, .int m_mind, .int m_way, .int m_done, .int m_abed, .int m_harm, .int m_worth, .int m_passes])), (ma_without, .inl (cy 0, 9, .inl ((u2q.2 0)))), (ma_did, .inl (cy 0, 9, .inl ((u5q.2 0))))] H := hP
  have hD : va_D A [(ma, .inr (7, [.ref ma_without, .ref ma_did, .int m_now, .int m_mind, .int m_way, .int m_done, .int m_abed, .int m_harm, .int m_worth, .int m_passes])), (ma_without, .inl (cy 0, 9, .inl ((u2q.2 0)))), (ma_did, .inl (cy 0, 9, .inl ((u5q.2 0))))] := hD
  have p6q := hwu5q
  refine lv_aload_n hx hb dX5_begin_16 rfl (lv_at hl 0 rfl) ?_
  refine lv_iconst (v := 0) hx hb dX5_begin_17 (by decide) ?_
  refine va_put (D := D) (ci := 7) (v := .int 0) (ty := .int) (C := RX5) (T := TX5) (N := 10) hx hb hts kin_RX5 tyX5 tyX5_ok nmX5 hown hG.1 hP hD hS 0 rfl rfl 2 (by decide) (hts _ wm_184) (fun _ h9 => h9) rfl (by decide +kernel) rfl rfl (Nat.le_of_ble_eq_true rfl) dX5_begin_18 (fun H locs hP hD hS => ?_)
  have hP : va_P D vwCl [(ma, .inr (7, [.ref ma_without, .ref ma_did, .int 0, .int m_mind, .int m_way, .int m_done, .int m_abed, .int m_harm, .int m_worth, .int m_passes])), (ma_without, .inl (cy 0, 9, .inl ((u2q.2 0)))), (ma_did, .inl (cy 0, 9, .inl ((u5q.2 0))))] H := hP
  have hD : va_D A [(ma, .inr (7, [.ref ma_without, .ref ma_did, .int 0, .int m_mind, .int m_way, .int m_done, .int m_abed, .int m_harm, .int m_worth, .int m_passes])), (ma_without, .inl (cy 0, 9, .inl ((u2q.2 0)))), (ma_did, .inl (cy 0, 9, .inl ((u5q.2 0))))] := hD
  refine lv_aload_n hx hb dX5_begin_21 rfl (lv_at hl 0 rfl) ?_
  refine lv_iconst (v := 0) hx hb dX5_begin_22 (by decide) ?_
  refine va_put (D := D) (ci := 7) (v := .int 0) (ty := .int) (C := RX5) (T := TX5) (N := 10) hx hb hts kin_RX5 tyX5 tyX5_ok nmX5 hown hG.1 hP hD hS 0 rfl rfl 3 (by decide) (hts _ wm_189) (fun _ h9 => h9) rfl (by decide +kernel) rfl rfl (Nat.le_of_ble_eq_true rfl) dX5_begin_23 (fun H locs hP hD hS => ?_)
  have hP : va_P D vwCl [(ma, .inr (7, [.ref ma_without, .ref ma_did, .int 0, .int 0, .int m_way, .int m_done, .int m_abed, .int m_harm, .int m_worth, .int m_passes])), (ma_without, .inl (cy 0, 9, .inl ((u2q.2 0)))), (ma_did, .inl (cy 0, 9, .inl ((u5q.2 0))))] H := hP
  have hD : va_D A [(ma, .inr (7, [.ref ma_without, .ref ma_did, .int 0, .int 0, .int m_way, .int m_done, .int m_abed, .int m_harm, .int m_worth, .int m_passes])), (ma_without, .inl (cy 0, 9, .inl ((u2q.2 0)))), (ma_did, .inl (cy 0, 9, .inl ((u5q.2 0))))] := hD
  refine lv_aload_n hx hb dX5_begin_26 rfl (lv_at hl 0 rfl) ?_
  refine lv_iconst (v := 0) hx hb dX5_begin_27 (by decide) ?_
  refine va_put (D := D) (ci := 7) (v := .int 0) (ty := .int) (C := RX5) (T := TX5) (N := 10) hx hb hts kin_RX5 tyX5 tyX5_ok nmX5 hown hG.1 hP hD hS 0 rfl rfl 4 (by decide) (hts _ wm_194) (fun _ h9 => h9) rfl (by decide +kernel) rfl rfl (Nat.le_of_ble_eq_true rfl) dX5_begin_28 (fun H locs hP hD hS => ?_)
  have hP : va_P D vwCl [(ma, .inr (7, [.ref ma_without, .ref ma_did, .int 0, .int 0, .int 0, .int m_done, .int m_abed, .int m_harm, .int m_worth, .int m_passes])), (ma_without, .inl (cy 0, 9, .inl ((u2q.2 0)))), (ma_did, .inl (cy 0, 9, .inl ((u5q.2 0))))] H := hP
  have hD : va_D A [(ma, .inr (7, [.ref ma_without, .ref ma_did, .int 0, .int 0, .int 0, .int m_done, .int m_abed, .int m_harm, .int m_worth, .int m_passes])), (ma_without, .inl (cy 0, 9, .inl ((u2q.2 0)))), (ma_did, .inl (cy 0, 9, .inl ((u5q.2 0))))] := hD
  refine lv_aload_n hx hb dX5_begin_31 rfl (lv_at hl 0 rfl) ?_
  refine lv_iconst (v := 0) hx hb dX5_begin_32 (by decide) ?_
  refine va_put (D := D) (ci := 7) (v := .int 0) (ty := .int) (C := RX5) (T := TX5) (N := 10) hx hb hts kin_RX5 tyX5 tyX5_ok nmX5 hown hG.1 hP hD hS 0 rfl rfl 5 (by decide) (hts _ wm_199) (fun _ h9 => h9) rfl (by decide +kernel) rfl rfl (Nat.le_of_ble_eq_true rfl) dX5_begin_33 (fun H locs hP hD hS => ?_)
  have hP : va_P D vwCl [(ma, .inr (7, [.ref ma_without, .ref ma_did, .int 0, .int 0, .int 0, .int 0, .int m_abed, .int m_harm, .int m_worth, .int m_passes])), (ma_without, .inl (cy 0, 9, .inl ((u2q.2 0)))), (ma_did, .inl (cy 0, 9, .inl ((u5q.2 0))))] H := hP
  have hD : va_D A [(ma, .inr (7, [.ref ma_without, .ref ma_did, .int 0, .int 0, .int 0, .int 0, .int m_abed, .int m_harm, .int m_worth, .int m_passes])), (ma_without, .inl (cy 0, 9, .inl ((u2q.2 0)))), (ma_did, .inl (cy 0, 9, .inl ((u5q.2 0))))] := hD
  refine lv_aload_n hx hb dX5_begin_36 rfl (lv_at hl 0 rfl) ?_
  refine lv_iconst (v := 0) hx hb dX5_begin_37 (by decide) ?_
  refine va_put (D := D) (ci := 7) (v := .int 0) (ty := .int) (C := RX5) (T := TX5) (N := 10) hx hb hts kin_RX5 tyX5 tyX5_ok nmX5 hown hG.1 hP hD hS 0 rfl rfl 6 (by decide) (hts _ wm_201) (fun _ h9 => h9) rfl (by decide +kernel) rfl rfl (Nat.le_of_ble_eq_true rfl) dX5_begin_38 (fun H locs hP hD hS => ?_)
  have hP : va_P D vwCl [(ma, .inr (7, [.ref ma_without, .ref ma_did, .int 0, .int 0, .int 0, .int 0, .int 0, .int m_harm, .int m_worth, .int m_passes])), (ma_without, .inl (cy 0, 9, .inl ((u2q.2 0)))), (ma_did, .inl (cy 0, 9, .inl ((u5q.2 0))))] H := hP
  have hD : va_D A [(ma, .inr (7, [.ref ma_without, .ref ma_did, .int 0, .int 0, .int 0, .int 0, .int 0, .int m_harm, .int m_worth, .int m_passes])), (ma_without, .inl (cy 0, 9, .inl ((u2q.2 0)))), (ma_did, .inl (cy 0, 9, .inl ((u5q.2 0))))] := hD
  refine lv_aload_n hx hb dX5_begin_41 rfl (lv_at hl 0 rfl) ?_
  refine k_calv [1, 2] (⟨hP, hD, hG, hS, hA, rfl, rfl⟩ : kAt D cy sa A s H _ _ [(ma, .inr (7, [.ref ma_without, .ref ma_did, .int 0, .int 0, .int 0, .int 0, .int 0, .int m_harm, .int m_worth, .int m_passes]))] [0]) (wr := [(ma_without, .inl (cy 0, 9, .inl ((u2q.2 0)))), (ma_did, .inl (cy 0, 9, .inl ((u5q.2 0))))]) rfl rfl (by decide) (k_runV 7 0 (As := []) (rest := []) E lk_VRX5_49 rfl rfl rfl (c_forget l hl0 D cy sa ma ma_without ma_did 0 0 0 0 0 m_harm m_worth m_passes (by decide) (by decide) H.size) (⟨hP, hD, hG, hS, hA, rfl, rfl⟩ : kAt D cy sa A s H _ _ [(ma, .inr (7, [.ref ma_without, .ref ma_did, .int 0, .int 0, .int 0, .int 0, .int 0, .int m_harm, .int m_worth, .int m_passes]))] [0]) hl.1 rfl rfl ⟨rfl, rfl, ⟨Nat.le_of_ble_eq_true rfl, Nat.le_of_ble_eq_true rfl⟩, ⟨Nat.le_of_ble_eq_true rfl, Nat.le_of_ble_eq_true rfl⟩, Nat.le_of_ble_eq_true rfl⟩ dX5_begin_42) (fun u8q H locs hwu8q hP hD hS => ?_)
  have hP : va_P D vwCl [(ma_without, .inl (cy 0, 9, .inl ((u2q.2 0)))), (ma_did, .inl (cy 0, 9, .inl ((u5q.2 0)))), (ma, .inr (7, [.ref ma_without, .ref ma_did, .int 0, .int 0, .int 0, .int 0, .int 0, .int ((u8q.1 0)), .int ((u8q.1 1)), .int ((u8q.1 2))]))] H := hP
  have hD : va_D A [(ma_without, .inl (cy 0, 9, .inl ((u2q.2 0)))), (ma_did, .inl (cy 0, 9, .inl ((u5q.2 0)))), (ma, .inr (7, [.ref ma_without, .ref ma_did, .int 0, .int 0, .int 0, .int 0, .int 0, .int ((u8q.1 0)), .int ((u8q.1 1)), .int ((u8q.1 2))]))] := hD
  rw [hQ0]
  exact k_vret (fun k => [0, 0, 0, 0, 0, ((u8q.1 0)), ((u8q.1 1)), ((u8q.1 2))].getD k 0, fun k => [(u2q.2 0), (u5q.2 0)].getD k (fun _ => 0)) hx hb hr hlk (⟨(show 0 ≤ (0 : Int32).toInt ∧ (0 : Int32).toInt ≤ 480 by decide), (show -1 ≤ (0 : Int32).toInt ∧ (0 : Int32).toInt ≤ 8 by decide), (show rowR 9 0 (9 * (0 : Int32).toInt + 240) ((u5q.2 0)) from (rowR_mono p6q (by first | omega | (simp only [n_L0]; omega) | (simp only [n_L0]; done) | decide) (by first | omega | (simp only [n_L0]; omega) | (simp only [n_L0]; done) | decide)))⟩) (hP.sub [2, 0, 1] rfl) (hD.sub [2, 0, 1] (by decide) rfl) hS (by decide) (by decide) dX5_begin_45
