theorem wm_503 : Cond.constant RJ6 265 (1431655765) ∈ kWS := kws_at 503 (by decide +kernel) (by decide +kernel)
theorem wm_504 : Cond.constant RJ6 266 (858993459) ∈ kWS := kws_at 504 (by decide +kernel) (by decide +kernel)
theorem wm_505 : Cond.constant RJ6 267 (252645135) ∈ kWS := kws_at 505 (by decide +kernel) (by decide +kernel)
theorem wm_899 : Cond.methodLink RX5 52 arraycopyName ∈ kWS := kws_at 899 (by decide +kernel) (by decide +kernel)
theorem wm_668 : Cond.native arraycopyName ∈ kWS := kws_at 668 (by decide +kernel) (by decide +kernel)
theorem wm_667 : Cond.static arraycopyName ∈ kWS := kws_at 667 (by decide +kernel) (by decide +kernel)
theorem wm_29 : Cond.initialized RJ10 ∈ kWS := kws_at 29 (by decide +kernel) (by decide +kernel)
theorem wm_904 : Cond.methodLink RX6 34 arraycopyName ∈ kWS := kws_at 904 (by decide +kernel) (by decide +kernel)
theorem wm_898 : Cond.code yX5_copy cX5_copy 2 none ∈ kWS := kws_at 898 (by decide +kernel) (by decide +kernel)
theorem wm_1235 : Cond.methodLink RX8 25 yX5_copy ∈ kWS := kws_at 1235 (by decide +kernel) (by decide +kernel)
theorem wm_897 : Cond.selects RX5 yX5_copy yX5_copy ∈ kWS := kws_at 897 (by decide +kernel) (by decide +kernel)
theorem wm_896 : Cond.instanceMethod yX5_copy ∈ kWS := kws_at 896 (by decide +kernel) (by decide +kernel)
theorem lk_VRX8_25 : kLV RX8 25 yX5_copy (Cond.code yX5_copy cX5_copy 2 none) 1 := ⟨wm_1235, wm_896, wm_897, wm_4, wm_898, ⟨by decide +kernel, by decide +kernel, by decide +kernel⟩⟩
theorem wm_1036 : Cond.code yX5_forget cX5_forget 1 none ∈ kWS := kws_at 1036 (by decide +kernel) (by decide +kernel)
theorem wm_1236 : Cond.methodLink RX8 29 yX5_forget ∈ kWS := kws_at 1236 (by decide +kernel) (by decide +kernel)
theorem wm_1035 : Cond.selects RX5 yX5_forget yX5_forget ∈ kWS := kws_at 1035 (by decide +kernel) (by decide +kernel)
theorem wm_1034 : Cond.instanceMethod yX5_forget ∈ kWS := kws_at 1034 (by decide +kernel) (by decide +kernel)
theorem lk_VRX8_29 : kLV RX8 29 yX5_forget (Cond.code yX5_forget cX5_forget 1 none) 0 := ⟨wm_1236, wm_1034, wm_1035, wm_4, wm_1036, ⟨by decide +kernel, by decide +kernel, by decide +kernel⟩⟩
theorem wm_186 : Cond.fieldLink RX8 32 "LentMinds$Moment" "now" "I" ∈ kWS := kws_at 186 (by decide +kernel) (by decide +kernel)
theorem wm_134 : Cond.fieldLink RX8 35 "LentMinds$House" "day" "I" ∈ kWS := kws_at 134 (by decide +kernel) (by decide +kernel)
theorem wm_1211 : Cond.methodLink RX3 25 yX5_copy ∈ kWS := kws_at 1211 (by decide +kernel) (by decide +kernel)
theorem lk_VRX3_25 : kLV RX3 25 yX5_copy (Cond.code yX5_copy cX5_copy 2 none) 1 := ⟨wm_1211, wm_896, wm_897, wm_4, wm_898, ⟨by decide +kernel, by decide +kernel, by decide +kernel⟩⟩
theorem wm_1212 : Cond.methodLink RX3 29 yX5_forget ∈ kWS := kws_at 1212 (by decide +kernel) (by decide +kernel)
theorem lk_VRX3_29 : kLV RX3 29 yX5_forget (Cond.code yX5_forget cX5_forget 1 none) 0 := ⟨wm_1212, wm_1034, wm_1035, wm_4, wm_1036, ⟨by decide +kernel, by decide +kernel, by decide +kernel⟩⟩
theorem wm_241 : Cond.fieldLink RX3 32 "LentMinds$Plan" "passings" "I" ∈ kWS := kws_at 241 (by decide +kernel) (by decide +kernel)
theorem wm_185 : Cond.fieldLink RX3 41 "LentMinds$Moment" "now" "I" ∈ kWS := kws_at 185 (by decide +kernel) (by decide +kernel)
theorem wm_133 : Cond.fieldLink RX3 44 "LentMinds$House" "day" "I" ∈ kWS := kws_at 133 (by decide +kernel) (by decide +kernel)
theorem wm_1032 : Cond.code yJ7_fill_53178 cJ7_fill_53178 4 none ∈ kWS := kws_at 1032 (by decide +kernel) (by decide +kernel)
theorem wm_1380 : Cond.methodLink RX9 59 yJ7_fill_53178 ∈ kWS := kws_at 1380 (by decide +kernel) (by decide +kernel)
theorem wm_1031 : Cond.static yJ7_fill_53178 ∈ kWS := kws_at 1031 (by decide +kernel) (by decide +kernel)
theorem wm_24 : Cond.initialized RJ7 ∈ kWS := kws_at 24 (by decide +kernel) (by decide +kernel)
theorem lk_SRX9_59 : kLS RX9 59 yJ7_fill_53178 (Cond.code yJ7_fill_53178 cJ7_fill_53178 4 none) 2 := ⟨wm_1380, wm_1031, wm_24, wm_1032, ⟨by decide +kernel, by decide +kernel, by decide +kernel⟩⟩
theorem wm_121 : Cond.fieldLink RX9 65 "LentMinds$House" "bodies" "I" ∈ kWS := kws_at 121 (by decide +kernel) (by decide +kernel)
theorem wm_195 : Cond.fieldLink RX9 36 "LentMinds$Moment" "way" "I" ∈ kWS := kws_at 195 (by decide +kernel) (by decide +kernel)
theorem wm_135 : Cond.fieldLink RX9 66 "LentMinds$House" "day" "I" ∈ kWS := kws_at 135 (by decide +kernel) (by decide +kernel)
theorem wm_187 : Cond.fieldLink RX9 69 "LentMinds$Moment" "now" "I" ∈ kWS := kws_at 187 (by decide +kernel) (by decide +kernel)
theorem wm_1373 : Cond.methodLink RX9 32 yX5_copy ∈ kWS := kws_at 1373 (by decide +kernel) (by decide +kernel)
theorem lk_VRX9_32 : kLV RX9 32 yX5_copy (Cond.code yX5_copy cX5_copy 2 none) 1 := ⟨wm_1373, wm_896, wm_897, wm_4, wm_898, ⟨by decide +kernel, by decide +kernel, by decide +kernel⟩⟩
theorem wm_190 : Cond.fieldLink RX9 39 "LentMinds$Moment" "mind" "I" ∈ kWS := kws_at 190 (by decide +kernel) (by decide +kernel)
theorem wm_1379 : Cond.code yX9_lookOn cX9_lookOn 6 none ∈ kWS := kws_at 1379 (by decide +kernel) (by decide +kernel)
theorem wm_1376 : Cond.methodLink RX9 55 yX9_lookOn ∈ kWS := kws_at 1376 (by decide +kernel) (by decide +kernel)
theorem wm_s31 : Cond.selects RX9 yX9_lookOn yX9_lookOn ∈ kWS := kws_sel 31 (by decide +kernel) (by decide +kernel)
theorem wm_1378 : Cond.instanceMethod yX9_lookOn ∈ kWS := kws_at 1378 (by decide +kernel) (by decide +kernel)
theorem wm_8 : Cond.initialized RX9 ∈ kWS := kws_at 8 (by decide +kernel) (by decide +kernel)
theorem lk_VRX9_55 : kLV RX9 55 yX9_lookOn (Cond.code yX9_lookOn cX9_lookOn 6 none) 1 := ⟨wm_1376, wm_1378, wm_s31, wm_8, wm_1379, ⟨by decide +kernel, by decide +kernel, by decide +kernel⟩⟩
theorem wm_1389 : Cond.code yX9_earliest cX9_earliest 5 (some .int) ∈ kWS := kws_at 1389 (by decide +kernel) (by decide +kernel)
theorem wm_1386 : Cond.methodLink RX9 76 yX9_earliest ∈ kWS := kws_at 1386 (by decide +kernel) (by decide +kernel)
theorem wm_s32 : Cond.selects RX9 yX9_earliest yX9_earliest ∈ kWS := kws_sel 32 (by decide +kernel) (by decide +kernel)
theorem wm_1388 : Cond.instanceMethod yX9_earliest ∈ kWS := kws_at 1388 (by decide +kernel) (by decide +kernel)
theorem lk_VRX9_76 : kLV RX9 76 yX9_earliest (Cond.code yX9_earliest cX9_earliest 5 (some .int)) 1 := ⟨wm_1386, wm_1388, wm_s32, wm_8, wm_1389, ⟨by decide +kernel, by decide +kernel, by decide +kernel⟩⟩
theorem wm_928 : Cond.methodLink RX7 32 Lib.Math.min.name ∈ kWS := kws_at 928 (by decide +kernel) (by decide +kernel)
theorem wm_519 : Cond.static Lib.Math.min.name ∈ kWS := kws_at 519 (by decide +kernel) (by decide +kernel)
theorem wm_17 : Cond.initialized "java/lang/Math" ∈ kWS := kws_at 17 (by decide +kernel) (by decide +kernel)
theorem wm_520 : Cond.code Lib.Math.min.name Lib.Math.min.code 2 (some .int) ∈ kWS := kws_at 520 (by decide +kernel) (by decide +kernel)
theorem wm_932 : Cond.code yX2_begin cX2_begin 1 none ∈ kWS := kws_at 932 (by decide +kernel) (by decide +kernel)
theorem wm_929 : Cond.methodLink RX7 38 yX2_begin ∈ kWS := kws_at 929 (by decide +kernel) (by decide +kernel)
theorem wm_931 : Cond.selects RX2 yX2_begin yX2_begin ∈ kWS := kws_at 931 (by decide +kernel) (by decide +kernel)
theorem wm_930 : Cond.instanceMethod yX2_begin ∈ kWS := kws_at 930 (by decide +kernel) (by decide +kernel)
theorem wm_3 : Cond.initialized RX2 ∈ kWS := kws_at 3 (by decide +kernel) (by decide +kernel)
theorem lk_VRX7_38 : kLV RX7 38 yX2_begin (Cond.code yX2_begin cX2_begin 1 none) 0 := ⟨wm_929, wm_930, wm_931, wm_3, wm_932, ⟨by decide +kernel, by decide +kernel, by decide +kernel⟩⟩
theorem wm_936 : Cond.code yX7_skipBlanks cX7_skipBlanks 1 none ∈ kWS := kws_at 936 (by decide +kernel) (by decide +kernel)
theorem wm_933 : Cond.methodLink RX7 43 yX7_skipBlanks ∈ kWS := kws_at 933 (by decide +kernel) (by decide +kernel)
theorem wm_s9 : Cond.selects RX7 yX7_skipBlanks yX7_skipBlanks ∈ kWS := kws_sel 9 (by decide +kernel) (by decide +kernel)
theorem wm_935 : Cond.instanceMethod yX7_skipBlanks ∈ kWS := kws_at 935 (by decide +kernel) (by decide +kernel)
theorem wm_2 : Cond.initialized RX7 ∈ kWS := kws_at 2 (by decide +kernel) (by decide +kernel)
theorem lk_VRX7_43 : kLV RX7 43 yX7_skipBlanks (Cond.code yX7_skipBlanks cX7_skipBlanks 1 none) 0 := ⟨wm_933, wm_935, wm_s9, wm_2, wm_936, ⟨by decide +kernel, by decide +kernel, by decide +kernel⟩⟩
theorem wm_119 : Cond.fieldLink RX7 50 "LentMinds$House" "bodies" "I" ∈ kWS := kws_at 119 (by decide +kernel) (by decide +kernel)
theorem wm_979 : Cond.code yX7_refuse cX7_refuse 3 (some .boolean) ∈ kWS := kws_at 979 (by decide +kernel) (by decide +kernel)
theorem wm_976 : Cond.methodLink RX7 53 yX7_refuse ∈ kWS := kws_at 976 (by decide +kernel) (by decide +kernel)
theorem wm_s13 : Cond.selects RX7 yX7_refuse yX7_refuse ∈ kWS := kws_sel 13 (by decide +kernel) (by decide +kernel)
theorem wm_978 : Cond.instanceMethod yX7_refuse ∈ kWS := kws_at 978 (by decide +kernel) (by decide +kernel)
theorem lk_VRX7_53 : kLV RX7 53 yX7_refuse (Cond.code yX7_refuse cX7_refuse 3 (some .boolean)) 2 := ⟨wm_976, wm_978, wm_s13, wm_2, wm_979, ⟨by decide +kernel, by decide +kernel, by decide +kernel⟩⟩
theorem dJ6_bitCount_0f7a4_0 : decode cJ6_bitCount_0f7a4 0 = .ok (.iload_n 0, 1) := by decide +kernel
theorem dJ6_bitCount_0f7a4_1 : decode cJ6_bitCount_0f7a4 1 = .ok (.iload_n 0, 1) := by decide +kernel
theorem dJ6_bitCount_0f7a4_2 : decode cJ6_bitCount_0f7a4 2 = .ok (.iconst 1, 1) := by decide +kernel
theorem dJ6_bitCount_0f7a4_3 : decode cJ6_bitCount_0f7a4 3 = .ok (.iushr, 1) := by decide +kernel
theorem dJ6_bitCount_0f7a4_4 : decode cJ6_bitCount_0f7a4 4 = .ok (.ldc_w 265, 3) := by decide +kernel
theorem dJ6_bitCount_0f7a4_7 : decode cJ6_bitCount_0f7a4 7 = .ok (.iand, 1) := by decide +kernel
theorem dJ6_bitCount_0f7a4_8 : decode cJ6_bitCount_0f7a4 8 = .ok (.isub, 1) := by decide +kernel
theorem dJ6_bitCount_0f7a4_9 : decode cJ6_bitCount_0f7a4 9 = .ok (.istore_n 0, 1) := by decide +kernel
theorem dJ6_bitCount_0f7a4_10 : decode cJ6_bitCount_0f7a4 10 = .ok (.iload_n 0, 1) := by decide +kernel
theorem dJ6_bitCount_0f7a4_11 : decode cJ6_bitCount_0f7a4 11 = .ok (.ldc_w 266, 3) := by decide +kernel
theorem dJ6_bitCount_0f7a4_14 : decode cJ6_bitCount_0f7a4 14 = .ok (.iand, 1) := by decide +kernel
theorem dJ6_bitCount_0f7a4_15 : decode cJ6_bitCount_0f7a4 15 = .ok (.iload_n 0, 1) := by decide +kernel
theorem dJ6_bitCount_0f7a4_16 : decode cJ6_bitCount_0f7a4 16 = .ok (.iconst 2, 1) := by decide +kernel
theorem dJ6_bitCount_0f7a4_17 : decode cJ6_bitCount_0f7a4 17 = .ok (.iushr, 1) := by decide +kernel
theorem dJ6_bitCount_0f7a4_18 : decode cJ6_bitCount_0f7a4 18 = .ok (.ldc_w 266, 3) := by decide +kernel
theorem dJ6_bitCount_0f7a4_21 : decode cJ6_bitCount_0f7a4 21 = .ok (.iand, 1) := by decide +kernel
theorem dJ6_bitCount_0f7a4_22 : decode cJ6_bitCount_0f7a4 22 = .ok (.iadd, 1) := by decide +kernel
theorem dJ6_bitCount_0f7a4_23 : decode cJ6_bitCount_0f7a4 23 = .ok (.istore_n 0, 1) := by decide +kernel
theorem dJ6_bitCount_0f7a4_24 : decode cJ6_bitCount_0f7a4 24 = .ok (.iload_n 0, 1) := by decide +kernel
theorem dJ6_bitCount_0f7a4_25 : decode cJ6_bitCount_0f7a4 25 = .ok (.iload_n 0, 1) := by decide +kernel
theorem dJ6_bitCount_0f7a4_26 : decode cJ6_bitCount_0f7a4 26 = .ok (.iconst 4, 1) := by decide +kernel
theorem dJ6_bitCount_0f7a4_27 : decode cJ6_bitCount_0f7a4 27 = .ok (.iushr, 1) := by decide +kernel
theorem dJ6_bitCount_0f7a4_28 : decode cJ6_bitCount_0f7a4 28 = .ok (.iadd, 1) := by decide +kernel
theorem dJ6_bitCount_0f7a4_29 : decode cJ6_bitCount_0f7a4 29 = .ok (.ldc_w 267, 3) := by decide +kernel
theorem dJ6_bitCount_0f7a4_32 : decode cJ6_bitCount_0f7a4 32 = .ok (.iand, 1) := by decide +kernel
theorem dJ6_bitCount_0f7a4_33 : decode cJ6_bitCount_0f7a4 33 = .ok (.istore_n 0, 1) := by decide +kernel
theorem dJ6_bitCount_0f7a4_34 : decode cJ6_bitCount_0f7a4 34 = .ok (.iload_n 0, 1) := by decide +kernel
theorem dJ6_bitCount_0f7a4_35 : decode cJ6_bitCount_0f7a4 35 = .ok (.iload_n 0, 1) := by decide +kernel
theorem dJ6_bitCount_0f7a4_36 : decode cJ6_bitCount_0f7a4 36 = .ok (.bipush 8, 2) := by decide +kernel
theorem dJ6_bitCount_0f7a4_38 : decode cJ6_bitCount_0f7a4 38 = .ok (.iushr, 1) := by decide +kernel
theorem dJ6_bitCount_0f7a4_39 : decode cJ6_bitCount_0f7a4 39 = .ok (.iadd, 1) := by decide +kernel
theorem dJ6_bitCount_0f7a4_40 : decode cJ6_bitCount_0f7a4 40 = .ok (.istore_n 0, 1) := by decide +kernel
theorem dJ6_bitCount_0f7a4_41 : decode cJ6_bitCount_0f7a4 41 = .ok (.iload_n 0, 1) := by decide +kernel
theorem dJ6_bitCount_0f7a4_42 : decode cJ6_bitCount_0f7a4 42 = .ok (.iload_n 0, 1) := by decide +kernel
theorem dJ6_bitCount_0f7a4_43 : decode cJ6_bitCount_0f7a4 43 = .ok (.bipush 16, 2) := by decide +kernel
theorem dJ6_bitCount_0f7a4_45 : decode cJ6_bitCount_0f7a4 45 = .ok (.iushr, 1) := by decide +kernel
theorem dJ6_bitCount_0f7a4_46 : decode cJ6_bitCount_0f7a4 46 = .ok (.iadd, 1) := by decide +kernel
theorem dJ6_bitCount_0f7a4_47 : decode cJ6_bitCount_0f7a4 47 = .ok (.istore_n 0, 1) := by decide +kernel
theorem dJ6_bitCount_0f7a4_48 : decode cJ6_bitCount_0f7a4 48 = .ok (.iload_n 0, 1) := by decide +kernel
theorem dJ6_bitCount_0f7a4_49 : decode cJ6_bitCount_0f7a4 49 = .ok (.bipush 63, 2) := by decide +kernel
theorem dJ6_bitCount_0f7a4_51 : decode cJ6_bitCount_0f7a4 51 = .ok (.iand, 1) := by decide +kernel
theorem dJ6_bitCount_0f7a4_52 : decode cJ6_bitCount_0f7a4 52 = .ok (.ireturn, 1) := by decide +kernel
theorem dJ7_fill_53178_0 : decode cJ7_fill_53178 0 = .ok (.iconst 0, 1) := by decide +kernel
theorem dJ7_fill_53178_1 : decode cJ7_fill_53178 1 = .ok (.istore_n 2, 1) := by decide +kernel
theorem dJ7_fill_53178_2 : decode cJ7_fill_53178 2 = .ok (.aload_n 0, 1) := by decide +kernel
theorem dJ7_fill_53178_3 : decode cJ7_fill_53178 3 = .ok (.arraylength, 1) := by decide +kernel
theorem dJ7_fill_53178_4 : decode cJ7_fill_53178 4 = .ok (.istore_n 3, 1) := by decide +kernel
theorem dJ7_fill_53178_5 : decode cJ7_fill_53178 5 = .ok (.iload_n 2, 1) := by decide +kernel
theorem dJ7_fill_53178_6 : decode cJ7_fill_53178 6 = .ok (.iload_n 3, 1) := by decide +kernel
theorem dJ7_fill_53178_7 : decode cJ7_fill_53178 7 = .ok (.if_icmp .ge 13, 3) := by decide +kernel
theorem dJ7_fill_53178_10 : decode cJ7_fill_53178 10 = .ok (.aload_n 0, 1) := by decide +kernel
theorem dJ7_fill_53178_11 : decode cJ7_fill_53178 11 = .ok (.iload_n 2, 1) := by decide +kernel
theorem dJ7_fill_53178_12 : decode cJ7_fill_53178 12 = .ok (.iload_n 1, 1) := by decide +kernel
theorem dJ7_fill_53178_13 : decode cJ7_fill_53178 13 = .ok (.iastore, 1) := by decide +kernel
theorem dJ7_fill_53178_14 : decode cJ7_fill_53178 14 = .ok (.iinc 2 1, 3) := by decide +kernel
theorem dJ7_fill_53178_17 : decode cJ7_fill_53178 17 = .ok (.goto (-12), 3) := by decide +kernel
theorem dJ7_fill_53178_20 : decode cJ7_fill_53178 20 = .ok (.return_, 1) := by decide +kernel
theorem dX5_forget_0 : decode cX5_forget 0 = .ok (.aload_n 0, 1) := by decide +kernel
theorem dX5_forget_1 : decode cX5_forget 1 = .ok (.iconst 0, 1) := by decide +kernel
theorem dX5_forget_2 : decode cX5_forget 2 = .ok (.putfield 34, 3) := by decide +kernel
theorem dX5_forget_5 : decode cX5_forget 5 = .ok (.aload_n 0, 1) := by decide +kernel
theorem dX5_forget_6 : decode cX5_forget 6 = .ok (.iconst 0, 1) := by decide +kernel
theorem dX5_forget_7 : decode cX5_forget 7 = .ok (.putfield 37, 3) := by decide +kernel
theorem dX5_forget_10 : decode cX5_forget 10 = .ok (.aload_n 0, 1) := by decide +kernel
theorem dX5_forget_11 : decode cX5_forget 11 = .ok (.iconst 0, 1) := by decide +kernel
theorem dX5_forget_12 : decode cX5_forget 12 = .ok (.putfield 40, 3) := by decide +kernel
theorem dX5_forget_15 : decode cX5_forget 15 = .ok (.return_, 1) := by decide +kernel
theorem dX5_copy_0 : decode cX5_copy 0 = .ok (.aload_n 1, 1) := by decide +kernel
theorem dX5_copy_1 : decode cX5_copy 1 = .ok (.getfield 9, 3) := by decide +kernel
theorem dX5_copy_4 : decode cX5_copy 4 = .ok (.iconst 0, 1) := by decide +kernel
theorem dX5_copy_5 : decode cX5_copy 5 = .ok (.aload_n 0, 1) := by decide +kernel
theorem dX5_copy_6 : decode cX5_copy 6 = .ok (.getfield 9, 3) := by decide +kernel
theorem dX5_copy_9 : decode cX5_copy 9 = .ok (.iconst 0, 1) := by decide +kernel
theorem dX5_copy_10 : decode cX5_copy 10 = .ok (.bipush 9, 2) := by decide +kernel
theorem dX5_copy_12 : decode cX5_copy 12 = .ok (.invokestatic 52, 3) := by decide +kernel
theorem dX5_copy_15 : decode cX5_copy 15 = .ok (.aload_n 1, 1) := by decide +kernel
theorem dX5_copy_16 : decode cX5_copy 16 = .ok (.getfield 15, 3) := by decide +kernel
theorem dX5_copy_19 : decode cX5_copy 19 = .ok (.iconst 0, 1) := by decide +kernel
theorem dX5_copy_20 : decode cX5_copy 20 = .ok (.aload_n 0, 1) := by decide +kernel
theorem dX5_copy_21 : decode cX5_copy 21 = .ok (.getfield 15, 3) := by decide +kernel
theorem dX5_copy_24 : decode cX5_copy 24 = .ok (.iconst 0, 1) := by decide +kernel
theorem dX5_copy_25 : decode cX5_copy 25 = .ok (.bipush 9, 2) := by decide +kernel
theorem dX5_copy_27 : decode cX5_copy 27 = .ok (.invokestatic 52, 3) := by decide +kernel
theorem dX5_copy_30 : decode cX5_copy 30 = .ok (.aload_n 0, 1) := by decide +kernel
theorem dX5_copy_31 : decode cX5_copy 31 = .ok (.aload_n 1, 1) := by decide +kernel
theorem dX5_copy_32 : decode cX5_copy 32 = .ok (.getfield 18, 3) := by decide +kernel
theorem dX5_copy_35 : decode cX5_copy 35 = .ok (.putfield 18, 3) := by decide +kernel
theorem dX5_copy_38 : decode cX5_copy 38 = .ok (.aload_n 0, 1) := by decide +kernel
theorem dX5_copy_39 : decode cX5_copy 39 = .ok (.aload_n 1, 1) := by decide +kernel
theorem dX5_copy_40 : decode cX5_copy 40 = .ok (.getfield 22, 3) := by decide +kernel
theorem dX5_copy_43 : decode cX5_copy 43 = .ok (.putfield 22, 3) := by decide +kernel
theorem dX5_copy_46 : decode cX5_copy 46 = .ok (.aload_n 0, 1) := by decide +kernel
theorem dX5_copy_47 : decode cX5_copy 47 = .ok (.aload_n 1, 1) := by decide +kernel
theorem dX5_copy_48 : decode cX5_copy 48 = .ok (.getfield 25, 3) := by decide +kernel
theorem dX5_copy_51 : decode cX5_copy 51 = .ok (.putfield 25, 3) := by decide +kernel
theorem dX5_copy_54 : decode cX5_copy 54 = .ok (.aload_n 0, 1) := by decide +kernel
theorem dX5_copy_55 : decode cX5_copy 55 = .ok (.aload_n 1, 1) := by decide +kernel
theorem dX5_copy_56 : decode cX5_copy 56 = .ok (.getfield 28, 3) := by decide +kernel
theorem dX5_copy_59 : decode cX5_copy 59 = .ok (.putfield 28, 3) := by decide +kernel
theorem dX5_copy_62 : decode cX5_copy 62 = .ok (.aload_n 0, 1) := by decide +kernel
theorem dX5_copy_63 : decode cX5_copy 63 = .ok (.aload_n 1, 1) := by decide +kernel
theorem dX5_copy_64 : decode cX5_copy 64 = .ok (.getfield 31, 3) := by decide +kernel
theorem dX5_copy_67 : decode cX5_copy 67 = .ok (.putfield 31, 3) := by decide +kernel
theorem dX5_copy_70 : decode cX5_copy 70 = .ok (.aload_n 0, 1) := by decide +kernel
theorem dX5_copy_71 : decode cX5_copy 71 = .ok (.aload_n 1, 1) := by decide +kernel
theorem dX5_copy_72 : decode cX5_copy 72 = .ok (.getfield 34, 3) := by decide +kernel
theorem dX5_copy_75 : decode cX5_copy 75 = .ok (.putfield 34, 3) := by decide +kernel
theorem dX5_copy_78 : decode cX5_copy 78 = .ok (.aload_n 0, 1) := by decide +kernel
theorem dX5_copy_79 : decode cX5_copy 79 = .ok (.aload_n 1, 1) := by decide +kernel
theorem dX5_copy_80 : decode cX5_copy 80 = .ok (.getfield 37, 3) := by decide +kernel
theorem dX5_copy_83 : decode cX5_copy 83 = .ok (.putfield 37, 3) := by decide +kernel
theorem dX5_copy_86 : decode cX5_copy 86 = .ok (.aload_n 0, 1) := by decide +kernel
theorem dX5_copy_87 : decode cX5_copy 87 = .ok (.aload_n 1, 1) := by decide +kernel
theorem dX5_copy_88 : decode cX5_copy 88 = .ok (.getfield 40, 3) := by decide +kernel
theorem dX5_copy_91 : decode cX5_copy 91 = .ok (.putfield 40, 3) := by decide +kernel
theorem dX5_copy_94 : decode cX5_copy 94 = .ok (.return_, 1) := by decide +kernel
theorem dX6_copy_0 : decode cX6_copy 0 = .ok (.aload_n 1, 1) := by decide +kernel
theorem dX6_copy_1 : decode cX6_copy 1 = .ok (.getfield 9, 3) := by decide +kernel
theorem dX6_copy_4 : decode cX6_copy 4 = .ok (.iconst 0, 1) := by decide +kernel
theorem dX6_copy_5 : decode cX6_copy 5 = .ok (.aload_n 0, 1) := by decide +kernel
theorem dX6_copy_6 : decode cX6_copy 6 = .ok (.getfield 9, 3) := by decide +kernel
theorem dX6_copy_9 : decode cX6_copy 9 = .ok (.iconst 0, 1) := by decide +kernel
theorem dX6_copy_10 : decode cX6_copy 10 = .ok (.bipush 30, 2) := by decide +kernel
theorem dX6_copy_12 : decode cX6_copy 12 = .ok (.invokestatic 34, 3) := by decide +kernel
theorem dX6_copy_15 : decode cX6_copy 15 = .ok (.aload_n 1, 1) := by decide +kernel
theorem dX6_copy_16 : decode cX6_copy 16 = .ok (.getfield 15, 3) := by decide +kernel
theorem dX6_copy_19 : decode cX6_copy 19 = .ok (.iconst 0, 1) := by decide +kernel
theorem dX6_copy_20 : decode cX6_copy 20 = .ok (.aload_n 0, 1) := by decide +kernel
theorem dX6_copy_21 : decode cX6_copy 21 = .ok (.getfield 15, 3) := by decide +kernel
theorem dX6_copy_24 : decode cX6_copy 24 = .ok (.iconst 0, 1) := by decide +kernel
theorem dX6_copy_25 : decode cX6_copy 25 = .ok (.bipush 30, 2) := by decide +kernel
theorem dX6_copy_27 : decode cX6_copy 27 = .ok (.invokestatic 34, 3) := by decide +kernel
theorem dX6_copy_30 : decode cX6_copy 30 = .ok (.aload_n 0, 1) := by decide +kernel
theorem dX6_copy_31 : decode cX6_copy 31 = .ok (.aload_n 1, 1) := by decide +kernel
theorem dX6_copy_32 : decode cX6_copy 32 = .ok (.getfield 18, 3) := by decide +kernel
theorem dX6_copy_35 : decode cX6_copy 35 = .ok (.putfield 18, 3) := by decide +kernel
theorem dX6_copy_38 : decode cX6_copy 38 = .ok (.aload_n 1, 1) := by decide +kernel
theorem dX6_copy_39 : decode cX6_copy 39 = .ok (.getfield 22, 3) := by decide +kernel
theorem dX6_copy_42 : decode cX6_copy 42 = .ok (.iconst 0, 1) := by decide +kernel
theorem dX6_copy_43 : decode cX6_copy 43 = .ok (.aload_n 0, 1) := by decide +kernel
theorem dX6_copy_44 : decode cX6_copy 44 = .ok (.getfield 22, 3) := by decide +kernel
theorem dX6_copy_47 : decode cX6_copy 47 = .ok (.iconst 0, 1) := by decide +kernel
theorem dX6_copy_48 : decode cX6_copy 48 = .ok (.bipush 6, 2) := by decide +kernel
theorem dX6_copy_50 : decode cX6_copy 50 = .ok (.invokestatic 34, 3) := by decide +kernel
theorem dX6_copy_53 : decode cX6_copy 53 = .ok (.aload_n 1, 1) := by decide +kernel
theorem dX6_copy_54 : decode cX6_copy 54 = .ok (.getfield 25, 3) := by decide +kernel
theorem dX6_copy_57 : decode cX6_copy 57 = .ok (.iconst 0, 1) := by decide +kernel
theorem dX6_copy_58 : decode cX6_copy 58 = .ok (.aload_n 0, 1) := by decide +kernel
theorem dX6_copy_59 : decode cX6_copy 59 = .ok (.getfield 25, 3) := by decide +kernel
theorem dX6_copy_62 : decode cX6_copy 62 = .ok (.iconst 0, 1) := by decide +kernel
theorem dX6_copy_63 : decode cX6_copy 63 = .ok (.bipush 6, 2) := by decide +kernel
theorem dX6_copy_65 : decode cX6_copy 65 = .ok (.invokestatic 34, 3) := by decide +kernel
theorem dX6_copy_68 : decode cX6_copy 68 = .ok (.aload_n 0, 1) := by decide +kernel
theorem dX6_copy_69 : decode cX6_copy 69 = .ok (.aload_n 1, 1) := by decide +kernel
theorem dX6_copy_70 : decode cX6_copy 70 = .ok (.getfield 28, 3) := by decide +kernel
theorem dX6_copy_73 : decode cX6_copy 73 = .ok (.putfield 28, 3) := by decide +kernel
theorem dX6_copy_76 : decode cX6_copy 76 = .ok (.return_, 1) := by decide +kernel
theorem dX8_begin_0 : decode cX8_begin 0 = .ok (.aload_n 0, 1) := by decide +kernel
theorem dX8_begin_1 : decode cX8_begin 1 = .ok (.getfield 12, 3) := by decide +kernel
theorem dX8_begin_4 : decode cX8_begin 4 = .ok (.aload_n 1, 1) := by decide +kernel
theorem dX8_begin_5 : decode cX8_begin 5 = .ok (.invokevirtual 25, 3) := by decide +kernel
theorem dX8_begin_8 : decode cX8_begin 8 = .ok (.aload_n 0, 1) := by decide +kernel
theorem dX8_begin_9 : decode cX8_begin 9 = .ok (.getfield 12, 3) := by decide +kernel
theorem dX8_begin_12 : decode cX8_begin 12 = .ok (.invokevirtual 29, 3) := by decide +kernel
theorem dX8_begin_15 : decode cX8_begin 15 = .ok (.return_, 1) := by decide +kernel
theorem dX8_follow_0 : decode cX8_follow 0 = .ok (.aload_n 0, 1) := by decide +kernel
theorem dX8_follow_1 : decode cX8_follow 1 = .ok (.iload 4, 2) := by decide +kernel
theorem dX8_follow_3 : decode cX8_follow 3 = .ok (.putfield 18, 3) := by decide +kernel
theorem dX8_follow_6 : decode cX8_follow 6 = .ok (.iconst 0, 1) := by decide +kernel
theorem dX8_follow_7 : decode cX8_follow 7 = .ok (.istore 5, 2) := by decide +kernel
theorem dX8_follow_9 : decode cX8_follow 9 = .ok (.aload_n 0, 1) := by decide +kernel
theorem dX8_follow_10 : decode cX8_follow 10 = .ok (.getfield 12, 3) := by decide +kernel
theorem dX8_follow_13 : decode cX8_follow 13 = .ok (.getfield 32, 3) := by decide +kernel
theorem dX8_follow_16 : decode cX8_follow 16 = .ok (.istore 6, 2) := by decide +kernel
theorem dX8_follow_18 : decode cX8_follow 18 = .ok (.iload 6, 2) := by decide +kernel
theorem dX8_follow_20 : decode cX8_follow 20 = .ok (.aload_n 1, 1) := by decide +kernel
theorem dX8_follow_21 : decode cX8_follow 21 = .ok (.getfield 35, 3) := by decide +kernel
theorem dX8_follow_24 : decode cX8_follow 24 = .ok (.if_icmp .ge 102, 3) := by decide +kernel
theorem dX8_follow_27 : decode cX8_follow 27 = .ok (.iload_n 2, 1) := by decide +kernel
theorem dX8_follow_28 : decode cX8_follow 28 = .ok (.iconst 5, 1) := by decide +kernel
theorem dX8_follow_29 : decode cX8_follow 29 = .ok (.if_icmp .ne 8, 3) := by decide +kernel
theorem dX8_follow_32 : decode cX8_follow 32 = .ok (.aload_n 0, 1) := by decide +kernel
theorem dX8_follow_33 : decode cX8_follow 33 = .ok (.aload_n 1, 1) := by decide +kernel
theorem dX8_follow_34 : decode cX8_follow 34 = .ok (.invokevirtual 40, 3) := by decide +kernel
theorem dX8_follow_37 : decode cX8_follow 37 = .ok (.aload_n 0, 1) := by decide +kernel
theorem dX8_follow_38 : decode cX8_follow 38 = .ok (.getfield 12, 3) := by decide +kernel
theorem dX8_follow_41 : decode cX8_follow 41 = .ok (.getfield 44, 3) := by decide +kernel
theorem dX8_follow_44 : decode cX8_follow 44 = .ok (.ifCond .ne 54, 3) := by decide +kernel
theorem dX8_follow_47 : decode cX8_follow 47 = .ok (.iload 5, 2) := by decide +kernel
theorem dX8_follow_49 : decode cX8_follow 49 = .ok (.iload_n 3, 1) := by decide +kernel
theorem dX8_follow_50 : decode cX8_follow 50 = .ok (.if_icmp .ge 21, 3) := by decide +kernel
theorem dX8_follow_53 : decode cX8_follow 53 = .ok (.aload_n 0, 1) := by decide +kernel
theorem dX8_follow_54 : decode cX8_follow 54 = .ok (.getfield 12, 3) := by decide +kernel
theorem dX8_follow_57 : decode cX8_follow 57 = .ok (.aload_n 1, 1) := by decide +kernel
theorem dX8_follow_58 : decode cX8_follow 58 = .ok (.aload_n 0, 1) := by decide +kernel
theorem dX8_follow_59 : decode cX8_follow 59 = .ok (.getfield 12, 3) := by decide +kernel
theorem dX8_follow_62 : decode cX8_follow 62 = .ok (.getfield 47, 3) := by decide +kernel
theorem dX8_follow_65 : decode cX8_follow 65 = .ok (.invokevirtual 50, 3) := by decide +kernel
theorem dX8_follow_68 : decode cX8_follow 68 = .ok (.ifCond .ne 30, 3) := by decide +kernel
theorem dX8_follow_71 : decode cX8_follow 71 = .ok (.aload_n 0, 1) := by decide +kernel
theorem dX8_follow_72 : decode cX8_follow 72 = .ok (.aload_n 1, 1) := by decide +kernel
theorem dX8_follow_73 : decode cX8_follow 73 = .ok (.iload_n 2, 1) := by decide +kernel
theorem dX8_follow_74 : decode cX8_follow 74 = .ok (.invokevirtual 54, 3) := by decide +kernel
theorem dX8_follow_77 : decode cX8_follow 77 = .ok (.istore 7, 2) := by decide +kernel
theorem dX8_follow_79 : decode cX8_follow 79 = .ok (.iload 7, 2) := by decide +kernel
theorem dX8_follow_81 : decode cX8_follow 81 = .ok (.iconst (-1), 1) := by decide +kernel
theorem dX8_follow_82 : decode cX8_follow 82 = .ok (.if_icmp .eq 16, 3) := by decide +kernel
theorem dX8_follow_85 : decode cX8_follow 85 = .ok (.aload_n 0, 1) := by decide +kernel
theorem dX8_follow_86 : decode cX8_follow 86 = .ok (.getfield 12, 3) := by decide +kernel
theorem dX8_follow_89 : decode cX8_follow 89 = .ok (.aload_n 1, 1) := by decide +kernel
theorem dX8_follow_90 : decode cX8_follow 90 = .ok (.iload 7, 2) := by decide +kernel
theorem dX8_follow_92 : decode cX8_follow 92 = .ok (.invokevirtual 58, 3) := by decide +kernel
theorem dX8_follow_95 : decode cX8_follow 95 = .ok (.iconst 0, 1) := by decide +kernel
theorem dX8_follow_96 : decode cX8_follow 96 = .ok (.istore 5, 2) := by decide +kernel
theorem dX8_follow_98 : decode cX8_follow 98 = .ok (.aload_n 0, 1) := by decide +kernel
theorem dX8_follow_99 : decode cX8_follow 99 = .ok (.getfield 12, 3) := by decide +kernel
theorem dX8_follow_102 : decode cX8_follow 102 = .ok (.getfield 44, 3) := by decide +kernel
theorem dX8_follow_105 : decode cX8_follow 105 = .ok (.ifCond .ne 6, 3) := by decide +kernel
theorem dX8_follow_108 : decode cX8_follow 108 = .ok (.iinc 5 1, 3) := by decide +kernel
theorem dX8_follow_111 : decode cX8_follow 111 = .ok (.aload_n 0, 1) := by decide +kernel
theorem dX8_follow_112 : decode cX8_follow 112 = .ok (.getfield 12, 3) := by decide +kernel
theorem dX8_follow_115 : decode cX8_follow 115 = .ok (.aload_n 1, 1) := by decide +kernel
theorem dX8_follow_116 : decode cX8_follow 116 = .ok (.invokevirtual 62, 3) := by decide +kernel
theorem dX8_follow_119 : decode cX8_follow 119 = .ok (.pop, 1) := by decide +kernel
theorem dX8_follow_120 : decode cX8_follow 120 = .ok (.iinc 6 1, 3) := by decide +kernel
theorem dX8_follow_123 : decode cX8_follow 123 = .ok (.goto (-105), 3) := by decide +kernel
theorem dX8_follow_126 : decode cX8_follow 126 = .ok (.return_, 1) := by decide +kernel
theorem dX3_follow_0 : decode cX3_follow 0 = .ok (.aload_n 0, 1) := by decide +kernel
theorem dX3_follow_1 : decode cX3_follow 1 = .ok (.getfield 12, 3) := by decide +kernel
theorem dX3_follow_4 : decode cX3_follow 4 = .ok (.aload_n 2, 1) := by decide +kernel
theorem dX3_follow_5 : decode cX3_follow 5 = .ok (.invokevirtual 25, 3) := by decide +kernel
theorem dX3_follow_8 : decode cX3_follow 8 = .ok (.aload_n 0, 1) := by decide +kernel
theorem dX3_follow_9 : decode cX3_follow 9 = .ok (.getfield 12, 3) := by decide +kernel
theorem dX3_follow_12 : decode cX3_follow 12 = .ok (.invokevirtual 29, 3) := by decide +kernel
theorem dX3_follow_15 : decode cX3_follow 15 = .ok (.aload_n 0, 1) := by decide +kernel
theorem dX3_follow_16 : decode cX3_follow 16 = .ok (.iconst (-1), 1) := by decide +kernel
theorem dX3_follow_17 : decode cX3_follow 17 = .ok (.putfield 18, 3) := by decide +kernel
theorem dX3_follow_20 : decode cX3_follow 20 = .ok (.aload_n 0, 1) := by decide +kernel
theorem dX3_follow_21 : decode cX3_follow 21 = .ok (.iconst 0, 1) := by decide +kernel
theorem dX3_follow_22 : decode cX3_follow 22 = .ok (.putfield 22, 3) := by decide +kernel
theorem dX3_follow_25 : decode cX3_follow 25 = .ok (.iconst 0, 1) := by decide +kernel
theorem dX3_follow_26 : decode cX3_follow 26 = .ok (.istore 4, 2) := by decide +kernel
theorem dX3_follow_28 : decode cX3_follow 28 = .ok (.iload 4, 2) := by decide +kernel
theorem dX3_follow_30 : decode cX3_follow 30 = .ok (.aload_n 3, 1) := by decide +kernel
theorem dX3_follow_31 : decode cX3_follow 31 = .ok (.getfield 32, 3) := by decide +kernel
theorem dX3_follow_34 : decode cX3_follow 34 = .ok (.if_icmp .ge 36, 3) := by decide +kernel
theorem dX3_follow_37 : decode cX3_follow 37 = .ok (.aload_n 3, 1) := by decide +kernel
theorem dX3_follow_38 : decode cX3_follow 38 = .ok (.getfield 37, 3) := by decide +kernel
theorem dX3_follow_41 : decode cX3_follow 41 = .ok (.iload 4, 2) := by decide +kernel
theorem dX3_follow_43 : decode cX3_follow 43 = .ok (.iaload, 1) := by decide +kernel
theorem dX3_follow_44 : decode cX3_follow 44 = .ok (.aload_n 0, 1) := by decide +kernel
theorem dX3_follow_45 : decode cX3_follow 45 = .ok (.getfield 12, 3) := by decide +kernel
theorem dX3_follow_48 : decode cX3_follow 48 = .ok (.getfield 41, 3) := by decide +kernel
theorem dX3_follow_51 : decode cX3_follow 51 = .ok (.if_icmp .ge 13, 3) := by decide +kernel
theorem dX3_follow_54 : decode cX3_follow 54 = .ok (.aload_n 0, 1) := by decide +kernel
theorem dX3_follow_55 : decode cX3_follow 55 = .ok (.dup, 1) := by decide +kernel
theorem dX3_follow_56 : decode cX3_follow 56 = .ok (.getfield 22, 3) := by decide +kernel
theorem dX3_follow_59 : decode cX3_follow 59 = .ok (.iconst 1, 1) := by decide +kernel
theorem dX3_follow_60 : decode cX3_follow 60 = .ok (.iadd, 1) := by decide +kernel
theorem dX3_follow_61 : decode cX3_follow 61 = .ok (.putfield 22, 3) := by decide +kernel
theorem dX3_follow_64 : decode cX3_follow 64 = .ok (.iinc 4 1, 3) := by decide +kernel
theorem dX3_follow_67 : decode cX3_follow 67 = .ok (.goto (-39), 3) := by decide +kernel
theorem dX3_follow_70 : decode cX3_follow 70 = .ok (.aload_n 0, 1) := by decide +kernel
theorem dX3_follow_71 : decode cX3_follow 71 = .ok (.getfield 12, 3) := by decide +kernel
theorem dX3_follow_74 : decode cX3_follow 74 = .ok (.getfield 41, 3) := by decide +kernel
theorem dX3_follow_77 : decode cX3_follow 77 = .ok (.istore 4, 2) := by decide +kernel
theorem dX3_follow_79 : decode cX3_follow 79 = .ok (.iload 4, 2) := by decide +kernel
theorem dX3_follow_81 : decode cX3_follow 81 = .ok (.aload_n 1, 1) := by decide +kernel
theorem dX3_follow_82 : decode cX3_follow 82 = .ok (.getfield 44, 3) := by decide +kernel
theorem dX3_follow_85 : decode cX3_follow 85 = .ok (.if_icmp .ge 24, 3) := by decide +kernel
theorem dX3_follow_88 : decode cX3_follow 88 = .ok (.aload_n 0, 1) := by decide +kernel
theorem dX3_follow_89 : decode cX3_follow 89 = .ok (.aload_n 1, 1) := by decide +kernel
theorem dX3_follow_90 : decode cX3_follow 90 = .ok (.aload_n 3, 1) := by decide +kernel
theorem dX3_follow_91 : decode cX3_follow 91 = .ok (.invokevirtual 49, 3) := by decide +kernel
theorem dX3_follow_94 : decode cX3_follow 94 = .ok (.aload_n 0, 1) := by decide +kernel
theorem dX3_follow_95 : decode cX3_follow 95 = .ok (.getfield 12, 3) := by decide +kernel
theorem dX3_follow_98 : decode cX3_follow 98 = .ok (.aload_n 1, 1) := by decide +kernel
theorem dX3_follow_99 : decode cX3_follow 99 = .ok (.invokevirtual 53, 3) := by decide +kernel
theorem dX3_follow_102 : decode cX3_follow 102 = .ok (.pop, 1) := by decide +kernel
theorem dX3_follow_103 : decode cX3_follow 103 = .ok (.iinc 4 1, 3) := by decide +kernel
theorem dX3_follow_106 : decode cX3_follow 106 = .ok (.goto (-27), 3) := by decide +kernel
theorem dX3_follow_109 : decode cX3_follow 109 = .ok (.return_, 1) := by decide +kernel
theorem dX9_lookOn_0 : decode cX9_lookOn 0 = .ok (.aload_n 0, 1) := by decide +kernel
theorem dX9_lookOn_1 : decode cX9_lookOn 1 = .ok (.getfield 18, 3) := by decide +kernel
theorem dX9_lookOn_4 : decode cX9_lookOn 4 = .ok (.iconst (-1), 1) := by decide +kernel
theorem dX9_lookOn_5 : decode cX9_lookOn 5 = .ok (.invokestatic 59, 3) := by decide +kernel
theorem dX9_lookOn_8 : decode cX9_lookOn 8 = .ok (.aload_n 0, 1) := by decide +kernel
theorem dX9_lookOn_9 : decode cX9_lookOn 9 = .ok (.aload_n 1, 1) := by decide +kernel
theorem dX9_lookOn_10 : decode cX9_lookOn 10 = .ok (.getfield 65, 3) := by decide +kernel
theorem dX9_lookOn_13 : decode cX9_lookOn 13 = .ok (.putfield 22, 3) := by decide +kernel
theorem dX9_lookOn_16 : decode cX9_lookOn 16 = .ok (.aload_n 0, 1) := by decide +kernel
theorem dX9_lookOn_17 : decode cX9_lookOn 17 = .ok (.aload_n 0, 1) := by decide +kernel
theorem dX9_lookOn_18 : decode cX9_lookOn 18 = .ok (.getfield 12, 3) := by decide +kernel
theorem dX9_lookOn_21 : decode cX9_lookOn 21 = .ok (.getfield 36, 3) := by decide +kernel
theorem dX9_lookOn_24 : decode cX9_lookOn 24 = .ok (.putfield 29, 3) := by decide +kernel
theorem dX9_lookOn_27 : decode cX9_lookOn 27 = .ok (.aload_n 1, 1) := by decide +kernel
theorem dX9_lookOn_28 : decode cX9_lookOn 28 = .ok (.getfield 66, 3) := by decide +kernel
theorem dX9_lookOn_31 : decode cX9_lookOn 31 = .ok (.aload_n 0, 1) := by decide +kernel
theorem dX9_lookOn_32 : decode cX9_lookOn 32 = .ok (.getfield 12, 3) := by decide +kernel
theorem dX9_lookOn_35 : decode cX9_lookOn 35 = .ok (.getfield 69, 3) := by decide +kernel
theorem dX9_lookOn_38 : decode cX9_lookOn 38 = .ok (.isub, 1) := by decide +kernel
theorem dX9_lookOn_39 : decode cX9_lookOn 39 = .ok (.istore_n 2, 1) := by decide +kernel
theorem dX9_lookOn_40 : decode cX9_lookOn 40 = .ok (.iconst 0, 1) := by decide +kernel
theorem dX9_lookOn_41 : decode cX9_lookOn 41 = .ok (.istore_n 3, 1) := by decide +kernel
theorem dX9_lookOn_42 : decode cX9_lookOn 42 = .ok (.iload_n 3, 1) := by decide +kernel
theorem dX9_lookOn_43 : decode cX9_lookOn 43 = .ok (.iload_n 2, 1) := by decide +kernel
theorem dX9_lookOn_44 : decode cX9_lookOn 44 = .ok (.if_icmp .ge 71, 3) := by decide +kernel
theorem dX9_lookOn_47 : decode cX9_lookOn 47 = .ok (.aload_n 0, 1) := by decide +kernel
theorem dX9_lookOn_48 : decode cX9_lookOn 48 = .ok (.getfield 12, 3) := by decide +kernel
theorem dX9_lookOn_51 : decode cX9_lookOn 51 = .ok (.aload_n 1, 1) := by decide +kernel
theorem dX9_lookOn_52 : decode cX9_lookOn 52 = .ok (.invokevirtual 72, 3) := by decide +kernel
theorem dX9_lookOn_55 : decode cX9_lookOn 55 = .ok (.istore 4, 2) := by decide +kernel
theorem dX9_lookOn_57 : decode cX9_lookOn 57 = .ok (.iconst 0, 1) := by decide +kernel
theorem dX9_lookOn_58 : decode cX9_lookOn 58 = .ok (.istore 5, 2) := by decide +kernel
theorem dX9_lookOn_60 : decode cX9_lookOn 60 = .ok (.iload 5, 2) := by decide +kernel
theorem dX9_lookOn_62 : decode cX9_lookOn 62 = .ok (.aload_n 0, 1) := by decide +kernel
theorem dX9_lookOn_63 : decode cX9_lookOn 63 = .ok (.getfield 22, 3) := by decide +kernel
theorem dX9_lookOn_66 : decode cX9_lookOn 66 = .ok (.if_icmp .ge 43, 3) := by decide +kernel
theorem dX9_lookOn_69 : decode cX9_lookOn 69 = .ok (.iload 4, 2) := by decide +kernel
theorem dX9_lookOn_71 : decode cX9_lookOn 71 = .ok (.ifCond .eq 38, 3) := by decide +kernel
theorem dX9_lookOn_74 : decode cX9_lookOn 74 = .ok (.iload 4, 2) := by decide +kernel
theorem dX9_lookOn_76 : decode cX9_lookOn 76 = .ok (.iload 5, 2) := by decide +kernel
theorem dX9_lookOn_78 : decode cX9_lookOn 78 = .ok (.ishr, 1) := by decide +kernel
theorem dX9_lookOn_79 : decode cX9_lookOn 79 = .ok (.iconst 1, 1) := by decide +kernel
theorem dX9_lookOn_80 : decode cX9_lookOn 80 = .ok (.iand, 1) := by decide +kernel
theorem dX9_lookOn_81 : decode cX9_lookOn 81 = .ok (.ifCond .eq 22, 3) := by decide +kernel
theorem dX9_lookOn_84 : decode cX9_lookOn 84 = .ok (.aload_n 0, 1) := by decide +kernel
theorem dX9_lookOn_85 : decode cX9_lookOn 85 = .ok (.getfield 18, 3) := by decide +kernel
theorem dX9_lookOn_88 : decode cX9_lookOn 88 = .ok (.iload 5, 2) := by decide +kernel
theorem dX9_lookOn_90 : decode cX9_lookOn 90 = .ok (.iaload, 1) := by decide +kernel
theorem dX9_lookOn_91 : decode cX9_lookOn 91 = .ok (.iconst (-1), 1) := by decide +kernel
theorem dX9_lookOn_92 : decode cX9_lookOn 92 = .ok (.if_icmp .ne 11, 3) := by decide +kernel
theorem dX9_lookOn_95 : decode cX9_lookOn 95 = .ok (.aload_n 0, 1) := by decide +kernel
theorem dX9_lookOn_96 : decode cX9_lookOn 96 = .ok (.getfield 18, 3) := by decide +kernel
theorem dX9_lookOn_99 : decode cX9_lookOn 99 = .ok (.iload 5, 2) := by decide +kernel
theorem dX9_lookOn_101 : decode cX9_lookOn 101 = .ok (.iload_n 3, 1) := by decide +kernel
theorem dX9_lookOn_102 : decode cX9_lookOn 102 = .ok (.iastore, 1) := by decide +kernel
theorem dX9_lookOn_103 : decode cX9_lookOn 103 = .ok (.iinc 5 1, 3) := by decide +kernel
theorem dX9_lookOn_106 : decode cX9_lookOn 106 = .ok (.goto (-46), 3) := by decide +kernel
theorem dX9_lookOn_109 : decode cX9_lookOn 109 = .ok (.iinc 3 1, 3) := by decide +kernel
theorem dX9_lookOn_112 : decode cX9_lookOn 112 = .ok (.goto (-70), 3) := by decide +kernel
theorem dX9_lookOn_115 : decode cX9_lookOn 115 = .ok (.return_, 1) := by decide +kernel
theorem dX9_leaveAlone_0 : decode cX9_leaveAlone 0 = .ok (.aload_n 0, 1) := by decide +kernel
theorem dX9_leaveAlone_1 : decode cX9_leaveAlone 1 = .ok (.getfield 12, 3) := by decide +kernel
theorem dX9_leaveAlone_4 : decode cX9_leaveAlone 4 = .ok (.aload_n 2, 1) := by decide +kernel
theorem dX9_leaveAlone_5 : decode cX9_leaveAlone 5 = .ok (.invokevirtual 32, 3) := by decide +kernel
theorem dX9_leaveAlone_8 : decode cX9_leaveAlone 8 = .ok (.aload_n 0, 1) := by decide +kernel
theorem dX9_leaveAlone_9 : decode cX9_leaveAlone 9 = .ok (.getfield 12, 3) := by decide +kernel
theorem dX9_leaveAlone_12 : decode cX9_leaveAlone 12 = .ok (.iconst 0, 1) := by decide +kernel
theorem dX9_leaveAlone_13 : decode cX9_leaveAlone 13 = .ok (.putfield 36, 3) := by decide +kernel
theorem dX9_leaveAlone_16 : decode cX9_leaveAlone 16 = .ok (.aload_n 0, 1) := by decide +kernel
theorem dX9_leaveAlone_17 : decode cX9_leaveAlone 17 = .ok (.getfield 12, 3) := by decide +kernel
theorem dX9_leaveAlone_20 : decode cX9_leaveAlone 20 = .ok (.iconst (-1), 1) := by decide +kernel
theorem dX9_leaveAlone_21 : decode cX9_leaveAlone 21 = .ok (.putfield 39, 3) := by decide +kernel
theorem dX9_leaveAlone_24 : decode cX9_leaveAlone 24 = .ok (.aload_n 0, 1) := by decide +kernel
theorem dX9_leaveAlone_25 : decode cX9_leaveAlone 25 = .ok (.iconst 0, 1) := by decide +kernel
theorem dX9_leaveAlone_26 : decode cX9_leaveAlone 26 = .ok (.putfield 26, 3) := by decide +kernel
theorem dX9_leaveAlone_29 : decode cX9_leaveAlone 29 = .ok (.aload_n 0, 1) := by decide +kernel
theorem dX9_leaveAlone_30 : decode cX9_leaveAlone 30 = .ok (.aload_n 1, 1) := by decide +kernel
theorem dX9_leaveAlone_31 : decode cX9_leaveAlone 31 = .ok (.invokevirtual 55, 3) := by decide +kernel
theorem dX9_leaveAlone_34 : decode cX9_leaveAlone 34 = .ok (.return_, 1) := by decide +kernel
theorem dX9_earliest_0 : decode cX9_earliest 0 = .ok (.iconst (-1), 1) := by decide +kernel
theorem dX9_earliest_1 : decode cX9_earliest 1 = .ok (.istore_n 2, 1) := by decide +kernel
theorem dX9_earliest_2 : decode cX9_earliest 2 = .ok (.iconst 0, 1) := by decide +kernel
theorem dX9_earliest_3 : decode cX9_earliest 3 = .ok (.istore_n 3, 1) := by decide +kernel
theorem dX9_earliest_4 : decode cX9_earliest 4 = .ok (.iload_n 3, 1) := by decide +kernel
theorem dX9_earliest_5 : decode cX9_earliest 5 = .ok (.aload_n 0, 1) := by decide +kernel
theorem dX9_earliest_6 : decode cX9_earliest 6 = .ok (.getfield 22, 3) := by decide +kernel
theorem dX9_earliest_9 : decode cX9_earliest 9 = .ok (.if_icmp .ge 61, 3) := by decide +kernel
theorem dX9_earliest_12 : decode cX9_earliest 12 = .ok (.iload_n 1, 1) := by decide +kernel
theorem dX9_earliest_13 : decode cX9_earliest 13 = .ok (.iload_n 3, 1) := by decide +kernel
theorem dX9_earliest_14 : decode cX9_earliest 14 = .ok (.ishr, 1) := by decide +kernel
theorem dX9_earliest_15 : decode cX9_earliest 15 = .ok (.iconst 1, 1) := by decide +kernel
theorem dX9_earliest_16 : decode cX9_earliest 16 = .ok (.iand, 1) := by decide +kernel
theorem dX9_earliest_17 : decode cX9_earliest 17 = .ok (.ifCond .ne 17, 3) := by decide +kernel
theorem dX9_earliest_20 : decode cX9_earliest 20 = .ok (.aload_n 0, 1) := by decide +kernel
theorem dX9_earliest_21 : decode cX9_earliest 21 = .ok (.getfield 18, 3) := by decide +kernel
theorem dX9_earliest_24 : decode cX9_earliest 24 = .ok (.iload_n 3, 1) := by decide +kernel
theorem dX9_earliest_25 : decode cX9_earliest 25 = .ok (.iaload, 1) := by decide +kernel
theorem dX9_earliest_26 : decode cX9_earliest 26 = .ok (.iconst (-1), 1) := by decide +kernel
theorem dX9_earliest_27 : decode cX9_earliest 27 = .ok (.if_icmp .eq 7, 3) := by decide +kernel
theorem dX9_earliest_30 : decode cX9_earliest 30 = .ok (.iconst 1, 1) := by decide +kernel
theorem dX9_earliest_31 : decode cX9_earliest 31 = .ok (.goto 4, 3) := by decide +kernel
theorem dX9_earliest_34 : decode cX9_earliest 34 = .ok (.iconst 0, 1) := by decide +kernel
theorem dX9_earliest_35 : decode cX9_earliest 35 = .ok (.istore 4, 2) := by decide +kernel
theorem dX9_earliest_37 : decode cX9_earliest 37 = .ok (.iload 4, 2) := by decide +kernel
theorem dX9_earliest_39 : decode cX9_earliest 39 = .ok (.ifCond .eq 25, 3) := by decide +kernel
theorem dX9_earliest_42 : decode cX9_earliest 42 = .ok (.iload_n 2, 1) := by decide +kernel
theorem dX9_earliest_43 : decode cX9_earliest 43 = .ok (.iconst (-1), 1) := by decide +kernel
theorem dX9_earliest_44 : decode cX9_earliest 44 = .ok (.if_icmp .eq 18, 3) := by decide +kernel
theorem dX9_earliest_47 : decode cX9_earliest 47 = .ok (.aload_n 0, 1) := by decide +kernel
theorem dX9_earliest_48 : decode cX9_earliest 48 = .ok (.getfield 18, 3) := by decide +kernel
theorem dX9_earliest_51 : decode cX9_earliest 51 = .ok (.iload_n 3, 1) := by decide +kernel
theorem dX9_earliest_52 : decode cX9_earliest 52 = .ok (.iaload, 1) := by decide +kernel
theorem dX9_earliest_53 : decode cX9_earliest 53 = .ok (.aload_n 0, 1) := by decide +kernel
theorem dX9_earliest_54 : decode cX9_earliest 54 = .ok (.getfield 18, 3) := by decide +kernel
theorem dX9_earliest_57 : decode cX9_earliest 57 = .ok (.iload_n 2, 1) := by decide +kernel
theorem dX9_earliest_58 : decode cX9_earliest 58 = .ok (.iaload, 1) := by decide +kernel
theorem dX9_earliest_59 : decode cX9_earliest 59 = .ok (.if_icmp .ge 5, 3) := by decide +kernel
theorem dX9_earliest_62 : decode cX9_earliest 62 = .ok (.iload_n 3, 1) := by decide +kernel
theorem dX9_earliest_63 : decode cX9_earliest 63 = .ok (.istore_n 2, 1) := by decide +kernel
theorem dX9_earliest_64 : decode cX9_earliest 64 = .ok (.iinc 3 1, 3) := by decide +kernel
theorem dX9_earliest_67 : decode cX9_earliest 67 = .ok (.goto (-63), 3) := by decide +kernel
theorem dX9_earliest_70 : decode cX9_earliest 70 = .ok (.iload_n 2, 1) := by decide +kernel
theorem dX9_earliest_71 : decode cX9_earliest 71 = .ok (.ireturn, 1) := by decide +kernel
theorem dX9_lasts_0 : decode cX9_lasts 0 = .ok (.aload_n 0, 1) := by decide +kernel
theorem dX9_lasts_1 : decode cX9_lasts 1 = .ok (.iload_n 1, 1) := by decide +kernel
theorem dX9_lasts_2 : decode cX9_lasts 2 = .ok (.aload_n 0, 1) := by decide +kernel
theorem dX9_lasts_3 : decode cX9_lasts 3 = .ok (.getfield 26, 3) := by decide +kernel
theorem dX9_lasts_6 : decode cX9_lasts 6 = .ok (.ior, 1) := by decide +kernel
theorem dX9_lasts_7 : decode cX9_lasts 7 = .ok (.invokevirtual 76, 3) := by decide +kernel
theorem dX9_lasts_10 : decode cX9_lasts 10 = .ok (.istore_n 2, 1) := by decide +kernel
theorem dX9_lasts_11 : decode cX9_lasts 11 = .ok (.iload_n 2, 1) := by decide +kernel
theorem dX9_lasts_12 : decode cX9_lasts 12 = .ok (.iconst (-1), 1) := by decide +kernel
theorem dX9_lasts_13 : decode cX9_lasts 13 = .ok (.if_icmp .ne 9, 3) := by decide +kernel
theorem dX9_lasts_16 : decode cX9_lasts 16 = .ok (.sipush 999, 3) := by decide +kernel
theorem dX9_lasts_19 : decode cX9_lasts 19 = .ok (.goto 18, 3) := by decide +kernel
theorem dX9_lasts_22 : decode cX9_lasts 22 = .ok (.iconst 0, 1) := by decide +kernel
theorem dX9_lasts_23 : decode cX9_lasts 23 = .ok (.aload_n 0, 1) := by decide +kernel
theorem dX9_lasts_24 : decode cX9_lasts 24 = .ok (.getfield 18, 3) := by decide +kernel
theorem dX9_lasts_27 : decode cX9_lasts 27 = .ok (.iload_n 2, 1) := by decide +kernel
theorem dX9_lasts_28 : decode cX9_lasts 28 = .ok (.iaload, 1) := by decide +kernel
theorem dX9_lasts_29 : decode cX9_lasts 29 = .ok (.aload_n 0, 1) := by decide +kernel
theorem dX9_lasts_30 : decode cX9_lasts 30 = .ok (.getfield 29, 3) := by decide +kernel
theorem dX9_lasts_33 : decode cX9_lasts 33 = .ok (.isub, 1) := by decide +kernel
theorem dX9_lasts_34 : decode cX9_lasts 34 = .ok (.invokestatic 80, 3) := by decide +kernel
theorem dX9_lasts_37 : decode cX9_lasts 37 = .ok (.ireturn, 1) := by decide +kernel
theorem dX9_firstToDrift_0 : decode cX9_firstToDrift 0 = .ok (.aload_n 0, 1) := by decide +kernel
theorem dX9_firstToDrift_1 : decode cX9_firstToDrift 1 = .ok (.iconst 0, 1) := by decide +kernel
theorem dX9_firstToDrift_2 : decode cX9_firstToDrift 2 = .ok (.invokevirtual 76, 3) := by decide +kernel
theorem dX9_firstToDrift_5 : decode cX9_firstToDrift 5 = .ok (.ireturn, 1) := by decide +kernel
theorem dX6_addSpot_0 : decode cX6_addSpot 0 = .ok (.aload_n 0, 1) := by decide +kernel
theorem dX6_addSpot_1 : decode cX6_addSpot 1 = .ok (.getfield 28, 3) := by decide +kernel
theorem dX6_addSpot_4 : decode cX6_addSpot 4 = .ok (.bipush 6, 2) := by decide +kernel
theorem dX6_addSpot_6 : decode cX6_addSpot 6 = .ok (.if_icmp .lt 5, 3) := by decide +kernel
theorem dX6_addSpot_9 : decode cX6_addSpot 9 = .ok (.iconst 0, 1) := by decide +kernel
theorem dX6_addSpot_10 : decode cX6_addSpot 10 = .ok (.ireturn, 1) := by decide +kernel
theorem dX6_addSpot_11 : decode cX6_addSpot 11 = .ok (.aload_n 0, 1) := by decide +kernel
theorem dX6_addSpot_12 : decode cX6_addSpot 12 = .ok (.getfield 22, 3) := by decide +kernel
theorem dX6_addSpot_15 : decode cX6_addSpot 15 = .ok (.aload_n 0, 1) := by decide +kernel
theorem dX6_addSpot_16 : decode cX6_addSpot 16 = .ok (.getfield 28, 3) := by decide +kernel
theorem dX6_addSpot_19 : decode cX6_addSpot 19 = .ok (.iload_n 1, 1) := by decide +kernel
theorem dX6_addSpot_20 : decode cX6_addSpot 20 = .ok (.iastore, 1) := by decide +kernel
theorem dX6_addSpot_21 : decode cX6_addSpot 21 = .ok (.aload_n 0, 1) := by decide +kernel
theorem dX6_addSpot_22 : decode cX6_addSpot 22 = .ok (.getfield 25, 3) := by decide +kernel
theorem dX6_addSpot_25 : decode cX6_addSpot 25 = .ok (.aload_n 0, 1) := by decide +kernel
theorem dX6_addSpot_26 : decode cX6_addSpot 26 = .ok (.getfield 28, 3) := by decide +kernel
theorem dX6_addSpot_29 : decode cX6_addSpot 29 = .ok (.iload_n 2, 1) := by decide +kernel
theorem dX6_addSpot_30 : decode cX6_addSpot 30 = .ok (.iastore, 1) := by decide +kernel
theorem dX6_addSpot_31 : decode cX6_addSpot 31 = .ok (.aload_n 0, 1) := by decide +kernel
theorem dX6_addSpot_32 : decode cX6_addSpot 32 = .ok (.dup, 1) := by decide +kernel
theorem dX6_addSpot_33 : decode cX6_addSpot 33 = .ok (.getfield 28, 3) := by decide +kernel
theorem dX6_addSpot_36 : decode cX6_addSpot 36 = .ok (.iconst 1, 1) := by decide +kernel
theorem dX6_addSpot_37 : decode cX6_addSpot 37 = .ok (.iadd, 1) := by decide +kernel
theorem dX6_addSpot_38 : decode cX6_addSpot 38 = .ok (.putfield 28, 3) := by decide +kernel
theorem dX6_addSpot_41 : decode cX6_addSpot 41 = .ok (.iconst 1, 1) := by decide +kernel
theorem dX6_addSpot_42 : decode cX6_addSpot 42 = .ok (.ireturn, 1) := by decide +kernel
theorem dX2_begin_0 : decode cX2_begin 0 = .ok (.aload_n 0, 1) := by decide +kernel
theorem dX2_begin_1 : decode cX2_begin 1 = .ok (.iconst 0, 1) := by decide +kernel
theorem dX2_begin_2 : decode cX2_begin 2 = .ok (.putfield 48, 3) := by decide +kernel
theorem dX2_begin_5 : decode cX2_begin 5 = .ok (.aload_n 0, 1) := by decide +kernel
theorem dX2_begin_6 : decode cX2_begin 6 = .ok (.iconst 0, 1) := by decide +kernel
theorem dX2_begin_7 : decode cX2_begin 7 = .ok (.putfield 52, 3) := by decide +kernel
theorem dX2_begin_10 : decode cX2_begin 10 = .ok (.aload_n 0, 1) := by decide +kernel
theorem dX2_begin_11 : decode cX2_begin 11 = .ok (.iconst 1, 1) := by decide +kernel
theorem dX2_begin_12 : decode cX2_begin 12 = .ok (.putfield 55, 3) := by decide +kernel
theorem dX2_begin_15 : decode cX2_begin 15 = .ok (.aload_n 0, 1) := by decide +kernel
theorem dX2_begin_16 : decode cX2_begin 16 = .ok (.bipush 10, 2) := by decide +kernel
theorem dX2_begin_18 : decode cX2_begin 18 = .ok (.putfield 58, 3) := by decide +kernel
theorem dX2_begin_21 : decode cX2_begin 21 = .ok (.aload_n 0, 1) := by decide +kernel
theorem dX2_begin_22 : decode cX2_begin 22 = .ok (.sipush 480, 3) := by decide +kernel
theorem dX2_begin_25 : decode cX2_begin 25 = .ok (.putfield 61, 3) := by decide +kernel
theorem dX2_begin_28 : decode cX2_begin 28 = .ok (.return_, 1) := by decide +kernel
theorem dX7_skipBlanks_0 : decode cX7_skipBlanks 0 = .ok (.aload_n 0, 1) := by decide +kernel
theorem dX7_skipBlanks_1 : decode cX7_skipBlanks 1 = .ok (.getfield 23, 3) := by decide +kernel
theorem dX7_skipBlanks_4 : decode cX7_skipBlanks 4 = .ok (.aload_n 0, 1) := by decide +kernel
theorem dX7_skipBlanks_5 : decode cX7_skipBlanks 5 = .ok (.getfield 19, 3) := by decide +kernel
theorem dX7_skipBlanks_8 : decode cX7_skipBlanks 8 = .ok (.if_icmp .ge 30, 3) := by decide +kernel
theorem dX7_skipBlanks_11 : decode cX7_skipBlanks 11 = .ok (.aload_n 0, 1) := by decide +kernel
theorem dX7_skipBlanks_12 : decode cX7_skipBlanks 12 = .ok (.getfield 15, 3) := by decide +kernel
theorem dX7_skipBlanks_15 : decode cX7_skipBlanks 15 = .ok (.aload_n 0, 1) := by decide +kernel
theorem dX7_skipBlanks_16 : decode cX7_skipBlanks 16 = .ok (.getfield 23, 3) := by decide +kernel
theorem dX7_skipBlanks_19 : decode cX7_skipBlanks 19 = .ok (.baload, 1) := by decide +kernel
theorem dX7_skipBlanks_20 : decode cX7_skipBlanks 20 = .ok (.bipush 32, 2) := by decide +kernel
theorem dX7_skipBlanks_22 : decode cX7_skipBlanks 22 = .ok (.if_icmp .ne 16, 3) := by decide +kernel
theorem dX7_skipBlanks_25 : decode cX7_skipBlanks 25 = .ok (.aload_n 0, 1) := by decide +kernel
theorem dX7_skipBlanks_26 : decode cX7_skipBlanks 26 = .ok (.dup, 1) := by decide +kernel
theorem dX7_skipBlanks_27 : decode cX7_skipBlanks 27 = .ok (.getfield 23, 3) := by decide +kernel
theorem dX7_skipBlanks_30 : decode cX7_skipBlanks 30 = .ok (.iconst 1, 1) := by decide +kernel
theorem dX7_skipBlanks_31 : decode cX7_skipBlanks 31 = .ok (.iadd, 1) := by decide +kernel
theorem dX7_skipBlanks_32 : decode cX7_skipBlanks 32 = .ok (.putfield 23, 3) := by decide +kernel
theorem dX7_skipBlanks_35 : decode cX7_skipBlanks 35 = .ok (.goto (-35), 3) := by decide +kernel
theorem dX7_skipBlanks_38 : decode cX7_skipBlanks 38 = .ok (.return_, 1) := by decide +kernel
theorem dX7_refuse_0 : decode cX7_refuse 0 = .ok (.aload_n 0, 1) := by decide +kernel
theorem dX7_refuse_1 : decode cX7_refuse 1 = .ok (.iload_n 1, 1) := by decide +kernel
theorem dX7_refuse_2 : decode cX7_refuse 2 = .ok (.putfield 26, 3) := by decide +kernel
theorem dX7_refuse_5 : decode cX7_refuse 5 = .ok (.aload_n 0, 1) := by decide +kernel
theorem dX7_refuse_6 : decode cX7_refuse 6 = .ok (.iload_n 2, 1) := by decide +kernel
theorem dX7_refuse_7 : decode cX7_refuse 7 = .ok (.putfield 29, 3) := by decide +kernel
theorem dX7_refuse_10 : decode cX7_refuse 10 = .ok (.iconst 0, 1) := by decide +kernel
theorem dX7_refuse_11 : decode cX7_refuse 11 = .ok (.ireturn, 1) := by decide +kernel
theorem dX7_read_0 : decode cX7_read 0 = .ok (.aload_n 0, 1) := by decide +kernel
theorem dX7_read_1 : decode cX7_read 1 = .ok (.aload_n 1, 1) := by decide +kernel
theorem dX7_read_2 : decode cX7_read 2 = .ok (.putfield 15, 3) := by decide +kernel
theorem dX7_read_5 : decode cX7_read 5 = .ok (.aload_n 0, 1) := by decide +kernel
theorem dX7_read_6 : decode cX7_read 6 = .ok (.iload_n 2, 1) := by decide +kernel
theorem dX7_read_7 : decode cX7_read 7 = .ok (.aload_n 1, 1) := by decide +kernel
theorem dX7_read_8 : decode cX7_read 8 = .ok (.arraylength, 1) := by decide +kernel
theorem dX7_read_9 : decode cX7_read 9 = .ok (.invokestatic 32, 3) := by decide +kernel
theorem dX7_read_12 : decode cX7_read 12 = .ok (.putfield 19, 3) := by decide +kernel
theorem dX7_read_15 : decode cX7_read 15 = .ok (.aload_n 0, 1) := by decide +kernel
theorem dX7_read_16 : decode cX7_read 16 = .ok (.iconst 0, 1) := by decide +kernel
theorem dX7_read_17 : decode cX7_read 17 = .ok (.putfield 23, 3) := by decide +kernel
theorem dX7_read_20 : decode cX7_read 20 = .ok (.aload_n 0, 1) := by decide +kernel
theorem dX7_read_21 : decode cX7_read 21 = .ok (.iconst 0, 1) := by decide +kernel
theorem dX7_read_22 : decode cX7_read 22 = .ok (.putfield 26, 3) := by decide +kernel
theorem dX7_read_25 : decode cX7_read 25 = .ok (.aload_n 0, 1) := by decide +kernel
theorem dX7_read_26 : decode cX7_read 26 = .ok (.iconst (-1), 1) := by decide +kernel
theorem dX7_read_27 : decode cX7_read 27 = .ok (.putfield 29, 3) := by decide +kernel
theorem dX7_read_30 : decode cX7_read 30 = .ok (.aload_n 3, 1) := by decide +kernel
theorem dX7_read_31 : decode cX7_read 31 = .ok (.invokevirtual 38, 3) := by decide +kernel
theorem dX7_read_34 : decode cX7_read 34 = .ok (.iconst 1, 1) := by decide +kernel
theorem dX7_read_35 : decode cX7_read 35 = .ok (.istore 4, 2) := by decide +kernel
theorem dX7_read_37 : decode cX7_read 37 = .ok (.iconst 0, 1) := by decide +kernel
theorem dX7_read_38 : decode cX7_read 38 = .ok (.istore 5, 2) := by decide +kernel
theorem dX7_read_40 : decode cX7_read 40 = .ok (.iload 5, 2) := by decide +kernel
theorem dX7_read_42 : decode cX7_read 42 = .ok (.bipush 40, 2) := by decide +kernel
theorem dX7_read_44 : decode cX7_read 44 = .ok (.if_icmp .gt 46, 3) := by decide +kernel
theorem dX7_read_47 : decode cX7_read 47 = .ok (.iload 4, 2) := by decide +kernel
theorem dX7_read_49 : decode cX7_read 49 = .ok (.ifCond .eq 41, 3) := by decide +kernel
theorem dX7_read_52 : decode cX7_read 52 = .ok (.aload_n 0, 1) := by decide +kernel
theorem dX7_read_53 : decode cX7_read 53 = .ok (.invokevirtual 43, 3) := by decide +kernel
theorem dX7_read_56 : decode cX7_read 56 = .ok (.aload_n 0, 1) := by decide +kernel
theorem dX7_read_57 : decode cX7_read 57 = .ok (.getfield 23, 3) := by decide +kernel
theorem dX7_read_60 : decode cX7_read 60 = .ok (.aload_n 0, 1) := by decide +kernel
theorem dX7_read_61 : decode cX7_read 61 = .ok (.getfield 19, 3) := by decide +kernel
theorem dX7_read_64 : decode cX7_read 64 = .ok (.if_icmp .ge 17, 3) := by decide +kernel
theorem dX7_read_67 : decode cX7_read 67 = .ok (.aload_n 0, 1) := by decide +kernel
theorem dX7_read_68 : decode cX7_read 68 = .ok (.aload_n 3, 1) := by decide +kernel
theorem dX7_read_69 : decode cX7_read 69 = .ok (.iload 5, 2) := by decide +kernel
theorem dX7_read_71 : decode cX7_read 71 = .ok (.invokevirtual 46, 3) := by decide +kernel
theorem dX7_read_74 : decode cX7_read 74 = .ok (.ifCond .eq 7, 3) := by decide +kernel
theorem dX7_read_77 : decode cX7_read 77 = .ok (.iconst 1, 1) := by decide +kernel
theorem dX7_read_78 : decode cX7_read 78 = .ok (.goto 4, 3) := by decide +kernel
theorem dX7_read_81 : decode cX7_read 81 = .ok (.iconst 0, 1) := by decide +kernel
theorem dX7_read_82 : decode cX7_read 82 = .ok (.istore 4, 2) := by decide +kernel
theorem dX7_read_84 : decode cX7_read 84 = .ok (.iinc 5 1, 3) := by decide +kernel
theorem dX7_read_87 : decode cX7_read 87 = .ok (.goto (-47), 3) := by decide +kernel
theorem dX7_read_90 : decode cX7_read 90 = .ok (.aload_n 0, 1) := by decide +kernel
theorem dX7_read_91 : decode cX7_read 91 = .ok (.getfield 26, 3) := by decide +kernel
theorem dX7_read_94 : decode cX7_read 94 = .ok (.ifCond .ne 20, 3) := by decide +kernel
theorem dX7_read_97 : decode cX7_read 97 = .ok (.aload_n 3, 1) := by decide +kernel
theorem dX7_read_98 : decode cX7_read 98 = .ok (.getfield 50, 3) := by decide +kernel
theorem dX7_read_101 : decode cX7_read 101 = .ok (.ifCond .ne 13, 3) := by decide +kernel
theorem dX7_read_104 : decode cX7_read 104 = .ok (.aload_n 0, 1) := by decide +kernel
theorem dX7_read_105 : decode cX7_read 105 = .ok (.iconst 4, 1) := by decide +kernel
theorem dX7_read_106 : decode cX7_read 106 = .ok (.aload_n 0, 1) := by decide +kernel
theorem dX7_read_107 : decode cX7_read 107 = .ok (.getfield 19, 3) := by decide +kernel
theorem dX7_read_110 : decode cX7_read 110 = .ok (.invokevirtual 53, 3) := by decide +kernel
theorem dX7_read_113 : decode cX7_read 113 = .ok (.pop, 1) := by decide +kernel
theorem dX7_read_114 : decode cX7_read 114 = .ok (.aload_n 0, 1) := by decide +kernel
theorem dX7_read_115 : decode cX7_read 115 = .ok (.getfield 26, 3) := by decide +kernel
theorem dX7_read_118 : decode cX7_read 118 = .ok (.ireturn, 1) := by decide +kernel
set_option maxHeartbeats 4000000 in
set_option maxRecDepth 100000 in
/-- Integer.bitCount(0) -/
theorem c_bitCount0 (l : Launch) (hl0 : l.stackTraces = false) (D : va_G) (cy : Nat → ClassId) (sa : Nat → Nat)  (sz : Nat) : Met l yJ6_bitCount_0f7a4 (Cond.code yJ6_bitCount_0f7a4 cJ6_bitCount_0f7a4 1 (some .int) :: kWS) ({ frames := 10, cells := 0, slots := 0, locals := 300 }) (kPre D cy sa [.int 0] [] sz) (va_Qi (fun (r : Int32) (_ : Unit) => r = 0) (kB D (va_A [] sz) (fun _ => [])) (va_A [] sz)) 0 0 (va_A [] sz) := by
  refine k_ofW (Qc := fun A => va_Qi (fun (r : Int32) (_ : Unit) => r = 0) (kB D A (fun _ => [])) A) (by decide) (Nat.le_of_ble_eq_true rfl) ?_
  intro p e s m below meth c ls A E hA hP hD hG hS hl
  obtain ⟨hx, hb, hml, hown, hts, hr, hlk, hnm⟩ := id E
  have hown : s.vm.findClass RJ6 = some m.cls := hown
  have hl : lv_has ls 1 [(0, .int 0)] := hl
  obtain ⟨H, hH⟩ : ∃ H, H = s.heap := ⟨_, rfl⟩
  have hP : va_P D vwCl [] H := by rw [hH]; exact hP
  have hS : va_S A s.heap H [] := by rw [hH]; exact va_S.rf
  rw [← hH]
  clear hH
  refine lv_iload_n hx hb dJ6_bitCount_0f7a4_0 rfl (lv_at hl 0 rfl) ?_
  refine lv_iload_n hx hb dJ6_bitCount_0f7a4_1 rfl (lv_at hl 0 rfl) ?_
  refine lv_iconst (v := 1) hx hb dJ6_bitCount_0f7a4_2 (by decide) ?_
  obtain ⟨x1, ex1⟩ : ∃ z : Int32, z = ((0 : Int32).toUInt32 >>> ((1 : Int32).toUInt32 &&& Int32.toUInt32 31)).toInt32 := ⟨_, rfl⟩
  refine lv_iushr (v := x1) hx hb dJ6_bitCount_0f7a4_3 ex1.symm ?_
  obtain rfl : x1 = 0 := ex1.trans (by decide)
  refine lv_ldcw (v := 1431655765) hx hb hown (hts _ wm_503) dJ6_bitCount_0f7a4_4 ?_
  refine lv_iand hx hb dJ6_bitCount_0f7a4_7 ?_
  refine lv_topi (fun x2 ex2 => ?_)
  obtain rfl : x2 = 0 := ex2.trans (by decide)
  refine lv_isub hx hb dJ6_bitCount_0f7a4_8 ?_
  refine lv_topi (fun x3 ex3 => ?_)
  obtain rfl : x3 = 0 := ex3.trans (by decide)
  refine lv_istore_n (lv' := [(0, .int 0)]) hx hb dJ6_bitCount_0f7a4_9 rfl hl (by decide) rfl (fun ls hl => ?_)
  refine lv_iload_n hx hb dJ6_bitCount_0f7a4_10 rfl (lv_at hl 0 rfl) ?_
  refine lv_ldcw (v := 858993459) hx hb hown (hts _ wm_504) dJ6_bitCount_0f7a4_11 ?_
  refine lv_iand hx hb dJ6_bitCount_0f7a4_14 ?_
  refine lv_topi (fun x4 ex4 => ?_)
  obtain rfl : x4 = 0 := ex4.trans (by decide)
  refine lv_iload_n hx hb dJ6_bitCount_0f7a4_15 rfl (lv_at hl 0 rfl) ?_
  refine lv_iconst (v := 2) hx hb dJ6_bitCount_0f7a4_16 (by decide) ?_
  obtain ⟨x5, ex5⟩ : ∃ z : Int32, z = ((0 : Int32).toUInt32 >>> ((2 : Int32).toUInt32 &&& Int32.toUInt32 31)).toInt32 := ⟨_, rfl⟩
  refine lv_iushr (v := x5) hx hb dJ6_bitCount_0f7a4_17 ex5.symm ?_
  obtain rfl : x5 = 0 := ex5.trans (by decide)
  refine lv_ldcw (v := 858993459) hx hb hown (hts _ wm_504) dJ6_bitCount_0f7a4_18 ?_
  refine lv_iand hx hb dJ6_bitCount_0f7a4_21 ?_
  refine lv_topi (fun x6 ex6 => ?_)
  obtain rfl : x6 = 0 := ex6.trans (by decide)
  refine lv_iadd hx hb dJ6_bitCount_0f7a4_22 ?_
  refine lv_topi (fun x7 ex7 => ?_)
  obtain rfl : x7 = 0 := ex7.trans (by decide)
  refine lv_istore_n (lv' := [(0, .int 0)]) hx hb dJ6_bitCount_0f7a4_23 rfl hl (by decide) rfl (fun ls hl => ?_)
  refine lv_iload_n hx hb dJ6_bitCount_0f7a4_24 rfl (lv_at hl 0 rfl) ?_
  refine lv_iload_n hx hb dJ6_bitCount_0f7a4_25 rfl (lv_at hl 0 rfl) ?_
  refine lv_iconst (v := 4) hx hb dJ6_bitCount_0f7a4_26 (by decide) ?_
  obtain ⟨x8, ex8⟩ : ∃ z : Int32, z = ((0 : Int32).toUInt32 >>> ((4 : Int32).toUInt32 &&& Int32.toUInt32 31)).toInt32 := ⟨_, rfl⟩
  refine lv_iushr (v := x8) hx hb dJ6_bitCount_0f7a4_27 ex8.symm ?_
  obtain rfl : x8 = 0 := ex8.trans (by decide)
  refine lv_iadd hx hb dJ6_bitCount_0f7a4_28 ?_
  refine lv_topi (fun x9 ex9 => ?_)
  obtain rfl : x9 = 0 := ex9.trans (by decide)
  refine lv_ldcw (v := 252645135) hx hb hown (hts _ wm_505) dJ6_bitCount_0f7a4_29 ?_
  refine lv_iand hx hb dJ6_bitCount_0f7a4_32 ?_
  refine lv_topi (fun x10 ex10 => ?_)
  obtain rfl : x10 = 0 := ex10.trans (by decide)
  refine lv_istore_n (lv' := [(0, .int 0)]) hx hb dJ6_bitCount_0f7a4_33 rfl hl (by decide) rfl (fun ls hl => ?_)
  refine lv_iload_n hx hb dJ6_bitCount_0f7a4_34 rfl (lv_at hl 0 rfl) ?_
  refine lv_iload_n hx hb dJ6_bitCount_0f7a4_35 rfl (lv_at hl 0 rfl) ?_
  refine lv_bipush (v := 8) hx hb dJ6_bitCount_0f7a4_36 (by decide) ?_
  obtain ⟨x11, ex11⟩ : ∃ z : Int32, z = ((0 : Int32).toUInt32 >>> ((8 : Int32).toUInt32 &&& Int32.toUInt32 31)).toInt32 := ⟨_, rfl⟩
  refine lv_iushr (v := x11) hx hb dJ6_bitCount_0f7a4_38 ex11.symm ?_
  obtain rfl : x11 = 0 := ex11.trans (by decide)
  refine lv_iadd hx hb dJ6_bitCount_0f7a4_39 ?_
  refine lv_topi (fun x12 ex12 => ?_)
  obtain rfl : x12 = 0 := ex12.trans (by decide)
  refine lv_istore_n (lv' := [(0, .int 0)]) hx hb dJ6_bitCount_0f7a4_40 rfl hl (by decide) rfl (fun ls hl => ?_)
  refine lv_iload_n hx hb dJ6_bitCount_0f7a4_41 rfl (lv_at hl 0 rfl) ?_
  refine lv_iload_n hx hb dJ6_bitCount_0f7a4_42 rfl (lv_at hl 0 rfl) ?_
  refine lv_bipush (v := 16) hx hb dJ6_bitCount_0f7a4_43 (by decide) ?_
  obtain ⟨x13, ex13⟩ : ∃ z : Int32, z = ((0 : Int32).toUInt32 >>> ((16 : Int32).toUInt32 &&& Int32.toUInt32 31)).toInt32 := ⟨_, rfl⟩
  refine lv_iushr (v := x13) hx hb dJ6_bitCount_0f7a4_45 ex13.symm ?_
  obtain rfl : x13 = 0 := ex13.trans (by decide)
  refine lv_iadd hx hb dJ6_bitCount_0f7a4_46 ?_
  refine lv_topi (fun x14 ex14 => ?_)
  obtain rfl : x14 = 0 := ex14.trans (by decide)
  refine lv_istore_n (lv' := [(0, .int 0)]) hx hb dJ6_bitCount_0f7a4_47 rfl hl (by decide) rfl (fun ls hl => ?_)
  refine lv_iload_n hx hb dJ6_bitCount_0f7a4_48 rfl (lv_at hl 0 rfl) ?_
  refine lv_bipush (v := 63) hx hb dJ6_bitCount_0f7a4_49 (by decide) ?_
  refine lv_iand hx hb dJ6_bitCount_0f7a4_51 ?_
  refine lv_topi (fun x15 ex15 => ?_)
  obtain rfl : x15 = 0 := ex15.trans (by decide)
  exact k_iret () hx hb hr hlk (rfl) (hP.sub [] rfl) (hD.sub [] (by decide) rfl) hS (by decide) (by decide) dJ6_bitCount_0f7a4_52

set_option maxHeartbeats 4000000 in
set_option maxRecDepth 100000 in
/-- Arrays.fill(row, -1), a row of nine -/
theorem c_fill9 (l : Launch) (hl0 : l.stackTraces = false) (D : va_G) (cy : Nat → ClassId) (sa : Nat → Nat) (a0 : Nat) (sz : Nat) : Met l yJ7_fill_53178 (Cond.code yJ7_fill_53178 cJ7_fill_53178 4 none :: kWS) ({ frames := 10, cells := 0, slots := 0, locals := 300 }) (kPre D cy sa [.ref a0, .int (-1)] [(a0, .inl (cy 0, 9, .inl (fun _ => 0)))] sz) (va_Qv (fun (_ : Nat → Int32) => True) (kB D (va_A [(a0, .inl (cy 0, 9, .inl (fun _ => 0)))] sz) (fun f => [(a0, .inl (cy 0, 9, .inl f))])) (va_A [(a0, .inl (cy 0, 9, .inl (fun _ => 0)))] sz)) 0 0 (va_A [(a0, .inl (cy 0, 9, .inl (fun _ => 0)))] sz) := by
  refine k_ofW (Qc := fun A => va_Qv (fun (_ : Nat → Int32) => True) (kB D A (fun f => [(a0, .inl (cy 0, 9, .inl f))])) A) (by decide) (Nat.le_of_ble_eq_true rfl) ?_
  intro p e s m below meth c ls A E hA hP hD hG hS hl
  obtain ⟨hx, hb, hml, hown, hts, hr, hlk, hnm⟩ := id E
  have hown : s.vm.findClass RJ7 = some m.cls := hown
  have hl : lv_has ls 4 [(0, .ref a0), (1, .int (-1))] := hl
  obtain ⟨H, hH⟩ : ∃ H, H = s.heap := ⟨_, rfl⟩
  have hP : va_P D vwCl [(a0, .inl (cy 0, 9, .inl (fun _ => 0)))] H := by rw [hH]; exact hP
  have hS : va_S A s.heap H [] := by rw [hH]; exact va_S.rf
  rw [← hH]
  clear hH
  refine lv_iconst (v := 0) hx hb dJ7_fill_53178_0 (by decide) ?_
  refine lv_istore_n (lv' := [(2, .int 0), (0, .ref a0), (1, .int (-1))]) hx hb dJ7_fill_53178_1 rfl hl (by decide) rfl (fun ls hl => ?_)
  refine lv_aload_n hx hb dJ7_fill_53178_2 rfl (lv_at hl 1 rfl) ?_
  refine va_alen (v := 9) hx hb hG.1 hP 0 0 rfl rfl rfl dJ7_fill_53178_3 ?_
  refine lv_istore_n (lv' := [(3, .int 9), (2, .int 0), (0, .ref a0), (1, .int (-1))]) hx hb dJ7_fill_53178_4 rfl hl (by decide) rfl (fun ls hl => ?_)
  refine lv_iload_n hx hb dJ7_fill_53178_5 rfl (lv_at hl 1 rfl) ?_
  refine lv_iload_n hx hb dJ7_fill_53178_6 rfl (lv_at hl 0 rfl) ?_
  refine lv_icmp_ge (tgt := 20) hx hb dJ7_fill_53178_7 (by decide) (fun h => absurd h (by decide)) (fun _ => ?_)
  refine lv_aload_n hx hb dJ7_fill_53178_10 rfl (lv_at hl 2 rfl) ?_
  refine lv_iload_n hx hb dJ7_fill_53178_11 rfl (lv_at hl 1 rfl) ?_
  refine lv_iload_n hx hb dJ7_fill_53178_12 rfl (lv_at hl 3 rfl) ?_
  refine va_iast hx hb hG.1 hP hD hS 0 0 rfl rfl (by unfold vp_in; decide) dJ7_fill_53178_13 (fun H locs hP hD hS => ?_)
  have hP : va_P D vwCl [(a0, .inl (cy 0, 9, .inl (upd (fun _ => 0) (0 : Int32).toNatClampNeg (-1))))] H := hP
  have hD : va_D A [(a0, .inl (cy 0, 9, .inl (upd (fun _ => 0) (0 : Int32).toNatClampNeg (-1))))] := hD
  refine lv_iinc (v := 1) (lv' := [(2, .int 1), (3, .int 9), (0, .ref a0), (1, .int (-1))]) hx hb dJ7_fill_53178_14 hl (k := 1) rfl (by decide) (by decide) rfl (fun ls hl => ?_)
  refine lv_goto (tgt := 5) hx hb dJ7_fill_53178_17 (by decide) ?_
  refine lv_iload_n hx hb dJ7_fill_53178_5 rfl (lv_at hl 0 rfl) ?_
  refine lv_iload_n hx hb dJ7_fill_53178_6 rfl (lv_at hl 1 rfl) ?_
  refine lv_icmp_ge (tgt := 20) hx hb dJ7_fill_53178_7 (by decide) (fun h => absurd h (by decide)) (fun _ => ?_)
  refine lv_aload_n hx hb dJ7_fill_53178_10 rfl (lv_at hl 2 rfl) ?_
  refine lv_iload_n hx hb dJ7_fill_53178_11 rfl (lv_at hl 0 rfl) ?_
  refine lv_iload_n hx hb dJ7_fill_53178_12 rfl (lv_at hl 3 rfl) ?_
  refine va_iast hx hb hG.1 hP hD hS 0 0 rfl rfl (by unfold vp_in; decide) dJ7_fill_53178_13 (fun H locs hP hD hS => ?_)
  have hP : va_P D vwCl [(a0, .inl (cy 0, 9, .inl (upd (upd (fun _ => 0) (0 : Int32).toNatClampNeg (-1)) (1 : Int32).toNatClampNeg (-1))))] H := hP
  have hD : va_D A [(a0, .inl (cy 0, 9, .inl (upd (upd (fun _ => 0) (0 : Int32).toNatClampNeg (-1)) (1 : Int32).toNatClampNeg (-1))))] := hD
  refine lv_iinc (v := 2) (lv' := [(2, .int 2), (3, .int 9), (0, .ref a0), (1, .int (-1))]) hx hb dJ7_fill_53178_14 hl (k := 0) rfl (by decide) (by decide) rfl (fun ls hl => ?_)
  refine lv_goto (tgt := 5) hx hb dJ7_fill_53178_17 (by decide) ?_
  refine lv_iload_n hx hb dJ7_fill_53178_5 rfl (lv_at hl 0 rfl) ?_
  refine lv_iload_n hx hb dJ7_fill_53178_6 rfl (lv_at hl 1 rfl) ?_
  refine lv_icmp_ge (tgt := 20) hx hb dJ7_fill_53178_7 (by decide) (fun h => absurd h (by decide)) (fun _ => ?_)
  refine lv_aload_n hx hb dJ7_fill_53178_10 rfl (lv_at hl 2 rfl) ?_
  refine lv_iload_n hx hb dJ7_fill_53178_11 rfl (lv_at hl 0 rfl) ?_
  refine lv_iload_n hx hb dJ7_fill_53178_12 rfl (lv_at hl 3 rfl) ?_
  refine va_iast hx hb hG.1 hP hD hS 0 0 rfl rfl (by unfold vp_in; decide) dJ7_fill_53178_13 (fun H locs hP hD hS => ?_)
  have hP : va_P D vwCl [(a0, .inl (cy 0, 9, .inl (upd (upd (upd (fun _ => 0) (0 : Int32).toNatClampNeg (-1)) (1 : Int32).toNatClampNeg (-1)) (2 : Int32).toNatClampNeg (-1))))] H := hP
  have hD : va_D A [(a0, .inl (cy 0, 9, .inl (upd (upd (upd (fun _ => 0) (0 : Int32).toNatClampNeg (-1)) (1 : Int32).toNatClampNeg (-1)) (2 : Int32).toNatClampNeg (-1))))] := hD
  refine lv_iinc (v := 3) (lv' := [(2, .int 3), (3, .int 9), (0, .ref a0), (1, .int (-1))]) hx hb dJ7_fill_53178_14 hl (k := 0) rfl (by decide) (by decide) rfl (fun ls hl => ?_)
  refine lv_goto (tgt := 5) hx hb dJ7_fill_53178_17 (by decide) ?_
  refine lv_iload_n hx hb dJ7_fill_53178_5 rfl (lv_at hl 0 rfl) ?_
  refine lv_iload_n hx hb dJ7_fill_53178_6 rfl (lv_at hl 1 rfl) ?_
  refine lv_icmp_ge (tgt := 20) hx hb dJ7_fill_53178_7 (by decide) (fun h => absurd h (by decide)) (fun _ => ?_)
  refine lv_aload_n hx hb dJ7_fill_53178_10 rfl (lv_at hl 2 rfl) ?_
  refine lv_iload_n hx hb dJ7_fill_53178_11 rfl (lv_at hl 0 rfl) ?_
  refine lv_iload_n hx hb dJ7_fill_53178_12 rfl (lv_at hl 3 rfl) ?_
  refine va_iast hx hb hG.1 hP hD hS 0 0 rfl rfl (by unfold vp_in; decide) dJ7_fill_53178_13 (fun H locs hP hD hS => ?_)
  have hP : va_P D vwCl [(a0, .inl (cy 0, 9, .inl (upd (upd (upd (upd (fun _ => 0) (0 : Int32).toNatClampNeg (-1)) (1 : Int32).toNatClampNeg (-1)) (2 : Int32).toNatClampNeg (-1)) (3 : Int32).toNatClampNeg (-1))))] H := hP
  have hD : va_D A [(a0, .inl (cy 0, 9, .inl (upd (upd (upd (upd (fun _ => 0) (0 : Int32).toNatClampNeg (-1)) (1 : Int32).toNatClampNeg (-1)) (2 : Int32).toNatClampNeg (-1)) (3 : Int32).toNatClampNeg (-1))))] := hD
  refine lv_iinc (v := 4) (lv' := [(2, .int 4), (3, .int 9), (0, .ref a0), (1, .int (-1))]) hx hb dJ7_fill_53178_14 hl (k := 0) rfl (by decide) (by decide) rfl (fun ls hl => ?_)
  refine lv_goto (tgt := 5) hx hb dJ7_fill_53178_17 (by decide) ?_
  refine lv_iload_n hx hb dJ7_fill_53178_5 rfl (lv_at hl 0 rfl) ?_
  refine lv_iload_n hx hb dJ7_fill_53178_6 rfl (lv_at hl 1 rfl) ?_
  refine lv_icmp_ge (tgt := 20) hx hb dJ7_fill_53178_7 (by decide) (fun h => absurd h (by decide)) (fun _ => ?_)
  refine lv_aload_n hx hb dJ7_fill_53178_10 rfl (lv_at hl 2 rfl) ?_
  refine lv_iload_n hx hb dJ7_fill_53178_11 rfl (lv_at hl 0 rfl) ?_
  refine lv_iload_n hx hb dJ7_fill_53178_12 rfl (lv_at hl 3 rfl) ?_
  refine va_iast hx hb hG.1 hP hD hS 0 0 rfl rfl (by unfold vp_in; decide) dJ7_fill_53178_13 (fun H locs hP hD hS => ?_)
  have hP : va_P D vwCl [(a0, .inl (cy 0, 9, .inl (upd (upd (upd (upd (upd (fun _ => 0) (0 : Int32).toNatClampNeg (-1)) (1 : Int32).toNatClampNeg (-1)) (2 : Int32).toNatClampNeg (-1)) (3 : Int32).toNatClampNeg (-1)) (4 : Int32).toNatClampNeg (-1))))] H := hP
  have hD : va_D A [(a0, .inl (cy 0, 9, .inl (upd (upd (upd (upd (upd (fun _ => 0) (0 : Int32).toNatClampNeg (-1)) (1 : Int32).toNatClampNeg (-1)) (2 : Int32).toNatClampNeg (-1)) (3 : Int32).toNatClampNeg (-1)) (4 : Int32).toNatClampNeg (-1))))] := hD
  refine lv_iinc (v := 5) (lv' := [(2, .int 5), (3, .int 9), (0, .ref a0), (1, .int (-1))]) hx hb dJ7_fill_53178_14 hl (k := 0) rfl (by decide) (by decide) rfl (fun ls hl => ?_)
  refine lv_goto (tgt := 5) hx hb dJ7_fill_53178_17 (by decide) ?_
  refine lv_iload_n hx hb dJ7_fill_53178_5 rfl (lv_at hl 0 rfl) ?_
  refine lv_iload_n hx hb dJ7_fill_53178_6 rfl (lv_at hl 1 rfl) ?_
  refine lv_icmp_ge (tgt := 20) hx hb dJ7_fill_53178_7 (by decide) (fun h => absurd h (by decide)) (fun _ => ?_)
  refine lv_aload_n hx hb dJ7_fill_53178_10 rfl (lv_at hl 2 rfl) ?_
  refine lv_iload_n hx hb dJ7_fill_53178_11 rfl (lv_at hl 0 rfl) ?_
  refine lv_iload_n hx hb dJ7_fill_53178_12 rfl (lv_at hl 3 rfl) ?_
  refine va_iast hx hb hG.1 hP hD hS 0 0 rfl rfl (by unfold vp_in; decide) dJ7_fill_53178_13 (fun H locs hP hD hS => ?_)
  have hP : va_P D vwCl [(a0, .inl (cy 0, 9, .inl (upd (upd (upd (upd (upd (upd (fun _ => 0) (0 : Int32).toNatClampNeg (-1)) (1 : Int32).toNatClampNeg (-1)) (2 : Int32).toNatClampNeg (-1)) (3 : Int32).toNatClampNeg (-1)) (4 : Int32).toNatClampNeg (-1)) (5 : Int32).toNatClampNeg (-1))))] H := hP
  have hD : va_D A [(a0, .inl (cy 0, 9, .inl (upd (upd (upd (upd (upd (upd (fun _ => 0) (0 : Int32).toNatClampNeg (-1)) (1 : Int32).toNatClampNeg (-1)) (2 : Int32).toNatClampNeg (-1)) (3 : Int32).toNatClampNeg (-1)) (4 : Int32).toNatClampNeg (-1)) (5 : Int32).toNatClampNeg (-1))))] := hD
  refine lv_iinc (v := 6) (lv' := [(2, .int 6), (3, .int 9), (0, .ref a0), (1, .int (-1))]) hx hb dJ7_fill_53178_14 hl (k := 0) rfl (by decide) (by decide) rfl (fun ls hl => ?_)
  refine lv_goto (tgt := 5) hx hb dJ7_fill_53178_17 (by decide) ?_
  refine lv_iload_n hx hb dJ7_fill_53178_5 rfl (lv_at hl 0 rfl) ?_
  refine lv_iload_n hx hb dJ7_fill_53178_6 rfl (lv_at hl 1 rfl) ?_
  refine lv_icmp_ge (tgt := 20) hx hb dJ7_fill_53178_7 (by decide) (fun h => absurd h (by decide)) (fun _ => ?_)
  refine lv_aload_n hx hb dJ7_fill_53178_10 rfl (lv_at hl 2 rfl) ?_
  refine lv_iload_n hx hb dJ7_fill_53178_11 rfl (lv_at hl 0 rfl) ?_
  refine lv_iload_n hx hb dJ7_fill_53178_12 rfl (lv_at hl 3 rfl) ?_
  refine va_iast hx hb hG.1 hP hD hS 0 0 rfl rfl (by unfold vp_in; decide) dJ7_fill_53178_13 (fun H locs hP hD hS => ?_)
  have hP : va_P D vwCl [(a0, .inl (cy 0, 9, .inl (upd (upd (upd (upd (upd (upd (upd (fun _ => 0) (0 : Int32).toNatClampNeg (-1)) (1 : Int32).toNatClampNeg (-1)) (2 : Int32).toNatClampNeg (-1)) (3 : Int32).toNatClampNeg (-1)) (4 : Int32).toNatClampNeg (-1)) (5 : Int32).toNatClampNeg (-1)) (6 : Int32).toNatClampNeg (-1))))] H := hP
  have hD : va_D A [(a0, .inl (cy 0, 9, .inl (upd (upd (upd (upd (upd (upd (upd (fun _ => 0) (0 : Int32).toNatClampNeg (-1)) (1 : Int32).toNatClampNeg (-1)) (2 : Int32).toNatClampNeg (-1)) (3 : Int32).toNatClampNeg (-1)) (4 : Int32).toNatClampNeg (-1)) (5 : Int32).toNatClampNeg (-1)) (6 : Int32).toNatClampNeg (-1))))] := hD
  refine lv_iinc (v := 7) (lv' := [(2, .int 7), (3, .int 9), (0, .ref a0), (1, .int (-1))]) hx hb dJ7_fill_53178_14 hl (k := 0) rfl (by decide) (by decide) rfl (fun ls hl => ?_)
  refine lv_goto (tgt := 5) hx hb dJ7_fill_53178_17 (by decide) ?_
  refine lv_iload_n hx hb dJ7_fill_53178_5 rfl (lv_at hl 0 rfl) ?_
  refine lv_iload_n hx hb dJ7_fill_53178_6 rfl (lv_at hl 1 rfl) ?_
  refine lv_icmp_ge (tgt := 20) hx hb dJ7_fill_53178_7 (by decide) (fun h => absurd h (by decide)) (fun _ => ?_)
  refine lv_aload_n hx hb dJ7_fill_53178_10 rfl (lv_at hl 2 rfl) ?_
  refine lv_iload_n hx hb dJ7_fill_53178_11 rfl (lv_at hl 0 rfl) ?_
  refine lv_iload_n hx hb dJ7_fill_53178_12 rfl (lv_at hl 3 rfl) ?_
  refine va_iast hx hb hG.1 hP hD hS 0 0 rfl rfl (by unfold vp_in; decide) dJ7_fill_53178_13 (fun H locs hP hD hS => ?_)
  have hP : va_P D vwCl [(a0, .inl (cy 0, 9, .inl (upd (upd (upd (upd (upd (upd (upd (upd (fun _ => 0) (0 : Int32).toNatClampNeg (-1)) (1 : Int32).toNatClampNeg (-1)) (2 : Int32).toNatClampNeg (-1)) (3 : Int32).toNatClampNeg (-1)) (4 : Int32).toNatClampNeg (-1)) (5 : Int32).toNatClampNeg (-1)) (6 : Int32).toNatClampNeg (-1)) (7 : Int32).toNatClampNeg (-1))))] H := hP
  have hD : va_D A [(a0, .inl (cy 0, 9, .inl (upd (upd (upd (upd (upd (upd (upd (upd (fun _ => 0) (0 : Int32).toNatClampNeg (-1)) (1 : Int32).toNatClampNeg (-1)) (2 : Int32).toNatClampNeg (-1)) (3 : Int32).toNatClampNeg (-1)) (4 : Int32).toNatClampNeg (-1)) (5 : Int32).toNatClampNeg (-1)) (6 : Int32).toNatClampNeg (-1)) (7 : Int32).toNatClampNeg (-1))))] := hD
  refine lv_iinc (v := 8) (lv' := [(2, .int 8), (3, .int 9), (0, .ref a0), (1, .int (-1))]) hx hb dJ7_fill_53178_14 hl (k := 0) rfl (by decide) (by decide) rfl (fun ls hl => ?_)
  refine lv_goto (tgt := 5) hx hb dJ7_fill_53178_17 (by decide) ?_
  refine lv_iload_n hx hb dJ7_fill_53178_5 rfl (lv_at hl 0 rfl) ?_
  refine lv_iload_n hx hb dJ7_fill_53178_6 rfl (lv_at hl 1 rfl) ?_
  refine lv_icmp_ge (tgt := 20) hx hb dJ7_fill_53178_7 (by decide) (fun h => absurd h (by decide)) (fun _ => ?_)
  refine lv_aload_n hx hb dJ7_fill_53178_10 rfl (lv_at hl 2 rfl) ?_
  refine lv_iload_n hx hb dJ7_fill_53178_11 rfl (lv_at hl 0 rfl) ?_
  refine lv_iload_n hx hb dJ7_fill_53178_12 rfl (lv_at hl 3 rfl) ?_
  refine va_iast hx hb hG.1 hP hD hS 0 0 rfl rfl (by unfold vp_in; decide) dJ7_fill_53178_13 (fun H locs hP hD hS => ?_)
  have hP : va_P D vwCl [(a0, .inl (cy 0, 9, .inl (upd (upd (upd (upd (upd (upd (upd (upd (upd (fun _ => 0) (0 : Int32).toNatClampNeg (-1)) (1 : Int32).toNatClampNeg (-1)) (2 : Int32).toNatClampNeg (-1)) (3 : Int32).toNatClampNeg (-1)) (4 : Int32).toNatClampNeg (-1)) (5 : Int32).toNatClampNeg (-1)) (6 : Int32).toNatClampNeg (-1)) (7 : Int32).toNatClampNeg (-1)) (8 : Int32).toNatClampNeg (-1))))] H := hP
  have hD : va_D A [(a0, .inl (cy 0, 9, .inl (upd (upd (upd (upd (upd (upd (upd (upd (upd (fun _ => 0) (0 : Int32).toNatClampNeg (-1)) (1 : Int32).toNatClampNeg (-1)) (2 : Int32).toNatClampNeg (-1)) (3 : Int32).toNatClampNeg (-1)) (4 : Int32).toNatClampNeg (-1)) (5 : Int32).toNatClampNeg (-1)) (6 : Int32).toNatClampNeg (-1)) (7 : Int32).toNatClampNeg (-1)) (8 : Int32).toNatClampNeg (-1))))] := hD
  refine lv_iinc (v := 9) (lv' := [(2, .int 9), (3, .int 9), (0, .ref a0), (1, .int (-1))]) hx hb dJ7_fill_53178_14 hl (k := 0) rfl (by decide) (by decide) rfl (fun ls hl => ?_)
  refine lv_goto (tgt := 5) hx hb dJ7_fill_53178_17 (by decide) ?_
  refine lv_iload_n hx hb dJ7_fill_53178_5 rfl (lv_at hl 0 rfl) ?_
  refine lv_iload_n hx hb dJ7_fill_53178_6 rfl (lv_at hl 1 rfl) ?_
  refine lv_icmp_ge (tgt := 20) hx hb dJ7_fill_53178_7 (by decide) (fun _ => ?_) (fun h => absurd (by decide) h)
  exact k_vret (upd (upd (upd (upd (upd (upd (upd (upd (upd (fun _ => 0) (0 : Int32).toNatClampNeg (-1)) (1 : Int32).toNatClampNeg (-1)) (2 : Int32).toNatClampNeg (-1)) (3 : Int32).toNatClampNeg (-1)) (4 : Int32).toNatClampNeg (-1)) (5 : Int32).toNatClampNeg (-1)) (6 : Int32).toNatClampNeg (-1)) (7 : Int32).toNatClampNeg (-1)) (8 : Int32).toNatClampNeg (-1)) hx hb hr hlk (trivial) (hP.sub [0] rfl) (hD.sub [0] (by decide) rfl) hS (by decide) (by decide) dJ7_fill_53178_20

set_option maxHeartbeats 4000000 in
set_option maxRecDepth 100000 in
/-- Moment.forget, all 0 -/
theorem c_Moment_forget (l : Launch) (hl0 : l.stackTraces = false) (D : va_G) (cy : Nat → ClassId) (sa : Nat → Nat) (h0 a0 a1 : Nat) (sz : Nat) : Met l yX5_forget (Cond.code yX5_forget cX5_forget 1 none :: kWS) ({ frames := 11, cells := 0, slots := 0, locals := 360 }) (kPre D cy sa [.ref h0] [(h0, .inr (7, [.ref a0, .ref a1, .int 0, .int 0, .int 0, .int 0, .int 0, .int 0, .int 0, .int 0]))] sz) (va_Qv (fun (_ : Unit) => True) (kB D (va_A [(h0, .inr (7, [.ref a0, .ref a1, .int 0, .int 0, .int 0, .int 0, .int 0, .int 0, .int 0, .int 0]))] sz) (fun _ => [(h0, .inr (7, [.ref a0, .ref a1, .int 0, .int 0, .int 0, .int 0, .int 0, .int 0, .int 0, .int 0]))])) (va_A [(h0, .inr (7, [.ref a0, .ref a1, .int 0, .int 0, .int 0, .int 0, .int 0, .int 0, .int 0, .int 0]))] sz)) 0 0 (va_A [(h0, .inr (7, [.ref a0, .ref a1, .int 0, .int 0, .int 0, .int 0, .int 0, .int 0, .int 0, .int 0]))] sz) := by
  refine k_ofW (Qc := fun A => va_Qv (fun (_ : Unit) => True) (kB D A (fun _ => [(h0, .inr (7, [.ref a0, .ref a1, .int 0, .int 0, .int 0, .int 0, .int 0, .int 0, .int 0, .int 0]))])) A) (by decide) (Nat.le_of_ble_eq_true rfl) ?_
  intro p e s m below meth c ls A E hA hP hD hG hS hl
  obtain ⟨hx, hb, hml, hown, hts, hr, hlk, hnm⟩ := id E
  have hown : s.vm.findClass RX5 = some m.cls := hown
  have hl : lv_has ls 1 [(0, .ref h0)] := hl
  obtain ⟨H, hH⟩ : ∃ H, H = s.heap := ⟨_, rfl⟩
  have hP : va_P D vwCl [(h0, .inr (7, [.ref a0, .ref a1, .int 0, .int 0, .int 0, .int 0, .int 0, .int 0, .int 0, .int 0]))] H := by rw [hH]; exact hP
  have hS : va_S A s.heap H [] := by rw [hH]; exact va_S.rf
  rw [← hH]
  clear hH
  refine lv_aload_n hx hb dX5_forget_0 rfl (lv_at hl 0 rfl) ?_
  refine lv_iconst (v := 0) hx hb dX5_forget_1 (by decide) ?_
  refine va_put (D := D) (ci := 7) (v := .int 0) (ty := .int) (C := RX5) (T := TX5) (N := 10) hx hb hts kin_RX5 tyX5 tyX5_ok nmX5 hown hG.1 hP hD hS 0 rfl rfl 7 (by decide) (hts _ wm_203) (fun _ h9 => h9) rfl (by decide +kernel) rfl rfl (Nat.le_of_ble_eq_true rfl) dX5_forget_2 (fun H locs hP hD hS => ?_)
  have hP : va_P D vwCl [(h0, .inr (7, [.ref a0, .ref a1, .int 0, .int 0, .int 0, .int 0, .int 0, .int 0, .int 0, .int 0]))] H := hP
  have hD : va_D A [(h0, .inr (7, [.ref a0, .ref a1, .int 0, .int 0, .int 0, .int 0, .int 0, .int 0, .int 0, .int 0]))] := hD
  refine lv_aload_n hx hb dX5_forget_5 rfl (lv_at hl 0 rfl) ?_
  refine lv_iconst (v := 0) hx hb dX5_forget_6 (by decide) ?_
  refine va_put (D := D) (ci := 7) (v := .int 0) (ty := .int) (C := RX5) (T := TX5) (N := 10) hx hb hts kin_RX5 tyX5 tyX5_ok nmX5 hown hG.1 hP hD hS 0 rfl rfl 8 (by decide) (hts _ wm_205) (fun _ h9 => h9) rfl (by decide +kernel) rfl rfl (Nat.le_of_ble_eq_true rfl) dX5_forget_7 (fun H locs hP hD hS => ?_)
  have hP : va_P D vwCl [(h0, .inr (7, [.ref a0, .ref a1, .int 0, .int 0, .int 0, .int 0, .int 0, .int 0, .int 0, .int 0]))] H := hP
  have hD : va_D A [(h0, .inr (7, [.ref a0, .ref a1, .int 0, .int 0, .int 0, .int 0, .int 0, .int 0, .int 0, .int 0]))] := hD
  refine lv_aload_n hx hb dX5_forget_10 rfl (lv_at hl 0 rfl) ?_
  refine lv_iconst (v := 0) hx hb dX5_forget_11 (by decide) ?_
  refine va_put (D := D) (ci := 7) (v := .int 0) (ty := .int) (C := RX5) (T := TX5) (N := 10) hx hb hts kin_RX5 tyX5 tyX5_ok nmX5 hown hG.1 hP hD hS 0 rfl rfl 9 (by decide) (hts _ wm_207) (fun _ h9 => h9) rfl (by decide +kernel) rfl rfl (Nat.le_of_ble_eq_true rfl) dX5_forget_12 (fun H locs hP hD hS => ?_)
  have hP : va_P D vwCl [(h0, .inr (7, [.ref a0, .ref a1, .int 0, .int 0, .int 0, .int 0, .int 0, .int 0, .int 0, .int 0]))] H := hP
  have hD : va_D A [(h0, .inr (7, [.ref a0, .ref a1, .int 0, .int 0, .int 0, .int 0, .int 0, .int 0, .int 0, .int 0]))] := hD
  exact k_vret () hx hb hr hlk (trivial) (hP.sub [0] rfl) (hD.sub [0] (by decide) rfl) hS (by decide) (by decide) dX5_forget_15

set_option maxHeartbeats 4000000 in
set_option maxRecDepth 100000 in
/-- Moment.copy, all 0 -/
theorem c_Moment_copy (l : Launch) (hl0 : l.stackTraces = false) (D : va_G) (cy : Nat → ClassId) (sa : Nat → Nat) (h0 a0 a1 h1 b0 b1 : Nat) (sz : Nat) : Met l yX5_copy (Cond.code yX5_copy cX5_copy 2 none :: kWS) ({ frames := 11, cells := 0, slots := 0, locals := 360 }) (kPre D cy sa [.ref h0, .ref h1] [(h0, .inr (7, [.ref a0, .ref a1, .int 0, .int 0, .int 0, .int 0, .int 0, .int 0, .int 0, .int 0])), (a0, .inl (cy 0, 9, .inl (fun _ => 0))), (a1, .inl (cy 0, 9, .inl (fun _ => 0))), (h1, .inr (7, [.ref b0, .ref b1, .int 0, .int 0, .int 0, .int 0, .int 0, .int 0, .int 0, .int 0])), (b0, .inl (cy 0, 9, .inl (fun _ => 0))), (b1, .inl (cy 0, 9, .inl (fun _ => 0)))] sz) (va_Qv (fun (_ : Unit) => True) (kB D (va_A [(h0, .inr (7, [.ref a0, .ref a1, .int 0, .int 0, .int 0, .int 0, .int 0, .int 0, .int 0, .int 0])), (a0, .inl (cy 0, 9, .inl (fun _ => 0))), (a1, .inl (cy 0, 9, .inl (fun _ => 0))), (h1, .inr (7, [.ref b0, .ref b1, .int 0, .int 0, .int 0, .int 0, .int 0, .int 0, .int 0, .int 0])), (b0, .inl (cy 0, 9, .inl (fun _ => 0))), (b1, .inl (cy 0, 9, .inl (fun _ => 0)))] sz) (fun _ => [(h0, .inr (7, [.ref a0, .ref a1, .int 0, .int 0, .int 0, .int 0, .int 0, .int 0, .int 0, .int 0])), (a0, .inl (cy 0, 9, .inl (fun _ => 0))), (a1, .inl (cy 0, 9, .inl (fun _ => 0))), (h1, .inr (7, [.ref b0, .ref b1, .int 0, .int 0, .int 0, .int 0, .int 0, .int 0, .int 0, .int 0])), (b0, .inl (cy 0, 9, .inl (fun _ => 0))), (b1, .inl (cy 0, 9, .inl (fun _ => 0)))])) (va_A [(h0, .inr (7, [.ref a0, .ref a1, .int 0, .int 0, .int 0, .int 0, .int 0, .int 0, .int 0, .int 0])), (a0, .inl (cy 0, 9, .inl (fun _ => 0))), (a1, .inl (cy 0, 9, .inl (fun _ => 0))), (h1, .inr (7, [.ref b0, .ref b1, .int 0, .int 0, .int 0, .int 0, .int 0, .int 0, .int 0, .int 0])), (b0, .inl (cy 0, 9, .inl (fun _ => 0))), (b1, .inl (cy 0, 9, .inl (fun _ => 0)))] sz)) 0 0 (va_A [(h0, .inr (7, [.ref a0, .ref a1, .int 0, .int 0, .int 0, .int 0, .int 0, .int 0, .int 0, .int 0])), (a0, .inl (cy 0, 9, .inl (fun _ => 0))), (a1, .inl (cy 0, 9, .inl (fun _ => 0))), (h1, .inr (7, [.ref b0, .ref b1, .int 0, .int 0, .int 0, .int 0, .int 0, .int 0, .int 0, .int 0])), (b0, .inl (cy 0, 9, .inl (fun _ => 0))), (b1, .inl (cy 0, 9, .inl (fun _ => 0)))] sz) := by
  refine k_ofW (Qc := fun A => va_Qv (fun (_ : Unit) => True) (kB D A (fun _ => [(h0, .inr (7, [.ref a0, .ref a1, .int 0, .int 0, .int 0, .int 0, .int 0, .int 0, .int 0, .int 0])), (a0, .inl (cy 0, 9, .inl (fun _ => 0))), (a1, .inl (cy 0, 9, .inl (fun _ => 0))), (h1, .inr (7, [.ref b0, .ref b1, .int 0, .int 0, .int 0, .int 0, .int 0, .int 0, .int 0, .int 0])), (b0, .inl (cy 0, 9, .inl (fun _ => 0))), (b1, .inl (cy 0, 9, .inl (fun _ => 0)))])) A) (by decide) (Nat.le_of_ble_eq_true rfl) ?_
  intro p e s m below meth c ls A E hA hP hD hG hS hl
  obtain ⟨hx, hb, hml, hown, hts, hr, hlk, hnm⟩ := id E
  have hown : s.vm.findClass RX5 = some m.cls := hown
  have hl : lv_has ls 2 [(0, .ref h0), (1, .ref h1)] := hl
  obtain ⟨H, hH⟩ : ∃ H, H = s.heap := ⟨_, rfl⟩
  have hP : va_P D vwCl [(h0, .inr (7, [.ref a0, .ref a1, .int 0, .int 0, .int 0, .int 0, .int 0, .int 0, .int 0, .int 0])), (a0, .inl (cy 0, 9, .inl (fun _ => 0))), (a1, .inl (cy 0, 9, .inl (fun _ => 0))), (h1, .inr (7, [.ref b0, .ref b1, .int 0, .int 0, .int 0, .int 0, .int 0, .int 0, .int 0, .int 0])), (b0, .inl (cy 0, 9, .inl (fun _ => 0))), (b1, .inl (cy 0, 9, .inl (fun _ => 0)))] H := by rw [hH]; exact hP
  have hS : va_S A s.heap H [] := by rw [hH]; exact va_S.rf
  rw [← hH]
  clear hH
  refine lv_aload_n hx hb dX5_copy_0 rfl (lv_at hl 1 rfl) ?_
  refine va_get (D := D) (ci := 7) (v := .ref b0) (C := RX5) (T := TX5) (N := 10) hx hb hts kin_RX5 hown hG.1 hP 3 rfl rfl 0 (by decide) (hts _ wm_179) (fun _ h9 => h9) rfl dX5_copy_1 ?_
  refine lv_iconst (v := 0) hx hb dX5_copy_4 (by decide) ?_
  refine lv_aload_n hx hb dX5_copy_5 rfl (lv_at hl 0 rfl) ?_
  refine va_get (D := D) (ci := 7) (v := .ref a0) (C := RX5) (T := TX5) (N := 10) hx hb hts kin_RX5 hown hG.1 hP 0 rfl rfl 0 (by decide) (hts _ wm_179) (fun _ h9 => h9) rfl dX5_copy_6 ?_
  refine lv_iconst (v := 0) hx hb dX5_copy_9 (by decide) ?_
  refine lv_bipush (v := 9) hx hb dX5_copy_10 (by decide) ?_
  refine va_copyi hx hb (hml.trans hl.1.symm) hown (hts _ wm_899) (hts _ wm_668) (hts _ wm_667) (hts _ wm_29) hG.1 hP hD hS 4 1 0 0 rfl rfl rfl rfl rfl (by decide) (by decide) (by decide) (by decide) (by decide) (fun _ _ => rfl) (Nat.le_of_ble_eq_true rfl) (Nat.le_of_ble_eq_true rfl) dX5_copy_12 (fun H locs hP hD hS => ?_)
  have hP : va_P D vwCl [(h0, .inr (7, [.ref a0, .ref a1, .int 0, .int 0, .int 0, .int 0, .int 0, .int 0, .int 0, .int 0])), (a0, .inl (cy 0, 9, .inl (va_cpy (fun _ => 0) (fun _ => 0) (0 : Int32).toNatClampNeg (0 : Int32).toNatClampNeg (9 : Int32).toNatClampNeg))), (a1, .inl (cy 0, 9, .inl (fun _ => 0))), (h1, .inr (7, [.ref b0, .ref b1, .int 0, .int 0, .int 0, .int 0, .int 0, .int 0, .int 0, .int 0])), (b0, .inl (cy 0, 9, .inl (fun _ => 0))), (b1, .inl (cy 0, 9, .inl (fun _ => 0)))] H := hP
  have hD : va_D A [(h0, .inr (7, [.ref a0, .ref a1, .int 0, .int 0, .int 0, .int 0, .int 0, .int 0, .int 0, .int 0])), (a0, .inl (cy 0, 9, .inl (va_cpy (fun _ => 0) (fun _ => 0) (0 : Int32).toNatClampNeg (0 : Int32).toNatClampNeg (9 : Int32).toNatClampNeg))), (a1, .inl (cy 0, 9, .inl (fun _ => 0))), (h1, .inr (7, [.ref b0, .ref b1, .int 0, .int 0, .int 0, .int 0, .int 0, .int 0, .int 0, .int 0])), (b0, .inl (cy 0, 9, .inl (fun _ => 0))), (b1, .inl (cy 0, 9, .inl (fun _ => 0)))] := hD
  rw [k_cpy0] at hP hD
  have hP : va_P D vwCl [(h0, .inr (7, [.ref a0, .ref a1, .int 0, .int 0, .int 0, .int 0, .int 0, .int 0, .int 0, .int 0])), (a0, .inl (cy 0, 9, .inl (fun _ => 0))), (a1, .inl (cy 0, 9, .inl (fun _ => 0))), (h1, .inr (7, [.ref b0, .ref b1, .int 0, .int 0, .int 0, .int 0, .int 0, .int 0, .int 0, .int 0])), (b0, .inl (cy 0, 9, .inl (fun _ => 0))), (b1, .inl (cy 0, 9, .inl (fun _ => 0)))] H := hP
  have hD : va_D A [(h0, .inr (7, [.ref a0, .ref a1, .int 0, .int 0, .int 0, .int 0, .int 0, .int 0, .int 0, .int 0])), (a0, .inl (cy 0, 9, .inl (fun _ => 0))), (a1, .inl (cy 0, 9, .inl (fun _ => 0))), (h1, .inr (7, [.ref b0, .ref b1, .int 0, .int 0, .int 0, .int 0, .int 0, .int 0, .int 0, .int 0])), (b0, .inl (cy 0, 9, .inl (fun _ => 0))), (b1, .inl (cy 0, 9, .inl (fun _ => 0)))] := hD
  refine lv_aload_n hx hb dX5_copy_15 rfl (lv_at hl 1 rfl) ?_
  refine va_get (D := D) (ci := 7) (v := .ref b1) (C := RX5) (T := TX5) (N := 10) hx hb hts kin_RX5 hown hG.1 hP 3 rfl rfl 1 (by decide) (hts _ wm_181) (fun _ h9 => h9) rfl dX5_copy_16 ?_
  refine lv_iconst (v := 0) hx hb dX5_copy_19 (by decide) ?_
  refine lv_aload_n hx hb dX5_copy_20 rfl (lv_at hl 0 rfl) ?_
  refine va_get (D := D) (ci := 7) (v := .ref a1) (C := RX5) (T := TX5) (N := 10) hx hb hts kin_RX5 hown hG.1 hP 0 rfl rfl 1 (by decide) (hts _ wm_181) (fun _ h9 => h9) rfl dX5_copy_21 ?_
  refine lv_iconst (v := 0) hx hb dX5_copy_24 (by decide) ?_
  refine lv_bipush (v := 9) hx hb dX5_copy_25 (by decide) ?_
  refine va_copyi hx hb (hml.trans hl.1.symm) hown (hts _ wm_899) (hts _ wm_668) (hts _ wm_667) (hts _ wm_29) hG.1 hP hD hS 5 2 0 0 rfl rfl rfl rfl rfl (by decide) (by decide) (by decide) (by decide) (by decide) (fun _ _ => rfl) (Nat.le_of_ble_eq_true rfl) (Nat.le_of_ble_eq_true rfl) dX5_copy_27 (fun H locs hP hD hS => ?_)
  have hP : va_P D vwCl [(h0, .inr (7, [.ref a0, .ref a1, .int 0, .int 0, .int 0, .int 0, .int 0, .int 0, .int 0, .int 0])), (a0, .inl (cy 0, 9, .inl (fun _ => 0))), (a1, .inl (cy 0, 9, .inl (va_cpy (fun _ => 0) (fun _ => 0) (0 : Int32).toNatClampNeg (0 : Int32).toNatClampNeg (9 : Int32).toNatClampNeg))), (h1, .inr (7, [.ref b0, .ref b1, .int 0, .int 0, .int 0, .int 0, .int 0, .int 0, .int 0, .int 0])), (b0, .inl (cy 0, 9, .inl (fun _ => 0))), (b1, .inl (cy 0, 9, .inl (fun _ => 0)))] H := hP
  have hD : va_D A [(h0, .inr (7, [.ref a0, .ref a1, .int 0, .int 0, .int 0, .int 0, .int 0, .int 0, .int 0, .int 0])), (a0, .inl (cy 0, 9, .inl (fun _ => 0))), (a1, .inl (cy 0, 9, .inl (va_cpy (fun _ => 0) (fun _ => 0) (0 : Int32).toNatClampNeg (0 : Int32).toNatClampNeg (9 : Int32).toNatClampNeg))), (h1, .inr (7, [.ref b0, .ref b1, .int 0, .int 0, .int 0, .int 0, .int 0, .int 0, .int 0, .int 0])), (b0, .inl (cy 0, 9, .inl (fun _ => 0))), (b1, .inl (cy 0, 9, .inl (fun _ => 0)))] := hD
  rw [k_cpy0] at hP hD
  have hP : va_P D vwCl [(h0, .inr (7, [.ref a0, .ref a1, .int 0, .int 0, .int 0, .int 0, .int 0, .int 0, .int 0, .int 0])), (a0, .inl (cy 0, 9, .inl (fun _ => 0))), (a1, .inl (cy 0, 9, .inl (fun _ => 0))), (h1, .inr (7, [.ref b0, .ref b1, .int 0, .int 0, .int 0, .int 0, .int 0, .int 0, .int 0, .int 0])), (b0, .inl (cy 0, 9, .inl (fun _ => 0))), (b1, .inl (cy 0, 9, .inl (fun _ => 0)))] H := hP
  have hD : va_D A [(h0, .inr (7, [.ref a0, .ref a1, .int 0, .int 0, .int 0, .int 0, .int 0, .int 0, .int 0, .int 0])), (a0, .inl (cy 0, 9, .inl (fun _ => 0))), (a1, .inl (cy 0, 9, .inl (fun _ => 0))), (h1, .inr (7, [.ref b0, .ref b1, .int 0, .int 0, .int 0, .int 0, .int 0, .int 0, .int 0, .int 0])), (b0, .inl (cy 0, 9, .inl (fun _ => 0))), (b1, .inl (cy 0, 9, .inl (fun _ => 0)))] := hD
  refine lv_aload_n hx hb dX5_copy_30 rfl (lv_at hl 0 rfl) ?_
  refine lv_aload_n hx hb dX5_copy_31 rfl (lv_at hl 1 rfl) ?_
  refine va_get (D := D) (ci := 7) (v := .int 0) (C := RX5) (T := TX5) (N := 10) hx hb hts kin_RX5 hown hG.1 hP 3 rfl rfl 2 (by decide) (hts _ wm_184) (fun _ h9 => h9) rfl dX5_copy_32 ?_
  refine va_put (D := D) (ci := 7) (v := .int 0) (ty := .int) (C := RX5) (T := TX5) (N := 10) hx hb hts kin_RX5 tyX5 tyX5_ok nmX5 hown hG.1 hP hD hS 0 rfl rfl 2 (by decide) (hts _ wm_184) (fun _ h9 => h9) rfl (by decide +kernel) rfl rfl (Nat.le_of_ble_eq_true rfl) dX5_copy_35 (fun H locs hP hD hS => ?_)
  have hP : va_P D vwCl [(h0, .inr (7, [.ref a0, .ref a1, .int 0, .int 0, .int 0, .int 0, .int 0, .int 0, .int 0, .int 0])), (a0, .inl (cy 0, 9, .inl (fun _ => 0))), (a1, .inl (cy 0, 9, .inl (fun _ => 0))), (h1, .inr (7, [.ref b0, .ref b1, .int 0, .int 0, .int 0, .int 0, .int 0, .int 0, .int 0, .int 0])), (b0, .inl (cy 0, 9, .inl (fun _ => 0))), (b1, .inl (cy 0, 9, .inl (fun _ => 0)))] H := hP
  have hD : va_D A [(h0, .inr (7, [.ref a0, .ref a1, .int 0, .int 0, .int 0, .int 0, .int 0, .int 0, .int 0, .int 0])), (a0, .inl (cy 0, 9, .inl (fun _ => 0))), (a1, .inl (cy 0, 9, .inl (fun _ => 0))), (h1, .inr (7, [.ref b0, .ref b1, .int 0, .int 0, .int 0, .int 0, .int 0, .int 0, .int 0, .int 0])), (b0, .inl (cy 0, 9, .inl (fun _ => 0))), (b1, .inl (cy 0, 9, .inl (fun _ => 0)))] := hD
  refine lv_aload_n hx hb dX5_copy_38 rfl (lv_at hl 0 rfl) ?_
  refine lv_aload_n hx hb dX5_copy_39 rfl (lv_at hl 1 rfl) ?_
  refine va_get (D := D) (ci := 7) (v := .int 0) (C := RX5) (T := TX5) (N := 10) hx hb hts kin_RX5 hown hG.1 hP 3 rfl rfl 3 (by decide) (hts _ wm_189) (fun _ h9 => h9) rfl dX5_copy_40 ?_
  refine va_put (D := D) (ci := 7) (v := .int 0) (ty := .int) (C := RX5) (T := TX5) (N := 10) hx hb hts kin_RX5 tyX5 tyX5_ok nmX5 hown hG.1 hP hD hS 0 rfl rfl 3 (by decide) (hts _ wm_189) (fun _ h9 => h9) rfl (by decide +kernel) rfl rfl (Nat.le_of_ble_eq_true rfl) dX5_copy_43 (fun H locs hP hD hS => ?_)
  have hP : va_P D vwCl [(h0, .inr (7, [.ref a0, .ref a1, .int 0, .int 0, .int 0, .int 0, .int 0, .int 0, .int 0, .int 0])), (a0, .inl (cy 0, 9, .inl (fun _ => 0))), (a1, .inl (cy 0, 9, .inl (fun _ => 0))), (h1, .inr (7, [.ref b0, .ref b1, .int 0, .int 0, .int 0, .int 0, .int 0, .int 0, .int 0, .int 0])), (b0, .inl (cy 0, 9, .inl (fun _ => 0))), (b1, .inl (cy 0, 9, .inl (fun _ => 0)))] H := hP
  have hD : va_D A [(h0, .inr (7, [.ref a0, .ref a1, .int 0, .int 0, .int 0, .int 0, .int 0, .int 0, .int 0, .int 0])), (a0, .inl (cy 0, 9, .inl (fun _ => 0))), (a1, .inl (cy 0, 9, .inl (fun _ => 0))), (h1, .inr (7, [.ref b0, .ref b1, .int 0, .int 0, .int 0, .int 0, .int 0, .int 0, .int 0, .int 0])), (b0, .inl (cy 0, 9, .inl (fun _ => 0))), (b1, .inl (cy 0, 9, .inl (fun _ => 0)))] := hD
  refine lv_aload_n hx hb dX5_copy_46 rfl (lv_at hl 0 rfl) ?_
  refine lv_aload_n hx hb dX5_copy_47 rfl (lv_at hl 1 rfl) ?_
  refine va_get (D := D) (ci := 7) (v := .int 0) (C := RX5) (T := TX5) (N := 10) hx hb hts kin_RX5 hown hG.1 hP 3 rfl rfl 4 (by decide) (hts _ wm_194) (fun _ h9 => h9) rfl dX5_copy_48 ?_
  refine va_put (D := D) (ci := 7) (v := .int 0) (ty := .int) (C := RX5) (T := TX5) (N := 10) hx hb hts kin_RX5 tyX5 tyX5_ok nmX5 hown hG.1 hP hD hS 0 rfl rfl 4 (by decide) (hts _ wm_194) (fun _ h9 => h9) rfl (by decide +kernel) rfl rfl (Nat.le_of_ble_eq_true rfl) dX5_copy_51 (fun H locs hP hD hS => ?_)
  have hP : va_P D vwCl [(h0, .inr (7, [.ref a0, .ref a1, .int 0, .int 0, .int 0, .int 0, .int 0, .int 0, .int 0, .int 0])), (a0, .inl (cy 0, 9, .inl (fun _ => 0))), (a1, .inl (cy 0, 9, .inl (fun _ => 0))), (h1, .inr (7, [.ref b0, .ref b1, .int 0, .int 0, .int 0, .int 0, .int 0, .int 0, .int 0, .int 0])), (b0, .inl (cy 0, 9, .inl (fun _ => 0))), (b1, .inl (cy 0, 9, .inl (fun _ => 0)))] H := hP
  have hD : va_D A [(h0, .inr (7, [.ref a0, .ref a1, .int 0, .int 0, .int 0, .int 0, .int 0, .int 0, .int 0, .int 0])), (a0, .inl (cy 0, 9, .inl (fun _ => 0))), (a1, .inl (cy 0, 9, .inl (fun _ => 0))), (h1, .inr (7, [.ref b0, .ref b1, .int 0, .int 0, .int 0, .int 0, .int 0, .int 0, .int 0, .int 0])), (b0, .inl (cy 0, 9, .inl (fun _ => 0))), (b1, .inl (cy 0, 9, .inl (fun _ => 0)))] := hD
  refine lv_aload_n hx hb dX5_copy_54 rfl (lv_at hl 0 rfl) ?_
  refine lv_aload_n hx hb dX5_copy_55 rfl (lv_at hl 1 rfl) ?_
  refine va_get (D := D) (ci := 7) (v := .int 0) (C := RX5) (T := TX5) (N := 10) hx hb hts kin_RX5 hown hG.1 hP 3 rfl rfl 5 (by decide) (hts _ wm_199) (fun _ h9 => h9) rfl dX5_copy_56 ?_
  refine va_put (D := D) (ci := 7) (v := .int 0) (ty := .int) (C := RX5) (T := TX5) (N := 10) hx hb hts kin_RX5 tyX5 tyX5_ok nmX5 hown hG.1 hP hD hS 0 rfl rfl 5 (by decide) (hts _ wm_199) (fun _ h9 => h9) rfl (by decide +kernel) rfl rfl (Nat.le_of_ble_eq_true rfl) dX5_copy_59 (fun H locs hP hD hS => ?_)
  have hP : va_P D vwCl [(h0, .inr (7, [.ref a0, .ref a1, .int 0, .int 0, .int 0, .int 0, .int 0, .int 0, .int 0, .int 0])), (a0, .inl (cy 0, 9, .inl (fun _ => 0))), (a1, .inl (cy 0, 9, .inl (fun _ => 0))), (h1, .inr (7, [.ref b0, .ref b1, .int 0, .int 0, .int 0, .int 0, .int 0, .int 0, .int 0, .int 0])), (b0, .inl (cy 0, 9, .inl (fun _ => 0))), (b1, .inl (cy 0, 9, .inl (fun _ => 0)))] H := hP
  have hD : va_D A [(h0, .inr (7, [.ref a0, .ref a1, .int 0, .int 0, .int 0, .int 0, .int 0, .int 0, .int 0, .int 0])), (a0, .inl (cy 0, 9, .inl (fun _ => 0))), (a1, .inl (cy 0, 9, .inl (fun _ => 0))), (h1, .inr (7, [.ref b0, .ref b1, .int 0, .int 0, .int 0, .int 0, .int 0, .int 0, .int 0, .int 0])), (b0, .inl (cy 0, 9, .inl (fun _ => 0))), (b1, .inl (cy 0, 9, .inl (fun _ => 0)))] := hD
  refine lv_aload_n hx hb dX5_copy_62 rfl (lv_at hl 0 rfl) ?_
  refine lv_aload_n hx hb dX5_copy_63 rfl (lv_at hl 1 rfl) ?_
  refine va_get (D := D) (ci := 7) (v := .int 0) (C := RX5) (T := TX5) (N := 10) hx hb hts kin_RX5 hown hG.1 hP 3 rfl rfl 6 (by decide) (hts _ wm_201) (fun _ h9 => h9) rfl dX5_copy_64 ?_
  refine va_put (D := D) (ci := 7) (v := .int 0) (ty := .int) (C := RX5) (T := TX5) (N := 10) hx hb hts kin_RX5 tyX5 tyX5_ok nmX5 hown hG.1 hP hD hS 0 rfl rfl 6 (by decide) (hts _ wm_201) (fun _ h9 => h9) rfl (by decide +kernel) rfl rfl (Nat.le_of_ble_eq_true rfl) dX5_copy_67 (fun H locs hP hD hS => ?_)
  have hP : va_P D vwCl [(h0, .inr (7, [.ref a0, .ref a1, .int 0, .int 0, .int 0, .int 0, .int 0, .int 0, .int 0, .int 0])), (a0, .inl (cy 0, 9, .inl (fun _ => 0))), (a1, .inl (cy 0, 9, .inl (fun _ => 0))), (h1, .inr (7, [.ref b0, .ref b1, .int 0, .int 0, .int 0, .int 0, .int 0, .int 0, .int 0, .int 0])), (b0, .inl (cy 0, 9, .inl (fun _ => 0))), (b1, .inl (cy 0, 9, .inl (fun _ => 0)))] H := hP
  have hD : va_D A [(h0, .inr (7, [.ref a0, .ref a1, .int 0, .int 0, .int 0, .int 0, .int 0, .int 0, .int 0, .int 0])), (a0, .inl (cy 0, 9, .inl (fun _ => 0))), (a1, .inl (cy 0, 9, .inl (fun _ => 0))), (h1, .inr (7, [.ref b0, .ref b1, .int 0, .int 0, .int 0, .int 0, .int 0, .int 0, .int 0, .int 0])), (b0, .inl (cy 0, 9, .inl (fun _ => 0))), (b1, .inl (cy 0, 9, .inl (fun _ => 0)))] := hD
  refine lv_aload_n hx hb dX5_copy_70 rfl (lv_at hl 0 rfl) ?_
  refine lv_aload_n hx hb dX5_copy_71 rfl (lv_at hl 1 rfl) ?_
  refine va_get (D := D) (ci := 7) (v := .int 0) (C := RX5) (T := TX5) (N := 10) hx hb hts kin_RX5 hown hG.1 hP 3 rfl rfl 7 (by decide) (hts _ wm_203) (fun _ h9 => h9) rfl dX5_copy_72 ?_
  refine va_put (D := D) (ci := 7) (v := .int 0) (ty := .int) (C := RX5) (T := TX5) (N := 10) hx hb hts kin_RX5 tyX5 tyX5_ok nmX5 hown hG.1 hP hD hS 0 rfl rfl 7 (by decide) (hts _ wm_203) (fun _ h9 => h9) rfl (by decide +kernel) rfl rfl (Nat.le_of_ble_eq_true rfl) dX5_copy_75 (fun H locs hP hD hS => ?_)
  have hP : va_P D vwCl [(h0, .inr (7, [.ref a0, .ref a1, .int 0, .int 0, .int 0, .int 0, .int 0, .int 0, .int 0, .int 0])), (a0, .inl (cy 0, 9, .inl (fun _ => 0))), (a1, .inl (cy 0, 9, .inl (fun _ => 0))), (h1, .inr (7, [.ref b0, .ref b1, .int 0, .int 0, .int 0, .int 0, .int 0, .int 0, .int 0, .int 0])), (b0, .inl (cy 0, 9, .inl (fun _ => 0))), (b1, .inl (cy 0, 9, .inl (fun _ => 0)))] H := hP
  have hD : va_D A [(h0, .inr (7, [.ref a0, .ref a1, .int 0, .int 0, .int 0, .int 0, .int 0, .int 0, .int 0, .int 0])), (a0, .inl (cy 0, 9, .inl (fun _ => 0))), (a1, .inl (cy 0, 9, .inl (fun _ => 0))), (h1, .inr (7, [.ref b0, .ref b1, .int 0, .int 0, .int 0, .int 0, .int 0, .int 0, .int 0, .int 0])), (b0, .inl (cy 0, 9, .inl (fun _ => 0))), (b1, .inl (cy 0, 9, .inl (fun _ => 0)))] := hD
  refine lv_aload_n hx hb dX5_copy_78 rfl (lv_at hl 0 rfl) ?_
  refine lv_aload_n hx hb dX5_copy_79 rfl (lv_at hl 1 rfl) ?_
  refine va_get (D := D) (ci := 7) (v := .int 0) (C := RX5) (T := TX5) (N := 10) hx hb hts kin_RX5 hown hG.1 hP 3 rfl rfl 8 (by decide) (hts _ wm_205) (fun _ h9 => h9) rfl dX5_copy_80 ?_
  refine va_put (D := D) (ci := 7) (v := .int 0) (ty := .int) (C := RX5) (T := TX5) (N := 10) hx hb hts kin_RX5 tyX5 tyX5_ok nmX5 hown hG.1 hP hD hS 0 rfl rfl 8 (by decide) (hts _ wm_205) (fun _ h9 => h9) rfl (by decide +kernel) rfl rfl (Nat.le_of_ble_eq_true rfl) dX5_copy_83 (fun H locs hP hD hS => ?_)
  have hP : va_P D vwCl [(h0, .inr (7, [.ref a0, .ref a1, .int 0, .int 0, .int 0, .int 0, .int 0, .int 0, .int 0, .int 0])), (a0, .inl (cy 0, 9, .inl (fun _ => 0))), (a1, .inl (cy 0, 9, .inl (fun _ => 0))), (h1, .inr (7, [.ref b0, .ref b1, .int 0, .int 0, .int 0, .int 0, .int 0, .int 0, .int 0, .int 0])), (b0, .inl (cy 0, 9, .inl (fun _ => 0))), (b1, .inl (cy 0, 9, .inl (fun _ => 0)))] H := hP
  have hD : va_D A [(h0, .inr (7, [.ref a0, .ref a1, .int 0, .int 0, .int 0, .int 0, .int 0, .int 0, .int 0, .int 0])), (a0, .inl (cy 0, 9, .inl (fun _ => 0))), (a1, .inl (cy 0, 9, .inl (fun _ => 0))), (h1, .inr (7, [.ref b0, .ref b1, .int 0, .int 0, .int 0, .int 0, .int 0, .int 0, .int 0, .int 0])), (b0, .inl (cy 0, 9, .inl (fun _ => 0))), (b1, .inl (cy 0, 9, .inl (fun _ => 0)))] := hD
  refine lv_aload_n hx hb dX5_copy_86 rfl (lv_at hl 0 rfl) ?_
  refine lv_aload_n hx hb dX5_copy_87 rfl (lv_at hl 1 rfl) ?_
  refine va_get (D := D) (ci := 7) (v := .int 0) (C := RX5) (T := TX5) (N := 10) hx hb hts kin_RX5 hown hG.1 hP 3 rfl rfl 9 (by decide) (hts _ wm_207) (fun _ h9 => h9) rfl dX5_copy_88 ?_
  refine va_put (D := D) (ci := 7) (v := .int 0) (ty := .int) (C := RX5) (T := TX5) (N := 10) hx hb hts kin_RX5 tyX5 tyX5_ok nmX5 hown hG.1 hP hD hS 0 rfl rfl 9 (by decide) (hts _ wm_207) (fun _ h9 => h9) rfl (by decide +kernel) rfl rfl (Nat.le_of_ble_eq_true rfl) dX5_copy_91 (fun H locs hP hD hS => ?_)
  have hP : va_P D vwCl [(h0, .inr (7, [.ref a0, .ref a1, .int 0, .int 0, .int 0, .int 0, .int 0, .int 0, .int 0, .int 0])), (a0, .inl (cy 0, 9, .inl (fun _ => 0))), (a1, .inl (cy 0, 9, .inl (fun _ => 0))), (h1, .inr (7, [.ref b0, .ref b1, .int 0, .int 0, .int 0, .int 0, .int 0, .int 0, .int 0, .int 0])), (b0, .inl (cy 0, 9, .inl (fun _ => 0))), (b1, .inl (cy 0, 9, .inl (fun _ => 0)))] H := hP
  have hD : va_D A [(h0, .inr (7, [.ref a0, .ref a1, .int 0, .int 0, .int 0, .int 0, .int 0, .int 0, .int 0, .int 0])), (a0, .inl (cy 0, 9, .inl (fun _ => 0))), (a1, .inl (cy 0, 9, .inl (fun _ => 0))), (h1, .inr (7, [.ref b0, .ref b1, .int 0, .int 0, .int 0, .int 0, .int 0, .int 0, .int 0, .int 0])), (b0, .inl (cy 0, 9, .inl (fun _ => 0))), (b1, .inl (cy 0, 9, .inl (fun _ => 0)))] := hD
  exact k_vret () hx hb hr hlk (trivial) (hP.sub [0, 1, 2, 3, 4, 5] rfl) (hD.sub [0, 1, 2, 3, 4, 5] (by decide) rfl) hS (by decide) (by decide) dX5_copy_94

set_option maxHeartbeats 4000000 in
set_option maxRecDepth 100000 in
/-- Plan.copy, all 0 -/
theorem c_Plan_copy (l : Launch) (hl0 : l.stackTraces = false) (D : va_G) (cy : Nat → ClassId) (sa : Nat → Nat) (h0 a0 a1 a2 a3 a4 h1 b0 b1 b2 b3 b4 : Nat) (sz : Nat) : Met l yX6_copy (Cond.code yX6_copy cX6_copy 2 none :: kWS) ({ frames := 11, cells := 0, slots := 0, locals := 360 }) (kPre D cy sa [.ref h0, .ref h1] [(h0, .inr (8, [.ref a0, .ref a1, .int 0, .ref a2, .ref a3, .int 0, .ref a4])), (a0, .inl (cy 0, 30, .inl (fun _ => 0))), (a1, .inl (cy 0, 30, .inl (fun _ => 0))), (a2, .inl (cy 0, 6, .inl (fun _ => 0))), (a3, .inl (cy 0, 6, .inl (fun _ => 0))), (h1, .inr (8, [.ref b0, .ref b1, .int 0, .ref b2, .ref b3, .int 0, .ref b4])), (b0, .inl (cy 0, 30, .inl (fun _ => 0))), (b1, .inl (cy 0, 30, .inl (fun _ => 0))), (b2, .inl (cy 0, 6, .inl (fun _ => 0))), (b3, .inl (cy 0, 6, .inl (fun _ => 0)))] sz) (va_Qv (fun (_ : Unit) => True) (kB D (va_A [(h0, .inr (8, [.ref a0, .ref a1, .int 0, .ref a2, .ref a3, .int 0, .ref a4])), (a0, .inl (cy 0, 30, .inl (fun _ => 0))), (a1, .inl (cy 0, 30, .inl (fun _ => 0))), (a2, .inl (cy 0, 6, .inl (fun _ => 0))), (a3, .inl (cy 0, 6, .inl (fun _ => 0))), (h1, .inr (8, [.ref b0, .ref b1, .int 0, .ref b2, .ref b3, .int 0, .ref b4])), (b0, .inl (cy 0, 30, .inl (fun _ => 0))), (b1, .inl (cy 0, 30, .inl (fun _ => 0))), (b2, .inl (cy 0, 6, .inl (fun _ => 0))), (b3, .inl (cy 0, 6, .inl (fun _ => 0)))] sz) (fun _ => [(h0, .inr (8, [.ref a0, .ref a1, .int 0, .ref a2, .ref a3, .int 0, .ref a4])), (a0, .inl (cy 0, 30, .inl (fun _ => 0))), (a1, .inl (cy 0, 30, .inl (fun _ => 0))), (a2, .inl (cy 0, 6, .inl (fun _ => 0))), (a3, .inl (cy 0, 6, .inl (fun _ => 0))), (h1, .inr (8, [.ref b0, .ref b1, .int 0, .ref b2, .ref b3, .int 0, .ref b4])), (b0, .inl (cy 0, 30, .inl (fun _ => 0))), (b1, .inl (cy 0, 30, .inl (fun _ => 0))), (b2, .inl (cy 0, 6, .inl (fun _ => 0))), (b3, .inl (cy 0, 6, .inl (fun _ => 0)))])) (va_A [(h0, .inr (8, [.ref a0, .ref a1, .int 0, .ref a2, .ref a3, .int 0, .ref a4])), (a0, .inl (cy 0, 30, .inl (fun _ => 0))), (a1, .inl (cy 0, 30, .inl (fun _ => 0))), (a2, .inl (cy 0, 6, .inl (fun _ => 0))), (a3, .inl (cy 0, 6, .inl (fun _ => 0))), (h1, .inr (8, [.ref b0, .ref b1, .int 0, .ref b2, .ref b3, .int 0, .ref b4])), (b0, .inl (cy 0, 30, .inl (fun _ => 0))), (b1, .inl (cy 0, 30, .inl (fun _ => 0))), (b2, .inl (cy 0, 6, .inl (fun _ => 0))), (b3, .inl (cy 0, 6, .inl (fun _ => 0)))] sz)) 0 0 (va_A [(h0, .inr (8, [.ref a0, .ref a1, .int 0, .ref a2, .ref a3, .int 0, .ref a4])), (a0, .inl (cy 0, 30, .inl (fun _ => 0))), (a1, .inl (cy 0, 30, .inl (fun _ => 0))), (a2, .inl (cy 0, 6, .inl (fun _ => 0))), (a3, .inl (cy 0, 6, .inl (fun _ => 0))), (h1, .inr (8, [.ref b0, .ref b1, .int 0, .ref b2, .ref b3, .int 0, .ref b4])), (b0, .inl (cy 0, 30, .inl (fun _ => 0))), (b1, .inl (cy 0, 30, .inl (fun _ => 0))), (b2, .inl (cy 0, 6, .inl (fun _ => 0))), (b3, .inl (cy 0, 6, .inl (fun _ => 0)))] sz) := by
  refine k_ofW (Qc := fun A => va_Qv (fun (_ : Unit) => True) (kB D A (fun _ => [(h0, .inr (8, [.ref a0, .ref a1, .int 0, .ref a2, .ref a3, .int 0, .ref a4])), (a0, .inl (cy 0, 30, .inl (fun _ => 0))), (a1, .inl (cy 0, 30, .inl (fun _ => 0))), (a2, .inl (cy 0, 6, .inl (fun _ => 0))), (a3, .inl (cy 0, 6, .inl (fun _ => 0))), (h1, .inr (8, [.ref b0, .ref b1, .int 0, .ref b2, .ref b3, .int 0, .ref b4])), (b0, .inl (cy 0, 30, .inl (fun _ => 0))), (b1, .inl (cy 0, 30, .inl (fun _ => 0))), (b2, .inl (cy 0, 6, .inl (fun _ => 0))), (b3, .inl (cy 0, 6, .inl (fun _ => 0)))])) A) (by decide) (Nat.le_of_ble_eq_true rfl) ?_
  intro p e s m below meth c ls A E hA hP hD hG hS hl
  obtain ⟨hx, hb, hml, hown, hts, hr, hlk, hnm⟩ := id E
  have hown : s.vm.findClass RX6 = some m.cls := hown
  have hl : lv_has ls 2 [(0, .ref h0), (1, .ref h1)] := hl
  obtain ⟨H, hH⟩ : ∃ H, H = s.heap := ⟨_, rfl⟩
  have hP : va_P D vwCl [(h0, .inr (8, [.ref a0, .ref a1, .int 0, .ref a2, .ref a3, .int 0, .ref a4])), (a0, .inl (cy 0, 30, .inl (fun _ => 0))), (a1, .inl (cy 0, 30, .inl (fun _ => 0))), (a2, .inl (cy 0, 6, .inl (fun _ => 0))), (a3, .inl (cy 0, 6, .inl (fun _ => 0))), (h1, .inr (8, [.ref b0, .ref b1, .int 0, .ref b2, .ref b3, .int 0, .ref b4])), (b0, .inl (cy 0, 30, .inl (fun _ => 0))), (b1, .inl (cy 0, 30, .inl (fun _ => 0))), (b2, .inl (cy 0, 6, .inl (fun _ => 0))), (b3, .inl (cy 0, 6, .inl (fun _ => 0)))] H := by rw [hH]; exact hP
  have hS : va_S A s.heap H [] := by rw [hH]; exact va_S.rf
  rw [← hH]
  clear hH
  refine lv_aload_n hx hb dX6_copy_0 rfl (lv_at hl 1 rfl) ?_
  refine va_get (D := D) (ci := 8) (v := .ref b0) (C := RX6) (T := TX6) (N := 7) hx hb hts kin_RX6 hown hG.1 hP 5 rfl rfl 0 (by decide) (hts _ wm_236) (fun _ h9 => h9) rfl dX6_copy_1 ?_
  refine lv_iconst (v := 0) hx hb dX6_copy_4 (by decide) ?_
  refine lv_aload_n hx hb dX6_copy_5 rfl (lv_at hl 0 rfl) ?_
  refine va_get (D := D) (ci := 8) (v := .ref a0) (C := RX6) (T := TX6) (N := 7) hx hb hts kin_RX6 hown hG.1 hP 0 rfl rfl 0 (by decide) (hts _ wm_236) (fun _ h9 => h9) rfl dX6_copy_6 ?_
  refine lv_iconst (v := 0) hx hb dX6_copy_9 (by decide) ?_
  refine lv_bipush (v := 30) hx hb dX6_copy_10 (by decide) ?_
  refine va_copyi hx hb (hml.trans hl.1.symm) hown (hts _ wm_904) (hts _ wm_668) (hts _ wm_667) (hts _ wm_29) hG.1 hP hD hS 6 1 0 0 rfl rfl rfl rfl rfl (by decide) (by decide) (by decide) (by decide) (by decide) (fun _ _ => rfl) (Nat.le_of_ble_eq_true rfl) (Nat.le_of_ble_eq_true rfl) dX6_copy_12 (fun H locs hP hD hS => ?_)
  have hP : va_P D vwCl [(h0, .inr (8, [.ref a0, .ref a1, .int 0, .ref a2, .ref a3, .int 0, .ref a4])), (a0, .inl (cy 0, 30, .inl (va_cpy (fun _ => 0) (fun _ => 0) (0 : Int32).toNatClampNeg (0 : Int32).toNatClampNeg (30 : Int32).toNatClampNeg))), (a1, .inl (cy 0, 30, .inl (fun _ => 0))), (a2, .inl (cy 0, 6, .inl (fun _ => 0))), (a3, .inl (cy 0, 6, .inl (fun _ => 0))), (h1, .inr (8, [.ref b0, .ref b1, .int 0, .ref b2, .ref b3, .int 0, .ref b4])), (b0, .inl (cy 0, 30, .inl (fun _ => 0))), (b1, .inl (cy 0, 30, .inl (fun _ => 0))), (b2, .inl (cy 0, 6, .inl (fun _ => 0))), (b3, .inl (cy 0, 6, .inl (fun _ => 0)))] H := hP
  have hD : va_D A [(h0, .inr (8, [.ref a0, .ref a1, .int 0, .ref a2, .ref a3, .int 0, .ref a4])), (a0, .inl (cy 0, 30, .inl (va_cpy (fun _ => 0) (fun _ => 0) (0 : Int32).toNatClampNeg (0 : Int32).toNatClampNeg (30 : Int32).toNatClampNeg))), (a1, .inl (cy 0, 30, .inl (fun _ => 0))), (a2, .inl (cy 0, 6, .inl (fun _ => 0))), (a3, .inl (cy 0, 6, .inl (fun _ => 0))), (h1, .inr (8, [.ref b0, .ref b1, .int 0, .ref b2, .ref b3, .int 0, .ref b4])), (b0, .inl (cy 0, 30, .inl (fun _ => 0))), (b1, .inl (cy 0, 30, .inl (fun _ => 0))), (b2, .inl (cy 0, 6, .inl (fun _ => 0))), (b3, .inl (cy 0, 6, .inl (fun _ => 0)))] := hD
  rw [k_cpy0] at hP hD
  have hP : va_P D vwCl [(h0, .inr (8, [.ref a0, .ref a1, .int 0, .ref a2, .ref a3, .int 0, .ref a4])), (a0, .inl (cy 0, 30, .inl (fun _ => 0))), (a1, .inl (cy 0, 30, .inl (fun _ => 0))), (a2, .inl (cy 0, 6, .inl (fun _ => 0))), (a3, .inl (cy 0, 6, .inl (fun _ => 0))), (h1, .inr (8, [.ref b0, .ref b1, .int 0, .ref b2, .ref b3, .int 0, .ref b4])), (b0, .inl (cy 0, 30, .inl (fun _ => 0))), (b1, .inl (cy 0, 30, .inl (fun _ => 0))), (b2, .inl (cy 0, 6, .inl (fun _ => 0))), (b3, .inl (cy 0, 6, .inl (fun _ => 0)))] H := hP
  have hD : va_D A [(h0, .inr (8, [.ref a0, .ref a1, .int 0, .ref a2, .ref a3, .int 0, .ref a4])), (a0, .inl (cy 0, 30, .inl (fun _ => 0))), (a1, .inl (cy 0, 30, .inl (fun _ => 0))), (a2, .inl (cy 0, 6, .inl (fun _ => 0))), (a3, .inl (cy 0, 6, .inl (fun _ => 0))), (h1, .inr (8, [.ref b0, .ref b1, .int 0, .ref b2, .ref b3, .int 0, .ref b4])), (b0, .inl (cy 0, 30, .inl (fun _ => 0))), (b1, .inl (cy 0, 30, .inl (fun _ => 0))), (b2, .inl (cy 0, 6, .inl (fun _ => 0))), (b3, .inl (cy 0, 6, .inl (fun _ => 0)))] := hD
  refine lv_aload_n hx hb dX6_copy_15 rfl (lv_at hl 1 rfl) ?_
  refine va_get (D := D) (ci := 8) (v := .ref b1) (C := RX6) (T := TX6) (N := 7) hx hb hts kin_RX6 hown hG.1 hP 5 rfl rfl 1 (by decide) (hts _ wm_238) (fun _ h9 => h9) rfl dX6_copy_16 ?_
  refine lv_iconst (v := 0) hx hb dX6_copy_19 (by decide) ?_
  refine lv_aload_n hx hb dX6_copy_20 rfl (lv_at hl 0 rfl) ?_
  refine va_get (D := D) (ci := 8) (v := .ref a1) (C := RX6) (T := TX6) (N := 7) hx hb hts kin_RX6 hown hG.1 hP 0 rfl rfl 1 (by decide) (hts _ wm_238) (fun _ h9 => h9) rfl dX6_copy_21 ?_
  refine lv_iconst (v := 0) hx hb dX6_copy_24 (by decide) ?_
  refine lv_bipush (v := 30) hx hb dX6_copy_25 (by decide) ?_
  refine va_copyi hx hb (hml.trans hl.1.symm) hown (hts _ wm_904) (hts _ wm_668) (hts _ wm_667) (hts _ wm_29) hG.1 hP hD hS 7 2 0 0 rfl rfl rfl rfl rfl (by decide) (by decide) (by decide) (by decide) (by decide) (fun _ _ => rfl) (Nat.le_of_ble_eq_true rfl) (Nat.le_of_ble_eq_true rfl) dX6_copy_27 (fun H locs hP hD hS => ?_)
  have hP : va_P D vwCl [(h0, .inr (8, [.ref a0, .ref a1, .int 0, .ref a2, .ref a3, .int 0, .ref a4])), (a0, .inl (cy 0, 30, .inl (fun _ => 0))), (a1, .inl (cy 0, 30, .inl (va_cpy (fun _ => 0) (fun _ => 0) (0 : Int32).toNatClampNeg (0 : Int32).toNatClampNeg (30 : Int32).toNatClampNeg))), (a2, .inl (cy 0, 6, .inl (fun _ => 0))), (a3, .inl (cy 0, 6, .inl (fun _ => 0))), (h1, .inr (8, [.ref b0, .ref b1, .int 0, .ref b2, .ref b3, .int 0, .ref b4])), (b0, .inl (cy 0, 30, .inl (fun _ => 0))), (b1, .inl (cy 0, 30, .inl (fun _ => 0))), (b2, .inl (cy 0, 6, .inl (fun _ => 0))), (b3, .inl (cy 0, 6, .inl (fun _ => 0)))] H := hP
  have hD : va_D A [(h0, .inr (8, [.ref a0, .ref a1, .int 0, .ref a2, .ref a3, .int 0, .ref a4])), (a0, .inl (cy 0, 30, .inl (fun _ => 0))), (a1, .inl (cy 0, 30, .inl (va_cpy (fun _ => 0) (fun _ => 0) (0 : Int32).toNatClampNeg (0 : Int32).toNatClampNeg (30 : Int32).toNatClampNeg))), (a2, .inl (cy 0, 6, .inl (fun _ => 0))), (a3, .inl (cy 0, 6, .inl (fun _ => 0))), (h1, .inr (8, [.ref b0, .ref b1, .int 0, .ref b2, .ref b3, .int 0, .ref b4])), (b0, .inl (cy 0, 30, .inl (fun _ => 0))), (b1, .inl (cy 0, 30, .inl (fun _ => 0))), (b2, .inl (cy 0, 6, .inl (fun _ => 0))), (b3, .inl (cy 0, 6, .inl (fun _ => 0)))] := hD
  rw [k_cpy0] at hP hD
  have hP : va_P D vwCl [(h0, .inr (8, [.ref a0, .ref a1, .int 0, .ref a2, .ref a3, .int 0, .ref a4])), (a0, .inl (cy 0, 30, .inl (fun _ => 0))), (a1, .inl (cy 0, 30, .inl (fun _ => 0))), (a2, .inl (cy 0, 6, .inl (fun _ => 0))), (a3, .inl (cy 0, 6, .inl (fun _ => 0))), (h1, .inr (8, [.ref b0, .ref b1, .int 0, .ref b2, .ref b3, .int 0, .ref b4])), (b0, .inl (cy 0, 30, .inl (fun _ => 0))), (b1, .inl (cy 0, 30, .inl (fun _ => 0))), (b2, .inl (cy 0, 6, .inl (fun _ => 0))), (b3, .inl (cy 0, 6, .inl (fun _ => 0)))] H := hP
  have hD : va_D A [(h0, .inr (8, [.ref a0, .ref a1, .int 0, .ref a2, .ref a3, .int 0, .ref a4])), (a0, .inl (cy 0, 30, .inl (fun _ => 0))), (a1, .inl (cy 0, 30, .inl (fun _ => 0))), (a2, .inl (cy 0, 6, .inl (fun _ => 0))), (a3, .inl (cy 0, 6, .inl (fun _ => 0))), (h1, .inr (8, [.ref b0, .ref b1, .int 0, .ref b2, .ref b3, .int 0, .ref b4])), (b0, .inl (cy 0, 30, .inl (fun _ => 0))), (b1, .inl (cy 0, 30, .inl (fun _ => 0))), (b2, .inl (cy 0, 6, .inl (fun _ => 0))), (b3, .inl (cy 0, 6, .inl (fun _ => 0)))] := hD
  refine lv_aload_n hx hb dX6_copy_30 rfl (lv_at hl 0 rfl) ?_
  refine lv_aload_n hx hb dX6_copy_31 rfl (lv_at hl 1 rfl) ?_
  refine va_get (D := D) (ci := 8) (v := .int 0) (C := RX6) (T := TX6) (N := 7) hx hb hts kin_RX6 hown hG.1 hP 5 rfl rfl 2 (by decide) (hts _ wm_240) (fun _ h9 => h9) rfl dX6_copy_32 ?_
  refine va_put (D := D) (ci := 8) (v := .int 0) (ty := .int) (C := RX6) (T := TX6) (N := 7) hx hb hts kin_RX6 tyX6 tyX6_ok nmX6 hown hG.1 hP hD hS 0 rfl rfl 2 (by decide) (hts _ wm_240) (fun _ h9 => h9) rfl (by decide +kernel) rfl rfl (Nat.le_of_ble_eq_true rfl) dX6_copy_35 (fun H locs hP hD hS => ?_)
  have hP : va_P D vwCl [(h0, .inr (8, [.ref a0, .ref a1, .int 0, .ref a2, .ref a3, .int 0, .ref a4])), (a0, .inl (cy 0, 30, .inl (fun _ => 0))), (a1, .inl (cy 0, 30, .inl (fun _ => 0))), (a2, .inl (cy 0, 6, .inl (fun _ => 0))), (a3, .inl (cy 0, 6, .inl (fun _ => 0))), (h1, .inr (8, [.ref b0, .ref b1, .int 0, .ref b2, .ref b3, .int 0, .ref b4])), (b0, .inl (cy 0, 30, .inl (fun _ => 0))), (b1, .inl (cy 0, 30, .inl (fun _ => 0))), (b2, .inl (cy 0, 6, .inl (fun _ => 0))), (b3, .inl (cy 0, 6, .inl (fun _ => 0)))] H := hP
  have hD : va_D A [(h0, .inr (8, [.ref a0, .ref a1, .int 0, .ref a2, .ref a3, .int 0, .ref a4])), (a0, .inl (cy 0, 30, .inl (fun _ => 0))), (a1, .inl (cy 0, 30, .inl (fun _ => 0))), (a2, .inl (cy 0, 6, .inl (fun _ => 0))), (a3, .inl (cy 0, 6, .inl (fun _ => 0))), (h1, .inr (8, [.ref b0, .ref b1, .int 0, .ref b2, .ref b3, .int 0, .ref b4])), (b0, .inl (cy 0, 30, .inl (fun _ => 0))), (b1, .inl (cy 0, 30, .inl (fun _ => 0))), (b2, .inl (cy 0, 6, .inl (fun _ => 0))), (b3, .inl (cy 0, 6, .inl (fun _ => 0)))] := hD
  refine lv_aload_n hx hb dX6_copy_38 rfl (lv_at hl 1 rfl) ?_
  refine va_get (D := D) (ci := 8) (v := .ref b2) (C := RX6) (T := TX6) (N := 7) hx hb hts kin_RX6 hown hG.1 hP 5 rfl rfl 3 (by decide) (hts _ wm_243) (fun _ h9 => h9) rfl dX6_copy_39 ?_
  refine lv_iconst (v := 0) hx hb dX6_copy_42 (by decide) ?_
  refine lv_aload_n hx hb dX6_copy_43 rfl (lv_at hl 0 rfl) ?_
  refine va_get (D := D) (ci := 8) (v := .ref a2) (C := RX6) (T := TX6) (N := 7) hx hb hts kin_RX6 hown hG.1 hP 0 rfl rfl 3 (by decide) (hts _ wm_243) (fun _ h9 => h9) rfl dX6_copy_44 ?_
  refine lv_iconst (v := 0) hx hb dX6_copy_47 (by decide) ?_
  refine lv_bipush (v := 6) hx hb dX6_copy_48 (by decide) ?_
  refine va_copyi hx hb (hml.trans hl.1.symm) hown (hts _ wm_904) (hts _ wm_668) (hts _ wm_667) (hts _ wm_29) hG.1 hP hD hS 8 3 0 0 rfl rfl rfl rfl rfl (by decide) (by decide) (by decide) (by decide) (by decide) (fun _ _ => rfl) (Nat.le_of_ble_eq_true rfl) (Nat.le_of_ble_eq_true rfl) dX6_copy_50 (fun H locs hP hD hS => ?_)
  have hP : va_P D vwCl [(h0, .inr (8, [.ref a0, .ref a1, .int 0, .ref a2, .ref a3, .int 0, .ref a4])), (a0, .inl (cy 0, 30, .inl (fun _ => 0))), (a1, .inl (cy 0, 30, .inl (fun _ => 0))), (a2, .inl (cy 0, 6, .inl (va_cpy (fun _ => 0) (fun _ => 0) (0 : Int32).toNatClampNeg (0 : Int32).toNatClampNeg (6 : Int32).toNatClampNeg))), (a3, .inl (cy 0, 6, .inl (fun _ => 0))), (h1, .inr (8, [.ref b0, .ref b1, .int 0, .ref b2, .ref b3, .int 0, .ref b4])), (b0, .inl (cy 0, 30, .inl (fun _ => 0))), (b1, .inl (cy 0, 30, .inl (fun _ => 0))), (b2, .inl (cy 0, 6, .inl (fun _ => 0))), (b3, .inl (cy 0, 6, .inl (fun _ => 0)))] H := hP
  have hD : va_D A [(h0, .inr (8, [.ref a0, .ref a1, .int 0, .ref a2, .ref a3, .int 0, .ref a4])), (a0, .inl (cy 0, 30, .inl (fun _ => 0))), (a1, .inl (cy 0, 30, .inl (fun _ => 0))), (a2, .inl (cy 0, 6, .inl (va_cpy (fun _ => 0) (fun _ => 0) (0 : Int32).toNatClampNeg (0 : Int32).toNatClampNeg (6 : Int32).toNatClampNeg))), (a3, .inl (cy 0, 6, .inl (fun _ => 0))), (h1, .inr (8, [.ref b0, .ref b1, .int 0, .ref b2, .ref b3, .int 0, .ref b4])), (b0, .inl (cy 0, 30, .inl (fun _ => 0))), (b1, .inl (cy 0, 30, .inl (fun _ => 0))), (b2, .inl (cy 0, 6, .inl (fun _ => 0))), (b3, .inl (cy 0, 6, .inl (fun _ => 0)))] := hD
  rw [k_cpy0] at hP hD
  have hP : va_P D vwCl [(h0, .inr (8, [.ref a0, .ref a1, .int 0, .ref a2, .ref a3, .int 0, .ref a4])), (a0, .inl (cy 0, 30, .inl (fun _ => 0))), (a1, .inl (cy 0, 30, .inl (fun _ => 0))), (a2, .inl (cy 0, 6, .inl (fun _ => 0))), (a3, .inl (cy 0, 6, .inl (fun _ => 0))), (h1, .inr (8, [.ref b0, .ref b1, .int 0, .ref b2, .ref b3, .int 0, .ref b4])), (b0, .inl (cy 0, 30, .inl (fun _ => 0))), (b1, .inl (cy 0, 30, .inl (fun _ => 0))), (b2, .inl (cy 0, 6, .inl (fun _ => 0))), (b3, .inl (cy 0, 6, .inl (fun _ => 0)))] H := hP
  have hD : va_D A [(h0, .inr (8, [.ref a0, .ref a1, .int 0, .ref a2, .ref a3, .int 0, .ref a4])), (a0, .inl (cy 0, 30, .inl (fun _ => 0))), (a1, .inl (cy 0, 30, .inl (fun _ => 0))), (a2, .inl (cy 0, 6, .inl (fun _ => 0))), (a3, .inl (cy 0, 6, .inl (fun _ => 0))), (h1, .inr (8, [.ref b0, .ref b1, .int 0, .ref b2, .ref b3, .int 0, .ref b4])), (b0, .inl (cy 0, 30, .inl (fun _ => 0))), (b1, .inl (cy 0, 30, .inl (fun _ => 0))), (b2, .inl (cy 0, 6, .inl (fun _ => 0))), (b3, .inl (cy 0, 6, .inl (fun _ => 0)))] := hD
  refine lv_aload_n hx hb dX6_copy_53 rfl (lv_at hl 1 rfl) ?_
  refine va_get (D := D) (ci := 8) (v := .ref b3) (C := RX6) (T := TX6) (N := 7) hx hb hts kin_RX6 hown hG.1 hP 5 rfl rfl 4 (by decide) (hts _ wm_244) (fun _ h9 => h9) rfl dX6_copy_54 ?_
  refine lv_iconst (v := 0) hx hb dX6_copy_57 (by decide) ?_
  refine lv_aload_n hx hb dX6_copy_58 rfl (lv_at hl 0 rfl) ?_
  refine va_get (D := D) (ci := 8) (v := .ref a3) (C := RX6) (T := TX6) (N := 7) hx hb hts kin_RX6 hown hG.1 hP 0 rfl rfl 4 (by decide) (hts _ wm_244) (fun _ h9 => h9) rfl dX6_copy_59 ?_
  refine lv_iconst (v := 0) hx hb dX6_copy_62 (by decide) ?_
  refine lv_bipush (v := 6) hx hb dX6_copy_63 (by decide) ?_
  refine va_copyi hx hb (hml.trans hl.1.symm) hown (hts _ wm_904) (hts _ wm_668) (hts _ wm_667) (hts _ wm_29) hG.1 hP hD hS 9 4 0 0 rfl rfl rfl rfl rfl (by decide) (by decide) (by decide) (by decide) (by decide) (fun _ _ => rfl) (Nat.le_of_ble_eq_true rfl) (Nat.le_of_ble_eq_true rfl) dX6_copy_65 (fun H locs hP hD hS => ?_)
  have hP : va_P D vwCl [(h0, .inr (8, [.ref a0, .ref a1, .int 0, .ref a2, .ref a3, .int 0, .ref a4])), (a0, .inl (cy 0, 30, .inl (fun _ => 0))), (a1, .inl (cy 0, 30, .inl (fun _ => 0))), (a2, .inl (cy 0, 6, .inl (fun _ => 0))), (a3, .inl (cy 0, 6, .inl (va_cpy (fun _ => 0) (fun _ => 0) (0 : Int32).toNatClampNeg (0 : Int32).toNatClampNeg (6 : Int32).toNatClampNeg))), (h1, .inr (8, [.ref b0, .ref b1, .int 0, .ref b2, .ref b3, .int 0, .ref b4])), (b0, .inl (cy 0, 30, .inl (fun _ => 0))), (b1, .inl (cy 0, 30, .inl (fun _ => 0))), (b2, .inl (cy 0, 6, .inl (fun _ => 0))), (b3, .inl (cy 0, 6, .inl (fun _ => 0)))] H := hP
  have hD : va_D A [(h0, .inr (8, [.ref a0, .ref a1, .int 0, .ref a2, .ref a3, .int 0, .ref a4])), (a0, .inl (cy 0, 30, .inl (fun _ => 0))), (a1, .inl (cy 0, 30, .inl (fun _ => 0))), (a2, .inl (cy 0, 6, .inl (fun _ => 0))), (a3, .inl (cy 0, 6, .inl (va_cpy (fun _ => 0) (fun _ => 0) (0 : Int32).toNatClampNeg (0 : Int32).toNatClampNeg (6 : Int32).toNatClampNeg))), (h1, .inr (8, [.ref b0, .ref b1, .int 0, .ref b2, .ref b3, .int 0, .ref b4])), (b0, .inl (cy 0, 30, .inl (fun _ => 0))), (b1, .inl (cy 0, 30, .inl (fun _ => 0))), (b2, .inl (cy 0, 6, .inl (fun _ => 0))), (b3, .inl (cy 0, 6, .inl (fun _ => 0)))] := hD
  rw [k_cpy0] at hP hD
  have hP : va_P D vwCl [(h0, .inr (8, [.ref a0, .ref a1, .int 0, .ref a2, .ref a3, .int 0, .ref a4])), (a0, .inl (cy 0, 30, .inl (fun _ => 0))), (a1, .inl (cy 0, 30, .inl (fun _ => 0))), (a2, .inl (cy 0, 6, .inl (fun _ => 0))), (a3, .inl (cy 0, 6, .inl (fun _ => 0))), (h1, .inr (8, [.ref b0, .ref b1, .int 0, .ref b2, .ref b3, .int 0, .ref b4])), (b0, .inl (cy 0, 30, .inl (fun _ => 0))), (b1, .inl (cy 0, 30, .inl (fun _ => 0))), (b2, .inl (cy 0, 6, .inl (fun _ => 0))), (b3, .inl (cy 0, 6, .inl (fun _ => 0)))] H := hP
  have hD : va_D A [(h0, .inr (8, [.ref a0, .ref a1, .int 0, .ref a2, .ref a3, .int 0, .ref a4])), (a0, .inl (cy 0, 30, .inl (fun _ => 0))), (a1, .inl (cy 0, 30, .inl (fun _ => 0))), (a2, .inl (cy 0, 6, .inl (fun _ => 0))), (a3, .inl (cy 0, 6, .inl (fun _ => 0))), (h1, .inr (8, [.ref b0, .ref b1, .int 0, .ref b2, .ref b3, .int 0, .ref b4])), (b0, .inl (cy 0, 30, .inl (fun _ => 0))), (b1, .inl (cy 0, 30, .inl (fun _ => 0))), (b2, .inl (cy 0, 6, .inl (fun _ => 0))), (b3, .inl (cy 0, 6, .inl (fun _ => 0)))] := hD
  refine lv_aload_n hx hb dX6_copy_68 rfl (lv_at hl 0 rfl) ?_
  refine lv_aload_n hx hb dX6_copy_69 rfl (lv_at hl 1 rfl) ?_
  refine va_get (D := D) (ci := 8) (v := .int 0) (C := RX6) (T := TX6) (N := 7) hx hb hts kin_RX6 hown hG.1 hP 5 rfl rfl 5 (by decide) (hts _ wm_245) (fun _ h9 => h9) rfl dX6_copy_70 ?_
  refine va_put (D := D) (ci := 8) (v := .int 0) (ty := .int) (C := RX6) (T := TX6) (N := 7) hx hb hts kin_RX6 tyX6 tyX6_ok nmX6 hown hG.1 hP hD hS 0 rfl rfl 5 (by decide) (hts _ wm_245) (fun _ h9 => h9) rfl (by decide +kernel) rfl rfl (Nat.le_of_ble_eq_true rfl) dX6_copy_73 (fun H locs hP hD hS => ?_)
  have hP : va_P D vwCl [(h0, .inr (8, [.ref a0, .ref a1, .int 0, .ref a2, .ref a3, .int 0, .ref a4])), (a0, .inl (cy 0, 30, .inl (fun _ => 0))), (a1, .inl (cy 0, 30, .inl (fun _ => 0))), (a2, .inl (cy 0, 6, .inl (fun _ => 0))), (a3, .inl (cy 0, 6, .inl (fun _ => 0))), (h1, .inr (8, [.ref b0, .ref b1, .int 0, .ref b2, .ref b3, .int 0, .ref b4])), (b0, .inl (cy 0, 30, .inl (fun _ => 0))), (b1, .inl (cy 0, 30, .inl (fun _ => 0))), (b2, .inl (cy 0, 6, .inl (fun _ => 0))), (b3, .inl (cy 0, 6, .inl (fun _ => 0)))] H := hP
  have hD : va_D A [(h0, .inr (8, [.ref a0, .ref a1, .int 0, .ref a2, .ref a3, .int 0, .ref a4])), (a0, .inl (cy 0, 30, .inl (fun _ => 0))), (a1, .inl (cy 0, 30, .inl (fun _ => 0))), (a2, .inl (cy 0, 6, .inl (fun _ => 0))), (a3, .inl (cy 0, 6, .inl (fun _ => 0))), (h1, .inr (8, [.ref b0, .ref b1, .int 0, .ref b2, .ref b3, .int 0, .ref b4])), (b0, .inl (cy 0, 30, .inl (fun _ => 0))), (b1, .inl (cy 0, 30, .inl (fun _ => 0))), (b2, .inl (cy 0, 6, .inl (fun _ => 0))), (b3, .inl (cy 0, 6, .inl (fun _ => 0)))] := hD
  exact k_vret () hx hb hr hlk (trivial) (hP.sub [0, 1, 2, 3, 4, 5, 6, 7, 8, 9] rfl) (hD.sub [0, 1, 2, 3, 4, 5, 6, 7, 8, 9] (by decide) rfl) hS (by decide) (by decide) dX6_copy_76

set_option maxHeartbeats 4000000 in
set_option maxRecDepth 100000 in
/-- Trial.begin -/
theorem c_Trial_begin (l : Launch) (hl0 : l.stackTraces = false) (D : va_G) (cy : Nat → ClassId) (sa : Nat → Nat) (u : Nat → Nat) (sd : Int32) (sz : Nat) : Met l yX8_begin (Cond.code yX8_begin cX8_begin 2 none :: kWS) ({ frames := 12, cells := 0, slots := 0, locals := 420 }) (kPre D cy sa [.ref (u 9), .ref (u 5)] [((u 9), .inr (10, [.ref (u 73), .int sd, .int 0])), ((u 73), .inr (7, [.ref (u 74), .ref (u 75), .int 0, .int 0, .int 0, .int 0, .int 0, .int 0, .int 0, .int 0])), ((u 74), .inl (cy 0, 9, .inl (fun _ => 0))), ((u 75), .inl (cy 0, 9, .inl (fun _ => 0))), ((u 5), .inr (7, [.ref (u 39), .ref (u 40), .int 0, .int 0, .int 0, .int 0, .int 0, .int 0, .int 0, .int 0])), ((u 39), .inl (cy 0, 9, .inl (fun _ => 0))), ((u 40), .inl (cy 0, 9, .inl (fun _ => 0)))] sz) (va_Qv (fun (_ : Unit) => True) (kB D (va_A [((u 9), .inr (10, [.ref (u 73), .int sd, .int 0])), ((u 73), .inr (7, [.ref (u 74), .ref (u 75), .int 0, .int 0, .int 0, .int 0, .int 0, .int 0, .int 0, .int 0])), ((u 74), .inl (cy 0, 9, .inl (fun _ => 0))), ((u 75), .inl (cy 0, 9, .inl (fun _ => 0))), ((u 5), .inr (7, [.ref (u 39), .ref (u 40), .int 0, .int 0, .int 0, .int 0, .int 0, .int 0, .int 0, .int 0])), ((u 39), .inl (cy 0, 9, .inl (fun _ => 0))), ((u 40), .inl (cy 0, 9, .inl (fun _ => 0)))] sz) (fun _ => [((u 9), .inr (10, [.ref (u 73), .int sd, .int 0])), ((u 73), .inr (7, [.ref (u 74), .ref (u 75), .int 0, .int 0, .int 0, .int 0, .int 0, .int 0, .int 0, .int 0])), ((u 74), .inl (cy 0, 9, .inl (fun _ => 0))), ((u 75), .inl (cy 0, 9, .inl (fun _ => 0))), ((u 5), .inr (7, [.ref (u 39), .ref (u 40), .int 0, .int 0, .int 0, .int 0, .int 0, .int 0, .int 0, .int 0])), ((u 39), .inl (cy 0, 9, .inl (fun _ => 0))), ((u 40), .inl (cy 0, 9, .inl (fun _ => 0)))])) (va_A [((u 9), .inr (10, [.ref (u 73), .int sd, .int 0])), ((u 73), .inr (7, [.ref (u 74), .ref (u 75), .int 0, .int 0, .int 0, .int 0, .int 0, .int 0, .int 0, .int 0])), ((u 74), .inl (cy 0, 9, .inl (fun _ => 0))), ((u 75), .inl (cy 0, 9, .inl (fun _ => 0))), ((u 5), .inr (7, [.ref (u 39), .ref (u 40), .int 0, .int 0, .int 0, .int 0, .int 0, .int 0, .int 0, .int 0])), ((u 39), .inl (cy 0, 9, .inl (fun _ => 0))), ((u 40), .inl (cy 0, 9, .inl (fun _ => 0)))] sz)) 0 0 (va_A [((u 9), .inr (10, [.ref (u 73), .int sd, .int 0])), ((u 73), .inr (7, [.ref (u 74), .ref (u 75), .int 0, .int 0, .int 0, .int 0, .int 0, .int 0, .int 0, .int 0])), ((u 74), .inl (cy 0, 9, .inl (fun _ => 0))), ((u 75), .inl (cy 0, 9, .inl (fun _ => 0))), ((u 5), .inr (7, [.ref (u 39), .ref (u 40), .int 0, .int 0, .int 0, .int 0, .int 0, .int 0, .int 0, .int 0])), ((u 39), .inl (cy 0, 9, .inl (fun _ => 0))), ((u 40), .inl (cy 0, 9, .inl (fun _ => 0)))] sz) := by
  refine k_ofW (Qc := fun A => va_Qv (fun (_ : Unit) => True) (kB D A (fun _ => [((u 9), .inr (10, [.ref (u 73), .int sd, .int 0])), ((u 73), .inr (7, [.ref (u 74), .ref (u 75), .int 0, .int 0, .int 0, .int 0, .int 0, .int 0, .int 0, .int 0])), ((u 74), .inl (cy 0, 9, .inl (fun _ => 0))), ((u 75), .inl (cy 0, 9, .inl (fun _ => 0))), ((u 5), .inr (7, [.ref (u 39), .ref (u 40), .int 0, .int 0, .int 0, .int 0, .int 0, .int 0, .int 0, .int 0])), ((u 39), .inl (cy 0, 9, .inl (fun _ => 0))), ((u 40), .inl (cy 0, 9, .inl (fun _ => 0)))])) A) (by decide) (Nat.le_of_ble_eq_true rfl) ?_
  intro p e s m below meth c ls A E hA hP hD hG hS hl
  obtain ⟨hx, hb, hml, hown, hts, hr, hlk, hnm⟩ := id E
  have hown : s.vm.findClass RX8 = some m.cls := hown
  have hl : lv_has ls 2 [(0, .ref (u 9)), (1, .ref (u 5))] := hl
  obtain ⟨H, hH⟩ : ∃ H, H = s.heap := ⟨_, rfl⟩
  have hP : va_P D vwCl [((u 9), .inr (10, [.ref (u 73), .int sd, .int 0])), ((u 73), .inr (7, [.ref (u 74), .ref (u 75), .int 0, .int 0, .int 0, .int 0, .int 0, .int 0, .int 0, .int 0])), ((u 74), .inl (cy 0, 9, .inl (fun _ => 0))), ((u 75), .inl (cy 0, 9, .inl (fun _ => 0))), ((u 5), .inr (7, [.ref (u 39), .ref (u 40), .int 0, .int 0, .int 0, .int 0, .int 0, .int 0, .int 0, .int 0])), ((u 39), .inl (cy 0, 9, .inl (fun _ => 0))), ((u 40), .inl (cy 0, 9, .inl (fun _ => 0)))] H := by rw [hH]; exact hP
  have hS : va_S A s.heap H [] := by rw [hH]; exact va_S.rf
  rw [← hH]
  clear hH
  refine lv_aload_n hx hb dX8_begin_0 rfl (lv_at hl 0 rfl) ?_
  refine va_get (D := D) (ci := 10) (v := .ref (u 73)) (C := RX8) (T := TX8) (N := 3) hx hb hts kin_RX8 hown hG.1 hP 0 rfl rfl 0 (by decide) (hts _ wm_273) (fun _ h9 => h9) rfl dX8_begin_1 ?_
  refine lv_aload_n hx hb dX8_begin_4 rfl (lv_at hl 1 rfl) ?_
  refine k_calv [0] (⟨hP, hD, hG, hS, hA, rfl, rfl⟩ : kAt D cy sa A s H _ _ [((u 73), .inr (7, [.ref (u 74), .ref (u 75), .int 0, .int 0, .int 0, .int 0, .int 0, .int 0, .int 0, .int 0])), ((u 74), .inl (cy 0, 9, .inl (fun _ => 0))), ((u 75), .inl (cy 0, 9, .inl (fun _ => 0))), ((u 5), .inr (7, [.ref (u 39), .ref (u 40), .int 0, .int 0, .int 0, .int 0, .int 0, .int 0, .int 0, .int 0])), ((u 39), .inl (cy 0, 9, .inl (fun _ => 0))), ((u 40), .inl (cy 0, 9, .inl (fun _ => 0)))] [1, 2, 3, 4, 5, 6]) (wr := [((u 9), .inr (10, [.ref (u 73), .int sd, .int 0]))]) rfl rfl (by decide) (k_runV 7 1 (As := [.ref (u 5)]) (rest := []) E lk_VRX8_25 rfl rfl rfl (c_Moment_copy l hl0 D cy sa (u 73) (u 74) (u 75) (u 5) (u 39) (u 40) H.size) (⟨hP, hD, hG, hS, hA, rfl, rfl⟩ : kAt D cy sa A s H _ _ [((u 73), .inr (7, [.ref (u 74), .ref (u 75), .int 0, .int 0, .int 0, .int 0, .int 0, .int 0, .int 0, .int 0])), ((u 74), .inl (cy 0, 9, .inl (fun _ => 0))), ((u 75), .inl (cy 0, 9, .inl (fun _ => 0))), ((u 5), .inr (7, [.ref (u 39), .ref (u 40), .int 0, .int 0, .int 0, .int 0, .int 0, .int 0, .int 0, .int 0])), ((u 39), .inl (cy 0, 9, .inl (fun _ => 0))), ((u 40), .inl (cy 0, 9, .inl (fun _ => 0)))] [1, 2, 3, 4, 5, 6]) hl.1 rfl rfl ⟨rfl, rfl, ⟨Nat.le_of_ble_eq_true rfl, Nat.le_of_ble_eq_true rfl⟩, ⟨Nat.le_of_ble_eq_true rfl, Nat.le_of_ble_eq_true rfl⟩, Nat.le_of_ble_eq_true rfl⟩ dX8_begin_5) (fun u2 H locs hwu2 hP hD hS => ?_)
  have hP : va_P D vwCl [((u 9), .inr (10, [.ref (u 73), .int sd, .int 0])), ((u 73), .inr (7, [.ref (u 74), .ref (u 75), .int 0, .int 0, .int 0, .int 0, .int 0, .int 0, .int 0, .int 0])), ((u 74), .inl (cy 0, 9, .inl (fun _ => 0))), ((u 75), .inl (cy 0, 9, .inl (fun _ => 0))), ((u 5), .inr (7, [.ref (u 39), .ref (u 40), .int 0, .int 0, .int 0, .int 0, .int 0, .int 0, .int 0, .int 0])), ((u 39), .inl (cy 0, 9, .inl (fun _ => 0))), ((u 40), .inl (cy 0, 9, .inl (fun _ => 0)))] H := hP
  have hD : va_D A [((u 9), .inr (10, [.ref (u 73), .int sd, .int 0])), ((u 73), .inr (7, [.ref (u 74), .ref (u 75), .int 0, .int 0, .int 0, .int 0, .int 0, .int 0, .int 0, .int 0])), ((u 74), .inl (cy 0, 9, .inl (fun _ => 0))), ((u 75), .inl (cy 0, 9, .inl (fun _ => 0))), ((u 5), .inr (7, [.ref (u 39), .ref (u 40), .int 0, .int 0, .int 0, .int 0, .int 0, .int 0, .int 0, .int 0])), ((u 39), .inl (cy 0, 9, .inl (fun _ => 0))), ((u 40), .inl (cy 0, 9, .inl (fun _ => 0)))] := hD
  refine lv_aload_n hx hb dX8_begin_8 rfl (lv_at hl 0 rfl) ?_
  refine va_get (D := D) (ci := 10) (v := .ref (u 73)) (C := RX8) (T := TX8) (N := 3) hx hb hts kin_RX8 hown hG.1 hP 0 rfl rfl 0 (by decide) (hts _ wm_273) (fun _ h9 => h9) rfl dX8_begin_9 ?_
  refine k_calv [0, 2, 3, 4, 5, 6] (⟨hP, hD, hG, hS, hA, rfl, rfl⟩ : kAt D cy sa A s H _ _ [((u 73), .inr (7, [.ref (u 74), .ref (u 75), .int 0, .int 0, .int 0, .int 0, .int 0, .int 0, .int 0, .int 0]))] [1]) (wr := [((u 9), .inr (10, [.ref (u 73), .int sd, .int 0])), ((u 74), .inl (cy 0, 9, .inl (fun _ => 0))), ((u 75), .inl (cy 0, 9, .inl (fun _ => 0))), ((u 5), .inr (7, [.ref (u 39), .ref (u 40), .int 0, .int 0, .int 0, .int 0, .int 0, .int 0, .int 0, .int 0])), ((u 39), .inl (cy 0, 9, .inl (fun _ => 0))), ((u 40), .inl (cy 0, 9, .inl (fun _ => 0)))]) rfl rfl (by decide) (k_runV 7 1 (As := []) (rest := []) E lk_VRX8_29 rfl rfl rfl (c_Moment_forget l hl0 D cy sa (u 73) (u 74) (u 75) H.size) (⟨hP, hD, hG, hS, hA, rfl, rfl⟩ : kAt D cy sa A s H _ _ [((u 73), .inr (7, [.ref (u 74), .ref (u 75), .int 0, .int 0, .int 0, .int 0, .int 0, .int 0, .int 0, .int 0]))] [1]) hl.1 rfl rfl ⟨rfl, rfl, ⟨Nat.le_of_ble_eq_true rfl, Nat.le_of_ble_eq_true rfl⟩, ⟨Nat.le_of_ble_eq_true rfl, Nat.le_of_ble_eq_true rfl⟩, Nat.le_of_ble_eq_true rfl⟩ dX8_begin_12) (fun u4 H locs hwu4 hP hD hS => ?_)
  have hP : va_P D vwCl [((u 9), .inr (10, [.ref (u 73), .int sd, .int 0])), ((u 74), .inl (cy 0, 9, .inl (fun _ => 0))), ((u 75), .inl (cy 0, 9, .inl (fun _ => 0))), ((u 5), .inr (7, [.ref (u 39), .ref (u 40), .int 0, .int 0, .int 0, .int 0, .int 0, .int 0, .int 0, .int 0])), ((u 39), .inl (cy 0, 9, .inl (fun _ => 0))), ((u 40), .inl (cy 0, 9, .inl (fun _ => 0))), ((u 73), .inr (7, [.ref (u 74), .ref (u 75), .int 0, .int 0, .int 0, .int 0, .int 0, .int 0, .int 0, .int 0]))] H := hP
  have hD : va_D A [((u 9), .inr (10, [.ref (u 73), .int sd, .int 0])), ((u 74), .inl (cy 0, 9, .inl (fun _ => 0))), ((u 75), .inl (cy 0, 9, .inl (fun _ => 0))), ((u 5), .inr (7, [.ref (u 39), .ref (u 40), .int 0, .int 0, .int 0, .int 0, .int 0, .int 0, .int 0, .int 0])), ((u 39), .inl (cy 0, 9, .inl (fun _ => 0))), ((u 40), .inl (cy 0, 9, .inl (fun _ => 0))), ((u 73), .inr (7, [.ref (u 74), .ref (u 75), .int 0, .int 0, .int 0, .int 0, .int 0, .int 0, .int 0, .int 0]))] := hD
  exact k_vret () hx hb hr hlk (trivial) (hP.sub [0, 6, 1, 2, 3, 4, 5] rfl) (hD.sub [0, 6, 1, 2, 3, 4, 5] (by decide) rfl) hS (by decide) (by decide) dX8_begin_15

set_option maxHeartbeats 4000000 in
set_option maxRecDepth 100000 in
/-- Trial.follow: a day without minutes -/
theorem c_Trial_follow (l : Launch) (hl0 : l.stackTraces = false) (D : va_G) (cy : Nat → ClassId) (sa : Nat → Nat) (u : Nat → Nat) (sd p1 p2 p3 : Int32) (sz : Nat) : Met l yX8_follow (Cond.code yX8_follow cX8_follow 8 none :: kWS) ({ frames := 12, cells := 0, slots := 0, locals := 420 }) (kPre D cy sa [.ref (u 9), .ref (u 3), .int p1, .int p2, .int p3] [((u 9), .inr (10, [.ref (u 73), .int sd, .int 0])), ((u 73), .inr (7, [.ref (u 74), .ref (u 75), .int 0, .int 0, .int 0, .int 0, .int 0, .int 0, .int 0, .int 0])), ((u 3), .inr (4, [.ref (u 15), .ref (u 16), .ref (u 17), .ref (u 18), .ref (u 19), .ref (u 20), .ref (u 21), .ref (u 22), .ref (u 23), .ref (u 24), .ref (u 25), .ref (u 26), .int 0, .int 0, .int 0, .int 0, .int 0]))] sz) (va_Qv (fun (_ : Unit) => True) (kB D (va_A [((u 9), .inr (10, [.ref (u 73), .int sd, .int 0])), ((u 73), .inr (7, [.ref (u 74), .ref (u 75), .int 0, .int 0, .int 0, .int 0, .int 0, .int 0, .int 0, .int 0])), ((u 3), .inr (4, [.ref (u 15), .ref (u 16), .ref (u 17), .ref (u 18), .ref (u 19), .ref (u 20), .ref (u 21), .ref (u 22), .ref (u 23), .ref (u 24), .ref (u 25), .ref (u 26), .int 0, .int 0, .int 0, .int 0, .int 0]))] sz) (fun _ => [((u 9), .inr (10, [.ref (u 73), .int p3, .int 0])), ((u 73), .inr (7, [.ref (u 74), .ref (u 75), .int 0, .int 0, .int 0, .int 0, .int 0, .int 0, .int 0, .int 0])), ((u 3), .inr (4, [.ref (u 15), .ref (u 16), .ref (u 17), .ref (u 18), .ref (u 19), .ref (u 20), .ref (u 21), .ref (u 22), .ref (u 23), .ref (u 24), .ref (u 25), .ref (u 26), .int 0, .int 0, .int 0, .int 0, .int 0]))])) (va_A [((u 9), .inr (10, [.ref (u 73), .int sd, .int 0])), ((u 73), .inr (7, [.ref (u 74), .ref (u 75), .int 0, .int 0, .int 0, .int 0, .int 0, .int 0, .int 0, .int 0])), ((u 3), .inr (4, [.ref (u 15), .ref (u 16), .ref (u 17), .ref (u 18), .ref (u 19), .ref (u 20), .ref (u 21), .ref (u 22), .ref (u 23), .ref (u 24), .ref (u 25), .ref (u 26), .int 0, .int 0, .int 0, .int 0, .int 0]))] sz)) 0 0 (va_A [((u 9), .inr (10, [.ref (u 73), .int sd, .int 0])), ((u 73), .inr (7, [.ref (u 74), .ref (u 75), .int 0, .int 0, .int 0, .int 0, .int 0, .int 0, .int 0, .int 0])), ((u 3), .inr (4, [.ref (u 15), .ref (u 16), .ref (u 17), .ref (u 18), .ref (u 19), .ref (u 20), .ref (u 21), .ref (u 22), .ref (u 23), .ref (u 24), .ref (u 25), .ref (u 26), .int 0, .int 0, .int 0, .int 0, .int 0]))] sz) := by
  refine k_ofW (Qc := fun A => va_Qv (fun (_ : Unit) => True) (kB D A (fun _ => [((u 9), .inr (10, [.ref (u 73), .int p3, .int 0])), ((u 73), .inr (7, [.ref (u 74), .ref (u 75), .int 0, .int 0, .int 0, .int 0, .int 0, .int 0, .int 0, .int 0])), ((u 3), .inr (4, [.ref (u 15), .ref (u 16), .ref (u 17), .ref (u 18), .ref (u 19), .ref (u 20), .ref (u 21), .ref (u 22), .ref (u 23), .ref (u 24), .ref (u 25), .ref (u 26), .int 0, .int 0, .int 0, .int 0, .int 0]))])) A) (by decide) (Nat.le_of_ble_eq_true rfl) ?_
  intro p e s m below meth c ls A E hA hP hD hG hS hl
  obtain ⟨hx, hb, hml, hown, hts, hr, hlk, hnm⟩ := id E
  have hown : s.vm.findClass RX8 = some m.cls := hown
  have hl : lv_has ls 8 [(0, .ref (u 9)), (1, .ref (u 3)), (2, .int p1), (3, .int p2), (4, .int p3)] := hl
  obtain ⟨H, hH⟩ : ∃ H, H = s.heap := ⟨_, rfl⟩
  have hP : va_P D vwCl [((u 9), .inr (10, [.ref (u 73), .int sd, .int 0])), ((u 73), .inr (7, [.ref (u 74), .ref (u 75), .int 0, .int 0, .int 0, .int 0, .int 0, .int 0, .int 0, .int 0])), ((u 3), .inr (4, [.ref (u 15), .ref (u 16), .ref (u 17), .ref (u 18), .ref (u 19), .ref (u 20), .ref (u 21), .ref (u 22), .ref (u 23), .ref (u 24), .ref (u 25), .ref (u 26), .int 0, .int 0, .int 0, .int 0, .int 0]))] H := by rw [hH]; exact hP
  have hS : va_S A s.heap H [] := by rw [hH]; exact va_S.rf
  rw [← hH]
  clear hH
  refine lv_aload_n hx hb dX8_follow_0 rfl (lv_at hl 0 rfl) ?_
  refine lv_iload hx hb dX8_follow_1 (lv_at hl 4 rfl) ?_
  refine va_put (D := D) (ci := 10) (v := .int p3) (ty := .int) (C := RX8) (T := TX8) (N := 3) hx hb hts kin_RX8 tyX8 tyX8_ok nmX8 hown hG.1 hP hD hS 0 rfl rfl 1 (by decide) (hts _ wm_275) (fun _ h9 => h9) rfl (by decide +kernel) rfl rfl (Nat.le_of_ble_eq_true rfl) dX8_follow_3 (fun H locs hP hD hS => ?_)
  have hP : va_P D vwCl [((u 9), .inr (10, [.ref (u 73), .int p3, .int 0])), ((u 73), .inr (7, [.ref (u 74), .ref (u 75), .int 0, .int 0, .int 0, .int 0, .int 0, .int 0, .int 0, .int 0])), ((u 3), .inr (4, [.ref (u 15), .ref (u 16), .ref (u 17), .ref (u 18), .ref (u 19), .ref (u 20), .ref (u 21), .ref (u 22), .ref (u 23), .ref (u 24), .ref (u 25), .ref (u 26), .int 0, .int 0, .int 0, .int 0, .int 0]))] H := hP
  have hD : va_D A [((u 9), .inr (10, [.ref (u 73), .int p3, .int 0])), ((u 73), .inr (7, [.ref (u 74), .ref (u 75), .int 0, .int 0, .int 0, .int 0, .int 0, .int 0, .int 0, .int 0])), ((u 3), .inr (4, [.ref (u 15), .ref (u 16), .ref (u 17), .ref (u 18), .ref (u 19), .ref (u 20), .ref (u 21), .ref (u 22), .ref (u 23), .ref (u 24), .ref (u 25), .ref (u 26), .int 0, .int 0, .int 0, .int 0, .int 0]))] := hD
  refine lv_iconst (v := 0) hx hb dX8_follow_6 (by decide) ?_
  refine lv_istore (lv' := [(5, .int 0), (0, .ref (u 9)), (1, .ref (u 3)), (2, .int p1), (3, .int p2), (4, .int p3)]) hx hb dX8_follow_7 hl (by decide) rfl (fun ls hl => ?_)
  refine lv_aload_n hx hb dX8_follow_9 rfl (lv_at hl 1 rfl) ?_
  refine va_get (D := D) (ci := 10) (v := .ref (u 73)) (C := RX8) (T := TX8) (N := 3) hx hb hts kin_RX8 hown hG.1 hP 0 rfl rfl 0 (by decide) (hts _ wm_273) (fun _ h9 => h9) rfl dX8_follow_10 ?_
  refine va_get (D := D) (ci := 7) (v := .int 0) (C := RX5) (T := TX5) (N := 10) hx hb hts kin_RX5 hown hG.1 hP 1 rfl rfl 2 (by decide) (hts _ wm_186) (fun _ h9 => h9) rfl dX8_follow_13 ?_
  refine lv_istore (lv' := [(6, .int 0), (5, .int 0), (0, .ref (u 9)), (1, .ref (u 3)), (2, .int p1), (3, .int p2), (4, .int p3)]) hx hb dX8_follow_16 hl (by decide) rfl (fun ls hl => ?_)
  refine lv_iload hx hb dX8_follow_18 (lv_at hl 0 rfl) ?_
  refine lv_aload_n hx hb dX8_follow_20 rfl (lv_at hl 3 rfl) ?_
  refine va_get (D := D) (ci := 4) (v := .int 0) (C := RX2) (T := TX2) (N := 17) hx hb hts kin_RX2 hown hG.1 hP 2 rfl rfl 16 (by decide) (hts _ wm_134) (fun _ h9 => h9) rfl dX8_follow_21 ?_
  refine lv_icmp_ge (tgt := 126) hx hb dX8_follow_24 (by decide) (fun _ => ?_) (fun h => absurd (by decide) h)
  exact k_vret () hx hb hr hlk (trivial) (hP.sub [0, 1, 2] rfl) (hD.sub [0, 1, 2] (by decide) rfl) hS (by decide) (by decide) dX8_follow_126

set_option maxHeartbeats 4000000 in
set_option maxRecDepth 100000 in
/-- Judge.follow: a day without minutes -/
theorem c_Judge_follow (l : Launch) (hl0 : l.stackTraces = false) (D : va_G) (cy : Nat → ClassId) (sa : Nat → Nat) (u : Nat → Nat) (sz : Nat) : Met l yX3_follow (Cond.code yX3_follow cX3_follow 5 none :: kWS) ({ frames := 12, cells := 0, slots := 0, locals := 420 }) (kPre D cy sa [.ref (u 10), .ref (u 3), .ref (u 5), .ref (u 6)] [((u 10), .inr (5, [.ref (u 76), .int (-1), .int 0])), ((u 76), .inr (7, [.ref (u 77), .ref (u 78), .int 0, .int 0, .int 0, .int 0, .int 0, .int 0, .int 0, .int 0])), ((u 77), .inl (cy 0, 9, .inl (fun _ => 0))), ((u 78), .inl (cy 0, 9, .inl (fun _ => 0))), ((u 3), .inr (4, [.ref (u 15), .ref (u 16), .ref (u 17), .ref (u 18), .ref (u 19), .ref (u 20), .ref (u 21), .ref (u 22), .ref (u 23), .ref (u 24), .ref (u 25), .ref (u 26), .int 0, .int 0, .int 0, .int 0, .int 0])), ((u 5), .inr (7, [.ref (u 39), .ref (u 40), .int 0, .int 0, .int 0, .int 0, .int 0, .int 0, .int 0, .int 0])), ((u 39), .inl (cy 0, 9, .inl (fun _ => 0))), ((u 40), .inl (cy 0, 9, .inl (fun _ => 0))), ((u 6), .inr (8, [.ref (u 41), .ref (u 42), .int 0, .ref (u 43), .ref (u 44), .int 0, .ref (u 45)]))] sz) (va_Qv (fun (_ : Unit) => True) (kB D (va_A [((u 10), .inr (5, [.ref (u 76), .int (-1), .int 0])), ((u 76), .inr (7, [.ref (u 77), .ref (u 78), .int 0, .int 0, .int 0, .int 0, .int 0, .int 0, .int 0, .int 0])), ((u 77), .inl (cy 0, 9, .inl (fun _ => 0))), ((u 78), .inl (cy 0, 9, .inl (fun _ => 0))), ((u 3), .inr (4, [.ref (u 15), .ref (u 16), .ref (u 17), .ref (u 18), .ref (u 19), .ref (u 20), .ref (u 21), .ref (u 22), .ref (u 23), .ref (u 24), .ref (u 25), .ref (u 26), .int 0, .int 0, .int 0, .int 0, .int 0])), ((u 5), .inr (7, [.ref (u 39), .ref (u 40), .int 0, .int 0, .int 0, .int 0, .int 0, .int 0, .int 0, .int 0])), ((u 39), .inl (cy 0, 9, .inl (fun _ => 0))), ((u 40), .inl (cy 0, 9, .inl (fun _ => 0))), ((u 6), .inr (8, [.ref (u 41), .ref (u 42), .int 0, .ref (u 43), .ref (u 44), .int 0, .ref (u 45)]))] sz) (fun _ => [((u 10), .inr (5, [.ref (u 76), .int (-1), .int 0])), ((u 76), .inr (7, [.ref (u 77), .ref (u 78), .int 0, .int 0, .int 0, .int 0, .int 0, .int 0, .int 0, .int 0])), ((u 77), .inl (cy 0, 9, .inl (fun _ => 0))), ((u 78), .inl (cy 0, 9, .inl (fun _ => 0))), ((u 3), .inr (4, [.ref (u 15), .ref (u 16), .ref (u 17), .ref (u 18), .ref (u 19), .ref (u 20), .ref (u 21), .ref (u 22), .ref (u 23), .ref (u 24), .ref (u 25), .ref (u 26), .int 0, .int 0, .int 0, .int 0, .int 0])), ((u 5), .inr (7, [.ref (u 39), .ref (u 40), .int 0, .int 0, .int 0, .int 0, .int 0, .int 0, .int 0, .int 0])), ((u 39), .inl (cy 0, 9, .inl (fun _ => 0))), ((u 40), .inl (cy 0, 9, .inl (fun _ => 0))), ((u 6), .inr (8, [.ref (u 41), .ref (u 42), .int 0, .ref (u 43), .ref (u 44), .int 0, .ref (u 45)]))])) (va_A [((u 10), .inr (5, [.ref (u 76), .int (-1), .int 0])), ((u 76), .inr (7, [.ref (u 77), .ref (u 78), .int 0, .int 0, .int 0, .int 0, .int 0, .int 0, .int 0, .int 0])), ((u 77), .inl (cy 0, 9, .inl (fun _ => 0))), ((u 78), .inl (cy 0, 9, .inl (fun _ => 0))), ((u 3), .inr (4, [.ref (u 15), .ref (u 16), .ref (u 17), .ref (u 18), .ref (u 19), .ref (u 20), .ref (u 21), .ref (u 22), .ref (u 23), .ref (u 24), .ref (u 25), .ref (u 26), .int 0, .int 0, .int 0, .int 0, .int 0])), ((u 5), .inr (7, [.ref (u 39), .ref (u 40), .int 0, .int 0, .int 0, .int 0, .int 0, .int 0, .int 0, .int 0])), ((u 39), .inl (cy 0, 9, .inl (fun _ => 0))), ((u 40), .inl (cy 0, 9, .inl (fun _ => 0))), ((u 6), .inr (8, [.ref (u 41), .ref (u 42), .int 0, .ref (u 43), .ref (u 44), .int 0, .ref (u 45)]))] sz)) 0 0 (va_A [((u 10), .inr (5, [.ref (u 76), .int (-1), .int 0])), ((u 76), .inr (7, [.ref (u 77), .ref (u 78), .int 0, .int 0, .int 0, .int 0, .int 0, .int 0, .int 0, .int 0])), ((u 77), .inl (cy 0, 9, .inl (fun _ => 0))), ((u 78), .inl (cy 0, 9, .inl (fun _ => 0))), ((u 3), .inr (4, [.ref (u 15), .ref (u 16), .ref (u 17), .ref (u 18), .ref (u 19), .ref (u 20), .ref (u 21), .ref (u 22), .ref (u 23), .ref (u 24), .ref (u 25), .ref (u 26), .int 0, .int 0, .int 0, .int 0, .int 0])), ((u 5), .inr (7, [.ref (u 39), .ref (u 40), .int 0, .int 0, .int 0, .int 0, .int 0, .int 0, .int 0, .int 0])), ((u 39), .inl (cy 0, 9, .inl (fun _ => 0))), ((u 40), .inl (cy 0, 9, .inl (fun _ => 0))), ((u 6), .inr (8, [.ref (u 41), .ref (u 42), .int 0, .ref (u 43), .ref (u 44), .int 0, .ref (u 45)]))] sz) := by
  refine k_ofW (Qc := fun A => va_Qv (fun (_ : Unit) => True) (kB D A (fun _ => [((u 10), .inr (5, [.ref (u 76), .int (-1), .int 0])), ((u 76), .inr (7, [.ref (u 77), .ref (u 78), .int 0, .int 0, .int 0, .int 0, .int 0, .int 0, .int 0, .int 0])), ((u 77), .inl (cy 0, 9, .inl (fun _ => 0))), ((u 78), .inl (cy 0, 9, .inl (fun _ => 0))), ((u 3), .inr (4, [.ref (u 15), .ref (u 16), .ref (u 17), .ref (u 18), .ref (u 19), .ref (u 20), .ref (u 21), .ref (u 22), .ref (u 23), .ref (u 24), .ref (u 25), .ref (u 26), .int 0, .int 0, .int 0, .int 0, .int 0])), ((u 5), .inr (7, [.ref (u 39), .ref (u 40), .int 0, .int 0, .int 0, .int 0, .int 0, .int 0, .int 0, .int 0])), ((u 39), .inl (cy 0, 9, .inl (fun _ => 0))), ((u 40), .inl (cy 0, 9, .inl (fun _ => 0))), ((u 6), .inr (8, [.ref (u 41), .ref (u 42), .int 0, .ref (u 43), .ref (u 44), .int 0, .ref (u 45)]))])) A) (by decide) (Nat.le_of_ble_eq_true rfl) ?_
  intro p e s m below meth c ls A E hA hP hD hG hS hl
  obtain ⟨hx, hb, hml, hown, hts, hr, hlk, hnm⟩ := id E
  have hown : s.vm.findClass RX3 = some m.cls := hown
  have hl : lv_has ls 5 [(0, .ref (u 10)), (1, .ref (u 3)), (2, .ref (u 5)), (3, .ref (u 6))] := hl
  obtain ⟨H, hH⟩ : ∃ H, H = s.heap := ⟨_, rfl⟩
  have hP : va_P D vwCl [((u 10), .inr (5, [.ref (u 76), .int (-1), .int 0])), ((u 76), .inr (7, [.ref (u 77), .ref (u 78), .int 0, .int 0, .int 0, .int 0, .int 0, .int 0, .int 0, .int 0])), ((u 77), .inl (cy 0, 9, .inl (fun _ => 0))), ((u 78), .inl (cy 0, 9, .inl (fun _ => 0))), ((u 3), .inr (4, [.ref (u 15), .ref (u 16), .ref (u 17), .ref (u 18), .ref (u 19), .ref (u 20), .ref (u 21), .ref (u 22), .ref (u 23), .ref (u 24), .ref (u 25), .ref (u 26), .int 0, .int 0, .int 0, .int 0, .int 0])), ((u 5), .inr (7, [.ref (u 39), .ref (u 40), .int 0, .int 0, .int 0, .int 0, .int 0, .int 0, .int 0, .int 0])), ((u 39), .inl (cy 0, 9, .inl (fun _ => 0))), ((u 40), .inl (cy 0, 9, .inl (fun _ => 0))), ((u 6), .inr (8, [.ref (u 41), .ref (u 42), .int 0, .ref (u 43), .ref (u 44), .int 0, .ref (u 45)]))] H := by rw [hH]; exact hP
  have hS : va_S A s.heap H [] := by rw [hH]; exact va_S.rf
  rw [← hH]
  clear hH
  refine lv_aload_n hx hb dX3_follow_0 rfl (lv_at hl 0 rfl) ?_
  refine va_get (D := D) (ci := 5) (v := .ref (u 76)) (C := RX3) (T := TX3) (N := 3) hx hb hts kin_RX3 hown hG.1 hP 0 rfl rfl 0 (by decide) (hts _ wm_292) (fun _ h9 => h9) rfl dX3_follow_1 ?_
  refine lv_aload_n hx hb dX3_follow_4 rfl (lv_at hl 2 rfl) ?_
  refine k_calv [0, 4, 8] (⟨hP, hD, hG, hS, hA, rfl, rfl⟩ : kAt D cy sa A s H _ _ [((u 76), .inr (7, [.ref (u 77), .ref (u 78), .int 0, .int 0, .int 0, .int 0, .int 0, .int 0, .int 0, .int 0])), ((u 77), .inl (cy 0, 9, .inl (fun _ => 0))), ((u 78), .inl (cy 0, 9, .inl (fun _ => 0))), ((u 5), .inr (7, [.ref (u 39), .ref (u 40), .int 0, .int 0, .int 0, .int 0, .int 0, .int 0, .int 0, .int 0])), ((u 39), .inl (cy 0, 9, .inl (fun _ => 0))), ((u 40), .inl (cy 0, 9, .inl (fun _ => 0)))] [1, 2, 3, 5, 6, 7]) (wr := [((u 10), .inr (5, [.ref (u 76), .int (-1), .int 0])), ((u 3), .inr (4, [.ref (u 15), .ref (u 16), .ref (u 17), .ref (u 18), .ref (u 19), .ref (u 20), .ref (u 21), .ref (u 22), .ref (u 23), .ref (u 24), .ref (u 25), .ref (u 26), .int 0, .int 0, .int 0, .int 0, .int 0])), ((u 6), .inr (8, [.ref (u 41), .ref (u 42), .int 0, .ref (u 43), .ref (u 44), .int 0, .ref (u 45)]))]) rfl rfl (by decide) (k_runV 7 1 (As := [.ref (u 5)]) (rest := []) E lk_VRX3_25 rfl rfl rfl (c_Moment_copy l hl0 D cy sa (u 76) (u 77) (u 78) (u 5) (u 39) (u 40) H.size) (⟨hP, hD, hG, hS, hA, rfl, rfl⟩ : kAt D cy sa A s H _ _ [((u 76), .inr (7, [.ref (u 77), .ref (u 78), .int 0, .int 0, .int 0, .int 0, .int 0, .int 0, .int 0, .int 0])), ((u 77), .inl (cy 0, 9, .inl (fun _ => 0))), ((u 78), .inl (cy 0, 9, .inl (fun _ => 0))), ((u 5), .inr (7, [.ref (u 39), .ref (u 40), .int 0, .int 0, .int 0, .int 0, .int 0, .int 0, .int 0, .int 0])), ((u 39), .inl (cy 0, 9, .inl (fun _ => 0))), ((u 40), .inl (cy 0, 9, .inl (fun _ => 0)))] [1, 2, 3, 5, 6, 7]) hl.1 rfl rfl ⟨rfl, rfl, ⟨Nat.le_of_ble_eq_true rfl, Nat.le_of_ble_eq_true rfl⟩, ⟨Nat.le_of_ble_eq_true rfl, Nat.le_of_ble_eq_true rfl⟩, Nat.le_of_ble_eq_true rfl⟩ dX3_follow_5) (fun u2 H locs hwu2 hP hD hS => ?_)
  have hP : va_P D vwCl [((u 10), .inr (5, [.ref (u 76), .int (-1), .int 0])), ((u 3), .inr (4, [.ref (u 15), .ref (u 16), .ref (u 17), .ref (u 18), .ref (u 19), .ref (u 20), .ref (u 21), .ref (u 22), .ref (u 23), .ref (u 24), .ref (u 25), .ref (u 26), .int 0, .int 0, .int 0, .int 0, .int 0])), ((u 6), .inr (8, [.ref (u 41), .ref (u 42), .int 0, .ref (u 43), .ref (u 44), .int 0, .ref (u 45)])), ((u 76), .inr (7, [.ref (u 77), .ref (u 78), .int 0, .int 0, .int 0, .int 0, .int 0, .int 0, .int 0, .int 0])), ((u 77), .inl (cy 0, 9, .inl (fun _ => 0))), ((u 78), .inl (cy 0, 9, .inl (fun _ => 0))), ((u 5), .inr (7, [.ref (u 39), .ref (u 40), .int 0, .int 0, .int 0, .int 0, .int 0, .int 0, .int 0, .int 0])), ((u 39), .inl (cy 0, 9, .inl (fun _ => 0))), ((u 40), .inl (cy 0, 9, .inl (fun _ => 0)))] H := hP
  have hD : va_D A [((u 10), .inr (5, [.ref (u 76), .int (-1), .int 0])), ((u 3), .inr (4, [.ref (u 15), .ref (u 16), .ref (u 17), .ref (u 18), .ref (u 19), .ref (u 20), .ref (u 21), .ref (u 22), .ref (u 23), .ref (u 24), .ref (u 25), .ref (u 26), .int 0, .int 0, .int 0, .int 0, .int 0])), ((u 6), .inr (8, [.ref (u 41), .ref (u 42), .int 0, .ref (u 43), .ref (u 44), .int 0, .ref (u 45)])), ((u 76), .inr (7, [.ref (u 77), .ref (u 78), .int 0, .int 0, .int 0, .int 0, .int 0, .int 0, .int 0, .int 0])), ((u 77), .inl (cy 0, 9, .inl (fun _ => 0))), ((u 78), .inl (cy 0, 9, .inl (fun _ => 0))), ((u 5), .inr (7, [.ref (u 39), .ref (u 40), .int 0, .int 0, .int 0, .int 0, .int 0, .int 0, .int 0, .int 0])), ((u 39), .inl (cy 0, 9, .inl (fun _ => 0))), ((u 40), .inl (cy 0, 9, .inl (fun _ => 0)))] := hD
  refine lv_aload_n hx hb dX3_follow_8 rfl (lv_at hl 0 rfl) ?_
  refine va_get (D := D) (ci := 5) (v := .ref (u 76)) (C := RX3) (T := TX3) (N := 3) hx hb hts kin_RX3 hown hG.1 hP 0 rfl rfl 0 (by decide) (hts _ wm_292) (fun _ h9 => h9) rfl dX3_follow_9 ?_
  refine k_calv [0, 1, 2, 4, 5, 6, 7, 8] (⟨hP, hD, hG, hS, hA, rfl, rfl⟩ : kAt D cy sa A s H _ _ [((u 76), .inr (7, [.ref (u 77), .ref (u 78), .int 0, .int 0, .int 0, .int 0, .int 0, .int 0, .int 0, .int 0]))] [3]) (wr := [((u 10), .inr (5, [.ref (u 76), .int (-1), .int 0])), ((u 3), .inr (4, [.ref (u 15), .ref (u 16), .ref (u 17), .ref (u 18), .ref (u 19), .ref (u 20), .ref (u 21), .ref (u 22), .ref (u 23), .ref (u 24), .ref (u 25), .ref (u 26), .int 0, .int 0, .int 0, .int 0, .int 0])), ((u 6), .inr (8, [.ref (u 41), .ref (u 42), .int 0, .ref (u 43), .ref (u 44), .int 0, .ref (u 45)])), ((u 77), .inl (cy 0, 9, .inl (fun _ => 0))), ((u 78), .inl (cy 0, 9, .inl (fun _ => 0))), ((u 5), .inr (7, [.ref (u 39), .ref (u 40), .int 0, .int 0, .int 0, .int 0, .int 0, .int 0, .int 0, .int 0])), ((u 39), .inl (cy 0, 9, .inl (fun _ => 0))), ((u 40), .inl (cy 0, 9, .inl (fun _ => 0)))]) rfl rfl (by decide) (k_runV 7 3 (As := []) (rest := []) E lk_VRX3_29 rfl rfl rfl (c_Moment_forget l hl0 D cy sa (u 76) (u 77) (u 78) H.size) (⟨hP, hD, hG, hS, hA, rfl, rfl⟩ : kAt D cy sa A s H _ _ [((u 76), .inr (7, [.ref (u 77), .ref (u 78), .int 0, .int 0, .int 0, .int 0, .int 0, .int 0, .int 0, .int 0]))] [3]) hl.1 rfl rfl ⟨rfl, rfl, ⟨Nat.le_of_ble_eq_true rfl, Nat.le_of_ble_eq_true rfl⟩, ⟨Nat.le_of_ble_eq_true rfl, Nat.le_of_ble_eq_true rfl⟩, Nat.le_of_ble_eq_true rfl⟩ dX3_follow_12) (fun u4 H locs hwu4 hP hD hS => ?_)
  have hP : va_P D vwCl [((u 10), .inr (5, [.ref (u 76), .int (-1), .int 0])), ((u 3), .inr (4, [.ref (u 15), .ref (u 16), .ref (u 17), .ref (u 18), .ref (u 19), .ref (u 20), .ref (u 21), .ref (u 22), .ref (u 23), .ref (u 24), .ref (u 25), .ref (u 26), .int 0, .int 0, .int 0, .int 0, .int 0])), ((u 6), .inr (8, [.ref (u 41), .ref (u 42), .int 0, .ref (u 43), .ref (u 44), .int 0, .ref (u 45)])), ((u 77), .inl (cy 0, 9, .inl (fun _ => 0))), ((u 78), .inl (cy 0, 9, .inl (fun _ => 0))), ((u 5), .inr (7, [.ref (u 39), .ref (u 40), .int 0, .int 0, .int 0, .int 0, .int 0, .int 0, .int 0, .int 0])), ((u 39), .inl (cy 0, 9, .inl (fun _ => 0))), ((u 40), .inl (cy 0, 9, .inl (fun _ => 0))), ((u 76), .inr (7, [.ref (u 77), .ref (u 78), .int 0, .int 0, .int 0, .int 0, .int 0, .int 0, .int 0, .int 0]))] H := hP
  have hD : va_D A [((u 10), .inr (5, [.ref (u 76), .int (-1), .int 0])), ((u 3), .inr (4, [.ref (u 15), .ref (u 16), .ref (u 17), .ref (u 18), .ref (u 19), .ref (u 20), .ref (u 21), .ref (u 22), .ref (u 23), .ref (u 24), .ref (u 25), .ref (u 26), .int 0, .int 0, .int 0, .int 0, .int 0])), ((u 6), .inr (8, [.ref (u 41), .ref (u 42), .int 0, .ref (u 43), .ref (u 44), .int 0, .ref (u 45)])), ((u 77), .inl (cy 0, 9, .inl (fun _ => 0))), ((u 78), .inl (cy 0, 9, .inl (fun _ => 0))), ((u 5), .inr (7, [.ref (u 39), .ref (u 40), .int 0, .int 0, .int 0, .int 0, .int 0, .int 0, .int 0, .int 0])), ((u 39), .inl (cy 0, 9, .inl (fun _ => 0))), ((u 40), .inl (cy 0, 9, .inl (fun _ => 0))), ((u 76), .inr (7, [.ref (u 77), .ref (u 78), .int 0, .int 0, .int 0, .int 0, .int 0, .int 0, .int 0, .int 0]))] := hD
  refine lv_aload_n hx hb dX3_follow_15 rfl (lv_at hl 0 rfl) ?_
  refine lv_iconst (v := (-1)) hx hb dX3_follow_16 (by decide) ?_
  refine va_put (D := D) (ci := 5) (v := .int (-1)) (ty := .int) (C := RX3) (T := TX3) (N := 3) hx hb hts kin_RX3 tyX3 tyX3_ok nmX3 hown hG.1 hP hD hS 0 rfl rfl 1 (by decide) (hts _ wm_294) (fun _ h9 => h9) rfl (by decide +kernel) rfl rfl (Nat.le_of_ble_eq_true rfl) dX3_follow_17 (fun H locs hP hD hS => ?_)
  have hP : va_P D vwCl [((u 10), .inr (5, [.ref (u 76), .int (-1), .int 0])), ((u 3), .inr (4, [.ref (u 15), .ref (u 16), .ref (u 17), .ref (u 18), .ref (u 19), .ref (u 20), .ref (u 21), .ref (u 22), .ref (u 23), .ref (u 24), .ref (u 25), .ref (u 26), .int 0, .int 0, .int 0, .int 0, .int 0])), ((u 6), .inr (8, [.ref (u 41), .ref (u 42), .int 0, .ref (u 43), .ref (u 44), .int 0, .ref (u 45)])), ((u 77), .inl (cy 0, 9, .inl (fun _ => 0))), ((u 78), .inl (cy 0, 9, .inl (fun _ => 0))), ((u 5), .inr (7, [.ref (u 39), .ref (u 40), .int 0, .int 0, .int 0, .int 0, .int 0, .int 0, .int 0, .int 0])), ((u 39), .inl (cy 0, 9, .inl (fun _ => 0))), ((u 40), .inl (cy 0, 9, .inl (fun _ => 0))), ((u 76), .inr (7, [.ref (u 77), .ref (u 78), .int 0, .int 0, .int 0, .int 0, .int 0, .int 0, .int 0, .int 0]))] H := hP
  have hD : va_D A [((u 10), .inr (5, [.ref (u 76), .int (-1), .int 0])), ((u 3), .inr (4, [.ref (u 15), .ref (u 16), .ref (u 17), .ref (u 18), .ref (u 19), .ref (u 20), .ref (u 21), .ref (u 22), .ref (u 23), .ref (u 24), .ref (u 25), .ref (u 26), .int 0, .int 0, .int 0, .int 0, .int 0])), ((u 6), .inr (8, [.ref (u 41), .ref (u 42), .int 0, .ref (u 43), .ref (u 44), .int 0, .ref (u 45)])), ((u 77), .inl (cy 0, 9, .inl (fun _ => 0))), ((u 78), .inl (cy 0, 9, .inl (fun _ => 0))), ((u 5), .inr (7, [.ref (u 39), .ref (u 40), .int 0, .int 0, .int 0, .int 0, .int 0, .int 0, .int 0, .int 0])), ((u 39), .inl (cy 0, 9, .inl (fun _ => 0))), ((u 40), .inl (cy 0, 9, .inl (fun _ => 0))), ((u 76), .inr (7, [.ref (u 77), .ref (u 78), .int 0, .int 0, .int 0, .int 0, .int 0, .int 0, .int 0, .int 0]))] := hD
  refine lv_aload_n hx hb dX3_follow_20 rfl (lv_at hl 0 rfl) ?_
  refine lv_iconst (v := 0) hx hb dX3_follow_21 (by decide) ?_
  refine va_put (D := D) (ci := 5) (v := .int 0) (ty := .int) (C := RX3) (T := TX3) (N := 3) hx hb hts kin_RX3 tyX3 tyX3_ok nmX3 hown hG.1 hP hD hS 0 rfl rfl 2 (by decide) (hts _ wm_296) (fun _ h9 => h9) rfl (by decide +kernel) rfl rfl (Nat.le_of_ble_eq_true rfl) dX3_follow_22 (fun H locs hP hD hS => ?_)
  have hP : va_P D vwCl [((u 10), .inr (5, [.ref (u 76), .int (-1), .int 0])), ((u 3), .inr (4, [.ref (u 15), .ref (u 16), .ref (u 17), .ref (u 18), .ref (u 19), .ref (u 20), .ref (u 21), .ref (u 22), .ref (u 23), .ref (u 24), .ref (u 25), .ref (u 26), .int 0, .int 0, .int 0, .int 0, .int 0])), ((u 6), .inr (8, [.ref (u 41), .ref (u 42), .int 0, .ref (u 43), .ref (u 44), .int 0, .ref (u 45)])), ((u 77), .inl (cy 0, 9, .inl (fun _ => 0))), ((u 78), .inl (cy 0, 9, .inl (fun _ => 0))), ((u 5), .inr (7, [.ref (u 39), .ref (u 40), .int 0, .int 0, .int 0, .int 0, .int 0, .int 0, .int 0, .int 0])), ((u 39), .inl (cy 0, 9, .inl (fun _ => 0))), ((u 40), .inl (cy 0, 9, .inl (fun _ => 0))), ((u 76), .inr (7, [.ref (u 77), .ref (u 78), .int 0, .int 0, .int 0, .int 0, .int 0, .int 0, .int 0, .int 0]))] H := hP
  have hD : va_D A [((u 10), .inr (5, [.ref (u 76), .int (-1), .int 0])), ((u 3), .inr (4, [.ref (u 15), .ref (u 16), .ref (u 17), .ref (u 18), .ref (u 19), .ref (u 20), .ref (u 21), .ref (u 22), .ref (u 23), .ref (u 24), .ref (u 25), .ref (u 26), .int 0, .int 0, .int 0, .int 0, .int 0])), ((u 6), .inr (8, [.ref (u 41), .ref (u 42), .int 0, .ref (u 43), .ref (u 44), .int 0, .ref (u 45)])), ((u 77), .inl (cy 0, 9, .inl (fun _ => 0))), ((u 78), .inl (cy 0, 9, .inl (fun _ => 0))), ((u 5), .inr (7, [.ref (u 39), .ref (u 40), .int 0, .int 0, .int 0, .int 0, .int 0, .int 0, .int 0, .int 0])), ((u 39), .inl (cy 0, 9, .inl (fun _ => 0))), ((u 40), .inl (cy 0, 9, .inl (fun _ => 0))), ((u 76), .inr (7, [.ref (u 77), .ref (u 78), .int 0, .int 0, .int 0, .int 0, .int 0, .int 0, .int 0, .int 0]))] := hD
  refine lv_iconst (v := 0) hx hb dX3_follow_25 (by decide) ?_
  refine lv_istore (lv' := [(4, .int 0), (0, .ref (u 10)), (1, .ref (u 3)), (2, .ref (u 5)), (3, .ref (u 6))]) hx hb dX3_follow_26 hl (by decide) rfl (fun ls hl => ?_)
  refine lv_iload hx hb dX3_follow_28 (lv_at hl 0 rfl) ?_
  refine lv_aload_n hx hb dX3_follow_30 rfl (lv_at hl 4 rfl) ?_
  refine va_get (D := D) (ci := 8) (v := .int 0) (C := RX6) (T := TX6) (N := 7) hx hb hts kin_RX6 hown hG.1 hP 2 rfl rfl 2 (by decide) (hts _ wm_241) (fun _ h9 => h9) rfl dX3_follow_31 ?_
  refine lv_icmp_ge (tgt := 70) hx hb dX3_follow_34 (by decide) (fun _ => ?_) (fun h => absurd (by decide) h)
  refine lv_aload_n hx hb dX3_follow_70 rfl (lv_at hl 1 rfl) ?_
  refine va_get (D := D) (ci := 5) (v := .ref (u 76)) (C := RX3) (T := TX3) (N := 3) hx hb hts kin_RX3 hown hG.1 hP 0 rfl rfl 0 (by decide) (hts _ wm_292) (fun _ h9 => h9) rfl dX3_follow_71 ?_
  refine va_get (D := D) (ci := 7) (v := .int 0) (C := RX5) (T := TX5) (N := 10) hx hb hts kin_RX5 hown hG.1 hP 8 rfl rfl 2 (by decide) (hts _ wm_185) (fun _ h9 => h9) rfl dX3_follow_74 ?_
  refine lv_istore (lv' := [(4, .int 0), (0, .ref (u 10)), (1, .ref (u 3)), (2, .ref (u 5)), (3, .ref (u 6))]) hx hb dX3_follow_77 hl (by decide) rfl (fun ls hl => ?_)
  refine lv_iload hx hb dX3_follow_79 (lv_at hl 0 rfl) ?_
  refine lv_aload_n hx hb dX3_follow_81 rfl (lv_at hl 2 rfl) ?_
  refine va_get (D := D) (ci := 4) (v := .int 0) (C := RX2) (T := TX2) (N := 17) hx hb hts kin_RX2 hown hG.1 hP 1 rfl rfl 16 (by decide) (hts _ wm_133) (fun _ h9 => h9) rfl dX3_follow_82 ?_
  refine lv_icmp_ge (tgt := 109) hx hb dX3_follow_85 (by decide) (fun _ => ?_) (fun h => absurd (by decide) h)
  exact k_vret () hx hb hr hlk (trivial) (hP.sub [0, 8, 3, 4, 1, 5, 6, 7, 2] rfl) (hD.sub [0, 8, 3, 4, 1, 5, 6, 7, 2] (by decide) rfl) hS (by decide) (by decide) dX3_follow_109

set_option maxHeartbeats 4000000 in
set_option maxRecDepth 100000 in
/-- Watch.lookOn: a day without minutes -/
theorem c_Watch_lookOn (l : Launch) (hl0 : l.stackTraces = false) (D : va_G) (cy : Nat → ClassId) (sa : Nat → Nat) (u : Nat → Nat) (sz : Nat) : Met l yX9_lookOn (Cond.code yX9_lookOn cX9_lookOn 6 none :: kWS) ({ frames := 12, cells := 0, slots := 0, locals := 420 }) (kPre D cy sa [.ref (u 11), .ref (u 3)] [((u 11), .inr (11, [.ref (u 79), .ref (u 82), .int 0, .int 0, .int 0])), ((u 79), .inr (7, [.ref (u 80), .ref (u 81), .int 0, .int (-1), .int 0, .int 0, .int 0, .int 0, .int 0, .int 0])), ((u 82), .inl (cy 0, 9, .inl (fun _ => 0))), ((u 3), .inr (4, [.ref (u 15), .ref (u 16), .ref (u 17), .ref (u 18), .ref (u 19), .ref (u 20), .ref (u 21), .ref (u 22), .ref (u 23), .ref (u 24), .ref (u 25), .ref (u 26), .int 0, .int 0, .int 0, .int 0, .int 0]))] sz) (va_Qv (fun (_ : Nat → Int32) => True) (kB D (va_A [((u 11), .inr (11, [.ref (u 79), .ref (u 82), .int 0, .int 0, .int 0])), ((u 79), .inr (7, [.ref (u 80), .ref (u 81), .int 0, .int (-1), .int 0, .int 0, .int 0, .int 0, .int 0, .int 0])), ((u 82), .inl (cy 0, 9, .inl (fun _ => 0))), ((u 3), .inr (4, [.ref (u 15), .ref (u 16), .ref (u 17), .ref (u 18), .ref (u 19), .ref (u 20), .ref (u 21), .ref (u 22), .ref (u 23), .ref (u 24), .ref (u 25), .ref (u 26), .int 0, .int 0, .int 0, .int 0, .int 0]))] sz) (fun f => [((u 11), .inr (11, [.ref (u 79), .ref (u 82), .int 0, .int 0, .int 0])), ((u 79), .inr (7, [.ref (u 80), .ref (u 81), .int 0, .int (-1), .int 0, .int 0, .int 0, .int 0, .int 0, .int 0])), ((u 82), .inl (cy 0, 9, .inl f)), ((u 3), .inr (4, [.ref (u 15), .ref (u 16), .ref (u 17), .ref (u 18), .ref (u 19), .ref (u 20), .ref (u 21), .ref (u 22), .ref (u 23), .ref (u 24), .ref (u 25), .ref (u 26), .int 0, .int 0, .int 0, .int 0, .int 0]))])) (va_A [((u 11), .inr (11, [.ref (u 79), .ref (u 82), .int 0, .int 0, .int 0])), ((u 79), .inr (7, [.ref (u 80), .ref (u 81), .int 0, .int (-1), .int 0, .int 0, .int 0, .int 0, .int 0, .int 0])), ((u 82), .inl (cy 0, 9, .inl (fun _ => 0))), ((u 3), .inr (4, [.ref (u 15), .ref (u 16), .ref (u 17), .ref (u 18), .ref (u 19), .ref (u 20), .ref (u 21), .ref (u 22), .ref (u 23), .ref (u 24), .ref (u 25), .ref (u 26), .int 0, .int 0, .int 0, .int 0, .int 0]))] sz)) 0 0 (va_A [((u 11), .inr (11, [.ref (u 79), .ref (u 82), .int 0, .int 0, .int 0])), ((u 79), .inr (7, [.ref (u 80), .ref (u 81), .int 0, .int (-1), .int 0, .int 0, .int 0, .int 0, .int 0, .int 0])), ((u 82), .inl (cy 0, 9, .inl (fun _ => 0))), ((u 3), .inr (4, [.ref (u 15), .ref (u 16), .ref (u 17), .ref (u 18), .ref (u 19), .ref (u 20), .ref (u 21), .ref (u 22), .ref (u 23), .ref (u 24), .ref (u 25), .ref (u 26), .int 0, .int 0, .int 0, .int 0, .int 0]))] sz) := by
  refine k_ofW (Qc := fun A => va_Qv (fun (_ : Nat → Int32) => True) (kB D A (fun f => [((u 11), .inr (11, [.ref (u 79), .ref (u 82), .int 0, .int 0, .int 0])), ((u 79), .inr (7, [.ref (u 80), .ref (u 81), .int 0, .int (-1), .int 0, .int 0, .int 0, .int 0, .int 0, .int 0])), ((u 82), .inl (cy 0, 9, .inl f)), ((u 3), .inr (4, [.ref (u 15), .ref (u 16), .ref (u 17), .ref (u 18), .ref (u 19), .ref (u 20), .ref (u 21), .ref (u 22), .ref (u 23), .ref (u 24), .ref (u 25), .ref (u 26), .int 0, .int 0, .int 0, .int 0, .int 0]))])) A) (by decide) (Nat.le_of_ble_eq_true rfl) ?_
  intro p e s m below meth c ls A E hA hP hD hG hS hl
  obtain ⟨hx, hb, hml, hown, hts, hr, hlk, hnm⟩ := id E
  have hown : s.vm.findClass RX9 = some m.cls := hown
  have hl : lv_has ls 6 [(0, .ref (u 11)), (1, .ref (u 3))] := hl
  obtain ⟨H, hH⟩ : ∃ H, H = s.heap := ⟨_, rfl⟩
  have hP : va_P D vwCl [((u 11), .inr (11, [.ref (u 79), .ref (u 82), .int 0, .int 0, .int 0])), ((u 79), .inr (7, [.ref (u 80), .ref (u 81), .int 0, .int (-1), .int 0, .int 0, .int 0, .int 0, .int 0, .int 0])), ((u 82), .inl (cy 0, 9, .inl (fun _ => 0))), ((u 3), .inr (4, [.ref (u 15), .ref (u 16), .ref (u 17), .ref (u 18), .ref (u 19), .ref (u 20), .ref (u 21), .ref (u 22), .ref (u 23), .ref (u 24), .ref (u 25), .ref (u 26), .int 0, .int 0, .int 0, .int 0, .int 0]))] H := by rw [hH]; exact hP
  have hS : va_S A s.heap H [] := by rw [hH]; exact va_S.rf
  rw [← hH]
  clear hH
  refine lv_aload_n hx hb dX9_lookOn_0 rfl (lv_at hl 0 rfl) ?_
  refine va_get (D := D) (ci := 11) (v := .ref (u 82)) (C := RX9) (T := TX9) (N := 5) hx hb hts kin_RX9 hown hG.1 hP 0 rfl rfl 1 (by decide) (hts _ wm_314) (fun _ h9 => h9) rfl dX9_lookOn_1 ?_
  refine lv_iconst (v := (-1)) hx hb dX9_lookOn_4 (by decide) ?_
  refine k_calv [0, 1, 3] (⟨hP, hD, hG, hS, hA, rfl, rfl⟩ : kAt D cy sa A s H _ _ [((u 82), .inl (cy 0, 9, .inl (fun _ => 0)))] [2]) (wr := [((u 11), .inr (11, [.ref (u 79), .ref (u 82), .int 0, .int 0, .int 0])), ((u 79), .inr (7, [.ref (u 80), .ref (u 81), .int 0, .int (-1), .int 0, .int 0, .int 0, .int 0, .int 0, .int 0])), ((u 3), .inr (4, [.ref (u 15), .ref (u 16), .ref (u 17), .ref (u 18), .ref (u 19), .ref (u 20), .ref (u 21), .ref (u 22), .ref (u 23), .ref (u 24), .ref (u 25), .ref (u 26), .int 0, .int 0, .int 0, .int 0, .int 0]))]) rfl rfl (by decide) (k_runS (As := [.ref (u 82), .int (-1)]) (rest := []) E lk_SRX9_59 (c_fill9 l hl0 D cy sa (u 82) H.size) (⟨hP, hD, hG, hS, hA, rfl, rfl⟩ : kAt D cy sa A s H _ _ [((u 82), .inl (cy 0, 9, .inl (fun _ => 0)))] [2]) hl.1 rfl rfl ⟨rfl, rfl, ⟨Nat.le_of_ble_eq_true rfl, Nat.le_of_ble_eq_true rfl⟩, ⟨Nat.le_of_ble_eq_true rfl, Nat.le_of_ble_eq_true rfl⟩, Nat.le_of_ble_eq_true rfl⟩ dX9_lookOn_5) (fun u2 H locs hwu2 hP hD hS => ?_)
  have hP : va_P D vwCl [((u 11), .inr (11, [.ref (u 79), .ref (u 82), .int 0, .int 0, .int 0])), ((u 79), .inr (7, [.ref (u 80), .ref (u 81), .int 0, .int (-1), .int 0, .int 0, .int 0, .int 0, .int 0, .int 0])), ((u 3), .inr (4, [.ref (u 15), .ref (u 16), .ref (u 17), .ref (u 18), .ref (u 19), .ref (u 20), .ref (u 21), .ref (u 22), .ref (u 23), .ref (u 24), .ref (u 25), .ref (u 26), .int 0, .int 0, .int 0, .int 0, .int 0])), ((u 82), .inl (cy 0, 9, .inl u2))] H := hP
  have hD : va_D A [((u 11), .inr (11, [.ref (u 79), .ref (u 82), .int 0, .int 0, .int 0])), ((u 79), .inr (7, [.ref (u 80), .ref (u 81), .int 0, .int (-1), .int 0, .int 0, .int 0, .int 0, .int 0, .int 0])), ((u 3), .inr (4, [.ref (u 15), .ref (u 16), .ref (u 17), .ref (u 18), .ref (u 19), .ref (u 20), .ref (u 21), .ref (u 22), .ref (u 23), .ref (u 24), .ref (u 25), .ref (u 26), .int 0, .int 0, .int 0, .int 0, .int 0])), ((u 82), .inl (cy 0, 9, .inl u2))] := hD
  refine lv_aload_n hx hb dX9_lookOn_8 rfl (lv_at hl 0 rfl) ?_
  refine lv_aload_n hx hb dX9_lookOn_9 rfl (lv_at hl 1 rfl) ?_
  refine va_get (D := D) (ci := 4) (v := .int 0) (C := RX2) (T := TX2) (N := 17) hx hb hts kin_RX2 hown hG.1 hP 2 rfl rfl 12 (by decide) (hts _ wm_121) (fun _ h9 => h9) rfl dX9_lookOn_10 ?_
  refine va_put (D := D) (ci := 11) (v := .int 0) (ty := .int) (C := RX9) (T := TX9) (N := 5) hx hb hts kin_RX9 tyX9 tyX9_ok nmX9 hown hG.1 hP hD hS 0 rfl rfl 2 (by decide) (hts _ wm_315) (fun _ h9 => h9) rfl (by decide +kernel) rfl rfl (Nat.le_of_ble_eq_true rfl) dX9_lookOn_13 (fun H locs hP hD hS => ?_)
  have hP : va_P D vwCl [((u 11), .inr (11, [.ref (u 79), .ref (u 82), .int 0, .int 0, .int 0])), ((u 79), .inr (7, [.ref (u 80), .ref (u 81), .int 0, .int (-1), .int 0, .int 0, .int 0, .int 0, .int 0, .int 0])), ((u 3), .inr (4, [.ref (u 15), .ref (u 16), .ref (u 17), .ref (u 18), .ref (u 19), .ref (u 20), .ref (u 21), .ref (u 22), .ref (u 23), .ref (u 24), .ref (u 25), .ref (u 26), .int 0, .int 0, .int 0, .int 0, .int 0])), ((u 82), .inl (cy 0, 9, .inl u2))] H := hP
  have hD : va_D A [((u 11), .inr (11, [.ref (u 79), .ref (u 82), .int 0, .int 0, .int 0])), ((u 79), .inr (7, [.ref (u 80), .ref (u 81), .int 0, .int (-1), .int 0, .int 0, .int 0, .int 0, .int 0, .int 0])), ((u 3), .inr (4, [.ref (u 15), .ref (u 16), .ref (u 17), .ref (u 18), .ref (u 19), .ref (u 20), .ref (u 21), .ref (u 22), .ref (u 23), .ref (u 24), .ref (u 25), .ref (u 26), .int 0, .int 0, .int 0, .int 0, .int 0])), ((u 82), .inl (cy 0, 9, .inl u2))] := hD
  refine lv_aload_n hx hb dX9_lookOn_16 rfl (lv_at hl 0 rfl) ?_
  refine lv_aload_n hx hb dX9_lookOn_17 rfl (lv_at hl 0 rfl) ?_
  refine va_get (D := D) (ci := 11) (v := .ref (u 79)) (C := RX9) (T := TX9) (N := 5) hx hb hts kin_RX9 hown hG.1 hP 0 rfl rfl 0 (by decide) (hts _ wm_313) (fun _ h9 => h9) rfl dX9_lookOn_18 ?_
  refine va_get (D := D) (ci := 7) (v := .int 0) (C := RX5) (T := TX5) (N := 10) hx hb hts kin_RX5 hown hG.1 hP 1 rfl rfl 4 (by decide) (hts _ wm_195) (fun _ h9 => h9) rfl dX9_lookOn_21 ?_
  refine va_put (D := D) (ci := 11) (v := .int 0) (ty := .int) (C := RX9) (T := TX9) (N := 5) hx hb hts kin_RX9 tyX9 tyX9_ok nmX9 hown hG.1 hP hD hS 0 rfl rfl 4 (by decide) (hts _ wm_317) (fun _ h9 => h9) rfl (by decide +kernel) rfl rfl (Nat.le_of_ble_eq_true rfl) dX9_lookOn_24 (fun H locs hP hD hS => ?_)
  have hP : va_P D vwCl [((u 11), .inr (11, [.ref (u 79), .ref (u 82), .int 0, .int 0, .int 0])), ((u 79), .inr (7, [.ref (u 80), .ref (u 81), .int 0, .int (-1), .int 0, .int 0, .int 0, .int 0, .int 0, .int 0])), ((u 3), .inr (4, [.ref (u 15), .ref (u 16), .ref (u 17), .ref (u 18), .ref (u 19), .ref (u 20), .ref (u 21), .ref (u 22), .ref (u 23), .ref (u 24), .ref (u 25), .ref (u 26), .int 0, .int 0, .int 0, .int 0, .int 0])), ((u 82), .inl (cy 0, 9, .inl u2))] H := hP
  have hD : va_D A [((u 11), .inr (11, [.ref (u 79), .ref (u 82), .int 0, .int 0, .int 0])), ((u 79), .inr (7, [.ref (u 80), .ref (u 81), .int 0, .int (-1), .int 0, .int 0, .int 0, .int 0, .int 0, .int 0])), ((u 3), .inr (4, [.ref (u 15), .ref (u 16), .ref (u 17), .ref (u 18), .ref (u 19), .ref (u 20), .ref (u 21), .ref (u 22), .ref (u 23), .ref (u 24), .ref (u 25), .ref (u 26), .int 0, .int 0, .int 0, .int 0, .int 0])), ((u 82), .inl (cy 0, 9, .inl u2))] := hD
  refine lv_aload_n hx hb dX9_lookOn_27 rfl (lv_at hl 1 rfl) ?_
  refine va_get (D := D) (ci := 4) (v := .int 0) (C := RX2) (T := TX2) (N := 17) hx hb hts kin_RX2 hown hG.1 hP 2 rfl rfl 16 (by decide) (hts _ wm_135) (fun _ h9 => h9) rfl dX9_lookOn_28 ?_
  refine lv_aload_n hx hb dX9_lookOn_31 rfl (lv_at hl 0 rfl) ?_
  refine va_get (D := D) (ci := 11) (v := .ref (u 79)) (C := RX9) (T := TX9) (N := 5) hx hb hts kin_RX9 hown hG.1 hP 0 rfl rfl 0 (by decide) (hts _ wm_313) (fun _ h9 => h9) rfl dX9_lookOn_32 ?_
  refine va_get (D := D) (ci := 7) (v := .int 0) (C := RX5) (T := TX5) (N := 10) hx hb hts kin_RX5 hown hG.1 hP 1 rfl rfl 2 (by decide) (hts _ wm_187) (fun _ h9 => h9) rfl dX9_lookOn_35 ?_
  refine lv_isub hx hb dX9_lookOn_38 ?_
  refine lv_topi (fun x3 ex3 => ?_)
  obtain rfl : x3 = 0 := ex3.trans (by decide)
  refine lv_istore_n (lv' := [(2, .int 0), (0, .ref (u 11)), (1, .ref (u 3))]) hx hb dX9_lookOn_39 rfl hl (by decide) rfl (fun ls hl => ?_)
  refine lv_iconst (v := 0) hx hb dX9_lookOn_40 (by decide) ?_
  refine lv_istore_n (lv' := [(3, .int 0), (2, .int 0), (0, .ref (u 11)), (1, .ref (u 3))]) hx hb dX9_lookOn_41 rfl hl (by decide) rfl (fun ls hl => ?_)
  refine lv_iload_n hx hb dX9_lookOn_42 rfl (lv_at hl 0 rfl) ?_
  refine lv_iload_n hx hb dX9_lookOn_43 rfl (lv_at hl 1 rfl) ?_
  refine lv_icmp_ge (tgt := 115) hx hb dX9_lookOn_44 (by decide) (fun _ => ?_) (fun h => absurd (by decide) h)
  exact k_vret u2 hx hb hr hlk (trivial) (hP.sub [0, 1, 3, 2] rfl) (hD.sub [0, 1, 3, 2] (by decide) rfl) hS (by decide) (by decide) dX9_lookOn_115

set_option maxHeartbeats 4000000 in
set_option maxRecDepth 100000 in
/-- Watch.leaveAlone -/
theorem c_Watch_leaveAlone (l : Launch) (hl0 : l.stackTraces = false) (D : va_G) (cy : Nat → ClassId) (sa : Nat → Nat) (u : Nat → Nat) (sz : Nat) : Met l yX9_leaveAlone (Cond.code yX9_leaveAlone cX9_leaveAlone 3 none :: kWS) ({ frames := 13, cells := 0, slots := 0, locals := 480 }) (kPre D cy sa [.ref (u 11), .ref (u 3), .ref (u 5)] [((u 11), .inr (11, [.ref (u 79), .ref (u 82), .int 0, .int 0, .int 0])), ((u 79), .inr (7, [.ref (u 80), .ref (u 81), .int 0, .int 0, .int 0, .int 0, .int 0, .int 0, .int 0, .int 0])), ((u 80), .inl (cy 0, 9, .inl (fun _ => 0))), ((u 81), .inl (cy 0, 9, .inl (fun _ => 0))), ((u 82), .inl (cy 0, 9, .inl (fun _ => 0))), ((u 3), .inr (4, [.ref (u 15), .ref (u 16), .ref (u 17), .ref (u 18), .ref (u 19), .ref (u 20), .ref (u 21), .ref (u 22), .ref (u 23), .ref (u 24), .ref (u 25), .ref (u 26), .int 0, .int 0, .int 0, .int 0, .int 0])), ((u 5), .inr (7, [.ref (u 39), .ref (u 40), .int 0, .int 0, .int 0, .int 0, .int 0, .int 0, .int 0, .int 0])), ((u 39), .inl (cy 0, 9, .inl (fun _ => 0))), ((u 40), .inl (cy 0, 9, .inl (fun _ => 0)))] sz) (va_Qv (fun (_ : Nat → Int32) => True) (kB D (va_A [((u 11), .inr (11, [.ref (u 79), .ref (u 82), .int 0, .int 0, .int 0])), ((u 79), .inr (7, [.ref (u 80), .ref (u 81), .int 0, .int 0, .int 0, .int 0, .int 0, .int 0, .int 0, .int 0])), ((u 80), .inl (cy 0, 9, .inl (fun _ => 0))), ((u 81), .inl (cy 0, 9, .inl (fun _ => 0))), ((u 82), .inl (cy 0, 9, .inl (fun _ => 0))), ((u 3), .inr (4, [.ref (u 15), .ref (u 16), .ref (u 17), .ref (u 18), .ref (u 19), .ref (u 20), .ref (u 21), .ref (u 22), .ref (u 23), .ref (u 24), .ref (u 25), .ref (u 26), .int 0, .int 0, .int 0, .int 0, .int 0])), ((u 5), .inr (7, [.ref (u 39), .ref (u 40), .int 0, .int 0, .int 0, .int 0, .int 0, .int 0, .int 0, .int 0])), ((u 39), .inl (cy 0, 9, .inl (fun _ => 0))), ((u 40), .inl (cy 0, 9, .inl (fun _ => 0)))] sz) (fun f => [((u 11), .inr (11, [.ref (u 79), .ref (u 82), .int 0, .int 0, .int 0])), ((u 79), .inr (7, [.ref (u 80), .ref (u 81), .int 0, .int (-1), .int 0, .int 0, .int 0, .int 0, .int 0, .int 0])), ((u 82), .inl (cy 0, 9, .inl f)), ((u 3), .inr (4, [.ref (u 15), .ref (u 16), .ref (u 17), .ref (u 18), .ref (u 19), .ref (u 20), .ref (u 21), .ref (u 22), .ref (u 23), .ref (u 24), .ref (u 25), .ref (u 26), .int 0, .int 0, .int 0, .int 0, .int 0]))])) (va_A [((u 11), .inr (11, [.ref (u 79), .ref (u 82), .int 0, .int 0, .int 0])), ((u 79), .inr (7, [.ref (u 80), .ref (u 81), .int 0, .int 0, .int 0, .int 0, .int 0, .int 0, .int 0, .int 0])), ((u 80), .inl (cy 0, 9, .inl (fun _ => 0))), ((u 81), .inl (cy 0, 9, .inl (fun _ => 0))), ((u 82), .inl (cy 0, 9, .inl (fun _ => 0))), ((u 3), .inr (4, [.ref (u 15), .ref (u 16), .ref (u 17), .ref (u 18), .ref (u 19), .ref (u 20), .ref (u 21), .ref (u 22), .ref (u 23), .ref (u 24), .ref (u 25), .ref (u 26), .int 0, .int 0, .int 0, .int 0, .int 0])), ((u 5), .inr (7, [.ref (u 39), .ref (u 40), .int 0, .int 0, .int 0, .int 0, .int 0, .int 0, .int 0, .int 0])), ((u 39), .inl (cy 0, 9, .inl (fun _ => 0))), ((u 40), .inl (cy 0, 9, .inl (fun _ => 0)))] sz)) 0 0 (va_A [((u 11), .inr (11, [.ref (u 79), .ref (u 82), .int 0, .int 0, .int 0])), ((u 79), .inr (7, [.ref (u 80), .ref (u 81), .int 0, .int 0, .int 0, .int 0, .int 0, .int 0, .int 0, .int 0])), ((u 80), .inl (cy 0, 9, .inl (fun _ => 0))), ((u 81), .inl (cy 0, 9, .inl (fun _ => 0))), ((u 82), .inl (cy 0, 9, .inl (fun _ => 0))), ((u 3), .inr (4, [.ref (u 15), .ref (u 16), .ref (u 17), .ref (u 18), .ref (u 19), .ref (u 20), .ref (u 21), .ref (u 22), .ref (u 23), .ref (u 24), .ref (u 25), .ref (u 26), .int 0, .int 0, .int 0, .int 0, .int 0])), ((u 5), .inr (7, [.ref (u 39), .ref (u 40), .int 0, .int 0, .int 0, .int 0, .int 0, .int 0, .int 0, .int 0])), ((u 39), .inl (cy 0, 9, .inl (fun _ => 0))), ((u 40), .inl (cy 0, 9, .inl (fun _ => 0)))] sz) := by
  refine k_ofW (Qc := fun A => va_Qv (fun (_ : Nat → Int32) => True) (kB D A (fun f => [((u 11), .inr (11, [.ref (u 79), .ref (u 82), .int 0, .int 0, .int 0])), ((u 79), .inr (7, [.ref (u 80), .ref (u 81), .int 0, .int (-1), .int 0, .int 0, .int 0, .int 0, .int 0, .int 0])), ((u 82), .inl (cy 0, 9, .inl f)), ((u 3), .inr (4, [.ref (u 15), .ref (u 16), .ref (u 17), .ref (u 18), .ref (u 19), .ref (u 20), .ref (u 21), .ref (u 22), .ref (u 23), .ref (u 24), .ref (u 25), .ref (u 26), .int 0, .int 0, .int 0, .int 0, .int 0]))])) A) (by decide) (Nat.le_of_ble_eq_true rfl) ?_
  intro p e s m below meth c ls A E hA hP hD hG hS hl
  obtain ⟨hx, hb, hml, hown, hts, hr, hlk, hnm⟩ := id E
  have hown : s.vm.findClass RX9 = some m.cls := hown
  have hl : lv_has ls 3 [(0, .ref (u 11)), (1, .ref (u 3)), (2, .ref (u 5))] := hl
  obtain ⟨H, hH⟩ : ∃ H, H = s.heap := ⟨_, rfl⟩
  have hP : va_P D vwCl [((u 11), .inr (11, [.ref (u 79), .ref (u 82), .int 0, .int 0, .int 0])), ((u 79), .inr (7, [.ref (u 80), .ref (u 81), .int 0, .int 0, .int 0, .int 0, .int 0, .int 0, .int 0, .int 0])), ((u 80), .inl (cy 0, 9, .inl (fun _ => 0))), ((u 81), .inl (cy 0, 9, .inl (fun _ => 0))), ((u 82), .inl (cy 0, 9, .inl (fun _ => 0))), ((u 3), .inr (4, [.ref (u 15), .ref (u 16), .ref (u 17), .ref (u 18), .ref (u 19), .ref (u 20), .ref (u 21), .ref (u 22), .ref (u 23), .ref (u 24), .ref (u 25), .ref (u 26), .int 0, .int 0, .int 0, .int 0, .int 0])), ((u 5), .inr (7, [.ref (u 39), .ref (u 40), .int 0, .int 0, .int 0, .int 0, .int 0, .int 0, .int 0, .int 0])), ((u 39), .inl (cy 0, 9, .inl (fun _ => 0))), ((u 40), .inl (cy 0, 9, .inl (fun _ => 0)))] H := by rw [hH]; exact hP
  have hS : va_S A s.heap H [] := by rw [hH]; exact va_S.rf
  rw [← hH]
  clear hH
  refine lv_aload_n hx hb dX9_leaveAlone_0 rfl (lv_at hl 0 rfl) ?_
  refine va_get (D := D) (ci := 11) (v := .ref (u 79)) (C := RX9) (T := TX9) (N := 5) hx hb hts kin_RX9 hown hG.1 hP 0 rfl rfl 0 (by decide) (hts _ wm_313) (fun _ h9 => h9) rfl dX9_leaveAlone_1 ?_
  refine lv_aload_n hx hb dX9_leaveAlone_4 rfl (lv_at hl 2 rfl) ?_
  refine k_calv [0, 4, 5] (⟨hP, hD, hG, hS, hA, rfl, rfl⟩ : kAt D cy sa A s H _ _ [((u 79), .inr (7, [.ref (u 80), .ref (u 81), .int 0, .int 0, .int 0, .int 0, .int 0, .int 0, .int 0, .int 0])), ((u 80), .inl (cy 0, 9, .inl (fun _ => 0))), ((u 81), .inl (cy 0, 9, .inl (fun _ => 0))), ((u 5), .inr (7, [.ref (u 39), .ref (u 40), .int 0, .int 0, .int 0, .int 0, .int 0, .int 0, .int 0, .int 0])), ((u 39), .inl (cy 0, 9, .inl (fun _ => 0))), ((u 40), .inl (cy 0, 9, .inl (fun _ => 0)))] [1, 2, 3, 6, 7, 8]) (wr := [((u 11), .inr (11, [.ref (u 79), .ref (u 82), .int 0, .int 0, .int 0])), ((u 82), .inl (cy 0, 9, .inl (fun _ => 0))), ((u 3), .inr (4, [.ref (u 15), .ref (u 16), .ref (u 17), .ref (u 18), .ref (u 19), .ref (u 20), .ref (u 21), .ref (u 22), .ref (u 23), .ref (u 24), .ref (u 25), .ref (u 26), .int 0, .int 0, .int 0, .int 0, .int 0]))]) rfl rfl (by decide) (k_runV 7 1 (As := [.ref (u 5)]) (rest := []) E lk_VRX9_32 rfl rfl rfl (c_Moment_copy l hl0 D cy sa (u 79) (u 80) (u 81) (u 5) (u 39) (u 40) H.size) (⟨hP, hD, hG, hS, hA, rfl, rfl⟩ : kAt D cy sa A s H _ _ [((u 79), .inr (7, [.ref (u 80), .ref (u 81), .int 0, .int 0, .int 0, .int 0, .int 0, .int 0, .int 0, .int 0])), ((u 80), .inl (cy 0, 9, .inl (fun _ => 0))), ((u 81), .inl (cy 0, 9, .inl (fun _ => 0))), ((u 5), .inr (7, [.ref (u 39), .ref (u 40), .int 0, .int 0, .int 0, .int 0, .int 0, .int 0, .int 0, .int 0])), ((u 39), .inl (cy 0, 9, .inl (fun _ => 0))), ((u 40), .inl (cy 0, 9, .inl (fun _ => 0)))] [1, 2, 3, 6, 7, 8]) hl.1 rfl rfl ⟨rfl, rfl, ⟨Nat.le_of_ble_eq_true rfl, Nat.le_of_ble_eq_true rfl⟩, ⟨Nat.le_of_ble_eq_true rfl, Nat.le_of_ble_eq_true rfl⟩, Nat.le_of_ble_eq_true rfl⟩ dX9_leaveAlone_5) (fun u2 H locs hwu2 hP hD hS => ?_)
  have hP : va_P D vwCl [((u 11), .inr (11, [.ref (u 79), .ref (u 82), .int 0, .int 0, .int 0])), ((u 82), .inl (cy 0, 9, .inl (fun _ => 0))), ((u 3), .inr (4, [.ref (u 15), .ref (u 16), .ref (u 17), .ref (u 18), .ref (u 19), .ref (u 20), .ref (u 21), .ref (u 22), .ref (u 23), .ref (u 24), .ref (u 25), .ref (u 26), .int 0, .int 0, .int 0, .int 0, .int 0])), ((u 79), .inr (7, [.ref (u 80), .ref (u 81), .int 0, .int 0, .int 0, .int 0, .int 0, .int 0, .int 0, .int 0])), ((u 80), .inl (cy 0, 9, .inl (fun _ => 0))), ((u 81), .inl (cy 0, 9, .inl (fun _ => 0))), ((u 5), .inr (7, [.ref (u 39), .ref (u 40), .int 0, .int 0, .int 0, .int 0, .int 0, .int 0, .int 0, .int 0])), ((u 39), .inl (cy 0, 9, .inl (fun _ => 0))), ((u 40), .inl (cy 0, 9, .inl (fun _ => 0)))] H := hP
  have hD : va_D A [((u 11), .inr (11, [.ref (u 79), .ref (u 82), .int 0, .int 0, .int 0])), ((u 82), .inl (cy 0, 9, .inl (fun _ => 0))), ((u 3), .inr (4, [.ref (u 15), .ref (u 16), .ref (u 17), .ref (u 18), .ref (u 19), .ref (u 20), .ref (u 21), .ref (u 22), .ref (u 23), .ref (u 24), .ref (u 25), .ref (u 26), .int 0, .int 0, .int 0, .int 0, .int 0])), ((u 79), .inr (7, [.ref (u 80), .ref (u 81), .int 0, .int 0, .int 0, .int 0, .int 0, .int 0, .int 0, .int 0])), ((u 80), .inl (cy 0, 9, .inl (fun _ => 0))), ((u 81), .inl (cy 0, 9, .inl (fun _ => 0))), ((u 5), .inr (7, [.ref (u 39), .ref (u 40), .int 0, .int 0, .int 0, .int 0, .int 0, .int 0, .int 0, .int 0])), ((u 39), .inl (cy 0, 9, .inl (fun _ => 0))), ((u 40), .inl (cy 0, 9, .inl (fun _ => 0)))] := hD
  refine lv_aload_n hx hb dX9_leaveAlone_8 rfl (lv_at hl 0 rfl) ?_
  refine va_get (D := D) (ci := 11) (v := .ref (u 79)) (C := RX9) (T := TX9) (N := 5) hx hb hts kin_RX9 hown hG.1 hP 0 rfl rfl 0 (by decide) (hts _ wm_313) (fun _ h9 => h9) rfl dX9_leaveAlone_9 ?_
  refine lv_iconst (v := 0) hx hb dX9_leaveAlone_12 (by decide) ?_
  refine va_put (D := D) (ci := 7) (v := .int 0) (ty := .int) (C := RX5) (T := TX5) (N := 10) hx hb hts kin_RX5 tyX5 tyX5_ok nmX5 hown hG.1 hP hD hS 3 rfl rfl 4 (by decide) (hts _ wm_195) (fun _ h9 => h9) rfl (by decide +kernel) rfl rfl (Nat.le_of_ble_eq_true rfl) dX9_leaveAlone_13 (fun H locs hP hD hS => ?_)
  have hP : va_P D vwCl [((u 11), .inr (11, [.ref (u 79), .ref (u 82), .int 0, .int 0, .int 0])), ((u 82), .inl (cy 0, 9, .inl (fun _ => 0))), ((u 3), .inr (4, [.ref (u 15), .ref (u 16), .ref (u 17), .ref (u 18), .ref (u 19), .ref (u 20), .ref (u 21), .ref (u 22), .ref (u 23), .ref (u 24), .ref (u 25), .ref (u 26), .int 0, .int 0, .int 0, .int 0, .int 0])), ((u 79), .inr (7, [.ref (u 80), .ref (u 81), .int 0, .int 0, .int 0, .int 0, .int 0, .int 0, .int 0, .int 0])), ((u 80), .inl (cy 0, 9, .inl (fun _ => 0))), ((u 81), .inl (cy 0, 9, .inl (fun _ => 0))), ((u 5), .inr (7, [.ref (u 39), .ref (u 40), .int 0, .int 0, .int 0, .int 0, .int 0, .int 0, .int 0, .int 0])), ((u 39), .inl (cy 0, 9, .inl (fun _ => 0))), ((u 40), .inl (cy 0, 9, .inl (fun _ => 0)))] H := hP
  have hD : va_D A [((u 11), .inr (11, [.ref (u 79), .ref (u 82), .int 0, .int 0, .int 0])), ((u 82), .inl (cy 0, 9, .inl (fun _ => 0))), ((u 3), .inr (4, [.ref (u 15), .ref (u 16), .ref (u 17), .ref (u 18), .ref (u 19), .ref (u 20), .ref (u 21), .ref (u 22), .ref (u 23), .ref (u 24), .ref (u 25), .ref (u 26), .int 0, .int 0, .int 0, .int 0, .int 0])), ((u 79), .inr (7, [.ref (u 80), .ref (u 81), .int 0, .int 0, .int 0, .int 0, .int 0, .int 0, .int 0, .int 0])), ((u 80), .inl (cy 0, 9, .inl (fun _ => 0))), ((u 81), .inl (cy 0, 9, .inl (fun _ => 0))), ((u 5), .inr (7, [.ref (u 39), .ref (u 40), .int 0, .int 0, .int 0, .int 0, .int 0, .int 0, .int 0, .int 0])), ((u 39), .inl (cy 0, 9, .inl (fun _ => 0))), ((u 40), .inl (cy 0, 9, .inl (fun _ => 0)))] := hD
  refine lv_aload_n hx hb dX9_leaveAlone_16 rfl (lv_at hl 0 rfl) ?_
  refine va_get (D := D) (ci := 11) (v := .ref (u 79)) (C := RX9) (T := TX9) (N := 5) hx hb hts kin_RX9 hown hG.1 hP 0 rfl rfl 0 (by decide) (hts _ wm_313) (fun _ h9 => h9) rfl dX9_leaveAlone_17 ?_
  refine lv_iconst (v := (-1)) hx hb dX9_leaveAlone_20 (by decide) ?_
  refine va_put (D := D) (ci := 7) (v := .int (-1)) (ty := .int) (C := RX5) (T := TX5) (N := 10) hx hb hts kin_RX5 tyX5 tyX5_ok nmX5 hown hG.1 hP hD hS 3 rfl rfl 3 (by decide) (hts _ wm_190) (fun _ h9 => h9) rfl (by decide +kernel) rfl rfl (Nat.le_of_ble_eq_true rfl) dX9_leaveAlone_21 (fun H locs hP hD hS => ?_)
  have hP : va_P D vwCl [((u 11), .inr (11, [.ref (u 79), .ref (u 82), .int 0, .int 0, .int 0])), ((u 82), .inl (cy 0, 9, .inl (fun _ => 0))), ((u 3), .inr (4, [.ref (u 15), .ref (u 16), .ref (u 17), .ref (u 18), .ref (u 19), .ref (u 20), .ref (u 21), .ref (u 22), .ref (u 23), .ref (u 24), .ref (u 25), .ref (u 26), .int 0, .int 0, .int 0, .int 0, .int 0])), ((u 79), .inr (7, [.ref (u 80), .ref (u 81), .int 0, .int (-1), .int 0, .int 0, .int 0, .int 0, .int 0, .int 0])), ((u 80), .inl (cy 0, 9, .inl (fun _ => 0))), ((u 81), .inl (cy 0, 9, .inl (fun _ => 0))), ((u 5), .inr (7, [.ref (u 39), .ref (u 40), .int 0, .int 0, .int 0, .int 0, .int 0, .int 0, .int 0, .int 0])), ((u 39), .inl (cy 0, 9, .inl (fun _ => 0))), ((u 40), .inl (cy 0, 9, .inl (fun _ => 0)))] H := hP
  have hD : va_D A [((u 11), .inr (11, [.ref (u 79), .ref (u 82), .int 0, .int 0, .int 0])), ((u 82), .inl (cy 0, 9, .inl (fun _ => 0))), ((u 3), .inr (4, [.ref (u 15), .ref (u 16), .ref (u 17), .ref (u 18), .ref (u 19), .ref (u 20), .ref (u 21), .ref (u 22), .ref (u 23), .ref (u 24), .ref (u 25), .ref (u 26), .int 0, .int 0, .int 0, .int 0, .int 0])), ((u 79), .inr (7, [.ref (u 80), .ref (u 81), .int 0, .int (-1), .int 0, .int 0, .int 0, .int 0, .int 0, .int 0])), ((u 80), .inl (cy 0, 9, .inl (fun _ => 0))), ((u 81), .inl (cy 0, 9, .inl (fun _ => 0))), ((u 5), .inr (7, [.ref (u 39), .ref (u 40), .int 0, .int 0, .int 0, .int 0, .int 0, .int 0, .int 0, .int 0])), ((u 39), .inl (cy 0, 9, .inl (fun _ => 0))), ((u 40), .inl (cy 0, 9, .inl (fun _ => 0)))] := hD
  refine lv_aload_n hx hb dX9_leaveAlone_24 rfl (lv_at hl 0 rfl) ?_
  refine lv_iconst (v := 0) hx hb dX9_leaveAlone_25 (by decide) ?_
  refine va_put (D := D) (ci := 11) (v := .int 0) (ty := .int) (C := RX9) (T := TX9) (N := 5) hx hb hts kin_RX9 tyX9 tyX9_ok nmX9 hown hG.1 hP hD hS 0 rfl rfl 3 (by decide) (hts _ wm_316) (fun _ h9 => h9) rfl (by decide +kernel) rfl rfl (Nat.le_of_ble_eq_true rfl) dX9_leaveAlone_26 (fun H locs hP hD hS => ?_)
  have hP : va_P D vwCl [((u 11), .inr (11, [.ref (u 79), .ref (u 82), .int 0, .int 0, .int 0])), ((u 82), .inl (cy 0, 9, .inl (fun _ => 0))), ((u 3), .inr (4, [.ref (u 15), .ref (u 16), .ref (u 17), .ref (u 18), .ref (u 19), .ref (u 20), .ref (u 21), .ref (u 22), .ref (u 23), .ref (u 24), .ref (u 25), .ref (u 26), .int 0, .int 0, .int 0, .int 0, .int 0])), ((u 79), .inr (7, [.ref (u 80), .ref (u 81), .int 0, .int (-1), .int 0, .int 0, .int 0, .int 0, .int 0, .int 0])), ((u 80), .inl (cy 0, 9, .inl (fun _ => 0))), ((u 81), .inl (cy 0, 9, .inl (fun _ => 0))), ((u 5), .inr (7, [.ref (u 39), .ref (u 40), .int 0, .int 0, .int 0, .int 0, .int 0, .int 0, .int 0, .int 0])), ((u 39), .inl (cy 0, 9, .inl (fun _ => 0))), ((u 40), .inl (cy 0, 9, .inl (fun _ => 0)))] H := hP
  have hD : va_D A [((u 11), .inr (11, [.ref (u 79), .ref (u 82), .int 0, .int 0, .int 0])), ((u 82), .inl (cy 0, 9, .inl (fun _ => 0))), ((u 3), .inr (4, [.ref (u 15), .ref (u 16), .ref (u 17), .ref (u 18), .ref (u 19), .ref (u 20), .ref (u 21), .ref (u 22), .ref (u 23), .ref (u 24), .ref (u 25), .ref (u 26), .int 0, .int 0, .int 0, .int 0, .int 0])), ((u 79), .inr (7, [.ref (u 80), .ref (u 81), .int 0, .int (-1), .int 0, .int 0, .int 0, .int 0, .int 0, .int 0])), ((u 80), .inl (cy 0, 9, .inl (fun _ => 0))), ((u 81), .inl (cy 0, 9, .inl (fun _ => 0))), ((u 5), .inr (7, [.ref (u 39), .ref (u 40), .int 0, .int 0, .int 0, .int 0, .int 0, .int 0, .int 0, .int 0])), ((u 39), .inl (cy 0, 9, .inl (fun _ => 0))), ((u 40), .inl (cy 0, 9, .inl (fun _ => 0)))] := hD
  refine lv_aload_n hx hb dX9_leaveAlone_29 rfl (lv_at hl 0 rfl) ?_
  refine lv_aload_n hx hb dX9_leaveAlone_30 rfl (lv_at hl 1 rfl) ?_
  refine k_calv [4, 5, 6, 7, 8] (⟨hP, hD, hG, hS, hA, rfl, rfl⟩ : kAt D cy sa A s H _ _ [((u 11), .inr (11, [.ref (u 79), .ref (u 82), .int 0, .int 0, .int 0])), ((u 79), .inr (7, [.ref (u 80), .ref (u 81), .int 0, .int (-1), .int 0, .int 0, .int 0, .int 0, .int 0, .int 0])), ((u 82), .inl (cy 0, 9, .inl (fun _ => 0))), ((u 3), .inr (4, [.ref (u 15), .ref (u 16), .ref (u 17), .ref (u 18), .ref (u 19), .ref (u 20), .ref (u 21), .ref (u 22), .ref (u 23), .ref (u 24), .ref (u 25), .ref (u 26), .int 0, .int 0, .int 0, .int 0, .int 0]))] [0, 3, 1, 2]) (wr := [((u 80), .inl (cy 0, 9, .inl (fun _ => 0))), ((u 81), .inl (cy 0, 9, .inl (fun _ => 0))), ((u 5), .inr (7, [.ref (u 39), .ref (u 40), .int 0, .int 0, .int 0, .int 0, .int 0, .int 0, .int 0, .int 0])), ((u 39), .inl (cy 0, 9, .inl (fun _ => 0))), ((u 40), .inl (cy 0, 9, .inl (fun _ => 0)))]) rfl rfl (by decide) (k_runV 11 0 (As := [.ref (u 3)]) (rest := []) E lk_VRX9_55 rfl rfl rfl (c_Watch_lookOn l hl0 D cy sa u H.size) (⟨hP, hD, hG, hS, hA, rfl, rfl⟩ : kAt D cy sa A s H _ _ [((u 11), .inr (11, [.ref (u 79), .ref (u 82), .int 0, .int 0, .int 0])), ((u 79), .inr (7, [.ref (u 80), .ref (u 81), .int 0, .int (-1), .int 0, .int 0, .int 0, .int 0, .int 0, .int 0])), ((u 82), .inl (cy 0, 9, .inl (fun _ => 0))), ((u 3), .inr (4, [.ref (u 15), .ref (u 16), .ref (u 17), .ref (u 18), .ref (u 19), .ref (u 20), .ref (u 21), .ref (u 22), .ref (u 23), .ref (u 24), .ref (u 25), .ref (u 26), .int 0, .int 0, .int 0, .int 0, .int 0]))] [0, 3, 1, 2]) hl.1 rfl rfl ⟨rfl, rfl, ⟨Nat.le_of_ble_eq_true rfl, Nat.le_of_ble_eq_true rfl⟩, ⟨Nat.le_of_ble_eq_true rfl, Nat.le_of_ble_eq_true rfl⟩, Nat.le_of_ble_eq_true rfl⟩ dX9_leaveAlone_31) (fun u4 H locs hwu4 hP hD hS => ?_)
  have hP : va_P D vwCl [((u 80), .inl (cy 0, 9, .inl (fun _ => 0))), ((u 81), .inl (cy 0, 9, .inl (fun _ => 0))), ((u 5), .inr (7, [.ref (u 39), .ref (u 40), .int 0, .int 0, .int 0, .int 0, .int 0, .int 0, .int 0, .int 0])), ((u 39), .inl (cy 0, 9, .inl (fun _ => 0))), ((u 40), .inl (cy 0, 9, .inl (fun _ => 0))), ((u 11), .inr (11, [.ref (u 79), .ref (u 82), .int 0, .int 0, .int 0])), ((u 79), .inr (7, [.ref (u 80), .ref (u 81), .int 0, .int (-1), .int 0, .int 0, .int 0, .int 0, .int 0, .int 0])), ((u 82), .inl (cy 0, 9, .inl u4)), ((u 3), .inr (4, [.ref (u 15), .ref (u 16), .ref (u 17), .ref (u 18), .ref (u 19), .ref (u 20), .ref (u 21), .ref (u 22), .ref (u 23), .ref (u 24), .ref (u 25), .ref (u 26), .int 0, .int 0, .int 0, .int 0, .int 0]))] H := hP
  have hD : va_D A [((u 80), .inl (cy 0, 9, .inl (fun _ => 0))), ((u 81), .inl (cy 0, 9, .inl (fun _ => 0))), ((u 5), .inr (7, [.ref (u 39), .ref (u 40), .int 0, .int 0, .int 0, .int 0, .int 0, .int 0, .int 0, .int 0])), ((u 39), .inl (cy 0, 9, .inl (fun _ => 0))), ((u 40), .inl (cy 0, 9, .inl (fun _ => 0))), ((u 11), .inr (11, [.ref (u 79), .ref (u 82), .int 0, .int 0, .int 0])), ((u 79), .inr (7, [.ref (u 80), .ref (u 81), .int 0, .int (-1), .int 0, .int 0, .int 0, .int 0, .int 0, .int 0])), ((u 82), .inl (cy 0, 9, .inl u4)), ((u 3), .inr (4, [.ref (u 15), .ref (u 16), .ref (u 17), .ref (u 18), .ref (u 19), .ref (u 20), .ref (u 21), .ref (u 22), .ref (u 23), .ref (u 24), .ref (u 25), .ref (u 26), .int 0, .int 0, .int 0, .int 0, .int 0]))] := hD
  exact k_vret u4 hx hb hr hlk (trivial) (hP.sub [5, 6, 7, 8] rfl) (hD.sub [5, 6, 7, 8] (by decide) rfl) hS (by decide) (by decide) dX9_leaveAlone_34

set_option maxHeartbeats 4000000 in
set_option maxRecDepth 100000 in
/-- Watch.earliest: nobody -/
theorem c_Watch_earliest (l : Launch) (hl0 : l.stackTraces = false) (D : va_G) (cy : Nat → ClassId) (sa : Nat → Nat) (u : Nat → Nat) (f : Nat → Int32) (p0 : Int32) (sz : Nat) : Met l yX9_earliest (Cond.code yX9_earliest cX9_earliest 5 (some .int) :: kWS) ({ frames := 10, cells := 0, slots := 0, locals := 300 }) (kPre D cy sa [.ref (u 11), .int p0] [((u 11), .inr (11, [.ref (u 79), .ref (u 82), .int 0, .int 0, .int 0])), ((u 82), .inl (cy 0, 9, .inl f))] sz) (va_Qi (fun (r : Int32) (_ : Unit) => r = (-1)) (kB D (va_A [((u 11), .inr (11, [.ref (u 79), .ref (u 82), .int 0, .int 0, .int 0])), ((u 82), .inl (cy 0, 9, .inl f))] sz) (fun _ => [((u 11), .inr (11, [.ref (u 79), .ref (u 82), .int 0, .int 0, .int 0])), ((u 82), .inl (cy 0, 9, .inl f))])) (va_A [((u 11), .inr (11, [.ref (u 79), .ref (u 82), .int 0, .int 0, .int 0])), ((u 82), .inl (cy 0, 9, .inl f))] sz)) 0 0 (va_A [((u 11), .inr (11, [.ref (u 79), .ref (u 82), .int 0, .int 0, .int 0])), ((u 82), .inl (cy 0, 9, .inl f))] sz) := by
  refine k_ofW (Qc := fun A => va_Qi (fun (r : Int32) (_ : Unit) => r = (-1)) (kB D A (fun _ => [((u 11), .inr (11, [.ref (u 79), .ref (u 82), .int 0, .int 0, .int 0])), ((u 82), .inl (cy 0, 9, .inl f))])) A) (by decide) (Nat.le_of_ble_eq_true rfl) ?_
  intro p e s m below meth c ls A E hA hP hD hG hS hl
  obtain ⟨hx, hb, hml, hown, hts, hr, hlk, hnm⟩ := id E
  have hown : s.vm.findClass RX9 = some m.cls := hown
  have hl : lv_has ls 5 [(0, .ref (u 11)), (1, .int p0)] := hl
  obtain ⟨H, hH⟩ : ∃ H, H = s.heap := ⟨_, rfl⟩
  have hP : va_P D vwCl [((u 11), .inr (11, [.ref (u 79), .ref (u 82), .int 0, .int 0, .int 0])), ((u 82), .inl (cy 0, 9, .inl f))] H := by rw [hH]; exact hP
  have hS : va_S A s.heap H [] := by rw [hH]; exact va_S.rf
  rw [← hH]
  clear hH
  refine lv_iconst (v := (-1)) hx hb dX9_earliest_0 (by decide) ?_
  refine lv_istore_n (lv' := [(2, .int (-1)), (0, .ref (u 11)), (1, .int p0)]) hx hb dX9_earliest_1 rfl hl (by decide) rfl (fun ls hl => ?_)
  refine lv_iconst (v := 0) hx hb dX9_earliest_2 (by decide) ?_
  refine lv_istore_n (lv' := [(3, .int 0), (2, .int (-1)), (0, .ref (u 11)), (1, .int p0)]) hx hb dX9_earliest_3 rfl hl (by decide) rfl (fun ls hl => ?_)
  refine lv_iload_n hx hb dX9_earliest_4 rfl (lv_at hl 0 rfl) ?_
  refine lv_aload_n hx hb dX9_earliest_5 rfl (lv_at hl 2 rfl) ?_
  refine va_get (D := D) (ci := 11) (v := .int 0) (C := RX9) (T := TX9) (N := 5) hx hb hts kin_RX9 hown hG.1 hP 0 rfl rfl 2 (by decide) (hts _ wm_315) (fun _ h9 => h9) rfl dX9_earliest_6 ?_
  refine lv_icmp_ge (tgt := 70) hx hb dX9_earliest_9 (by decide) (fun _ => ?_) (fun h => absurd (by decide) h)
  refine lv_iload_n hx hb dX9_earliest_70 rfl (lv_at hl 1 rfl) ?_
  exact k_iret () hx hb hr hlk (rfl) (hP.sub [0, 1] rfl) (hD.sub [0, 1] (by decide) rfl) hS (by decide) (by decide) dX9_earliest_71

set_option maxHeartbeats 4000000 in
set_option maxRecDepth 100000 in
/-- Watch.lasts: 999 -/
theorem c_Watch_lasts (l : Launch) (hl0 : l.stackTraces = false) (D : va_G) (cy : Nat → ClassId) (sa : Nat → Nat) (u : Nat → Nat) (f : Nat → Int32) (sz : Nat) : Met l yX9_lasts (Cond.code yX9_lasts cX9_lasts 3 (some .int) :: kWS) ({ frames := 11, cells := 0, slots := 0, locals := 360 }) (kPre D cy sa [.ref (u 11), .int 0] [((u 11), .inr (11, [.ref (u 79), .ref (u 82), .int 0, .int 0, .int 0])), ((u 82), .inl (cy 0, 9, .inl f))] sz) (va_Qi (fun (r : Int32) (_ : Unit) => r = 999) (kB D (va_A [((u 11), .inr (11, [.ref (u 79), .ref (u 82), .int 0, .int 0, .int 0])), ((u 82), .inl (cy 0, 9, .inl f))] sz) (fun _ => [((u 11), .inr (11, [.ref (u 79), .ref (u 82), .int 0, .int 0, .int 0])), ((u 82), .inl (cy 0, 9, .inl f))])) (va_A [((u 11), .inr (11, [.ref (u 79), .ref (u 82), .int 0, .int 0, .int 0])), ((u 82), .inl (cy 0, 9, .inl f))] sz)) 0 0 (va_A [((u 11), .inr (11, [.ref (u 79), .ref (u 82), .int 0, .int 0, .int 0])), ((u 82), .inl (cy 0, 9, .inl f))] sz) := by
  refine k_ofW (Qc := fun A => va_Qi (fun (r : Int32) (_ : Unit) => r = 999) (kB D A (fun _ => [((u 11), .inr (11, [.ref (u 79), .ref (u 82), .int 0, .int 0, .int 0])), ((u 82), .inl (cy 0, 9, .inl f))])) A) (by decide) (Nat.le_of_ble_eq_true rfl) ?_
  intro p e s m below meth c ls A E hA hP hD hG hS hl
  obtain ⟨hx, hb, hml, hown, hts, hr, hlk, hnm⟩ := id E
  have hown : s.vm.findClass RX9 = some m.cls := hown
  have hl : lv_has ls 3 [(0, .ref (u 11)), (1, .int 0)] := hl
  obtain ⟨H, hH⟩ : ∃ H, H = s.heap := ⟨_, rfl⟩
  have hP : va_P D vwCl [((u 11), .inr (11, [.ref (u 79), .ref (u 82), .int 0, .int 0, .int 0])), ((u 82), .inl (cy 0, 9, .inl f))] H := by rw [hH]; exact hP
  have hS : va_S A s.heap H [] := by rw [hH]; exact va_S.rf
  rw [← hH]
  clear hH
  refine lv_aload_n hx hb dX9_lasts_0 rfl (lv_at hl 0 rfl) ?_
  refine lv_iload_n hx hb dX9_lasts_1 rfl (lv_at hl 1 rfl) ?_
  refine lv_aload_n hx hb dX9_lasts_2 rfl (lv_at hl 0 rfl) ?_
  refine va_get (D := D) (ci := 11) (v := .int 0) (C := RX9) (T := TX9) (N := 5) hx hb hts kin_RX9 hown hG.1 hP 0 rfl rfl 3 (by decide) (hts _ wm_316) (fun _ h9 => h9) rfl dX9_lasts_3 ?_
  refine lv_ior hx hb dX9_lasts_6 ?_
  refine lv_topi (fun x1 ex1 => ?_)
  obtain rfl : x1 = 0 := ex1.trans (by decide)
  refine k_cali [] (⟨hP, hD, hG, hS, hA, rfl, rfl⟩ : kAt D cy sa A s H _ _ [((u 11), .inr (11, [.ref (u 79), .ref (u 82), .int 0, .int 0, .int 0])), ((u 82), .inl (cy 0, 9, .inl f))] [0, 1]) (wr := []) rfl rfl (by decide) (k_runV 11 0 (As := [.int 0]) (rest := []) E lk_VRX9_76 rfl rfl rfl (c_Watch_earliest l hl0 D cy sa u (f) 0 H.size) (⟨hP, hD, hG, hS, hA, rfl, rfl⟩ : kAt D cy sa A s H _ _ [((u 11), .inr (11, [.ref (u 79), .ref (u 82), .int 0, .int 0, .int 0])), ((u 82), .inl (cy 0, 9, .inl f))] [0, 1]) hl.1 rfl rfl ⟨rfl, rfl, ⟨Nat.le_of_ble_eq_true rfl, Nat.le_of_ble_eq_true rfl⟩, ⟨Nat.le_of_ble_eq_true rfl, Nat.le_of_ble_eq_true rfl⟩, Nat.le_of_ble_eq_true rfl⟩ dX9_lasts_7) (fun r2 u3 H locs hwu3 hP hD hS => ?_)
  have hP : va_P D vwCl [((u 11), .inr (11, [.ref (u 79), .ref (u 82), .int 0, .int 0, .int 0])), ((u 82), .inl (cy 0, 9, .inl f))] H := hP
  have hD : va_D A [((u 11), .inr (11, [.ref (u 79), .ref (u 82), .int 0, .int 0, .int 0])), ((u 82), .inl (cy 0, 9, .inl f))] := hD
  obtain rfl : r2 = (-1) := hwu3
  refine lv_istore_n (lv' := [(2, .int (-1)), (0, .ref (u 11)), (1, .int 0)]) hx hb dX9_lasts_10 rfl hl (by decide) rfl (fun ls hl => ?_)
  refine lv_iload_n hx hb dX9_lasts_11 rfl (lv_at hl 0 rfl) ?_
  refine lv_iconst (v := (-1)) hx hb dX9_lasts_12 (by decide) ?_
  refine lv_icmp_ne (tgt := 22) hx hb dX9_lasts_13 (by decide) (fun h => absurd (by decide) h) (fun _ => ?_)
  refine lv_sipush (v := 999) hx hb dX9_lasts_16 (by decide) ?_
  refine lv_goto (tgt := 37) hx hb dX9_lasts_19 (by decide) ?_
  exact k_iret () hx hb hr hlk (rfl) (hP.sub [0, 1] rfl) (hD.sub [0, 1] (by decide) rfl) hS (by decide) (by decide) dX9_lasts_37

set_option maxHeartbeats 4000000 in
set_option maxRecDepth 100000 in
/-- Watch.firstToDrift: nobody -/
theorem c_Watch_firstToDrift (l : Launch) (hl0 : l.stackTraces = false) (D : va_G) (cy : Nat → ClassId) (sa : Nat → Nat) (u : Nat → Nat) (f : Nat → Int32) (sz : Nat) : Met l yX9_firstToDrift (Cond.code yX9_firstToDrift cX9_firstToDrift 1 (some .int) :: kWS) ({ frames := 11, cells := 0, slots := 0, locals := 360 }) (kPre D cy sa [.ref (u 11)] [((u 11), .inr (11, [.ref (u 79), .ref (u 82), .int 0, .int 0, .int 0])), ((u 82), .inl (cy 0, 9, .inl f))] sz) (va_Qi (fun (r : Int32) (_ : Unit) => r = (-1)) (kB D (va_A [((u 11), .inr (11, [.ref (u 79), .ref (u 82), .int 0, .int 0, .int 0])), ((u 82), .inl (cy 0, 9, .inl f))] sz) (fun _ => [((u 11), .inr (11, [.ref (u 79), .ref (u 82), .int 0, .int 0, .int 0])), ((u 82), .inl (cy 0, 9, .inl f))])) (va_A [((u 11), .inr (11, [.ref (u 79), .ref (u 82), .int 0, .int 0, .int 0])), ((u 82), .inl (cy 0, 9, .inl f))] sz)) 0 0 (va_A [((u 11), .inr (11, [.ref (u 79), .ref (u 82), .int 0, .int 0, .int 0])), ((u 82), .inl (cy 0, 9, .inl f))] sz) := by
  refine k_ofW (Qc := fun A => va_Qi (fun (r : Int32) (_ : Unit) => r = (-1)) (kB D A (fun _ => [((u 11), .inr (11, [.ref (u 79), .ref (u 82), .int 0, .int 0, .int 0])), ((u 82), .inl (cy 0, 9, .inl f))])) A) (by decide) (Nat.le_of_ble_eq_true rfl) ?_
  intro p e s m below meth c ls A E hA hP hD hG hS hl
  obtain ⟨hx, hb, hml, hown, hts, hr, hlk, hnm⟩ := id E
  have hown : s.vm.findClass RX9 = some m.cls := hown
  have hl : lv_has ls 1 [(0, .ref (u 11))] := hl
  obtain ⟨H, hH⟩ : ∃ H, H = s.heap := ⟨_, rfl⟩
  have hP : va_P D vwCl [((u 11), .inr (11, [.ref (u 79), .ref (u 82), .int 0, .int 0, .int 0])), ((u 82), .inl (cy 0, 9, .inl f))] H := by rw [hH]; exact hP
  have hS : va_S A s.heap H [] := by rw [hH]; exact va_S.rf
  rw [← hH]
  clear hH
  refine lv_aload_n hx hb dX9_firstToDrift_0 rfl (lv_at hl 0 rfl) ?_
  refine lv_iconst (v := 0) hx hb dX9_firstToDrift_1 (by decide) ?_
  refine k_cali [] (⟨hP, hD, hG, hS, hA, rfl, rfl⟩ : kAt D cy sa A s H _ _ [((u 11), .inr (11, [.ref (u 79), .ref (u 82), .int 0, .int 0, .int 0])), ((u 82), .inl (cy 0, 9, .inl f))] [0, 1]) (wr := []) rfl rfl (by decide) (k_runV 11 0 (As := [.int 0]) (rest := []) E lk_VRX9_76 rfl rfl rfl (c_Watch_earliest l hl0 D cy sa u (f) 0 H.size) (⟨hP, hD, hG, hS, hA, rfl, rfl⟩ : kAt D cy sa A s H _ _ [((u 11), .inr (11, [.ref (u 79), .ref (u 82), .int 0, .int 0, .int 0])), ((u 82), .inl (cy 0, 9, .inl f))] [0, 1]) hl.1 rfl rfl ⟨rfl, rfl, ⟨Nat.le_of_ble_eq_true rfl, Nat.le_of_ble_eq_true rfl⟩, ⟨Nat.le_of_ble_eq_true rfl, Nat.le_of_ble_eq_true rfl⟩, Nat.le_of_ble_eq_true rfl⟩ dX9_firstToDrift_2) (fun r1 u2 H locs hwu2 hP hD hS => ?_)
  have hP : va_P D vwCl [((u 11), .inr (11, [.ref (u 79), .ref (u 82), .int 0, .int 0, .int 0])), ((u 82), .inl (cy 0, 9, .inl f))] H := hP
  have hD : va_D A [((u 11), .inr (11, [.ref (u 79), .ref (u 82), .int 0, .int 0, .int 0])), ((u 82), .inl (cy 0, 9, .inl f))] := hD
  obtain rfl : r1 = (-1) := hwu2
  exact k_iret () hx hb hr hlk (rfl) (hP.sub [0, 1] rfl) (hD.sub [0, 1] (by decide) rfl) hS (by decide) (by decide) dX9_firstToDrift_5

set_option maxHeartbeats 4000000 in
set_option maxRecDepth 100000 in
/-- Plan.addSpot: the first -/
theorem c_Plan_addSpot (l : Launch) (hl0 : l.stackTraces = false) (D : va_G) (cy : Nat → ClassId) (sa : Nat → Nat) (u : Nat → Nat) (p0 p1 : Int32) (sz : Nat) : Met l yX6_addSpot (Cond.code yX6_addSpot cX6_addSpot 3 (some .boolean) :: kWS) ({ frames := 10, cells := 0, slots := 0, locals := 300 }) (kPre D cy sa [.ref (u 6), .int p0, .int p1] [((u 6), .inr (8, [.ref (u 41), .ref (u 42), .int 0, .ref (u 43), .ref (u 44), .int 0, .ref (u 45)])), ((u 43), .inl (cy 0, 6, .inl (fun _ => 0))), ((u 44), .inl (cy 0, 6, .inl (fun _ => 0)))] sz) (va_Qi (fun (r : Int32) (_ : Unit) => r = 1) (kB D (va_A [((u 6), .inr (8, [.ref (u 41), .ref (u 42), .int 0, .ref (u 43), .ref (u 44), .int 0, .ref (u 45)])), ((u 43), .inl (cy 0, 6, .inl (fun _ => 0))), ((u 44), .inl (cy 0, 6, .inl (fun _ => 0)))] sz) (fun _ => [((u 6), .inr (8, [.ref (u 41), .ref (u 42), .int 0, .ref (u 43), .ref (u 44), .int 1, .ref (u 45)]))])) (va_A [((u 6), .inr (8, [.ref (u 41), .ref (u 42), .int 0, .ref (u 43), .ref (u 44), .int 0, .ref (u 45)])), ((u 43), .inl (cy 0, 6, .inl (fun _ => 0))), ((u 44), .inl (cy 0, 6, .inl (fun _ => 0)))] sz)) 0 0 (va_A [((u 6), .inr (8, [.ref (u 41), .ref (u 42), .int 0, .ref (u 43), .ref (u 44), .int 0, .ref (u 45)])), ((u 43), .inl (cy 0, 6, .inl (fun _ => 0))), ((u 44), .inl (cy 0, 6, .inl (fun _ => 0)))] sz) := by
  refine k_ofW (Qc := fun A => va_Qi (fun (r : Int32) (_ : Unit) => r = 1) (kB D A (fun _ => [((u 6), .inr (8, [.ref (u 41), .ref (u 42), .int 0, .ref (u 43), .ref (u 44), .int 1, .ref (u 45)]))])) A) (by decide) (Nat.le_of_ble_eq_true rfl) ?_
  intro p e s m below meth c ls A E hA hP hD hG hS hl
  obtain ⟨hx, hb, hml, hown, hts, hr, hlk, hnm⟩ := id E
  have hown : s.vm.findClass RX6 = some m.cls := hown
  have hl : lv_has ls 3 [(0, .ref (u 6)), (1, .int p0), (2, .int p1)] := hl
  obtain ⟨H, hH⟩ : ∃ H, H = s.heap := ⟨_, rfl⟩
  have hP : va_P D vwCl [((u 6), .inr (8, [.ref (u 41), .ref (u 42), .int 0, .ref (u 43), .ref (u 44), .int 0, .ref (u 45)])), ((u 43), .inl (cy 0, 6, .inl (fun _ => 0))), ((u 44), .inl (cy 0, 6, .inl (fun _ => 0)))] H := by rw [hH]; exact hP
  have hS : va_S A s.heap H [] := by rw [hH]; exact va_S.rf
  rw [← hH]
  clear hH
  refine lv_aload_n hx hb dX6_addSpot_0 rfl (lv_at hl 0 rfl) ?_
  refine va_get (D := D) (ci := 8) (v := .int 0) (C := RX6) (T := TX6) (N := 7) hx hb hts kin_RX6 hown hG.1 hP 0 rfl rfl 5 (by decide) (hts _ wm_245) (fun _ h9 => h9) rfl dX6_addSpot_1 ?_
  refine lv_bipush (v := 6) hx hb dX6_addSpot_4 (by decide) ?_
  refine lv_icmp_lt (tgt := 11) hx hb dX6_addSpot_6 (by decide) (fun _ => ?_) (fun h => absurd (by decide) h)
  refine lv_aload_n hx hb dX6_addSpot_11 rfl (lv_at hl 0 rfl) ?_
  refine va_get (D := D) (ci := 8) (v := .ref (u 43)) (C := RX6) (T := TX6) (N := 7) hx hb hts kin_RX6 hown hG.1 hP 0 rfl rfl 3 (by decide) (hts _ wm_243) (fun _ h9 => h9) rfl dX6_addSpot_12 ?_
  refine lv_aload_n hx hb dX6_addSpot_15 rfl (lv_at hl 0 rfl) ?_
  refine va_get (D := D) (ci := 8) (v := .int 0) (C := RX6) (T := TX6) (N := 7) hx hb hts kin_RX6 hown hG.1 hP 0 rfl rfl 5 (by decide) (hts _ wm_245) (fun _ h9 => h9) rfl dX6_addSpot_16 ?_
  refine lv_iload_n hx hb dX6_addSpot_19 rfl (lv_at hl 1 rfl) ?_
  refine va_iast hx hb hG.1 hP hD hS 1 0 rfl rfl (by unfold vp_in; decide) dX6_addSpot_20 (fun H locs hP hD hS => ?_)
  have hP : va_P D vwCl [((u 6), .inr (8, [.ref (u 41), .ref (u 42), .int 0, .ref (u 43), .ref (u 44), .int 0, .ref (u 45)])), ((u 43), .inl (cy 0, 6, .inl (upd (fun _ => 0) (0 : Int32).toNatClampNeg p0))), ((u 44), .inl (cy 0, 6, .inl (fun _ => 0)))] H := hP
  have hD : va_D A [((u 6), .inr (8, [.ref (u 41), .ref (u 42), .int 0, .ref (u 43), .ref (u 44), .int 0, .ref (u 45)])), ((u 43), .inl (cy 0, 6, .inl (upd (fun _ => 0) (0 : Int32).toNatClampNeg p0))), ((u 44), .inl (cy 0, 6, .inl (fun _ => 0)))] := hD
  refine lv_aload_n hx hb dX6_addSpot_21 rfl (lv_at hl 0 rfl) ?_
  refine va_get (D := D) (ci := 8) (v := .ref (u 44)) (C := RX6) (T := TX6) (N := 7) hx hb hts kin_RX6 hown hG.1 hP 0 rfl rfl 4 (by decide) (hts _ wm_244) (fun _ h9 => h9) rfl dX6_addSpot_22 ?_
  refine lv_aload_n hx hb dX6_addSpot_25 rfl (lv_at hl 0 rfl) ?_
  refine va_get (D := D) (ci := 8) (v := .int 0) (C := RX6) (T := TX6) (N := 7) hx hb hts kin_RX6 hown hG.1 hP 0 rfl rfl 5 (by decide) (hts _ wm_245) (fun _ h9 => h9) rfl dX6_addSpot_26 ?_
  refine lv_iload_n hx hb dX6_addSpot_29 rfl (lv_at hl 2 rfl) ?_
  refine va_iast hx hb hG.1 hP hD hS 2 0 rfl rfl (by unfold vp_in; decide) dX6_addSpot_30 (fun H locs hP hD hS => ?_)
  have hP : va_P D vwCl [((u 6), .inr (8, [.ref (u 41), .ref (u 42), .int 0, .ref (u 43), .ref (u 44), .int 0, .ref (u 45)])), ((u 43), .inl (cy 0, 6, .inl (upd (fun _ => 0) (0 : Int32).toNatClampNeg p0))), ((u 44), .inl (cy 0, 6, .inl (upd (fun _ => 0) (0 : Int32).toNatClampNeg p1)))] H := hP
  have hD : va_D A [((u 6), .inr (8, [.ref (u 41), .ref (u 42), .int 0, .ref (u 43), .ref (u 44), .int 0, .ref (u 45)])), ((u 43), .inl (cy 0, 6, .inl (upd (fun _ => 0) (0 : Int32).toNatClampNeg p0))), ((u 44), .inl (cy 0, 6, .inl (upd (fun _ => 0) (0 : Int32).toNatClampNeg p1)))] := hD
  refine lv_aload_n hx hb dX6_addSpot_31 rfl (lv_at hl 0 rfl) ?_
  refine lv_dup hx hb dX6_addSpot_32 rfl ?_
  refine va_get (D := D) (ci := 8) (v := .int 0) (C := RX6) (T := TX6) (N := 7) hx hb hts kin_RX6 hown hG.1 hP 0 rfl rfl 5 (by decide) (hts _ wm_245) (fun _ h9 => h9) rfl dX6_addSpot_33 ?_
  refine lv_iconst (v := 1) hx hb dX6_addSpot_36 (by decide) ?_
  refine lv_iadd hx hb dX6_addSpot_37 ?_
  refine lv_topi (fun x1 ex1 => ?_)
  obtain rfl : x1 = 1 := ex1.trans (by decide)
  refine va_put (D := D) (ci := 8) (v := .int 1) (ty := .int) (C := RX6) (T := TX6) (N := 7) hx hb hts kin_RX6 tyX6 tyX6_ok nmX6 hown hG.1 hP hD hS 0 rfl rfl 5 (by decide) (hts _ wm_245) (fun _ h9 => h9) rfl (by decide +kernel) rfl rfl (Nat.le_of_ble_eq_true rfl) dX6_addSpot_38 (fun H locs hP hD hS => ?_)
  have hP : va_P D vwCl [((u 6), .inr (8, [.ref (u 41), .ref (u 42), .int 0, .ref (u 43), .ref (u 44), .int 1, .ref (u 45)])), ((u 43), .inl (cy 0, 6, .inl (upd (fun _ => 0) (0 : Int32).toNatClampNeg p0))), ((u 44), .inl (cy 0, 6, .inl (upd (fun _ => 0) (0 : Int32).toNatClampNeg p1)))] H := hP
  have hD : va_D A [((u 6), .inr (8, [.ref (u 41), .ref (u 42), .int 0, .ref (u 43), .ref (u 44), .int 1, .ref (u 45)])), ((u 43), .inl (cy 0, 6, .inl (upd (fun _ => 0) (0 : Int32).toNatClampNeg p0))), ((u 44), .inl (cy 0, 6, .inl (upd (fun _ => 0) (0 : Int32).toNatClampNeg p1)))] := hD
  refine lv_iconst (v := 1) hx hb dX6_addSpot_41 (by decide) ?_
  exact k_zret () hx hb hr hlk (k_nz (by decide)) (rfl) (hP.sub [0] rfl) (hD.sub [0] (by decide) rfl) hS (by decide) (by decide) dX6_addSpot_42

set_option maxHeartbeats 4000000 in
set_option maxRecDepth 100000 in
/-- House.begin -/
theorem c_House_begin (l : Launch) (hl0 : l.stackTraces = false) (D : va_G) (cy : Nat → ClassId) (sa : Nat → Nat) (u : Nat → Nat) (sz : Nat) : Met l yX2_begin (Cond.code yX2_begin cX2_begin 1 none :: kWS) ({ frames := 10, cells := 0, slots := 0, locals := 300 }) (kPre D cy sa [.ref (u 4)] [((u 4), .inr (4, [.ref (u 27), .ref (u 28), .ref (u 29), .ref (u 30), .ref (u 31), .ref (u 32), .ref (u 33), .ref (u 34), .ref (u 35), .ref (u 36), .ref (u 37), .ref (u 38), .int 0, .int 0, .int 0, .int 0, .int 0]))] sz) (va_Qv (fun (_ : Unit) => True) (kB D (va_A [((u 4), .inr (4, [.ref (u 27), .ref (u 28), .ref (u 29), .ref (u 30), .ref (u 31), .ref (u 32), .ref (u 33), .ref (u 34), .ref (u 35), .ref (u 36), .ref (u 37), .ref (u 38), .int 0, .int 0, .int 0, .int 0, .int 0]))] sz) (fun _ => [((u 4), .inr (4, [.ref (u 27), .ref (u 28), .ref (u 29), .ref (u 30), .ref (u 31), .ref (u 32), .ref (u 33), .ref (u 34), .ref (u 35), .ref (u 36), .ref (u 37), .ref (u 38), .int 0, .int 0, .int 1, .int 10, .int 480]))])) (va_A [((u 4), .inr (4, [.ref (u 27), .ref (u 28), .ref (u 29), .ref (u 30), .ref (u 31), .ref (u 32), .ref (u 33), .ref (u 34), .ref (u 35), .ref (u 36), .ref (u 37), .ref (u 38), .int 0, .int 0, .int 0, .int 0, .int 0]))] sz)) 0 0 (va_A [((u 4), .inr (4, [.ref (u 27), .ref (u 28), .ref (u 29), .ref (u 30), .ref (u 31), .ref (u 32), .ref (u 33), .ref (u 34), .ref (u 35), .ref (u 36), .ref (u 37), .ref (u 38), .int 0, .int 0, .int 0, .int 0, .int 0]))] sz) := by
  refine k_ofW (Qc := fun A => va_Qv (fun (_ : Unit) => True) (kB D A (fun _ => [((u 4), .inr (4, [.ref (u 27), .ref (u 28), .ref (u 29), .ref (u 30), .ref (u 31), .ref (u 32), .ref (u 33), .ref (u 34), .ref (u 35), .ref (u 36), .ref (u 37), .ref (u 38), .int 0, .int 0, .int 1, .int 10, .int 480]))])) A) (by decide) (Nat.le_of_ble_eq_true rfl) ?_
  intro p e s m below meth c ls A E hA hP hD hG hS hl
  obtain ⟨hx, hb, hml, hown, hts, hr, hlk, hnm⟩ := id E
  have hown : s.vm.findClass RX2 = some m.cls := hown
  have hl : lv_has ls 1 [(0, .ref (u 4))] := hl
  obtain ⟨H, hH⟩ : ∃ H, H = s.heap := ⟨_, rfl⟩
  have hP : va_P D vwCl [((u 4), .inr (4, [.ref (u 27), .ref (u 28), .ref (u 29), .ref (u 30), .ref (u 31), .ref (u 32), .ref (u 33), .ref (u 34), .ref (u 35), .ref (u 36), .ref (u 37), .ref (u 38), .int 0, .int 0, .int 0, .int 0, .int 0]))] H := by rw [hH]; exact hP
  have hS : va_S A s.heap H [] := by rw [hH]; exact va_S.rf
  rw [← hH]
  clear hH
  refine lv_aload_n hx hb dX2_begin_0 rfl (lv_at hl 0 rfl) ?_
  refine lv_iconst (v := 0) hx hb dX2_begin_1 (by decide) ?_
  refine va_put (D := D) (ci := 4) (v := .int 0) (ty := .int) (C := RX2) (T := TX2) (N := 17) hx hb hts kin_RX2 tyX2 tyX2_ok nmX2 hown hG.1 hP hD hS 0 rfl rfl 12 (by decide) (hts _ wm_117) (fun _ h9 => h9) rfl (by decide +kernel) rfl rfl (Nat.le_of_ble_eq_true rfl) dX2_begin_2 (fun H locs hP hD hS => ?_)
  have hP : va_P D vwCl [((u 4), .inr (4, [.ref (u 27), .ref (u 28), .ref (u 29), .ref (u 30), .ref (u 31), .ref (u 32), .ref (u 33), .ref (u 34), .ref (u 35), .ref (u 36), .ref (u 37), .ref (u 38), .int 0, .int 0, .int 0, .int 0, .int 0]))] H := hP
  have hD : va_D A [((u 4), .inr (4, [.ref (u 27), .ref (u 28), .ref (u 29), .ref (u 30), .ref (u 31), .ref (u 32), .ref (u 33), .ref (u 34), .ref (u 35), .ref (u 36), .ref (u 37), .ref (u 38), .int 0, .int 0, .int 0, .int 0, .int 0]))] := hD
  refine lv_aload_n hx hb dX2_begin_5 rfl (lv_at hl 0 rfl) ?_
  refine lv_iconst (v := 0) hx hb dX2_begin_6 (by decide) ?_
  refine va_put (D := D) (ci := 4) (v := .int 0) (ty := .int) (C := RX2) (T := TX2) (N := 17) hx hb hts kin_RX2 tyX2 tyX2_ok nmX2 hown hG.1 hP hD hS 0 rfl rfl 13 (by decide) (hts _ wm_124) (fun _ h9 => h9) rfl (by decide +kernel) rfl rfl (Nat.le_of_ble_eq_true rfl) dX2_begin_7 (fun H locs hP hD hS => ?_)
  have hP : va_P D vwCl [((u 4), .inr (4, [.ref (u 27), .ref (u 28), .ref (u 29), .ref (u 30), .ref (u 31), .ref (u 32), .ref (u 33), .ref (u 34), .ref (u 35), .ref (u 36), .ref (u 37), .ref (u 38), .int 0, .int 0, .int 0, .int 0, .int 0]))] H := hP
  have hD : va_D A [((u 4), .inr (4, [.ref (u 27), .ref (u 28), .ref (u 29), .ref (u 30), .ref (u 31), .ref (u 32), .ref (u 33), .ref (u 34), .ref (u 35), .ref (u 36), .ref (u 37), .ref (u 38), .int 0, .int 0, .int 0, .int 0, .int 0]))] := hD
  refine lv_aload_n hx hb dX2_begin_10 rfl (lv_at hl 0 rfl) ?_
  refine lv_iconst (v := 1) hx hb dX2_begin_11 (by decide) ?_
  refine va_put (D := D) (ci := 4) (v := .int 1) (ty := .int) (C := RX2) (T := TX2) (N := 17) hx hb hts kin_RX2 tyX2 tyX2_ok nmX2 hown hG.1 hP hD hS 0 rfl rfl 14 (by decide) (hts _ wm_126) (fun _ h9 => h9) rfl (by decide +kernel) rfl rfl (Nat.le_of_ble_eq_true rfl) dX2_begin_12 (fun H locs hP hD hS => ?_)
  have hP : va_P D vwCl [((u 4), .inr (4, [.ref (u 27), .ref (u 28), .ref (u 29), .ref (u 30), .ref (u 31), .ref (u 32), .ref (u 33), .ref (u 34), .ref (u 35), .ref (u 36), .ref (u 37), .ref (u 38), .int 0, .int 0, .int 1, .int 0, .int 0]))] H := hP
  have hD : va_D A [((u 4), .inr (4, [.ref (u 27), .ref (u 28), .ref (u 29), .ref (u 30), .ref (u 31), .ref (u 32), .ref (u 33), .ref (u 34), .ref (u 35), .ref (u 36), .ref (u 37), .ref (u 38), .int 0, .int 0, .int 1, .int 0, .int 0]))] := hD
  refine lv_aload_n hx hb dX2_begin_15 rfl (lv_at hl 0 rfl) ?_
  refine lv_bipush (v := 10) hx hb dX2_begin_16 (by decide) ?_
  refine va_put (D := D) (ci := 4) (v := .int 10) (ty := .int) (C := RX2) (T := TX2) (N := 17) hx hb hts kin_RX2 tyX2 tyX2_ok nmX2 hown hG.1 hP hD hS 0 rfl rfl 15 (by decide) (hts _ wm_129) (fun _ h9 => h9) rfl (by decide +kernel) rfl rfl (Nat.le_of_ble_eq_true rfl) dX2_begin_18 (fun H locs hP hD hS => ?_)
  have hP : va_P D vwCl [((u 4), .inr (4, [.ref (u 27), .ref (u 28), .ref (u 29), .ref (u 30), .ref (u 31), .ref (u 32), .ref (u 33), .ref (u 34), .ref (u 35), .ref (u 36), .ref (u 37), .ref (u 38), .int 0, .int 0, .int 1, .int 10, .int 0]))] H := hP
  have hD : va_D A [((u 4), .inr (4, [.ref (u 27), .ref (u 28), .ref (u 29), .ref (u 30), .ref (u 31), .ref (u 32), .ref (u 33), .ref (u 34), .ref (u 35), .ref (u 36), .ref (u 37), .ref (u 38), .int 0, .int 0, .int 1, .int 10, .int 0]))] := hD
  refine lv_aload_n hx hb dX2_begin_21 rfl (lv_at hl 0 rfl) ?_
  refine lv_sipush (v := 480) hx hb dX2_begin_22 (by decide) ?_
  refine va_put (D := D) (ci := 4) (v := .int 480) (ty := .int) (C := RX2) (T := TX2) (N := 17) hx hb hts kin_RX2 tyX2 tyX2_ok nmX2 hown hG.1 hP hD hS 0 rfl rfl 16 (by decide) (hts _ wm_132) (fun _ h9 => h9) rfl (by decide +kernel) rfl rfl (Nat.le_of_ble_eq_true rfl) dX2_begin_25 (fun H locs hP hD hS => ?_)
  have hP : va_P D vwCl [((u 4), .inr (4, [.ref (u 27), .ref (u 28), .ref (u 29), .ref (u 30), .ref (u 31), .ref (u 32), .ref (u 33), .ref (u 34), .ref (u 35), .ref (u 36), .ref (u 37), .ref (u 38), .int 0, .int 0, .int 1, .int 10, .int 480]))] H := hP
  have hD : va_D A [((u 4), .inr (4, [.ref (u 27), .ref (u 28), .ref (u 29), .ref (u 30), .ref (u 31), .ref (u 32), .ref (u 33), .ref (u 34), .ref (u 35), .ref (u 36), .ref (u 37), .ref (u 38), .int 0, .int 0, .int 1, .int 10, .int 480]))] := hD
  exact k_vret () hx hb hr hlk (trivial) (hP.sub [0] rfl) (hD.sub [0] (by decide) rfl) hS (by decide) (by decide) dX2_begin_28

set_option maxHeartbeats 4000000 in
set_option maxRecDepth 100000 in
/-- Reader.skipBlanks: none -/
theorem c_Reader_skipBlanks (l : Launch) (hl0 : l.stackTraces = false) (D : va_G) (cy : Nat → ClassId) (sa : Nat → Nat) (u : Nat → Nat) (sz : Nat) : Met l yX7_skipBlanks (Cond.code yX7_skipBlanks cX7_skipBlanks 1 none :: kWS) ({ frames := 10, cells := 0, slots := 0, locals := 300 }) (kPre D cy sa [.ref (u 2)] [((u 2), .inr (9, [.ref (u 93), .ref (u 1), .int 0, .int 0, .int 0, .int (-1)]))] sz) (va_Qv (fun (_ : Unit) => True) (kB D (va_A [((u 2), .inr (9, [.ref (u 93), .ref (u 1), .int 0, .int 0, .int 0, .int (-1)]))] sz) (fun _ => [((u 2), .inr (9, [.ref (u 93), .ref (u 1), .int 0, .int 0, .int 0, .int (-1)]))])) (va_A [((u 2), .inr (9, [.ref (u 93), .ref (u 1), .int 0, .int 0, .int 0, .int (-1)]))] sz)) 0 0 (va_A [((u 2), .inr (9, [.ref (u 93), .ref (u 1), .int 0, .int 0, .int 0, .int (-1)]))] sz) := by
  refine k_ofW (Qc := fun A => va_Qv (fun (_ : Unit) => True) (kB D A (fun _ => [((u 2), .inr (9, [.ref (u 93), .ref (u 1), .int 0, .int 0, .int 0, .int (-1)]))])) A) (by decide) (Nat.le_of_ble_eq_true rfl) ?_
  intro p e s m below meth c ls A E hA hP hD hG hS hl
  obtain ⟨hx, hb, hml, hown, hts, hr, hlk, hnm⟩ := id E
  have hown : s.vm.findClass RX7 = some m.cls := hown
  have hl : lv_has ls 1 [(0, .ref (u 2))] := hl
  obtain ⟨H, hH⟩ : ∃ H, H = s.heap := ⟨_, rfl⟩
  have hP : va_P D vwCl [((u 2), .inr (9, [.ref (u 93), .ref (u 1), .int 0, .int 0, .int 0, .int (-1)]))] H := by rw [hH]; exact hP
  have hS : va_S A s.heap H [] := by rw [hH]; exact va_S.rf
  rw [← hH]
  clear hH
  refine lv_aload_n hx hb dX7_skipBlanks_0 rfl (lv_at hl 0 rfl) ?_
  refine va_get (D := D) (ci := 9) (v := .int 0) (C := RX7) (T := TX7) (N := 6) hx hb hts kin_RX7 hown hG.1 hP 0 rfl rfl 3 (by decide) (hts _ wm_50) (fun _ h9 => h9) rfl dX7_skipBlanks_1 ?_
  refine lv_aload_n hx hb dX7_skipBlanks_4 rfl (lv_at hl 0 rfl) ?_
  refine va_get (D := D) (ci := 9) (v := .int 0) (C := RX7) (T := TX7) (N := 6) hx hb hts kin_RX7 hown hG.1 hP 0 rfl rfl 2 (by decide) (hts _ wm_49) (fun _ h9 => h9) rfl dX7_skipBlanks_5 ?_
  refine lv_icmp_ge (tgt := 38) hx hb dX7_skipBlanks_8 (by decide) (fun _ => ?_) (fun h => absurd (by decide) h)
  exact k_vret () hx hb hr hlk (trivial) (hP.sub [0] rfl) (hD.sub [0] (by decide) rfl) hS (by decide) (by decide) dX7_skipBlanks_38

set_option maxHeartbeats 4000000 in
set_option maxRecDepth 100000 in
/-- Reader.refuse: nobody -/
theorem c_Reader_refuse (l : Launch) (hl0 : l.stackTraces = false) (D : va_G) (cy : Nat → ClassId) (sa : Nat → Nat) (u : Nat → Nat) (sz : Nat) : Met l yX7_refuse (Cond.code yX7_refuse cX7_refuse 3 (some .boolean) :: kWS) ({ frames := 10, cells := 0, slots := 0, locals := 300 }) (kPre D cy sa [.ref (u 2), .int 4, .int 0] [((u 2), .inr (9, [.ref (u 93), .ref (u 1), .int 0, .int 0, .int 0, .int (-1)]))] sz) (va_Qi (fun (r : Int32) (_ : Unit) => r = 0) (kB D (va_A [((u 2), .inr (9, [.ref (u 93), .ref (u 1), .int 0, .int 0, .int 0, .int (-1)]))] sz) (fun _ => [((u 2), .inr (9, [.ref (u 93), .ref (u 1), .int 0, .int 0, .int 4, .int 0]))])) (va_A [((u 2), .inr (9, [.ref (u 93), .ref (u 1), .int 0, .int 0, .int 0, .int (-1)]))] sz)) 0 0 (va_A [((u 2), .inr (9, [.ref (u 93), .ref (u 1), .int 0, .int 0, .int 0, .int (-1)]))] sz) := by
  refine k_ofW (Qc := fun A => va_Qi (fun (r : Int32) (_ : Unit) => r = 0) (kB D A (fun _ => [((u 2), .inr (9, [.ref (u 93), .ref (u 1), .int 0, .int 0, .int 4, .int 0]))])) A) (by decide) (Nat.le_of_ble_eq_true rfl) ?_
  intro p e s m below meth c ls A E hA hP hD hG hS hl
  obtain ⟨hx, hb, hml, hown, hts, hr, hlk, hnm⟩ := id E
  have hown : s.vm.findClass RX7 = some m.cls := hown
  have hl : lv_has ls 3 [(0, .ref (u 2)), (1, .int 4), (2, .int 0)] := hl
  obtain ⟨H, hH⟩ : ∃ H, H = s.heap := ⟨_, rfl⟩
  have hP : va_P D vwCl [((u 2), .inr (9, [.ref (u 93), .ref (u 1), .int 0, .int 0, .int 0, .int (-1)]))] H := by rw [hH]; exact hP
  have hS : va_S A s.heap H [] := by rw [hH]; exact va_S.rf
  rw [← hH]
  clear hH
  refine lv_aload_n hx hb dX7_refuse_0 rfl (lv_at hl 0 rfl) ?_
  refine lv_iload_n hx hb dX7_refuse_1 rfl (lv_at hl 1 rfl) ?_
  refine va_put (D := D) (ci := 9) (v := .int 4) (ty := .int) (C := RX7) (T := TX7) (N := 6) hx hb hts kin_RX7 tyX7 tyX7_ok nmX7 hown hG.1 hP hD hS 0 rfl rfl 4 (by decide) (hts _ wm_51) (fun _ h9 => h9) rfl (by decide +kernel) rfl rfl (Nat.le_of_ble_eq_true rfl) dX7_refuse_2 (fun H locs hP hD hS => ?_)
  have hP : va_P D vwCl [((u 2), .inr (9, [.ref (u 93), .ref (u 1), .int 0, .int 0, .int 4, .int (-1)]))] H := hP
  have hD : va_D A [((u 2), .inr (9, [.ref (u 93), .ref (u 1), .int 0, .int 0, .int 4, .int (-1)]))] := hD
  refine lv_aload_n hx hb dX7_refuse_5 rfl (lv_at hl 0 rfl) ?_
  refine lv_iload_n hx hb dX7_refuse_6 rfl (lv_at hl 2 rfl) ?_
  refine va_put (D := D) (ci := 9) (v := .int 0) (ty := .int) (C := RX7) (T := TX7) (N := 6) hx hb hts kin_RX7 tyX7 tyX7_ok nmX7 hown hG.1 hP hD hS 0 rfl rfl 5 (by decide) (hts _ wm_52) (fun _ h9 => h9) rfl (by decide +kernel) rfl rfl (Nat.le_of_ble_eq_true rfl) dX7_refuse_7 (fun H locs hP hD hS => ?_)
  have hP : va_P D vwCl [((u 2), .inr (9, [.ref (u 93), .ref (u 1), .int 0, .int 0, .int 4, .int 0]))] H := hP
  have hD : va_D A [((u 2), .inr (9, [.ref (u 93), .ref (u 1), .int 0, .int 0, .int 4, .int 0]))] := hD
  refine lv_iconst (v := 0) hx hb dX7_refuse_10 (by decide) ?_
  exact k_zret () hx hb hr hlk (k_nz (by decide)) (rfl) (hP.sub [0] rfl) (hD.sub [0] (by decide) rfl) hS (by decide) (by decide) dX7_refuse_11

set_option maxHeartbeats 4000000 in
set_option maxRecDepth 100000 in
/-- Reader.read: the empty text -/
theorem c_Reader_read (l : Launch) (hl0 : l.stackTraces = false) (D : va_G) (cy : Nat → ClassId) (sa : Nat → Nat) (u : Nat → Nat) (sz : Nat) : Met l yX7_read (Cond.code yX7_read cX7_read 6 (some .int) :: kWS) ({ frames := 12, cells := 0, slots := 0, locals := 420 }) (kPre D cy sa [.ref (u 2), .ref (u 1), .int 0, .ref (u 4)] [((u 2), .inr (9, [.ref (u 93), .ref (u 94), .int 0, .int 0, .int 0, .int (-1)])), ((u 1), .inl (cy 1, 500, .inl (fun _ => 0))), ((u 4), .inr (4, [.ref (u 27), .ref (u 28), .ref (u 29), .ref (u 30), .ref (u 31), .ref (u 32), .ref (u 33), .ref (u 34), .ref (u 35), .ref (u 36), .ref (u 37), .ref (u 38), .int 0, .int 0, .int 0, .int 0, .int 0]))] sz) (va_Qi (fun (r : Int32) (_ : Unit) => r = 4) (kB D (va_A [((u 2), .inr (9, [.ref (u 93), .ref (u 94), .int 0, .int 0, .int 0, .int (-1)])), ((u 1), .inl (cy 1, 500, .inl (fun _ => 0))), ((u 4), .inr (4, [.ref (u 27), .ref (u 28), .ref (u 29), .ref (u 30), .ref (u 31), .ref (u 32), .ref (u 33), .ref (u 34), .ref (u 35), .ref (u 36), .ref (u 37), .ref (u 38), .int 0, .int 0, .int 0, .int 0, .int 0]))] sz) (fun _ => [((u 2), .inr (9, [.ref (u 93), .ref (u 1), .int 0, .int 0, .int 4, .int 0])), ((u 1), .inl (cy 1, 500, .inl (fun _ => 0))), ((u 4), .inr (4, [.ref (u 27), .ref (u 28), .ref (u 29), .ref (u 30), .ref (u 31), .ref (u 32), .ref (u 33), .ref (u 34), .ref (u 35), .ref (u 36), .ref (u 37), .ref (u 38), .int 0, .int 0, .int 1, .int 10, .int 480]))])) (va_A [((u 2), .inr (9, [.ref (u 93), .ref (u 94), .int 0, .int 0, .int 0, .int (-1)])), ((u 1), .inl (cy 1, 500, .inl (fun _ => 0))), ((u 4), .inr (4, [.ref (u 27), .ref (u 28), .ref (u 29), .ref (u 30), .ref (u 31), .ref (u 32), .ref (u 33), .ref (u 34), .ref (u 35), .ref (u 36), .ref (u 37), .ref (u 38), .int 0, .int 0, .int 0, .int 0, .int 0]))] sz)) 0 0 (va_A [((u 2), .inr (9, [.ref (u 93), .ref (u 94), .int 0, .int 0, .int 0, .int (-1)])), ((u 1), .inl (cy 1, 500, .inl (fun _ => 0))), ((u 4), .inr (4, [.ref (u 27), .ref (u 28), .ref (u 29), .ref (u 30), .ref (u 31), .ref (u 32), .ref (u 33), .ref (u 34), .ref (u 35), .ref (u 36), .ref (u 37), .ref (u 38), .int 0, .int 0, .int 0, .int 0, .int 0]))] sz) := by
  refine k_ofW (Qc := fun A => va_Qi (fun (r : Int32) (_ : Unit) => r = 4) (kB D A (fun _ => [((u 2), .inr (9, [.ref (u 93), .ref (u 1), .int 0, .int 0, .int 4, .int 0])), ((u 1), .inl (cy 1, 500, .inl (fun _ => 0))), ((u 4), .inr (4, [.ref (u 27), .ref (u 28), .ref (u 29), .ref (u 30), .ref (u 31), .ref (u 32), .ref (u 33), .ref (u 34), .ref (u 35), .ref (u 36), .ref (u 37), .ref (u 38), .int 0, .int 0, .int 1, .int 10, .int 480]))])) A) (by decide) (Nat.le_of_ble_eq_true rfl) ?_
  intro p e s m below meth c ls A E hA hP hD hG hS hl
  obtain ⟨hx, hb, hml, hown, hts, hr, hlk, hnm⟩ := id E
  have hown : s.vm.findClass RX7 = some m.cls := hown
  have hl : lv_has ls 6 [(0, .ref (u 2)), (1, .ref (u 1)), (2, .int 0), (3, .ref (u 4))] := hl
  obtain ⟨H, hH⟩ : ∃ H, H = s.heap := ⟨_, rfl⟩
  have hP : va_P D vwCl [((u 2), .inr (9, [.ref (u 93), .ref (u 94), .int 0, .int 0, .int 0, .int (-1)])), ((u 1), .inl (cy 1, 500, .inl (fun _ => 0))), ((u 4), .inr (4, [.ref (u 27), .ref (u 28), .ref (u 29), .ref (u 30), .ref (u 31), .ref (u 32), .ref (u 33), .ref (u 34), .ref (u 35), .ref (u 36), .ref (u 37), .ref (u 38), .int 0, .int 0, .int 0, .int 0, .int 0]))] H := by rw [hH]; exact hP
  have hS : va_S A s.heap H [] := by rw [hH]; exact va_S.rf
  rw [← hH]
  clear hH
  refine lv_aload_n hx hb dX7_read_0 rfl (lv_at hl 0 rfl) ?_
  refine lv_aload_n hx hb dX7_read_1 rfl (lv_at hl 1 rfl) ?_
  refine va_put (D := D) (ci := 9) (v := .ref (u 1)) (ty := (.array .byte)) (C := RX7) (T := TX7) (N := 6) hx hb hts kin_RX7 tyX7 tyX7_ok nmX7 hown hG.1 hP hD hS 0 rfl rfl 1 (by decide) (hts _ wm_48) (fun _ h9 => h9) rfl (by decide +kernel) rfl rfl (Nat.le_of_ble_eq_true rfl) dX7_read_2 (fun H locs hP hD hS => ?_)
  have hP : va_P D vwCl [((u 2), .inr (9, [.ref (u 93), .ref (u 1), .int 0, .int 0, .int 0, .int (-1)])), ((u 1), .inl (cy 1, 500, .inl (fun _ => 0))), ((u 4), .inr (4, [.ref (u 27), .ref (u 28), .ref (u 29), .ref (u 30), .ref (u 31), .ref (u 32), .ref (u 33), .ref (u 34), .ref (u 35), .ref (u 36), .ref (u 37), .ref (u 38), .int 0, .int 0, .int 0, .int 0, .int 0]))] H := hP
  have hD : va_D A [((u 2), .inr (9, [.ref (u 93), .ref (u 1), .int 0, .int 0, .int 0, .int (-1)])), ((u 1), .inl (cy 1, 500, .inl (fun _ => 0))), ((u 4), .inr (4, [.ref (u 27), .ref (u 28), .ref (u 29), .ref (u 30), .ref (u 31), .ref (u 32), .ref (u 33), .ref (u 34), .ref (u 35), .ref (u 36), .ref (u 37), .ref (u 38), .int 0, .int 0, .int 0, .int 0, .int 0]))] := hD
  refine lv_aload_n hx hb dX7_read_5 rfl (lv_at hl 0 rfl) ?_
  refine lv_iload_n hx hb dX7_read_6 rfl (lv_at hl 2 rfl) ?_
  refine lv_aload_n hx hb dX7_read_7 rfl (lv_at hl 1 rfl) ?_
  refine va_alen (v := 500) hx hb hG.1 hP 1 1 rfl rfl rfl dX7_read_8 ?_
  refine va_mmin hx hb (hml.trans hl.1.symm) hown (hts _ wm_928) (hts _ wm_519) (hts _ wm_17) (hts _ wm_520) (Nat.le_of_ble_eq_true rfl) (Nat.le_of_ble_eq_true rfl) (Nat.le_of_ble_eq_true rfl) (Nat.le_of_ble_eq_true rfl) dX7_read_9 ?_
  refine lv_topi (fun x1 ex1 => ?_)
  obtain rfl : x1 = 0 := ex1.trans (by decide)
  refine va_put (D := D) (ci := 9) (v := .int 0) (ty := .int) (C := RX7) (T := TX7) (N := 6) hx hb hts kin_RX7 tyX7 tyX7_ok nmX7 hown hG.1 hP hD hS 0 rfl rfl 2 (by decide) (hts _ wm_49) (fun _ h9 => h9) rfl (by decide +kernel) rfl rfl (Nat.le_of_ble_eq_true rfl) dX7_read_12 (fun H locs hP hD hS => ?_)
  have hP : va_P D vwCl [((u 2), .inr (9, [.ref (u 93), .ref (u 1), .int 0, .int 0, .int 0, .int (-1)])), ((u 1), .inl (cy 1, 500, .inl (fun _ => 0))), ((u 4), .inr (4, [.ref (u 27), .ref (u 28), .ref (u 29), .ref (u 30), .ref (u 31), .ref (u 32), .ref (u 33), .ref (u 34), .ref (u 35), .ref (u 36), .ref (u 37), .ref (u 38), .int 0, .int 0, .int 0, .int 0, .int 0]))] H := hP
  have hD : va_D A [((u 2), .inr (9, [.ref (u 93), .ref (u 1), .int 0, .int 0, .int 0, .int (-1)])), ((u 1), .inl (cy 1, 500, .inl (fun _ => 0))), ((u 4), .inr (4, [.ref (u 27), .ref (u 28), .ref (u 29), .ref (u 30), .ref (u 31), .ref (u 32), .ref (u 33), .ref (u 34), .ref (u 35), .ref (u 36), .ref (u 37), .ref (u 38), .int 0, .int 0, .int 0, .int 0, .int 0]))] := hD
  refine lv_aload_n hx hb dX7_read_15 rfl (lv_at hl 0 rfl) ?_
  refine lv_iconst (v := 0) hx hb dX7_read_16 (by decide) ?_
  refine va_put (D := D) (ci := 9) (v := .int 0) (ty := .int) (C := RX7) (T := TX7) (N := 6) hx hb hts kin_RX7 tyX7 tyX7_ok nmX7 hown hG.1 hP hD hS 0 rfl rfl 3 (by decide) (hts _ wm_50) (fun _ h9 => h9) rfl (by decide +kernel) rfl rfl (Nat.le_of_ble_eq_true rfl) dX7_read_17 (fun H locs hP hD hS => ?_)
  have hP : va_P D vwCl [((u 2), .inr (9, [.ref (u 93), .ref (u 1), .int 0, .int 0, .int 0, .int (-1)])), ((u 1), .inl (cy 1, 500, .inl (fun _ => 0))), ((u 4), .inr (4, [.ref (u 27), .ref (u 28), .ref (u 29), .ref (u 30), .ref (u 31), .ref (u 32), .ref (u 33), .ref (u 34), .ref (u 35), .ref (u 36), .ref (u 37), .ref (u 38), .int 0, .int 0, .int 0, .int 0, .int 0]))] H := hP
  have hD : va_D A [((u 2), .inr (9, [.ref (u 93), .ref (u 1), .int 0, .int 0, .int 0, .int (-1)])), ((u 1), .inl (cy 1, 500, .inl (fun _ => 0))), ((u 4), .inr (4, [.ref (u 27), .ref (u 28), .ref (u 29), .ref (u 30), .ref (u 31), .ref (u 32), .ref (u 33), .ref (u 34), .ref (u 35), .ref (u 36), .ref (u 37), .ref (u 38), .int 0, .int 0, .int 0, .int 0, .int 0]))] := hD
  refine lv_aload_n hx hb dX7_read_20 rfl (lv_at hl 0 rfl) ?_
  refine lv_iconst (v := 0) hx hb dX7_read_21 (by decide) ?_
  refine va_put (D := D) (ci := 9) (v := .int 0) (ty := .int) (C := RX7) (T := TX7) (N := 6) hx hb hts kin_RX7 tyX7 tyX7_ok nmX7 hown hG.1 hP hD hS 0 rfl rfl 4 (by decide) (hts _ wm_51) (fun _ h9 => h9) rfl (by decide +kernel) rfl rfl (Nat.le_of_ble_eq_true rfl) dX7_read_22 (fun H locs hP hD hS => ?_)
  have hP : va_P D vwCl [((u 2), .inr (9, [.ref (u 93), .ref (u 1), .int 0, .int 0, .int 0, .int (-1)])), ((u 1), .inl (cy 1, 500, .inl (fun _ => 0))), ((u 4), .inr (4, [.ref (u 27), .ref (u 28), .ref (u 29), .ref (u 30), .ref (u 31), .ref (u 32), .ref (u 33), .ref (u 34), .ref (u 35), .ref (u 36), .ref (u 37), .ref (u 38), .int 0, .int 0, .int 0, .int 0, .int 0]))] H := hP
  have hD : va_D A [((u 2), .inr (9, [.ref (u 93), .ref (u 1), .int 0, .int 0, .int 0, .int (-1)])), ((u 1), .inl (cy 1, 500, .inl (fun _ => 0))), ((u 4), .inr (4, [.ref (u 27), .ref (u 28), .ref (u 29), .ref (u 30), .ref (u 31), .ref (u 32), .ref (u 33), .ref (u 34), .ref (u 35), .ref (u 36), .ref (u 37), .ref (u 38), .int 0, .int 0, .int 0, .int 0, .int 0]))] := hD
  refine lv_aload_n hx hb dX7_read_25 rfl (lv_at hl 0 rfl) ?_
  refine lv_iconst (v := (-1)) hx hb dX7_read_26 (by decide) ?_
  refine va_put (D := D) (ci := 9) (v := .int (-1)) (ty := .int) (C := RX7) (T := TX7) (N := 6) hx hb hts kin_RX7 tyX7 tyX7_ok nmX7 hown hG.1 hP hD hS 0 rfl rfl 5 (by decide) (hts _ wm_52) (fun _ h9 => h9) rfl (by decide +kernel) rfl rfl (Nat.le_of_ble_eq_true rfl) dX7_read_27 (fun H locs hP hD hS => ?_)
  have hP : va_P D vwCl [((u 2), .inr (9, [.ref (u 93), .ref (u 1), .int 0, .int 0, .int 0, .int (-1)])), ((u 1), .inl (cy 1, 500, .inl (fun _ => 0))), ((u 4), .inr (4, [.ref (u 27), .ref (u 28), .ref (u 29), .ref (u 30), .ref (u 31), .ref (u 32), .ref (u 33), .ref (u 34), .ref (u 35), .ref (u 36), .ref (u 37), .ref (u 38), .int 0, .int 0, .int 0, .int 0, .int 0]))] H := hP
  have hD : va_D A [((u 2), .inr (9, [.ref (u 93), .ref (u 1), .int 0, .int 0, .int 0, .int (-1)])), ((u 1), .inl (cy 1, 500, .inl (fun _ => 0))), ((u 4), .inr (4, [.ref (u 27), .ref (u 28), .ref (u 29), .ref (u 30), .ref (u 31), .ref (u 32), .ref (u 33), .ref (u 34), .ref (u 35), .ref (u 36), .ref (u 37), .ref (u 38), .int 0, .int 0, .int 0, .int 0, .int 0]))] := hD
  refine lv_aload_n hx hb dX7_read_30 rfl (lv_at hl 3 rfl) ?_
  refine k_calv [0, 1] (⟨hP, hD, hG, hS, hA, rfl, rfl⟩ : kAt D cy sa A s H _ _ [((u 4), .inr (4, [.ref (u 27), .ref (u 28), .ref (u 29), .ref (u 30), .ref (u 31), .ref (u 32), .ref (u 33), .ref (u 34), .ref (u 35), .ref (u 36), .ref (u 37), .ref (u 38), .int 0, .int 0, .int 0, .int 0, .int 0]))] [2]) (wr := [((u 2), .inr (9, [.ref (u 93), .ref (u 1), .int 0, .int 0, .int 0, .int (-1)])), ((u 1), .inl (cy 1, 500, .inl (fun _ => 0)))]) rfl rfl (by decide) (k_runV 4 2 (As := []) (rest := []) E lk_VRX7_38 rfl rfl rfl (c_House_begin l hl0 D cy sa u H.size) (⟨hP, hD, hG, hS, hA, rfl, rfl⟩ : kAt D cy sa A s H _ _ [((u 4), .inr (4, [.ref (u 27), .ref (u 28), .ref (u 29), .ref (u 30), .ref (u 31), .ref (u 32), .ref (u 33), .ref (u 34), .ref (u 35), .ref (u 36), .ref (u 37), .ref (u 38), .int 0, .int 0, .int 0, .int 0, .int 0]))] [2]) hl.1 rfl rfl ⟨rfl, rfl, ⟨Nat.le_of_ble_eq_true rfl, Nat.le_of_ble_eq_true rfl⟩, ⟨Nat.le_of_ble_eq_true rfl, Nat.le_of_ble_eq_true rfl⟩, Nat.le_of_ble_eq_true rfl⟩ dX7_read_31) (fun u3 H locs hwu3 hP hD hS => ?_)
  have hP : va_P D vwCl [((u 2), .inr (9, [.ref (u 93), .ref (u 1), .int 0, .int 0, .int 0, .int (-1)])), ((u 1), .inl (cy 1, 500, .inl (fun _ => 0))), ((u 4), .inr (4, [.ref (u 27), .ref (u 28), .ref (u 29), .ref (u 30), .ref (u 31), .ref (u 32), .ref (u 33), .ref (u 34), .ref (u 35), .ref (u 36), .ref (u 37), .ref (u 38), .int 0, .int 0, .int 1, .int 10, .int 480]))] H := hP
  have hD : va_D A [((u 2), .inr (9, [.ref (u 93), .ref (u 1), .int 0, .int 0, .int 0, .int (-1)])), ((u 1), .inl (cy 1, 500, .inl (fun _ => 0))), ((u 4), .inr (4, [.ref (u 27), .ref (u 28), .ref (u 29), .ref (u 30), .ref (u 31), .ref (u 32), .ref (u 33), .ref (u 34), .ref (u 35), .ref (u 36), .ref (u 37), .ref (u 38), .int 0, .int 0, .int 1, .int 10, .int 480]))] := hD
  refine lv_iconst (v := 1) hx hb dX7_read_34 (by decide) ?_
  refine lv_istore (lv' := [(4, .int 1), (0, .ref (u 2)), (1, .ref (u 1)), (2, .int 0), (3, .ref (u 4))]) hx hb dX7_read_35 hl (by decide) rfl (fun ls hl => ?_)
  refine lv_iconst (v := 0) hx hb dX7_read_37 (by decide) ?_
  refine lv_istore (lv' := [(5, .int 0), (4, .int 1), (0, .ref (u 2)), (1, .ref (u 1)), (2, .int 0), (3, .ref (u 4))]) hx hb dX7_read_38 hl (by decide) rfl (fun ls hl => ?_)
  refine lv_iload hx hb dX7_read_40 (lv_at hl 0 rfl) ?_
  refine lv_bipush (v := 40) hx hb dX7_read_42 (by decide) ?_
  refine lv_icmp_gt (tgt := 90) hx hb dX7_read_44 (by decide) (fun h => absurd h (by decide)) (fun _ => ?_)
  refine lv_iload hx hb dX7_read_47 (lv_at hl 1 rfl) ?_
  refine lv_if_eq (tgt := 90) hx hb dX7_read_49 (by decide) (fun h => absurd h (by decide)) (fun _ => ?_)
  refine lv_aload_n hx hb dX7_read_52 rfl (lv_at hl 2 rfl) ?_
  refine k_calv [1, 2] (⟨hP, hD, hG, hS, hA, rfl, rfl⟩ : kAt D cy sa A s H _ _ [((u 2), .inr (9, [.ref (u 93), .ref (u 1), .int 0, .int 0, .int 0, .int (-1)]))] [0]) (wr := [((u 1), .inl (cy 1, 500, .inl (fun _ => 0))), ((u 4), .inr (4, [.ref (u 27), .ref (u 28), .ref (u 29), .ref (u 30), .ref (u 31), .ref (u 32), .ref (u 33), .ref (u 34), .ref (u 35), .ref (u 36), .ref (u 37), .ref (u 38), .int 0, .int 0, .int 1, .int 10, .int 480]))]) rfl rfl (by decide) (k_runV 9 0 (As := []) (rest := []) E lk_VRX7_43 rfl rfl rfl (c_Reader_skipBlanks l hl0 D cy sa u H.size) (⟨hP, hD, hG, hS, hA, rfl, rfl⟩ : kAt D cy sa A s H _ _ [((u 2), .inr (9, [.ref (u 93), .ref (u 1), .int 0, .int 0, .int 0, .int (-1)]))] [0]) hl.1 rfl rfl ⟨rfl, rfl, ⟨Nat.le_of_ble_eq_true rfl, Nat.le_of_ble_eq_true rfl⟩, ⟨Nat.le_of_ble_eq_true rfl, Nat.le_of_ble_eq_true rfl⟩, Nat.le_of_ble_eq_true rfl⟩ dX7_read_53) (fun u5 H locs hwu5 hP hD hS => ?_)
  have hP : va_P D vwCl [((u 1), .inl (cy 1, 500, .inl (fun _ => 0))), ((u 4), .inr (4, [.ref (u 27), .ref (u 28), .ref (u 29), .ref (u 30), .ref (u 31), .ref (u 32), .ref (u 33), .ref (u 34), .ref (u 35), .ref (u 36), .ref (u 37), .ref (u 38), .int 0, .int 0, .int 1, .int 10, .int 480])), ((u 2), .inr (9, [.ref (u 93), .ref (u 1), .int 0, .int 0, .int 0, .int (-1)]))] H := hP
  have hD : va_D A [((u 1), .inl (cy 1, 500, .inl (fun _ => 0))), ((u 4), .inr (4, [.ref (u 27), .ref (u 28), .ref (u 29), .ref (u 30), .ref (u 31), .ref (u 32), .ref (u 33), .ref (u 34), .ref (u 35), .ref (u 36), .ref (u 37), .ref (u 38), .int 0, .int 0, .int 1, .int 10, .int 480])), ((u 2), .inr (9, [.ref (u 93), .ref (u 1), .int 0, .int 0, .int 0, .int (-1)]))] := hD
  refine lv_aload_n hx hb dX7_read_56 rfl (lv_at hl 2 rfl) ?_
  refine va_get (D := D) (ci := 9) (v := .int 0) (C := RX7) (T := TX7) (N := 6) hx hb hts kin_RX7 hown hG.1 hP 2 rfl rfl 3 (by decide) (hts _ wm_50) (fun _ h9 => h9) rfl dX7_read_57 ?_
  refine lv_aload_n hx hb dX7_read_60 rfl (lv_at hl 2 rfl) ?_
  refine va_get (D := D) (ci := 9) (v := .int 0) (C := RX7) (T := TX7) (N := 6) hx hb hts kin_RX7 hown hG.1 hP 2 rfl rfl 2 (by decide) (hts _ wm_49) (fun _ h9 => h9) rfl dX7_read_61 ?_
  refine lv_icmp_ge (tgt := 81) hx hb dX7_read_64 (by decide) (fun _ => ?_) (fun h => absurd (by decide) h)
  refine lv_iconst (v := 0) hx hb dX7_read_81 (by decide) ?_
  refine lv_istore (lv' := [(4, .int 0), (5, .int 0), (0, .ref (u 2)), (1, .ref (u 1)), (2, .int 0), (3, .ref (u 4))]) hx hb dX7_read_82 hl (by decide) rfl (fun ls hl => ?_)
  refine lv_iinc (v := 1) (lv' := [(5, .int 1), (4, .int 0), (0, .ref (u 2)), (1, .ref (u 1)), (2, .int 0), (3, .ref (u 4))]) hx hb dX7_read_84 hl (k := 1) rfl (by decide) (by decide) rfl (fun ls hl => ?_)
  refine lv_goto (tgt := 40) hx hb dX7_read_87 (by decide) ?_
  refine lv_iload hx hb dX7_read_40 (lv_at hl 0 rfl) ?_
  refine lv_bipush (v := 40) hx hb dX7_read_42 (by decide) ?_
  refine lv_icmp_gt (tgt := 90) hx hb dX7_read_44 (by decide) (fun h => absurd h (by decide)) (fun _ => ?_)
  refine lv_iload hx hb dX7_read_47 (lv_at hl 1 rfl) ?_
  refine lv_if_eq (tgt := 90) hx hb dX7_read_49 (by decide) (fun _ => ?_) (fun h => absurd (by decide) h)
  refine lv_aload_n hx hb dX7_read_90 rfl (lv_at hl 2 rfl) ?_
  refine va_get (D := D) (ci := 9) (v := .int 0) (C := RX7) (T := TX7) (N := 6) hx hb hts kin_RX7 hown hG.1 hP 2 rfl rfl 4 (by decide) (hts _ wm_51) (fun _ h9 => h9) rfl dX7_read_91 ?_
  refine lv_if_ne (tgt := 114) hx hb dX7_read_94 (by decide) (fun h => absurd (by decide) h) (fun _ => ?_)
  refine lv_aload_n hx hb dX7_read_97 rfl (lv_at hl 5 rfl) ?_
  refine va_get (D := D) (ci := 4) (v := .int 0) (C := RX2) (T := TX2) (N := 17) hx hb hts kin_RX2 hown hG.1 hP 1 rfl rfl 12 (by decide) (hts _ wm_119) (fun _ h9 => h9) rfl dX7_read_98 ?_
  refine lv_if_ne (tgt := 114) hx hb dX7_read_101 (by decide) (fun h => absurd (by decide) h) (fun _ => ?_)
  refine lv_aload_n hx hb dX7_read_104 rfl (lv_at hl 2 rfl) ?_
  refine lv_iconst (v := 4) hx hb dX7_read_105 (by decide) ?_
  refine lv_aload_n hx hb dX7_read_106 rfl (lv_at hl 2 rfl) ?_
  refine va_get (D := D) (ci := 9) (v := .int 0) (C := RX7) (T := TX7) (N := 6) hx hb hts kin_RX7 hown hG.1 hP 2 rfl rfl 2 (by decide) (hts _ wm_49) (fun _ h9 => h9) rfl dX7_read_107 ?_
  refine k_cali [0, 1] (⟨hP, hD, hG, hS, hA, rfl, rfl⟩ : kAt D cy sa A s H _ _ [((u 2), .inr (9, [.ref (u 93), .ref (u 1), .int 0, .int 0, .int 0, .int (-1)]))] [2]) (wr := [((u 1), .inl (cy 1, 500, .inl (fun _ => 0))), ((u 4), .inr (4, [.ref (u 27), .ref (u 28), .ref (u 29), .ref (u 30), .ref (u 31), .ref (u 32), .ref (u 33), .ref (u 34), .ref (u 35), .ref (u 36), .ref (u 37), .ref (u 38), .int 0, .int 0, .int 1, .int 10, .int 480]))]) rfl rfl (by decide) (k_runV 9 2 (As := [.int 4, .int 0]) (rest := []) E lk_VRX7_53 rfl rfl rfl (c_Reader_refuse l hl0 D cy sa u H.size) (⟨hP, hD, hG, hS, hA, rfl, rfl⟩ : kAt D cy sa A s H _ _ [((u 2), .inr (9, [.ref (u 93), .ref (u 1), .int 0, .int 0, .int 0, .int (-1)]))] [2]) hl.1 rfl rfl ⟨rfl, rfl, ⟨Nat.le_of_ble_eq_true rfl, Nat.le_of_ble_eq_true rfl⟩, ⟨Nat.le_of_ble_eq_true rfl, Nat.le_of_ble_eq_true rfl⟩, Nat.le_of_ble_eq_true rfl⟩ dX7_read_110) (fun r6 u7 H locs hwu7 hP hD hS => ?_)
  have hP : va_P D vwCl [((u 1), .inl (cy 1, 500, .inl (fun _ => 0))), ((u 4), .inr (4, [.ref (u 27), .ref (u 28), .ref (u 29), .ref (u 30), .ref (u 31), .ref (u 32), .ref (u 33), .ref (u 34), .ref (u 35), .ref (u 36), .ref (u 37), .ref (u 38), .int 0, .int 0, .int 1, .int 10, .int 480])), ((u 2), .inr (9, [.ref (u 93), .ref (u 1), .int 0, .int 0, .int 4, .int 0]))] H := hP
  have hD : va_D A [((u 1), .inl (cy 1, 500, .inl (fun _ => 0))), ((u 4), .inr (4, [.ref (u 27), .ref (u 28), .ref (u 29), .ref (u 30), .ref (u 31), .ref (u 32), .ref (u 33), .ref (u 34), .ref (u 35), .ref (u 36), .ref (u 37), .ref (u 38), .int 0, .int 0, .int 1, .int 10, .int 480])), ((u 2), .inr (9, [.ref (u 93), .ref (u 1), .int 0, .int 0, .int 4, .int 0]))] := hD
  obtain rfl : r6 = 0 := hwu7
  refine lv_pop hx hb dX7_read_113 rfl ?_
  refine lv_aload_n hx hb dX7_read_114 rfl (lv_at hl 2 rfl) ?_
  refine va_get (D := D) (ci := 9) (v := .int 4) (C := RX7) (T := TX7) (N := 6) hx hb hts kin_RX7 hown hG.1 hP 2 rfl rfl 4 (by decide) (hts _ wm_51) (fun _ h9 => h9) rfl dX7_read_115 ?_
  exact k_iret () hx hb hr hlk (rfl) (hP.sub [2, 0, 1] rfl) (hD.sub [2, 0, 1] (by decide) rfl) hS (by decide) (by decide) dX7_read_118
