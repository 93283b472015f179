theorem wm_418 : Cond.fieldLink RX11 17 "LentMinds" "faultPlace" "I" ∈ kWS := kws_at 418 (by decide +kernel) (by decide +kernel)
theorem wm_420 : Cond.fieldLink RX11 30 "LentMinds" "house" "LLentMinds$House;" ∈ kWS := kws_at 420 (by decide +kernel) (by decide +kernel)
theorem wm_122 : Cond.fieldLink RX11 128 "LentMinds$House" "bodies" "I" ∈ kWS := kws_at 122 (by decide +kernel) (by decide +kernel)
theorem wm_127 : Cond.fieldLink RX11 131 "LentMinds$House" "breath" "I" ∈ kWS := kws_at 127 (by decide +kernel) (by decide +kernel)
theorem wm_130 : Cond.fieldLink RX11 134 "LentMinds$House" "stride" "I" ∈ kWS := kws_at 130 (by decide +kernel) (by decide +kernel)
theorem wm_136 : Cond.fieldLink RX11 137 "LentMinds$House" "day" "I" ∈ kWS := kws_at 136 (by decide +kernel) (by decide +kernel)
theorem wm_125 : Cond.fieldLink RX11 140 "LentMinds$House" "joints" "I" ∈ kWS := kws_at 125 (by decide +kernel) (by decide +kernel)
theorem wm_422 : Cond.fieldLink RX11 40 "LentMinds" "moment" "LLentMinds$Moment;" ∈ kWS := kws_at 422 (by decide +kernel) (by decide +kernel)
theorem wm_204 : Cond.fieldLink RX11 249 "LentMinds$Moment" "harm" "I" ∈ kWS := kws_at 204 (by decide +kernel) (by decide +kernel)
theorem wm_206 : Cond.fieldLink RX11 255 "LentMinds$Moment" "worth" "I" ∈ kWS := kws_at 206 (by decide +kernel) (by decide +kernel)
theorem wm_200 : Cond.fieldLink RX11 257 "LentMinds$Moment" "done" "I" ∈ kWS := kws_at 200 (by decide +kernel) (by decide +kernel)
theorem wm_502 : Cond.code yJ6_bitCount_0f7a4 cJ6_bitCount_0f7a4 1 (some .int) ∈ kWS := kws_at 502 (by decide +kernel) (by decide +kernel)
theorem wm_500 : Cond.methodLink RX11 260 yJ6_bitCount_0f7a4 ∈ kWS := kws_at 500 (by decide +kernel) (by decide +kernel)
theorem wm_501 : Cond.static yJ6_bitCount_0f7a4 ∈ kWS := kws_at 501 (by decide +kernel) (by decide +kernel)
theorem wm_28 : Cond.initialized RJ6 ∈ kWS := kws_at 28 (by decide +kernel) (by decide +kernel)
theorem lk_SRX11_260 : kLS RX11 260 yJ6_bitCount_0f7a4 (Cond.code yJ6_bitCount_0f7a4 cJ6_bitCount_0f7a4 1 (some .int)) 1 := ⟨wm_500, wm_501, wm_28, wm_502, ⟨by decide +kernel, by decide +kernel, by decide +kernel⟩⟩
theorem wm_208 : Cond.fieldLink RX11 266 "LentMinds$Moment" "passes" "I" ∈ kWS := kws_at 208 (by decide +kernel) (by decide +kernel)
theorem wm_188 : Cond.fieldLink RX11 241 "LentMinds$Moment" "now" "I" ∈ kWS := kws_at 188 (by decide +kernel) (by decide +kernel)
theorem wm_423 : Cond.fieldLink RX11 47 "LentMinds" "plan" "LLentMinds$Plan;" ∈ kWS := kws_at 423 (by decide +kernel) (by decide +kernel)
theorem wm_242 : Cond.fieldLink RX11 275 "LentMinds$Plan" "passings" "I" ∈ kWS := kws_at 242 (by decide +kernel) (by decide +kernel)
theorem wm_246 : Cond.fieldLink RX11 386 "LentMinds$Plan" "spots" "I" ∈ kWS := kws_at 246 (by decide +kernel) (by decide +kernel)
theorem wm_202 : Cond.fieldLink RX11 230 "LentMinds$Moment" "abed" "I" ∈ kWS := kws_at 202 (by decide +kernel) (by decide +kernel)
theorem wm_426 : Cond.fieldLink RX11 59 "LentMinds" "imaged" "I" ∈ kWS := kws_at 426 (by decide +kernel) (by decide +kernel)
theorem wm_417 : Cond.fieldLink RX11 13 "LentMinds" "taped" "I" ∈ kWS := kws_at 417 (by decide +kernel) (by decide +kernel)
theorem wm_890 : Cond.methodLink RX11 347 Lib.Math.max.name ∈ kWS := kws_at 890 (by decide +kernel) (by decide +kernel)
theorem wm_648 : Cond.static Lib.Math.max.name ∈ kWS := kws_at 648 (by decide +kernel) (by decide +kernel)
theorem wm_649 : Cond.code Lib.Math.max.name Lib.Math.max.code 2 (some .int) ∈ kWS := kws_at 649 (by decide +kernel) (by decide +kernel)
theorem wm_1142 : Cond.code yX11_within cX11_within 3 (some .boolean) ∈ kWS := kws_at 1142 (by decide +kernel) (by decide +kernel)
theorem wm_1140 : Cond.methodLink RX11 233 yX11_within ∈ kWS := kws_at 1140 (by decide +kernel) (by decide +kernel)
theorem wm_1141 : Cond.static yX11_within ∈ kWS := kws_at 1141 (by decide +kernel) (by decide +kernel)
theorem wm_1 : Cond.initialized RX11 ∈ kWS := kws_at 1 (by decide +kernel) (by decide +kernel)
theorem lk_SRX11_233 : kLS RX11 233 yX11_within (Cond.code yX11_within cX11_within 3 (some .boolean)) 3 := ⟨wm_1140, wm_1141, wm_1, wm_1142, ⟨by decide +kernel, by decide +kernel, by decide +kernel⟩⟩
theorem wm_1145 : Cond.code yX11_need cX11_need 1 none ∈ kWS := kws_at 1145 (by decide +kernel) (by decide +kernel)
theorem wm_1143 : Cond.methodLink RX11 237 yX11_need ∈ kWS := kws_at 1143 (by decide +kernel) (by decide +kernel)
theorem wm_1144 : Cond.static yX11_need ∈ kWS := kws_at 1144 (by decide +kernel) (by decide +kernel)
theorem lk_SRX11_237 : kLS RX11 237 yX11_need (Cond.code yX11_need cX11_need 1 none) 1 := ⟨wm_1143, wm_1144, wm_1, wm_1145, ⟨by decide +kernel, by decide +kernel, by decide +kernel⟩⟩
theorem dX11_fault_0 : decode cX11_fault 0 = .ok (.aload_n 0, 1) := by decide +kernel
theorem dX11_fault_1 : decode cX11_fault 1 = .ok (.getfield 17, 3) := by decide +kernel
theorem dX11_fault_4 : decode cX11_fault 4 = .ok (.ireturn, 1) := by decide +kernel
theorem dX11_mind_0 : decode cX11_mind 0 = .ok (.aload_n 0, 1) := by decide +kernel
theorem dX11_mind_1 : decode cX11_mind 1 = .ok (.getfield 30, 3) := by decide +kernel
theorem dX11_mind_4 : decode cX11_mind 4 = .ok (.getfield 128, 3) := by decide +kernel
theorem dX11_mind_7 : decode cX11_mind 7 = .ok (.ifCond .ne 7, 3) := by decide +kernel
theorem dX11_mind_10 : decode cX11_mind 10 = .ok (.iconst (-1), 1) := by decide +kernel
theorem dX11_mind_11 : decode cX11_mind 11 = .ok (.goto 21, 3) := by decide +kernel
theorem dX11_mind_14 : decode cX11_mind 14 = .ok (.bipush 100, 2) := by decide +kernel
theorem dX11_mind_16 : decode cX11_mind 16 = .ok (.aload_n 0, 1) := by decide +kernel
theorem dX11_mind_17 : decode cX11_mind 17 = .ok (.getfield 40, 3) := by decide +kernel
theorem dX11_mind_20 : decode cX11_mind 20 = .ok (.getfield 220, 3) := by decide +kernel
theorem dX11_mind_23 : decode cX11_mind 23 = .ok (.imul, 1) := by decide +kernel
theorem dX11_mind_24 : decode cX11_mind 24 = .ok (.aload_n 0, 1) := by decide +kernel
theorem dX11_mind_25 : decode cX11_mind 25 = .ok (.getfield 40, 3) := by decide +kernel
theorem dX11_mind_28 : decode cX11_mind 28 = .ok (.getfield 223, 3) := by decide +kernel
theorem dX11_mind_31 : decode cX11_mind 31 = .ok (.iadd, 1) := by decide +kernel
theorem dX11_mind_32 : decode cX11_mind 32 = .ok (.ireturn, 1) := by decide +kernel
theorem dX11_told_0 : decode cX11_told 0 = .ok (.iload_n 1, 1) := by decide +kernel
theorem dX11_told_1 : decode cX11_told 1 = .ok (.tableswitch 75 0 4 #[35, 43, 51, 59, 67], 35) := by decide +kernel
theorem dX11_told_36 : decode cX11_told 36 = .ok (.aload_n 0, 1) := by decide +kernel
theorem dX11_told_37 : decode cX11_told 37 = .ok (.getfield 30, 3) := by decide +kernel
theorem dX11_told_40 : decode cX11_told 40 = .ok (.getfield 128, 3) := by decide +kernel
theorem dX11_told_43 : decode cX11_told 43 = .ok (.ireturn, 1) := by decide +kernel
theorem dX11_told_44 : decode cX11_told 44 = .ok (.aload_n 0, 1) := by decide +kernel
theorem dX11_told_45 : decode cX11_told 45 = .ok (.getfield 30, 3) := by decide +kernel
theorem dX11_told_48 : decode cX11_told 48 = .ok (.getfield 131, 3) := by decide +kernel
theorem dX11_told_51 : decode cX11_told 51 = .ok (.ireturn, 1) := by decide +kernel
theorem dX11_told_52 : decode cX11_told 52 = .ok (.aload_n 0, 1) := by decide +kernel
theorem dX11_told_53 : decode cX11_told 53 = .ok (.getfield 30, 3) := by decide +kernel
theorem dX11_told_56 : decode cX11_told 56 = .ok (.getfield 134, 3) := by decide +kernel
theorem dX11_told_59 : decode cX11_told 59 = .ok (.ireturn, 1) := by decide +kernel
theorem dX11_told_60 : decode cX11_told 60 = .ok (.aload_n 0, 1) := by decide +kernel
theorem dX11_told_61 : decode cX11_told 61 = .ok (.getfield 30, 3) := by decide +kernel
theorem dX11_told_64 : decode cX11_told 64 = .ok (.getfield 137, 3) := by decide +kernel
theorem dX11_told_67 : decode cX11_told 67 = .ok (.ireturn, 1) := by decide +kernel
theorem dX11_told_68 : decode cX11_told 68 = .ok (.aload_n 0, 1) := by decide +kernel
theorem dX11_told_69 : decode cX11_told 69 = .ok (.getfield 30, 3) := by decide +kernel
theorem dX11_told_72 : decode cX11_told 72 = .ok (.getfield 140, 3) := by decide +kernel
theorem dX11_told_75 : decode cX11_told 75 = .ok (.ireturn, 1) := by decide +kernel
theorem dX11_told_76 : decode cX11_told 76 = .ok (.new 110, 3) := by decide +kernel
theorem dX11_told_79 : decode cX11_told 79 = .ok (.dup, 1) := by decide +kernel
theorem dX11_told_80 : decode cX11_told 80 = .ok (.ldc 143, 2) := by decide +kernel
theorem dX11_told_82 : decode cX11_told 82 = .ok (.invokespecial 114, 3) := by decide +kernel
theorem dX11_told_85 : decode cX11_told 85 = .ok (.athrow, 1) := by decide +kernel
theorem dX11_day_0 : decode cX11_day 0 = .ok (.iload_n 1, 1) := by decide +kernel
theorem dX11_day_1 : decode cX11_day 1 = .ok (.tableswitch 66 0 3 #[31, 39, 47, 58], 31) := by decide +kernel
theorem dX11_day_32 : decode cX11_day 32 = .ok (.aload_n 0, 1) := by decide +kernel
theorem dX11_day_33 : decode cX11_day 33 = .ok (.getfield 40, 3) := by decide +kernel
theorem dX11_day_36 : decode cX11_day 36 = .ok (.getfield 249, 3) := by decide +kernel
theorem dX11_day_39 : decode cX11_day 39 = .ok (.ireturn, 1) := by decide +kernel
theorem dX11_day_40 : decode cX11_day 40 = .ok (.aload_n 0, 1) := by decide +kernel
theorem dX11_day_41 : decode cX11_day 41 = .ok (.getfield 40, 3) := by decide +kernel
theorem dX11_day_44 : decode cX11_day 44 = .ok (.getfield 255, 3) := by decide +kernel
theorem dX11_day_47 : decode cX11_day 47 = .ok (.ireturn, 1) := by decide +kernel
theorem dX11_day_48 : decode cX11_day 48 = .ok (.aload_n 0, 1) := by decide +kernel
theorem dX11_day_49 : decode cX11_day 49 = .ok (.getfield 40, 3) := by decide +kernel
theorem dX11_day_52 : decode cX11_day 52 = .ok (.getfield 257, 3) := by decide +kernel
theorem dX11_day_55 : decode cX11_day 55 = .ok (.invokestatic 260, 3) := by decide +kernel
theorem dX11_day_58 : decode cX11_day 58 = .ok (.ireturn, 1) := by decide +kernel
theorem dX11_day_59 : decode cX11_day 59 = .ok (.aload_n 0, 1) := by decide +kernel
theorem dX11_day_60 : decode cX11_day 60 = .ok (.getfield 40, 3) := by decide +kernel
theorem dX11_day_63 : decode cX11_day 63 = .ok (.getfield 266, 3) := by decide +kernel
theorem dX11_day_66 : decode cX11_day 66 = .ok (.ireturn, 1) := by decide +kernel
theorem dX11_day_67 : decode cX11_day 67 = .ok (.new 110, 3) := by decide +kernel
theorem dX11_day_70 : decode cX11_day 70 = .ok (.dup, 1) := by decide +kernel
theorem dX11_day_71 : decode cX11_day 71 = .ok (.ldc_w 269, 3) := by decide +kernel
theorem dX11_day_74 : decode cX11_day 74 = .ok (.invokespecial 114, 3) := by decide +kernel
theorem dX11_day_77 : decode cX11_day 77 = .ok (.athrow, 1) := by decide +kernel
theorem dX11_count_0 : decode cX11_count 0 = .ok (.iload_n 1, 1) := by decide +kernel
theorem dX11_count_1 : decode cX11_count 1 = .ok (.tableswitch 84 0 5 #[39, 47, 55, 63, 74, 79], 39) := by decide +kernel
theorem dX11_count_40 : decode cX11_count 40 = .ok (.aload_n 0, 1) := by decide +kernel
theorem dX11_count_41 : decode cX11_count 41 = .ok (.getfield 40, 3) := by decide +kernel
theorem dX11_count_44 : decode cX11_count 44 = .ok (.getfield 241, 3) := by decide +kernel
theorem dX11_count_47 : decode cX11_count 47 = .ok (.ireturn, 1) := by decide +kernel
theorem dX11_count_48 : decode cX11_count 48 = .ok (.aload_n 0, 1) := by decide +kernel
theorem dX11_count_49 : decode cX11_count 49 = .ok (.getfield 47, 3) := by decide +kernel
theorem dX11_count_52 : decode cX11_count 52 = .ok (.getfield 275, 3) := by decide +kernel
theorem dX11_count_55 : decode cX11_count 55 = .ok (.ireturn, 1) := by decide +kernel
theorem dX11_count_56 : decode cX11_count 56 = .ok (.aload_n 0, 1) := by decide +kernel
theorem dX11_count_57 : decode cX11_count 57 = .ok (.getfield 47, 3) := by decide +kernel
theorem dX11_count_60 : decode cX11_count 60 = .ok (.getfield 386, 3) := by decide +kernel
theorem dX11_count_63 : decode cX11_count 63 = .ok (.ireturn, 1) := by decide +kernel
theorem dX11_count_64 : decode cX11_count 64 = .ok (.aload_n 0, 1) := by decide +kernel
theorem dX11_count_65 : decode cX11_count 65 = .ok (.getfield 40, 3) := by decide +kernel
theorem dX11_count_68 : decode cX11_count 68 = .ok (.getfield 230, 3) := by decide +kernel
theorem dX11_count_71 : decode cX11_count 71 = .ok (.invokestatic 260, 3) := by decide +kernel
theorem dX11_count_74 : decode cX11_count 74 = .ok (.ireturn, 1) := by decide +kernel
theorem dX11_count_75 : decode cX11_count 75 = .ok (.aload_n 0, 1) := by decide +kernel
theorem dX11_count_76 : decode cX11_count 76 = .ok (.getfield 59, 3) := by decide +kernel
theorem dX11_count_79 : decode cX11_count 79 = .ok (.ireturn, 1) := by decide +kernel
theorem dX11_count_80 : decode cX11_count 80 = .ok (.aload_n 0, 1) := by decide +kernel
theorem dX11_count_81 : decode cX11_count 81 = .ok (.getfield 13, 3) := by decide +kernel
theorem dX11_count_84 : decode cX11_count 84 = .ok (.ireturn, 1) := by decide +kernel
theorem dX11_count_85 : decode cX11_count 85 = .ok (.iconst (-1), 1) := by decide +kernel
theorem dX11_count_86 : decode cX11_count 86 = .ok (.ireturn, 1) := by decide +kernel
theorem dX11_clear_0 : decode cX11_clear 0 = .ok (.aload_n 0, 1) := by decide +kernel
theorem dX11_clear_1 : decode cX11_clear 1 = .ok (.getfield 47, 3) := by decide +kernel
theorem dX11_clear_4 : decode cX11_clear 4 = .ok (.getfield 275, 3) := by decide +kernel
theorem dX11_clear_7 : decode cX11_clear 7 = .ok (.istore_n 1, 1) := by decide +kernel
theorem dX11_clear_8 : decode cX11_clear 8 = .ok (.aload_n 0, 1) := by decide +kernel
theorem dX11_clear_9 : decode cX11_clear 9 = .ok (.getfield 47, 3) := by decide +kernel
theorem dX11_clear_12 : decode cX11_clear 12 = .ok (.iconst 0, 1) := by decide +kernel
theorem dX11_clear_13 : decode cX11_clear 13 = .ok (.putfield 275, 3) := by decide +kernel
theorem dX11_clear_16 : decode cX11_clear 16 = .ok (.iload_n 1, 1) := by decide +kernel
theorem dX11_clear_17 : decode cX11_clear 17 = .ok (.ireturn, 1) := by decide +kernel
theorem dX11_restore_0 : decode cX11_restore 0 = .ok (.aload_n 0, 1) := by decide +kernel
theorem dX11_restore_1 : decode cX11_restore 1 = .ok (.getfield 59, 3) := by decide +kernel
theorem dX11_restore_4 : decode cX11_restore 4 = .ok (.ifCond .le 11, 3) := by decide +kernel
theorem dX11_restore_7 : decode cX11_restore 7 = .ok (.aload_n 0, 1) := by decide +kernel
theorem dX11_restore_8 : decode cX11_restore 8 = .ok (.getfield 59, 3) := by decide +kernel
theorem dX11_restore_11 : decode cX11_restore 11 = .ok (.iconst 3, 1) := by decide +kernel
theorem dX11_restore_12 : decode cX11_restore 12 = .ok (.if_icmp .le 5, 3) := by decide +kernel
theorem dX11_restore_15 : decode cX11_restore 15 = .ok (.iconst (-1), 1) := by decide +kernel
theorem dX11_restore_16 : decode cX11_restore 16 = .ok (.ireturn, 1) := by decide +kernel
theorem dX11_restore_17 : decode cX11_restore 17 = .ok (.aload_n 0, 1) := by decide +kernel
theorem dX11_restore_18 : decode cX11_restore 18 = .ok (.dup, 1) := by decide +kernel
theorem dX11_restore_19 : decode cX11_restore 19 = .ok (.getfield 59, 3) := by decide +kernel
theorem dX11_restore_22 : decode cX11_restore 22 = .ok (.iconst 1, 1) := by decide +kernel
theorem dX11_restore_23 : decode cX11_restore 23 = .ok (.isub, 1) := by decide +kernel
theorem dX11_restore_24 : decode cX11_restore 24 = .ok (.putfield 59, 3) := by decide +kernel
theorem dX11_restore_27 : decode cX11_restore 27 = .ok (.aload_n 0, 1) := by decide +kernel
theorem dX11_restore_28 : decode cX11_restore 28 = .ok (.getfield 40, 3) := by decide +kernel
theorem dX11_restore_31 : decode cX11_restore 31 = .ok (.aload_n 0, 1) := by decide +kernel
theorem dX11_restore_32 : decode cX11_restore 32 = .ok (.getfield 51, 3) := by decide +kernel
theorem dX11_restore_35 : decode cX11_restore 35 = .ok (.aload_n 0, 1) := by decide +kernel
theorem dX11_restore_36 : decode cX11_restore 36 = .ok (.getfield 59, 3) := by decide +kernel
theorem dX11_restore_39 : decode cX11_restore 39 = .ok (.aaload, 1) := by decide +kernel
theorem dX11_restore_40 : decode cX11_restore 40 = .ok (.invokevirtual 393, 3) := by decide +kernel
theorem dX11_restore_43 : decode cX11_restore 43 = .ok (.aload_n 0, 1) := by decide +kernel
theorem dX11_restore_44 : decode cX11_restore 44 = .ok (.getfield 47, 3) := by decide +kernel
theorem dX11_restore_47 : decode cX11_restore 47 = .ok (.aload_n 0, 1) := by decide +kernel
theorem dX11_restore_48 : decode cX11_restore 48 = .ok (.getfield 55, 3) := by decide +kernel
theorem dX11_restore_51 : decode cX11_restore 51 = .ok (.aload_n 0, 1) := by decide +kernel
theorem dX11_restore_52 : decode cX11_restore 52 = .ok (.getfield 59, 3) := by decide +kernel
theorem dX11_restore_55 : decode cX11_restore 55 = .ok (.aaload, 1) := by decide +kernel
theorem dX11_restore_56 : decode cX11_restore 56 = .ok (.invokevirtual 396, 3) := by decide +kernel
theorem dX11_restore_59 : decode cX11_restore 59 = .ok (.aload_n 0, 1) := by decide +kernel
theorem dX11_restore_60 : decode cX11_restore 60 = .ok (.getfield 59, 3) := by decide +kernel
theorem dX11_restore_63 : decode cX11_restore 63 = .ok (.ireturn, 1) := by decide +kernel
theorem dX11_over_0 : decode cX11_over 0 = .ok (.iconst 0, 1) := by decide +kernel
theorem dX11_over_1 : decode cX11_over 1 = .ok (.istore_n 1, 1) := by decide +kernel
theorem dX11_over_2 : decode cX11_over 2 = .ok (.iconst 0, 1) := by decide +kernel
theorem dX11_over_3 : decode cX11_over 3 = .ok (.istore_n 2, 1) := by decide +kernel
theorem dX11_over_4 : decode cX11_over 4 = .ok (.iload_n 2, 1) := by decide +kernel
theorem dX11_over_5 : decode cX11_over 5 = .ok (.aload_n 0, 1) := by decide +kernel
theorem dX11_over_6 : decode cX11_over 6 = .ok (.getfield 30, 3) := by decide +kernel
theorem dX11_over_9 : decode cX11_over 9 = .ok (.getfield 128, 3) := by decide +kernel
theorem dX11_over_12 : decode cX11_over 12 = .ok (.if_icmp .ge 62, 3) := by decide +kernel
theorem dX11_over_15 : decode cX11_over 15 = .ok (.aload_n 0, 1) := by decide +kernel
theorem dX11_over_16 : decode cX11_over 16 = .ok (.getfield 30, 3) := by decide +kernel
theorem dX11_over_19 : decode cX11_over 19 = .ok (.getfield 170, 3) := by decide +kernel
theorem dX11_over_22 : decode cX11_over 22 = .ok (.iload_n 2, 1) := by decide +kernel
theorem dX11_over_23 : decode cX11_over 23 = .ok (.iaload, 1) := by decide +kernel
theorem dX11_over_24 : decode cX11_over 24 = .ok (.istore_n 3, 1) := by decide +kernel
theorem dX11_over_25 : decode cX11_over 25 = .ok (.aload_n 0, 1) := by decide +kernel
theorem dX11_over_26 : decode cX11_over 26 = .ok (.iload_n 2, 1) := by decide +kernel
theorem dX11_over_27 : decode cX11_over 27 = .ok (.invokevirtual 380, 3) := by decide +kernel
theorem dX11_over_30 : decode cX11_over 30 = .ok (.istore 4, 2) := by decide +kernel
theorem dX11_over_32 : decode cX11_over 32 = .ok (.aload_n 0, 1) := by decide +kernel
theorem dX11_over_33 : decode cX11_over 33 = .ok (.iload_n 3, 1) := by decide +kernel
theorem dX11_over_34 : decode cX11_over 34 = .ok (.invokevirtual 380, 3) := by decide +kernel
theorem dX11_over_37 : decode cX11_over 37 = .ok (.istore 5, 2) := by decide +kernel
theorem dX11_over_39 : decode cX11_over 39 = .ok (.iload 4, 2) := by decide +kernel
theorem dX11_over_41 : decode cX11_over 41 = .ok (.iload 5, 2) := by decide +kernel
theorem dX11_over_43 : decode cX11_over 43 = .ok (.if_icmp .gt 20, 3) := by decide +kernel
theorem dX11_over_46 : decode cX11_over 46 = .ok (.iload 4, 2) := by decide +kernel
theorem dX11_over_48 : decode cX11_over 48 = .ok (.iload 5, 2) := by decide +kernel
theorem dX11_over_50 : decode cX11_over 50 = .ok (.if_icmp .ne 18, 3) := by decide +kernel
theorem dX11_over_53 : decode cX11_over 53 = .ok (.iload_n 3, 1) := by decide +kernel
theorem dX11_over_54 : decode cX11_over 54 = .ok (.iconst (-1), 1) := by decide +kernel
theorem dX11_over_55 : decode cX11_over 55 = .ok (.if_icmp .eq 8, 3) := by decide +kernel
theorem dX11_over_58 : decode cX11_over 58 = .ok (.iload_n 2, 1) := by decide +kernel
theorem dX11_over_59 : decode cX11_over 59 = .ok (.iload_n 3, 1) := by decide +kernel
theorem dX11_over_60 : decode cX11_over 60 = .ok (.if_icmp .ge 8, 3) := by decide +kernel
theorem dX11_over_63 : decode cX11_over 63 = .ok (.iload_n 1, 1) := by decide +kernel
theorem dX11_over_64 : decode cX11_over 64 = .ok (.iload 4, 2) := by decide +kernel
theorem dX11_over_66 : decode cX11_over 66 = .ok (.iadd, 1) := by decide +kernel
theorem dX11_over_67 : decode cX11_over 67 = .ok (.istore_n 1, 1) := by decide +kernel
theorem dX11_over_68 : decode cX11_over 68 = .ok (.iinc 2 1, 3) := by decide +kernel
theorem dX11_over_71 : decode cX11_over 71 = .ok (.goto (-67), 3) := by decide +kernel
theorem dX11_over_74 : decode cX11_over 74 = .ok (.iconst 0, 1) := by decide +kernel
theorem dX11_over_75 : decode cX11_over 75 = .ok (.iload_n 1, 1) := by decide +kernel
theorem dX11_over_76 : decode cX11_over 76 = .ok (.aload_n 0, 1) := by decide +kernel
theorem dX11_over_77 : decode cX11_over 77 = .ok (.getfield 30, 3) := by decide +kernel
theorem dX11_over_80 : decode cX11_over 80 = .ok (.getfield 137, 3) := by decide +kernel
theorem dX11_over_83 : decode cX11_over 83 = .ok (.aload_n 0, 1) := by decide +kernel
theorem dX11_over_84 : decode cX11_over 84 = .ok (.getfield 40, 3) := by decide +kernel
theorem dX11_over_87 : decode cX11_over 87 = .ok (.getfield 241, 3) := by decide +kernel
theorem dX11_over_90 : decode cX11_over 90 = .ok (.isub, 1) := by decide +kernel
theorem dX11_over_91 : decode cX11_over 91 = .ok (.isub, 1) := by decide +kernel
theorem dX11_over_92 : decode cX11_over 92 = .ok (.invokestatic 347, 3) := by decide +kernel
theorem dX11_over_95 : decode cX11_over 95 = .ok (.ireturn, 1) := by decide +kernel
theorem dX11_safe_0 : decode cX11_safe 0 = .ok (.iconst 0, 1) := by decide +kernel
theorem dX11_safe_1 : decode cX11_safe 1 = .ok (.istore_n 1, 1) := by decide +kernel
theorem dX11_safe_2 : decode cX11_safe 2 = .ok (.iconst 0, 1) := by decide +kernel
theorem dX11_safe_3 : decode cX11_safe 3 = .ok (.istore_n 2, 1) := by decide +kernel
theorem dX11_safe_4 : decode cX11_safe 4 = .ok (.iload_n 2, 1) := by decide +kernel
theorem dX11_safe_5 : decode cX11_safe 5 = .ok (.aload_n 0, 1) := by decide +kernel
theorem dX11_safe_6 : decode cX11_safe 6 = .ok (.getfield 30, 3) := by decide +kernel
theorem dX11_safe_9 : decode cX11_safe 9 = .ok (.getfield 128, 3) := by decide +kernel
theorem dX11_safe_12 : decode cX11_safe 12 = .ok (.if_icmp .ge 37, 3) := by decide +kernel
theorem dX11_safe_15 : decode cX11_safe 15 = .ok (.aload_n 0, 1) := by decide +kernel
theorem dX11_safe_16 : decode cX11_safe 16 = .ok (.getfield 40, 3) := by decide +kernel
theorem dX11_safe_19 : decode cX11_safe 19 = .ok (.iload_n 2, 1) := by decide +kernel
theorem dX11_safe_20 : decode cX11_safe 20 = .ok (.invokevirtual 199, 3) := by decide +kernel
theorem dX11_safe_23 : decode cX11_safe 23 = .ok (.ifCond .ne 20, 3) := by decide +kernel
theorem dX11_safe_26 : decode cX11_safe 26 = .ok (.aload_n 0, 1) := by decide +kernel
theorem dX11_safe_27 : decode cX11_safe 27 = .ok (.getfield 40, 3) := by decide +kernel
theorem dX11_safe_30 : decode cX11_safe 30 = .ok (.iload_n 2, 1) := by decide +kernel
theorem dX11_safe_31 : decode cX11_safe 31 = .ok (.invokevirtual 206, 3) := by decide +kernel
theorem dX11_safe_34 : decode cX11_safe 34 = .ok (.ifCond .ne 9, 3) := by decide +kernel
theorem dX11_safe_37 : decode cX11_safe 37 = .ok (.iload_n 1, 1) := by decide +kernel
theorem dX11_safe_38 : decode cX11_safe 38 = .ok (.iconst 1, 1) := by decide +kernel
theorem dX11_safe_39 : decode cX11_safe 39 = .ok (.iload_n 2, 1) := by decide +kernel
theorem dX11_safe_40 : decode cX11_safe 40 = .ok (.ishl, 1) := by decide +kernel
theorem dX11_safe_41 : decode cX11_safe 41 = .ok (.ior, 1) := by decide +kernel
theorem dX11_safe_42 : decode cX11_safe 42 = .ok (.istore_n 1, 1) := by decide +kernel
theorem dX11_safe_43 : decode cX11_safe 43 = .ok (.iinc 2 1, 3) := by decide +kernel
theorem dX11_safe_46 : decode cX11_safe 46 = .ok (.goto (-42), 3) := by decide +kernel
theorem dX11_safe_49 : decode cX11_safe 49 = .ok (.iconst 4, 1) := by decide +kernel
theorem dX11_safe_50 : decode cX11_safe 50 = .ok (.istore_n 2, 1) := by decide +kernel
theorem dX11_safe_51 : decode cX11_safe 51 = .ok (.iload_n 2, 1) := by decide +kernel
theorem dX11_safe_52 : decode cX11_safe 52 = .ok (.ifCond .le 48, 3) := by decide +kernel
theorem dX11_safe_55 : decode cX11_safe 55 = .ok (.iconst 1, 1) := by decide +kernel
theorem dX11_safe_56 : decode cX11_safe 56 = .ok (.istore_n 3, 1) := by decide +kernel
theorem dX11_safe_57 : decode cX11_safe 57 = .ok (.iload_n 3, 1) := by decide +kernel
theorem dX11_safe_58 : decode cX11_safe 58 = .ok (.iload_n 1, 1) := by decide +kernel
theorem dX11_safe_59 : decode cX11_safe 59 = .ok (.if_icmp .gt 35, 3) := by decide +kernel
theorem dX11_safe_62 : decode cX11_safe 62 = .ok (.iload_n 3, 1) := by decide +kernel
theorem dX11_safe_63 : decode cX11_safe 63 = .ok (.iload_n 1, 1) := by decide +kernel
theorem dX11_safe_64 : decode cX11_safe 64 = .ok (.iconst (-1), 1) := by decide +kernel
theorem dX11_safe_65 : decode cX11_safe 65 = .ok (.ixor, 1) := by decide +kernel
theorem dX11_safe_66 : decode cX11_safe 66 = .ok (.iand, 1) := by decide +kernel
theorem dX11_safe_67 : decode cX11_safe 67 = .ok (.ifCond .ne 21, 3) := by decide +kernel
theorem dX11_safe_70 : decode cX11_safe 70 = .ok (.iload_n 3, 1) := by decide +kernel
theorem dX11_safe_71 : decode cX11_safe 71 = .ok (.invokestatic 260, 3) := by decide +kernel
theorem dX11_safe_74 : decode cX11_safe 74 = .ok (.iload_n 2, 1) := by decide +kernel
theorem dX11_safe_75 : decode cX11_safe 75 = .ok (.if_icmp .ne 13, 3) := by decide +kernel
theorem dX11_safe_78 : decode cX11_safe 78 = .ok (.aload_n 0, 1) := by decide +kernel
theorem dX11_safe_79 : decode cX11_safe 79 = .ok (.iload_n 3, 1) := by decide +kernel
theorem dX11_safe_80 : decode cX11_safe 80 = .ok (.invokevirtual 322, 3) := by decide +kernel
theorem dX11_safe_83 : decode cX11_safe 83 = .ok (.ifCond .eq 5, 3) := by decide +kernel
theorem dX11_safe_86 : decode cX11_safe 86 = .ok (.iload_n 3, 1) := by decide +kernel
theorem dX11_safe_87 : decode cX11_safe 87 = .ok (.ireturn, 1) := by decide +kernel
theorem dX11_safe_88 : decode cX11_safe 88 = .ok (.iinc 3 1, 3) := by decide +kernel
theorem dX11_safe_91 : decode cX11_safe 91 = .ok (.goto (-34), 3) := by decide +kernel
theorem dX11_safe_94 : decode cX11_safe 94 = .ok (.iinc 2 (-1), 3) := by decide +kernel
theorem dX11_safe_97 : decode cX11_safe 97 = .ok (.goto (-46), 3) := by decide +kernel
theorem dX11_safe_100 : decode cX11_safe 100 = .ok (.iconst 0, 1) := by decide +kernel
theorem dX11_safe_101 : decode cX11_safe 101 = .ok (.ireturn, 1) := by decide +kernel
theorem dX11_alike_0 : decode cX11_alike 0 = .ok (.iload_n 1, 1) := by decide +kernel
theorem dX11_alike_1 : decode cX11_alike 1 = .ok (.iconst 1, 1) := by decide +kernel
theorem dX11_alike_2 : decode cX11_alike 2 = .ok (.bipush 60, 2) := by decide +kernel
theorem dX11_alike_4 : decode cX11_alike 4 = .ok (.invokestatic 233, 3) := by decide +kernel
theorem dX11_alike_7 : decode cX11_alike 7 = .ok (.ifCond .eq 17, 3) := by decide +kernel
theorem dX11_alike_10 : decode cX11_alike 10 = .ok (.iload_n 2, 1) := by decide +kernel
theorem dX11_alike_11 : decode cX11_alike 11 = .ok (.iconst 0, 1) := by decide +kernel
theorem dX11_alike_12 : decode cX11_alike 12 = .ok (.bipush 30, 2) := by decide +kernel
theorem dX11_alike_14 : decode cX11_alike 14 = .ok (.invokestatic 233, 3) := by decide +kernel
theorem dX11_alike_17 : decode cX11_alike 17 = .ok (.ifCond .eq 7, 3) := by decide +kernel
theorem dX11_alike_20 : decode cX11_alike 20 = .ok (.iconst 1, 1) := by decide +kernel
theorem dX11_alike_21 : decode cX11_alike 21 = .ok (.goto 4, 3) := by decide +kernel
theorem dX11_alike_24 : decode cX11_alike 24 = .ok (.iconst 0, 1) := by decide +kernel
theorem dX11_alike_25 : decode cX11_alike 25 = .ok (.invokestatic 237, 3) := by decide +kernel
theorem dX11_alike_28 : decode cX11_alike 28 = .ok (.iconst 1, 1) := by decide +kernel
theorem dX11_alike_29 : decode cX11_alike 29 = .ok (.iload_n 1, 1) := by decide +kernel
theorem dX11_alike_30 : decode cX11_alike 30 = .ok (.iconst 1, 1) := by decide +kernel
theorem dX11_alike_31 : decode cX11_alike 31 = .ok (.iadd, 1) := by decide +kernel
theorem dX11_alike_32 : decode cX11_alike 32 = .ok (.iload_n 2, 1) := by decide +kernel
theorem dX11_alike_33 : decode cX11_alike 33 = .ok (.iconst 1, 1) := by decide +kernel
theorem dX11_alike_34 : decode cX11_alike 34 = .ok (.iadd, 1) := by decide +kernel
theorem dX11_alike_35 : decode cX11_alike 35 = .ok (.idiv, 1) := by decide +kernel
theorem dX11_alike_36 : decode cX11_alike 36 = .ok (.invokestatic 347, 3) := by decide +kernel
theorem dX11_alike_39 : decode cX11_alike 39 = .ok (.ireturn, 1) := by decide +kernel
set_option maxHeartbeats 4000000 in
set_option maxRecDepth 100000 in
/-- fault -/
theorem c_LM_fault (l : Launch) (hl0 : l.stackTraces = false) (D : va_G) (cy : Nat → ClassId) (sa : Nat → Nat) (u : Nat → Nat) (sz : Nat) : Met l yX11_fault (Cond.code yX11_fault cX11_fault 1 (some .int) :: kWS) ({ frames := 13, cells := 0, slots := 0, locals := 480 }) (kPre D cy sa [.ref (u 0)] [((u 0), .inr (12, [.ref (u 1), .int 0, .int (-1), .ref (u 2), .ref (u 3), .ref (u 4), .ref (u 5), .ref (u 6), .ref (u 7), .ref (u 8), .int 0, .ref (u 9), .ref (u 10), .ref (u 11), .ref (u 12), .ref (u 13), .ref (u 14)]))] sz) (va_Qi (fun (r : Int32) (_ : Unit) => r = -1) (kB D (va_A [((u 0), .inr (12, [.ref (u 1), .int 0, .int (-1), .ref (u 2), .ref (u 3), .ref (u 4), .ref (u 5), .ref (u 6), .ref (u 7), .ref (u 8), .int 0, .ref (u 9), .ref (u 10), .ref (u 11), .ref (u 12), .ref (u 13), .ref (u 14)]))] sz) (fun _ => [])) (va_A [((u 0), .inr (12, [.ref (u 1), .int 0, .int (-1), .ref (u 2), .ref (u 3), .ref (u 4), .ref (u 5), .ref (u 6), .ref (u 7), .ref (u 8), .int 0, .ref (u 9), .ref (u 10), .ref (u 11), .ref (u 12), .ref (u 13), .ref (u 14)]))] sz)) 0 0 (va_A [((u 0), .inr (12, [.ref (u 1), .int 0, .int (-1), .ref (u 2), .ref (u 3), .ref (u 4), .ref (u 5), .ref (u 6), .ref (u 7), .ref (u 8), .int 0, .ref (u 9), .ref (u 10), .ref (u 11), .ref (u 12), .ref (u 13), .ref (u 14)]))] sz) := by
  refine k_ofW (Qc := fun A => va_Qi (fun (r : Int32) (_ : Unit) => r = -1) (kB D A (fun _ => [])) A) (by decide) (Nat.le_of_ble_eq_true rfl) ?_
  intro p e s m below meth c ls A E hA hP hD hG hS hl
  obtain ⟨hx, hb, hml, hown, hts, hr, hlk, hnm⟩ := id E
  have hown : s.vm.findClass RX11 = some m.cls := hown
  have hl : lv_has ls 1 [(0, .ref (u 0))] := hl
  obtain ⟨H, hH⟩ : ∃ H, H = s.heap := ⟨_, rfl⟩
  have hP : va_P D vwCl [((u 0), .inr (12, [.ref (u 1), .int 0, .int (-1), .ref (u 2), .ref (u 3), .ref (u 4), .ref (u 5), .ref (u 6), .ref (u 7), .ref (u 8), .int 0, .ref (u 9), .ref (u 10), .ref (u 11), .ref (u 12), .ref (u 13), .ref (u 14)]))] H := by rw [hH]; exact hP
  have hS : va_S A s.heap H [] := by rw [hH]; exact va_S.rf
  rw [← hH]
  clear hH
  refine lv_aload_n hx hb dX11_fault_0 rfl (lv_at hl 0 rfl) ?_
  refine va_get (D := D) (ci := 12) (v := .int (-1)) (C := RX11) (T := TX11) (N := 17) hx hb hts kin_RX11 hown hG.1 hP 0 rfl rfl 2 (by decide) (hts _ wm_418) (fun _ h9 => h9) rfl dX11_fault_1 ?_
  exact k_iret () hx hb hr hlk (rfl) (hP.sub [] rfl) (hD.sub [] (by decide) rfl) hS (by decide) (by decide) dX11_fault_4

set_option maxHeartbeats 4000000 in
set_option maxRecDepth 100000 in
/-- mind -/
theorem c_LM_mind (l : Launch) (hl0 : l.stackTraces = false) (D : va_G) (cy : Nat → ClassId) (sa : Nat → Nat) (u : Nat → Nat) (sz : Nat) : Met l yX11_mind (Cond.code yX11_mind cX11_mind 1 (some .int) :: kWS) ({ frames := 13, cells := 0, slots := 0, locals := 480 }) (kPre D cy sa [.ref (u 0)] [((u 0), .inr (12, [.ref (u 1), .int 0, .int (-1), .ref (u 2), .ref (u 3), .ref (u 4), .ref (u 5), .ref (u 6), .ref (u 7), .ref (u 8), .int 0, .ref (u 9), .ref (u 10), .ref (u 11), .ref (u 12), .ref (u 13), .ref (u 14)])), ((u 3), .inr (4, [.ref (u 15), .ref (u 16), .ref (u 17), .ref (u 18), .ref (u 19), .ref (u 20), .ref (u 21), .ref (u 22), .ref (u 23), .ref (u 24), .ref (u 25), .ref (u 26), .int 0, .int 0, .int 0, .int 0, .int 0]))] sz) (va_Qi (fun (r : Int32) (_ : Unit) => r = -1) (kB D (va_A [((u 0), .inr (12, [.ref (u 1), .int 0, .int (-1), .ref (u 2), .ref (u 3), .ref (u 4), .ref (u 5), .ref (u 6), .ref (u 7), .ref (u 8), .int 0, .ref (u 9), .ref (u 10), .ref (u 11), .ref (u 12), .ref (u 13), .ref (u 14)])), ((u 3), .inr (4, [.ref (u 15), .ref (u 16), .ref (u 17), .ref (u 18), .ref (u 19), .ref (u 20), .ref (u 21), .ref (u 22), .ref (u 23), .ref (u 24), .ref (u 25), .ref (u 26), .int 0, .int 0, .int 0, .int 0, .int 0]))] sz) (fun _ => [])) (va_A [((u 0), .inr (12, [.ref (u 1), .int 0, .int (-1), .ref (u 2), .ref (u 3), .ref (u 4), .ref (u 5), .ref (u 6), .ref (u 7), .ref (u 8), .int 0, .ref (u 9), .ref (u 10), .ref (u 11), .ref (u 12), .ref (u 13), .ref (u 14)])), ((u 3), .inr (4, [.ref (u 15), .ref (u 16), .ref (u 17), .ref (u 18), .ref (u 19), .ref (u 20), .ref (u 21), .ref (u 22), .ref (u 23), .ref (u 24), .ref (u 25), .ref (u 26), .int 0, .int 0, .int 0, .int 0, .int 0]))] sz)) 0 0 (va_A [((u 0), .inr (12, [.ref (u 1), .int 0, .int (-1), .ref (u 2), .ref (u 3), .ref (u 4), .ref (u 5), .ref (u 6), .ref (u 7), .ref (u 8), .int 0, .ref (u 9), .ref (u 10), .ref (u 11), .ref (u 12), .ref (u 13), .ref (u 14)])), ((u 3), .inr (4, [.ref (u 15), .ref (u 16), .ref (u 17), .ref (u 18), .ref (u 19), .ref (u 20), .ref (u 21), .ref (u 22), .ref (u 23), .ref (u 24), .ref (u 25), .ref (u 26), .int 0, .int 0, .int 0, .int 0, .int 0]))] sz) := by
  refine k_ofW (Qc := fun A => va_Qi (fun (r : Int32) (_ : Unit) => r = -1) (kB D A (fun _ => [])) A) (by decide) (Nat.le_of_ble_eq_true rfl) ?_
  intro p e s m below meth c ls A E hA hP hD hG hS hl
  obtain ⟨hx, hb, hml, hown, hts, hr, hlk, hnm⟩ := id E
  have hown : s.vm.findClass RX11 = some m.cls := hown
  have hl : lv_has ls 1 [(0, .ref (u 0))] := hl
  obtain ⟨H, hH⟩ : ∃ H, H = s.heap := ⟨_, rfl⟩
  have hP : va_P D vwCl [((u 0), .inr (12, [.ref (u 1), .int 0, .int (-1), .ref (u 2), .ref (u 3), .ref (u 4), .ref (u 5), .ref (u 6), .ref (u 7), .ref (u 8), .int 0, .ref (u 9), .ref (u 10), .ref (u 11), .ref (u 12), .ref (u 13), .ref (u 14)])), ((u 3), .inr (4, [.ref (u 15), .ref (u 16), .ref (u 17), .ref (u 18), .ref (u 19), .ref (u 20), .ref (u 21), .ref (u 22), .ref (u 23), .ref (u 24), .ref (u 25), .ref (u 26), .int 0, .int 0, .int 0, .int 0, .int 0]))] H := by rw [hH]; exact hP
  have hS : va_S A s.heap H [] := by rw [hH]; exact va_S.rf
  rw [← hH]
  clear hH
  refine lv_aload_n hx hb dX11_mind_0 rfl (lv_at hl 0 rfl) ?_
  refine va_get (D := D) (ci := 12) (v := .ref (u 3)) (C := RX11) (T := TX11) (N := 17) hx hb hts kin_RX11 hown hG.1 hP 0 rfl rfl 4 (by decide) (hts _ wm_420) (fun _ h9 => h9) rfl dX11_mind_1 ?_
  refine va_get (D := D) (ci := 4) (v := .int 0) (C := RX2) (T := TX2) (N := 17) hx hb hts kin_RX2 hown hG.1 hP 1 rfl rfl 12 (by decide) (hts _ wm_122) (fun _ h9 => h9) rfl dX11_mind_4 ?_
  refine lv_if_ne (tgt := 14) hx hb dX11_mind_7 (by decide) (fun h => absurd (by decide) h) (fun _ => ?_)
  refine lv_iconst (v := (-1)) hx hb dX11_mind_10 (by decide) ?_
  refine lv_goto (tgt := 32) hx hb dX11_mind_11 (by decide) ?_
  exact k_iret () hx hb hr hlk (rfl) (hP.sub [] rfl) (hD.sub [] (by decide) rfl) hS (by decide) (by decide) dX11_mind_32

set_option maxHeartbeats 4000000 in
set_option maxRecDepth 100000 in
/-- told -/
theorem c_LM_told (l : Launch) (hl0 : l.stackTraces = false) (D : va_G) (cy : Nat → ClassId) (sa : Nat → Nat) (u : Nat → Nat) (p0 : Int32) (sz : Nat) : vx_Met l yX11_told (Cond.code yX11_told cX11_told 2 (some .int) :: kWS) ({ frames := 13, cells := 1, slots := 6, locals := 480 }) (kPre D cy sa [.ref (u 0), .int p0] [((u 0), .inr (12, [.ref (u 1), .int 0, .int (-1), .ref (u 2), .ref (u 3), .ref (u 4), .ref (u 5), .ref (u 6), .ref (u 7), .ref (u 8), .int 0, .ref (u 9), .ref (u 10), .ref (u 11), .ref (u 12), .ref (u 13), .ref (u 14)])), ((u 3), .inr (4, [.ref (u 15), .ref (u 16), .ref (u 17), .ref (u 18), .ref (u 19), .ref (u 20), .ref (u 21), .ref (u 22), .ref (u 23), .ref (u 24), .ref (u 25), .ref (u 26), .int 0, .int 0, .int 0, .int 0, .int 0]))] sz) (va_Qi (fun (r : Int32) (_ : Unit) => r = 0 ∧ 0 ≤ p0 ∧ p0 ≤ 4) (kB D (va_A [((u 0), .inr (12, [.ref (u 1), .int 0, .int (-1), .ref (u 2), .ref (u 3), .ref (u 4), .ref (u 5), .ref (u 6), .ref (u 7), .ref (u 8), .int 0, .ref (u 9), .ref (u 10), .ref (u 11), .ref (u 12), .ref (u 13), .ref (u 14)])), ((u 3), .inr (4, [.ref (u 15), .ref (u 16), .ref (u 17), .ref (u 18), .ref (u 19), .ref (u 20), .ref (u 21), .ref (u 22), .ref (u 23), .ref (u 24), .ref (u 25), .ref (u 26), .int 0, .int 0, .int 0, .int 0, .int 0]))] sz) (fun _ => [])) (va_A [((u 0), .inr (12, [.ref (u 1), .int 0, .int (-1), .ref (u 2), .ref (u 3), .ref (u 4), .ref (u 5), .ref (u 6), .ref (u 7), .ref (u 8), .int 0, .ref (u 9), .ref (u 10), .ref (u 11), .ref (u 12), .ref (u 13), .ref (u 14)])), ((u 3), .inr (4, [.ref (u 15), .ref (u 16), .ref (u 17), .ref (u 18), .ref (u 19), .ref (u 20), .ref (u 21), .ref (u 22), .ref (u 23), .ref (u 24), .ref (u 25), .ref (u 26), .int 0, .int 0, .int 0, .int 0, .int 0]))] sz)) (vx_X (fun (_ : Unit) => ¬ (0 ≤ p0 ∧ p0 ≤ 4)) (kBX D (va_A [((u 0), .inr (12, [.ref (u 1), .int 0, .int (-1), .ref (u 2), .ref (u 3), .ref (u 4), .ref (u 5), .ref (u 6), .ref (u 7), .ref (u 8), .int 0, .ref (u 9), .ref (u 10), .ref (u 11), .ref (u 12), .ref (u 13), .ref (u 14)])), ((u 3), .inr (4, [.ref (u 15), .ref (u 16), .ref (u 17), .ref (u 18), .ref (u 19), .ref (u 20), .ref (u 21), .ref (u 22), .ref (u 23), .ref (u 24), .ref (u 25), .ref (u 26), .int 0, .int 0, .int 0, .int 0, .int 0]))] sz) (fun _ => []) (fun _ => "java/lang/IllegalArgumentException")) (va_A [((u 0), .inr (12, [.ref (u 1), .int 0, .int (-1), .ref (u 2), .ref (u 3), .ref (u 4), .ref (u 5), .ref (u 6), .ref (u 7), .ref (u 8), .int 0, .ref (u 9), .ref (u 10), .ref (u 11), .ref (u 12), .ref (u 13), .ref (u 14)])), ((u 3), .inr (4, [.ref (u 15), .ref (u 16), .ref (u 17), .ref (u 18), .ref (u 19), .ref (u 20), .ref (u 21), .ref (u 22), .ref (u 23), .ref (u 24), .ref (u 25), .ref (u 26), .int 0, .int 0, .int 0, .int 0, .int 0]))] sz)) 1 6 (va_A [((u 0), .inr (12, [.ref (u 1), .int 0, .int (-1), .ref (u 2), .ref (u 3), .ref (u 4), .ref (u 5), .ref (u 6), .ref (u 7), .ref (u 8), .int 0, .ref (u 9), .ref (u 10), .ref (u 11), .ref (u 12), .ref (u 13), .ref (u 14)])), ((u 3), .inr (4, [.ref (u 15), .ref (u 16), .ref (u 17), .ref (u 18), .ref (u 19), .ref (u 20), .ref (u 21), .ref (u 22), .ref (u 23), .ref (u 24), .ref (u 25), .ref (u 26), .int 0, .int 0, .int 0, .int 0, .int 0]))] sz) := by
  refine k_ofX (Qc := fun A => va_Qi (fun (r : Int32) (_ : Unit) => r = 0 ∧ 0 ≤ p0 ∧ p0 ≤ 4) (kB D A (fun _ => [])) A) (XC := fun A => vx_X (fun (_ : Unit) => ¬ (0 ≤ p0 ∧ p0 ≤ 4)) (kBX D A (fun _ => []) (fun _ => "java/lang/IllegalArgumentException")) A) (by decide) (Nat.le_of_ble_eq_true rfl) ?_
  intro p e s m below meth c ls A E hxt hA hP hD hG hS hl
  obtain ⟨hx, hb, hml, hown, hts, hr, hlk, hnm⟩ := id E
  have hown : s.vm.findClass RX11 = some m.cls := hown
  have hl : lv_has ls 2 [(0, .ref (u 0)), (1, .int p0)] := hl
  obtain ⟨H, hH⟩ : ∃ H, H = s.heap := ⟨_, rfl⟩
  have hP : va_P D vwCl [((u 0), .inr (12, [.ref (u 1), .int 0, .int (-1), .ref (u 2), .ref (u 3), .ref (u 4), .ref (u 5), .ref (u 6), .ref (u 7), .ref (u 8), .int 0, .ref (u 9), .ref (u 10), .ref (u 11), .ref (u 12), .ref (u 13), .ref (u 14)])), ((u 3), .inr (4, [.ref (u 15), .ref (u 16), .ref (u 17), .ref (u 18), .ref (u 19), .ref (u 20), .ref (u 21), .ref (u 22), .ref (u 23), .ref (u 24), .ref (u 25), .ref (u 26), .int 0, .int 0, .int 0, .int 0, .int 0]))] H := by rw [hH]; exact hP
  have hS : va_S A s.heap H [] := by rw [hH]; exact va_S.rf
  rw [← hH]
  clear hH
  refine lv_iload_n hx hb dX11_told_0 rfl (lv_at hl 1 rfl) ?_
  by_cases c1 : p0 = 0
  · subst c1
    refine lv_tableIn (off := 35) (tgt := 36) hx hb dX11_told_1 (by decide) (by decide) (by decide) (by decide) ?_
    refine lv_aload_n hx hb dX11_told_36 rfl (lv_at hl 0 rfl) ?_
    refine va_get (D := D) (ci := 12) (v := .ref (u 3)) (C := RX11) (T := TX11) (N := 17) hx hb hts kin_RX11 hown hG.1 hP 0 rfl rfl 4 (by decide) (hts _ wm_420) (fun _ h9 => h9) rfl dX11_told_37 ?_
    refine va_get (D := D) (ci := 4) (v := .int 0) (C := RX2) (T := TX2) (N := 17) hx hb hts kin_RX2 hown hG.1 hP 1 rfl rfl 12 (by decide) (hts _ wm_122) (fun _ h9 => h9) rfl dX11_told_40 ?_
    exact vx_ret (k_iret () hx hb hr hlk (by decide) (hP.sub [] rfl) (hD.sub [] (by decide) rfl) hS (by decide) (by decide) dX11_told_43)
  by_cases c2 : p0 = 1
  · subst c2
    refine lv_tableIn (off := 43) (tgt := 44) hx hb dX11_told_1 (by decide) (by decide) (by decide) (by decide) ?_
    refine lv_aload_n hx hb dX11_told_44 rfl (lv_at hl 0 rfl) ?_
    refine va_get (D := D) (ci := 12) (v := .ref (u 3)) (C := RX11) (T := TX11) (N := 17) hx hb hts kin_RX11 hown hG.1 hP 0 rfl rfl 4 (by decide) (hts _ wm_420) (fun _ h9 => h9) rfl dX11_told_45 ?_
    refine va_get (D := D) (ci := 4) (v := .int 0) (C := RX2) (T := TX2) (N := 17) hx hb hts kin_RX2 hown hG.1 hP 1 rfl rfl 14 (by decide) (hts _ wm_127) (fun _ h9 => h9) rfl dX11_told_48 ?_
    exact vx_ret (k_iret () hx hb hr hlk (by decide) (hP.sub [] rfl) (hD.sub [] (by decide) rfl) hS (by decide) (by decide) dX11_told_51)
  by_cases c3 : p0 = 2
  · subst c3
    refine lv_tableIn (off := 51) (tgt := 52) hx hb dX11_told_1 (by decide) (by decide) (by decide) (by decide) ?_
    refine lv_aload_n hx hb dX11_told_52 rfl (lv_at hl 0 rfl) ?_
    refine va_get (D := D) (ci := 12) (v := .ref (u 3)) (C := RX11) (T := TX11) (N := 17) hx hb hts kin_RX11 hown hG.1 hP 0 rfl rfl 4 (by decide) (hts _ wm_420) (fun _ h9 => h9) rfl dX11_told_53 ?_
    refine va_get (D := D) (ci := 4) (v := .int 0) (C := RX2) (T := TX2) (N := 17) hx hb hts kin_RX2 hown hG.1 hP 1 rfl rfl 15 (by decide) (hts _ wm_130) (fun _ h9 => h9) rfl dX11_told_56 ?_
    exact vx_ret (k_iret () hx hb hr hlk (by decide) (hP.sub [] rfl) (hD.sub [] (by decide) rfl) hS (by decide) (by decide) dX11_told_59)
  by_cases c4 : p0 = 3
  · subst c4
    refine lv_tableIn (off := 59) (tgt := 60) hx hb dX11_told_1 (by decide) (by decide) (by decide) (by decide) ?_
    refine lv_aload_n hx hb dX11_told_60 rfl (lv_at hl 0 rfl) ?_
    refine va_get (D := D) (ci := 12) (v := .ref (u 3)) (C := RX11) (T := TX11) (N := 17) hx hb hts kin_RX11 hown hG.1 hP 0 rfl rfl 4 (by decide) (hts _ wm_420) (fun _ h9 => h9) rfl dX11_told_61 ?_
    refine va_get (D := D) (ci := 4) (v := .int 0) (C := RX2) (T := TX2) (N := 17) hx hb hts kin_RX2 hown hG.1 hP 1 rfl rfl 16 (by decide) (hts _ wm_136) (fun _ h9 => h9) rfl dX11_told_64 ?_
    exact vx_ret (k_iret () hx hb hr hlk (by decide) (hP.sub [] rfl) (hD.sub [] (by decide) rfl) hS (by decide) (by decide) dX11_told_67)
  by_cases c5 : p0 = 4
  · subst c5
    refine lv_tableIn (off := 67) (tgt := 68) hx hb dX11_told_1 (by decide) (by decide) (by decide) (by decide) ?_
    refine lv_aload_n hx hb dX11_told_68 rfl (lv_at hl 0 rfl) ?_
    refine va_get (D := D) (ci := 12) (v := .ref (u 3)) (C := RX11) (T := TX11) (N := 17) hx hb hts kin_RX11 hown hG.1 hP 0 rfl rfl 4 (by decide) (hts _ wm_420) (fun _ h9 => h9) rfl dX11_told_69 ?_
    refine va_get (D := D) (ci := 4) (v := .int 0) (C := RX2) (T := TX2) (N := 17) hx hb hts kin_RX2 hown hG.1 hP 1 rfl rfl 13 (by decide) (hts _ wm_125) (fun _ h9 => h9) rfl dX11_told_72 ?_
    exact vx_ret (k_iret () hx hb hr hlk (by decide) (hP.sub [] rfl) (hD.sub [] (by decide) rfl) hS (by decide) (by decide) dX11_told_75)
  refine lv_tableOut (tgt := 76) hx hb dX11_told_1 (by have hc1 := lv_neT c1 (a := 0) (by decide); have hc2 := lv_neT c2 (a := 1) (by decide); have hc3 := lv_neT c3 (a := 2) (by decide); have hc4 := lv_neT c4 (a := 3) (by decide); have hc5 := lv_neT c5 (a := 4) (by decide); omega) (by decide) ?_
  exact k_throwS () hl0 E rfl hxt th_110_114_143 hl.1 (hP.sub [] rfl) (hD.sub [] (by decide) rfl) hG hS (by (simp only [k_lt, k_le, k_eq, k_L0, k_L1, k_L2, k_L3, k_L4, k_L5, k_L6, k_L7, k_L8, k_L9, k_L10, k_L15, k_L20, k_L30, k_L31, k_L40, k_L41, k_L60, k_L61, k_L99, k_L120, k_L239, k_L240, k_L479, k_L480, k_L500, k_L720, k_L999, k_L1000, k_L9999, k_Lm1] at c1 c2 c3 c4 c5 ⊢; omega)) (rfl) dX11_told_76 dX11_told_79 dX11_told_80 dX11_told_82 dX11_told_85 (Nat.le_of_ble_eq_true rfl) (Nat.le_of_ble_eq_true rfl) (Nat.le_of_ble_eq_true rfl) (Nat.le_of_ble_eq_true rfl) (by decide) (by decide)

set_option maxHeartbeats 4000000 in
set_option maxRecDepth 100000 in
/-- day -/
theorem c_LM_day (l : Launch) (hl0 : l.stackTraces = false) (D : va_G) (cy : Nat → ClassId) (sa : Nat → Nat) (u : Nat → Nat) (p0 : Int32) (sz : Nat) : vx_Met l yX11_day (Cond.code yX11_day cX11_day 2 (some .int) :: kWS) ({ frames := 13, cells := 1, slots := 6, locals := 480 }) (kPre D cy sa [.ref (u 0), .int p0] [((u 0), .inr (12, [.ref (u 1), .int 0, .int (-1), .ref (u 2), .ref (u 3), .ref (u 4), .ref (u 5), .ref (u 6), .ref (u 7), .ref (u 8), .int 0, .ref (u 9), .ref (u 10), .ref (u 11), .ref (u 12), .ref (u 13), .ref (u 14)])), ((u 5), .inr (7, [.ref (u 39), .ref (u 40), .int 0, .int 0, .int 0, .int 0, .int 0, .int 0, .int 0, .int 0]))] sz) (va_Qi (fun (r : Int32) (_ : Unit) => r = 0 ∧ 0 ≤ p0 ∧ p0 ≤ 3) (kB D (va_A [((u 0), .inr (12, [.ref (u 1), .int 0, .int (-1), .ref (u 2), .ref (u 3), .ref (u 4), .ref (u 5), .ref (u 6), .ref (u 7), .ref (u 8), .int 0, .ref (u 9), .ref (u 10), .ref (u 11), .ref (u 12), .ref (u 13), .ref (u 14)])), ((u 5), .inr (7, [.ref (u 39), .ref (u 40), .int 0, .int 0, .int 0, .int 0, .int 0, .int 0, .int 0, .int 0]))] sz) (fun _ => [])) (va_A [((u 0), .inr (12, [.ref (u 1), .int 0, .int (-1), .ref (u 2), .ref (u 3), .ref (u 4), .ref (u 5), .ref (u 6), .ref (u 7), .ref (u 8), .int 0, .ref (u 9), .ref (u 10), .ref (u 11), .ref (u 12), .ref (u 13), .ref (u 14)])), ((u 5), .inr (7, [.ref (u 39), .ref (u 40), .int 0, .int 0, .int 0, .int 0, .int 0, .int 0, .int 0, .int 0]))] sz)) (vx_X (fun (_ : Unit) => ¬ (0 ≤ p0 ∧ p0 ≤ 3)) (kBX D (va_A [((u 0), .inr (12, [.ref (u 1), .int 0, .int (-1), .ref (u 2), .ref (u 3), .ref (u 4), .ref (u 5), .ref (u 6), .ref (u 7), .ref (u 8), .int 0, .ref (u 9), .ref (u 10), .ref (u 11), .ref (u 12), .ref (u 13), .ref (u 14)])), ((u 5), .inr (7, [.ref (u 39), .ref (u 40), .int 0, .int 0, .int 0, .int 0, .int 0, .int 0, .int 0, .int 0]))] sz) (fun _ => []) (fun _ => "java/lang/IllegalArgumentException")) (va_A [((u 0), .inr (12, [.ref (u 1), .int 0, .int (-1), .ref (u 2), .ref (u 3), .ref (u 4), .ref (u 5), .ref (u 6), .ref (u 7), .ref (u 8), .int 0, .ref (u 9), .ref (u 10), .ref (u 11), .ref (u 12), .ref (u 13), .ref (u 14)])), ((u 5), .inr (7, [.ref (u 39), .ref (u 40), .int 0, .int 0, .int 0, .int 0, .int 0, .int 0, .int 0, .int 0]))] sz)) 1 6 (va_A [((u 0), .inr (12, [.ref (u 1), .int 0, .int (-1), .ref (u 2), .ref (u 3), .ref (u 4), .ref (u 5), .ref (u 6), .ref (u 7), .ref (u 8), .int 0, .ref (u 9), .ref (u 10), .ref (u 11), .ref (u 12), .ref (u 13), .ref (u 14)])), ((u 5), .inr (7, [.ref (u 39), .ref (u 40), .int 0, .int 0, .int 0, .int 0, .int 0, .int 0, .int 0, .int 0]))] sz) := by
  refine k_ofX (Qc := fun A => va_Qi (fun (r : Int32) (_ : Unit) => r = 0 ∧ 0 ≤ p0 ∧ p0 ≤ 3) (kB D A (fun _ => [])) A) (XC := fun A => vx_X (fun (_ : Unit) => ¬ (0 ≤ p0 ∧ p0 ≤ 3)) (kBX D A (fun _ => []) (fun _ => "java/lang/IllegalArgumentException")) A) (by decide) (Nat.le_of_ble_eq_true rfl) ?_
  intro p e s m below meth c ls A E hxt hA hP hD hG hS hl
  obtain ⟨hx, hb, hml, hown, hts, hr, hlk, hnm⟩ := id E
  have hown : s.vm.findClass RX11 = some m.cls := hown
  have hl : lv_has ls 2 [(0, .ref (u 0)), (1, .int p0)] := hl
  obtain ⟨H, hH⟩ : ∃ H, H = s.heap := ⟨_, rfl⟩
  have hP : va_P D vwCl [((u 0), .inr (12, [.ref (u 1), .int 0, .int (-1), .ref (u 2), .ref (u 3), .ref (u 4), .ref (u 5), .ref (u 6), .ref (u 7), .ref (u 8), .int 0, .ref (u 9), .ref (u 10), .ref (u 11), .ref (u 12), .ref (u 13), .ref (u 14)])), ((u 5), .inr (7, [.ref (u 39), .ref (u 40), .int 0, .int 0, .int 0, .int 0, .int 0, .int 0, .int 0, .int 0]))] H := by rw [hH]; exact hP
  have hS : va_S A s.heap H [] := by rw [hH]; exact va_S.rf
  rw [← hH]
  clear hH
  refine lv_iload_n hx hb dX11_day_0 rfl (lv_at hl 1 rfl) ?_
  by_cases c1 : p0 = 0
  · subst c1
    refine lv_tableIn (off := 31) (tgt := 32) hx hb dX11_day_1 (by decide) (by decide) (by decide) (by decide) ?_
    refine lv_aload_n hx hb dX11_day_32 rfl (lv_at hl 0 rfl) ?_
    refine va_get (D := D) (ci := 12) (v := .ref (u 5)) (C := RX11) (T := TX11) (N := 17) hx hb hts kin_RX11 hown hG.1 hP 0 rfl rfl 6 (by decide) (hts _ wm_422) (fun _ h9 => h9) rfl dX11_day_33 ?_
    refine va_get (D := D) (ci := 7) (v := .int 0) (C := RX5) (T := TX5) (N := 10) hx hb hts kin_RX5 hown hG.1 hP 1 rfl rfl 7 (by decide) (hts _ wm_204) (fun _ h9 => h9) rfl dX11_day_36 ?_
    exact vx_ret (k_iret () hx hb hr hlk (by decide) (hP.sub [] rfl) (hD.sub [] (by decide) rfl) hS (by decide) (by decide) dX11_day_39)
  by_cases c2 : p0 = 1
  · subst c2
    refine lv_tableIn (off := 39) (tgt := 40) hx hb dX11_day_1 (by decide) (by decide) (by decide) (by decide) ?_
    refine lv_aload_n hx hb dX11_day_40 rfl (lv_at hl 0 rfl) ?_
    refine va_get (D := D) (ci := 12) (v := .ref (u 5)) (C := RX11) (T := TX11) (N := 17) hx hb hts kin_RX11 hown hG.1 hP 0 rfl rfl 6 (by decide) (hts _ wm_422) (fun _ h9 => h9) rfl dX11_day_41 ?_
    refine va_get (D := D) (ci := 7) (v := .int 0) (C := RX5) (T := TX5) (N := 10) hx hb hts kin_RX5 hown hG.1 hP 1 rfl rfl 8 (by decide) (hts _ wm_206) (fun _ h9 => h9) rfl dX11_day_44 ?_
    exact vx_ret (k_iret () hx hb hr hlk (by decide) (hP.sub [] rfl) (hD.sub [] (by decide) rfl) hS (by decide) (by decide) dX11_day_47)
  by_cases c3 : p0 = 2
  · subst c3
    refine lv_tableIn (off := 47) (tgt := 48) hx hb dX11_day_1 (by decide) (by decide) (by decide) (by decide) ?_
    refine lv_aload_n hx hb dX11_day_48 rfl (lv_at hl 0 rfl) ?_
    refine va_get (D := D) (ci := 12) (v := .ref (u 5)) (C := RX11) (T := TX11) (N := 17) hx hb hts kin_RX11 hown hG.1 hP 0 rfl rfl 6 (by decide) (hts _ wm_422) (fun _ h9 => h9) rfl dX11_day_49 ?_
    refine va_get (D := D) (ci := 7) (v := .int 0) (C := RX5) (T := TX5) (N := 10) hx hb hts kin_RX5 hown hG.1 hP 1 rfl rfl 5 (by decide) (hts _ wm_200) (fun _ h9 => h9) rfl dX11_day_52 ?_
    refine k_cali [0, 1] (⟨hP, hD, hG, hS, hA, rfl, rfl⟩ : kAt D cy sa A s H _ _ [] []) (wr := [((u 0), .inr (12, [.ref (u 1), .int 0, .int (-1), .ref (u 2), .ref (u 3), .ref (u 4), .ref (u 5), .ref (u 6), .ref (u 7), .ref (u 8), .int 0, .ref (u 9), .ref (u 10), .ref (u 11), .ref (u 12), .ref (u 13), .ref (u 14)])), ((u 5), .inr (7, [.ref (u 39), .ref (u 40), .int 0, .int 0, .int 0, .int 0, .int 0, .int 0, .int 0, .int 0]))]) rfl rfl (by decide) (k_runS (As := [.int 0]) (rest := []) E lk_SRX11_260 (c_bitCount0 l hl0 D cy sa  H.size) (⟨hP, hD, hG, hS, hA, rfl, rfl⟩ : kAt D cy sa A s H _ _ [] []) hl.1 rfl rfl ⟨rfl, rfl, ⟨Nat.le_of_ble_eq_true rfl, Nat.le_of_ble_eq_true rfl⟩, ⟨Nat.le_of_ble_eq_true rfl, Nat.le_of_ble_eq_true rfl⟩, Nat.le_of_ble_eq_true rfl⟩ dX11_day_55) (fun r4 u5 H locs hwu5 hP hD hS => ?_)
    have hP : va_P D vwCl [((u 0), .inr (12, [.ref (u 1), .int 0, .int (-1), .ref (u 2), .ref (u 3), .ref (u 4), .ref (u 5), .ref (u 6), .ref (u 7), .ref (u 8), .int 0, .ref (u 9), .ref (u 10), .ref (u 11), .ref (u 12), .ref (u 13), .ref (u 14)])), ((u 5), .inr (7, [.ref (u 39), .ref (u 40), .int 0, .int 0, .int 0, .int 0, .int 0, .int 0, .int 0, .int 0]))] H := hP
    have hD : va_D A [((u 0), .inr (12, [.ref (u 1), .int 0, .int (-1), .ref (u 2), .ref (u 3), .ref (u 4), .ref (u 5), .ref (u 6), .ref (u 7), .ref (u 8), .int 0, .ref (u 9), .ref (u 10), .ref (u 11), .ref (u 12), .ref (u 13), .ref (u 14)])), ((u 5), .inr (7, [.ref (u 39), .ref (u 40), .int 0, .int 0, .int 0, .int 0, .int 0, .int 0, .int 0, .int 0]))] := hD
    obtain rfl : r4 = 0 := hwu5
    exact vx_ret (k_iret () hx hb hr hlk (by decide) (hP.sub [] rfl) (hD.sub [] (by decide) rfl) hS (by decide) (by decide) dX11_day_58)
  by_cases c6 : p0 = 3
  · subst c6
    refine lv_tableIn (off := 58) (tgt := 59) hx hb dX11_day_1 (by decide) (by decide) (by decide) (by decide) ?_
    refine lv_aload_n hx hb dX11_day_59 rfl (lv_at hl 0 rfl) ?_
    refine va_get (D := D) (ci := 12) (v := .ref (u 5)) (C := RX11) (T := TX11) (N := 17) hx hb hts kin_RX11 hown hG.1 hP 0 rfl rfl 6 (by decide) (hts _ wm_422) (fun _ h9 => h9) rfl dX11_day_60 ?_
    refine va_get (D := D) (ci := 7) (v := .int 0) (C := RX5) (T := TX5) (N := 10) hx hb hts kin_RX5 hown hG.1 hP 1 rfl rfl 9 (by decide) (hts _ wm_208) (fun _ h9 => h9) rfl dX11_day_63 ?_
    exact vx_ret (k_iret () hx hb hr hlk (by decide) (hP.sub [] rfl) (hD.sub [] (by decide) rfl) hS (by decide) (by decide) dX11_day_66)
  refine lv_tableOut (tgt := 67) hx hb dX11_day_1 (by have hc1 := lv_neT c1 (a := 0) (by decide); have hc2 := lv_neT c2 (a := 1) (by decide); have hc3 := lv_neT c3 (a := 2) (by decide); have hc6 := lv_neT c6 (a := 3) (by decide); omega) (by decide) ?_
  exact k_throwSW () hl0 E rfl hxt th_110_114_269 hl.1 (hP.sub [] rfl) (hD.sub [] (by decide) rfl) hG hS (by (simp only [k_lt, k_le, k_eq, k_L0, k_L1, k_L2, k_L3, k_L4, k_L5, k_L6, k_L7, k_L8, k_L9, k_L10, k_L15, k_L20, k_L30, k_L31, k_L40, k_L41, k_L60, k_L61, k_L99, k_L120, k_L239, k_L240, k_L479, k_L480, k_L500, k_L720, k_L999, k_L1000, k_L9999, k_Lm1] at c1 c2 c3 c6 ⊢; omega)) (rfl) dX11_day_67 dX11_day_70 dX11_day_71 dX11_day_74 dX11_day_77 (Nat.le_of_ble_eq_true rfl) (Nat.le_of_ble_eq_true rfl) (Nat.le_of_ble_eq_true rfl) (Nat.le_of_ble_eq_true rfl) (by decide) (by decide)

set_option maxHeartbeats 4000000 in
set_option maxRecDepth 100000 in
/-- count -/
theorem c_LM_count (l : Launch) (hl0 : l.stackTraces = false) (D : va_G) (cy : Nat → ClassId) (sa : Nat → Nat) (u : Nat → Nat) (p0 : Int32) (sz : Nat) : Met l yX11_count (Cond.code yX11_count cX11_count 2 (some .int) :: kWS) ({ frames := 13, cells := 0, slots := 0, locals := 480 }) (kPre D cy sa [.ref (u 0), .int p0] [((u 0), .inr (12, [.ref (u 1), .int 0, .int (-1), .ref (u 2), .ref (u 3), .ref (u 4), .ref (u 5), .ref (u 6), .ref (u 7), .ref (u 8), .int 0, .ref (u 9), .ref (u 10), .ref (u 11), .ref (u 12), .ref (u 13), .ref (u 14)])), ((u 5), .inr (7, [.ref (u 39), .ref (u 40), .int 0, .int 0, .int 0, .int 0, .int 0, .int 0, .int 0, .int 0])), ((u 6), .inr (8, [.ref (u 41), .ref (u 42), .int 0, .ref (u 43), .ref (u 44), .int 0, .ref (u 45)]))] sz) (va_Qi (fun (r : Int32) (_ : Unit) => r = if 0 ≤ p0 ∧ p0 ≤ 5 then 0 else -1) (kB D (va_A [((u 0), .inr (12, [.ref (u 1), .int 0, .int (-1), .ref (u 2), .ref (u 3), .ref (u 4), .ref (u 5), .ref (u 6), .ref (u 7), .ref (u 8), .int 0, .ref (u 9), .ref (u 10), .ref (u 11), .ref (u 12), .ref (u 13), .ref (u 14)])), ((u 5), .inr (7, [.ref (u 39), .ref (u 40), .int 0, .int 0, .int 0, .int 0, .int 0, .int 0, .int 0, .int 0])), ((u 6), .inr (8, [.ref (u 41), .ref (u 42), .int 0, .ref (u 43), .ref (u 44), .int 0, .ref (u 45)]))] sz) (fun _ => [])) (va_A [((u 0), .inr (12, [.ref (u 1), .int 0, .int (-1), .ref (u 2), .ref (u 3), .ref (u 4), .ref (u 5), .ref (u 6), .ref (u 7), .ref (u 8), .int 0, .ref (u 9), .ref (u 10), .ref (u 11), .ref (u 12), .ref (u 13), .ref (u 14)])), ((u 5), .inr (7, [.ref (u 39), .ref (u 40), .int 0, .int 0, .int 0, .int 0, .int 0, .int 0, .int 0, .int 0])), ((u 6), .inr (8, [.ref (u 41), .ref (u 42), .int 0, .ref (u 43), .ref (u 44), .int 0, .ref (u 45)]))] sz)) 0 0 (va_A [((u 0), .inr (12, [.ref (u 1), .int 0, .int (-1), .ref (u 2), .ref (u 3), .ref (u 4), .ref (u 5), .ref (u 6), .ref (u 7), .ref (u 8), .int 0, .ref (u 9), .ref (u 10), .ref (u 11), .ref (u 12), .ref (u 13), .ref (u 14)])), ((u 5), .inr (7, [.ref (u 39), .ref (u 40), .int 0, .int 0, .int 0, .int 0, .int 0, .int 0, .int 0, .int 0])), ((u 6), .inr (8, [.ref (u 41), .ref (u 42), .int 0, .ref (u 43), .ref (u 44), .int 0, .ref (u 45)]))] sz) := by
  refine k_ofW (Qc := fun A => va_Qi (fun (r : Int32) (_ : Unit) => r = if 0 ≤ p0 ∧ p0 ≤ 5 then 0 else -1) (kB D A (fun _ => [])) A) (by decide) (Nat.le_of_ble_eq_true rfl) ?_
  intro p e s m below meth c ls A E hA hP hD hG hS hl
  obtain ⟨hx, hb, hml, hown, hts, hr, hlk, hnm⟩ := id E
  have hown : s.vm.findClass RX11 = some m.cls := hown
  have hl : lv_has ls 2 [(0, .ref (u 0)), (1, .int p0)] := hl
  obtain ⟨H, hH⟩ : ∃ H, H = s.heap := ⟨_, rfl⟩
  have hP : va_P D vwCl [((u 0), .inr (12, [.ref (u 1), .int 0, .int (-1), .ref (u 2), .ref (u 3), .ref (u 4), .ref (u 5), .ref (u 6), .ref (u 7), .ref (u 8), .int 0, .ref (u 9), .ref (u 10), .ref (u 11), .ref (u 12), .ref (u 13), .ref (u 14)])), ((u 5), .inr (7, [.ref (u 39), .ref (u 40), .int 0, .int 0, .int 0, .int 0, .int 0, .int 0, .int 0, .int 0])), ((u 6), .inr (8, [.ref (u 41), .ref (u 42), .int 0, .ref (u 43), .ref (u 44), .int 0, .ref (u 45)]))] H := by rw [hH]; exact hP
  have hS : va_S A s.heap H [] := by rw [hH]; exact va_S.rf
  rw [← hH]
  clear hH
  refine lv_iload_n hx hb dX11_count_0 rfl (lv_at hl 1 rfl) ?_
  by_cases c1 : p0 = 0
  · subst c1
    refine lv_tableIn (off := 39) (tgt := 40) hx hb dX11_count_1 (by decide) (by decide) (by decide) (by decide) ?_
    refine lv_aload_n hx hb dX11_count_40 rfl (lv_at hl 0 rfl) ?_
    refine va_get (D := D) (ci := 12) (v := .ref (u 5)) (C := RX11) (T := TX11) (N := 17) hx hb hts kin_RX11 hown hG.1 hP 0 rfl rfl 6 (by decide) (hts _ wm_422) (fun _ h9 => h9) rfl dX11_count_41 ?_
    refine va_get (D := D) (ci := 7) (v := .int 0) (C := RX5) (T := TX5) (N := 10) hx hb hts kin_RX5 hown hG.1 hP 1 rfl rfl 2 (by decide) (hts _ wm_188) (fun _ h9 => h9) rfl dX11_count_44 ?_
    exact k_iret () hx hb hr hlk (by first | decide | exact (if_neg (by (simp only [k_lt, k_le, k_eq, k_L0, k_L1, k_L2, k_L3, k_L4, k_L5, k_L6, k_L7, k_L8, k_L9, k_L10, k_L15, k_L20, k_L30, k_L31, k_L40, k_L41, k_L60, k_L61, k_L99, k_L120, k_L239, k_L240, k_L479, k_L480, k_L500, k_L720, k_L999, k_L1000, k_L9999, k_Lm1]; omega))).symm) (hP.sub [] rfl) (hD.sub [] (by decide) rfl) hS (by decide) (by decide) dX11_count_47
  by_cases c2 : p0 = 1
  · subst c2
    refine lv_tableIn (off := 47) (tgt := 48) hx hb dX11_count_1 (by decide) (by decide) (by decide) (by decide) ?_
    refine lv_aload_n hx hb dX11_count_48 rfl (lv_at hl 0 rfl) ?_
    refine va_get (D := D) (ci := 12) (v := .ref (u 6)) (C := RX11) (T := TX11) (N := 17) hx hb hts kin_RX11 hown hG.1 hP 0 rfl rfl 7 (by decide) (hts _ wm_423) (fun _ h9 => h9) rfl dX11_count_49 ?_
    refine va_get (D := D) (ci := 8) (v := .int 0) (C := RX6) (T := TX6) (N := 7) hx hb hts kin_RX6 hown hG.1 hP 2 rfl rfl 2 (by decide) (hts _ wm_242) (fun _ h9 => h9) rfl dX11_count_52 ?_
    exact k_iret () hx hb hr hlk (by first | decide | exact (if_neg (by (simp only [k_lt, k_le, k_eq, k_L0, k_L1, k_L2, k_L3, k_L4, k_L5, k_L6, k_L7, k_L8, k_L9, k_L10, k_L15, k_L20, k_L30, k_L31, k_L40, k_L41, k_L60, k_L61, k_L99, k_L120, k_L239, k_L240, k_L479, k_L480, k_L500, k_L720, k_L999, k_L1000, k_L9999, k_Lm1]; omega))).symm) (hP.sub [] rfl) (hD.sub [] (by decide) rfl) hS (by decide) (by decide) dX11_count_55
  by_cases c3 : p0 = 2
  · subst c3
    refine lv_tableIn (off := 55) (tgt := 56) hx hb dX11_count_1 (by decide) (by decide) (by decide) (by decide) ?_
    refine lv_aload_n hx hb dX11_count_56 rfl (lv_at hl 0 rfl) ?_
    refine va_get (D := D) (ci := 12) (v := .ref (u 6)) (C := RX11) (T := TX11) (N := 17) hx hb hts kin_RX11 hown hG.1 hP 0 rfl rfl 7 (by decide) (hts _ wm_423) (fun _ h9 => h9) rfl dX11_count_57 ?_
    refine va_get (D := D) (ci := 8) (v := .int 0) (C := RX6) (T := TX6) (N := 7) hx hb hts kin_RX6 hown hG.1 hP 2 rfl rfl 5 (by decide) (hts _ wm_246) (fun _ h9 => h9) rfl dX11_count_60 ?_
    exact k_iret () hx hb hr hlk (by first | decide | exact (if_neg (by (simp only [k_lt, k_le, k_eq, k_L0, k_L1, k_L2, k_L3, k_L4, k_L5, k_L6, k_L7, k_L8, k_L9, k_L10, k_L15, k_L20, k_L30, k_L31, k_L40, k_L41, k_L60, k_L61, k_L99, k_L120, k_L239, k_L240, k_L479, k_L480, k_L500, k_L720, k_L999, k_L1000, k_L9999, k_Lm1]; omega))).symm) (hP.sub [] rfl) (hD.sub [] (by decide) rfl) hS (by decide) (by decide) dX11_count_63
  by_cases c4 : p0 = 3
  · subst c4
    refine lv_tableIn (off := 63) (tgt := 64) hx hb dX11_count_1 (by decide) (by decide) (by decide) (by decide) ?_
    refine lv_aload_n hx hb dX11_count_64 rfl (lv_at hl 0 rfl) ?_
    refine va_get (D := D) (ci := 12) (v := .ref (u 5)) (C := RX11) (T := TX11) (N := 17) hx hb hts kin_RX11 hown hG.1 hP 0 rfl rfl 6 (by decide) (hts _ wm_422) (fun _ h9 => h9) rfl dX11_count_65 ?_
    refine va_get (D := D) (ci := 7) (v := .int 0) (C := RX5) (T := TX5) (N := 10) hx hb hts kin_RX5 hown hG.1 hP 1 rfl rfl 6 (by decide) (hts _ wm_202) (fun _ h9 => h9) rfl dX11_count_68 ?_
    refine k_cali [0, 1, 2] (⟨hP, hD, hG, hS, hA, rfl, rfl⟩ : kAt D cy sa A s H _ _ [] []) (wr := [((u 0), .inr (12, [.ref (u 1), .int 0, .int (-1), .ref (u 2), .ref (u 3), .ref (u 4), .ref (u 5), .ref (u 6), .ref (u 7), .ref (u 8), .int 0, .ref (u 9), .ref (u 10), .ref (u 11), .ref (u 12), .ref (u 13), .ref (u 14)])), ((u 5), .inr (7, [.ref (u 39), .ref (u 40), .int 0, .int 0, .int 0, .int 0, .int 0, .int 0, .int 0, .int 0])), ((u 6), .inr (8, [.ref (u 41), .ref (u 42), .int 0, .ref (u 43), .ref (u 44), .int 0, .ref (u 45)]))]) rfl rfl (by decide) (k_runS (As := [.int 0]) (rest := []) E lk_SRX11_260 (c_bitCount0 l hl0 D cy sa  H.size) (⟨hP, hD, hG, hS, hA, rfl, rfl⟩ : kAt D cy sa A s H _ _ [] []) hl.1 rfl rfl ⟨rfl, rfl, ⟨Nat.le_of_ble_eq_true rfl, Nat.le_of_ble_eq_true rfl⟩, ⟨Nat.le_of_ble_eq_true rfl, Nat.le_of_ble_eq_true rfl⟩, Nat.le_of_ble_eq_true rfl⟩ dX11_count_71) (fun r5 u6 H locs hwu6 hP hD hS => ?_)
    have hP : va_P D vwCl [((u 0), .inr (12, [.ref (u 1), .int 0, .int (-1), .ref (u 2), .ref (u 3), .ref (u 4), .ref (u 5), .ref (u 6), .ref (u 7), .ref (u 8), .int 0, .ref (u 9), .ref (u 10), .ref (u 11), .ref (u 12), .ref (u 13), .ref (u 14)])), ((u 5), .inr (7, [.ref (u 39), .ref (u 40), .int 0, .int 0, .int 0, .int 0, .int 0, .int 0, .int 0, .int 0])), ((u 6), .inr (8, [.ref (u 41), .ref (u 42), .int 0, .ref (u 43), .ref (u 44), .int 0, .ref (u 45)]))] H := hP
    have hD : va_D A [((u 0), .inr (12, [.ref (u 1), .int 0, .int (-1), .ref (u 2), .ref (u 3), .ref (u 4), .ref (u 5), .ref (u 6), .ref (u 7), .ref (u 8), .int 0, .ref (u 9), .ref (u 10), .ref (u 11), .ref (u 12), .ref (u 13), .ref (u 14)])), ((u 5), .inr (7, [.ref (u 39), .ref (u 40), .int 0, .int 0, .int 0, .int 0, .int 0, .int 0, .int 0, .int 0])), ((u 6), .inr (8, [.ref (u 41), .ref (u 42), .int 0, .ref (u 43), .ref (u 44), .int 0, .ref (u 45)]))] := hD
    obtain rfl : r5 = 0 := hwu6
    exact k_iret () hx hb hr hlk (by first | decide | exact (if_neg (by (simp only [k_lt, k_le, k_eq, k_L0, k_L1, k_L2, k_L3, k_L4, k_L5, k_L6, k_L7, k_L8, k_L9, k_L10, k_L15, k_L20, k_L30, k_L31, k_L40, k_L41, k_L60, k_L61, k_L99, k_L120, k_L239, k_L240, k_L479, k_L480, k_L500, k_L720, k_L999, k_L1000, k_L9999, k_Lm1]; omega))).symm) (hP.sub [] rfl) (hD.sub [] (by decide) rfl) hS (by decide) (by decide) dX11_count_74
  by_cases c7 : p0 = 4
  · subst c7
    refine lv_tableIn (off := 74) (tgt := 75) hx hb dX11_count_1 (by decide) (by decide) (by decide) (by decide) ?_
    refine lv_aload_n hx hb dX11_count_75 rfl (lv_at hl 0 rfl) ?_
    refine va_get (D := D) (ci := 12) (v := .int 0) (C := RX11) (T := TX11) (N := 17) hx hb hts kin_RX11 hown hG.1 hP 0 rfl rfl 10 (by decide) (hts _ wm_426) (fun _ h9 => h9) rfl dX11_count_76 ?_
    exact k_iret () hx hb hr hlk (by first | decide | exact (if_neg (by (simp only [k_lt, k_le, k_eq, k_L0, k_L1, k_L2, k_L3, k_L4, k_L5, k_L6, k_L7, k_L8, k_L9, k_L10, k_L15, k_L20, k_L30, k_L31, k_L40, k_L41, k_L60, k_L61, k_L99, k_L120, k_L239, k_L240, k_L479, k_L480, k_L500, k_L720, k_L999, k_L1000, k_L9999, k_Lm1]; omega))).symm) (hP.sub [] rfl) (hD.sub [] (by decide) rfl) hS (by decide) (by decide) dX11_count_79
  by_cases c8 : p0 = 5
  · subst c8
    refine lv_tableIn (off := 79) (tgt := 80) hx hb dX11_count_1 (by decide) (by decide) (by decide) (by decide) ?_
    refine lv_aload_n hx hb dX11_count_80 rfl (lv_at hl 0 rfl) ?_
    refine va_get (D := D) (ci := 12) (v := .int 0) (C := RX11) (T := TX11) (N := 17) hx hb hts kin_RX11 hown hG.1 hP 0 rfl rfl 1 (by decide) (hts _ wm_417) (fun _ h9 => h9) rfl dX11_count_81 ?_
    exact k_iret () hx hb hr hlk (by first | decide | exact (if_neg (by (simp only [k_lt, k_le, k_eq, k_L0, k_L1, k_L2, k_L3, k_L4, k_L5, k_L6, k_L7, k_L8, k_L9, k_L10, k_L15, k_L20, k_L30, k_L31, k_L40, k_L41, k_L60, k_L61, k_L99, k_L120, k_L239, k_L240, k_L479, k_L480, k_L500, k_L720, k_L999, k_L1000, k_L9999, k_Lm1]; omega))).symm) (hP.sub [] rfl) (hD.sub [] (by decide) rfl) hS (by decide) (by decide) dX11_count_84
  refine lv_tableOut (tgt := 85) hx hb dX11_count_1 (by have hc1 := lv_neT c1 (a := 0) (by decide); have hc2 := lv_neT c2 (a := 1) (by decide); have hc3 := lv_neT c3 (a := 2) (by decide); have hc4 := lv_neT c4 (a := 3) (by decide); have hc7 := lv_neT c7 (a := 4) (by decide); have hc8 := lv_neT c8 (a := 5) (by decide); omega) (by decide) ?_
  refine lv_iconst (v := (-1)) hx hb dX11_count_85 (by decide) ?_
  exact k_iret () hx hb hr hlk (by first | decide | exact (if_neg (by (simp only [k_lt, k_le, k_eq, k_L0, k_L1, k_L2, k_L3, k_L4, k_L5, k_L6, k_L7, k_L8, k_L9, k_L10, k_L15, k_L20, k_L30, k_L31, k_L40, k_L41, k_L60, k_L61, k_L99, k_L120, k_L239, k_L240, k_L479, k_L480, k_L500, k_L720, k_L999, k_L1000, k_L9999, k_Lm1] at c1 c2 c3 c4 c7 c8 ⊢; omega))).symm) (hP.sub [] rfl) (hD.sub [] (by decide) rfl) hS (by decide) (by decide) dX11_count_86

set_option maxHeartbeats 4000000 in
set_option maxRecDepth 100000 in
/-- clear -/
theorem c_LM_clear (l : Launch) (hl0 : l.stackTraces = false) (D : va_G) (cy : Nat → ClassId) (sa : Nat → Nat) (u : Nat → Nat) (sz : Nat) : Met l yX11_clear (Cond.code yX11_clear cX11_clear 2 (some .int) :: kWS) ({ frames := 13, cells := 0, slots := 0, locals := 480 }) (kPre D cy sa [.ref (u 0)] [((u 0), .inr (12, [.ref (u 1), .int 0, .int (-1), .ref (u 2), .ref (u 3), .ref (u 4), .ref (u 5), .ref (u 6), .ref (u 7), .ref (u 8), .int 0, .ref (u 9), .ref (u 10), .ref (u 11), .ref (u 12), .ref (u 13), .ref (u 14)])), ((u 6), .inr (8, [.ref (u 41), .ref (u 42), .int 0, .ref (u 43), .ref (u 44), .int 0, .ref (u 45)]))] sz) (va_Qi (fun (r : Int32) (_ : Unit) => r = 0) (kB D (va_A [((u 0), .inr (12, [.ref (u 1), .int 0, .int (-1), .ref (u 2), .ref (u 3), .ref (u 4), .ref (u 5), .ref (u 6), .ref (u 7), .ref (u 8), .int 0, .ref (u 9), .ref (u 10), .ref (u 11), .ref (u 12), .ref (u 13), .ref (u 14)])), ((u 6), .inr (8, [.ref (u 41), .ref (u 42), .int 0, .ref (u 43), .ref (u 44), .int 0, .ref (u 45)]))] sz) (fun _ => [])) (va_A [((u 0), .inr (12, [.ref (u 1), .int 0, .int (-1), .ref (u 2), .ref (u 3), .ref (u 4), .ref (u 5), .ref (u 6), .ref (u 7), .ref (u 8), .int 0, .ref (u 9), .ref (u 10), .ref (u 11), .ref (u 12), .ref (u 13), .ref (u 14)])), ((u 6), .inr (8, [.ref (u 41), .ref (u 42), .int 0, .ref (u 43), .ref (u 44), .int 0, .ref (u 45)]))] sz)) 0 0 (va_A [((u 0), .inr (12, [.ref (u 1), .int 0, .int (-1), .ref (u 2), .ref (u 3), .ref (u 4), .ref (u 5), .ref (u 6), .ref (u 7), .ref (u 8), .int 0, .ref (u 9), .ref (u 10), .ref (u 11), .ref (u 12), .ref (u 13), .ref (u 14)])), ((u 6), .inr (8, [.ref (u 41), .ref (u 42), .int 0, .ref (u 43), .ref (u 44), .int 0, .ref (u 45)]))] sz) := by
  refine k_ofW (Qc := fun A => va_Qi (fun (r : Int32) (_ : Unit) => r = 0) (kB D A (fun _ => [])) A) (by decide) (Nat.le_of_ble_eq_true rfl) ?_
  intro p e s m below meth c ls A E hA hP hD hG hS hl
  obtain ⟨hx, hb, hml, hown, hts, hr, hlk, hnm⟩ := id E
  have hown : s.vm.findClass RX11 = some m.cls := hown
  have hl : lv_has ls 2 [(0, .ref (u 0))] := hl
  obtain ⟨H, hH⟩ : ∃ H, H = s.heap := ⟨_, rfl⟩
  have hP : va_P D vwCl [((u 0), .inr (12, [.ref (u 1), .int 0, .int (-1), .ref (u 2), .ref (u 3), .ref (u 4), .ref (u 5), .ref (u 6), .ref (u 7), .ref (u 8), .int 0, .ref (u 9), .ref (u 10), .ref (u 11), .ref (u 12), .ref (u 13), .ref (u 14)])), ((u 6), .inr (8, [.ref (u 41), .ref (u 42), .int 0, .ref (u 43), .ref (u 44), .int 0, .ref (u 45)]))] H := by rw [hH]; exact hP
  have hS : va_S A s.heap H [] := by rw [hH]; exact va_S.rf
  rw [← hH]
  clear hH
  refine lv_aload_n hx hb dX11_clear_0 rfl (lv_at hl 0 rfl) ?_
  refine va_get (D := D) (ci := 12) (v := .ref (u 6)) (C := RX11) (T := TX11) (N := 17) hx hb hts kin_RX11 hown hG.1 hP 0 rfl rfl 7 (by decide) (hts _ wm_423) (fun _ h9 => h9) rfl dX11_clear_1 ?_
  refine va_get (D := D) (ci := 8) (v := .int 0) (C := RX6) (T := TX6) (N := 7) hx hb hts kin_RX6 hown hG.1 hP 1 rfl rfl 2 (by decide) (hts _ wm_242) (fun _ h9 => h9) rfl dX11_clear_4 ?_
  refine lv_istore_n (lv' := [(1, .int 0), (0, .ref (u 0))]) hx hb dX11_clear_7 rfl hl (by decide) rfl (fun ls hl => ?_)
  refine lv_aload_n hx hb dX11_clear_8 rfl (lv_at hl 1 rfl) ?_
  refine va_get (D := D) (ci := 12) (v := .ref (u 6)) (C := RX11) (T := TX11) (N := 17) hx hb hts kin_RX11 hown hG.1 hP 0 rfl rfl 7 (by decide) (hts _ wm_423) (fun _ h9 => h9) rfl dX11_clear_9 ?_
  refine lv_iconst (v := 0) hx hb dX11_clear_12 (by decide) ?_
  refine va_put (D := D) (ci := 8) (v := .int 0) (ty := .int) (C := RX6) (T := TX6) (N := 7) hx hb hts kin_RX6 tyX6 tyX6_ok nmX6 hown hG.1 hP hD hS 1 rfl rfl 2 (by decide) (hts _ wm_242) (fun _ h9 => h9) rfl (by decide +kernel) rfl rfl (Nat.le_of_ble_eq_true rfl) dX11_clear_13 (fun H locs hP hD hS => ?_)
  have hP : va_P D vwCl [((u 0), .inr (12, [.ref (u 1), .int 0, .int (-1), .ref (u 2), .ref (u 3), .ref (u 4), .ref (u 5), .ref (u 6), .ref (u 7), .ref (u 8), .int 0, .ref (u 9), .ref (u 10), .ref (u 11), .ref (u 12), .ref (u 13), .ref (u 14)])), ((u 6), .inr (8, [.ref (u 41), .ref (u 42), .int 0, .ref (u 43), .ref (u 44), .int 0, .ref (u 45)]))] H := hP
  have hD : va_D A [((u 0), .inr (12, [.ref (u 1), .int 0, .int (-1), .ref (u 2), .ref (u 3), .ref (u 4), .ref (u 5), .ref (u 6), .ref (u 7), .ref (u 8), .int 0, .ref (u 9), .ref (u 10), .ref (u 11), .ref (u 12), .ref (u 13), .ref (u 14)])), ((u 6), .inr (8, [.ref (u 41), .ref (u 42), .int 0, .ref (u 43), .ref (u 44), .int 0, .ref (u 45)]))] := hD
  refine lv_iload_n hx hb dX11_clear_16 rfl (lv_at hl 0 rfl) ?_
  exact k_iret () hx hb hr hlk (rfl) (hP.sub [] rfl) (hD.sub [] (by decide) rfl) hS (by decide) (by decide) dX11_clear_17

set_option maxHeartbeats 4000000 in
set_option maxRecDepth 100000 in
/-- restore -/
theorem c_LM_restore (l : Launch) (hl0 : l.stackTraces = false) (D : va_G) (cy : Nat → ClassId) (sa : Nat → Nat) (u : Nat → Nat) (sz : Nat) : Met l yX11_restore (Cond.code yX11_restore cX11_restore 1 (some .int) :: kWS) ({ frames := 13, cells := 0, slots := 0, locals := 480 }) (kPre D cy sa [.ref (u 0)] [((u 0), .inr (12, [.ref (u 1), .int 0, .int (-1), .ref (u 2), .ref (u 3), .ref (u 4), .ref (u 5), .ref (u 6), .ref (u 7), .ref (u 8), .int 0, .ref (u 9), .ref (u 10), .ref (u 11), .ref (u 12), .ref (u 13), .ref (u 14)]))] sz) (va_Qi (fun (r : Int32) (_ : Unit) => r = -1) (kB D (va_A [((u 0), .inr (12, [.ref (u 1), .int 0, .int (-1), .ref (u 2), .ref (u 3), .ref (u 4), .ref (u 5), .ref (u 6), .ref (u 7), .ref (u 8), .int 0, .ref (u 9), .ref (u 10), .ref (u 11), .ref (u 12), .ref (u 13), .ref (u 14)]))] sz) (fun _ => [])) (va_A [((u 0), .inr (12, [.ref (u 1), .int 0, .int (-1), .ref (u 2), .ref (u 3), .ref (u 4), .ref (u 5), .ref (u 6), .ref (u 7), .ref (u 8), .int 0, .ref (u 9), .ref (u 10), .ref (u 11), .ref (u 12), .ref (u 13), .ref (u 14)]))] sz)) 0 0 (va_A [((u 0), .inr (12, [.ref (u 1), .int 0, .int (-1), .ref (u 2), .ref (u 3), .ref (u 4), .ref (u 5), .ref (u 6), .ref (u 7), .ref (u 8), .int 0, .ref (u 9), .ref (u 10), .ref (u 11), .ref (u 12), .ref (u 13), .ref (u 14)]))] sz) := by
  refine k_ofW (Qc := fun A => va_Qi (fun (r : Int32) (_ : Unit) => r = -1) (kB D A (fun _ => [])) A) (by decide) (Nat.le_of_ble_eq_true rfl) ?_
  intro p e s m below meth c ls A E hA hP hD hG hS hl
  obtain ⟨hx, hb, hml, hown, hts, hr, hlk, hnm⟩ := id E
  have hown : s.vm.findClass RX11 = some m.cls := hown
  have hl : lv_has ls 1 [(0, .ref (u 0))] := hl
  obtain ⟨H, hH⟩ : ∃ H, H = s.heap := ⟨_, rfl⟩
  have hP : va_P D vwCl [((u 0), .inr (12, [.ref (u 1), .int 0, .int (-1), .ref (u 2), .ref (u 3), .ref (u 4), .ref (u 5), .ref (u 6), .ref (u 7), .ref (u 8), .int 0, .ref (u 9), .ref (u 10), .ref (u 11), .ref (u 12), .ref (u 13), .ref (u 14)]))] H := by rw [hH]; exact hP
  have hS : va_S A s.heap H [] := by rw [hH]; exact va_S.rf
  rw [← hH]
  clear hH
  refine lv_aload_n hx hb dX11_restore_0 rfl (lv_at hl 0 rfl) ?_
  refine va_get (D := D) (ci := 12) (v := .int 0) (C := RX11) (T := TX11) (N := 17) hx hb hts kin_RX11 hown hG.1 hP 0 rfl rfl 10 (by decide) (hts _ wm_426) (fun _ h9 => h9) rfl dX11_restore_1 ?_
  refine lv_if_le (tgt := 15) hx hb dX11_restore_4 (by decide) (fun _ => ?_) (fun h => absurd (by decide) h)
  refine lv_iconst (v := (-1)) hx hb dX11_restore_15 (by decide) ?_
  exact k_iret () hx hb hr hlk (rfl) (hP.sub [] rfl) (hD.sub [] (by decide) rfl) hS (by decide) (by decide) dX11_restore_16

set_option maxHeartbeats 4000000 in
set_option maxRecDepth 100000 in
/-- over -/
theorem c_LM_over (l : Launch) (hl0 : l.stackTraces = false) (D : va_G) (cy : Nat → ClassId) (sa : Nat → Nat) (u : Nat → Nat) (sz : Nat) : Met l yX11_over (Cond.code yX11_over cX11_over 6 (some .int) :: kWS) ({ frames := 13, cells := 0, slots := 0, locals := 480 }) (kPre D cy sa [.ref (u 0)] [((u 0), .inr (12, [.ref (u 1), .int 0, .int (-1), .ref (u 2), .ref (u 3), .ref (u 4), .ref (u 5), .ref (u 6), .ref (u 7), .ref (u 8), .int 0, .ref (u 9), .ref (u 10), .ref (u 11), .ref (u 12), .ref (u 13), .ref (u 14)])), ((u 3), .inr (4, [.ref (u 15), .ref (u 16), .ref (u 17), .ref (u 18), .ref (u 19), .ref (u 20), .ref (u 21), .ref (u 22), .ref (u 23), .ref (u 24), .ref (u 25), .ref (u 26), .int 0, .int 0, .int 0, .int 0, .int 0])), ((u 5), .inr (7, [.ref (u 39), .ref (u 40), .int 0, .int 0, .int 0, .int 0, .int 0, .int 0, .int 0, .int 0]))] sz) (va_Qi (fun (r : Int32) (_ : Unit) => r = 0) (kB D (va_A [((u 0), .inr (12, [.ref (u 1), .int 0, .int (-1), .ref (u 2), .ref (u 3), .ref (u 4), .ref (u 5), .ref (u 6), .ref (u 7), .ref (u 8), .int 0, .ref (u 9), .ref (u 10), .ref (u 11), .ref (u 12), .ref (u 13), .ref (u 14)])), ((u 3), .inr (4, [.ref (u 15), .ref (u 16), .ref (u 17), .ref (u 18), .ref (u 19), .ref (u 20), .ref (u 21), .ref (u 22), .ref (u 23), .ref (u 24), .ref (u 25), .ref (u 26), .int 0, .int 0, .int 0, .int 0, .int 0])), ((u 5), .inr (7, [.ref (u 39), .ref (u 40), .int 0, .int 0, .int 0, .int 0, .int 0, .int 0, .int 0, .int 0]))] sz) (fun _ => [])) (va_A [((u 0), .inr (12, [.ref (u 1), .int 0, .int (-1), .ref (u 2), .ref (u 3), .ref (u 4), .ref (u 5), .ref (u 6), .ref (u 7), .ref (u 8), .int 0, .ref (u 9), .ref (u 10), .ref (u 11), .ref (u 12), .ref (u 13), .ref (u 14)])), ((u 3), .inr (4, [.ref (u 15), .ref (u 16), .ref (u 17), .ref (u 18), .ref (u 19), .ref (u 20), .ref (u 21), .ref (u 22), .ref (u 23), .ref (u 24), .ref (u 25), .ref (u 26), .int 0, .int 0, .int 0, .int 0, .int 0])), ((u 5), .inr (7, [.ref (u 39), .ref (u 40), .int 0, .int 0, .int 0, .int 0, .int 0, .int 0, .int 0, .int 0]))] sz)) 0 0 (va_A [((u 0), .inr (12, [.ref (u 1), .int 0, .int (-1), .ref (u 2), .ref (u 3), .ref (u 4), .ref (u 5), .ref (u 6), .ref (u 7), .ref (u 8), .int 0, .ref (u 9), .ref (u 10), .ref (u 11), .ref (u 12), .ref (u 13), .ref (u 14)])), ((u 3), .inr (4, [.ref (u 15), .ref (u 16), .ref (u 17), .ref (u 18), .ref (u 19), .ref (u 20), .ref (u 21), .ref (u 22), .ref (u 23), .ref (u 24), .ref (u 25), .ref (u 26), .int 0, .int 0, .int 0, .int 0, .int 0])), ((u 5), .inr (7, [.ref (u 39), .ref (u 40), .int 0, .int 0, .int 0, .int 0, .int 0, .int 0, .int 0, .int 0]))] sz) := by
  refine k_ofW (Qc := fun A => va_Qi (fun (r : Int32) (_ : Unit) => r = 0) (kB D A (fun _ => [])) A) (by decide) (Nat.le_of_ble_eq_true rfl) ?_
  intro p e s m below meth c ls A E hA hP hD hG hS hl
  obtain ⟨hx, hb, hml, hown, hts, hr, hlk, hnm⟩ := id E
  have hown : s.vm.findClass RX11 = some m.cls := hown
  have hl : lv_has ls 6 [(0, .ref (u 0))] := hl
  obtain ⟨H, hH⟩ : ∃ H, H = s.heap := ⟨_, rfl⟩
  have hP : va_P D vwCl [((u 0), .inr (12, [.ref (u 1), .int 0, .int (-1), .ref (u 2), .ref (u 3), .ref (u 4), .ref (u 5), .ref (u 6), .ref (u 7), .ref (u 8), .int 0, .ref (u 9), .ref (u 10), .ref (u 11), .ref (u 12), .ref (u 13), .ref (u 14)])), ((u 3), .inr (4, [.ref (u 15), .ref (u 16), .ref (u 17), .ref (u 18), .ref (u 19), .ref (u 20), .ref (u 21), .ref (u 22), .ref (u 23), .ref (u 24), .ref (u 25), .ref (u 26), .int 0, .int 0, .int 0, .int 0, .int 0])), ((u 5), .inr (7, [.ref (u 39), .ref (u 40), .int 0, .int 0, .int 0, .int 0, .int 0, .int 0, .int 0, .int 0]))] H := by rw [hH]; exact hP
  have hS : va_S A s.heap H [] := by rw [hH]; exact va_S.rf
  rw [← hH]
  clear hH
  refine lv_iconst (v := 0) hx hb dX11_over_0 (by decide) ?_
  refine lv_istore_n (lv' := [(1, .int 0), (0, .ref (u 0))]) hx hb dX11_over_1 rfl hl (by decide) rfl (fun ls hl => ?_)
  refine lv_iconst (v := 0) hx hb dX11_over_2 (by decide) ?_
  refine lv_istore_n (lv' := [(2, .int 0), (1, .int 0), (0, .ref (u 0))]) hx hb dX11_over_3 rfl hl (by decide) rfl (fun ls hl => ?_)
  refine lv_iload_n hx hb dX11_over_4 rfl (lv_at hl 0 rfl) ?_
  refine lv_aload_n hx hb dX11_over_5 rfl (lv_at hl 2 rfl) ?_
  refine va_get (D := D) (ci := 12) (v := .ref (u 3)) (C := RX11) (T := TX11) (N := 17) hx hb hts kin_RX11 hown hG.1 hP 0 rfl rfl 4 (by decide) (hts _ wm_420) (fun _ h9 => h9) rfl dX11_over_6 ?_
  refine va_get (D := D) (ci := 4) (v := .int 0) (C := RX2) (T := TX2) (N := 17) hx hb hts kin_RX2 hown hG.1 hP 1 rfl rfl 12 (by decide) (hts _ wm_122) (fun _ h9 => h9) rfl dX11_over_9 ?_
  refine lv_icmp_ge (tgt := 74) hx hb dX11_over_12 (by decide) (fun _ => ?_) (fun h => absurd (by decide) h)
  refine lv_iconst (v := 0) hx hb dX11_over_74 (by decide) ?_
  refine lv_iload_n hx hb dX11_over_75 rfl (lv_at hl 1 rfl) ?_
  refine lv_aload_n hx hb dX11_over_76 rfl (lv_at hl 2 rfl) ?_
  refine va_get (D := D) (ci := 12) (v := .ref (u 3)) (C := RX11) (T := TX11) (N := 17) hx hb hts kin_RX11 hown hG.1 hP 0 rfl rfl 4 (by decide) (hts _ wm_420) (fun _ h9 => h9) rfl dX11_over_77 ?_
  refine va_get (D := D) (ci := 4) (v := .int 0) (C := RX2) (T := TX2) (N := 17) hx hb hts kin_RX2 hown hG.1 hP 1 rfl rfl 16 (by decide) (hts _ wm_136) (fun _ h9 => h9) rfl dX11_over_80 ?_
  refine lv_aload_n hx hb dX11_over_83 rfl (lv_at hl 2 rfl) ?_
  refine va_get (D := D) (ci := 12) (v := .ref (u 5)) (C := RX11) (T := TX11) (N := 17) hx hb hts kin_RX11 hown hG.1 hP 0 rfl rfl 6 (by decide) (hts _ wm_422) (fun _ h9 => h9) rfl dX11_over_84 ?_
  refine va_get (D := D) (ci := 7) (v := .int 0) (C := RX5) (T := TX5) (N := 10) hx hb hts kin_RX5 hown hG.1 hP 2 rfl rfl 2 (by decide) (hts _ wm_188) (fun _ h9 => h9) rfl dX11_over_87 ?_
  refine lv_isub hx hb dX11_over_90 ?_
  refine lv_topi (fun x1 ex1 => ?_)
  obtain rfl : x1 = 0 := ex1.trans (by decide)
  refine lv_isub hx hb dX11_over_91 ?_
  refine lv_topi (fun x2 ex2 => ?_)
  obtain rfl : x2 = 0 := ex2.trans (by decide)
  refine va_mmax hx hb (hml.trans hl.1.symm) hown (hts _ wm_890) (hts _ wm_648) (hts _ wm_17) (hts _ wm_649) (Nat.le_of_ble_eq_true rfl) (Nat.le_of_ble_eq_true rfl) (Nat.le_of_ble_eq_true rfl) (Nat.le_of_ble_eq_true rfl) dX11_over_92 ?_
  refine lv_topi (fun x3 ex3 => ?_)
  obtain rfl : x3 = 0 := ex3.trans (by decide)
  exact k_iret () hx hb hr hlk (rfl) (hP.sub [] rfl) (hD.sub [] (by decide) rfl) hS (by decide) (by decide) dX11_over_95

set_option maxHeartbeats 4000000 in
set_option maxRecDepth 100000 in
/-- safe -/
theorem c_LM_safe (l : Launch) (hl0 : l.stackTraces = false) (D : va_G) (cy : Nat → ClassId) (sa : Nat → Nat) (u : Nat → Nat) (sz : Nat) : Met l yX11_safe (Cond.code yX11_safe cX11_safe 4 (some .int) :: kWS) ({ frames := 13, cells := 0, slots := 0, locals := 480 }) (kPre D cy sa [.ref (u 0)] [((u 0), .inr (12, [.ref (u 1), .int 0, .int (-1), .ref (u 2), .ref (u 3), .ref (u 4), .ref (u 5), .ref (u 6), .ref (u 7), .ref (u 8), .int 0, .ref (u 9), .ref (u 10), .ref (u 11), .ref (u 12), .ref (u 13), .ref (u 14)])), ((u 3), .inr (4, [.ref (u 15), .ref (u 16), .ref (u 17), .ref (u 18), .ref (u 19), .ref (u 20), .ref (u 21), .ref (u 22), .ref (u 23), .ref (u 24), .ref (u 25), .ref (u 26), .int 0, .int 0, .int 0, .int 0, .int 0]))] sz) (va_Qi (fun (r : Int32) (_ : Unit) => r = 0) (kB D (va_A [((u 0), .inr (12, [.ref (u 1), .int 0, .int (-1), .ref (u 2), .ref (u 3), .ref (u 4), .ref (u 5), .ref (u 6), .ref (u 7), .ref (u 8), .int 0, .ref (u 9), .ref (u 10), .ref (u 11), .ref (u 12), .ref (u 13), .ref (u 14)])), ((u 3), .inr (4, [.ref (u 15), .ref (u 16), .ref (u 17), .ref (u 18), .ref (u 19), .ref (u 20), .ref (u 21), .ref (u 22), .ref (u 23), .ref (u 24), .ref (u 25), .ref (u 26), .int 0, .int 0, .int 0, .int 0, .int 0]))] sz) (fun _ => [])) (va_A [((u 0), .inr (12, [.ref (u 1), .int 0, .int (-1), .ref (u 2), .ref (u 3), .ref (u 4), .ref (u 5), .ref (u 6), .ref (u 7), .ref (u 8), .int 0, .ref (u 9), .ref (u 10), .ref (u 11), .ref (u 12), .ref (u 13), .ref (u 14)])), ((u 3), .inr (4, [.ref (u 15), .ref (u 16), .ref (u 17), .ref (u 18), .ref (u 19), .ref (u 20), .ref (u 21), .ref (u 22), .ref (u 23), .ref (u 24), .ref (u 25), .ref (u 26), .int 0, .int 0, .int 0, .int 0, .int 0]))] sz)) 0 0 (va_A [((u 0), .inr (12, [.ref (u 1), .int 0, .int (-1), .ref (u 2), .ref (u 3), .ref (u 4), .ref (u 5), .ref (u 6), .ref (u 7), .ref (u 8), .int 0, .ref (u 9), .ref (u 10), .ref (u 11), .ref (u 12), .ref (u 13), .ref (u 14)])), ((u 3), .inr (4, [.ref (u 15), .ref (u 16), .ref (u 17), .ref (u 18), .ref (u 19), .ref (u 20), .ref (u 21), .ref (u 22), .ref (u 23), .ref (u 24), .ref (u 25), .ref (u 26), .int 0, .int 0, .int 0, .int 0, .int 0]))] sz) := by
  refine k_ofW (Qc := fun A => va_Qi (fun (r : Int32) (_ : Unit) => r = 0) (kB D A (fun _ => [])) A) (by decide) (Nat.le_of_ble_eq_true rfl) ?_
  intro p e s m below meth c ls A E hA hP hD hG hS hl
  obtain ⟨hx, hb, hml, hown, hts, hr, hlk, hnm⟩ := id E
  have hown : s.vm.findClass RX11 = some m.cls := hown
  have hl : lv_has ls 4 [(0, .ref (u 0))] := hl
  obtain ⟨H, hH⟩ : ∃ H, H = s.heap := ⟨_, rfl⟩
  have hP : va_P D vwCl [((u 0), .inr (12, [.ref (u 1), .int 0, .int (-1), .ref (u 2), .ref (u 3), .ref (u 4), .ref (u 5), .ref (u 6), .ref (u 7), .ref (u 8), .int 0, .ref (u 9), .ref (u 10), .ref (u 11), .ref (u 12), .ref (u 13), .ref (u 14)])), ((u 3), .inr (4, [.ref (u 15), .ref (u 16), .ref (u 17), .ref (u 18), .ref (u 19), .ref (u 20), .ref (u 21), .ref (u 22), .ref (u 23), .ref (u 24), .ref (u 25), .ref (u 26), .int 0, .int 0, .int 0, .int 0, .int 0]))] H := by rw [hH]; exact hP
  have hS : va_S A s.heap H [] := by rw [hH]; exact va_S.rf
  rw [← hH]
  clear hH
  refine lv_iconst (v := 0) hx hb dX11_safe_0 (by decide) ?_
  refine lv_istore_n (lv' := [(1, .int 0), (0, .ref (u 0))]) hx hb dX11_safe_1 rfl hl (by decide) rfl (fun ls hl => ?_)
  refine lv_iconst (v := 0) hx hb dX11_safe_2 (by decide) ?_
  refine lv_istore_n (lv' := [(2, .int 0), (1, .int 0), (0, .ref (u 0))]) hx hb dX11_safe_3 rfl hl (by decide) rfl (fun ls hl => ?_)
  refine lv_iload_n hx hb dX11_safe_4 rfl (lv_at hl 0 rfl) ?_
  refine lv_aload_n hx hb dX11_safe_5 rfl (lv_at hl 2 rfl) ?_
  refine va_get (D := D) (ci := 12) (v := .ref (u 3)) (C := RX11) (T := TX11) (N := 17) hx hb hts kin_RX11 hown hG.1 hP 0 rfl rfl 4 (by decide) (hts _ wm_420) (fun _ h9 => h9) rfl dX11_safe_6 ?_
  refine va_get (D := D) (ci := 4) (v := .int 0) (C := RX2) (T := TX2) (N := 17) hx hb hts kin_RX2 hown hG.1 hP 1 rfl rfl 12 (by decide) (hts _ wm_122) (fun _ h9 => h9) rfl dX11_safe_9 ?_
  refine lv_icmp_ge (tgt := 49) hx hb dX11_safe_12 (by decide) (fun _ => ?_) (fun h => absurd (by decide) h)
  refine lv_iconst (v := 4) hx hb dX11_safe_49 (by decide) ?_
  refine lv_istore_n (lv' := [(2, .int 4), (1, .int 0), (0, .ref (u 0))]) hx hb dX11_safe_50 rfl hl (by decide) rfl (fun ls hl => ?_)
  refine lv_iload_n hx hb dX11_safe_51 rfl (lv_at hl 0 rfl) ?_
  refine lv_if_le (tgt := 100) hx hb dX11_safe_52 (by decide) (fun h => absurd h (by decide)) (fun _ => ?_)
  refine lv_iconst (v := 1) hx hb dX11_safe_55 (by decide) ?_
  refine lv_istore_n (lv' := [(3, .int 1), (2, .int 4), (1, .int 0), (0, .ref (u 0))]) hx hb dX11_safe_56 rfl hl (by decide) rfl (fun ls hl => ?_)
  refine lv_iload_n hx hb dX11_safe_57 rfl (lv_at hl 0 rfl) ?_
  refine lv_iload_n hx hb dX11_safe_58 rfl (lv_at hl 2 rfl) ?_
  refine lv_icmp_gt (tgt := 94) hx hb dX11_safe_59 (by decide) (fun _ => ?_) (fun h => absurd (by decide) h)
  refine lv_iinc (v := 3) (lv' := [(2, .int 3), (3, .int 1), (1, .int 0), (0, .ref (u 0))]) hx hb dX11_safe_94 hl (k := 1) rfl (by decide) (by decide) rfl (fun ls hl => ?_)
  refine lv_goto (tgt := 51) hx hb dX11_safe_97 (by decide) ?_
  refine lv_iload_n hx hb dX11_safe_51 rfl (lv_at hl 0 rfl) ?_
  refine lv_if_le (tgt := 100) hx hb dX11_safe_52 (by decide) (fun h => absurd h (by decide)) (fun _ => ?_)
  refine lv_iconst (v := 1) hx hb dX11_safe_55 (by decide) ?_
  refine lv_istore_n (lv' := [(3, .int 1), (2, .int 3), (1, .int 0), (0, .ref (u 0))]) hx hb dX11_safe_56 rfl hl (by decide) rfl (fun ls hl => ?_)
  refine lv_iload_n hx hb dX11_safe_57 rfl (lv_at hl 0 rfl) ?_
  refine lv_iload_n hx hb dX11_safe_58 rfl (lv_at hl 2 rfl) ?_
  refine lv_icmp_gt (tgt := 94) hx hb dX11_safe_59 (by decide) (fun _ => ?_) (fun h => absurd (by decide) h)
  refine lv_iinc (v := 2) (lv' := [(2, .int 2), (3, .int 1), (1, .int 0), (0, .ref (u 0))]) hx hb dX11_safe_94 hl (k := 1) rfl (by decide) (by decide) rfl (fun ls hl => ?_)
  refine lv_goto (tgt := 51) hx hb dX11_safe_97 (by decide) ?_
  refine lv_iload_n hx hb dX11_safe_51 rfl (lv_at hl 0 rfl) ?_
  refine lv_if_le (tgt := 100) hx hb dX11_safe_52 (by decide) (fun h => absurd h (by decide)) (fun _ => ?_)
  refine lv_iconst (v := 1) hx hb dX11_safe_55 (by decide) ?_
  refine lv_istore_n (lv' := [(3, .int 1), (2, .int 2), (1, .int 0), (0, .ref (u 0))]) hx hb dX11_safe_56 rfl hl (by decide) rfl (fun ls hl => ?_)
  refine lv_iload_n hx hb dX11_safe_57 rfl (lv_at hl 0 rfl) ?_
  refine lv_iload_n hx hb dX11_safe_58 rfl (lv_at hl 2 rfl) ?_
  refine lv_icmp_gt (tgt := 94) hx hb dX11_safe_59 (by decide) (fun _ => ?_) (fun h => absurd (by decide) h)
  refine lv_iinc (v := 1) (lv' := [(2, .int 1), (3, .int 1), (1, .int 0), (0, .ref (u 0))]) hx hb dX11_safe_94 hl (k := 1) rfl (by decide) (by decide) rfl (fun ls hl => ?_)
  refine lv_goto (tgt := 51) hx hb dX11_safe_97 (by decide) ?_
  refine lv_iload_n hx hb dX11_safe_51 rfl (lv_at hl 0 rfl) ?_
  refine lv_if_le (tgt := 100) hx hb dX11_safe_52 (by decide) (fun h => absurd h (by decide)) (fun _ => ?_)
  refine lv_iconst (v := 1) hx hb dX11_safe_55 (by decide) ?_
  refine lv_istore_n (lv' := [(3, .int 1), (2, .int 1), (1, .int 0), (0, .ref (u 0))]) hx hb dX11_safe_56 rfl hl (by decide) rfl (fun ls hl => ?_)
  refine lv_iload_n hx hb dX11_safe_57 rfl (lv_at hl 0 rfl) ?_
  refine lv_iload_n hx hb dX11_safe_58 rfl (lv_at hl 2 rfl) ?_
  refine lv_icmp_gt (tgt := 94) hx hb dX11_safe_59 (by decide) (fun _ => ?_) (fun h => absurd (by decide) h)
  refine lv_iinc (v := 0) (lv' := [(2, .int 0), (3, .int 1), (1, .int 0), (0, .ref (u 0))]) hx hb dX11_safe_94 hl (k := 1) rfl (by decide) (by decide) rfl (fun ls hl => ?_)
  refine lv_goto (tgt := 51) hx hb dX11_safe_97 (by decide) ?_
  refine lv_iload_n hx hb dX11_safe_51 rfl (lv_at hl 0 rfl) ?_
  refine lv_if_le (tgt := 100) hx hb dX11_safe_52 (by decide) (fun _ => ?_) (fun h => absurd (by decide) h)
  refine lv_iconst (v := 0) hx hb dX11_safe_100 (by decide) ?_
  exact k_iret () hx hb hr hlk (rfl) (hP.sub [] rfl) (hD.sub [] (by decide) rfl) hS (by decide) (by decide) dX11_safe_101

set_option maxHeartbeats 4000000 in
set_option maxRecDepth 100000 in
/-- alike -/
theorem c_LM_alike (l : Launch) (hl0 : l.stackTraces = false) (D : va_G) (cy : Nat → ClassId) (sa : Nat → Nat) (u : Nat → Nat) (p0 p1 : Int32) (sz : Nat) : vx_Met l yX11_alike (Cond.code yX11_alike cX11_alike 3 (some .int) :: kWS) ({ frames := 13, cells := 1, slots := 6, locals := 480 }) (kPre D cy sa [.ref (u 0), .int p0, .int p1] [((u 0), .inr (12, [.ref (u 1), .int 0, .int (-1), .ref (u 2), .ref (u 3), .ref (u 4), .ref (u 5), .ref (u 6), .ref (u 7), .ref (u 8), .int 0, .ref (u 9), .ref (u 10), .ref (u 11), .ref (u 12), .ref (u 13), .ref (u 14)]))] sz) (va_Qi (fun (r : Int32) (_ : Unit) => (1 ≤ p0 ∧ p0 ≤ 60) ∧ (0 ≤ p1 ∧ p1 ≤ 30) ∧ r = if 1 < (p0 + 1) / (p1 + 1) then (p0 + 1) / (p1 + 1) else 1) (kB D (va_A [((u 0), .inr (12, [.ref (u 1), .int 0, .int (-1), .ref (u 2), .ref (u 3), .ref (u 4), .ref (u 5), .ref (u 6), .ref (u 7), .ref (u 8), .int 0, .ref (u 9), .ref (u 10), .ref (u 11), .ref (u 12), .ref (u 13), .ref (u 14)]))] sz) (fun _ => [])) (va_A [((u 0), .inr (12, [.ref (u 1), .int 0, .int (-1), .ref (u 2), .ref (u 3), .ref (u 4), .ref (u 5), .ref (u 6), .ref (u 7), .ref (u 8), .int 0, .ref (u 9), .ref (u 10), .ref (u 11), .ref (u 12), .ref (u 13), .ref (u 14)]))] sz)) (vx_X (fun (_ : Unit) => ¬ ((1 ≤ p0 ∧ p0 ≤ 60) ∧ (0 ≤ p1 ∧ p1 ≤ 30))) (kBX D (va_A [((u 0), .inr (12, [.ref (u 1), .int 0, .int (-1), .ref (u 2), .ref (u 3), .ref (u 4), .ref (u 5), .ref (u 6), .ref (u 7), .ref (u 8), .int 0, .ref (u 9), .ref (u 10), .ref (u 11), .ref (u 12), .ref (u 13), .ref (u 14)]))] sz) (fun _ => []) (fun _ => "java/lang/IllegalArgumentException")) (va_A [((u 0), .inr (12, [.ref (u 1), .int 0, .int (-1), .ref (u 2), .ref (u 3), .ref (u 4), .ref (u 5), .ref (u 6), .ref (u 7), .ref (u 8), .int 0, .ref (u 9), .ref (u 10), .ref (u 11), .ref (u 12), .ref (u 13), .ref (u 14)]))] sz)) 1 6 (va_A [((u 0), .inr (12, [.ref (u 1), .int 0, .int (-1), .ref (u 2), .ref (u 3), .ref (u 4), .ref (u 5), .ref (u 6), .ref (u 7), .ref (u 8), .int 0, .ref (u 9), .ref (u 10), .ref (u 11), .ref (u 12), .ref (u 13), .ref (u 14)]))] sz) := by
  refine k_ofX (Qc := fun A => va_Qi (fun (r : Int32) (_ : Unit) => (1 ≤ p0 ∧ p0 ≤ 60) ∧ (0 ≤ p1 ∧ p1 ≤ 30) ∧ r = if 1 < (p0 + 1) / (p1 + 1) then (p0 + 1) / (p1 + 1) else 1) (kB D A (fun _ => [])) A) (XC := fun A => vx_X (fun (_ : Unit) => ¬ ((1 ≤ p0 ∧ p0 ≤ 60) ∧ (0 ≤ p1 ∧ p1 ≤ 30))) (kBX D A (fun _ => []) (fun _ => "java/lang/IllegalArgumentException")) A) (by decide) (Nat.le_of_ble_eq_true rfl) ?_
  intro p e s m below meth c ls A E hxt hA hP hD hG hS hl
  obtain ⟨hx, hb, hml, hown, hts, hr, hlk, hnm⟩ := id E
  have hown : s.vm.findClass RX11 = some m.cls := hown
  have hl : lv_has ls 3 [(0, .ref (u 0)), (1, .int p0), (2, .int p1)] := hl
  obtain ⟨H, hH⟩ : ∃ H, H = s.heap := ⟨_, rfl⟩
  have hP : va_P D vwCl [((u 0), .inr (12, [.ref (u 1), .int 0, .int (-1), .ref (u 2), .ref (u 3), .ref (u 4), .ref (u 5), .ref (u 6), .ref (u 7), .ref (u 8), .int 0, .ref (u 9), .ref (u 10), .ref (u 11), .ref (u 12), .ref (u 13), .ref (u 14)]))] H := by rw [hH]; exact hP
  have hS : va_S A s.heap H [] := by rw [hH]; exact va_S.rf
  rw [← hH]
  clear hH
  refine lv_iload_n hx hb dX11_alike_0 rfl (lv_at hl 1 rfl) ?_
  refine lv_iconst (v := 1) hx hb dX11_alike_1 (by decide) ?_
  refine lv_bipush (v := 60) hx hb dX11_alike_2 (by decide) ?_
  refine k_cali [0] (⟨hP, hD, hG, hS, hA, rfl, rfl⟩ : kAt D cy sa A s H _ _ [] []) (wr := [((u 0), .inr (12, [.ref (u 1), .int 0, .int (-1), .ref (u 2), .ref (u 3), .ref (u 4), .ref (u 5), .ref (u 6), .ref (u 7), .ref (u 8), .int 0, .ref (u 9), .ref (u 10), .ref (u 11), .ref (u 12), .ref (u 13), .ref (u 14)]))]) rfl rfl (by decide) (k_runS (As := [.int p0, .int 1, .int 60]) (rest := []) E lk_SRX11_233 (c_within l hl0 D cy sa p0 1 60 H.size) (⟨hP, hD, hG, hS, hA, rfl, rfl⟩ : kAt D cy sa A s H _ _ [] []) hl.1 rfl rfl ⟨rfl, rfl, ⟨Nat.le_of_ble_eq_true rfl, Nat.le_of_ble_eq_true rfl⟩, ⟨Nat.le_of_ble_eq_true rfl, Nat.le_of_ble_eq_true rfl⟩, Nat.le_of_ble_eq_true rfl⟩ dX11_alike_4) (fun r1 u2 H locs hwu2 hP hD hS => ?_)
  have hP : va_P D vwCl [((u 0), .inr (12, [.ref (u 1), .int 0, .int (-1), .ref (u 2), .ref (u 3), .ref (u 4), .ref (u 5), .ref (u 6), .ref (u 7), .ref (u 8), .int 0, .ref (u 9), .ref (u 10), .ref (u 11), .ref (u 12), .ref (u 13), .ref (u 14)]))] H := hP
  have hD : va_D A [((u 0), .inr (12, [.ref (u 1), .int 0, .int (-1), .ref (u 2), .ref (u 3), .ref (u 4), .ref (u 5), .ref (u 6), .ref (u 7), .ref (u 8), .int 0, .ref (u 9), .ref (u 10), .ref (u 11), .ref (u 12), .ref (u 13), .ref (u 14)]))] := hD
  rcases k_if hwu2 with ⟨c3, rfl⟩ | ⟨c3, rfl⟩
  · refine lv_if_eq (tgt := 24) hx hb dX11_alike_7 (by decide) (fun h => absurd h (by decide)) (fun _ => ?_)
    refine lv_iload_n hx hb dX11_alike_10 rfl (lv_at hl 2 rfl) ?_
    refine lv_iconst (v := 0) hx hb dX11_alike_11 (by decide) ?_
    refine lv_bipush (v := 30) hx hb dX11_alike_12 (by decide) ?_
    refine k_cali [0] (⟨hP, hD, hG, hS, hA, rfl, rfl⟩ : kAt D cy sa A s H _ _ [] []) (wr := [((u 0), .inr (12, [.ref (u 1), .int 0, .int (-1), .ref (u 2), .ref (u 3), .ref (u 4), .ref (u 5), .ref (u 6), .ref (u 7), .ref (u 8), .int 0, .ref (u 9), .ref (u 10), .ref (u 11), .ref (u 12), .ref (u 13), .ref (u 14)]))]) rfl rfl (by decide) (k_runS (As := [.int p1, .int 0, .int 30]) (rest := []) E lk_SRX11_233 (c_within l hl0 D cy sa p1 0 30 H.size) (⟨hP, hD, hG, hS, hA, rfl, rfl⟩ : kAt D cy sa A s H _ _ [] []) hl.1 rfl rfl ⟨rfl, rfl, ⟨Nat.le_of_ble_eq_true rfl, Nat.le_of_ble_eq_true rfl⟩, ⟨Nat.le_of_ble_eq_true rfl, Nat.le_of_ble_eq_true rfl⟩, Nat.le_of_ble_eq_true rfl⟩ dX11_alike_14) (fun r4 u5 H locs hwu5 hP hD hS => ?_)
    have hP : va_P D vwCl [((u 0), .inr (12, [.ref (u 1), .int 0, .int (-1), .ref (u 2), .ref (u 3), .ref (u 4), .ref (u 5), .ref (u 6), .ref (u 7), .ref (u 8), .int 0, .ref (u 9), .ref (u 10), .ref (u 11), .ref (u 12), .ref (u 13), .ref (u 14)]))] H := hP
    have hD : va_D A [((u 0), .inr (12, [.ref (u 1), .int 0, .int (-1), .ref (u 2), .ref (u 3), .ref (u 4), .ref (u 5), .ref (u 6), .ref (u 7), .ref (u 8), .int 0, .ref (u 9), .ref (u 10), .ref (u 11), .ref (u 12), .ref (u 13), .ref (u 14)]))] := hD
    rcases k_if hwu5 with ⟨c6, rfl⟩ | ⟨c6, rfl⟩
    · refine lv_if_eq (tgt := 24) hx hb dX11_alike_17 (by decide) (fun h => absurd h (by decide)) (fun _ => ?_)
      refine lv_iconst (v := 1) hx hb dX11_alike_20 (by decide) ?_
      refine lv_goto (tgt := 25) hx hb dX11_alike_21 (by decide) ?_
      refine x_calv [0] (⟨hP, hD, hG, hS, hA, rfl, rfl⟩ : kAt D cy sa A s H _ _ [] []) (wr := [((u 0), .inr (12, [.ref (u 1), .int 0, .int (-1), .ref (u 2), .ref (u 3), .ref (u 4), .ref (u 5), .ref (u 6), .ref (u 7), .ref (u 8), .int 0, .ref (u 9), .ref (u 10), .ref (u 11), .ref (u 12), .ref (u 13), .ref (u 14)]))]) rfl rfl (by decide) (x_runS (As := [.int 1]) (rest := []) E lk_SRX11_237 (c_need l hl0 D cy sa 1 H.size) (⟨hP, hD, hG, hS, hA, rfl, rfl⟩ : kAt D cy sa A s H _ _ [] []) hl.1 rfl rfl ⟨rfl, rfl, ⟨Nat.le_of_ble_eq_true rfl, Nat.le_of_ble_eq_true rfl⟩, ⟨Nat.le_of_ble_eq_true rfl, Nat.le_of_ble_eq_true rfl⟩, Nat.le_of_ble_eq_true rfl⟩ dX11_alike_25) (fun ce q9 u8 H locs hwu8 hP hD hS h1 h2 h3 => ?_) (fun u8 H locs hwu8 hP hD hS => ?_)
      · have hP : va_P D vwCl [((u 0), .inr (12, [.ref (u 1), .int 0, .int (-1), .ref (u 2), .ref (u 3), .ref (u 4), .ref (u 5), .ref (u 6), .ref (u 7), .ref (u 8), .int 0, .ref (u 9), .ref (u 10), .ref (u 11), .ref (u 12), .ref (u 13), .ref (u 14)]))] H := hP
        have hD : va_D A [((u 0), .inr (12, [.ref (u 1), .int 0, .int (-1), .ref (u 2), .ref (u 3), .ref (u 4), .ref (u 5), .ref (u 6), .ref (u 7), .ref (u 8), .int 0, .ref (u 9), .ref (u 10), .ref (u 11), .ref (u 12), .ref (u 13), .ref (u 14)]))] := hD
        exact absurd hwu8 (by decide)
      · have hP : va_P D vwCl [((u 0), .inr (12, [.ref (u 1), .int 0, .int (-1), .ref (u 2), .ref (u 3), .ref (u 4), .ref (u 5), .ref (u 6), .ref (u 7), .ref (u 8), .int 0, .ref (u 9), .ref (u 10), .ref (u 11), .ref (u 12), .ref (u 13), .ref (u 14)]))] H := hP
        have hD : va_D A [((u 0), .inr (12, [.ref (u 1), .int 0, .int (-1), .ref (u 2), .ref (u 3), .ref (u 4), .ref (u 5), .ref (u 6), .ref (u 7), .ref (u 8), .int 0, .ref (u 9), .ref (u 10), .ref (u 11), .ref (u 12), .ref (u 13), .ref (u 14)]))] := hD
        refine lv_iconst (v := 1) hx hb dX11_alike_28 (by decide) ?_
        refine lv_iload_n hx hb dX11_alike_29 rfl (lv_at hl 1 rfl) ?_
        refine lv_iconst (v := 1) hx hb dX11_alike_30 (by decide) ?_
        refine lv_iadd hx hb dX11_alike_31 ?_
        refine lv_topi (fun x9 ex9 => ?_)
        refine lv_iload_n hx hb dX11_alike_32 rfl (lv_at hl 2 rfl) ?_
        refine lv_iconst (v := 1) hx hb dX11_alike_33 (by decide) ?_
        refine lv_iadd hx hb dX11_alike_34 ?_
        refine lv_topi (fun x10 ex10 => ?_)
        refine lv_idiv hx hb dX11_alike_35 (fun h => k_ne1 c6.1 c6.2 (ex10.symm.trans h)) ?_
        refine lv_topi (fun x11 ex11 => ?_)
        refine va_mmax hx hb (hml.trans hl.1.symm) hown (hts _ wm_890) (hts _ wm_648) (hts _ wm_17) (hts _ wm_649) (Nat.le_of_ble_eq_true rfl) (Nat.le_of_ble_eq_true rfl) (Nat.le_of_ble_eq_true rfl) (Nat.le_of_ble_eq_true rfl) dX11_alike_36 ?_
        refine lv_topi (fun x12 ex12 => ?_)
        exact vx_ret (k_iret () hx hb hr hlk (by subst_vars; exact ⟨c3, c6, rfl⟩) (hP.sub [] rfl) (hD.sub [] (by decide) rfl) hS (by decide) (by decide) dX11_alike_39)
    · refine lv_if_eq (tgt := 24) hx hb dX11_alike_17 (by decide) (fun _ => ?_) (fun h => absurd (by decide) h)
      refine lv_iconst (v := 0) hx hb dX11_alike_24 (by decide) ?_
      refine x_calv [0] (⟨hP, hD, hG, hS, hA, rfl, rfl⟩ : kAt D cy sa A s H _ _ [] []) (wr := [((u 0), .inr (12, [.ref (u 1), .int 0, .int (-1), .ref (u 2), .ref (u 3), .ref (u 4), .ref (u 5), .ref (u 6), .ref (u 7), .ref (u 8), .int 0, .ref (u 9), .ref (u 10), .ref (u 11), .ref (u 12), .ref (u 13), .ref (u 14)]))]) rfl rfl (by decide) (x_runS (As := [.int 0]) (rest := []) E lk_SRX11_237 (c_need l hl0 D cy sa 0 H.size) (⟨hP, hD, hG, hS, hA, rfl, rfl⟩ : kAt D cy sa A s H _ _ [] []) hl.1 rfl rfl ⟨rfl, rfl, ⟨Nat.le_of_ble_eq_true rfl, Nat.le_of_ble_eq_true rfl⟩, ⟨Nat.le_of_ble_eq_true rfl, Nat.le_of_ble_eq_true rfl⟩, Nat.le_of_ble_eq_true rfl⟩ dX11_alike_25) (fun ce q9 u14 H locs hwu14 hP hD hS h1 h2 h3 => ?_) (fun u14 H locs hwu14 hP hD hS => ?_)
      · have hP : va_P D vwCl [((u 0), .inr (12, [.ref (u 1), .int 0, .int (-1), .ref (u 2), .ref (u 3), .ref (u 4), .ref (u 5), .ref (u 6), .ref (u 7), .ref (u 8), .int 0, .ref (u 9), .ref (u 10), .ref (u 11), .ref (u 12), .ref (u 13), .ref (u 14)]))] H := hP
        have hD : va_D A [((u 0), .inr (12, [.ref (u 1), .int 0, .int (-1), .ref (u 2), .ref (u 3), .ref (u 4), .ref (u 5), .ref (u 6), .ref (u 7), .ref (u 8), .int 0, .ref (u 9), .ref (u 10), .ref (u 11), .ref (u 12), .ref (u 13), .ref (u 14)]))] := hD
        exact x_out () hxt hlk h1 h2 (h3) (by (simp only [k_lt, k_le, k_eq, k_L0, k_L1, k_L2, k_L3, k_L4, k_L5, k_L6, k_L7, k_L8, k_L9, k_L10, k_L15, k_L20, k_L30, k_L31, k_L40, k_L41, k_L60, k_L61, k_L99, k_L120, k_L239, k_L240, k_L479, k_L480, k_L500, k_L720, k_L999, k_L1000, k_L9999, k_Lm1] at c3 c6 ⊢; omega)) (hP.sub [] rfl) (hD.sub [] (by decide) rfl) hS (by decide) (by decide)
      · exact (hwu14 rfl).elim
  · refine lv_if_eq (tgt := 24) hx hb dX11_alike_7 (by decide) (fun _ => ?_) (fun h => absurd (by decide) h)
    refine lv_iconst (v := 0) hx hb dX11_alike_24 (by decide) ?_
    refine x_calv [0] (⟨hP, hD, hG, hS, hA, rfl, rfl⟩ : kAt D cy sa A s H _ _ [] []) (wr := [((u 0), .inr (12, [.ref (u 1), .int 0, .int (-1), .ref (u 2), .ref (u 3), .ref (u 4), .ref (u 5), .ref (u 6), .ref (u 7), .ref (u 8), .int 0, .ref (u 9), .ref (u 10), .ref (u 11), .ref (u 12), .ref (u 13), .ref (u 14)]))]) rfl rfl (by decide) (x_runS (As := [.int 0]) (rest := []) E lk_SRX11_237 (c_need l hl0 D cy sa 0 H.size) (⟨hP, hD, hG, hS, hA, rfl, rfl⟩ : kAt D cy sa A s H _ _ [] []) hl.1 rfl rfl ⟨rfl, rfl, ⟨Nat.le_of_ble_eq_true rfl, Nat.le_of_ble_eq_true rfl⟩, ⟨Nat.le_of_ble_eq_true rfl, Nat.le_of_ble_eq_true rfl⟩, Nat.le_of_ble_eq_true rfl⟩ dX11_alike_25) (fun ce q9 u16 H locs hwu16 hP hD hS h1 h2 h3 => ?_) (fun u16 H locs hwu16 hP hD hS => ?_)
    · have hP : va_P D vwCl [((u 0), .inr (12, [.ref (u 1), .int 0, .int (-1), .ref (u 2), .ref (u 3), .ref (u 4), .ref (u 5), .ref (u 6), .ref (u 7), .ref (u 8), .int 0, .ref (u 9), .ref (u 10), .ref (u 11), .ref (u 12), .ref (u 13), .ref (u 14)]))] H := hP
      have hD : va_D A [((u 0), .inr (12, [.ref (u 1), .int 0, .int (-1), .ref (u 2), .ref (u 3), .ref (u 4), .ref (u 5), .ref (u 6), .ref (u 7), .ref (u 8), .int 0, .ref (u 9), .ref (u 10), .ref (u 11), .ref (u 12), .ref (u 13), .ref (u 14)]))] := hD
      exact x_out () hxt hlk h1 h2 (h3) (by (simp only [k_lt, k_le, k_eq, k_L0, k_L1, k_L2, k_L3, k_L4, k_L5, k_L6, k_L7, k_L8, k_L9, k_L10, k_L15, k_L20, k_L30, k_L31, k_L40, k_L41, k_L60, k_L61, k_L99, k_L120, k_L239, k_L240, k_L479, k_L480, k_L500, k_L720, k_L999, k_L1000, k_L9999, k_Lm1] at c3 ⊢; omega)) (hP.sub [] rfl) (hD.sub [] (by decide) rfl) hS (by decide) (by decide)
    · exact (hwu16 rfl).elim
