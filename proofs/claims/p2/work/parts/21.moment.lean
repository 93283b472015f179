theorem wm_199 : Cond.fieldLink RX5 28 "LentMinds$Moment" "done" "I" ∈ kWS := kws_at 199 (by decide +kernel) (by decide +kernel)
theorem wm_201 : Cond.fieldLink RX5 31 "LentMinds$Moment" "abed" "I" ∈ kWS := kws_at 201 (by decide +kernel) (by decide +kernel)
theorem wm_184 : Cond.fieldLink RX5 18 "LentMinds$Moment" "now" "I" ∈ kWS := kws_at 184 (by decide +kernel) (by decide +kernel)
theorem wm_104 : Cond.fieldLink RX5 58 "LentMinds$House" "sleepsFrom" "[I" ∈ kWS := kws_at 104 (by decide +kernel) (by decide +kernel)
theorem wm_107 : Cond.fieldLink RX5 63 "LentMinds$House" "sleepsTo" "[I" ∈ kWS := kws_at 107 (by decide +kernel) (by decide +kernel)
theorem wm_1097 : Cond.code yX5_isAsleep cX5_isAsleep 3 (some .boolean) ∈ kWS := kws_at 1097 (by decide +kernel) (by decide +kernel)
theorem wm_1172 : Cond.methodLink RX5 66 yX5_isAsleep ∈ kWS := kws_at 1172 (by decide +kernel) (by decide +kernel)
theorem wm_1096 : Cond.selects RX5 yX5_isAsleep yX5_isAsleep ∈ kWS := kws_at 1096 (by decide +kernel) (by decide +kernel)
theorem wm_1095 : Cond.instanceMethod yX5_isAsleep ∈ kWS := kws_at 1095 (by decide +kernel) (by decide +kernel)
theorem wm_4 : Cond.initialized RX5 ∈ kWS := kws_at 4 (by decide +kernel) (by decide +kernel)
theorem lk_VRX5_66 : kLV RX5 66 yX5_isAsleep (Cond.code yX5_isAsleep cX5_isAsleep 3 (some .boolean)) 2 := ⟨wm_1172, wm_1095, wm_1096, wm_4, wm_1097, ⟨by decide +kernel, by decide +kernel, by decide +kernel⟩⟩
theorem wm_101 : Cond.fieldLink RX5 70 "LentMinds$House" "habit" "[I" ∈ kWS := kws_at 101 (by decide +kernel) (by decide +kernel)
theorem wm_81 : Cond.fieldLink RX5 73 "LentMinds$House" "holds" "[I" ∈ kWS := kws_at 81 (by decide +kernel) (by decide +kernel)
theorem wm_181 : Cond.fieldLink RX5 15 "LentMinds$Moment" "did" "[I" ∈ kWS := kws_at 181 (by decide +kernel) (by decide +kernel)
theorem wm_518 : Cond.methodLink RX5 76 Lib.Math.min.name ∈ kWS := kws_at 518 (by decide +kernel) (by decide +kernel)
theorem wm_519 : Cond.static Lib.Math.min.name ∈ kWS := kws_at 519 (by decide +kernel) (by decide +kernel)
theorem wm_520 : Cond.code Lib.Math.min.name Lib.Math.min.code 2 (some .int) ∈ kWS := kws_at 520 (by decide +kernel) (by decide +kernel)
theorem n_L60 : (60 : Int32).toInt = 60 := by decide
theorem wm_517 : Cond.code yX5_hold cX5_hold 4 (some .int) ∈ kWS := kws_at 517 (by decide +kernel) (by decide +kernel)
theorem wm_1090 : Cond.methodLink RX5 82 yX5_hold ∈ kWS := kws_at 1090 (by decide +kernel) (by decide +kernel)
theorem wm_516 : Cond.selects RX5 yX5_hold yX5_hold ∈ kWS := kws_at 516 (by decide +kernel) (by decide +kernel)
theorem wm_515 : Cond.instanceMethod yX5_hold ∈ kWS := kws_at 515 (by decide +kernel) (by decide +kernel)
theorem lk_VRX5_82 : kLV RX5 82 yX5_hold (Cond.code yX5_hold cX5_hold 4 (some .int)) 2 := ⟨wm_1090, wm_515, wm_516, wm_4, wm_517, ⟨by decide +kernel, by decide +kernel, by decide +kernel⟩⟩
theorem wm_179 : Cond.fieldLink RX5 9 "LentMinds$Moment" "without" "[I" ∈ kWS := kws_at 179 (by decide +kernel) (by decide +kernel)
theorem wm_1089 : Cond.code yX5_slack cX5_slack 3 (some .int) ∈ kWS := kws_at 1089 (by decide +kernel) (by decide +kernel)
theorem wm_1102 : Cond.methodLink RX5 86 yX5_slack ∈ kWS := kws_at 1102 (by decide +kernel) (by decide +kernel)
theorem wm_1088 : Cond.selects RX5 yX5_slack yX5_slack ∈ kWS := kws_at 1088 (by decide +kernel) (by decide +kernel)
theorem wm_1087 : Cond.instanceMethod yX5_slack ∈ kWS := kws_at 1087 (by decide +kernel) (by decide +kernel)
theorem lk_VRX5_86 : kLV RX5 86 yX5_slack (Cond.code yX5_slack cX5_slack 3 (some .int)) 2 := ⟨wm_1102, wm_1087, wm_1088, wm_4, wm_1089, ⟨by decide +kernel, by decide +kernel, by decide +kernel⟩⟩
theorem wm_495 : Cond.code yX5_isDone cX5_isDone 2 (some .boolean) ∈ kWS := kws_at 495 (by decide +kernel) (by decide +kernel)
theorem wm_1103 : Cond.methodLink RX5 89 yX5_isDone ∈ kWS := kws_at 1103 (by decide +kernel) (by decide +kernel)
theorem wm_494 : Cond.selects RX5 yX5_isDone yX5_isDone ∈ kWS := kws_at 494 (by decide +kernel) (by decide +kernel)
theorem wm_493 : Cond.instanceMethod yX5_isDone ∈ kWS := kws_at 493 (by decide +kernel) (by decide +kernel)
theorem lk_VRX5_89 : kLV RX5 89 yX5_isDone (Cond.code yX5_isDone cX5_isDone 2 (some .boolean)) 1 := ⟨wm_1103, wm_493, wm_494, wm_4, wm_495, ⟨by decide +kernel, by decide +kernel, by decide +kernel⟩⟩
theorem wm_499 : Cond.code yX5_isAbed cX5_isAbed 2 (some .boolean) ∈ kWS := kws_at 499 (by decide +kernel) (by decide +kernel)
theorem wm_1104 : Cond.methodLink RX5 93 yX5_isAbed ∈ kWS := kws_at 1104 (by decide +kernel) (by decide +kernel)
theorem wm_498 : Cond.selects RX5 yX5_isAbed yX5_isAbed ∈ kWS := kws_at 498 (by decide +kernel) (by decide +kernel)
theorem wm_497 : Cond.instanceMethod yX5_isAbed ∈ kWS := kws_at 497 (by decide +kernel) (by decide +kernel)
theorem lk_VRX5_93 : kLV RX5 93 yX5_isAbed (Cond.code yX5_isAbed cX5_isAbed 2 (some .boolean)) 1 := ⟨wm_1104, wm_497, wm_498, wm_4, wm_499, ⟨by decide +kernel, by decide +kernel, by decide +kernel⟩⟩
theorem wm_189 : Cond.fieldLink RX5 22 "LentMinds$Moment" "mind" "I" ∈ kWS := kws_at 189 (by decide +kernel) (by decide +kernel)
theorem wm_525 : Cond.code yX2_cost cX2_cost 3 (some .int) ∈ kWS := kws_at 525 (by decide +kernel) (by decide +kernel)
theorem wm_1124 : Cond.methodLink RX5 96 yX2_cost ∈ kWS := kws_at 1124 (by decide +kernel) (by decide +kernel)
theorem wm_524 : Cond.selects RX2 yX2_cost yX2_cost ∈ kWS := kws_at 524 (by decide +kernel) (by decide +kernel)
theorem wm_523 : Cond.instanceMethod yX2_cost ∈ kWS := kws_at 523 (by decide +kernel) (by decide +kernel)
theorem lk_VRX5_96 : kLV RX5 96 yX2_cost (Cond.code yX2_cost cX2_cost 3 (some .int)) 2 := ⟨wm_1124, wm_523, wm_524, wm_3, wm_525, ⟨by decide +kernel, by decide +kernel, by decide +kernel⟩⟩
theorem wm_194 : Cond.fieldLink RX5 25 "LentMinds$Moment" "way" "I" ∈ kWS := kws_at 194 (by decide +kernel) (by decide +kernel)
theorem wm_207 : Cond.fieldLink RX5 40 "LentMinds$Moment" "passes" "I" ∈ kWS := kws_at 207 (by decide +kernel) (by decide +kernel)
theorem wm_203 : Cond.fieldLink RX5 34 "LentMinds$Moment" "harm" "I" ∈ kWS := kws_at 203 (by decide +kernel) (by decide +kernel)
theorem wm_205 : Cond.fieldLink RX5 37 "LentMinds$Moment" "worth" "I" ∈ kWS := kws_at 205 (by decide +kernel) (by decide +kernel)
theorem wm_899 : Cond.methodLink RX5 52 arraycopyName ∈ kWS := kws_at 899 (by decide +kernel) (by decide +kernel)
theorem wm_668 : Cond.native arraycopyName ∈ kWS := kws_at 668 (by decide +kernel) (by decide +kernel)
theorem wm_667 : Cond.static arraycopyName ∈ kWS := kws_at 667 (by decide +kernel) (by decide +kernel)
theorem wm_29 : Cond.initialized RJ10 ∈ kWS := kws_at 29 (by decide +kernel) (by decide +kernel)
theorem dX5_isDone_0 : decode cX5_isDone 0 = .ok (.aload_n 0, 1) := by decide +kernel
theorem dX5_isDone_1 : decode cX5_isDone 1 = .ok (.getfield 28, 3) := by decide +kernel
theorem dX5_isDone_4 : decode cX5_isDone 4 = .ok (.iload_n 1, 1) := by decide +kernel
theorem dX5_isDone_5 : decode cX5_isDone 5 = .ok (.ishr, 1) := by decide +kernel
theorem dX5_isDone_6 : decode cX5_isDone 6 = .ok (.iconst 1, 1) := by decide +kernel
theorem dX5_isDone_7 : decode cX5_isDone 7 = .ok (.iand, 1) := by decide +kernel
theorem dX5_isDone_8 : decode cX5_isDone 8 = .ok (.ifCond .eq 7, 3) := by decide +kernel
theorem dX5_isDone_11 : decode cX5_isDone 11 = .ok (.iconst 1, 1) := by decide +kernel
theorem dX5_isDone_12 : decode cX5_isDone 12 = .ok (.goto 4, 3) := by decide +kernel
theorem dX5_isDone_15 : decode cX5_isDone 15 = .ok (.iconst 0, 1) := by decide +kernel
theorem dX5_isDone_16 : decode cX5_isDone 16 = .ok (.ireturn, 1) := by decide +kernel
theorem dX5_isAbed_0 : decode cX5_isAbed 0 = .ok (.aload_n 0, 1) := by decide +kernel
theorem dX5_isAbed_1 : decode cX5_isAbed 1 = .ok (.getfield 31, 3) := by decide +kernel
theorem dX5_isAbed_4 : decode cX5_isAbed 4 = .ok (.iload_n 1, 1) := by decide +kernel
theorem dX5_isAbed_5 : decode cX5_isAbed 5 = .ok (.ishr, 1) := by decide +kernel
theorem dX5_isAbed_6 : decode cX5_isAbed 6 = .ok (.iconst 1, 1) := by decide +kernel
theorem dX5_isAbed_7 : decode cX5_isAbed 7 = .ok (.iand, 1) := by decide +kernel
theorem dX5_isAbed_8 : decode cX5_isAbed 8 = .ok (.ifCond .eq 7, 3) := by decide +kernel
theorem dX5_isAbed_11 : decode cX5_isAbed 11 = .ok (.iconst 1, 1) := by decide +kernel
theorem dX5_isAbed_12 : decode cX5_isAbed 12 = .ok (.goto 4, 3) := by decide +kernel
theorem dX5_isAbed_15 : decode cX5_isAbed 15 = .ok (.iconst 0, 1) := by decide +kernel
theorem dX5_isAbed_16 : decode cX5_isAbed 16 = .ok (.ireturn, 1) := by decide +kernel
theorem dX5_isAsleep_0 : decode cX5_isAsleep 0 = .ok (.iload_n 2, 1) := by decide +kernel
theorem dX5_isAsleep_1 : decode cX5_isAsleep 1 = .ok (.ifCond .lt 39, 3) := by decide +kernel
theorem dX5_isAsleep_4 : decode cX5_isAsleep 4 = .ok (.iload_n 2, 1) := by decide +kernel
theorem dX5_isAsleep_5 : decode cX5_isAsleep 5 = .ok (.bipush 9, 2) := by decide +kernel
theorem dX5_isAsleep_7 : decode cX5_isAsleep 7 = .ok (.if_icmp .ge 33, 3) := by decide +kernel
theorem dX5_isAsleep_10 : decode cX5_isAsleep 10 = .ok (.aload_n 0, 1) := by decide +kernel
theorem dX5_isAsleep_11 : decode cX5_isAsleep 11 = .ok (.getfield 18, 3) := by decide +kernel
theorem dX5_isAsleep_14 : decode cX5_isAsleep 14 = .ok (.aload_n 1, 1) := by decide +kernel
theorem dX5_isAsleep_15 : decode cX5_isAsleep 15 = .ok (.getfield 58, 3) := by decide +kernel
theorem dX5_isAsleep_18 : decode cX5_isAsleep 18 = .ok (.iload_n 2, 1) := by decide +kernel
theorem dX5_isAsleep_19 : decode cX5_isAsleep 19 = .ok (.iaload, 1) := by decide +kernel
theorem dX5_isAsleep_20 : decode cX5_isAsleep 20 = .ok (.if_icmp .lt 20, 3) := by decide +kernel
theorem dX5_isAsleep_23 : decode cX5_isAsleep 23 = .ok (.aload_n 0, 1) := by decide +kernel
theorem dX5_isAsleep_24 : decode cX5_isAsleep 24 = .ok (.getfield 18, 3) := by decide +kernel
theorem dX5_isAsleep_27 : decode cX5_isAsleep 27 = .ok (.aload_n 1, 1) := by decide +kernel
theorem dX5_isAsleep_28 : decode cX5_isAsleep 28 = .ok (.getfield 63, 3) := by decide +kernel
theorem dX5_isAsleep_31 : decode cX5_isAsleep 31 = .ok (.iload_n 2, 1) := by decide +kernel
theorem dX5_isAsleep_32 : decode cX5_isAsleep 32 = .ok (.iaload, 1) := by decide +kernel
theorem dX5_isAsleep_33 : decode cX5_isAsleep 33 = .ok (.if_icmp .gt 7, 3) := by decide +kernel
theorem dX5_isAsleep_36 : decode cX5_isAsleep 36 = .ok (.iconst 1, 1) := by decide +kernel
theorem dX5_isAsleep_37 : decode cX5_isAsleep 37 = .ok (.goto 4, 3) := by decide +kernel
theorem dX5_isAsleep_40 : decode cX5_isAsleep 40 = .ok (.iconst 0, 1) := by decide +kernel
theorem dX5_isAsleep_41 : decode cX5_isAsleep 41 = .ok (.ireturn, 1) := by decide +kernel
theorem dX5_isUp_0 : decode cX5_isUp 0 = .ok (.aload_n 0, 1) := by decide +kernel
theorem dX5_isUp_1 : decode cX5_isUp 1 = .ok (.getfield 28, 3) := by decide +kernel
theorem dX5_isUp_4 : decode cX5_isUp 4 = .ok (.aload_n 0, 1) := by decide +kernel
theorem dX5_isUp_5 : decode cX5_isUp 5 = .ok (.getfield 31, 3) := by decide +kernel
theorem dX5_isUp_8 : decode cX5_isUp 8 = .ok (.ior, 1) := by decide +kernel
theorem dX5_isUp_9 : decode cX5_isUp 9 = .ok (.iload_n 2, 1) := by decide +kernel
theorem dX5_isUp_10 : decode cX5_isUp 10 = .ok (.ishr, 1) := by decide +kernel
theorem dX5_isUp_11 : decode cX5_isUp 11 = .ok (.iconst 1, 1) := by decide +kernel
theorem dX5_isUp_12 : decode cX5_isUp 12 = .ok (.iand, 1) := by decide +kernel
theorem dX5_isUp_13 : decode cX5_isUp 13 = .ok (.ifCond .ne 16, 3) := by decide +kernel
theorem dX5_isUp_16 : decode cX5_isUp 16 = .ok (.aload_n 0, 1) := by decide +kernel
theorem dX5_isUp_17 : decode cX5_isUp 17 = .ok (.aload_n 1, 1) := by decide +kernel
theorem dX5_isUp_18 : decode cX5_isUp 18 = .ok (.iload_n 2, 1) := by decide +kernel
theorem dX5_isUp_19 : decode cX5_isUp 19 = .ok (.invokevirtual 66, 3) := by decide +kernel
theorem dX5_isUp_22 : decode cX5_isUp 22 = .ok (.ifCond .ne 7, 3) := by decide +kernel
theorem dX5_isUp_25 : decode cX5_isUp 25 = .ok (.iconst 1, 1) := by decide +kernel
theorem dX5_isUp_26 : decode cX5_isUp 26 = .ok (.goto 4, 3) := by decide +kernel
theorem dX5_isUp_29 : decode cX5_isUp 29 = .ok (.iconst 0, 1) := by decide +kernel
theorem dX5_isUp_30 : decode cX5_isUp 30 = .ok (.ireturn, 1) := by decide +kernel
theorem dX5_hold_0 : decode cX5_hold 0 = .ok (.iload_n 2, 1) := by decide +kernel
theorem dX5_hold_1 : decode cX5_hold 1 = .ok (.ifCond .lt 9, 3) := by decide +kernel
theorem dX5_hold_4 : decode cX5_hold 4 = .ok (.iload_n 2, 1) := by decide +kernel
theorem dX5_hold_5 : decode cX5_hold 5 = .ok (.bipush 9, 2) := by decide +kernel
theorem dX5_hold_7 : decode cX5_hold 7 = .ok (.if_icmp .lt 5, 3) := by decide +kernel
theorem dX5_hold_10 : decode cX5_hold 10 = .ok (.iconst 0, 1) := by decide +kernel
theorem dX5_hold_11 : decode cX5_hold 11 = .ok (.ireturn, 1) := by decide +kernel
theorem dX5_hold_12 : decode cX5_hold 12 = .ok (.aload_n 1, 1) := by decide +kernel
theorem dX5_hold_13 : decode cX5_hold 13 = .ok (.getfield 70, 3) := by decide +kernel
theorem dX5_hold_16 : decode cX5_hold 16 = .ok (.iload_n 2, 1) := by decide +kernel
theorem dX5_hold_17 : decode cX5_hold 17 = .ok (.iaload, 1) := by decide +kernel
theorem dX5_hold_18 : decode cX5_hold 18 = .ok (.istore_n 3, 1) := by decide +kernel
theorem dX5_hold_19 : decode cX5_hold 19 = .ok (.iload_n 3, 1) := by decide +kernel
theorem dX5_hold_20 : decode cX5_hold 20 = .ok (.iconst 1, 1) := by decide +kernel
theorem dX5_hold_21 : decode cX5_hold 21 = .ok (.if_icmp .ge 10, 3) := by decide +kernel
theorem dX5_hold_24 : decode cX5_hold 24 = .ok (.aload_n 1, 1) := by decide +kernel
theorem dX5_hold_25 : decode cX5_hold 25 = .ok (.getfield 73, 3) := by decide +kernel
theorem dX5_hold_28 : decode cX5_hold 28 = .ok (.iload_n 2, 1) := by decide +kernel
theorem dX5_hold_29 : decode cX5_hold 29 = .ok (.iaload, 1) := by decide +kernel
theorem dX5_hold_30 : decode cX5_hold 30 = .ok (.ireturn, 1) := by decide +kernel
theorem dX5_hold_31 : decode cX5_hold 31 = .ok (.aload_n 1, 1) := by decide +kernel
theorem dX5_hold_32 : decode cX5_hold 32 = .ok (.getfield 73, 3) := by decide +kernel
theorem dX5_hold_35 : decode cX5_hold 35 = .ok (.iload_n 2, 1) := by decide +kernel
theorem dX5_hold_36 : decode cX5_hold 36 = .ok (.iaload, 1) := by decide +kernel
theorem dX5_hold_37 : decode cX5_hold 37 = .ok (.aload_n 0, 1) := by decide +kernel
theorem dX5_hold_38 : decode cX5_hold 38 = .ok (.getfield 15, 3) := by decide +kernel
theorem dX5_hold_41 : decode cX5_hold 41 = .ok (.iload_n 2, 1) := by decide +kernel
theorem dX5_hold_42 : decode cX5_hold 42 = .ok (.iaload, 1) := by decide +kernel
theorem dX5_hold_43 : decode cX5_hold 43 = .ok (.iload_n 3, 1) := by decide +kernel
theorem dX5_hold_44 : decode cX5_hold 44 = .ok (.idiv, 1) := by decide +kernel
theorem dX5_hold_45 : decode cX5_hold 45 = .ok (.iadd, 1) := by decide +kernel
theorem dX5_hold_46 : decode cX5_hold 46 = .ok (.bipush 60, 2) := by decide +kernel
theorem dX5_hold_48 : decode cX5_hold 48 = .ok (.invokestatic 76, 3) := by decide +kernel
theorem dX5_hold_51 : decode cX5_hold 51 = .ok (.ireturn, 1) := by decide +kernel
theorem dX5_slack_0 : decode cX5_slack 0 = .ok (.iload_n 2, 1) := by decide +kernel
theorem dX5_slack_1 : decode cX5_slack 1 = .ok (.ifCond .lt 9, 3) := by decide +kernel
theorem dX5_slack_4 : decode cX5_slack 4 = .ok (.iload_n 2, 1) := by decide +kernel
theorem dX5_slack_5 : decode cX5_slack 5 = .ok (.bipush 9, 2) := by decide +kernel
theorem dX5_slack_7 : decode cX5_slack 7 = .ok (.if_icmp .lt 7, 3) := by decide +kernel
theorem dX5_slack_10 : decode cX5_slack 10 = .ok (.iconst 0, 1) := by decide +kernel
theorem dX5_slack_11 : decode cX5_slack 11 = .ok (.goto 16, 3) := by decide +kernel
theorem dX5_slack_14 : decode cX5_slack 14 = .ok (.aload_n 0, 1) := by decide +kernel
theorem dX5_slack_15 : decode cX5_slack 15 = .ok (.aload_n 1, 1) := by decide +kernel
theorem dX5_slack_16 : decode cX5_slack 16 = .ok (.iload_n 2, 1) := by decide +kernel
theorem dX5_slack_17 : decode cX5_slack 17 = .ok (.invokevirtual 82, 3) := by decide +kernel
theorem dX5_slack_20 : decode cX5_slack 20 = .ok (.aload_n 0, 1) := by decide +kernel
theorem dX5_slack_21 : decode cX5_slack 21 = .ok (.getfield 9, 3) := by decide +kernel
theorem dX5_slack_24 : decode cX5_slack 24 = .ok (.iload_n 2, 1) := by decide +kernel
theorem dX5_slack_25 : decode cX5_slack 25 = .ok (.iaload, 1) := by decide +kernel
theorem dX5_slack_26 : decode cX5_slack 26 = .ok (.isub, 1) := by decide +kernel
theorem dX5_slack_27 : decode cX5_slack 27 = .ok (.ireturn, 1) := by decide +kernel
theorem dX5_hasDrifted_0 : decode cX5_hasDrifted 0 = .ok (.aload_n 0, 1) := by decide +kernel
theorem dX5_hasDrifted_1 : decode cX5_hasDrifted 1 = .ok (.aload_n 1, 1) := by decide +kernel
theorem dX5_hasDrifted_2 : decode cX5_hasDrifted 2 = .ok (.iload_n 2, 1) := by decide +kernel
theorem dX5_hasDrifted_3 : decode cX5_hasDrifted 3 = .ok (.invokevirtual 86, 3) := by decide +kernel
theorem dX5_hasDrifted_6 : decode cX5_hasDrifted 6 = .ok (.ifCond .ge 23, 3) := by decide +kernel
theorem dX5_hasDrifted_9 : decode cX5_hasDrifted 9 = .ok (.aload_n 0, 1) := by decide +kernel
theorem dX5_hasDrifted_10 : decode cX5_hasDrifted 10 = .ok (.iload_n 2, 1) := by decide +kernel
theorem dX5_hasDrifted_11 : decode cX5_hasDrifted 11 = .ok (.invokevirtual 89, 3) := by decide +kernel
theorem dX5_hasDrifted_14 : decode cX5_hasDrifted 14 = .ok (.ifCond .ne 15, 3) := by decide +kernel
theorem dX5_hasDrifted_17 : decode cX5_hasDrifted 17 = .ok (.aload_n 0, 1) := by decide +kernel
theorem dX5_hasDrifted_18 : decode cX5_hasDrifted 18 = .ok (.iload_n 2, 1) := by decide +kernel
theorem dX5_hasDrifted_19 : decode cX5_hasDrifted 19 = .ok (.invokevirtual 93, 3) := by decide +kernel
theorem dX5_hasDrifted_22 : decode cX5_hasDrifted 22 = .ok (.ifCond .ne 7, 3) := by decide +kernel
theorem dX5_hasDrifted_25 : decode cX5_hasDrifted 25 = .ok (.iconst 1, 1) := by decide +kernel
theorem dX5_hasDrifted_26 : decode cX5_hasDrifted 26 = .ok (.goto 4, 3) := by decide +kernel
theorem dX5_hasDrifted_29 : decode cX5_hasDrifted 29 = .ok (.iconst 0, 1) := by decide +kernel
theorem dX5_hasDrifted_30 : decode cX5_hasDrifted 30 = .ok (.ireturn, 1) := by decide +kernel
theorem dX5_send_0 : decode cX5_send 0 = .ok (.aload_n 0, 1) := by decide +kernel
theorem dX5_send_1 : decode cX5_send 1 = .ok (.aload_n 1, 1) := by decide +kernel
theorem dX5_send_2 : decode cX5_send 2 = .ok (.aload_n 0, 1) := by decide +kernel
theorem dX5_send_3 : decode cX5_send 3 = .ok (.getfield 22, 3) := by decide +kernel
theorem dX5_send_6 : decode cX5_send 6 = .ok (.iload_n 2, 1) := by decide +kernel
theorem dX5_send_7 : decode cX5_send 7 = .ok (.invokevirtual 96, 3) := by decide +kernel
theorem dX5_send_10 : decode cX5_send 10 = .ok (.putfield 25, 3) := by decide +kernel
theorem dX5_send_13 : decode cX5_send 13 = .ok (.aload_n 0, 1) := by decide +kernel
theorem dX5_send_14 : decode cX5_send 14 = .ok (.iload_n 2, 1) := by decide +kernel
theorem dX5_send_15 : decode cX5_send 15 = .ok (.putfield 22, 3) := by decide +kernel
theorem dX5_send_18 : decode cX5_send 18 = .ok (.aload_n 0, 1) := by decide +kernel
theorem dX5_send_19 : decode cX5_send 19 = .ok (.dup, 1) := by decide +kernel
theorem dX5_send_20 : decode cX5_send 20 = .ok (.getfield 40, 3) := by decide +kernel
theorem dX5_send_23 : decode cX5_send 23 = .ok (.iconst 1, 1) := by decide +kernel
theorem dX5_send_24 : decode cX5_send 24 = .ok (.iadd, 1) := by decide +kernel
theorem dX5_send_25 : decode cX5_send 25 = .ok (.putfield 40, 3) := by decide +kernel
theorem dX5_send_28 : decode cX5_send 28 = .ok (.return_, 1) := by decide +kernel
theorem dX5_forget_0 : decode cX5_forget 0 = .ok (.aload_n 0, 1) := by decide +kernel
theorem dX5_forget_1 : decode cX5_forget 1 = .ok (.iconst 0, 1) := by decide +kernel
theorem dX5_forget_2 : decode cX5_forget 2 = .ok (.putfield 34, 3) := by decide +kernel
theorem dX5_forget_5 : decode cX5_forget 5 = .ok (.aload_n 0, 1) := by decide +kernel
theorem dX5_forget_6 : decode cX5_forget 6 = .ok (.iconst 0, 1) := by decide +kernel
theorem dX5_forget_7 : decode cX5_forget 7 = .ok (.putfield 37, 3) := by decide +kernel
theorem dX5_forget_10 : decode cX5_forget 10 = .ok (.aload_n 0, 1) := by decide +kernel
theorem dX5_forget_11 : decode cX5_forget 11 = .ok (.iconst 0, 1) := by decide +kernel
theorem dX5_forget_12 : decode cX5_forget 12 = .ok (.putfield 40, 3) := by decide +kernel
theorem dX5_forget_15 : decode cX5_forget 15 = .ok (.return_, 1) := by decide +kernel
theorem dX5_copy_0 : decode cX5_copy 0 = .ok (.aload_n 1, 1) := by decide +kernel
theorem dX5_copy_1 : decode cX5_copy 1 = .ok (.getfield 9, 3) := by decide +kernel
theorem dX5_copy_4 : decode cX5_copy 4 = .ok (.iconst 0, 1) := by decide +kernel
theorem dX5_copy_5 : decode cX5_copy 5 = .ok (.aload_n 0, 1) := by decide +kernel
theorem dX5_copy_6 : decode cX5_copy 6 = .ok (.getfield 9, 3) := by decide +kernel
theorem dX5_copy_9 : decode cX5_copy 9 = .ok (.iconst 0, 1) := by decide +kernel
theorem dX5_copy_10 : decode cX5_copy 10 = .ok (.bipush 9, 2) := by decide +kernel
theorem dX5_copy_12 : decode cX5_copy 12 = .ok (.invokestatic 52, 3) := by decide +kernel
theorem dX5_copy_15 : decode cX5_copy 15 = .ok (.aload_n 1, 1) := by decide +kernel
theorem dX5_copy_16 : decode cX5_copy 16 = .ok (.getfield 15, 3) := by decide +kernel
theorem dX5_copy_19 : decode cX5_copy 19 = .ok (.iconst 0, 1) := by decide +kernel
theorem dX5_copy_20 : decode cX5_copy 20 = .ok (.aload_n 0, 1) := by decide +kernel
theorem dX5_copy_21 : decode cX5_copy 21 = .ok (.getfield 15, 3) := by decide +kernel
theorem dX5_copy_24 : decode cX5_copy 24 = .ok (.iconst 0, 1) := by decide +kernel
theorem dX5_copy_25 : decode cX5_copy 25 = .ok (.bipush 9, 2) := by decide +kernel
theorem dX5_copy_27 : decode cX5_copy 27 = .ok (.invokestatic 52, 3) := by decide +kernel
theorem dX5_copy_30 : decode cX5_copy 30 = .ok (.aload_n 0, 1) := by decide +kernel
theorem dX5_copy_31 : decode cX5_copy 31 = .ok (.aload_n 1, 1) := by decide +kernel
theorem dX5_copy_32 : decode cX5_copy 32 = .ok (.getfield 18, 3) := by decide +kernel
theorem dX5_copy_35 : decode cX5_copy 35 = .ok (.putfield 18, 3) := by decide +kernel
theorem dX5_copy_38 : decode cX5_copy 38 = .ok (.aload_n 0, 1) := by decide +kernel
theorem dX5_copy_39 : decode cX5_copy 39 = .ok (.aload_n 1, 1) := by decide +kernel
theorem dX5_copy_40 : decode cX5_copy 40 = .ok (.getfield 22, 3) := by decide +kernel
theorem dX5_copy_43 : decode cX5_copy 43 = .ok (.putfield 22, 3) := by decide +kernel
theorem dX5_copy_46 : decode cX5_copy 46 = .ok (.aload_n 0, 1) := by decide +kernel
theorem dX5_copy_47 : decode cX5_copy 47 = .ok (.aload_n 1, 1) := by decide +kernel
theorem dX5_copy_48 : decode cX5_copy 48 = .ok (.getfield 25, 3) := by decide +kernel
theorem dX5_copy_51 : decode cX5_copy 51 = .ok (.putfield 25, 3) := by decide +kernel
theorem dX5_copy_54 : decode cX5_copy 54 = .ok (.aload_n 0, 1) := by decide +kernel
theorem dX5_copy_55 : decode cX5_copy 55 = .ok (.aload_n 1, 1) := by decide +kernel
theorem dX5_copy_56 : decode cX5_copy 56 = .ok (.getfield 28, 3) := by decide +kernel
theorem dX5_copy_59 : decode cX5_copy 59 = .ok (.putfield 28, 3) := by decide +kernel
theorem dX5_copy_62 : decode cX5_copy 62 = .ok (.aload_n 0, 1) := by decide +kernel
theorem dX5_copy_63 : decode cX5_copy 63 = .ok (.aload_n 1, 1) := by decide +kernel
theorem dX5_copy_64 : decode cX5_copy 64 = .ok (.getfield 31, 3) := by decide +kernel
theorem dX5_copy_67 : decode cX5_copy 67 = .ok (.putfield 31, 3) := by decide +kernel
theorem dX5_copy_70 : decode cX5_copy 70 = .ok (.aload_n 0, 1) := by decide +kernel
theorem dX5_copy_71 : decode cX5_copy 71 = .ok (.aload_n 1, 1) := by decide +kernel
theorem dX5_copy_72 : decode cX5_copy 72 = .ok (.getfield 34, 3) := by decide +kernel
theorem dX5_copy_75 : decode cX5_copy 75 = .ok (.putfield 34, 3) := by decide +kernel
theorem dX5_copy_78 : decode cX5_copy 78 = .ok (.aload_n 0, 1) := by decide +kernel
theorem dX5_copy_79 : decode cX5_copy 79 = .ok (.aload_n 1, 1) := by decide +kernel
theorem dX5_copy_80 : decode cX5_copy 80 = .ok (.getfield 37, 3) := by decide +kernel
theorem dX5_copy_83 : decode cX5_copy 83 = .ok (.putfield 37, 3) := by decide +kernel
theorem dX5_copy_86 : decode cX5_copy 86 = .ok (.aload_n 0, 1) := by decide +kernel
theorem dX5_copy_87 : decode cX5_copy 87 = .ok (.aload_n 1, 1) := by decide +kernel
theorem dX5_copy_88 : decode cX5_copy 88 = .ok (.getfield 40, 3) := by decide +kernel
theorem dX5_copy_91 : decode cX5_copy 91 = .ok (.putfield 40, 3) := by decide +kernel
theorem dX5_copy_94 : decode cX5_copy 94 = .ok (.return_, 1) := by decide +kernel
set_option maxHeartbeats 4000000 in
set_option maxRecDepth 100000 in
/-- Moment.isDone -/
theorem c_isDone (l : Launch) (hl0 : l.stackTraces = false) (D : va_G) (cy : Nat → ClassId) (sa : Nat → Nat) (ma ma_without ma_did : Nat) (m_now m_mind m_way m_done m_abed m_harm m_worth m_passes b0 : Int32) (h_m_now : 0 ≤ m_now.toInt ∧ m_now.toInt ≤ 480) (h_m_mind : -1 ≤ m_mind.toInt ∧ m_mind.toInt ≤ 8) (sz : Nat) : Met l yX5_isDone (Cond.code yX5_isDone cX5_isDone 2 (some .boolean) :: kWS) ({ frames := 10, cells := 0, slots := 0, locals := 300 }) (kPre D cy sa [.ref ma, .int b0] [(ma, .inr (7, [.ref ma_without, .ref ma_did, .int m_now, .int m_mind, .int m_way, .int m_done, .int m_abed, .int m_harm, .int m_worth, .int m_passes]))] sz) (va_Qi (fun (r : Int32) (u : Unit) => (r.toInt = 0 ∨ r.toInt = 1)) (kB D (va_A [(ma, .inr (7, [.ref ma_without, .ref ma_did, .int m_now, .int m_mind, .int m_way, .int m_done, .int m_abed, .int m_harm, .int m_worth, .int m_passes]))] sz) (fun (u : Unit) => [(ma, .inr (7, [.ref ma_without, .ref ma_did, .int m_now, .int m_mind, .int m_way, .int m_done, .int m_abed, .int m_harm, .int m_worth, .int m_passes]))])) (va_A [(ma, .inr (7, [.ref ma_without, .ref ma_did, .int m_now, .int m_mind, .int m_way, .int m_done, .int m_abed, .int m_harm, .int m_worth, .int m_passes]))] sz)) 0 0 (va_A [(ma, .inr (7, [.ref ma_without, .ref ma_did, .int m_now, .int m_mind, .int m_way, .int m_done, .int m_abed, .int m_harm, .int m_worth, .int m_passes]))] sz) := by
  refine k_ofW (y := yX5_isDone) (cc := cX5_isDone) (maxL := 2) (ret := (some .boolean)) (av := [.ref ma, .int b0]) (ws := [(ma, .inr (7, [.ref ma_without, .ref ma_did, .int m_now, .int m_mind, .int m_way, .int m_done, .int m_abed, .int m_harm, .int m_worth, .int m_passes]))]) (Qc := fun A => (va_Qi (fun (r : Int32) (u : Unit) => (r.toInt = 0 ∨ r.toInt = 1)) (kB D A (fun (u : Unit) => [(ma, .inr (7, [.ref ma_without, .ref ma_did, .int m_now, .int m_mind, .int m_way, .int m_done, .int m_abed, .int m_harm, .int m_worth, .int m_passes]))])) A)) (by decide) (Nat.le_of_ble_eq_true rfl) ?_
  intro p e s m below meth c ls A E hA hP hD hG hS hl
  obtain ⟨Q0, hQ0⟩ : ∃ Q0 : State → Prop, Q0 = MQ below (va_Qi (fun (r : Int32) (u : Unit) => (r.toInt = 0 ∨ r.toInt = 1)) (kB D A (fun (u : Unit) => [(ma, .inr (7, [.ref ma_without, .ref ma_did, .int m_now, .int m_mind, .int m_way, .int m_done, .int m_abed, .int m_harm, .int m_worth, .int m_passes]))])) A) ([.ref ma, .int b0] : List Value).toArray s 0 0 A := ⟨_, rfl⟩
  rw [← hQ0]
  obtain ⟨hx, hb, hml, hown, hts, hr, hlk, hnm⟩ := id E
  have hown : s.vm.findClass RX5 = some m.cls := hown
  have hl : lv_has ls 2 [(0, .ref ma), (1, .int b0)] := hl
  have g_b0 := k_rng b0
  obtain ⟨H, hH⟩ : ∃ H, H = s.heap := ⟨_, rfl⟩
  have hP : va_P D vwCl [(ma, .inr (7, [.ref ma_without, .ref ma_did, .int m_now, .int m_mind, .int m_way, .int m_done, .int m_abed, .int m_harm, .int m_worth, .int m_passes]))] H := by rw [hH]; exact hP
  have hS : va_S A s.heap H [] := by rw [hH]; exact va_S.rf
  rw [← hH]
  clear hH
  obtain ⟨locs, hlocs⟩ : ∃ locs : List Loc, locs = [] := ⟨_, rfl⟩
  rw [← hlocs] at hS ⊢
  refine lv_aload_n hx hb dX5_isDone_0 rfl (lv_at hl 0 rfl) ?_
  refine va_get (D := D) (ci := 7) (v := .int m_done) (C := RX5) (T := TX5) (N := 10) hx hb hts kin_RX5 hown hG.1 hP 0 rfl rfl 5 (by decide) (hts _ wm_199) (fun _ h9 => h9) rfl dX5_isDone_1 ?_
  refine lv_iload_n hx hb dX5_isDone_4 rfl (lv_at hl 1 rfl) ?_
  refine lv_ishr hx hb dX5_isDone_5 ?_
  refine lv_topi (fun x1q ex1q => ?_)
  refine lv_iconst (v := 1) hx hb dX5_isDone_6 (by decide) ?_
  refine lv_iand hx hb dX5_isDone_7 ?_
  refine lv_topi (fun x2q ex2q => ?_)
  have rx2q := n_and ex2q (b := 1) n_L1 (by omega)
  refine lv_if_eq (tgt := 15) hx hb dX5_isDone_8 (by decide) (fun c3q => ?_) (fun c3q => ?_)
  · simp only [k_lt, k_le, k_eq, ne_eq, ge_iff_le, gt_iff_lt, n_L0, n_L0] at c3q
    refine lv_iconst (v := 0) hx hb dX5_isDone_15 (by decide) ?_
    rw [hQ0]
    exact k_zret () hx hb hr hlk (k_nz (by decide)) ((by show (0 : Int32).toInt = 0 ∨ (0 : Int32).toInt = 1; rw [n_L0]; omega)) (hP.sub [0] rfl) (hD.sub [0] (by decide) rfl) hS (by decide) (by decide) dX5_isDone_16
  · simp only [k_lt, k_le, k_eq, ne_eq, ge_iff_le, gt_iff_lt, n_L0, n_L0] at c3q
    refine lv_iconst (v := 1) hx hb dX5_isDone_11 (by decide) ?_
    refine lv_goto (tgt := 16) hx hb dX5_isDone_12 (by decide) ?_
    rw [hQ0]
    exact k_zret () hx hb hr hlk (k_nz (by decide)) ((by show (1 : Int32).toInt = 0 ∨ (1 : Int32).toInt = 1; rw [n_L1]; omega)) (hP.sub [0] rfl) (hD.sub [0] (by decide) rfl) hS (by decide) (by decide) dX5_isDone_16

set_option maxHeartbeats 4000000 in
set_option maxRecDepth 100000 in
/-- Moment.isAbed -/
theorem c_isAbed (l : Launch) (hl0 : l.stackTraces = false) (D : va_G) (cy : Nat → ClassId) (sa : Nat → Nat) (ma ma_without ma_did : Nat) (m_now m_mind m_way m_done m_abed m_harm m_worth m_passes b0 : Int32) (h_m_now : 0 ≤ m_now.toInt ∧ m_now.toInt ≤ 480) (h_m_mind : -1 ≤ m_mind.toInt ∧ m_mind.toInt ≤ 8) (sz : Nat) : Met l yX5_isAbed (Cond.code yX5_isAbed cX5_isAbed 2 (some .boolean) :: kWS) ({ frames := 10, cells := 0, slots := 0, locals := 300 }) (kPre D cy sa [.ref ma, .int b0] [(ma, .inr (7, [.ref ma_without, .ref ma_did, .int m_now, .int m_mind, .int m_way, .int m_done, .int m_abed, .int m_harm, .int m_worth, .int m_passes]))] sz) (va_Qi (fun (r : Int32) (u : Unit) => (r.toInt = 0 ∨ r.toInt = 1)) (kB D (va_A [(ma, .inr (7, [.ref ma_without, .ref ma_did, .int m_now, .int m_mind, .int m_way, .int m_done, .int m_abed, .int m_harm, .int m_worth, .int m_passes]))] sz) (fun (u : Unit) => [(ma, .inr (7, [.ref ma_without, .ref ma_did, .int m_now, .int m_mind, .int m_way, .int m_done, .int m_abed, .int m_harm, .int m_worth, .int m_passes]))])) (va_A [(ma, .inr (7, [.ref ma_without, .ref ma_did, .int m_now, .int m_mind, .int m_way, .int m_done, .int m_abed, .int m_harm, .int m_worth, .int m_passes]))] sz)) 0 0 (va_A [(ma, .inr (7, [.ref ma_without, .ref ma_did, .int m_now, .int m_mind, .int m_way, .int m_done, .int m_abed, .int m_harm, .int m_worth, .int m_passes]))] sz) := by
  refine k_ofW (y := yX5_isAbed) (cc := cX5_isAbed) (maxL := 2) (ret := (some .boolean)) (av := [.ref ma, .int b0]) (ws := [(ma, .inr (7, [.ref ma_without, .ref ma_did, .int m_now, .int m_mind, .int m_way, .int m_done, .int m_abed, .int m_harm, .int m_worth, .int m_passes]))]) (Qc := fun A => (va_Qi (fun (r : Int32) (u : Unit) => (r.toInt = 0 ∨ r.toInt = 1)) (kB D A (fun (u : Unit) => [(ma, .inr (7, [.ref ma_without, .ref ma_did, .int m_now, .int m_mind, .int m_way, .int m_done, .int m_abed, .int m_harm, .int m_worth, .int m_passes]))])) A)) (by decide) (Nat.le_of_ble_eq_true rfl) ?_
  intro p e s m below meth c ls A E hA hP hD hG hS hl
  obtain ⟨Q0, hQ0⟩ : ∃ Q0 : State → Prop, Q0 = MQ below (va_Qi (fun (r : Int32) (u : Unit) => (r.toInt = 0 ∨ r.toInt = 1)) (kB D A (fun (u : Unit) => [(ma, .inr (7, [.ref ma_without, .ref ma_did, .int m_now, .int m_mind, .int m_way, .int m_done, .int m_abed, .int m_harm, .int m_worth, .int m_passes]))])) A) ([.ref ma, .int b0] : List Value).toArray s 0 0 A := ⟨_, rfl⟩
  rw [← hQ0]
  obtain ⟨hx, hb, hml, hown, hts, hr, hlk, hnm⟩ := id E
  have hown : s.vm.findClass RX5 = some m.cls := hown
  have hl : lv_has ls 2 [(0, .ref ma), (1, .int b0)] := hl
  have g_b0 := k_rng b0
  obtain ⟨H, hH⟩ : ∃ H, H = s.heap := ⟨_, rfl⟩
  have hP : va_P D vwCl [(ma, .inr (7, [.ref ma_without, .ref ma_did, .int m_now, .int m_mind, .int m_way, .int m_done, .int m_abed, .int m_harm, .int m_worth, .int m_passes]))] H := by rw [hH]; exact hP
  have hS : va_S A s.heap H [] := by rw [hH]; exact va_S.rf
  rw [← hH]
  clear hH
  obtain ⟨locs, hlocs⟩ : ∃ locs : List Loc, locs = [] := ⟨_, rfl⟩
  rw [← hlocs] at hS ⊢
  refine lv_aload_n hx hb dX5_isAbed_0 rfl (lv_at hl 0 rfl) ?_
  refine va_get (D := D) (ci := 7) (v := .int m_abed) (C := RX5) (T := TX5) (N := 10) hx hb hts kin_RX5 hown hG.1 hP 0 rfl rfl 6 (by decide) (hts _ wm_201) (fun _ h9 => h9) rfl dX5_isAbed_1 ?_
  refine lv_iload_n hx hb dX5_isAbed_4 rfl (lv_at hl 1 rfl) ?_
  refine lv_ishr hx hb dX5_isAbed_5 ?_
  refine lv_topi (fun x1q ex1q => ?_)
  refine lv_iconst (v := 1) hx hb dX5_isAbed_6 (by decide) ?_
  refine lv_iand hx hb dX5_isAbed_7 ?_
  refine lv_topi (fun x2q ex2q => ?_)
  have rx2q := n_and ex2q (b := 1) n_L1 (by omega)
  refine lv_if_eq (tgt := 15) hx hb dX5_isAbed_8 (by decide) (fun c3q => ?_) (fun c3q => ?_)
  · simp only [k_lt, k_le, k_eq, ne_eq, ge_iff_le, gt_iff_lt, n_L0, n_L0] at c3q
    refine lv_iconst (v := 0) hx hb dX5_isAbed_15 (by decide) ?_
    rw [hQ0]
    exact k_zret () hx hb hr hlk (k_nz (by decide)) ((by show (0 : Int32).toInt = 0 ∨ (0 : Int32).toInt = 1; rw [n_L0]; omega)) (hP.sub [0] rfl) (hD.sub [0] (by decide) rfl) hS (by decide) (by decide) dX5_isAbed_16
  · simp only [k_lt, k_le, k_eq, ne_eq, ge_iff_le, gt_iff_lt, n_L0, n_L0] at c3q
    refine lv_iconst (v := 1) hx hb dX5_isAbed_11 (by decide) ?_
    refine lv_goto (tgt := 16) hx hb dX5_isAbed_12 (by decide) ?_
    rw [hQ0]
    exact k_zret () hx hb hr hlk (k_nz (by decide)) ((by show (1 : Int32).toInt = 0 ∨ (1 : Int32).toInt = 1; rw [n_L1]; omega)) (hP.sub [0] rfl) (hD.sub [0] (by decide) rfl) hS (by decide) (by decide) dX5_isAbed_16

set_option maxHeartbeats 4000000 in
set_option maxRecDepth 100000 in
/-- Moment.isAsleep -/
theorem c_isAsleep (l : Launch) (hl0 : l.stackTraces = false) (D : va_G) (cy : Nat → ClassId) (sa : Nat → Nat) (ma ma_without ma_did ha ha_x ha_y ha_holds ha_needs ha_harm ha_worth ha_joint ha_habit ha_sleepsFrom ha_sleepsTo ha_criesDrifted ha_criesElse : Nat) (m_now m_mind m_way m_done m_abed m_harm m_worth m_passes h_bodies h_joints h_breath h_stride h_day b0 : Int32) (hf_sleepsFrom hf_sleepsTo : Nat → Int32) (h_m_now : 0 ≤ m_now.toInt ∧ m_now.toInt ≤ 480) (h_m_mind : -1 ≤ m_mind.toInt ∧ m_mind.toInt ≤ 8) (h_h_bodies : 0 ≤ h_bodies.toInt ∧ h_bodies.toInt ≤ 9) (h_h_breath : 0 ≤ h_breath.toInt ∧ h_breath.toInt ≤ 9) (h_h_day : 0 ≤ h_day.toInt ∧ h_day.toInt ≤ 480) (sz : Nat) : Met l yX5_isAsleep (Cond.code yX5_isAsleep cX5_isAsleep 3 (some .boolean) :: kWS) ({ frames := 10, cells := 0, slots := 0, locals := 300 }) (kPre D cy sa [.ref ma, .ref ha, .int b0] [(ma, .inr (7, [.ref ma_without, .ref ma_did, .int m_now, .int m_mind, .int m_way, .int m_done, .int m_abed, .int m_harm, .int m_worth, .int m_passes])), (ha, .inr (4, [.ref ha_x, .ref ha_y, .ref ha_holds, .ref ha_needs, .ref ha_harm, .ref ha_worth, .ref ha_joint, .ref ha_habit, .ref ha_sleepsFrom, .ref ha_sleepsTo, .ref ha_criesDrifted, .ref ha_criesElse, .int h_bodies, .int h_joints, .int h_breath, .int h_stride, .int h_day])), (ha_sleepsFrom, .inl (cy 0, 9, .inl hf_sleepsFrom)), (ha_sleepsTo, .inl (cy 0, 9, .inl hf_sleepsTo))] sz) (va_Qi (fun (r : Int32) (u : Unit) => (r.toInt = 0 ∨ r.toInt = 1)) (kB D (va_A [(ma, .inr (7, [.ref ma_without, .ref ma_did, .int m_now, .int m_mind, .int m_way, .int m_done, .int m_abed, .int m_harm, .int m_worth, .int m_passes])), (ha, .inr (4, [.ref ha_x, .ref ha_y, .ref ha_holds, .ref ha_needs, .ref ha_harm, .ref ha_worth, .ref ha_joint, .ref ha_habit, .ref ha_sleepsFrom, .ref ha_sleepsTo, .ref ha_criesDrifted, .ref ha_criesElse, .int h_bodies, .int h_joints, .int h_breath, .int h_stride, .int h_day])), (ha_sleepsFrom, .inl (cy 0, 9, .inl hf_sleepsFrom)), (ha_sleepsTo, .inl (cy 0, 9, .inl hf_sleepsTo))] sz) (fun (u : Unit) => [(ma, .inr (7, [.ref ma_without, .ref ma_did, .int m_now, .int m_mind, .int m_way, .int m_done, .int m_abed, .int m_harm, .int m_worth, .int m_passes])), (ha, .inr (4, [.ref ha_x, .ref ha_y, .ref ha_holds, .ref ha_needs, .ref ha_harm, .ref ha_worth, .ref ha_joint, .ref ha_habit, .ref ha_sleepsFrom, .ref ha_sleepsTo, .ref ha_criesDrifted, .ref ha_criesElse, .int h_bodies, .int h_joints, .int h_breath, .int h_stride, .int h_day])), (ha_sleepsFrom, .inl (cy 0, 9, .inl hf_sleepsFrom)), (ha_sleepsTo, .inl (cy 0, 9, .inl hf_sleepsTo))])) (va_A [(ma, .inr (7, [.ref ma_without, .ref ma_did, .int m_now, .int m_mind, .int m_way, .int m_done, .int m_abed, .int m_harm, .int m_worth, .int m_passes])), (ha, .inr (4, [.ref ha_x, .ref ha_y, .ref ha_holds, .ref ha_needs, .ref ha_harm, .ref ha_worth, .ref ha_joint, .ref ha_habit, .ref ha_sleepsFrom, .ref ha_sleepsTo, .ref ha_criesDrifted, .ref ha_criesElse, .int h_bodies, .int h_joints, .int h_breath, .int h_stride, .int h_day])), (ha_sleepsFrom, .inl (cy 0, 9, .inl hf_sleepsFrom)), (ha_sleepsTo, .inl (cy 0, 9, .inl hf_sleepsTo))] sz)) 0 0 (va_A [(ma, .inr (7, [.ref ma_without, .ref ma_did, .int m_now, .int m_mind, .int m_way, .int m_done, .int m_abed, .int m_harm, .int m_worth, .int m_passes])), (ha, .inr (4, [.ref ha_x, .ref ha_y, .ref ha_holds, .ref ha_needs, .ref ha_harm, .ref ha_worth, .ref ha_joint, .ref ha_habit, .ref ha_sleepsFrom, .ref ha_sleepsTo, .ref ha_criesDrifted, .ref ha_criesElse, .int h_bodies, .int h_joints, .int h_breath, .int h_stride, .int h_day])), (ha_sleepsFrom, .inl (cy 0, 9, .inl hf_sleepsFrom)), (ha_sleepsTo, .inl (cy 0, 9, .inl hf_sleepsTo))] sz) := by
  refine k_ofW (y := yX5_isAsleep) (cc := cX5_isAsleep) (maxL := 3) (ret := (some .boolean)) (av := [.ref ma, .ref ha, .int b0]) (ws := [(ma, .inr (7, [.ref ma_without, .ref ma_did, .int m_now, .int m_mind, .int m_way, .int m_done, .int m_abed, .int m_harm, .int m_worth, .int m_passes])), (ha, .inr (4, [.ref ha_x, .ref ha_y, .ref ha_holds, .ref ha_needs, .ref ha_harm, .ref ha_worth, .ref ha_joint, .ref ha_habit, .ref ha_sleepsFrom, .ref ha_sleepsTo, .ref ha_criesDrifted, .ref ha_criesElse, .int h_bodies, .int h_joints, .int h_breath, .int h_stride, .int h_day])), (ha_sleepsFrom, .inl (cy 0, 9, .inl hf_sleepsFrom)), (ha_sleepsTo, .inl (cy 0, 9, .inl hf_sleepsTo))]) (Qc := fun A => (va_Qi (fun (r : Int32) (u : Unit) => (r.toInt = 0 ∨ r.toInt = 1)) (kB D A (fun (u : Unit) => [(ma, .inr (7, [.ref ma_without, .ref ma_did, .int m_now, .int m_mind, .int m_way, .int m_done, .int m_abed, .int m_harm, .int m_worth, .int m_passes])), (ha, .inr (4, [.ref ha_x, .ref ha_y, .ref ha_holds, .ref ha_needs, .ref ha_harm, .ref ha_worth, .ref ha_joint, .ref ha_habit, .ref ha_sleepsFrom, .ref ha_sleepsTo, .ref ha_criesDrifted, .ref ha_criesElse, .int h_bodies, .int h_joints, .int h_breath, .int h_stride, .int h_day])), (ha_sleepsFrom, .inl (cy 0, 9, .inl hf_sleepsFrom)), (ha_sleepsTo, .inl (cy 0, 9, .inl hf_sleepsTo))])) A)) (by decide) (Nat.le_of_ble_eq_true rfl) ?_
  intro p e s m below meth c ls A E hA hP hD hG hS hl
  obtain ⟨Q0, hQ0⟩ : ∃ Q0 : State → Prop, Q0 = MQ below (va_Qi (fun (r : Int32) (u : Unit) => (r.toInt = 0 ∨ r.toInt = 1)) (kB D A (fun (u : Unit) => [(ma, .inr (7, [.ref ma_without, .ref ma_did, .int m_now, .int m_mind, .int m_way, .int m_done, .int m_abed, .int m_harm, .int m_worth, .int m_passes])), (ha, .inr (4, [.ref ha_x, .ref ha_y, .ref ha_holds, .ref ha_needs, .ref ha_harm, .ref ha_worth, .ref ha_joint, .ref ha_habit, .ref ha_sleepsFrom, .ref ha_sleepsTo, .ref ha_criesDrifted, .ref ha_criesElse, .int h_bodies, .int h_joints, .int h_breath, .int h_stride, .int h_day])), (ha_sleepsFrom, .inl (cy 0, 9, .inl hf_sleepsFrom)), (ha_sleepsTo, .inl (cy 0, 9, .inl hf_sleepsTo))])) A) ([.ref ma, .ref ha, .int b0] : List Value).toArray s 0 0 A := ⟨_, rfl⟩
  rw [← hQ0]
  obtain ⟨hx, hb, hml, hown, hts, hr, hlk, hnm⟩ := id E
  have hown : s.vm.findClass RX5 = some m.cls := hown
  have hl : lv_has ls 3 [(0, .ref ma), (1, .ref ha), (2, .int b0)] := hl
  have g_b0 := k_rng b0
  obtain ⟨H, hH⟩ : ∃ H, H = s.heap := ⟨_, rfl⟩
  have hP : va_P D vwCl [(ma, .inr (7, [.ref ma_without, .ref ma_did, .int m_now, .int m_mind, .int m_way, .int m_done, .int m_abed, .int m_harm, .int m_worth, .int m_passes])), (ha, .inr (4, [.ref ha_x, .ref ha_y, .ref ha_holds, .ref ha_needs, .ref ha_harm, .ref ha_worth, .ref ha_joint, .ref ha_habit, .ref ha_sleepsFrom, .ref ha_sleepsTo, .ref ha_criesDrifted, .ref ha_criesElse, .int h_bodies, .int h_joints, .int h_breath, .int h_stride, .int h_day])), (ha_sleepsFrom, .inl (cy 0, 9, .inl hf_sleepsFrom)), (ha_sleepsTo, .inl (cy 0, 9, .inl hf_sleepsTo))] H := by rw [hH]; exact hP
  have hS : va_S A s.heap H [] := by rw [hH]; exact va_S.rf
  rw [← hH]
  clear hH
  obtain ⟨locs, hlocs⟩ : ∃ locs : List Loc, locs = [] := ⟨_, rfl⟩
  rw [← hlocs] at hS ⊢
  refine lv_iload_n hx hb dX5_isAsleep_0 rfl (lv_at hl 2 rfl) ?_
  refine lv_if_lt (tgt := 40) hx hb dX5_isAsleep_1 (by decide) (fun c1q => ?_) (fun c1q => ?_)
  · simp only [k_lt, k_le, k_eq, ne_eq, ge_iff_le, gt_iff_lt, n_L0, n_L0] at c1q
    refine lv_iconst (v := 0) hx hb dX5_isAsleep_40 (by decide) ?_
    rw [hQ0]
    exact k_zret () hx hb hr hlk (k_nz (by decide)) ((by show (0 : Int32).toInt = 0 ∨ (0 : Int32).toInt = 1; rw [n_L0]; omega)) (hP.sub [0, 1, 2, 3] rfl) (hD.sub [0, 1, 2, 3] (by decide) rfl) hS (by decide) (by decide) dX5_isAsleep_41
  · simp only [k_lt, k_le, k_eq, ne_eq, ge_iff_le, gt_iff_lt, n_L0, n_L0] at c1q
    refine lv_iload_n hx hb dX5_isAsleep_4 rfl (lv_at hl 2 rfl) ?_
    refine lv_bipush (v := 9) hx hb dX5_isAsleep_5 (by decide) ?_
    refine lv_icmp_ge (tgt := 40) hx hb dX5_isAsleep_7 (by decide) (fun c2q => ?_) (fun c2q => ?_)
    · simp only [k_lt, k_le, k_eq, ne_eq, ge_iff_le, gt_iff_lt, n_L9] at c2q
      refine lv_iconst (v := 0) hx hb dX5_isAsleep_40 (by decide) ?_
      rw [hQ0]
      exact k_zret () hx hb hr hlk (k_nz (by decide)) ((by show (0 : Int32).toInt = 0 ∨ (0 : Int32).toInt = 1; rw [n_L0]; omega)) (hP.sub [0, 1, 2, 3] rfl) (hD.sub [0, 1, 2, 3] (by decide) rfl) hS (by decide) (by decide) dX5_isAsleep_41
    · simp only [k_lt, k_le, k_eq, ne_eq, ge_iff_le, gt_iff_lt, n_L9] at c2q
      refine lv_aload_n hx hb dX5_isAsleep_10 rfl (lv_at hl 0 rfl) ?_
      refine va_get (D := D) (ci := 7) (v := .int m_now) (C := RX5) (T := TX5) (N := 10) hx hb hts kin_RX5 hown hG.1 hP 0 rfl rfl 2 (by decide) (hts _ wm_184) (fun _ h9 => h9) rfl dX5_isAsleep_11 ?_
      refine lv_aload_n hx hb dX5_isAsleep_14 rfl (lv_at hl 1 rfl) ?_
      refine va_get (D := D) (ci := 4) (v := .ref ha_sleepsFrom) (C := RX2) (T := TX2) (N := 17) hx hb hts kin_RX2 hown hG.1 hP 1 rfl rfl 8 (by decide) (hts _ wm_104) (fun _ h9 => h9) rfl dX5_isAsleep_15 ?_
      refine lv_iload_n hx hb dX5_isAsleep_18 rfl (lv_at hl 2 rfl) ?_
      refine va_iald hx hb hG.1 hP 2 0 rfl rfl (n_in (by omega) (by omega)) dX5_isAsleep_19 ?_
      refine lv_topi (fun x3q ex3q => ?_)
      refine lv_icmp_lt (tgt := 40) hx hb dX5_isAsleep_20 (by decide) (fun c4q => ?_) (fun c4q => ?_)
      · simp only [k_lt, k_le, k_eq, ne_eq, ge_iff_le, gt_iff_lt] at c4q
        refine lv_iconst (v := 0) hx hb dX5_isAsleep_40 (by decide) ?_
        rw [hQ0]
        exact k_zret () hx hb hr hlk (k_nz (by decide)) ((by show (0 : Int32).toInt = 0 ∨ (0 : Int32).toInt = 1; rw [n_L0]; omega)) (hP.sub [0, 1, 2, 3] rfl) (hD.sub [0, 1, 2, 3] (by decide) rfl) hS (by decide) (by decide) dX5_isAsleep_41
      · simp only [k_lt, k_le, k_eq, ne_eq, ge_iff_le, gt_iff_lt] at c4q
        refine lv_aload_n hx hb dX5_isAsleep_23 rfl (lv_at hl 0 rfl) ?_
        refine va_get (D := D) (ci := 7) (v := .int m_now) (C := RX5) (T := TX5) (N := 10) hx hb hts kin_RX5 hown hG.1 hP 0 rfl rfl 2 (by decide) (hts _ wm_184) (fun _ h9 => h9) rfl dX5_isAsleep_24 ?_
        refine lv_aload_n hx hb dX5_isAsleep_27 rfl (lv_at hl 1 rfl) ?_
        refine va_get (D := D) (ci := 4) (v := .ref ha_sleepsTo) (C := RX2) (T := TX2) (N := 17) hx hb hts kin_RX2 hown hG.1 hP 1 rfl rfl 9 (by decide) (hts _ wm_107) (fun _ h9 => h9) rfl dX5_isAsleep_28 ?_
        refine lv_iload_n hx hb dX5_isAsleep_31 rfl (lv_at hl 2 rfl) ?_
        refine va_iald hx hb hG.1 hP 3 0 rfl rfl (n_in (by omega) (by omega)) dX5_isAsleep_32 ?_
        refine lv_topi (fun x5q ex5q => ?_)
        refine lv_icmp_gt (tgt := 40) hx hb dX5_isAsleep_33 (by decide) (fun c6q => ?_) (fun c6q => ?_)
        · simp only [k_lt, k_le, k_eq, ne_eq, ge_iff_le, gt_iff_lt] at c6q
          refine lv_iconst (v := 0) hx hb dX5_isAsleep_40 (by decide) ?_
          rw [hQ0]
          exact k_zret () hx hb hr hlk (k_nz (by decide)) ((by show (0 : Int32).toInt = 0 ∨ (0 : Int32).toInt = 1; rw [n_L0]; omega)) (hP.sub [0, 1, 2, 3] rfl) (hD.sub [0, 1, 2, 3] (by decide) rfl) hS (by decide) (by decide) dX5_isAsleep_41
        · simp only [k_lt, k_le, k_eq, ne_eq, ge_iff_le, gt_iff_lt] at c6q
          refine lv_iconst (v := 1) hx hb dX5_isAsleep_36 (by decide) ?_
          refine lv_goto (tgt := 41) hx hb dX5_isAsleep_37 (by decide) ?_
          rw [hQ0]
          exact k_zret () hx hb hr hlk (k_nz (by decide)) ((by show (1 : Int32).toInt = 0 ∨ (1 : Int32).toInt = 1; rw [n_L1]; omega)) (hP.sub [0, 1, 2, 3] rfl) (hD.sub [0, 1, 2, 3] (by decide) rfl) hS (by decide) (by decide) dX5_isAsleep_41

set_option maxHeartbeats 4000000 in
set_option maxRecDepth 100000 in
/-- Moment.isUp -/
theorem c_isUp (l : Launch) (hl0 : l.stackTraces = false) (D : va_G) (cy : Nat → ClassId) (sa : Nat → Nat) (ma ma_without ma_did ha ha_x ha_y ha_holds ha_needs ha_harm ha_worth ha_joint ha_habit ha_sleepsFrom ha_sleepsTo ha_criesDrifted ha_criesElse : Nat) (m_now m_mind m_way m_done m_abed m_harm m_worth m_passes h_bodies h_joints h_breath h_stride h_day b0 : Int32) (hf_sleepsFrom hf_sleepsTo : Nat → Int32) (h_m_now : 0 ≤ m_now.toInt ∧ m_now.toInt ≤ 480) (h_m_mind : -1 ≤ m_mind.toInt ∧ m_mind.toInt ≤ 8) (h_h_bodies : 0 ≤ h_bodies.toInt ∧ h_bodies.toInt ≤ 9) (h_h_breath : 0 ≤ h_breath.toInt ∧ h_breath.toInt ≤ 9) (h_h_day : 0 ≤ h_day.toInt ∧ h_day.toInt ≤ 480) (sz : Nat) : Met l yX5_isUp (Cond.code yX5_isUp cX5_isUp 3 (some .boolean) :: kWS) ({ frames := 11, cells := 0, slots := 0, locals := 360 }) (kPre D cy sa [.ref ma, .ref ha, .int b0] [(ma, .inr (7, [.ref ma_without, .ref ma_did, .int m_now, .int m_mind, .int m_way, .int m_done, .int m_abed, .int m_harm, .int m_worth, .int m_passes])), (ha, .inr (4, [.ref ha_x, .ref ha_y, .ref ha_holds, .ref ha_needs, .ref ha_harm, .ref ha_worth, .ref ha_joint, .ref ha_habit, .ref ha_sleepsFrom, .ref ha_sleepsTo, .ref ha_criesDrifted, .ref ha_criesElse, .int h_bodies, .int h_joints, .int h_breath, .int h_stride, .int h_day])), (ha_sleepsFrom, .inl (cy 0, 9, .inl hf_sleepsFrom)), (ha_sleepsTo, .inl (cy 0, 9, .inl hf_sleepsTo))] sz) (va_Qi (fun (r : Int32) (u : Unit) => (r.toInt = 0 ∨ r.toInt = 1)) (kB D (va_A [(ma, .inr (7, [.ref ma_without, .ref ma_did, .int m_now, .int m_mind, .int m_way, .int m_done, .int m_abed, .int m_harm, .int m_worth, .int m_passes])), (ha, .inr (4, [.ref ha_x, .ref ha_y, .ref ha_holds, .ref ha_needs, .ref ha_harm, .ref ha_worth, .ref ha_joint, .ref ha_habit, .ref ha_sleepsFrom, .ref ha_sleepsTo, .ref ha_criesDrifted, .ref ha_criesElse, .int h_bodies, .int h_joints, .int h_breath, .int h_stride, .int h_day])), (ha_sleepsFrom, .inl (cy 0, 9, .inl hf_sleepsFrom)), (ha_sleepsTo, .inl (cy 0, 9, .inl hf_sleepsTo))] sz) (fun (u : Unit) => [(ma, .inr (7, [.ref ma_without, .ref ma_did, .int m_now, .int m_mind, .int m_way, .int m_done, .int m_abed, .int m_harm, .int m_worth, .int m_passes])), (ha, .inr (4, [.ref ha_x, .ref ha_y, .ref ha_holds, .ref ha_needs, .ref ha_harm, .ref ha_worth, .ref ha_joint, .ref ha_habit, .ref ha_sleepsFrom, .ref ha_sleepsTo, .ref ha_criesDrifted, .ref ha_criesElse, .int h_bodies, .int h_joints, .int h_breath, .int h_stride, .int h_day])), (ha_sleepsFrom, .inl (cy 0, 9, .inl hf_sleepsFrom)), (ha_sleepsTo, .inl (cy 0, 9, .inl hf_sleepsTo))])) (va_A [(ma, .inr (7, [.ref ma_without, .ref ma_did, .int m_now, .int m_mind, .int m_way, .int m_done, .int m_abed, .int m_harm, .int m_worth, .int m_passes])), (ha, .inr (4, [.ref ha_x, .ref ha_y, .ref ha_holds, .ref ha_needs, .ref ha_harm, .ref ha_worth, .ref ha_joint, .ref ha_habit, .ref ha_sleepsFrom, .ref ha_sleepsTo, .ref ha_criesDrifted, .ref ha_criesElse, .int h_bodies, .int h_joints, .int h_breath, .int h_stride, .int h_day])), (ha_sleepsFrom, .inl (cy 0, 9, .inl hf_sleepsFrom)), (ha_sleepsTo, .inl (cy 0, 9, .inl hf_sleepsTo))] sz)) 0 0 (va_A [(ma, .inr (7, [.ref ma_without, .ref ma_did, .int m_now, .int m_mind, .int m_way, .int m_done, .int m_abed, .int m_harm, .int m_worth, .int m_passes])), (ha, .inr (4, [.ref ha_x, .ref ha_y, .ref ha_holds, .ref ha_needs, .ref ha_harm, .ref ha_worth, .ref ha_joint, .ref ha_habit, .ref ha_sleepsFrom, .ref ha_sleepsTo, .ref ha_criesDrifted, .ref ha_criesElse, .int h_bodies, .int h_joints, .int h_breath, .int h_stride, .int h_day])), (ha_sleepsFrom, .inl (cy 0, 9, .inl hf_sleepsFrom)), (ha_sleepsTo, .inl (cy 0, 9, .inl hf_sleepsTo))] sz) := by
  refine k_ofW (y := yX5_isUp) (cc := cX5_isUp) (maxL := 3) (ret := (some .boolean)) (av := [.ref ma, .ref ha, .int b0]) (ws := [(ma, .inr (7, [.ref ma_without, .ref ma_did, .int m_now, .int m_mind, .int m_way, .int m_done, .int m_abed, .int m_harm, .int m_worth, .int m_passes])), (ha, .inr (4, [.ref ha_x, .ref ha_y, .ref ha_holds, .ref ha_needs, .ref ha_harm, .ref ha_worth, .ref ha_joint, .ref ha_habit, .ref ha_sleepsFrom, .ref ha_sleepsTo, .ref ha_criesDrifted, .ref ha_criesElse, .int h_bodies, .int h_joints, .int h_breath, .int h_stride, .int h_day])), (ha_sleepsFrom, .inl (cy 0, 9, .inl hf_sleepsFrom)), (ha_sleepsTo, .inl (cy 0, 9, .inl hf_sleepsTo))]) (Qc := fun A => (va_Qi (fun (r : Int32) (u : Unit) => (r.toInt = 0 ∨ r.toInt = 1)) (kB D A (fun (u : Unit) => [(ma, .inr (7, [.ref ma_without, .ref ma_did, .int m_now, .int m_mind, .int m_way, .int m_done, .int m_abed, .int m_harm, .int m_worth, .int m_passes])), (ha, .inr (4, [.ref ha_x, .ref ha_y, .ref ha_holds, .ref ha_needs, .ref ha_harm, .ref ha_worth, .ref ha_joint, .ref ha_habit, .ref ha_sleepsFrom, .ref ha_sleepsTo, .ref ha_criesDrifted, .ref ha_criesElse, .int h_bodies, .int h_joints, .int h_breath, .int h_stride, .int h_day])), (ha_sleepsFrom, .inl (cy 0, 9, .inl hf_sleepsFrom)), (ha_sleepsTo, .inl (cy 0, 9, .inl hf_sleepsTo))])) A)) (by decide) (Nat.le_of_ble_eq_true rfl) ?_
  intro p e s m below meth c ls A E hA hP hD hG hS hl
  obtain ⟨Q0, hQ0⟩ : ∃ Q0 : State → Prop, Q0 = MQ below (va_Qi (fun (r : Int32) (u : Unit) => (r.toInt = 0 ∨ r.toInt = 1)) (kB D A (fun (u : Unit) => [(ma, .inr (7, [.ref ma_without, .ref ma_did, .int m_now, .int m_mind, .int m_way, .int m_done, .int m_abed, .int m_harm, .int m_worth, .int m_passes])), (ha, .inr (4, [.ref ha_x, .ref ha_y, .ref ha_holds, .ref ha_needs, .ref ha_harm, .ref ha_worth, .ref ha_joint, .ref ha_habit, .ref ha_sleepsFrom, .ref ha_sleepsTo, .ref ha_criesDrifted, .ref ha_criesElse, .int h_bodies, .int h_joints, .int h_breath, .int h_stride, .int h_day])), (ha_sleepsFrom, .inl (cy 0, 9, .inl hf_sleepsFrom)), (ha_sleepsTo, .inl (cy 0, 9, .inl hf_sleepsTo))])) A) ([.ref ma, .ref ha, .int b0] : List Value).toArray s 0 0 A := ⟨_, rfl⟩
  rw [← hQ0]
  obtain ⟨hx, hb, hml, hown, hts, hr, hlk, hnm⟩ := id E
  have hown : s.vm.findClass RX5 = some m.cls := hown
  have hl : lv_has ls 3 [(0, .ref ma), (1, .ref ha), (2, .int b0)] := hl
  have g_b0 := k_rng b0
  obtain ⟨H, hH⟩ : ∃ H, H = s.heap := ⟨_, rfl⟩
  have hP : va_P D vwCl [(ma, .inr (7, [.ref ma_without, .ref ma_did, .int m_now, .int m_mind, .int m_way, .int m_done, .int m_abed, .int m_harm, .int m_worth, .int m_passes])), (ha, .inr (4, [.ref ha_x, .ref ha_y, .ref ha_holds, .ref ha_needs, .ref ha_harm, .ref ha_worth, .ref ha_joint, .ref ha_habit, .ref ha_sleepsFrom, .ref ha_sleepsTo, .ref ha_criesDrifted, .ref ha_criesElse, .int h_bodies, .int h_joints, .int h_breath, .int h_stride, .int h_day])), (ha_sleepsFrom, .inl (cy 0, 9, .inl hf_sleepsFrom)), (ha_sleepsTo, .inl (cy 0, 9, .inl hf_sleepsTo))] H := by rw [hH]; exact hP
  have hS : va_S A s.heap H [] := by rw [hH]; exact va_S.rf
  rw [← hH]
  clear hH
  obtain ⟨locs, hlocs⟩ : ∃ locs : List Loc, locs = [] := ⟨_, rfl⟩
  rw [← hlocs] at hS ⊢
  refine lv_aload_n hx hb dX5_isUp_0 rfl (lv_at hl 0 rfl) ?_
  refine va_get (D := D) (ci := 7) (v := .int m_done) (C := RX5) (T := TX5) (N := 10) hx hb hts kin_RX5 hown hG.1 hP 0 rfl rfl 5 (by decide) (hts _ wm_199) (fun _ h9 => h9) rfl dX5_isUp_1 ?_
  refine lv_aload_n hx hb dX5_isUp_4 rfl (lv_at hl 0 rfl) ?_
  refine va_get (D := D) (ci := 7) (v := .int m_abed) (C := RX5) (T := TX5) (N := 10) hx hb hts kin_RX5 hown hG.1 hP 0 rfl rfl 6 (by decide) (hts _ wm_201) (fun _ h9 => h9) rfl dX5_isUp_5 ?_
  refine lv_ior hx hb dX5_isUp_8 ?_
  refine lv_topi (fun x1q ex1q => ?_)
  refine lv_iload_n hx hb dX5_isUp_9 rfl (lv_at hl 2 rfl) ?_
  refine lv_ishr hx hb dX5_isUp_10 ?_
  refine lv_topi (fun x2q ex2q => ?_)
  refine lv_iconst (v := 1) hx hb dX5_isUp_11 (by decide) ?_
  refine lv_iand hx hb dX5_isUp_12 ?_
  refine lv_topi (fun x3q ex3q => ?_)
  have rx3q := n_and ex3q (b := 1) n_L1 (by omega)
  refine lv_if_ne (tgt := 29) hx hb dX5_isUp_13 (by decide) (fun c4q => ?_) (fun c4q => ?_)
  · simp only [k_lt, k_le, k_eq, ne_eq, ge_iff_le, gt_iff_lt, n_L0, n_L0] at c4q
    refine lv_iconst (v := 0) hx hb dX5_isUp_29 (by decide) ?_
    rw [hQ0]
    exact k_zret () hx hb hr hlk (k_nz (by decide)) ((by show (0 : Int32).toInt = 0 ∨ (0 : Int32).toInt = 1; rw [n_L0]; omega)) (hP.sub [0, 1, 2, 3] rfl) (hD.sub [0, 1, 2, 3] (by decide) rfl) hS (by decide) (by decide) dX5_isUp_30
  · simp only [k_lt, k_le, k_eq, ne_eq, ge_iff_le, gt_iff_lt, n_L0, n_L0] at c4q
    refine lv_aload_n hx hb dX5_isUp_16 rfl (lv_at hl 0 rfl) ?_
    refine lv_aload_n hx hb dX5_isUp_17 rfl (lv_at hl 1 rfl) ?_
    refine lv_iload_n hx hb dX5_isUp_18 rfl (lv_at hl 2 rfl) ?_
    refine k_cali [] (⟨hP, hD, hG, hS, hA, rfl, rfl⟩ : kAt D cy sa A s H _ _ [(ma, .inr (7, [.ref ma_without, .ref ma_did, .int m_now, .int m_mind, .int m_way, .int m_done, .int m_abed, .int m_harm, .int m_worth, .int m_passes])), (ha, .inr (4, [.ref ha_x, .ref ha_y, .ref ha_holds, .ref ha_needs, .ref ha_harm, .ref ha_worth, .ref ha_joint, .ref ha_habit, .ref ha_sleepsFrom, .ref ha_sleepsTo, .ref ha_criesDrifted, .ref ha_criesElse, .int h_bodies, .int h_joints, .int h_breath, .int h_stride, .int h_day])), (ha_sleepsFrom, .inl (cy 0, 9, .inl hf_sleepsFrom)), (ha_sleepsTo, .inl (cy 0, 9, .inl hf_sleepsTo))] [0, 1, 2, 3]) (wr := []) rfl rfl (by decide) (k_runV 7 0 (As := [.ref ha, .int b0]) (rest := []) E lk_VRX5_66 rfl rfl rfl (c_isAsleep l hl0 D cy sa ma ma_without ma_did ha ha_x ha_y ha_holds ha_needs ha_harm ha_worth ha_joint ha_habit ha_sleepsFrom ha_sleepsTo ha_criesDrifted ha_criesElse m_now m_mind m_way m_done m_abed m_harm m_worth m_passes h_bodies h_joints h_breath h_stride h_day b0 hf_sleepsFrom hf_sleepsTo ⟨by omega, by omega⟩ ⟨by omega, by omega⟩ ⟨by omega, by omega⟩ ⟨by omega, by omega⟩ ⟨by omega, by omega⟩ H.size) (⟨hP, hD, hG, hS, hA, rfl, rfl⟩ : kAt D cy sa A s H _ _ [(ma, .inr (7, [.ref ma_without, .ref ma_did, .int m_now, .int m_mind, .int m_way, .int m_done, .int m_abed, .int m_harm, .int m_worth, .int m_passes])), (ha, .inr (4, [.ref ha_x, .ref ha_y, .ref ha_holds, .ref ha_needs, .ref ha_harm, .ref ha_worth, .ref ha_joint, .ref ha_habit, .ref ha_sleepsFrom, .ref ha_sleepsTo, .ref ha_criesDrifted, .ref ha_criesElse, .int h_bodies, .int h_joints, .int h_breath, .int h_stride, .int h_day])), (ha_sleepsFrom, .inl (cy 0, 9, .inl hf_sleepsFrom)), (ha_sleepsTo, .inl (cy 0, 9, .inl hf_sleepsTo))] [0, 1, 2, 3]) hl.1 rfl rfl ⟨rfl, rfl, ⟨Nat.le_of_ble_eq_true rfl, Nat.le_of_ble_eq_true rfl⟩, ⟨Nat.le_of_ble_eq_true rfl, Nat.le_of_ble_eq_true rfl⟩, Nat.le_of_ble_eq_true rfl⟩ dX5_isUp_19) (fun r5q u6q H locs hwu6q hP hD hS => ?_)
    have hP : va_P D vwCl [(ma, .inr (7, [.ref ma_without, .ref ma_did, .int m_now, .int m_mind, .int m_way, .int m_done, .int m_abed, .int m_harm, .int m_worth, .int m_passes])), (ha, .inr (4, [.ref ha_x, .ref ha_y, .ref ha_holds, .ref ha_needs, .ref ha_harm, .ref ha_worth, .ref ha_joint, .ref ha_habit, .ref ha_sleepsFrom, .ref ha_sleepsTo, .ref ha_criesDrifted, .ref ha_criesElse, .int h_bodies, .int h_joints, .int h_breath, .int h_stride, .int h_day])), (ha_sleepsFrom, .inl (cy 0, 9, .inl hf_sleepsFrom)), (ha_sleepsTo, .inl (cy 0, 9, .inl hf_sleepsTo))] H := hP
    have hD : va_D A [(ma, .inr (7, [.ref ma_without, .ref ma_did, .int m_now, .int m_mind, .int m_way, .int m_done, .int m_abed, .int m_harm, .int m_worth, .int m_passes])), (ha, .inr (4, [.ref ha_x, .ref ha_y, .ref ha_holds, .ref ha_needs, .ref ha_harm, .ref ha_worth, .ref ha_joint, .ref ha_habit, .ref ha_sleepsFrom, .ref ha_sleepsTo, .ref ha_criesDrifted, .ref ha_criesElse, .int h_bodies, .int h_joints, .int h_breath, .int h_stride, .int h_day])), (ha_sleepsFrom, .inl (cy 0, 9, .inl hf_sleepsFrom)), (ha_sleepsTo, .inl (cy 0, 9, .inl hf_sleepsTo))] := hD
    have p7q := hwu6q
    refine lv_if_ne (tgt := 29) hx hb dX5_isUp_22 (by decide) (fun c8q => ?_) (fun c8q => ?_)
    · simp only [k_lt, k_le, k_eq, ne_eq, ge_iff_le, gt_iff_lt, n_L0, n_L0] at c8q
      refine lv_iconst (v := 0) hx hb dX5_isUp_29 (by decide) ?_
      rw [hQ0]
      exact k_zret () hx hb hr hlk (k_nz (by decide)) ((by show (0 : Int32).toInt = 0 ∨ (0 : Int32).toInt = 1; rw [n_L0]; omega)) (hP.sub [0, 1, 2, 3] rfl) (hD.sub [0, 1, 2, 3] (by decide) rfl) hS (by decide) (by decide) dX5_isUp_30
    · simp only [k_lt, k_le, k_eq, ne_eq, ge_iff_le, gt_iff_lt, n_L0, n_L0] at c8q
      refine lv_iconst (v := 1) hx hb dX5_isUp_25 (by decide) ?_
      refine lv_goto (tgt := 30) hx hb dX5_isUp_26 (by decide) ?_
      rw [hQ0]
      exact k_zret () hx hb hr hlk (k_nz (by decide)) ((by show (1 : Int32).toInt = 0 ∨ (1 : Int32).toInt = 1; rw [n_L1]; omega)) (hP.sub [0, 1, 2, 3] rfl) (hD.sub [0, 1, 2, 3] (by decide) rfl) hS (by decide) (by decide) dX5_isUp_30

set_option maxHeartbeats 4000000 in
set_option maxRecDepth 100000 in
/-- Moment.hold -/
theorem c_hold (l : Launch) (hl0 : l.stackTraces = false) (D : va_G) (cy : Nat → ClassId) (sa : Nat → Nat) (ma ma_without ma_did ha ha_x ha_y ha_holds ha_needs ha_harm ha_worth ha_joint ha_habit ha_sleepsFrom ha_sleepsTo ha_criesDrifted ha_criesElse : Nat) (m_now m_mind m_way m_done m_abed m_harm m_worth m_passes h_bodies h_joints h_breath h_stride h_day b0 : Int32) (mf_did hf_holds hf_habit : Nat → Int32) (h_m_now : 0 ≤ m_now.toInt ∧ m_now.toInt ≤ 480) (h_m_mind : -1 ≤ m_mind.toInt ∧ m_mind.toInt ≤ 8) (h_mf_did : rowR 9 0 (5000) mf_did) (h_h_bodies : 0 ≤ h_bodies.toInt ∧ h_bodies.toInt ≤ 9) (h_h_breath : 0 ≤ h_breath.toInt ∧ h_breath.toInt ≤ 9) (h_h_day : 0 ≤ h_day.toInt ∧ h_day.toInt ≤ 480) (h_hf_holds : rowR 9 0 (60) hf_holds) (sz : Nat) : Met l yX5_hold (Cond.code yX5_hold cX5_hold 4 (some .int) :: kWS) ({ frames := 10, cells := 0, slots := 0, locals := 300 }) (kPre D cy sa [.ref ma, .ref ha, .int b0] [(ma, .inr (7, [.ref ma_without, .ref ma_did, .int m_now, .int m_mind, .int m_way, .int m_done, .int m_abed, .int m_harm, .int m_worth, .int m_passes])), (ma_did, .inl (cy 0, 9, .inl mf_did)), (ha, .inr (4, [.ref ha_x, .ref ha_y, .ref ha_holds, .ref ha_needs, .ref ha_harm, .ref ha_worth, .ref ha_joint, .ref ha_habit, .ref ha_sleepsFrom, .ref ha_sleepsTo, .ref ha_criesDrifted, .ref ha_criesElse, .int h_bodies, .int h_joints, .int h_breath, .int h_stride, .int h_day])), (ha_holds, .inl (cy 0, 9, .inl hf_holds)), (ha_habit, .inl (cy 0, 9, .inl hf_habit))] sz) (va_Qi (fun (r : Int32) (u : Unit) => (0 ≤ r.toInt ∧ r.toInt ≤ 60)) (kB D (va_A [(ma, .inr (7, [.ref ma_without, .ref ma_did, .int m_now, .int m_mind, .int m_way, .int m_done, .int m_abed, .int m_harm, .int m_worth, .int m_passes])), (ma_did, .inl (cy 0, 9, .inl mf_did)), (ha, .inr (4, [.ref ha_x, .ref ha_y, .ref ha_holds, .ref ha_needs, .ref ha_harm, .ref ha_worth, .ref ha_joint, .ref ha_habit, .ref ha_sleepsFrom, .ref ha_sleepsTo, .ref ha_criesDrifted, .ref ha_criesElse, .int h_bodies, .int h_joints, .int h_breath, .int h_stride, .int h_day])), (ha_holds, .inl (cy 0, 9, .inl hf_holds)), (ha_habit, .inl (cy 0, 9, .inl hf_habit))] sz) (fun (u : Unit) => [(ma, .inr (7, [.ref ma_without, .ref ma_did, .int m_now, .int m_mind, .int m_way, .int m_done, .int m_abed, .int m_harm, .int m_worth, .int m_passes])), (ma_did, .inl (cy 0, 9, .inl mf_did)), (ha, .inr (4, [.ref ha_x, .ref ha_y, .ref ha_holds, .ref ha_needs, .ref ha_harm, .ref ha_worth, .ref ha_joint, .ref ha_habit, .ref ha_sleepsFrom, .ref ha_sleepsTo, .ref ha_criesDrifted, .ref ha_criesElse, .int h_bodies, .int h_joints, .int h_breath, .int h_stride, .int h_day])), (ha_holds, .inl (cy 0, 9, .inl hf_holds)), (ha_habit, .inl (cy 0, 9, .inl hf_habit))])) (va_A [(ma, .inr (7, [.ref ma_without, .ref ma_did, .int m_now, .int m_mind, .int m_way, .int m_done, .int m_abed, .int m_harm, .int m_worth, .int m_passes])), (ma_did, .inl (cy 0, 9, .inl mf_did)), (ha, .inr (4, [.ref ha_x, .ref ha_y, .ref ha_holds, .ref ha_needs, .ref ha_harm, .ref ha_worth, .ref ha_joint, .ref ha_habit, .ref ha_sleepsFrom, .ref ha_sleepsTo, .ref ha_criesDrifted, .ref ha_criesElse, .int h_bodies, .int h_joints, .int h_breath, .int h_stride, .int h_day])), (ha_holds, .inl (cy 0, 9, .inl hf_holds)), (ha_habit, .inl (cy 0, 9, .inl hf_habit))] sz)) 0 0 (va_A [(ma, .inr (7, [.ref ma_without, .ref ma_did, .int m_now, .int m_mind, .int m_way, .int m_done, .int m_abed, .int m_harm, .int m_worth, .int m_passes])), (ma_did, .inl (cy 0, 9, .inl mf_did)), (ha, .inr (4, [.ref ha_x, .ref ha_y, .ref ha_holds, .ref ha_needs, .ref ha_harm, .ref ha_worth, .ref ha_joint, .ref ha_habit, .ref ha_sleepsFrom, .ref ha_sleepsTo, .ref ha_criesDrifted, .ref ha_criesElse, .int h_bodies, .int h_joints, .int h_breath, .int h_stride, .int h_day])), (ha_holds, .inl (cy 0, 9, .inl hf_holds)), (ha_habit, .inl (cy 0, 9, .inl hf_habit))] sz) := by
  refine k_ofW (y := yX5_hold) (cc := cX5_hold) (maxL := 4) (ret := (some .int)) (av := [.ref ma, .ref ha, .int b0]) (ws := [(ma, .inr (7, [.ref ma_without, .ref ma_did, .int m_now, .int m_mind, .int m_way, .int m_done, .int m_abed, .int m_harm, .int m_worth, .int m_passes])), (ma_did, .inl (cy 0, 9, .inl mf_did)), (ha, .inr (4, [.ref ha_x, .ref ha_y, .ref ha_holds, .ref ha_needs, .ref ha_harm, .ref ha_worth, .ref ha_joint, .ref ha_habit, .ref ha_sleepsFrom, .ref ha_sleepsTo, .ref ha_criesDrifted, .ref ha_criesElse, .int h_bodies, .int h_joints, .int h_breath, .int h_stride, .int h_day])), (ha_holds, .inl (cy 0, 9, .inl hf_holds)), (ha_habit, .inl (cy 0, 9, .inl hf_habit))]) (Qc := fun A => (va_Qi (fun (r : Int32) (u : Unit) => (0 ≤ r.toInt ∧ r.toInt ≤ 60)) (kB D A (fun (u : Unit) => [(ma, .inr (7, [.ref ma_without, .ref ma_did, .int m_now, .int m_mind, .int m_way, .int m_done, .int m_abed, .int m_harm, .int m_worth, .int m_passes])), (ma_did, .inl (cy 0, 9, .inl mf_did)), (ha, .inr (4, [.ref ha_x, .ref ha_y, .ref ha_holds, .ref ha_needs, .ref ha_harm, .ref ha_worth, .ref ha_joint, .ref ha_habit, .ref ha_sleepsFrom, .ref ha_sleepsTo, .ref ha_criesDrifted, .ref ha_criesElse, .int h_bodies, .int h_joints, .int h_breath, .int h_stride, .int h_day])), (ha_holds, .inl (cy 0, 9, .inl hf_holds)), (ha_habit, .inl (cy 0, 9, .inl hf_habit))])) A)) (by decide) (Nat.le_of_ble_eq_true rfl) ?_
  intro p e s m below meth c ls A E hA hP hD hG hS hl
  obtain ⟨Q0, hQ0⟩ : ∃ Q0 : State → Prop, Q0 = MQ below (va_Qi (fun (r : Int32) (u : Unit) => (0 ≤ r.toInt ∧ r.toInt ≤ 60)) (kB D A (fun (u : Unit) => [(ma, .inr (7, [.ref ma_without, .ref ma_did, .int m_now, .int m_mind, .int m_way, .int m_done, .int m_abed, .int m_harm, .int m_worth, .int m_passes])), (ma_did, .inl (cy 0, 9, .inl mf_did)), (ha, .inr (4, [.ref ha_x, .ref ha_y, .ref ha_holds, .ref ha_needs, .ref ha_harm, .ref ha_worth, .ref ha_joint, .ref ha_habit, .ref ha_sleepsFrom, .ref ha_sleepsTo, .ref ha_criesDrifted, .ref ha_criesElse, .int h_bodies, .int h_joints, .int h_breath, .int h_stride, .int h_day])), (ha_holds, .inl (cy 0, 9, .inl hf_holds)), (ha_habit, .inl (cy 0, 9, .inl hf_habit))])) A) ([.ref ma, .ref ha, .int b0] : List Value).toArray s 0 0 A := ⟨_, rfl⟩
  rw [← hQ0]
  obtain ⟨hx, hb, hml, hown, hts, hr, hlk, hnm⟩ := id E
  have hown : s.vm.findClass RX5 = some m.cls := hown
  have hl : lv_has ls 4 [(0, .ref ma), (1, .ref ha), (2, .int b0)] := hl
  have g_b0 := k_rng b0
  obtain ⟨H, hH⟩ : ∃ H, H = s.heap := ⟨_, rfl⟩
  have hP : va_P D vwCl [(ma, .inr (7, [.ref ma_without, .ref ma_did, .int m_now, .int m_mind, .int m_way, .int m_done, .int m_abed, .int m_harm, .int m_worth, .int m_passes])), (ma_did, .inl (cy 0, 9, .inl mf_did)), (ha, .inr (4, [.ref ha_x, .ref ha_y, .ref ha_holds, .ref ha_needs, .ref ha_harm, .ref ha_worth, .ref ha_joint, .ref ha_habit, .ref ha_sleepsFrom, .ref ha_sleepsTo, .ref ha_criesDrifted, .ref ha_criesElse, .int h_bodies, .int h_joints, .int h_breath, .int h_stride, .int h_day])), (ha_holds, .inl (cy 0, 9, .inl hf_holds)), (ha_habit, .inl (cy 0, 9, .inl hf_habit))] H := by rw [hH]; exact hP
  have hS : va_S A s.heap H [] := by rw [hH]; exact va_S.rf
  rw [← hH]
  clear hH
  obtain ⟨locs, hlocs⟩ : ∃ locs : List Loc, locs = [] := ⟨_, rfl⟩
  rw [← hlocs] at hS ⊢
  refine lv_iload_n hx hb dX5_hold_0 rfl (lv_at hl 2 rfl) ?_
  refine lv_if_lt (tgt := 10) hx hb dX5_hold_1 (by decide) (fun c1q => ?_) (fun c1q => ?_)
  · simp only [k_lt, k_le, k_eq, ne_eq, ge_iff_le, gt_iff_lt, n_L0, n_L0] at c1q
    refine lv_iconst (v := 0) hx hb dX5_hold_10 (by decide) ?_
    rw [hQ0]
    exact k_iret () hx hb hr hlk ((by show 0 ≤ (0 : Int32).toInt ∧ (0 : Int32).toInt ≤ 60; rw [n_L0]; omega)) (hP.sub [0, 1, 2, 3, 4] rfl) (hD.sub [0, 1, 2, 3, 4] (by decide) rfl) hS (by decide) (by decide) dX5_hold_11
  · simp only [k_lt, k_le, k_eq, ne_eq, ge_iff_le, gt_iff_lt, n_L0, n_L0] at c1q
    refine lv_iload_n hx hb dX5_hold_4 rfl (lv_at hl 2 rfl) ?_
    refine lv_bipush (v := 9) hx hb dX5_hold_5 (by decide) ?_
    refine lv_icmp_lt (tgt := 12) hx hb dX5_hold_7 (by decide) (fun c2q => ?_) (fun c2q => ?_)
    · simp only [k_lt, k_le, k_eq, ne_eq, ge_iff_le, gt_iff_lt, n_L9] at c2q
      refine lv_aload_n hx hb dX5_hold_12 rfl (lv_at hl 1 rfl) ?_
      refine va_get (D := D) (ci := 4) (v := .ref ha_habit) (C := RX2) (T := TX2) (N := 17) hx hb hts kin_RX2 hown hG.1 hP 2 rfl rfl 7 (by decide) (hts _ wm_101) (fun _ h9 => h9) rfl dX5_hold_13 ?_
      refine lv_iload_n hx hb dX5_hold_16 rfl (lv_at hl 2 rfl) ?_
      refine va_iald hx hb hG.1 hP 4 0 rfl rfl (n_in (by omega) (by omega)) dX5_hold_17 ?_
      refine lv_topi (fun x3q ex3q => ?_)
      refine lv_istore_n (lv' := [(3, .int x3q), (0, .ref ma), (1, .ref ha), (2, .int b0)]) hx hb dX5_hold_18 rfl hl (by decide) rfl (fun ls hl => ?_)
      refine lv_iload_n hx hb dX5_hold_19 rfl (lv_at hl 0 rfl) ?_
      refine lv_iconst (v := 1) hx hb dX5_hold_20 (by decide) ?_
      refine lv_icmp_ge (tgt := 31) hx hb dX5_hold_21 (by decide) (fun c4q => ?_) (fun c4q => ?_)
      · simp only [k_lt, k_le, k_eq, ne_eq, ge_iff_le, gt_iff_lt, n_L1] at c4q
        refine lv_aload_n hx hb dX5_hold_31 rfl (lv_at hl 2 rfl) ?_
        refine va_get (D := D) (ci := 4) (v := .ref ha_holds) (C := RX2) (T := TX2) (N := 17) hx hb hts kin_RX2 hown hG.1 hP 2 rfl rfl 2 (by decide) (hts _ wm_81) (fun _ h9 => h9) rfl dX5_hold_32 ?_
        refine lv_iload_n hx hb dX5_hold_35 rfl (lv_at hl 3 rfl) ?_
        refine va_iald hx hb hG.1 hP 3 0 rfl rfl (n_in (by omega) (by omega)) dX5_hold_36 ?_
        refine lv_topi (fun x5q ex5q => ?_)
        have rx5q : 0 ≤ x5q.toInt ∧ x5q.toInt ≤ 60 := by rw [ex5q]; exact h_hf_holds _ (n_lt (by omega) (by omega))
        refine lv_aload_n hx hb dX5_hold_37 rfl (lv_at hl 1 rfl) ?_
        refine va_get (D := D) (ci := 7) (v := .ref ma_did) (C := RX5) (T := TX5) (N := 10) hx hb hts kin_RX5 hown hG.1 hP 0 rfl rfl 1 (by decide) (hts _ wm_181) (fun _ h9 => h9) rfl dX5_hold_38 ?_
        refine lv_iload_n hx hb dX5_hold_41 rfl (lv_at hl 3 rfl) ?_
        refine va_iald hx hb hG.1 hP 1 0 rfl rfl (n_in (by omega) (by omega)) dX5_hold_42 ?_
        refine lv_topi (fun x6q ex6q => ?_)
        have rx6q : 0 ≤ x6q.toInt ∧ x6q.toInt ≤ 5000 := by rw [ex6q]; exact h_mf_did _ (n_lt (by omega) (by omega))
        refine lv_iload_n hx hb dX5_hold_43 rfl (lv_at hl 0 rfl) ?_
        refine lv_idiv hx hb dX5_hold_44 (n_ne (by omega)) ?_
        refine lv_topi (fun x7q ex7q => ?_)
        have gx7q := k_rng x3q
        have rx7q := n_divR ex7q (by omega) (by omega)
        refine lv_iadd hx hb dX5_hold_45 ?_
        refine lv_topi (fun x8q ex8q => ?_)
        have rx8q := n_add ex8q (a := x5q.toInt) (b := x7q.toInt) rfl rfl (by omega) (by omega)
        refine lv_bipush (v := 60) hx hb dX5_hold_46 (by decide) ?_
        refine va_mmin hx hb (hml.trans hl.1.symm) hown (hts _ wm_518) (hts _ wm_519) (hts _ wm_17) (hts _ wm_520) (Nat.le_of_ble_eq_true rfl) (Nat.le_of_ble_eq_true rfl) (Nat.le_of_ble_eq_true rfl) (Nat.le_of_ble_eq_true rfl) dX5_hold_48 ?_
        refine lv_topi (fun x9q ex9q => ?_)
        have rx9q := n_min ex9q (a := x8q.toInt) (b := 60) rfl n_L60
        rw [hQ0]
        exact k_iret () hx hb hr hlk ((show 0 ≤ x9q.toInt ∧ x9q.toInt ≤ 60 by omega)) (hP.sub [0, 1, 2, 3, 4] rfl) (hD.sub [0, 1, 2, 3, 4] (by decide) rfl) hS (by decide) (by decide) dX5_hold_51
      · simp only [k_lt, k_le, k_eq, ne_eq, ge_iff_le, gt_iff_lt, n_L1] at c4q
        refine lv_aload_n hx hb dX5_hold_24 rfl (lv_at hl 2 rfl) ?_
        refine va_get (D := D) (ci := 4) (v := .ref ha_holds) (C := RX2) (T := TX2) (N := 17) hx hb hts kin_RX2 hown hG.1 hP 2 rfl rfl 2 (by decide) (hts _ wm_81) (fun _ h9 => h9) rfl dX5_hold_25 ?_
        refine lv_iload_n hx hb dX5_hold_28 rfl (lv_at hl 3 rfl) ?_
        refine va_iald hx hb hG.1 hP 3 0 rfl rfl (n_in (by omega) (by omega)) dX5_hold_29 ?_
        refine lv_topi (fun x10q ex10q => ?_)
        have rx10q : 0 ≤ x10q.toInt ∧ x10q.toInt ≤ 60 := by rw [ex10q]; exact h_hf_holds _ (n_lt (by omega) (by omega))
        rw [hQ0]
        exact k_iret () hx hb hr hlk ((show 0 ≤ x10q.toInt ∧ x10q.toInt ≤ 60 by omega)) (hP.sub [0, 1, 2, 3, 4] rfl) (hD.sub [0, 1, 2, 3, 4] (by decide) rfl) hS (by decide) (by decide) dX5_hold_30
    · simp only [k_lt, k_le, k_eq, ne_eq, ge_iff_le, gt_iff_lt, n_L9] at c2q
      refine lv_iconst (v := 0) hx hb dX5_hold_10 (by decide) ?_
      rw [hQ0]
      exact k_iret () hx hb hr hlk ((by show 0 ≤ (0 : Int32).toInt ∧ (0 : Int32).toInt ≤ 60; rw [n_L0]; omega)) (hP.sub [0, 1, 2, 3, 4] rfl) (hD.sub [0, 1, 2, 3, 4] (by decide) rfl) hS (by decide) (by decide) dX5_hold_11

set_option maxHeartbeats 4000000 in
set_option maxRecDepth 100000 in
/-- Moment.slack -/
theorem c_slack (l : Launch) (hl0 : l.stackTraces = false) (D : va_G) (cy : Nat → ClassId) (sa : Nat → Nat) (ma ma_without ma_did ha ha_x ha_y ha_holds ha_needs ha_harm ha_worth ha_joint ha_habit ha_sleepsFrom ha_sleepsTo ha_criesDrifted ha_criesElse : Nat) (m_now m_mind m_way m_done m_abed m_harm m_worth m_passes h_bodies h_joints h_breath h_stride h_day b0 : Int32) (mf_without mf_did hf_holds hf_habit : Nat → Int32) (h_m_now : 0 ≤ m_now.toInt ∧ m_now.toInt ≤ 480) (h_m_mind : -1 ≤ m_mind.toInt ∧ m_mind.toInt ≤ 8) (h_mf_did : rowR 9 0 (5000) mf_did) (h_h_bodies : 0 ≤ h_bodies.toInt ∧ h_bodies.toInt ≤ 9) (h_h_breath : 0 ≤ h_breath.toInt ∧ h_breath.toInt ≤ 9) (h_h_day : 0 ≤ h_day.toInt ∧ h_day.toInt ≤ 480) (h_hf_holds : rowR 9 0 (60) hf_holds) (sz : Nat) : Met l yX5_slack (Cond.code yX5_slack cX5_slack 3 (some .int) :: kWS) ({ frames := 11, cells := 0, slots := 0, locals := 360 }) (kPre D cy sa [.ref ma, .ref ha, .int b0] [(ma, .inr (7, [.ref ma_without, .ref ma_did, .int m_now, .int m_mind, .int m_way, .int m_done, .int m_abed, .int m_harm, .int m_worth, .int m_passes])), (ma_without, .inl (cy 0, 9, .inl mf_without)), (ma_did, .inl (cy 0, 9, .inl mf_did)), (ha, .inr (4, [.ref ha_x, .ref ha_y, .ref ha_holds, .ref ha_needs, .ref ha_harm, .ref ha_worth, .ref ha_joint, .ref ha_habit, .ref ha_sleepsFrom, .ref ha_sleepsTo, .ref ha_criesDrifted, .ref ha_criesElse, .int h_bodies, .int h_joints, .int h_breath, .int h_stride, .int h_day])), (ha_holds, .inl (cy 0, 9, .inl hf_holds)), (ha_habit, .inl (cy 0, 9, .inl hf_habit))] sz) (va_Qi (fun (r : Int32) (u : Unit) => True) (kB D (va_A [(ma, .inr (7, [.ref ma_without, .ref ma_did, .int m_now, .int m_mind, .int m_way, .int m_done, .int m_abed, .int m_harm, .int m_worth, .int m_passes])), (ma_without, .inl (cy 0, 9, .inl mf_without)), (ma_did, .inl (cy 0, 9, .inl mf_did)), (ha, .inr (4, [.ref ha_x, .ref ha_y, .ref ha_holds, .ref ha_needs, .ref ha_harm, .ref ha_worth, .ref ha_joint, .ref ha_habit, .ref ha_sleepsFrom, .ref ha_sleepsTo, .ref ha_criesDrifted, .ref ha_criesElse, .int h_bodies, .int h_joints, .int h_breath, .int h_stride, .int h_day])), (ha_holds, .inl (cy 0, 9, .inl hf_holds)), (ha_habit, .inl (cy 0, 9, .inl hf_habit))] sz) (fun (u : Unit) => [(ma, .inr (7, [.ref ma_without, .ref ma_did, .int m_now, .int m_mind, .int m_way, .int m_done, .int m_abed, .int m_harm, .int m_worth, .int m_passes])), (ma_without, .inl (cy 0, 9, .inl mf_without)), (ma_did, .inl (cy 0, 9, .inl mf_did)), (ha, .inr (4, [.ref ha_x, .ref ha_y, .ref ha_holds, .ref ha_needs, .ref ha_harm, .ref ha_worth, .ref ha_joint, .ref ha_habit, .ref ha_sleepsFrom, .ref ha_sleepsTo, .ref ha_criesDrifted, .ref ha_criesElse, .int h_bodies, .int h_joints, .int h_breath, .int h_stride, .int h_day])), (ha_holds, .inl (cy 0, 9, .inl hf_holds)), (ha_habit, .inl (cy 0, 9, .inl hf_habit))])) (va_A [(ma, .inr (7, [.ref ma_without, .ref ma_did, .int m_now, .int m_mind, .int m_way, .int m_done, .int m_abed, .int m_harm, .int m_worth, .int m_passes])), (ma_without, .inl (cy 0, 9, .inl mf_without)), (ma_did, .inl (cy 0, 9, .inl mf_did)), (ha, .inr (4, [.ref ha_x, .ref ha_y, .ref ha_holds, .ref ha_needs, .ref ha_harm, .ref ha_worth, .ref ha_joint, .ref ha_habit, .ref ha_sleepsFrom, .ref ha_sleepsTo, .ref ha_criesDrifted, .ref ha_criesElse, .int h_bodies, .int h_joints, .int h_breath, .int h_stride, .int h_day])), (ha_holds, .inl (cy 0, 9, .inl hf_holds)), (ha_habit, .inl (cy 0, 9, .inl hf_habit))] sz)) 0 0 (va_A [(ma, .inr (7, [.ref ma_without, .ref ma_did, .int m_now, .int m_mind, .int m_way, .int m_done, .int m_abed, .int m_harm, .int m_worth, .int m_passes])), (ma_without, .inl (cy 0, 9, .inl mf_without)), (ma_did, .inl (cy 0, 9, .inl mf_did)), (ha, .inr (4, [.ref ha_x, .ref ha_y, .ref ha_holds, .ref ha_needs, .ref ha_harm, .ref ha_worth, .ref ha_joint, .ref ha_habit, .ref ha_sleepsFrom, .ref ha_sleepsTo, .ref ha_criesDrifted, .ref ha_criesElse, .int h_bodies, .int h_joints, .int h_breath, .int h_stride, .int h_day])), (ha_holds, .inl (cy 0, 9, .inl hf_holds)), (ha_habit, .inl (cy 0, 9, .inl hf_habit))] sz) := by
  refine k_ofW (y := yX5_slack) (cc := cX5_slack) (maxL := 3) (ret := (some .int)) (av := [.ref ma, .ref ha, .int b0]) (ws := [(ma, .inr (7, [.ref ma_without, .ref ma_did, .int m_now, .int m_mind, .int m_way, .int m_done, .int m_abed, .int m_harm, .int m_worth, .int m_passes])), (ma_without, .inl (cy 0, 9, .inl mf_without)), (ma_did, .inl (cy 0, 9, .inl mf_did)), (ha, .inr (4, [.ref ha_x, .ref ha_y, .ref ha_holds, .ref ha_needs, .ref ha_harm, .ref ha_worth, .ref ha_joint, .ref ha_habit, .ref ha_sleepsFrom, .ref ha_sleepsTo, .ref ha_criesDrifted, .ref ha_criesElse, .int h_bodies, .int h_joints, .int h_breath, .int h_stride, .int h_day])), (ha_holds, .inl (cy 0, 9, .inl hf_holds)), (ha_habit, .inl (cy 0, 9, .inl hf_habit))]) (Qc := fun A => (va_Qi (fun (r : Int32) (u : Unit) => True) (kB D A (fun (u : Unit) => [(ma, .inr (7, [.ref ma_without, .ref ma_did, .int m_now, .int m_mind, .int m_way, .int m_done, .int m_abed, .int m_harm, .int m_worth, .int m_passes])), (ma_without, .inl (cy 0, 9, .inl mf_without)), (ma_did, .inl (cy 0, 9, .inl mf_did)), (ha, .inr (4, [.ref ha_x, .ref ha_y, .ref ha_holds, .ref ha_needs, .ref ha_harm, .ref ha_worth, .ref ha_joint, .ref ha_habit, .ref ha_sleepsFrom, .ref ha_sleepsTo, .ref ha_criesDrifted, .ref ha_criesElse, .int h_bodies, .int h_joints, .int h_breath, .int h_stride, .int h_day])), (ha_holds, .inl (cy 0, 9, .inl hf_holds)), (ha_habit, .inl (cy 0, 9, .inl hf_habit))])) A)) (by decide) (Nat.le_of_ble_eq_true rfl) ?_
  intro p e s m below meth c ls A E hA hP hD hG hS hl
  obtain ⟨Q0, hQ0⟩ : ∃ Q0 : State → Prop, Q0 = MQ below (va_Qi (fun (r : Int32) (u : Unit) => True) (kB D A (fun (u : Unit) => [(ma, .inr (7, [.ref ma_without, .ref ma_did, .int m_now, .int m_mind, .int m_way, .int m_done, .int m_abed, .int m_harm, .int m_worth, .int m_passes])), (ma_without, .inl (cy 0, 9, .inl mf_without)), (ma_did, .inl (cy 0, 9, .inl mf_did)), (ha, .inr (4, [.ref ha_x, .ref ha_y, .ref ha_holds, .ref ha_needs, .ref ha_harm, .ref ha_worth, .ref ha_joint, .ref ha_habit, .ref ha_sleepsFrom, .ref ha_sleepsTo, .ref ha_criesDrifted, .ref ha_criesElse, .int h_bodies, .int h_joints, .int h_breath, .int h_stride, .int h_day])), (ha_holds, .inl (cy 0, 9, .inl hf_holds)), (ha_habit, .inl (cy 0, 9, .inl hf_habit))])) A) ([.ref ma, .ref ha, .int b0] : List Value).toArray s 0 0 A := ⟨_, rfl⟩
  rw [← hQ0]
  obtain ⟨hx, hb, hml, hown, hts, hr, hlk, hnm⟩ := id E
  have hown : s.vm.findClass RX5 = some m.cls := hown
  have hl : lv_has ls 3 [(0, .ref ma), (1, .ref ha), (2, .int b0)] := hl
  have g_b0 := k_rng b0
  obtain ⟨H, hH⟩ : ∃ H, H = s.heap := ⟨_, rfl⟩
  have hP : va_P D vwCl [(ma, .inr (7, [.ref ma_without, .ref ma_did, .int m_now, .int m_mind, .int m_way, .int m_done, .int m_abed, .int m_harm, .int m_worth, .int m_passes])), (ma_without, .inl (cy 0, 9, .inl mf_without)), (ma_did, .inl (cy 0, 9, .inl mf_did)), (ha, .inr (4, [.ref ha_x, .ref ha_y, .ref ha_holds, .ref ha_needs, .ref ha_harm, .ref ha_worth, .ref ha_joint, .ref ha_habit, .ref ha_sleepsFrom, .ref ha_sleepsTo, .ref ha_criesDrifted, .ref ha_criesElse, .int h_bodies, .int h_joints, .int h_breath, .int h_stride, .int h_day])), (ha_holds, .inl (cy 0, 9, .inl hf_holds)), (ha_habit, .inl (cy 0, 9, .inl hf_habit))] H := by rw [hH]; exact hP
  have hS : va_S A s.heap H [] := by rw [hH]; exact va_S.rf
  rw [← hH]
  clear hH
  obtain ⟨locs, hlocs⟩ : ∃ locs : List Loc, locs = [] := ⟨_, rfl⟩
  rw [← hlocs] at hS ⊢
  refine lv_iload_n hx hb dX5_slack_0 rfl (lv_at hl 2 rfl) ?_
  refine lv_if_lt (tgt := 10) hx hb dX5_slack_1 (by decide) (fun c1q => ?_) (fun c1q => ?_)
  · simp only [k_lt, k_le, k_eq, ne_eq, ge_iff_le, gt_iff_lt, n_L0, n_L0] at c1q
    refine lv_iconst (v := 0) hx hb dX5_slack_10 (by decide) ?_
    refine lv_goto (tgt := 27) hx hb dX5_slack_11 (by decide) ?_
    rw [hQ0]
    exact k_iret () hx hb hr hlk (trivial) (hP.sub [0, 1, 2, 3, 4, 5] rfl) (hD.sub [0, 1, 2, 3, 4, 5] (by decide) rfl) hS (by decide) (by decide) dX5_slack_27
  · simp only [k_lt, k_le, k_eq, ne_eq, ge_iff_le, gt_iff_lt, n_L0, n_L0] at c1q
    refine lv_iload_n hx hb dX5_slack_4 rfl (lv_at hl 2 rfl) ?_
    refine lv_bipush (v := 9) hx hb dX5_slack_5 (by decide) ?_
    refine lv_icmp_lt (tgt := 14) hx hb dX5_slack_7 (by decide) (fun c2q => ?_) (fun c2q => ?_)
    · simp only [k_lt, k_le, k_eq, ne_eq, ge_iff_le, gt_iff_lt, n_L9] at c2q
      refine lv_aload_n hx hb dX5_slack_14 rfl (lv_at hl 0 rfl) ?_
      refine lv_aload_n hx hb dX5_slack_15 rfl (lv_at hl 1 rfl) ?_
      refine lv_iload_n hx hb dX5_slack_16 rfl (lv_at hl 2 rfl) ?_
      refine k_cali [1] (⟨hP, hD, hG, hS, hA, rfl, rfl⟩ : kAt D cy sa A s H _ _ [(ma, .inr (7, [.ref ma_without, .ref ma_did, .int m_now, .int m_mind, .int m_way, .int m_done, .int m_abed, .int m_harm, .int m_worth, .int m_passes])), (ma_did, .inl (cy 0, 9, .inl mf_did)), (ha, .inr (4, [.ref ha_x, .ref ha_y, .ref ha_holds, .ref ha_needs, .ref ha_harm, .ref ha_worth, .ref ha_joint, .ref ha_habit, .ref ha_sleepsFrom, .ref ha_sleepsTo, .ref ha_criesDrifted, .ref ha_criesElse, .int h_bodies, .int h_joints, .int h_breath, .int h_stride, .int h_day])), (ha_holds, .inl (cy 0, 9, .inl hf_holds)), (ha_habit, .inl (cy 0, 9, .inl hf_habit))] [0, 2, 3, 4, 5]) (wr := [(ma_without, .inl (cy 0, 9, .inl mf_without))]) rfl rfl (by decide) (k_runV 7 0 (As := [.ref ha, .int b0]) (rest := []) E lk_VRX5_82 rfl rfl rfl (c_hold l hl0 D cy sa ma ma_without ma_did ha ha_x ha_y ha_holds ha_needs ha_harm ha_worth ha_joint ha_habit ha_sleepsFrom ha_sleepsTo ha_criesDrifted ha_criesElse m_now m_mind m_way m_done m_abed m_harm m_worth m_passes h_bodies h_joints h_breath h_stride h_day b0 mf_did hf_holds hf_habit ⟨by omega, by omega⟩ ⟨by omega, by omega⟩ h_mf_did ⟨by omega, by omega⟩ ⟨by omega, by omega⟩ ⟨by omega, by omega⟩ h_hf_holds H.size) (⟨hP, hD, hG, hS, hA, rfl, rfl⟩ : kAt D cy sa A s H _ _ [(ma, .inr (7, [.ref ma_without, .ref ma_did, .int m_now, .int m_mind, .int m_way, .int m_done, .int m_abed, .int m_harm, .int m_worth, .int m_passes])), (ma_did, .inl (cy 0, 9, .inl mf_did)), (ha, .inr (4, [.ref ha_x, .ref ha_y, .ref ha_holds, .ref ha_needs, .ref ha_harm, .ref ha_worth, .ref ha_joint, .ref ha_habit, .ref ha_sleepsFrom, .ref ha_sleepsTo, .ref ha_criesDrifted, .ref ha_criesElse, .int h_bodies, .int h_joints, .int h_breath, .int h_stride, .int h_day])), (ha_holds, .inl (cy 0, 9, .inl hf_holds)), (ha_habit, .inl (cy 0, 9, .inl hf_habit))] [0, 2, 3, 4, 5]) hl.1 rfl rfl ⟨rfl, rfl, ⟨Nat.le_of_ble_eq_true rfl, Nat.le_of_ble_eq_true rfl⟩, ⟨Nat.le_of_ble_eq_true rfl, Nat.le_of_ble_eq_true rfl⟩, Nat.le_of_ble_eq_true rfl⟩ dX5_slack_17) (fun r3q u4q H locs hwu4q hP hD hS => ?_)
      have hP : va_P D vwCl [(ma_without, .inl (cy 0, 9, .inl mf_without)), (ma, .inr (7, [.ref ma_without, .ref ma_did, .int m_now, .int m_mind, .int m_way, .int m_done, .int m_abed, .int m_harm, .int m_worth, .int m_passes])), (ma_did, .inl (cy 0, 9, .inl mf_did)), (ha, .inr (4, [.ref ha_x, .ref ha_y, .ref ha_holds, .ref ha_needs, .ref ha_harm, .ref ha_worth, .ref ha_joint, .ref ha_habit, .ref ha_sleepsFrom, .ref ha_sleepsTo, .ref ha_criesDrifted, .ref ha_criesElse, .int h_bodies, .int h_joints, .int h_breath, .int h_stride, .int h_day])), (ha_holds, .inl (cy 0, 9, .inl hf_holds)), (ha_habit, .inl (cy 0, 9, .inl hf_habit))] H := hP
      have hD : va_D A [(ma_without, .inl (cy 0, 9, .inl mf_without)), (ma, .inr (7, [.ref ma_without, .ref ma_did, .int m_now, .int m_mind, .int m_way, .int m_done, .int m_abed, .int m_harm, .int m_worth, .int m_passes])), (ma_did, .inl (cy 0, 9, .inl mf_did)), (ha, .inr (4, [.ref ha_x, .ref ha_y, .ref ha_holds, .ref ha_needs, .ref ha_harm, .ref ha_worth, .ref ha_joint, .ref ha_habit, .ref ha_sleepsFrom, .ref ha_sleepsTo, .ref ha_criesDrifted, .ref ha_criesElse, .int h_bodies, .int h_joints, .int h_breath, .int h_stride, .int h_day])), (ha_holds, .inl (cy 0, 9, .inl hf_holds)), (ha_habit, .inl (cy 0, 9, .inl hf_habit))] := hD
      have p5q := hwu4q
      refine lv_aload_n hx hb dX5_slack_20 rfl (lv_at hl 0 rfl) ?_
      refine va_get (D := D) (ci := 7) (v := .ref ma_without) (C := RX5) (T := TX5) (N := 10) hx hb hts kin_RX5 hown hG.1 hP 1 rfl rfl 0 (by decide) (hts _ wm_179) (fun _ h9 => h9) rfl dX5_slack_21 ?_
      refine lv_iload_n hx hb dX5_slack_24 rfl (lv_at hl 2 rfl) ?_
      refine va_iald hx hb hG.1 hP 0 0 rfl rfl (n_in (by omega) (by omega)) dX5_slack_25 ?_
      refine lv_topi (fun x6q ex6q => ?_)
      refine lv_isub hx hb dX5_slack_26 ?_
      refine lv_topi (fun x7q ex7q => ?_)
      have gx7q := k_rng x6q
      rw [hQ0]
      exact k_iret () hx hb hr hlk (trivial) (hP.sub [1, 0, 2, 3, 4, 5] rfl) (hD.sub [1, 0, 2, 3, 4, 5] (by decide) rfl) hS (by decide) (by decide) dX5_slack_27
    · simp only [k_lt, k_le, k_eq, ne_eq, ge_iff_le, gt_iff_lt, n_L9] at c2q
      refine lv_iconst (v := 0) hx hb dX5_slack_10 (by decide) ?_
      refine lv_goto (tgt := 27) hx hb dX5_slack_11 (by decide) ?_
      rw [hQ0]
      exact k_iret () hx hb hr hlk (trivial) (hP.sub [0, 1, 2, 3, 4, 5] rfl) (hD.sub [0, 1, 2, 3, 4, 5] (by decide) rfl) hS (by decide) (by decide) dX5_slack_27

set_option maxHeartbeats 4000000 in
set_option maxRecDepth 100000 in
/-- Moment.hasDrifted -/
theorem c_hasDrifted (l : Launch) (hl0 : l.stackTraces = false) (D : va_G) (cy : Nat → ClassId) (sa : Nat → Nat) (ma ma_without ma_did ha ha_x ha_y ha_holds ha_needs ha_harm ha_worth ha_joint ha_habit ha_sleepsFrom ha_sleepsTo ha_criesDrifted ha_criesElse : Nat) (m_now m_mind m_way m_done m_abed m_harm m_worth m_passes h_bodies h_joints h_breath h_stride h_day b0 : Int32) (mf_without mf_did hf_holds hf_habit : Nat → Int32) (h_m_now : 0 ≤ m_now.toInt ∧ m_now.toInt ≤ 480) (h_m_mind : -1 ≤ m_mind.toInt ∧ m_mind.toInt ≤ 8) (h_mf_did : rowR 9 0 (5000) mf_did) (h_h_bodies : 0 ≤ h_bodies.toInt ∧ h_bodies.toInt ≤ 9) (h_h_breath : 0 ≤ h_breath.toInt ∧ h_breath.toInt ≤ 9) (h_h_day : 0 ≤ h_day.toInt ∧ h_day.toInt ≤ 480) (h_hf_holds : rowR 9 0 (60) hf_holds) (sz : Nat) : Met l yX5_hasDrifted (Cond.code yX5_hasDrifted cX5_hasDrifted 3 (some .boolean) :: kWS) ({ frames := 12, cells := 0, slots := 0, locals := 420 }) (kPre D cy sa [.ref ma, .ref ha, .int b0] [(ma, .inr (7, [.ref ma_without, .ref ma_did, .int m_now, .int m_mind, .int m_way, .int m_done, .int m_abed, .int m_harm, .int m_worth, .int m_passes])), (ma_without, .inl (cy 0, 9, .inl mf_without)), (ma_did, .inl (cy 0, 9, .inl mf_did)), (ha, .inr (4, [.ref ha_x, .ref ha_y, .ref ha_holds, .ref ha_needs, .ref ha_harm, .ref ha_worth, .ref ha_joint, .ref ha_habit, .ref ha_sleepsFrom, .ref ha_sleepsTo, .ref ha_criesDrifted, .ref ha_criesElse, .int h_bodies, .int h_joints, .int h_breath, .int h_stride, .int h_day])), (ha_holds, .inl (cy 0, 9, .inl hf_holds)), (ha_habit, .inl (cy 0, 9, .inl hf_habit))] sz) (va_Qi (fun (r : Int32) (u : Unit) => (r.toInt = 0 ∨ r.toInt = 1)) (kB D (va_A [(ma, .inr (7, [.ref ma_without, .ref ma_did, .int m_now, .int m_mind, .int m_way, .int m_done, .int m_abed, .int m_harm, .int m_worth, .int m_passes])), (ma_without, .inl (cy 0, 9, .inl mf_without)), (ma_did, .inl (cy 0, 9, .inl mf_did)), (ha, .inr (4, [.ref ha_x, .ref ha_y, .ref ha_holds, .ref ha_needs, .ref ha_harm, .ref ha_worth, .ref ha_joint, .ref ha_habit, .ref ha_sleepsFrom, .ref ha_sleepsTo, .ref ha_criesDrifted, .ref ha_criesElse, .int h_bodies, .int h_joints, .int h_breath, .int h_stride, .int h_day])), (ha_holds, .inl (cy 0, 9, .inl hf_holds)), (ha_habit, .inl (cy 0, 9, .inl hf_habit))] sz) (fun (u : Unit) => [(ma, .inr (7, [.ref ma_without, .ref ma_did, .int m_now, .int m_mind, .int m_way, .int m_done, .int m_abed, .int m_harm, .int m_worth, .int m_passes])), (ma_without, .inl (cy 0, 9, .inl mf_without)), (ma_did, .inl (cy 0, 9, .inl mf_did)), (ha, .inr (4, [.ref ha_x, .ref ha_y, .ref ha_holds, .ref ha_needs, .ref ha_harm, .ref ha_worth, .ref ha_joint, .ref ha_habit, .ref ha_sleepsFrom, .ref ha_sleepsTo, .ref ha_criesDrifted, .ref ha_criesElse, .int h_bodies, .int h_joints, .int h_breath, .int h_stride, .int h_day])), (ha_holds, .inl (cy 0, 9, .inl hf_holds)), (ha_habit, .inl (cy 0, 9, .inl hf_habit))])) (va_A [(ma, .inr (7, [.ref ma_without, .ref ma_did, .int m_now, .int m_mind, .int m_way, .int m_done, .int m_abed, .int m_harm, .int m_worth, .int m_passes])), (ma_without, .inl (cy 0, 9, .inl mf_without)), (ma_did, .inl (cy 0, 9, .inl mf_did)), (ha, .inr (4, [.ref ha_x, .ref ha_y, .ref ha_holds, .ref ha_needs, .ref ha_harm, .ref ha_worth, .ref ha_joint, .ref ha_habit, .ref ha_sleepsFrom, .ref ha_sleepsTo, .ref ha_criesDrifted, .ref ha_criesElse, .int h_bodies, .int h_joints, .int h_breath, .int h_stride, .int h_day])), (ha_holds, .inl (cy 0, 9, .inl hf_holds)), (ha_habit, .inl (cy 0, 9, .inl hf_habit))] sz)) 0 0 (va_A [(ma, .inr (7, [.ref ma_without, .ref ma_did, .int m_now, .int m_mind, .int m_way, .int m_done, .int m_abed, .int m_harm, .int m_worth, .int m_passes])), (ma_without, .inl (cy 0, 9, .inl mf_without)), (ma_did, .inl (cy 0, 9, .inl mf_did)), (ha, .inr (4, [.ref ha_x, .ref ha_y, .ref ha_holds, .ref ha_needs, .ref ha_harm, .ref ha_worth, .ref ha_joint, .ref ha_habit, .ref ha_sleepsFrom, .ref ha_sleepsTo, .ref ha_criesDrifted, .ref ha_criesElse, .int h_bodies, .int h_joints, .int h_breath, .int h_stride, .int h_day])), (ha_holds, .inl (cy 0, 9, .inl hf_holds)), (ha_habit, .inl (cy 0, 9, .inl hf_habit))] sz) := by
  refine k_ofW (y := yX5_hasDrifted) (cc := cX5_hasDrifted) (maxL := 3) (ret := (some .boolean)) (av := [.ref ma, .ref ha, .int b0]) (ws := [(ma, .inr (7, [.ref ma_without, .ref ma_did, .int m_now, .int m_mind, .int m_way, .int m_done, .int m_abed, .int m_harm, .int m_worth, .int m_passes])), (ma_without, .inl (cy 0, 9, .inl mf_without)), (ma_did, .inl (cy 0, 9, .inl mf_did)), (ha, .inr (4, [.ref ha_x, .ref ha_y, .ref ha_holds, .ref ha_needs, .ref ha_harm, .ref ha_worth, .ref ha_joint, .ref ha_habit, .ref ha_sleepsFrom, .ref ha_sleepsTo, .ref ha_criesDrifted, .ref ha_criesElse, .int h_bodies, .int h_joints, .int h_breath, .int h_stride, .int h_day])), (ha_holds, .inl (cy 0, 9, .inl hf_holds)), (ha_habit, .inl (cy 0, 9, .inl hf_habit))]) (Qc := fun A => (va_Qi (fun (r : Int32) (u : Unit) => (r.toInt = 0 ∨ r.toInt = 1)) (kB D A (fun (u : Unit) => [(ma, .inr (7, [.ref ma_without, .ref ma_did, .int m_now, .int m_mind, .int m_way, .int m_done, .int m_abed, .int m_harm, .int m_worth, .int m_passes])), (ma_without, .inl (cy 0, 9, .inl mf_without)), (ma_did, .inl (cy 0, 9, .inl mf_did)), (ha, .inr (4, [.ref ha_x, .ref ha_y, .ref ha_holds, .ref ha_needs, .ref ha_harm, .ref ha_worth, .ref ha_joint, .ref ha_habit, .ref ha_sleepsFrom, .ref ha_sleepsTo, .ref ha_criesDrifted, .ref ha_criesElse, .int h_bodies, .int h_joints, .int h_breath, .int h_stride, .int h_day])), (ha_holds, .inl (cy 0, 9, .inl hf_holds)), (ha_habit, .inl (cy 0, 9, .inl hf_habit))])) A)) (by decide) (Nat.le_of_ble_eq_true rfl) ?_
  intro p e s m below meth c ls A E hA hP hD hG hS hl
  obtain ⟨Q0, hQ0⟩ : ∃ Q0 : State → Prop, Q0 = MQ below (va_Qi (fun (r : Int32) (u : Unit) => (r.toInt = 0 ∨ r.toInt = 1)) (kB D A (fun (u : Unit) => [(ma, .inr (7, [.ref ma_without, .ref ma_did, .int m_now, .int m_mind, .int m_way, .int m_done, .int m_abed, .int m_harm, .int m_worth, .int m_passes])), (ma_without, .inl (cy 0, 9, .inl mf_without)), (ma_did, .inl (cy 0, 9, .inl mf_did)), (ha, .inr (4, [.ref ha_x, .ref ha_y, .ref ha_holds, .ref ha_needs, .ref ha_harm, .ref ha_worth, .ref ha_joint, .ref ha_habit, .ref ha_sleepsFrom, .ref ha_sleepsTo, .ref ha_criesDrifted, .ref ha_criesElse, .int h_bodies, .int h_joints, .int h_breath, .int h_stride, .int h_day])), (ha_holds, .inl (cy 0, 9, .inl hf_holds)), (ha_habit, .inl (cy 0, 9, .inl hf_habit))])) A) ([.ref ma, .ref ha, .int b0] : List Value).toArray s 0 0 A := ⟨_, rfl⟩
  rw [← hQ0]
  obtain ⟨hx, hb, hml, hown, hts, hr, hlk, hnm⟩ := id E
  have hown : s.vm.findClass RX5 = some m.cls := hown
  have hl : lv_has ls 3 [(0, .ref ma), (1, .ref ha), (2, .int b0)] := hl
  have g_b0 := k_rng b0
  obtain ⟨H, hH⟩ : ∃ H, H = s.heap := ⟨_, rfl⟩
  have hP : va_P D vwCl [(ma, .inr (7, [.ref ma_without, .ref ma_did, .int m_now, .int m_mind, .int m_way, .int m_done, .int m_abed, .int m_harm, .int m_worth, .int m_passes])), (ma_without, .inl (cy 0, 9, .inl mf_without)), (ma_did, .inl (cy 0, 9, .inl mf_did)), (ha, .inr (4, [.ref ha_x, .ref ha_y, .ref ha_holds, .ref ha_needs, .ref ha_harm, .ref ha_worth, .ref ha_joint, .ref ha_habit, .ref ha_sleepsFrom, .ref ha_sleepsTo, .ref ha_criesDrifted, .ref ha_criesElse, .int h_bodies, .int h_joints, .int h_breath, .int h_stride, .int h_day])), (ha_holds, .inl (cy 0, 9, .inl hf_holds)), (ha_habit, .inl (cy 0, 9, .inl hf_habit))] H := by rw [hH]; exact hP
  have hS : va_S A s.heap H [] := by rw [hH]; exact va_S.rf
  rw [← hH]
  clear hH
  obtain ⟨locs, hlocs⟩ : ∃ locs : List Loc, locs = [] := ⟨_, rfl⟩
  rw [← hlocs] at hS ⊢
  refine lv_aload_n hx hb dX5_hasDrifted_0 rfl (lv_at hl 0 rfl) ?_
  refine lv_aload_n hx hb dX5_hasDrifted_1 rfl (lv_at hl 1 rfl) ?_
  refine lv_iload_n hx hb dX5_hasDrifted_2 rfl (lv_at hl 2 rfl) ?_
  refine k_cali [] (⟨hP, hD, hG, hS, hA, rfl, rfl⟩ : kAt D cy sa A s H _ _ [(ma, .inr (7, [.ref ma_without, .ref ma_did, .int m_now, .int m_mind, .int m_way, .int m_done, .int m_abed, .int m_harm, .int m_worth, .int m_passes])), (ma_without, .inl (cy 0, 9, .inl mf_without)), (ma_did, .inl (cy 0, 9, .inl mf_did)), (ha, .inr (4, [.ref ha_x, .ref ha_y, .ref ha_holds, .ref ha_needs, .ref ha_harm, .ref ha_worth, .ref ha_joint, .ref ha_habit, .ref ha_sleepsFrom, .ref ha_sleepsTo, .ref ha_criesDrifted, .ref ha_criesElse, .int h_bodies, .int h_joints, .int h_breath, .int h_stride, .int h_day])), (ha_holds, .inl (cy 0, 9, .inl hf_holds)), (ha_habit, .inl (cy 0, 9, .inl hf_habit))] [0, 1, 2, 3, 4, 5]) (wr := []) rfl rfl (by decide) (k_runV 7 0 (As := [.ref ha, .int b0]) (rest := []) E lk_VRX5_86 rfl rfl rfl (c_slack l hl0 D cy sa ma ma_without ma_did ha ha_x ha_y ha_holds ha_needs ha_harm ha_worth ha_joint ha_habit ha_sleepsFrom ha_sleepsTo ha_criesDrifted ha_criesElse m_now m_mind m_way m_done m_abed m_harm m_worth m_passes h_bodies h_joints h_breath h_stride h_day b0 mf_without mf_did hf_holds hf_habit ⟨by omega, by omega⟩ ⟨by omega, by omega⟩ h_mf_did ⟨by omega, by omega⟩ ⟨by omega, by omega⟩ ⟨by omega, by omega⟩ h_hf_holds H.size) (⟨hP, hD, hG, hS, hA, rfl, rfl⟩ : kAt D cy sa A s H _ _ [(ma, .inr (7, [.ref ma_without, .ref ma_did, .int m_now, .int m_mind, .int m_way, .int m_done, .int m_abed, .int m_harm, .int m_worth, .int m_passes])), (ma_without, .inl (cy 0, 9, .inl mf_without)), (ma_did, .inl (cy 0, 9, .inl mf_did)), (ha, .inr (4, [.ref ha_x, .ref ha_y, .ref ha_holds, .ref ha_needs, .ref ha_harm, .ref ha_worth, .ref ha_joint, .ref ha_habit, .ref ha_sleepsFrom, .ref ha_sleepsTo, .ref ha_criesDrifted, .ref ha_criesElse, .int h_bodies, .int h_joints, .int h_breath, .int h_stride, .int h_day])), (ha_holds, .inl (cy 0, 9, .inl hf_holds)), (ha_habit, .inl (cy 0, 9, .inl hf_habit))] [0, 1, 2, 3, 4, 5]) hl.1 rfl rfl ⟨rfl, rfl, ⟨Nat.le_of_ble_eq_true rfl, Nat.le_of_ble_eq_true rfl⟩, ⟨Nat.le_of_ble_eq_true rfl, Nat.le_of_ble_eq_true rfl⟩, Nat.le_of_ble_eq_true rfl⟩ dX5_hasDrifted_3) (fun r1q u2q H locs hwu2q hP hD hS => ?_)
  have hP : va_P D vwCl [(ma, .inr (7, [.ref ma_without, .ref ma_did, .int m_now, .int m_mind, .int m_way, .int m_done, .int m_abed, .int m_harm, .int m_worth, .int m_passes])), (ma_without, .inl (cy 0, 9, .inl mf_without)), (ma_did, .inl (cy 0, 9, .inl mf_did)), (ha, .inr (4, [.ref ha_x, .ref ha_y, .ref ha_holds, .ref ha_needs, .ref ha_harm, .ref ha_worth, .ref ha_joint, .ref ha_habit, .ref ha_sleepsFrom, .ref ha_sleepsTo, .ref ha_criesDrifted, .ref ha_criesElse, .int h_bodies, .int h_joints, .int h_breath, .int h_stride, .int h_day])), (ha_holds, .inl (cy 0, 9, .inl hf_holds)), (ha_habit, .inl (cy 0, 9, .inl hf_habit))] H := hP
  have hD : va_D A [(ma, .inr (7, [.ref ma_without, .ref ma_did, .int m_now, .int m_mind, .int m_way, .int m_done, .int m_abed, .int m_harm, .int m_worth, .int m_passes])), (ma_without, .inl (cy 0, 9, .inl mf_without)), (ma_did, .inl (cy 0, 9, .inl mf_did)), (ha, .inr (4, [.ref ha_x, .ref ha_y, .ref ha_holds, .ref ha_needs, .ref ha_harm, .ref ha_worth, .ref ha_joint, .ref ha_habit, .ref ha_sleepsFrom, .ref ha_sleepsTo, .ref ha_criesDrifted, .ref ha_criesElse, .int h_bodies, .int h_joints, .int h_breath, .int h_stride, .int h_day])), (ha_holds, .inl (cy 0, 9, .inl hf_holds)), (ha_habit, .inl (cy 0, 9, .inl hf_habit))] := hD
  refine lv_if_ge (tgt := 29) hx hb dX5_hasDrifted_6 (by decide) (fun c3q => ?_) (fun c3q => ?_)
  · simp only [k_lt, k_le, k_eq, ne_eq, ge_iff_le, gt_iff_lt, n_L0, n_L0] at c3q
    refine lv_iconst (v := 0) hx hb dX5_hasDrifted_29 (by decide) ?_
    rw [hQ0]
    exact k_zret () hx hb hr hlk (k_nz (by decide)) ((by show (0 : Int32).toInt = 0 ∨ (0 : Int32).toInt = 1; rw [n_L0]; omega)) (hP.sub [0, 1, 2, 3, 4, 5] rfl) (hD.sub [0, 1, 2, 3, 4, 5] (by decide) rfl) hS (by decide) (by decide) dX5_hasDrifted_30
  · simp only [k_lt, k_le, k_eq, ne_eq, ge_iff_le, gt_iff_lt, n_L0, n_L0] at c3q
    refine lv_aload_n hx hb dX5_hasDrifted_9 rfl (lv_at hl 0 rfl) ?_
    refine lv_iload_n hx hb dX5_hasDrifted_10 rfl (lv_at hl 2 rfl) ?_
    refine k_cali [1, 2, 3, 4, 5] (⟨hP, hD, hG, hS, hA, rfl, rfl⟩ : kAt D cy sa A s H _ _ [(ma, .inr (7, [.ref ma_without, .ref ma_did, .int m_now, .int m_mind, .int m_way, .int m_done, .int m_abed, .int m_harm, .int m_worth, .int m_passes]))] [0]) (wr := [(ma_without, .inl (cy 0, 9, .inl mf_without)), (ma_did, .inl (cy 0, 9, .inl mf_did)), (ha, .inr (4, [.ref ha_x, .ref ha_y, .ref ha_holds, .ref ha_needs, .ref ha_harm, .ref ha_worth, .ref ha_joint, .ref ha_habit, .ref ha_sleepsFrom, .ref ha_sleepsTo, .ref ha_criesDrifted, .ref ha_criesElse, .int h_bodies, .int h_joints, .int h_breath, .int h_stride, .int h_day])), (ha_holds, .inl (cy 0, 9, .inl hf_holds)), (ha_habit, .inl (cy 0, 9, .inl hf_habit))]) rfl rfl (by decide) (k_runV 7 0 (As := [.int b0]) (rest := []) E lk_VRX5_89 rfl rfl rfl (c_isDone l hl0 D cy sa ma ma_without ma_did m_now m_mind m_way m_done m_abed m_harm m_worth m_passes b0 ⟨by omega, by omega⟩ ⟨by omega, by omega⟩ H.size) (⟨hP, hD, hG, hS, hA, rfl, rfl⟩ : kAt D cy sa A s H _ _ [(ma, .inr (7, [.ref ma_without, .ref ma_did, .int m_now, .int m_mind, .int m_way, .int m_done, .int m_abed, .int m_harm, .int m_worth, .int m_passes]))] [0]) hl.1 rfl rfl ⟨rfl, rfl, ⟨Nat.le_of_ble_eq_true rfl, Nat.le_of_ble_eq_true rfl⟩, ⟨Nat.le_of_ble_eq_true rfl, Nat.le_of_ble_eq_true rfl⟩, Nat.le_of_ble_eq_true rfl⟩ dX5_hasDrifted_11) (fun r4q u5q H locs hwu5q hP hD hS => ?_)
    have hP : va_P D vwCl [(ma_without, .inl (cy 0, 9, .inl mf_without)), (ma_did, .inl (cy 0, 9, .inl mf_did)), (ha, .inr (4, [.ref ha_x, .ref ha_y, .ref ha_holds, .ref ha_needs, .ref ha_harm, .ref ha_worth, .ref ha_joint, .ref ha_habit, .ref ha_sleepsFrom, .ref ha_sleepsTo, .ref ha_criesDrifted, .ref ha_criesElse, .int h_bodies, .int h_joints, .int h_breath, .int h_stride, .int h_day])), (ha_holds, .inl (cy 0, 9, .inl hf_holds)), (ha_habit, .inl (cy 0, 9, .inl hf_habit)), (ma, .inr (7, [.ref ma_without, .ref ma_did, .int m_now, .int m_mind, .int m_way, .int m_done, .int m_abed, .int m_harm, .int m_worth, .int m_passes]))] H := hP
    have hD : va_D A [(ma_without, .inl (cy 0, 9, .inl mf_without)), (ma_did, .inl (cy 0, 9, .inl mf_did)), (ha, .inr (4, [.ref ha_x, .ref ha_y, .ref ha_holds, .ref ha_needs, .ref ha_harm, .ref ha_worth, .ref ha_joint, .ref ha_habit, .ref ha_sleepsFrom, .ref ha_sleepsTo, .ref ha_criesDrifted, .ref ha_criesElse, .int h_bodies, .int h_joints, .int h_breath, .int h_stride, .int h_day])), (ha_holds, .inl (cy 0, 9, .inl hf_holds)), (ha_habit, .inl (cy 0, 9, .inl hf_habit)), (ma, .inr (7, [.ref ma_without, .ref ma_did, .int m_now, .int m_mind, .int m_way, .int m_done, .int m_abed, .int m_harm, .int m_worth, .int m_passes]))] := hD
    have p6q := hwu5q
    refine lv_if_ne (tgt := 29) hx hb dX5_hasDrifted_14 (by decide) (fun c7q => ?_) (fun c7q => ?_)
    · simp only [k_lt, k_le, k_eq, ne_eq, ge_iff_le, gt_iff_lt, n_L0, n_L0] at c7q
      refine lv_iconst (v := 0) hx hb dX5_hasDrifted_29 (by decide) ?_
      rw [hQ0]
      exact k_zret () hx hb hr hlk (k_nz (by decide)) ((by show (0 : Int32).toInt = 0 ∨ (0 : Int32).toInt = 1; rw [n_L0]; omega)) (hP.sub [5, 0, 1, 2, 3, 4] rfl) (hD.sub [5, 0, 1, 2, 3, 4] (by decide) rfl) hS (by decide) (by decide) dX5_hasDrifted_30
    · simp only [k_lt, k_le, k_eq, ne_eq, ge_iff_le, gt_iff_lt, n_L0, n_L0] at c7q
      refine lv_aload_n hx hb dX5_hasDrifted_17 rfl (lv_at hl 0 rfl) ?_
      refine lv_iload_n hx hb dX5_hasDrifted_18 rfl (lv_at hl 2 rfl) ?_
      refine k_cali [0, 1, 2, 3, 4] (⟨hP, hD, hG, hS, hA, rfl, rfl⟩ : kAt D cy sa A s H _ _ [(ma, .inr (7, [.ref ma_without, .ref ma_did, .int m_now, .int m_mind, .int m_way, .int m_done, .int m_abed, .int m_harm, .int m_worth, .int m_passes]))] [5]) (wr := [(ma_without, .inl (cy 0, 9, .inl mf_without)), (ma_did, .inl (cy 0, 9, .inl mf_did)), (ha, .inr (4, [.ref ha_x, .ref ha_y, .ref ha_holds, .ref ha_needs, .ref ha_harm, .ref ha_worth, .ref ha_joint, .ref ha_habit, .ref ha_sleepsFrom, .ref ha_sleepsTo, .ref ha_criesDrifted, .ref ha_criesElse, .int h_bodies, .int h_joints, .int h_breath, .int h_stride, .int h_day])), (ha_holds, .inl (cy 0, 9, .inl hf_holds)), (ha_habit, .inl (cy 0, 9, .inl hf_habit))]) rfl rfl (by decide) (k_runV 7 5 (As := [.int b0]) (rest := []) E lk_VRX5_93 rfl rfl rfl (c_isAbed l hl0 D cy sa ma ma_without ma_did m_now m_mind m_way m_done m_abed m_harm m_worth m_passes b0 ⟨by omega, by omega⟩ ⟨by omega, by omega⟩ H.size) (⟨hP, hD, hG, hS, hA, rfl, rfl⟩ : kAt D cy sa A s H _ _ [(ma, .inr (7, [.ref ma_without, .ref ma_did, .int m_now, .int m_mind, .int m_way, .int m_done, .int m_abed, .int m_harm, .int m_worth, .int m_passes]))] [5]) hl.1 rfl rfl ⟨rfl, rfl, ⟨Nat.le_of_ble_eq_true rfl, Nat.le_of_ble_eq_true rfl⟩, ⟨Nat.le_of_ble_eq_true rfl, Nat.le_of_ble_eq_true rfl⟩, Nat.le_of_ble_eq_true rfl⟩ dX5_hasDrifted_19) (fun r8q u9q H locs hwu9q hP hD hS => ?_)
      have hP : va_P D vwCl [(ma_without, .inl (cy 0, 9, .inl mf_without)), (ma_did, .inl (cy 0, 9, .inl mf_did)), (ha, .inr (4, [.ref ha_x, .ref ha_y, .ref ha_holds, .ref ha_needs, .ref ha_harm, .ref ha_worth, .ref ha_joint, .ref ha_habit, .ref ha_sleepsFrom, .ref ha_sleepsTo, .ref ha_criesDrifted, .ref ha_criesElse, .int h_bodies, .int h_joints, .int h_breath, .int h_stride, .int h_day])), (ha_holds, .inl (cy 0, 9, .inl hf_holds)), (ha_habit, .inl (cy 0, 9, .inl hf_habit)), (ma, .inr (7, [.ref ma_without, .ref ma_did, .int m_now, .int m_mind, .int m_way, .int m_done, .int m_abed, .int m_harm, .int m_worth, .int m_passes]))] H := hP
      have hD : va_D A [(ma_without, .inl (cy 0, 9, .inl mf_without)), (ma_did, .inl (cy 0, 9, .inl mf_did)), (ha, .inr (4, [.ref ha_x, .ref ha_y, .ref ha_holds, .ref ha_needs, .ref ha_harm, .ref ha_worth, .ref ha_joint, .ref ha_habit, .ref ha_sleepsFrom, .ref ha_sleepsTo, .ref ha_criesDrifted, .ref ha_criesElse, .int h_bodies, .int h_joints, .int h_breath, .int h_stride, .int h_day])), (ha_holds, .inl (cy 0, 9, .inl hf_holds)), (ha_habit, .inl (cy 0, 9, .inl hf_habit)), (ma, .inr (7, [.ref ma_without, .ref ma_did, .int m_now, .int m_mind, .int m_way, .int m_done, .int m_abed, .int m_harm, .int m_worth, .int m_passes]))] := hD
      have p10q := hwu9q
      refine lv_if_ne (tgt := 29) hx hb dX5_hasDrifted_22 (by decide) (fun c11q => ?_) (fun c11q => ?_)
      · simp only [k_lt, k_le, k_eq, ne_eq, ge_iff_le, gt_iff_lt, n_L0, n_L0] at c11q
        refine lv_iconst (v := 0) hx hb dX5_hasDrifted_29 (by decide) ?_
        rw [hQ0]
        exact k_zret () hx hb hr hlk (k_nz (by decide)) ((by show (0 : Int32).toInt = 0 ∨ (0 : Int32).toInt = 1; rw [n_L0]; omega)) (hP.sub [5, 0, 1, 2, 3, 4] rfl) (hD.sub [5, 0, 1, 2, 3, 4] (by decide) rfl) hS (by decide) (by decide) dX5_hasDrifted_30
      · simp only [k_lt, k_le, k_eq, ne_eq, ge_iff_le, gt_iff_lt, n_L0, n_L0] at c11q
        refine lv_iconst (v := 1) hx hb dX5_hasDrifted_25 (by decide) ?_
        refine lv_goto (tgt := 30) hx hb dX5_hasDrifted_26 (by decide) ?_
        rw [hQ0]
        exact k_zret () hx hb hr hlk (k_nz (by decide)) ((by show (1 : Int32).toInt = 0 ∨ (1 : Int32).toInt = 1; rw [n_L1]; omega)) (hP.sub [5, 0, 1, 2, 3, 4] rfl) (hD.sub [5, 0, 1, 2, 3, 4] (by decide) rfl) hS (by decide) (by decide) dX5_hasDrifted_30

set_option maxHeartbeats 4000000 in
set_option maxRecDepth 100000 in
/-- Moment.send -/
theorem c_send (l : Launch) (hl0 : l.stackTraces = false) (D : va_G) (cy : Nat → ClassId) (sa : Nat → Nat) (ma ma_without ma_did ha ha_x ha_y ha_holds ha_needs ha_harm ha_worth ha_joint ha_habit ha_sleepsFrom ha_sleepsTo ha_criesDrifted ha_criesElse : Nat) (m_now m_mind m_way m_done m_abed m_harm m_worth m_passes h_bodies h_joints h_breath h_stride h_day b0 : Int32) (hf_x hf_y : Nat → Int32) (h_m_now : 0 ≤ m_now.toInt ∧ m_now.toInt ≤ 480) (h_m_mind : -1 ≤ m_mind.toInt ∧ m_mind.toInt ≤ 8) (h_h_bodies : 0 ≤ h_bodies.toInt ∧ h_bodies.toInt ≤ 9) (h_h_breath : 0 ≤ h_breath.toInt ∧ h_breath.toInt ≤ 9) (h_h_day : 0 ≤ h_day.toInt ∧ h_day.toInt ≤ 480) (h_hf_x : rowR 9 0 (15) hf_x) (h_hf_y : rowR 9 0 (15) hf_y) (h_b0 : -1 ≤ b0.toInt ∧ b0.toInt ≤ 8) (sz : Nat) : Met l yX5_send (Cond.code yX5_send cX5_send 3 none :: kWS) ({ frames := 12, cells := 0, slots := 0, locals := 420 }) (kPre D cy sa [.ref ma, .ref ha, .int b0] [(ma, .inr (7, [.ref ma_without, .ref ma_did, .int m_now, .int m_mind, .int m_way, .int m_done, .int m_abed, .int m_harm, .int m_worth, .int m_passes])), (ha, .inr (4, [.ref ha_x, .ref ha_y, .ref ha_holds, .ref ha_needs, .ref ha_harm, .ref ha_worth, .ref ha_joint, .ref ha_habit, .ref ha_sleepsFrom, .ref ha_sleepsTo, .ref ha_criesDrifted, .ref ha_criesElse, .int h_bodies, .int h_joints, .int h_breath, .int h_stride, .int h_day])), (ha_x, .inl (cy 0, 9, .inl hf_x)), (ha_y, .inl (cy 0, 9, .inl hf_y))] sz) (va_Qv (fun (u : (Nat → Int32) × (Nat → Nat → Int32)) => (-1 ≤ ((u.1 0)).toInt ∧ ((u.1 0)).toInt ≤ 8)) (kB D (va_A [(ma, .inr (7, [.ref ma_without, .ref ma_did, .int m_now, .int m_mind, .int m_way, .int m_done, .int m_abed, .int m_harm, .int m_worth, .int m_passes])), (ha, .inr (4, [.ref ha_x, .ref ha_y, .ref ha_holds, .ref ha_needs, .ref ha_harm, .ref ha_worth, .ref ha_joint, .ref ha_habit, .ref ha_sleepsFrom, .ref ha_sleepsTo, .ref ha_criesDrifted, .ref ha_criesElse, .int h_bodies, .int h_joints, .int h_breath, .int h_stride, .int h_day])), (ha_x, .inl (cy 0, 9, .inl hf_x)), (ha_y, .inl (cy 0, 9, .inl hf_y))] sz) (fun (u : (Nat → Int32) × (Nat → Nat → Int32)) => [(ma, .inr (7, [.ref ma_without, .ref ma_did, .int m_now, .int ((u.1 0)), .int ((u.1 1)), .int m_done, .int m_abed, .int m_harm, .int m_worth, .int ((u.1 2))])), (ha, .inr (4, [.ref ha_x, .ref ha_y, .ref ha_holds, .ref ha_needs, .ref ha_harm, .ref ha_worth, .ref ha_joint, .ref ha_habit, .ref ha_sleepsFrom, .ref ha_sleepsTo, .ref ha_criesDrifted, .ref ha_criesElse, .int h_bodies, .int h_joints, .int h_breath, .int h_stride, .int h_day])), (ha_x, .inl (cy 0, 9, .inl hf_x)), (ha_y, .inl (cy 0, 9, .inl hf_y))])) (va_A [(ma, .inr (7, [.ref ma_without, .ref ma_did, .int m_now, .int m_mind, .int m_way, .int m_done, .int m_abed, .int m_harm, .int m_worth, .int m_passes])), (ha, .inr (4, [.ref ha_x, .ref ha_y, .ref ha_holds, .ref ha_needs, .ref ha_harm, .ref ha_worth, .ref ha_joint, .ref ha_habit, .ref ha_sleepsFrom, .ref ha_sleepsTo, .ref ha_criesDrifted, .ref ha_criesElse, .int h_bodies, .int h_joints, .int h_breath, .int h_stride, .int h_day])), (ha_x, .inl (cy 0, 9, .inl hf_x)), (ha_y, .inl (cy 0, 9, .inl hf_y))] sz)) 0 0 (va_A [(ma, .inr (7, [.ref ma_without, .ref ma_did, .int m_now, .int m_mind, .int m_way, .int m_done, .int m_abed, .int m_harm, .int m_worth, .int m_passes])), (ha, .inr (4, [.ref ha_x, .ref ha_y, .ref ha_holds, .ref ha_needs, .ref ha_harm, .ref ha_worth, .ref ha_joint, .ref ha_habit, .ref ha_sleepsFrom, .ref ha_sleepsTo, .ref ha_criesDrifted, .ref ha_criesElse, .int h_bodies, .int h_joints, .int h_breath, .int h_stride, .int h_day])), (ha_x, .inl (cy 0, 9, .inl hf_x)), (ha_y, .inl (cy 0, 9, .inl hf_y))] sz) := by
  refine k_ofW (y := yX5_send) (cc := cX5_send) (maxL := 3) (ret := none) (av := [.ref ma, .ref ha, .int b0]) (ws := [(ma, .inr (7, [.ref ma_without, .ref ma_did, .int m_now, .int m_mind, .int m_way, .int m_done, .int m_abed, .int m_harm, .int m_worth, .int m_passes])), (ha, .inr (4, [.ref ha_x, .ref ha_y, .ref ha_holds, .ref ha_needs, .ref ha_harm, .ref ha_worth, .ref ha_joint, .ref ha_habit, .ref ha_sleepsFrom, .ref ha_sleepsTo, .ref ha_criesDrifted, .ref ha_criesElse, .int h_bodies, .int h_joints, .int h_breath, .int h_stride, .int h_day])), (ha_x, .inl (cy 0, 9, .inl hf_x)), (ha_y, .inl (cy 0, 9, .inl hf_y))]) (Qc := fun A => (va_Qv (fun (u : (Nat → Int32) × (Nat → Nat → Int32)) => (-1 ≤ ((u.1 0)).toInt ∧ ((u.1 0)).toInt ≤ 8)) (kB D A (fun (u : (Nat → Int32) × (Nat → Nat → Int32)) => [(ma, .inr (7, [.ref ma_without, .ref ma_did, .int m_now, .int ((u.1 0)), .int ((u.1 1)), .int m_done, .int m_abed, .int m_harm, .int m_worth, .int ((u.1 2))])), (ha, .inr (4, [.ref ha_x, .ref ha_y, .ref ha_holds, .ref ha_needs, .ref ha_harm, .ref ha_worth, .ref ha_joint, .ref ha_habit, .ref ha_sleepsFrom, .ref ha_sleepsTo, .ref ha_criesDrifted, .ref ha_criesElse, .int h_bodies, .int h_joints, .int h_breath, .int h_stride, .int h_day])), (ha_x, .inl (cy 0, 9, .inl hf_x)), (ha_y, .inl (cy 0, 9, .inl hf_y))])) A)) (by decide) (Nat.le_of_ble_eq_true rfl) ?_
  intro p e s m below meth c ls A E hA hP hD hG hS hl
  obtain ⟨Q0, hQ0⟩ : ∃ Q0 : State → Prop, Q0 = MQ below (va_Qv (fun (u : (Nat → Int32) × (Nat → Nat → Int32)) => (-1 ≤ ((u.1 0)).toInt ∧ ((u.1 0)).toInt ≤ 8)) (kB D A (fun (u : (Nat → Int32) × (Nat → Nat → Int32)) => [(ma, .inr (7, [.ref ma_without, .ref ma_did, .int m_now, .int ((u.1 0)), .int ((u.1 1)), .int m_done, .int m_abed, .int m_harm, .int m_worth, .int ((u.1 2))])), (ha, .inr (4, [.ref ha_x, .ref ha_y, .ref ha_holds, .ref ha_needs, .ref ha_harm, .ref ha_worth, .ref ha_joint, .ref ha_habit, .ref ha_sleepsFrom, .ref ha_sleepsTo, .ref ha_criesDrifted, .ref ha_criesElse, .int h_bodies, .int h_joints, .int h_breath, .int h_stride, .int h_day])), (ha_x, .inl (cy 0, 9, .inl hf_x)), (ha_y, .inl (cy 0, 9, .inl hf_y))])) A) ([.ref ma, .ref ha, .int b0] : List Value).toArray s 0 0 A := ⟨_, rfl⟩
  rw [← hQ0]
  obtain ⟨hx, hb, hml, hown, hts, hr, hlk, hnm⟩ := id E
  have hown : s.vm.findClass RX5 = some m.cls := hown
  have hl : lv_has ls 3 [(0, .ref ma), (1, .ref ha), (2, .int b0)] := hl
  obtain ⟨H, hH⟩ : ∃ H, H = s.heap := ⟨_, rfl⟩
  have hP : va_P D vwCl [(ma, .inr (7, [.ref ma_without, .ref ma_did, .int m_now, .int m_mind, .int m_way, .int m_done, .int m_abed, .int m_harm, .int m_worth, .int m_passes])), (ha, .inr (4, [.ref ha_x, .ref ha_y, .ref ha_holds, .ref ha_needs, .ref ha_harm, .ref ha_worth, .ref ha_joint, .ref ha_habit, .ref ha_sleepsFrom, .ref ha_sleepsTo, .ref ha_criesDrifted, .ref ha_criesElse, .int h_bodies, .int h_joints, .int h_breath, .int h_stride, .int h_day])), (ha_x, .inl (cy 0, 9, .inl hf_x)), (ha_y, .inl (cy 0, 9, .inl hf_y))] H := by rw [hH]; exact hP
  have hS : va_S A s.heap H [] := by rw [hH]; exact va_S.rf
  rw [← hH]
  clear hH
  obtain ⟨locs, hlocs⟩ : ∃ locs : List Loc, locs = [] := ⟨_, rfl⟩
  rw [← hlocs] at hS ⊢
  refine lv_aload_n hx hb dX5_send_0 rfl (lv_at hl 0 rfl) ?_
  refine lv_aload_n hx hb dX5_send_1 rfl (lv_at hl 1 rfl) ?_
  refine lv_aload_n hx hb dX5_send_2 rfl (lv_at hl 0 rfl) ?_
  refine va_get (D := D) (ci := 7) (v := .int m_mind) (C := RX5) (T := TX5) (N := 10) hx hb hts kin_RX5 hown hG.1 hP 0 rfl rfl 3 (by decide) (hts _ wm_189) (fun _ h9 => h9) rfl dX5_send_3 ?_
  refine lv_iload_n hx hb dX5_send_6 rfl (lv_at hl 2 rfl) ?_
  refine k_cali [0] (⟨hP, hD, hG, hS, hA, rfl, rfl⟩ : kAt D cy sa A s H _ _ [(ha, .inr (4, [.ref ha_x, .ref ha_y, .ref ha_holds, .ref ha_needs, .ref ha_harm, .ref ha_worth, .ref ha_joint, .ref ha_habit, .ref ha_sleepsFrom, .ref ha_sleepsTo, .ref ha_criesDrifted, .ref ha_criesElse, .int h_bodies, .int h_joints, .int h_breath, .int h_stride, .int h_day])), (ha_x, .inl (cy 0, 9, .inl hf_x)), (ha_y, .inl (cy 0, 9, .inl hf_y))] [1, 2, 3]) (wr := [(ma, .inr (7, [.ref ma_without, .ref ma_did, .int m_now, .int m_mind, .int m_way, .int m_done, .int m_abed, .int m_harm, .int m_worth, .int m_passes]))]) rfl rfl (by decide) (k_runV 4 1 (As := [.int m_mind, .int b0]) (rest := [.ref ma]) E lk_VRX5_96 rfl rfl rfl (c_cost l hl0 D cy sa ha ha_x ha_y ha_holds ha_needs ha_harm ha_worth ha_joint ha_habit ha_sleepsFrom ha_sleepsTo ha_criesDrifted ha_criesElse h_bodies h_joints h_breath h_stride h_day m_mind b0 hf_x hf_y ⟨by omega, by omega⟩ ⟨by omega, by omega⟩ ⟨by omega, by omega⟩ h_hf_x h_hf_y H.size) (⟨hP, hD, hG, hS, hA, rfl, rfl⟩ : kAt D cy sa A s H _ _ [(ha, .inr (4, [.ref ha_x, .ref ha_y, .ref ha_holds, .ref ha_needs, .ref ha_harm, .ref ha_worth, .ref ha_joint, .ref ha_habit, .ref ha_sleepsFrom, .ref ha_sleepsTo, .ref ha_criesDrifted, .ref ha_criesElse, .int h_bodies, .int h_joints, .int h_breath, .int h_stride, .int h_day])), (ha_x, .inl (cy 0, 9, .inl hf_x)), (ha_y, .inl (cy 0, 9, .inl hf_y))] [1, 2, 3]) hl.1 rfl rfl ⟨rfl, rfl, ⟨Nat.le_of_ble_eq_true rfl, Nat.le_of_ble_eq_true rfl⟩, ⟨Nat.le_of_ble_eq_true rfl, Nat.le_of_ble_eq_true rfl⟩, Nat.le_of_ble_eq_true rfl⟩ dX5_send_7) (fun r1q u2q H locs hwu2q hP hD hS => ?_)
  have hP : va_P D vwCl [(ma, .inr (7, [.ref ma_without, .ref ma_did, .int m_now, .int m_mind, .int m_way, .int m_done, .int m_abed, .int m_harm, .int m_worth, .int m_passes])), (ha, .inr (4, [.ref ha_x, .ref ha_y, .ref ha_holds, .ref ha_needs, .ref ha_harm, .ref ha_worth, .ref ha_joint, .ref ha_habit, .ref ha_sleepsFrom, .ref ha_sleepsTo, .ref ha_criesDrifted, .ref ha_criesElse, .int h_bodies, .int h_joints, .int h_breath, .int h_stride, .int h_day])), (ha_x, .inl (cy 0, 9, .inl hf_x)), (ha_y, .inl (cy 0, 9, .inl hf_y))] H := hP
  have hD : va_D A [(ma, .inr (7, [.ref ma_without, .ref ma_did, .int m_now, .int m_mind, .int m_way, .int m_done, .int m_abed, .int m_harm, .int m_worth, .int m_passes])), (ha, .inr (4, [.ref ha_x, .ref ha_y, .ref ha_holds, .ref ha_needs, .ref ha_harm, .ref ha_worth, .ref ha_joint, .ref ha_habit, .ref ha_sleepsFrom, .ref ha_sleepsTo, .ref ha_criesDrifted, .ref ha_criesElse, .int h_bodies, .int h_joints, .int h_breath, .int h_stride, .int h_day])), (ha_x, .inl (cy 0, 9, .inl hf_x)), (ha_y, .inl (cy 0, 9, .inl hf_y))] := hD
  have p3q := hwu2q
  refine va_put (D := D) (ci := 7) (v := .int r1q) (ty := .int) (C := RX5) (T := TX5) (N := 10) hx hb hts kin_RX5 tyX5 tyX5_ok nmX5 hown hG.1 hP hD hS 0 rfl rfl 4 (by decide) (hts _ wm_194) (fun _ h9 => h9) rfl (by decide +kernel) rfl rfl (Nat.le_of_ble_eq_true rfl) dX5_send_10 (fun H locs hP hD hS => ?_)
  have hP : va_P D vwCl [(ma, .inr (7, [.ref ma_without, .ref ma_did, .int m_now, .int m_mind, .int r1q, .int m_done, .int m_abed, .int m_harm, .int m_worth, .int m_passes])), (ha, .inr (4, [.ref ha_x, .ref ha_y, .ref ha_holds, .ref ha_needs, .ref ha_harm, .ref ha_worth, .ref ha_joint, .ref ha_habit, .ref ha_sleepsFrom, .ref ha_sleepsTo, .ref ha_criesDrifted, .ref ha_criesElse, .int h_bodies, .int h_joints, .int h_breath, .int h_stride, .int h_day])), (ha_x, .inl (cy 0, 9, .inl hf_x)), (ha_y, .inl (cy 0, 9, .inl hf_y))] H := hP
  have hD : va_D A [(ma, .inr (7, [.ref ma_without, .ref ma_did, .int m_now, .int m_mind, .int r1q, .int m_done, .int m_abed, .int m_harm, .int m_worth, .int m_passes])), (ha, .inr (4, [.ref ha_x, .ref ha_y, .ref ha_holds, .ref ha_needs, .ref ha_harm, .ref ha_worth, .ref ha_joint, .ref ha_habit, .ref ha_sleepsFrom, .ref ha_sleepsTo, .ref ha_criesDrifted, .ref ha_criesElse, .int h_bodies, .int h_joints, .int h_breath, .int h_stride, .int h_day])), (ha_x, .inl (cy 0, 9, .inl hf_x)), (ha_y, .inl (cy 0, 9, .inl hf_y))] := hD
  refine lv_aload_n hx hb dX5_send_13 rfl (lv_at hl 0 rfl) ?_
  refine lv_iload_n hx hb dX5_send_14 rfl (lv_at hl 2 rfl) ?_
  refine va_put (D := D) (ci := 7) (v := .int b0) (ty := .int) (C := RX5) (T := TX5) (N := 10) hx hb hts kin_RX5 tyX5 tyX5_ok nmX5 hown hG.1 hP hD hS 0 rfl rfl 3 (by decide) (hts _ wm_189) (fun _ h9 => h9) rfl (by decide +kernel) rfl rfl (Nat.le_of_ble_eq_true rfl) dX5_send_15 (fun H locs hP hD hS => ?_)
  have hP : va_P D vwCl [(ma, .inr (7, [.ref ma_without, .ref ma_did, .int m_now, .int b0, .int r1q, .int m_done, .int m_abed, .int m_harm, .int m_worth, .int m_passes])), (ha, .inr (4, [.ref ha_x, .ref ha_y, .ref ha_holds, .ref ha_needs, .ref ha_harm, .ref ha_worth, .ref ha_joint, .ref ha_habit, .ref ha_sleepsFrom, .ref ha_sleepsTo, .ref ha_criesDrifted, .ref ha_criesElse, .int h_bodies, .int h_joints, .int h_breath, .int h_stride, .int h_day])), (ha_x, .inl (cy 0, 9, .inl hf_x)), (ha_y, .inl (cy 0, 9, .inl hf_y))] H := hP
  have hD : va_D A [(ma, .inr (7, [.ref ma_without, .ref ma_did, .int m_now, .int b0, .int r1q, .int m_done, .int m_abed, .int m_harm, .int m_worth, .int m_passes])), (ha, .inr (4, [.ref ha_x, .ref ha_y, .ref ha_holds, .ref ha_needs, .ref ha_harm, .ref ha_worth, .ref ha_joint, .ref ha_habit, .ref ha_sleepsFrom, .ref ha_sleepsTo, .ref ha_criesDrifted, .ref ha_criesElse, .int h_bodies, .int h_joints, .int h_breath, .int h_stride, .int h_day])), (ha_x, .inl (cy 0, 9, .inl hf_x)), (ha_y, .inl (cy 0, 9, .inl hf_y))] := hD
  refine lv_aload_n hx hb dX5_send_18 rfl (lv_at hl 0 rfl) ?_
  refine lv_dup hx hb dX5_send_19 rfl ?_
  refine va_get (D := D) (ci := 7) (v := .int m_passes) (C := RX5) (T := TX5) (N := 10) hx hb hts kin_RX5 hown hG.1 hP 0 rfl rfl 9 (by decide) (hts _ wm_207) (fun _ h9 => h9) rfl dX5_send_20 ?_
  refine lv_iconst (v := 1) hx hb dX5_send_23 (by decide) ?_
  refine lv_iadd hx hb dX5_send_24 ?_
  refine lv_topi (fun x4q ex4q => ?_)
  have gx4q := k_rng m_passes
  refine va_put (D := D) (ci := 7) (v := .int x4q) (ty := .int) (C := RX5) (T := TX5) (N := 10) hx hb hts kin_RX5 tyX5 tyX5_ok nmX5 hown hG.1 hP hD hS 0 rfl rfl 9 (by decide) (hts _ wm_207) (fun _ h9 => h9) rfl (by decide +kernel) rfl rfl (Nat.le_of_ble_eq_true rfl) dX5_send_25 (fun H locs hP hD hS => ?_)
  have hP : va_P D vwCl [(ma, .inr (7, [.ref ma_without, .ref ma_did, .int m_now, .int b0, .int r1q, .int m_done, .int m_abed, .int m_harm, .int m_worth, .int x4q])), (ha, .inr (4, [.ref ha_x, .ref ha_y, .ref ha_holds, .ref ha_needs, .ref ha_harm, .ref ha_worth, .ref ha_joint, .ref ha_habit, .ref ha_sleepsFrom, .ref ha_sleepsTo, .ref ha_criesDrifted, .ref ha_criesElse, .int h_bodies, .int h_joints, .int h_breath, .int h_stride, .int h_day])), (ha_x, .inl (cy 0, 9, .inl hf_x)), (ha_y, .inl (cy 0, 9, .inl hf_y))] H := hP
  have hD : va_D A [(ma, .inr (7, [.ref ma_without, .ref ma_did, .int m_now, .int b0, .int r1q, .int m_done, .int m_abed, .int m_harm, .int m_worth, .int x4q])), (ha, .inr (4, [.ref ha_x, .ref ha_y, .ref ha_holds, .ref ha_needs, .ref ha_harm, .ref ha_worth, .ref ha_joint, .ref ha_habit, .ref ha_sleepsFrom, .ref ha_sleepsTo, .ref ha_criesDrifted, .ref ha_criesElse, .int h_bodies, .int h_joints, .int h_breath, .int h_stride, .int h_day])), (ha_x, .inl (cy 0, 9, .inl hf_x)), (ha_y, .inl (cy 0, 9, .inl hf_y))] := hD
  rw [hQ0]
  exact k_vret (fun k => [b0, r1q, x4q].getD k 0, fun k => [].getD k (fun _ => 0)) hx hb hr hlk ((show -1 ≤ b0.toInt ∧ b0.toInt ≤ 8 from ⟨by omega, by omega⟩)) (hP.sub [0, 1, 2, 3] rfl) (hD.sub [0, 1, 2, 3] (by decide) rfl) hS (by decide) (by decide) dX5_send_28

set_option maxHeartbeats 4000000 in
set_option maxRecDepth 100000 in
/-- Moment.forget -/
theorem c_forget (l : Launch) (hl0 : l.stackTraces = false) (D : va_G) (cy : Nat → ClassId) (sa : Nat → Nat) (ma ma_without ma_did : Nat) (m_now m_mind m_way m_done m_abed m_harm m_worth m_passes : Int32) (h_m_now : 0 ≤ m_now.toInt ∧ m_now.toInt ≤ 480) (h_m_mind : -1 ≤ m_mind.toInt ∧ m_mind.toInt ≤ 8) (sz : Nat) : Met l yX5_forget (Cond.code yX5_forget cX5_forget 1 none :: kWS) ({ frames := 10, cells := 0, slots := 0, locals := 300 }) (kPre D cy sa [.ref ma] [(ma, .inr (7, [.ref ma_without, .ref ma_did, .int m_now, .int m_mind, .int m_way, .int m_done, .int m_abed, .int m_harm, .int m_worth, .int m_passes]))] sz) (va_Qv (fun (u : (Nat → Int32) × (Nat → Nat → Int32)) => True) (kB D (va_A [(ma, .inr (7, [.ref ma_without, .ref ma_did, .int m_now, .int m_mind, .int m_way, .int m_done, .int m_abed, .int m_harm, .int m_worth, .int m_passes]))] sz) (fun (u : (Nat → Int32) × (Nat → Nat → Int32)) => [(ma, .inr (7, [.ref ma_without, .ref ma_did, .int m_now, .int m_mind, .int m_way, .int m_done, .int m_abed, .int ((u.1 0)), .int ((u.1 1)), .int ((u.1 2))]))])) (va_A [(ma, .inr (7, [.ref ma_without, .ref ma_did, .int m_now, .int m_mind, .int m_way, .int m_done, .int m_abed, .int m_harm, .int m_worth, .int m_passes]))] sz)) 0 0 (va_A [(ma, .inr (7, [.ref ma_without, .ref ma_did, .int m_now, .int m_mind, .int m_way, .int m_done, .int m_abed, .int m_harm, .int m_worth, .int m_passes]))] sz) := by
  refine k_ofW (y := yX5_forget) (cc := cX5_forget) (maxL := 1) (ret := none) (av := [.ref ma]) (ws := [(ma, .inr (7, [.ref ma_without, .ref ma_did, .int m_now, .int m_mind, .int m_way, .int m_done, .int m_abed, .int m_harm, .int m_worth, .int m_passes]))]) (Qc := fun A => (va_Qv (fun (u : (Nat → Int32) × (Nat → Nat → Int32)) => True) (kB D A (fun (u : (Nat → Int32) × (Nat → Nat → Int32)) => [(ma, .inr (7, [.ref ma_without, .ref ma_did, .int m_now, .int m_mind, .int m_way, .int m_done, .int m_abed, .int ((u.1 0)), .int ((u.1 1)), .int ((u.1 2))]))])) A)) (by decide) (Nat.le_of_ble_eq_true rfl) ?_
  intro p e s m below meth c ls A E hA hP hD hG hS hl
  obtain ⟨Q0, hQ0⟩ : ∃ Q0 : State → Prop, Q0 = MQ below (va_Qv (fun (u : (Nat → Int32) × (Nat → Nat → Int32)) => True) (kB D A (fun (u : (Nat → Int32) × (Nat → Nat → Int32)) => [(ma, .inr (7, [.ref ma_without, .ref ma_did, .int m_now, .int m_mind, .int m_way, .int m_done, .int m_abed, .int ((u.1 0)), .int ((u.1 1)), .int ((u.1 2))]))])) A) ([.ref ma] : List Value).toArray s 0 0 A := ⟨_, rfl⟩
  rw [← hQ0]
  obtain ⟨hx, hb, hml, hown, hts, hr, hlk, hnm⟩ := id E
  have hown : s.vm.findClass RX5 = some m.cls := hown
  have hl : lv_has ls 1 [(0, .ref ma)] := hl
  obtain ⟨H, hH⟩ : ∃ H, H = s.heap := ⟨_, rfl⟩
  have hP : va_P D vwCl [(ma, .inr (7, [.ref ma_without, .ref ma_did, .int m_now, .int m_mind, .int m_way, .int m_done, .int m_abed, .int m_harm, .int m_worth, .int m_passes]))] H := by rw [hH]; exact hP
  have hS : va_S A s.heap H [] := by rw [hH]; exact va_S.rf
  rw [← hH]
  clear hH
  obtain ⟨locs, hlocs⟩ : ∃ locs : List Loc, locs = [] := ⟨_, rfl⟩
  rw [← hlocs] at hS ⊢
  refine lv_aload_n hx hb dX5_forget_0 rfl (lv_at hl 0 rfl) ?_
  refine lv_iconst (v := 0) hx hb dX5_forget_1 (by decide) ?_
  refine va_put (D := D) (ci := 7) (v := .int 0) (ty := .int) (C := RX5) (T := TX5) (N := 10) hx hb hts kin_RX5 tyX5 tyX5_ok nmX5 hown hG.1 hP hD hS 0 rfl rfl 7 (by decide) (hts _ wm_203) (fun _ h9 => h9) rfl (by decide +kernel) rfl rfl (Nat.le_of_ble_eq_true rfl) dX5_forget_2 (fun H locs hP hD hS => ?_)
  have hP : va_P D vwCl [(ma, .inr (7, [.ref ma_without, .ref ma_did, .int m_now, .int m_mind, .int m_way, .int m_done, .int m_abed, .int 0, .int m_worth, .int m_passes]))] H := hP
  have hD : va_D A [(ma, .inr (7, [.ref ma_without, .ref ma_did, .int m_now, .int m_mind, .int m_way, .int m_done, .int m_abed, .int 0, .int m_worth, .int m_passes]))] := hD
  refine lv_aload_n hx hb dX5_forget_5 rfl (lv_at hl 0 rfl) ?_
  refine lv_iconst (v := 0) hx hb dX5_forget_6 (by decide) ?_
  refine va_put (D := D) (ci := 7) (v := .int 0) (ty := .int) (C := RX5) (T := TX5) (N := 10) hx hb hts kin_RX5 tyX5 tyX5_ok nmX5 hown hG.1 hP hD hS 0 rfl rfl 8 (by decide) (hts _ wm_205) (fun _ h9 => h9) rfl (by decide +kernel) rfl rfl (Nat.le_of_ble_eq_true rfl) dX5_forget_7 (fun H locs hP hD hS => ?_)
  have hP : va_P D vwCl [(ma, .inr (7, [.ref ma_without, .ref ma_did, .int m_now, .int m_mind, .int m_way, .int m_done, .int m_abed, .int 0, .int 0, .int m_passes]))] H := hP
  have hD : va_D A [(ma, .inr (7, [.ref ma_without, .ref ma_did, .int m_now, .int m_mind, .int m_way, .int m_done, .int m_abed, .int 0, .int 0, .int m_passes]))] := hD
  refine lv_aload_n hx hb dX5_forget_10 rfl (lv_at hl 0 rfl) ?_
  refine lv_iconst (v := 0) hx hb dX5_forget_11 (by decide) ?_
  refine va_put (D := D) (ci := 7) (v := .int 0) (ty := .int) (C := RX5) (T := TX5) (N := 10) hx hb hts kin_RX5 tyX5 tyX5_ok nmX5 hown hG.1 hP hD hS 0 rfl rfl 9 (by decide) (hts _ wm_207) (fun _ h9 => h9) rfl (by decide +kernel) rfl rfl (Nat.le_of_ble_eq_true rfl) dX5_forget_12 (fun H locs hP hD hS => ?_)
  have hP : va_P D vwCl [(ma, .inr (7, [.ref ma_without, .ref ma_did, .int m_now, .int m_mind, .int m_way, .int m_done, .int m_abed, .int 0, .int 0, .int 0]))] H := hP
  have hD : va_D A [(ma, .inr (7, [.ref ma_without, .ref ma_did, .int m_now, .int m_mind, .int m_way, .int m_done, .int m_abed, .int 0, .int 0, .int 0]))] := hD
  rw [hQ0]
  exact k_vret (fun k => [0, 0, 0].getD k 0, fun k => [].getD k (fun _ => 0)) hx hb hr hlk (trivial) (hP.sub [0] rfl) (hD.sub [0] (by decide) rfl) hS (by decide) (by decide) dX5_forget_15

set_option maxHeartbeats 4000000 in
set_option maxRecDepth 100000 in
/-- Moment.copy -/
theorem c_mcopy (l : Launch) (hl0 : l.stackTraces = false) (D : va_G) (cy : Nat → ClassId) (sa : Nat → Nat) (ma ma_without ma_did oa oa_without oa_did : Nat) (m_now m_mind m_way m_done m_abed m_harm m_worth m_passes o_now o_mind o_way o_done o_abed o_harm o_worth o_passes : Int32) (mf_without mf_did of_without of_did : Nat → Int32) (h_m_now : 0 ≤ m_now.toInt ∧ m_now.toInt ≤ 480) (h_m_mind : -1 ≤ m_mind.toInt ∧ m_mind.toInt ≤ 8) (h_mf_did : rowR 9 0 (9 * m_now.toInt + 240) mf_did) (h_o_now : 0 ≤ o_now.toInt ∧ o_now.toInt ≤ 480) (h_o_mind : -1 ≤ o_mind.toInt ∧ o_mind.toInt ≤ 8) (h_of_did : rowR 9 0 (9 * o_now.toInt + 240) of_did) (sz : Nat) : Met l yX5_copy (Cond.code yX5_copy cX5_copy 2 none :: kWS) ({ frames := 10, cells := 0, slots := 0, locals := 300 }) (kPre D cy sa [.ref ma, .ref oa] [(ma, .inr (7, [.ref ma_without, .ref ma_did, .int m_now, .int m_mind, .int m_way, .int m_done, .int m_abed, .int m_harm, .int m_worth, .int m_passes])), (ma_without, .inl (cy 0, 9, .inl mf_without)), (ma_did, .inl (cy 0, 9, .inl mf_did)), (oa, .inr (7, [.ref oa_without, .ref oa_did, .int o_now, .int o_mind, .int o_way, .int o_done, .int o_abed, .int o_harm, .int o_worth, .int o_passes])), (oa_without, .inl (cy 0, 9, .inl of_without)), (oa_did, .inl (cy 0, 9, .inl of_did))] sz) (va_Qv (fun (u : (Nat → Int32) × (Nat → Nat → Int32)) => (0 ≤ ((u.1 0)).toInt ∧ ((u.1 0)).toInt ≤ 480) ∧ (-1 ≤ ((u.1 1)).toInt ∧ ((u.1 1)).toInt ≤ 8) ∧ (rowR 9 0 (9 * ((u.1 0)).toInt + 240) ((u.2 1))) ∧ ((u.1 0).toInt = o_now.toInt) ∧ ((u.1 1).toInt = o_mind.toInt)) (kB D (va_A [(ma, .inr (7, [.ref ma_without, .ref ma_did, .int m_now, .int m_mind, .int m_way, .int m_done, .int m_abed, .int m_harm, .int m_worth, .int m_passes])), (ma_without, .inl (cy 0, 9, .inl mf_without)), (ma_did, .inl (cy 0, 9, .inl mf_did)), (oa, .inr (7, [.ref oa_without, .ref oa_did, .int o_now, .int o_mind, .int o_way, .int o_done, .int o_abed, .int o_harm, .int o_worth, .int o_passes])), (oa_without, .inl (cy 0, 9, .inl of_without)), (oa_did, .inl (cy 0, 9, .inl of_did))] sz) (fun (u : (Nat → Int32) × (Nat → Nat → Int32)) => [(ma, .inr (7, [.ref ma_without, .ref ma_did, .int ((u.1 0)), .int ((u.1 1)), .int ((u.1 2)), .int ((u.1 3)), .int ((u.1 4)), .int ((u.1 5)), .int ((u.1 6)), .int ((u.1 7))])), (ma_without, .inl (cy 0, 9, .inl ((u.2 0)))), (ma_did, .inl (cy 0, 9, .inl ((u.2 1)))), (oa, .inr (7, [.ref oa_without, .ref oa_did, .int o_now, .int o_mind, .int o_way, .int o_done, .int o_abed, .int o_harm, .int o_worth, .int o_passes])), (oa_without, .inl (cy 0, 9, .inl of_without)), (oa_did, .inl (cy 0, 9, .inl of_did))])) (va_A [(ma, .inr (7, [.ref ma_without, .ref ma_did, .int m_now, .int m_mind, .int m_way, .int m_done, .int m_abed, .int m_harm, .int m_worth, .int m_passes])), (ma_without, .inl (cy 0, 9, .inl mf_without)), (ma_did, .inl (cy 0, 9, .inl mf_did)), (oa, .inr (7, [.ref oa_without, .ref oa_did, .int o_now, .int o_mind, .int o_way, .int o_done, .int o_abed, .int o_harm, .int o_worth, .int o_passes])), (oa_without, .inl (cy 0, 9, .inl of_without)), (oa_did, .inl (cy 0, 9, .inl of_did))] sz)) 0 0 (va_A [(ma, .inr (7, [.ref ma_without, .ref ma_did, .int m_now, .int m_mind, .int m_way, .int m_done, .int m_abed, .int m_harm, .int m_worth, .int m_passes])), (ma_without, .inl (cy 0, 9, .inl mf_without)), (ma_did, .inl (cy 0, 9, .inl mf_did)), (oa, .inr (7, [.ref oa_without, .ref oa_did, .int o_now, .int o_mind, .int o_way, .int o_done, .int o_abed, .int o_harm, .int o_worth, .int o_passes])), (oa_without, .inl (cy 0, 9, .inl of_without)), (oa_did, .inl (cy 0, 9, .inl of_did))] sz) := by
  refine k_ofW (y := yX5_copy) (cc := cX5_copy) (maxL := 2) (ret := none) (av := [.ref ma, .ref oa]) (ws := [(ma, .inr (7, [.ref ma_without, .ref ma_did, .int m_now, .int m_mind, .int m_way, .int m_done, .int m_abed, .int m_harm, .int m_worth, .int m_passes])), (ma_without, .inl (cy 0, 9, .inl mf_without)), (ma_did, .inl (cy 0, 9, .inl mf_did)), (oa, .inr (7, [.ref oa_without, .ref oa_did, .int o_now, .int o_mind, .int o_way, .int o_done, .int o_abed, .int o_harm, .int o_worth, .int o_passes])), (oa_without, .inl (cy 0, 9, .inl of_without)), (oa_did, .inl (cy 0, 9, .inl of_did))]) (Qc := fun A => (va_Qv (fun (u : (Nat → Int32) × (Nat → Nat → Int32)) => (0 ≤ ((u.1 0)).toInt ∧ ((u.1 0)).toInt ≤ 480) ∧ (-1 ≤ ((u.1 1)).toInt ∧ ((u.1 1)).toInt ≤ 8) ∧ (rowR 9 0 (9 * ((u.1 0)).toInt + 240) ((u.2 1))) ∧ ((u.1 0).toInt = o_now.toInt) ∧ ((u.1 1).toInt = o_mind.toInt)) (kB D A (fun (u : (Nat → Int32) × (Nat → Nat → Int32)) => [(ma, .inr (7, [.ref ma_without, .ref ma_did, .int ((u.1 0)), .int ((u.1 1)), .int ((u.1 2)), .int ((u.1 3)), .int ((u.1 4)), .int ((u.1 5)), .int ((u.1 6)), .int ((u.1 7))])), (ma_without, .inl (cy 0, 9, .inl ((u.2 0)))), (ma_did, .inl (cy 0, 9, .inl ((u.2 1)))), (oa, .inr (7, [.ref oa_without, .ref oa_did, .int o_now, .int o_mind, .int o_way, .int o_done, .int o_abed, .int o_harm, .int o_worth, .int o_passes])), (oa_without, .inl (cy 0, 9, .inl of_without)), (oa_did, .inl (cy 0, 9, .inl of_did))])) A)) (by decide) (Nat.le_of_ble_eq_true rfl) ?_
  intro p e s m below meth c ls A E hA hP hD hG hS hl
  obtain ⟨Q0, hQ0⟩ : ∃ Q0 : State → Prop, Q0 = MQ below (va_Qv (fun (u : (Nat → Int32) × (Nat → Nat → Int32)) => (0 ≤ ((u.1 0)).toInt ∧ ((u.1 0)).toInt ≤ 480) ∧ (-1 ≤ ((u.1 1)).toInt ∧ ((u.1 1)).toInt ≤ 8) ∧ (rowR 9 0 (9 * ((u.1 0)).toInt + 240) ((u.2 1))) ∧ ((u.1 0).toInt = o_now.toInt) ∧ ((u.1 1).toInt = o_mind.toInt)) (kB D A (fun (u : (Nat → Int32) × (Nat → Nat → Int32)) => [(ma, .inr (7, [.ref ma_without, .ref ma_did, .int ((u.1 0)), .int ((u.1 1)), .int ((u.1 2)), .int ((u.1 3)), .int ((u.1 4)), .int ((u.1 5)), .int ((u.1 6)), .int ((u.1 7))])), (ma_without, .inl (cy 0, 9, .inl ((u.2 0)))), (ma_did, .inl (cy 0, 9, .inl ((u.2 1)))), (oa, .inr (7, [.ref oa_without, .ref oa_did, .int o_now, .int o_mind, .int o_way, .int o_done, .int o_abed, .int o_harm, .int o_worth, .int o_passes])), (oa_without, .inl (cy 0, 9, .inl of_without)), (oa_did, .inl (cy 0, 9, .inl of_did))])) A) ([.ref ma, .ref oa] : List Value).toArray s 0 0 A := ⟨_, rfl⟩
  rw [← hQ0]
  obtain ⟨hx, hb, hml, hown, hts, hr, hlk, hnm⟩ := id E
  have hown : s.vm.findClass RX5 = some m.cls := hown
  have hl : lv_has ls 2 [(0, .ref ma), (1, .ref oa)] := hl
  obtain ⟨H, hH⟩ : ∃ H, H = s.heap := ⟨_, rfl⟩
  have hP : va_P D vwCl [(ma, .inr (7, [.ref ma_without, .ref ma_did, .int m_now, .int m_mind, .int m_way, .int m_done, .int m_abed, .int m_harm, .int m_worth, .int m_passes])), (ma_without, .inl (cy 0, 9, .inl mf_without)), (ma_did, .inl (cy 0, 9, .inl mf_did)), (oa, .inr (7, [.ref oa_without, .ref oa_did, .int o_now, .int o_mind, .int o_way, .int o_done, .int o_abed, .int o_harm, .int o_worth, .int o_passes])), (oa_without, .inl (cy 0, 9, .inl of_without)), (oa_did, .inl (cy 0, 9, .inl of_did))] H := by rw [hH]; exact hP
  have hS : va_S A s.heap H [] := by rw [hH]; exact va_S.rf
  rw [← hH]
  clear hH
  obtain ⟨locs, hlocs⟩ : ∃ locs : List Loc, locs = [] := ⟨_, rfl⟩
  rw [← hlocs] at hS ⊢
  refine lv_aload_n hx hb dX5_copy_0 rfl (lv_at hl 1 rfl) ?_
  refine va_get (D := D) (ci := 7) (v := .ref oa_without) (C := RX5) (T := TX5) (N := 10) hx hb hts kin_RX5 hown hG.1 hP 3 rfl rfl 0 (by decide) (hts _ wm_179) (fun _ h9 => h9) rfl dX5_copy_1 ?_
  refine lv_iconst (v := 0) hx hb dX5_copy_4 (by decide) ?_
  refine lv_aload_n hx hb dX5_copy_5 rfl (lv_at hl 0 rfl) ?_
  refine va_get (D := D) (ci := 7) (v := .ref ma_without) (C := RX5) (T := TX5) (N := 10) hx hb hts kin_RX5 hown hG.1 hP 0 rfl rfl 0 (by decide) (hts _ wm_179) (fun _ h9 => h9) rfl dX5_copy_6 ?_
  refine lv_iconst (v := 0) hx hb dX5_copy_9 (by decide) ?_
  refine lv_bipush (v := 9) hx hb dX5_copy_10 (by decide) ?_
  refine va_copyi hx hb (hml.trans hl.1.symm) hown (hts _ wm_899) (hts _ wm_668) (hts _ wm_667) (hts _ wm_29) hG.1 hP hD hS 4 1 0 0 rfl rfl rfl rfl rfl (by decide) (by decide) (by decide) (by decide) (by decide) (fun _ _ => rfl) (Nat.le_of_ble_eq_true rfl) (Nat.le_of_ble_eq_true rfl) dX5_copy_12 (fun H locs hP hD hS => ?_)
  have hP : va_P D vwCl [(ma, .inr (7, [.ref ma_without, .ref ma_did, .int m_now, .int m_mind, .int m_way, .int m_done, .int m_abed, .int m_harm, .int m_worth, .int m_passes])), (ma_without, .inl (cy 0, 9, .inl (va_cpy (of_without) (mf_without) (0 : Int32).toNatClampNeg (0 : Int32).toNatClampNeg (9 : Int32).toNatClampNeg))), (ma_did, .inl (cy 0, 9, .inl mf_did)), (oa, .inr (7, [.ref oa_without, .ref oa_did, .int o_now, .int o_mind, .int o_way, .int o_done, .int o_abed, .int o_harm, .int o_worth, .int o_passes])), (oa_without, .inl (cy 0, 9, .inl of_without)), (oa_did, .inl (cy 0, 9, .inl of_did))] H := hP
  have hD : va_D A [(ma, .inr (7, [.ref ma_without, .ref ma_did, .int m_now, .int m_mind, .int m_way, .int m_done, .int m_abed, .int m_harm, .int m_worth, .int m_passes])), (ma_without, .inl (cy 0, 9, .inl (va_cpy (of_without) (mf_without) (0 : Int32).toNatClampNeg (0 : Int32).toNatClampNeg (9 : Int32).toNatClampNeg))), (ma_did, .inl (cy 0, 9, .inl mf_did)), (oa, .inr (7, [.ref oa_without, .ref oa_did, .int o_now, .int o_mind, .int o_way, .int o_done, .int o_abed, .int o_harm, .int o_worth, .int o_passes])), (oa_without, .inl (cy 0, 9, .inl of_without)), (oa_did, .inl (cy 0, 9, .inl of_did))] := hD
  generalize va_cpy (of_without) (mf_without) (0 : Int32).toNatClampNeg (0 : Int32).toNatClampNeg (9 : Int32).toNatClampNeg = f1q at hP hD
  have hP : va_P D vwCl [(ma, .inr (7, [.ref ma_without, .ref ma_did, .int m_now, .int m_mind, .int m_way, .int m_done, .int m_abed, .int m_harm, .int m_worth, .int m_passes])), (ma_without, .inl (cy 0, 9, .inl f1q)), (ma_did, .inl (cy 0, 9, .inl mf_did)), (oa, .inr (7, [.ref oa_without, .ref oa_did, .int o_now, .int o_mind, .int o_way, .int o_done, .int o_abed, .int o_harm, .int o_worth, .int o_passes])), (oa_without, .inl (cy 0, 9, .inl of_without)), (oa_did, .inl (cy 0, 9, .inl of_did))] H := hP
  have hD : va_D A [(ma, .inr (7, [.ref ma_without, .ref ma_did, .int m_now, .int m_mind, .int m_way, .int m_done, .int m_abed, .int m_harm, .int m_worth, .int m_passes])), (ma_without, .inl (cy 0, 9, .inl f1q)), (ma_did, .inl (cy 0, 9, .inl mf_did)), (oa, .inr (7, [.ref oa_without, .ref oa_did, .int o_now, .int o_mind, .int o_way, .int o_done, .int o_abed, .int o_harm, .int o_worth, .int o_passes])), (oa_without, .inl (cy 0, 9, .inl of_without)), (oa_did, .inl (cy 0, 9, .inl of_did))] := hD
  refine lv_aload_n hx hb dX5_copy_15 rfl (lv_at hl 1 rfl) ?_
  refine va_get (D := D) (ci := 7) (v := .ref oa_did) (C := RX5) (T := TX5) (N := 10) hx hb hts kin_RX5 hown hG.1 hP 3 rfl rfl 1 (by decide) (hts _ wm_181) (fun _ h9 => h9) rfl dX5_copy_16 ?_
  refine lv_iconst (v := 0) hx hb dX5_copy_19 (by decide) ?_
  refine lv_aload_n hx hb dX5_copy_20 rfl (lv_at hl 0 rfl) ?_
  refine va_get (D := D) (ci := 7) (v := .ref ma_did) (C := RX5) (T := TX5) (N := 10) hx hb hts kin_RX5 hown hG.1 hP 0 rfl rfl 1 (by decide) (hts _ wm_181) (fun _ h9 => h9) rfl dX5_copy_21 ?_
  refine lv_iconst (v := 0) hx hb dX5_copy_24 (by decide) ?_
  refine lv_bipush (v := 9) hx hb dX5_copy_25 (by decide) ?_
  refine va_copyi hx hb (hml.trans hl.1.symm) hown (hts _ wm_899) (hts _ wm_668) (hts _ wm_667) (hts _ wm_29) hG.1 hP hD hS 5 2 0 0 rfl rfl rfl rfl rfl (by decide) (by decide) (by decide) (by decide) (by decide) (fun _ _ => rfl) (Nat.le_of_ble_eq_true rfl) (Nat.le_of_ble_eq_true rfl) dX5_copy_27 (fun H locs hP hD hS => ?_)
  have hP : va_P D vwCl [(ma, .inr (7, [.ref ma_without, .ref ma_did, .int m_now, .int m_mind, .int m_way, .int m_done, .int m_abed, .int m_harm, .int m_worth, .int m_passes])), (ma_without, .inl (cy 0, 9, .inl f1q)), (ma_did, .inl (cy 0, 9, .inl (va_cpy (of_did) (mf_did) (0 : Int32).toNatClampNeg (0 : Int32).toNatClampNeg (9 : Int32).toNatClampNeg))), (oa, .inr (7, [.ref oa_without, .ref oa_did, .int o_now, .int o_mind, .int o_way, .int o_done, .int o_abed, .int o_harm, .int o_worth, .int o_passes])), (oa_without, .inl (cy 0, 9, .inl of_without)), (oa_did, .inl (cy 0, 9, .inl of_did))] H := hP
  have hD : va_D A [(ma, .inr (7, [.ref ma_without, .ref ma_did, .int m_now, .int m_mind, .int m_way, .int m_done, .int m_abed, .int m_harm, .int m_worth, .int m_passes])), (ma_without, .inl (cy 0, 9, .inl f1q)), (ma_did, .inl (cy 0, 9, .inl (va_cpy (of_did) (mf_did) (0 : Int32).toNatClampNeg (0 : Int32).toNatClampNeg (9 : Int32).toNatClampNeg))), (oa, .inr (7, [.ref oa_without, .ref oa_did, .int o_now, .int o_mind, .int o_way, .int o_done, .int o_abed, .int o_harm, .int o_worth, .int o_passes])), (oa_without, .inl (cy 0, 9, .inl of_without)), (oa_did, .inl (cy 0, 9, .inl of_did))] := hD
  have hf2q : rowR 9 0 (9 * o_now.toInt + 240) (va_cpy (of_did) (mf_did) (0 : Int32).toNatClampNeg (0 : Int32).toNatClampNeg (9 : Int32).toNatClampNeg) := rowR_cpy h_of_did (by decide) (by decide) (by decide)
  generalize va_cpy (of_did) (mf_did) (0 : Int32).toNatClampNeg (0 : Int32).toNatClampNeg (9 : Int32).toNatClampNeg = f2q at hP hD hf2q
  have hP : va_P D vwCl [(ma, .inr (7, [.ref ma_without, .ref ma_did, .int m_now, .int m_mind, .int m_way, .int m_done, .int m_abed, .int m_harm, .int m_worth, .int m_passes])), (ma_without, .inl (cy 0, 9, .inl f1q)), (ma_did, .inl (cy 0, 9, .inl f2q)), (oa, .inr (7, [.ref oa_without, .ref oa_did, .int o_now, .int o_mind, .int o_way, .int o_done, .int o_abed, .int o_harm, .int o_worth, .int o_passes])), (oa_without, .inl (cy 0, 9, .inl of_without)), (oa_did, .inl (cy 0, 9, .inl of_did))] H := hP
  have hD : va_D A [(ma, .inr (7, [.ref ma_without, .ref ma_did, .int m_now, .int m_mind, .int m_way, .int m_done, .int m_abed, .int m_harm, .int m_worth, .int m_passes])), (ma_without, .inl (cy 0, 9, .inl f1q)), (ma_did, .inl (cy 0, 9, .inl f2q)), (oa, .inr (7, [.ref oa_without, .ref oa_did, .int o_now, .int o_mind, .int o_way, .int o_done, .int o_abed, .int o_harm, .int o_worth, .int o_passes])), (oa_without, .inl (cy 0, 9, .inl of_without)), (oa_did, .inl (cy 0, 9, .inl of_did))] := hD
  refine lv_aload_n hx hb dX5_copy_30 rfl (lv_at hl 0 rfl) ?_
  refine lv_aload_n hx hb dX5_copy_31 rfl (lv_at hl 1 rfl) ?_
  refine va_get (D := D) (ci := 7) (v := .int o_now) (C := RX5) (T := TX5) (N := 10) hx hb hts kin_RX5 hown hG.1 hP 3 rfl rfl 2 (by decide) (hts _ wm_184) (fun _ h9 => h9) rfl dX5_copy_32 ?_
  refine va_put (D := D) (ci := 7) (v := .int o_now) (ty := .int) (C := RX5) (T := TX5) (N := 10) hx hb hts kin_RX5 tyX5 tyX5_ok nmX5 hown hG.1 hP hD hS 0 rfl rfl 2 (by decide) (hts _ wm_184) (fun _ h9 => h9) rfl (by decide +kernel) rfl rfl (Nat.le_of_ble_eq_true rfl) dX5_copy_35 (fun H locs hP hD hS => ?_)
  have hP : va_P D vwCl [(ma, .inr (7, [.ref ma_without, .ref ma_did, .int o_now, .int m_mind, .int m_way, .int m_done, .int m_abed, .int m_harm, .int m_worth, .int m_passes])), (ma_without, .inl (cy 0, 9, .inl f1q)), (ma_did, .inl (cy 0, 9, .inl f2q)), (oa, .inr (7, [.ref oa_without, .ref oa_did, .int o_now, .int o_mind, .int o_way, .int o_done, .int o_abed, .int o_harm, .int o_worth, .int o_passes])), (oa_without, .inl (cy 0, 9, .inl of_without)), (oa_did, .inl (cy 0, 9, .inl of_did))] H := hP
  have hD : va_D A [(ma, .inr (7, [.ref ma_without, .ref ma_did, .int o_now, .int m_mind, .int m_way, .int m_done, .int m_abed, .int m_harm, .int m_worth, .int m_passes])), (ma_without, .inl (cy 0, 9, .inl f1q)), (ma_did, .inl (cy 0, 9, .inl f2q)), (oa, .inr (7, [.ref oa_without, .ref oa_did, .int o_now, .int o_mind, .int o_way, .int o_done, .int o_abed, .int o_harm, .int o_worth, .int o_passes])), (oa_without, .inl (cy 0, 9, .inl of_without)), (oa_did, .inl (cy 0, 9, .inl of_did))] := hD
  refine lv_aload_n hx hb dX5_copy_38 rfl (lv_at hl 0 rfl) ?_
  refine lv_aload_n hx hb dX5_copy_39 rfl (lv_at hl 1 rfl) ?_
  refine va_get (D := D) (ci := 7) (v := .int o_mind) (C := RX5) (T := TX5) (N := 10) hx hb hts kin_RX5 hown hG.1 hP 3 rfl rfl 3 (by decide) (hts _ wm_189) (fun _ h9 => h9) rfl dX5_copy_40 ?_
  refine va_put (D := D) (ci := 7) (v := .int o_mind) (ty := .int) (C := RX5) (T := TX5) (N := 10) hx hb hts kin_RX5 tyX5 tyX5_ok nmX5 hown hG.1 hP hD hS 0 rfl rfl 3 (by decide) (hts _ wm_189) (fun _ h9 => h9) rfl (by decide +kernel) rfl rfl (Nat.le_of_ble_eq_true rfl) dX5_copy_43 (fun H locs hP hD hS => ?_)
  have hP : va_P D vwCl [(ma, .inr (7, [.ref ma_without, .ref ma_did, .int o_now, .int o_mind, .int m_way, .int m_done, .int m_abed, .int m_harm, .int m_worth, .int m_passes])), (ma_without, .inl (cy 0, 9, .inl f1q)), (ma_did, .inl (cy 0, 9, .inl f2q)), (oa, .inr (7, [.ref oa_without, .ref oa_did, .int o_now, .int o_mind, .int o_way, .int o_done, .int o_abed, .int o_harm, .int o_worth, .int o_passes])), (oa_without, .inl (cy 0, 9, .inl of_without)), (oa_did, .inl (cy 0, 9, .inl of_did))] H := hP
  have hD : va_D A [(ma, .inr (7, [.ref ma_without, .ref ma_did, .int o_now, .int o_mind, .int m_way, .int m_done, .int m_abed, .int m_harm, .int m_worth, .int m_passes])), (ma_without, .inl (cy 0, 9, .inl f1q)), (ma_did, .inl (cy 0, 9, .inl f2q)), (oa, .inr (7, [.ref oa_without, .ref oa_did, .int o_now, .int o_mind, .int o_way, .int o_done, .int o_abed, .int o_harm, .int o_worth, .int o_passes])), (oa_without, .inl (cy 0, 9, .inl of_without)), (oa_did, .inl (cy 0, 9, .inl of_did))] := hD
  refine lv_aload_n hx hb dX5_copy_46 rfl (lv_at hl 0 rfl) ?_
  refine lv_aload_n hx hb dX5_copy_47 rfl (lv_at hl 1 rfl) ?_
  refine va_get (D := D) (ci := 7) (v := .int o_way) (C := RX5) (T := TX5) (N := 10) hx hb hts kin_RX5 hown hG.1 hP 3 rfl rfl 4 (by decide) (hts _ wm_194) (fun _ h9 => h9) rfl dX5_copy_48 ?_
  refine va_put (D := D) (ci := 7) (v := .int o_way) (ty := .int) (C := RX5) (T := TX5) (N := 10) hx hb hts kin_RX5 tyX5 tyX5_ok nmX5 hown hG.1 hP hD hS 0 rfl rfl 4 (by decide) (hts _ wm_194) (fun _ h9 => h9) rfl (by decide +kernel) rfl rfl (Nat.le_of_ble_eq_true rfl) dX5_copy_51 (fun H locs hP hD hS => ?_)
  have hP : va_P D vwCl [(ma, .inr (7, [.ref ma_without, .ref ma_did, .int o_now, .int o_mind, .int o_way, .int m_done, .int m_abed, .int m_harm, .int m_worth, .int m_passes])), (ma_without, .inl (cy 0, 9, .inl f1q)), (ma_did, .inl (cy 0, 9, .inl f2q)), (oa, .inr (7, [.ref oa_without, .ref oa_did, .int o_now, .int o_mind, .int o_way, .int o_done, .int o_abed, .int o_harm, .int o_worth, .int o_passes])), (oa_without, .inl (cy 0, 9, .inl of_without)), (oa_did, .inl (cy 0, 9, .inl of_did))] H := hP
  have hD : va_D A [(ma, .inr (7, [.ref ma_without, .ref ma_did, .int o_now, .int o_mind, .int o_way, .int m_done, .int m_abed, .int m_harm, .int m_worth, .int m_passes])), (ma_without, .inl (cy 0, 9, .inl f1q)), (ma_did, .inl (cy 0, 9, .inl f2q)), (oa, .inr (7, [.ref oa_without, .ref oa_did, .int o_now, .int o_mind, .int o_way, .int o_done, .int o_abed, .int o_harm, .int o_worth, .int o_passes])), (oa_without, .inl (cy 0, 9, .inl of_without)), (oa_did, .inl (cy 0, 9, .inl of_did))] := hD
  refine lv_aload_n hx hb dX5_copy_54 rfl (lv_at hl 0 rfl) ?_
  refine lv_aload_n hx hb dX5_copy_55 rfl (lv_at hl 1 rfl) ?_
  refine va_get (D := D) (ci := 7) (v := .int o_done) (C := RX5) (T := TX5) (N := 10) hx hb hts kin_RX5 hown hG.1 hP 3 rfl rfl 5 (by decide) (hts _ wm_199) (fun _ h9 => h9) rfl dX5_copy_56 ?_
  refine va_put (D := D) (ci := 7) (v := .int o_done) (ty := .int) (C := RX5) (T := TX5) (N := 10) hx hb hts kin_RX5 tyX5 tyX5_ok nmX5 hown hG.1 hP hD hS 0 rfl rfl 5 (by decide) (hts _ wm_199) (fun _ h9 => h9) rfl (by decide +kernel) rfl rfl (Nat.le_of_ble_eq_true rfl) dX5_copy_59 (fun H locs hP hD hS => ?_)
  have hP : va_P D vwCl [(ma, .inr (7, [.ref ma_without, .ref ma_did, .int o_now, .int o_mind, .int o_way, .int o_done, .int m_abed, .int m_harm, .int m_worth, .int m_passes])), (ma_without, .inl (cy 0, 9, .inl f1q)), (ma_did, .inl (cy 0, 9, .inl f2q)), (oa, .inr (7, [.ref oa_without, .ref oa_did, .int o_now, .int o_mind, .int o_way, .int o_done, .int o_abed, .int o_harm, .int o_worth, .int o_passes])), (oa_without, .inl (cy 0, 9, .inl of_without)), (oa_did, .inl (cy 0, 9, .inl of_did))] H := hP
  have hD : va_D A [(ma, .inr (7, [.ref ma_without, .ref ma_did, .int o_now, .int o_mind, .int o_way, .int o_done, .int m_abed, .int m_harm, .int m_worth, .int m_passes])), (ma_without, .inl (cy 0, 9, .inl f1q)), (ma_did, .inl (cy 0, 9, .inl f2q)), (oa, .inr (7, [.ref oa_without, .ref oa_did, .int o_now, .int o_mind, .int o_way, .int o_done, .int o_abed, .int o_harm, .int o_worth, .int o_passes])), (oa_without, .inl (cy 0, 9, .inl of_without)), (oa_did, .inl (cy 0, 9, .inl of_did))] := hD
  refine lv_aload_n hx hb dX5_copy_62 rfl (lv_at hl 0 rfl) ?_
  refine lv_aload_n hx hb dX5_copy_63 rfl (lv_at hl 1 rfl) ?_
  refine va_get (D := D) (ci := 7) (v := .int o_abed) (C := RX5) (T := TX5) (N := 10) hx hb hts kin_RX5 hown hG.1 hP 3 rfl rfl 6 (by decide) (hts _ wm_201) (fun _ h9 => h9) rfl dX5_copy_64 ?_
  refine va_put (D := D) (ci := 7) (v := .int o_abed) (ty := .int) (C := RX5) (T := TX5) (N := 10) hx hb hts kin_RX5 tyX5 tyX5_ok nmX5 hown hG.1 hP hD hS 0 rfl rfl 6 (by decide) (hts _ wm_201) (fun _ h9 => h9) rfl (by decide +kernel) rfl rfl (Nat.le_of_ble_eq_true rfl) dX5_copy_67 (fun H locs hP hD hS => ?_)
  have hP : va_P D vwCl [(ma, .inr (7, [.ref ma_without, .ref ma_did, .int o_now, .int o_mind, .int o_way, .int o_done, .int o_abed, .int m_harm, .int m_worth, .int m_passes])), (ma_without, .inl (cy 0, 9, .inl f1q)), (ma_did, .inl (cy 0, 9, .inl f2q)), (oa, .inr (7, [.ref oa_without, .ref oa_did, .int o_now, .int o_mind, .int o_way, .int o_done, .int o_abed, .int o_harm, .int o_worth, .int o_passes])), (oa_without, .inl (cy 0, 9, .inl of_without)), (oa_did, .inl (cy 0, 9, .inl of_did))] H := hP
  have hD : va_D A [(ma, .inr (7, [.ref ma_without, .ref ma_did, .int o_now, .int o_mind, .int o_way, .int o_done, .int o_abed, .int m_harm, .int m_worth, .int m_passes])), (ma_without, .inl (cy 0, 9, .inl f1q)), (ma_did, .inl (cy 0, 9, .inl f2q)), (oa, .inr (7, [.ref oa_without, .ref oa_did, .int o_now, .int o_mind, .int o_way, .int o_done, .int o_abed, .int o_harm, .int o_worth, .int o_passes])), (oa_without, .inl (cy 0, 9, .inl of_without)), (oa_did, .inl (cy 0, 9, .inl of_did))] := hD
  refine lv_aload_n hx hb dX5_copy_70 rfl (lv_at hl 0 rfl) ?_
  refine lv_aload_n hx hb dX5_copy_71 rfl (lv_at hl 1 rfl) ?_
  refine va_get (D := D) (ci := 7) (v := .int o_harm) (C := RX5) (T := TX5) (N := 10) hx hb hts kin_RX5 hown hG.1 hP 3 rfl rfl 7 (by decide) (hts _ wm_203) (fun _ h9 => h9) rfl dX5_copy_72 ?_
  refine va_put (D := D) (ci := 7) (v := .int o_harm) (ty := .int) (C := RX5) (T := TX5) (N := 10) hx hb hts kin_RX5 tyX5 tyX5_ok nmX5 hown hG.1 hP hD hS 0 rfl rfl 7 (by decide) (hts _ wm_203) (fun _ h9 => h9) rfl (by decide +kernel) rfl rfl (Nat.le_of_ble_eq_true rfl) dX5_copy_75 (fun H locs hP hD hS => ?_)
  have hP : va_P D vwCl [(ma, .inr (7, [.ref ma_without, .ref ma_did, .int o_now, .int o_mind, .int o_way, .int o_done, .int o_abed, .int o_harm, .int m_worth, .int m_passes])), (ma_without, .inl (cy 0, 9, .inl f1q)), (ma_did, .inl (cy 0, 9, .inl f2q)), (oa, .inr (7, [.ref oa_without, .ref oa_did, .int o_now, .int o_mind, .int o_way, .int o_done, .int o_abed, .int o_harm, .int o_worth, .int o_passes])), (oa_without, .inl (cy 0, 9, .inl of_without)), (oa_did, .inl (cy 0, 9, .inl of_did))] H := hP
  have hD : va_D A [(ma, .inr (7, [.ref ma_without, .ref ma_did, .int o_now, .int o_mind, .int o_way, .int o_done, .int o_abed, .int o_harm, .int m_worth, .int m_passes])), (ma_without, .inl (cy 0, 9, .inl f1q)), (ma_did, .inl (cy 0, 9, .inl f2q)), (oa, .inr (7, [.ref oa_without, .ref oa_did, .int o_now, .int o_mind, .int o_way, .int o_done, .int o_abed, .int o_harm, .int o_worth, .int o_passes])), (oa_without, .inl (cy 0, 9, .inl of_without)), (oa_did, .inl (cy 0, 9, .inl of_did))] := hD
  refine lv_aload_n hx hb dX5_copy_78 rfl (lv_at hl 0 rfl) ?_
  refine lv_aload_n hx hb dX5_copy_79 rfl (lv_at hl 1 rfl) ?_
  refine va_get (D := D) (ci := 7) (v := .int o_worth) (C := RX5) (T := TX5) (N := 10) hx hb hts kin_RX5 hown hG.1 hP 3 rfl rfl 8 (by decide) (hts _ wm_205) (fun _ h9 => h9) rfl dX5_copy_80 ?_
  refine va_put (D := D) (ci := 7) (v := .int o_worth) (ty := .int) (C := RX5) (T := TX5) (N := 10) hx hb hts kin_RX5 tyX5 tyX5_ok nmX5 hown hG.1 hP hD hS 0 rfl rfl 8 (by decide) (hts _ wm_205) (fun _ h9 => h9) rfl (by decide +kernel) rfl rfl (Nat.le_of_ble_eq_true rfl) dX5_copy_83 (fun H locs hP hD hS => ?_)
  have hP : va_P D vwCl [(ma, .inr (7, [.ref ma_without, .ref ma_did, .int o_now, .int o_mind, .int o_way, .int o_done, .int o_abed, .int o_harm, .int o_worth, .int m_passes])), (ma_without, .inl (cy 0, 9, .inl f1q)), (ma_did, .inl (cy 0, 9, .inl f2q)), (oa, .inr (7, [.ref oa_without, .ref oa_did, .int o_now, .int o_mind, .int o_way, .int o_done, .int o_abed, .int o_harm, .int o_worth, .int o_passes])), (oa_without, .inl (cy 0, 9, .inl of_without)), (oa_did, .inl (cy 0, 9, .inl of_did))] H := hP
  have hD : va_D A [(ma, .inr (7, [.ref ma_without, .ref ma_did, .int o_now, .int o_mind, .int o_way, .int o_done, .int o_abed, .int o_harm, .int o_worth, .int m_passes])), (ma_without, .inl (cy 0, 9, .inl f1q)), (ma_did, .inl (cy 0, 9, .inl f2q)), (oa, .inr (7, [.ref oa_without, .ref oa_did, .int o_now, .int o_mind, .int o_way, .int o_done, .int o_abed, .int o_harm, .int o_worth, .int o_passes])), (oa_without, .inl (cy 0, 9, .inl of_without)), (oa_did, .inl (cy 0, 9, .inl of_did))] := hD
  refine lv_aload_n hx hb dX5_copy_86 rfl (lv_at hl 0 rfl) ?_
  refine lv_aload_n hx hb dX5_copy_87 rfl (lv_at hl 1 rfl) ?_
  refine va_get (D := D) (ci := 7) (v := .int o_passes) (C := RX5) (T := TX5) (N := 10) hx hb hts kin_RX5 hown hG.1 hP 3 rfl rfl 9 (by decide) (hts _ wm_207) (fun _ h9 => h9) rfl dX5_copy_88 ?_
  refine va_put (D := D) (ci := 7) (v := .int o_passes) (ty := .int) (C := RX5) (T := TX5) (N := 10) hx hb hts kin_RX5 tyX5 tyX5_ok nmX5 hown hG.1 hP hD hS 0 rfl rfl 9 (by decide) (hts _ wm_207) (fun _ h9 => h9) rfl (by decide +kernel) rfl rfl (Nat.le_of_ble_eq_true rfl) dX5_copy_91 (fun H locs hP hD hS => ?_)
  have hP : va_P D vwCl [(ma, .inr (7, [.ref ma_without, .ref ma_did, .int o_now, .int o_mind, .int o_way, .int o_done, .int o_abed, .int o_harm, .int o_worth, .int o_passes])), (ma_without, .inl (cy 0, 9, .inl f1q)), (ma_did, .inl (cy 0, 9, .inl f2q)), (oa, .inr (7, [.ref oa_without, .ref oa_did, .int o_now, .int o_mind, .int o_way, .int o_done, .int o_abed, .int o_harm, .int o_worth, .int o_passes])), (oa_without, .inl (cy 0, 9, .inl of_without)), (oa_did, .inl (cy 0, 9, .inl of_did))] H := hP
  have hD : va_D A [(ma, .inr (7, [.ref ma_without, .ref ma_did, .int o_now, .int o_mind, .int o_way, .int o_done, .int o_abed, .int o_harm, .int o_worth, .int o_passes])), (ma_without, .inl (cy 0, 9, .inl f1q)), (ma_did, .inl (cy 0, 9, .inl f2q)), (oa, .inr (7, [.ref oa_without, .ref oa_did, .int o_now, .int o_mind, .int o_way, .int o_done, .int o_abed, .int o_harm, .int o_worth, .int o_passes])), (oa_without, .inl (cy 0, 9, .inl of_without)), (oa_did, .inl (cy 0, 9, .inl of_did))] := hD
  rw [hQ0]
  exact k_vret (fun k => [o_now, o_mind, o_way, o_done, o_abed, o_harm, o_worth, o_passes].getD k 0, fun k => [f1q, f2q].getD k (fun _ => 0)) hx hb hr hlk (⟨(show 0 ≤ o_now.toInt ∧ o_now.toInt ≤ 480 from ⟨by omega, by omega⟩), (show -1 ≤ o_mind.toInt ∧ o_mind.toInt ≤ 8 from ⟨by omega, by omega⟩), (show rowR 9 0 (9 * o_now.toInt + 240) f2q from hf2q), (show o_now.toInt = o_now.toInt by omega), (show o_mind.toInt = o_mind.toInt by omega)⟩) (hP.sub [0, 1, 2, 3, 4, 5] rfl) (hD.sub [0, 1, 2, 3, 4, 5] (by decide) rfl) hS (by decide) (by decide) dX5_copy_94
