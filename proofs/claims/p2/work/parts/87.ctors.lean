theorem wm_178 : Cond.methodLink RX5 3 objectInit ∈ kWS := kws_at 178 (by decide +kernel) (by decide +kernel)
theorem wm_39 : Cond.instanceMethod objectInit ∈ kWS := kws_at 39 (by decide +kernel) (by decide +kernel)
theorem wm_40 : Cond.code objectInit ⟨#[0xb1]⟩ 1 none ∈ kWS := kws_at 40 (by decide +kernel) (by decide +kernel)
theorem wm_68 : Cond.arrayClass .int ∈ kWS := kws_at 68 (by decide +kernel) (by decide +kernel)
theorem wm_74 : Cond.methodLink RX2 3 objectInit ∈ kWS := kws_at 74 (by decide +kernel) (by decide +kernel)
theorem wm_235 : Cond.methodLink RX6 3 objectInit ∈ kWS := kws_at 235 (by decide +kernel) (by decide +kernel)
theorem wm_46 : Cond.methodLink RX7 3 objectInit ∈ kWS := kws_at 46 (by decide +kernel) (by decide +kernel)
theorem wm_67 : Cond.arrayClass .byte ∈ kWS := kws_at 67 (by decide +kernel) (by decide +kernel)
theorem wm_334 : Cond.methodLink RX1 3 objectInit ∈ kWS := kws_at 334 (by decide +kernel) (by decide +kernel)
theorem wm_270 : Cond.methodLink RX8 3 objectInit ∈ kWS := kws_at 270 (by decide +kernel) (by decide +kernel)
theorem wm_271 : Cond.classLink RX8 9 "LentMinds$Moment" ∈ kWS := kws_at 271 (by decide +kernel) (by decide +kernel)
theorem wm_174 : Cond.instantiable RX5 10 ∈ kWS := kws_at 174 (by decide +kernel) (by decide +kernel)
theorem wm_177 : Cond.code yX5_init cX5_init 1 none ∈ kWS := kws_at 177 (by decide +kernel) (by decide +kernel)
theorem wm_176 : Cond.instanceMethod yX5_init ∈ kWS := kws_at 176 (by decide +kernel) (by decide +kernel)
theorem lk_NRX8_11 : kLN RX8 11 yX5_init (Cond.code yX5_init cX5_init 1 none) 0 := ⟨by decide +kernel, wm_176, wm_4, wm_177, rfl, ⟨by decide +kernel, by decide +kernel, by decide +kernel⟩⟩
theorem wm_289 : Cond.methodLink RX3 3 objectInit ∈ kWS := kws_at 289 (by decide +kernel) (by decide +kernel)
theorem wm_290 : Cond.classLink RX3 9 "LentMinds$Moment" ∈ kWS := kws_at 290 (by decide +kernel) (by decide +kernel)
theorem lk_NRX3_11 : kLN RX3 11 yX5_init (Cond.code yX5_init cX5_init 1 none) 0 := ⟨by decide +kernel, wm_176, wm_4, wm_177, rfl, ⟨by decide +kernel, by decide +kernel, by decide +kernel⟩⟩
theorem wm_310 : Cond.methodLink RX9 3 objectInit ∈ kWS := kws_at 310 (by decide +kernel) (by decide +kernel)
theorem wm_311 : Cond.classLink RX9 9 "LentMinds$Moment" ∈ kWS := kws_at 311 (by decide +kernel) (by decide +kernel)
theorem lk_NRX9_11 : kLN RX9 11 yX5_init (Cond.code yX5_init cX5_init 1 none) 0 := ⟨by decide +kernel, wm_176, wm_4, wm_177, rfl, ⟨by decide +kernel, by decide +kernel, by decide +kernel⟩⟩
theorem wm_365 : Cond.methodLink RX4 5 objectInit ∈ kWS := kws_at 365 (by decide +kernel) (by decide +kernel)
theorem wm_398 : Cond.methodLink RX0 5 objectInit ∈ kWS := kws_at 398 (by decide +kernel) (by decide +kernel)
theorem dX5_init_0 : decode cX5_init 0 = .ok (.aload_n 0, 1) := by decide +kernel
theorem dX5_init_1 : decode cX5_init 1 = .ok (.invokespecial 3, 3) := by decide +kernel
theorem dX5_init_4 : decode cX5_init 4 = .ok (.aload_n 0, 1) := by decide +kernel
theorem dX5_init_5 : decode cX5_init 5 = .ok (.bipush 9, 2) := by decide +kernel
theorem dX5_init_7 : decode cX5_init 7 = .ok (.newarray .int, 2) := by decide +kernel
theorem dX5_init_9 : decode cX5_init 9 = .ok (.putfield 9, 3) := by decide +kernel
theorem dX5_init_12 : decode cX5_init 12 = .ok (.aload_n 0, 1) := by decide +kernel
theorem dX5_init_13 : decode cX5_init 13 = .ok (.bipush 9, 2) := by decide +kernel
theorem dX5_init_15 : decode cX5_init 15 = .ok (.newarray .int, 2) := by decide +kernel
theorem dX5_init_17 : decode cX5_init 17 = .ok (.putfield 15, 3) := by decide +kernel
theorem dX5_init_20 : decode cX5_init 20 = .ok (.aload_n 0, 1) := by decide +kernel
theorem dX5_init_21 : decode cX5_init 21 = .ok (.iconst 0, 1) := by decide +kernel
theorem dX5_init_22 : decode cX5_init 22 = .ok (.putfield 18, 3) := by decide +kernel
theorem dX5_init_25 : decode cX5_init 25 = .ok (.aload_n 0, 1) := by decide +kernel
theorem dX5_init_26 : decode cX5_init 26 = .ok (.iconst 0, 1) := by decide +kernel
theorem dX5_init_27 : decode cX5_init 27 = .ok (.putfield 22, 3) := by decide +kernel
theorem dX5_init_30 : decode cX5_init 30 = .ok (.aload_n 0, 1) := by decide +kernel
theorem dX5_init_31 : decode cX5_init 31 = .ok (.iconst 0, 1) := by decide +kernel
theorem dX5_init_32 : decode cX5_init 32 = .ok (.putfield 25, 3) := by decide +kernel
theorem dX5_init_35 : decode cX5_init 35 = .ok (.aload_n 0, 1) := by decide +kernel
theorem dX5_init_36 : decode cX5_init 36 = .ok (.iconst 0, 1) := by decide +kernel
theorem dX5_init_37 : decode cX5_init 37 = .ok (.putfield 28, 3) := by decide +kernel
theorem dX5_init_40 : decode cX5_init 40 = .ok (.aload_n 0, 1) := by decide +kernel
theorem dX5_init_41 : decode cX5_init 41 = .ok (.iconst 0, 1) := by decide +kernel
theorem dX5_init_42 : decode cX5_init 42 = .ok (.putfield 31, 3) := by decide +kernel
theorem dX5_init_45 : decode cX5_init 45 = .ok (.aload_n 0, 1) := by decide +kernel
theorem dX5_init_46 : decode cX5_init 46 = .ok (.iconst 0, 1) := by decide +kernel
theorem dX5_init_47 : decode cX5_init 47 = .ok (.putfield 34, 3) := by decide +kernel
theorem dX5_init_50 : decode cX5_init 50 = .ok (.aload_n 0, 1) := by decide +kernel
theorem dX5_init_51 : decode cX5_init 51 = .ok (.iconst 0, 1) := by decide +kernel
theorem dX5_init_52 : decode cX5_init 52 = .ok (.putfield 37, 3) := by decide +kernel
theorem dX5_init_55 : decode cX5_init 55 = .ok (.aload_n 0, 1) := by decide +kernel
theorem dX5_init_56 : decode cX5_init 56 = .ok (.iconst 0, 1) := by decide +kernel
theorem dX5_init_57 : decode cX5_init 57 = .ok (.putfield 40, 3) := by decide +kernel
theorem dX5_init_60 : decode cX5_init 60 = .ok (.return_, 1) := by decide +kernel
theorem dX2_init_0 : decode cX2_init 0 = .ok (.aload_n 0, 1) := by decide +kernel
theorem dX2_init_1 : decode cX2_init 1 = .ok (.invokespecial 3, 3) := by decide +kernel
theorem dX2_init_4 : decode cX2_init 4 = .ok (.aload_n 0, 1) := by decide +kernel
theorem dX2_init_5 : decode cX2_init 5 = .ok (.bipush 9, 2) := by decide +kernel
theorem dX2_init_7 : decode cX2_init 7 = .ok (.newarray .int, 2) := by decide +kernel
theorem dX2_init_9 : decode cX2_init 9 = .ok (.putfield 9, 3) := by decide +kernel
theorem dX2_init_12 : decode cX2_init 12 = .ok (.aload_n 0, 1) := by decide +kernel
theorem dX2_init_13 : decode cX2_init 13 = .ok (.bipush 9, 2) := by decide +kernel
theorem dX2_init_15 : decode cX2_init 15 = .ok (.newarray .int, 2) := by decide +kernel
theorem dX2_init_17 : decode cX2_init 17 = .ok (.putfield 15, 3) := by decide +kernel
theorem dX2_init_20 : decode cX2_init 20 = .ok (.aload_n 0, 1) := by decide +kernel
theorem dX2_init_21 : decode cX2_init 21 = .ok (.bipush 9, 2) := by decide +kernel
theorem dX2_init_23 : decode cX2_init 23 = .ok (.newarray .int, 2) := by decide +kernel
theorem dX2_init_25 : decode cX2_init 25 = .ok (.putfield 18, 3) := by decide +kernel
theorem dX2_init_28 : decode cX2_init 28 = .ok (.aload_n 0, 1) := by decide +kernel
theorem dX2_init_29 : decode cX2_init 29 = .ok (.bipush 9, 2) := by decide +kernel
theorem dX2_init_31 : decode cX2_init 31 = .ok (.newarray .int, 2) := by decide +kernel
theorem dX2_init_33 : decode cX2_init 33 = .ok (.putfield 21, 3) := by decide +kernel
theorem dX2_init_36 : decode cX2_init 36 = .ok (.aload_n 0, 1) := by decide +kernel
theorem dX2_init_37 : decode cX2_init 37 = .ok (.bipush 9, 2) := by decide +kernel
theorem dX2_init_39 : decode cX2_init 39 = .ok (.newarray .int, 2) := by decide +kernel
theorem dX2_init_41 : decode cX2_init 41 = .ok (.putfield 24, 3) := by decide +kernel
theorem dX2_init_44 : decode cX2_init 44 = .ok (.aload_n 0, 1) := by decide +kernel
theorem dX2_init_45 : decode cX2_init 45 = .ok (.bipush 9, 2) := by decide +kernel
theorem dX2_init_47 : decode cX2_init 47 = .ok (.newarray .int, 2) := by decide +kernel
theorem dX2_init_49 : decode cX2_init 49 = .ok (.putfield 27, 3) := by decide +kernel
theorem dX2_init_52 : decode cX2_init 52 = .ok (.aload_n 0, 1) := by decide +kernel
theorem dX2_init_53 : decode cX2_init 53 = .ok (.bipush 9, 2) := by decide +kernel
theorem dX2_init_55 : decode cX2_init 55 = .ok (.newarray .int, 2) := by decide +kernel
theorem dX2_init_57 : decode cX2_init 57 = .ok (.putfield 30, 3) := by decide +kernel
theorem dX2_init_60 : decode cX2_init 60 = .ok (.aload_n 0, 1) := by decide +kernel
theorem dX2_init_61 : decode cX2_init 61 = .ok (.bipush 9, 2) := by decide +kernel
theorem dX2_init_63 : decode cX2_init 63 = .ok (.newarray .int, 2) := by decide +kernel
theorem dX2_init_65 : decode cX2_init 65 = .ok (.putfield 33, 3) := by decide +kernel
theorem dX2_init_68 : decode cX2_init 68 = .ok (.aload_n 0, 1) := by decide +kernel
theorem dX2_init_69 : decode cX2_init 69 = .ok (.bipush 9, 2) := by decide +kernel
theorem dX2_init_71 : decode cX2_init 71 = .ok (.newarray .int, 2) := by decide +kernel
theorem dX2_init_73 : decode cX2_init 73 = .ok (.putfield 36, 3) := by decide +kernel
theorem dX2_init_76 : decode cX2_init 76 = .ok (.aload_n 0, 1) := by decide +kernel
theorem dX2_init_77 : decode cX2_init 77 = .ok (.bipush 9, 2) := by decide +kernel
theorem dX2_init_79 : decode cX2_init 79 = .ok (.newarray .int, 2) := by decide +kernel
theorem dX2_init_81 : decode cX2_init 81 = .ok (.putfield 39, 3) := by decide +kernel
theorem dX2_init_84 : decode cX2_init 84 = .ok (.aload_n 0, 1) := by decide +kernel
theorem dX2_init_85 : decode cX2_init 85 = .ok (.bipush 9, 2) := by decide +kernel
theorem dX2_init_87 : decode cX2_init 87 = .ok (.newarray .int, 2) := by decide +kernel
theorem dX2_init_89 : decode cX2_init 89 = .ok (.putfield 42, 3) := by decide +kernel
theorem dX2_init_92 : decode cX2_init 92 = .ok (.aload_n 0, 1) := by decide +kernel
theorem dX2_init_93 : decode cX2_init 93 = .ok (.bipush 9, 2) := by decide +kernel
theorem dX2_init_95 : decode cX2_init 95 = .ok (.newarray .int, 2) := by decide +kernel
theorem dX2_init_97 : decode cX2_init 97 = .ok (.putfield 45, 3) := by decide +kernel
theorem dX2_init_100 : decode cX2_init 100 = .ok (.aload_n 0, 1) := by decide +kernel
theorem dX2_init_101 : decode cX2_init 101 = .ok (.iconst 0, 1) := by decide +kernel
theorem dX2_init_102 : decode cX2_init 102 = .ok (.putfield 48, 3) := by decide +kernel
theorem dX2_init_105 : decode cX2_init 105 = .ok (.aload_n 0, 1) := by decide +kernel
theorem dX2_init_106 : decode cX2_init 106 = .ok (.iconst 0, 1) := by decide +kernel
theorem dX2_init_107 : decode cX2_init 107 = .ok (.putfield 52, 3) := by decide +kernel
theorem dX2_init_110 : decode cX2_init 110 = .ok (.aload_n 0, 1) := by decide +kernel
theorem dX2_init_111 : decode cX2_init 111 = .ok (.iconst 0, 1) := by decide +kernel
theorem dX2_init_112 : decode cX2_init 112 = .ok (.putfield 55, 3) := by decide +kernel
theorem dX2_init_115 : decode cX2_init 115 = .ok (.aload_n 0, 1) := by decide +kernel
theorem dX2_init_116 : decode cX2_init 116 = .ok (.iconst 0, 1) := by decide +kernel
theorem dX2_init_117 : decode cX2_init 117 = .ok (.putfield 58, 3) := by decide +kernel
theorem dX2_init_120 : decode cX2_init 120 = .ok (.aload_n 0, 1) := by decide +kernel
theorem dX2_init_121 : decode cX2_init 121 = .ok (.iconst 0, 1) := by decide +kernel
theorem dX2_init_122 : decode cX2_init 122 = .ok (.putfield 61, 3) := by decide +kernel
theorem dX2_init_125 : decode cX2_init 125 = .ok (.return_, 1) := by decide +kernel
theorem dX6_init_0 : decode cX6_init 0 = .ok (.aload_n 0, 1) := by decide +kernel
theorem dX6_init_1 : decode cX6_init 1 = .ok (.invokespecial 3, 3) := by decide +kernel
theorem dX6_init_4 : decode cX6_init 4 = .ok (.aload_n 0, 1) := by decide +kernel
theorem dX6_init_5 : decode cX6_init 5 = .ok (.bipush 30, 2) := by decide +kernel
theorem dX6_init_7 : decode cX6_init 7 = .ok (.newarray .int, 2) := by decide +kernel
theorem dX6_init_9 : decode cX6_init 9 = .ok (.putfield 9, 3) := by decide +kernel
theorem dX6_init_12 : decode cX6_init 12 = .ok (.aload_n 0, 1) := by decide +kernel
theorem dX6_init_13 : decode cX6_init 13 = .ok (.bipush 30, 2) := by decide +kernel
theorem dX6_init_15 : decode cX6_init 15 = .ok (.newarray .int, 2) := by decide +kernel
theorem dX6_init_17 : decode cX6_init 17 = .ok (.putfield 15, 3) := by decide +kernel
theorem dX6_init_20 : decode cX6_init 20 = .ok (.aload_n 0, 1) := by decide +kernel
theorem dX6_init_21 : decode cX6_init 21 = .ok (.iconst 0, 1) := by decide +kernel
theorem dX6_init_22 : decode cX6_init 22 = .ok (.putfield 18, 3) := by decide +kernel
theorem dX6_init_25 : decode cX6_init 25 = .ok (.aload_n 0, 1) := by decide +kernel
theorem dX6_init_26 : decode cX6_init 26 = .ok (.bipush 6, 2) := by decide +kernel
theorem dX6_init_28 : decode cX6_init 28 = .ok (.newarray .int, 2) := by decide +kernel
theorem dX6_init_30 : decode cX6_init 30 = .ok (.putfield 22, 3) := by decide +kernel
theorem dX6_init_33 : decode cX6_init 33 = .ok (.aload_n 0, 1) := by decide +kernel
theorem dX6_init_34 : decode cX6_init 34 = .ok (.bipush 6, 2) := by decide +kernel
theorem dX6_init_36 : decode cX6_init 36 = .ok (.newarray .int, 2) := by decide +kernel
theorem dX6_init_38 : decode cX6_init 38 = .ok (.putfield 25, 3) := by decide +kernel
theorem dX6_init_41 : decode cX6_init 41 = .ok (.aload_n 0, 1) := by decide +kernel
theorem dX6_init_42 : decode cX6_init 42 = .ok (.iconst 0, 1) := by decide +kernel
theorem dX6_init_43 : decode cX6_init 43 = .ok (.putfield 28, 3) := by decide +kernel
theorem dX6_init_46 : decode cX6_init 46 = .ok (.aload_n 0, 1) := by decide +kernel
theorem dX6_init_47 : decode cX6_init 47 = .ok (.bipush 6, 2) := by decide +kernel
theorem dX6_init_49 : decode cX6_init 49 = .ok (.newarray .int, 2) := by decide +kernel
theorem dX6_init_51 : decode cX6_init 51 = .ok (.putfield 31, 3) := by decide +kernel
theorem dX6_init_54 : decode cX6_init 54 = .ok (.return_, 1) := by decide +kernel
theorem dX7_init_0 : decode cX7_init 0 = .ok (.aload_n 0, 1) := by decide +kernel
theorem dX7_init_1 : decode cX7_init 1 = .ok (.invokespecial 3, 3) := by decide +kernel
theorem dX7_init_4 : decode cX7_init 4 = .ok (.aload_n 0, 1) := by decide +kernel
theorem dX7_init_5 : decode cX7_init 5 = .ok (.bipush 6, 2) := by decide +kernel
theorem dX7_init_7 : decode cX7_init 7 = .ok (.newarray .int, 2) := by decide +kernel
theorem dX7_init_9 : decode cX7_init 9 = .ok (.putfield 11, 3) := by decide +kernel
theorem dX7_init_12 : decode cX7_init 12 = .ok (.aload_n 0, 1) := by decide +kernel
theorem dX7_init_13 : decode cX7_init 13 = .ok (.iconst 0, 1) := by decide +kernel
theorem dX7_init_14 : decode cX7_init 14 = .ok (.newarray .byte, 2) := by decide +kernel
theorem dX7_init_16 : decode cX7_init 16 = .ok (.putfield 15, 3) := by decide +kernel
theorem dX7_init_19 : decode cX7_init 19 = .ok (.aload_n 0, 1) := by decide +kernel
theorem dX7_init_20 : decode cX7_init 20 = .ok (.iconst 0, 1) := by decide +kernel
theorem dX7_init_21 : decode cX7_init 21 = .ok (.putfield 19, 3) := by decide +kernel
theorem dX7_init_24 : decode cX7_init 24 = .ok (.aload_n 0, 1) := by decide +kernel
theorem dX7_init_25 : decode cX7_init 25 = .ok (.iconst 0, 1) := by decide +kernel
theorem dX7_init_26 : decode cX7_init 26 = .ok (.putfield 23, 3) := by decide +kernel
theorem dX7_init_29 : decode cX7_init 29 = .ok (.aload_n 0, 1) := by decide +kernel
theorem dX7_init_30 : decode cX7_init 30 = .ok (.iconst 0, 1) := by decide +kernel
theorem dX7_init_31 : decode cX7_init 31 = .ok (.putfield 26, 3) := by decide +kernel
theorem dX7_init_34 : decode cX7_init 34 = .ok (.aload_n 0, 1) := by decide +kernel
theorem dX7_init_35 : decode cX7_init 35 = .ok (.iconst (-1), 1) := by decide +kernel
theorem dX7_init_36 : decode cX7_init 36 = .ok (.putfield 29, 3) := by decide +kernel
theorem dX7_init_39 : decode cX7_init 39 = .ok (.return_, 1) := by decide +kernel
theorem dX1_init_0 : decode cX1_init 0 = .ok (.aload_n 0, 1) := by decide +kernel
theorem dX1_init_1 : decode cX1_init 1 = .ok (.invokespecial 3, 3) := by decide +kernel
theorem dX1_init_4 : decode cX1_init 4 = .ok (.aload_n 0, 1) := by decide +kernel
theorem dX1_init_5 : decode cX1_init 5 = .ok (.iconst 4, 1) := by decide +kernel
theorem dX1_init_6 : decode cX1_init 6 = .ok (.newarray .int, 2) := by decide +kernel
theorem dX1_init_8 : decode cX1_init 8 = .ok (.putfield 9, 3) := by decide +kernel
theorem dX1_init_11 : decode cX1_init 11 = .ok (.aload_n 0, 1) := by decide +kernel
theorem dX1_init_12 : decode cX1_init 12 = .ok (.iconst 4, 1) := by decide +kernel
theorem dX1_init_13 : decode cX1_init 13 = .ok (.newarray .int, 2) := by decide +kernel
theorem dX1_init_15 : decode cX1_init 15 = .ok (.putfield 15, 3) := by decide +kernel
theorem dX1_init_18 : decode cX1_init 18 = .ok (.aload_n 0, 1) := by decide +kernel
theorem dX1_init_19 : decode cX1_init 19 = .ok (.iconst 4, 1) := by decide +kernel
theorem dX1_init_20 : decode cX1_init 20 = .ok (.newarray .int, 2) := by decide +kernel
theorem dX1_init_22 : decode cX1_init 22 = .ok (.putfield 18, 3) := by decide +kernel
theorem dX1_init_25 : decode cX1_init 25 = .ok (.aload_n 0, 1) := by decide +kernel
theorem dX1_init_26 : decode cX1_init 26 = .ok (.bipush 16, 2) := by decide +kernel
theorem dX1_init_28 : decode cX1_init 28 = .ok (.newarray .int, 2) := by decide +kernel
theorem dX1_init_30 : decode cX1_init 30 = .ok (.putfield 21, 3) := by decide +kernel
theorem dX1_init_33 : decode cX1_init 33 = .ok (.aload_n 0, 1) := by decide +kernel
theorem dX1_init_34 : decode cX1_init 34 = .ok (.iconst 0, 1) := by decide +kernel
theorem dX1_init_35 : decode cX1_init 35 = .ok (.putfield 24, 3) := by decide +kernel
theorem dX1_init_38 : decode cX1_init 38 = .ok (.return_, 1) := by decide +kernel
theorem dX8_init_0 : decode cX8_init 0 = .ok (.aload_n 0, 1) := by decide +kernel
theorem dX8_init_1 : decode cX8_init 1 = .ok (.invokespecial 3, 3) := by decide +kernel
theorem dX8_init_4 : decode cX8_init 4 = .ok (.aload_n 0, 1) := by decide +kernel
theorem dX8_init_5 : decode cX8_init 5 = .ok (.new 9, 3) := by decide +kernel
theorem dX8_init_8 : decode cX8_init 8 = .ok (.dup, 1) := by decide +kernel
theorem dX8_init_9 : decode cX8_init 9 = .ok (.invokespecial 11, 3) := by decide +kernel
theorem dX8_init_12 : decode cX8_init 12 = .ok (.putfield 12, 3) := by decide +kernel
theorem dX8_init_15 : decode cX8_init 15 = .ok (.aload_n 0, 1) := by decide +kernel
theorem dX8_init_16 : decode cX8_init 16 = .ok (.iconst 0, 1) := by decide +kernel
theorem dX8_init_17 : decode cX8_init 17 = .ok (.putfield 18, 3) := by decide +kernel
theorem dX8_init_20 : decode cX8_init 20 = .ok (.aload_n 0, 1) := by decide +kernel
theorem dX8_init_21 : decode cX8_init 21 = .ok (.iconst 0, 1) := by decide +kernel
theorem dX8_init_22 : decode cX8_init 22 = .ok (.putfield 22, 3) := by decide +kernel
theorem dX8_init_25 : decode cX8_init 25 = .ok (.return_, 1) := by decide +kernel
theorem dX3_init_0 : decode cX3_init 0 = .ok (.aload_n 0, 1) := by decide +kernel
theorem dX3_init_1 : decode cX3_init 1 = .ok (.invokespecial 3, 3) := by decide +kernel
theorem dX3_init_4 : decode cX3_init 4 = .ok (.aload_n 0, 1) := by decide +kernel
theorem dX3_init_5 : decode cX3_init 5 = .ok (.new 9, 3) := by decide +kernel
theorem dX3_init_8 : decode cX3_init 8 = .ok (.dup, 1) := by decide +kernel
theorem dX3_init_9 : decode cX3_init 9 = .ok (.invokespecial 11, 3) := by decide +kernel
theorem dX3_init_12 : decode cX3_init 12 = .ok (.putfield 12, 3) := by decide +kernel
theorem dX3_init_15 : decode cX3_init 15 = .ok (.aload_n 0, 1) := by decide +kernel
theorem dX3_init_16 : decode cX3_init 16 = .ok (.iconst (-1), 1) := by decide +kernel
theorem dX3_init_17 : decode cX3_init 17 = .ok (.putfield 18, 3) := by decide +kernel
theorem dX3_init_20 : decode cX3_init 20 = .ok (.aload_n 0, 1) := by decide +kernel
theorem dX3_init_21 : decode cX3_init 21 = .ok (.iconst 0, 1) := by decide +kernel
theorem dX3_init_22 : decode cX3_init 22 = .ok (.putfield 22, 3) := by decide +kernel
theorem dX3_init_25 : decode cX3_init 25 = .ok (.return_, 1) := by decide +kernel
theorem dX9_init_0 : decode cX9_init 0 = .ok (.aload_n 0, 1) := by decide +kernel
theorem dX9_init_1 : decode cX9_init 1 = .ok (.invokespecial 3, 3) := by decide +kernel
theorem dX9_init_4 : decode cX9_init 4 = .ok (.aload_n 0, 1) := by decide +kernel
theorem dX9_init_5 : decode cX9_init 5 = .ok (.new 9, 3) := by decide +kernel
theorem dX9_init_8 : decode cX9_init 8 = .ok (.dup, 1) := by decide +kernel
theorem dX9_init_9 : decode cX9_init 9 = .ok (.invokespecial 11, 3) := by decide +kernel
theorem dX9_init_12 : decode cX9_init 12 = .ok (.putfield 12, 3) := by decide +kernel
theorem dX9_init_15 : decode cX9_init 15 = .ok (.aload_n 0, 1) := by decide +kernel
theorem dX9_init_16 : decode cX9_init 16 = .ok (.bipush 9, 2) := by decide +kernel
theorem dX9_init_18 : decode cX9_init 18 = .ok (.newarray .int, 2) := by decide +kernel
theorem dX9_init_20 : decode cX9_init 20 = .ok (.putfield 18, 3) := by decide +kernel
theorem dX9_init_23 : decode cX9_init 23 = .ok (.aload_n 0, 1) := by decide +kernel
theorem dX9_init_24 : decode cX9_init 24 = .ok (.iconst 0, 1) := by decide +kernel
theorem dX9_init_25 : decode cX9_init 25 = .ok (.putfield 22, 3) := by decide +kernel
theorem dX9_init_28 : decode cX9_init 28 = .ok (.aload_n 0, 1) := by decide +kernel
theorem dX9_init_29 : decode cX9_init 29 = .ok (.iconst 0, 1) := by decide +kernel
theorem dX9_init_30 : decode cX9_init 30 = .ok (.putfield 26, 3) := by decide +kernel
theorem dX9_init_33 : decode cX9_init 33 = .ok (.aload_n 0, 1) := by decide +kernel
theorem dX9_init_34 : decode cX9_init 34 = .ok (.iconst 0, 1) := by decide +kernel
theorem dX9_init_35 : decode cX9_init 35 = .ok (.putfield 29, 3) := by decide +kernel
theorem dX9_init_38 : decode cX9_init 38 = .ok (.return_, 1) := by decide +kernel
theorem dX4_init_0 : decode cX4_init 0 = .ok (.aload_n 0, 1) := by decide +kernel
theorem dX4_init_1 : decode cX4_init 1 = .ok (.invokespecial 5, 3) := by decide +kernel
theorem dX4_init_4 : decode cX4_init 4 = .ok (.aload_n 0, 1) := by decide +kernel
theorem dX4_init_5 : decode cX4_init 5 = .ok (.sipush 2916, 3) := by decide +kernel
theorem dX4_init_8 : decode cX4_init 8 = .ok (.newarray .int, 2) := by decide +kernel
theorem dX4_init_10 : decode cX4_init 10 = .ok (.putfield 11, 3) := by decide +kernel
theorem dX4_init_13 : decode cX4_init 13 = .ok (.aload_n 0, 1) := by decide +kernel
theorem dX4_init_14 : decode cX4_init 14 = .ok (.sipush 2916, 3) := by decide +kernel
theorem dX4_init_17 : decode cX4_init 17 = .ok (.newarray .int, 2) := by decide +kernel
theorem dX4_init_19 : decode cX4_init 19 = .ok (.putfield 15, 3) := by decide +kernel
theorem dX4_init_22 : decode cX4_init 22 = .ok (.aload_n 0, 1) := by decide +kernel
theorem dX4_init_23 : decode cX4_init 23 = .ok (.sipush 2916, 3) := by decide +kernel
theorem dX4_init_26 : decode cX4_init 26 = .ok (.newarray .int, 2) := by decide +kernel
theorem dX4_init_28 : decode cX4_init 28 = .ok (.putfield 18, 3) := by decide +kernel
theorem dX4_init_31 : decode cX4_init 31 = .ok (.aload_n 0, 1) := by decide +kernel
theorem dX4_init_32 : decode cX4_init 32 = .ok (.iconst 4, 1) := by decide +kernel
theorem dX4_init_33 : decode cX4_init 33 = .ok (.newarray .int, 2) := by decide +kernel
theorem dX4_init_35 : decode cX4_init 35 = .ok (.putfield 21, 3) := by decide +kernel
theorem dX4_init_38 : decode cX4_init 38 = .ok (.aload_n 0, 1) := by decide +kernel
theorem dX4_init_39 : decode cX4_init 39 = .ok (.iconst 1, 1) := by decide +kernel
theorem dX4_init_40 : decode cX4_init 40 = .ok (.putfield 24, 3) := by decide +kernel
theorem dX4_init_43 : decode cX4_init 43 = .ok (.aload_n 0, 1) := by decide +kernel
theorem dX4_init_44 : decode cX4_init 44 = .ok (.iconst 0, 1) := by decide +kernel
theorem dX4_init_45 : decode cX4_init 45 = .ok (.putfield 28, 3) := by decide +kernel
theorem dX4_init_48 : decode cX4_init 48 = .ok (.aload_n 0, 1) := by decide +kernel
theorem dX4_init_49 : decode cX4_init 49 = .ok (.iconst 0, 1) := by decide +kernel
theorem dX4_init_50 : decode cX4_init 50 = .ok (.putfield 31, 3) := by decide +kernel
theorem dX4_init_53 : decode cX4_init 53 = .ok (.aload_n 0, 1) := by decide +kernel
theorem dX4_init_54 : decode cX4_init 54 = .ok (.aload_n 1, 1) := by decide +kernel
theorem dX4_init_55 : decode cX4_init 55 = .ok (.putfield 34, 3) := by decide +kernel
theorem dX4_init_58 : decode cX4_init 58 = .ok (.return_, 1) := by decide +kernel
theorem dX0_init_0 : decode cX0_init 0 = .ok (.aload_n 0, 1) := by decide +kernel
theorem dX0_init_1 : decode cX0_init 1 = .ok (.invokespecial 5, 3) := by decide +kernel
theorem dX0_init_4 : decode cX0_init 4 = .ok (.aload_n 0, 1) := by decide +kernel
theorem dX0_init_5 : decode cX0_init 5 = .ok (.sipush 12000, 3) := by decide +kernel
theorem dX0_init_8 : decode cX0_init 8 = .ok (.newarray .int, 2) := by decide +kernel
theorem dX0_init_10 : decode cX0_init 10 = .ok (.putfield 11, 3) := by decide +kernel
theorem dX0_init_13 : decode cX0_init 13 = .ok (.aload_n 0, 1) := by decide +kernel
theorem dX0_init_14 : decode cX0_init 14 = .ok (.iconst 4, 1) := by decide +kernel
theorem dX0_init_15 : decode cX0_init 15 = .ok (.newarray .int, 2) := by decide +kernel
theorem dX0_init_17 : decode cX0_init 17 = .ok (.putfield 15, 3) := by decide +kernel
theorem dX0_init_20 : decode cX0_init 20 = .ok (.aload_n 0, 1) := by decide +kernel
theorem dX0_init_21 : decode cX0_init 21 = .ok (.iconst 0, 1) := by decide +kernel
theorem dX0_init_22 : decode cX0_init 22 = .ok (.putfield 18, 3) := by decide +kernel
theorem dX0_init_25 : decode cX0_init 25 = .ok (.aload_n 0, 1) := by decide +kernel
theorem dX0_init_26 : decode cX0_init 26 = .ok (.ldc 22, 2) := by decide +kernel
theorem dX0_init_28 : decode cX0_init 28 = .ok (.putfield 23, 3) := by decide +kernel
theorem dX0_init_31 : decode cX0_init 31 = .ok (.aload_n 0, 1) := by decide +kernel
theorem dX0_init_32 : decode cX0_init 32 = .ok (.aload_n 1, 1) := by decide +kernel
theorem dX0_init_33 : decode cX0_init 33 = .ok (.putfield 26, 3) := by decide +kernel
theorem dX0_init_36 : decode cX0_init 36 = .ok (.return_, 1) := by decide +kernel
set_option maxHeartbeats 4000000 in
set_option maxRecDepth 100000 in
/-- LentMinds$Moment(): a new one -/
theorem c_Moment_init (l : Launch) (hl0 : l.stackTraces = false) (D : va_G) (cy : Nat → ClassId) (sa : Nat → Nat) (h0 : Nat) (sz : Nat) : Met l yX5_init (Cond.code yX5_init cX5_init 1 none :: kWS) ({ frames := 11, cells := 2, slots := 18, locals := 360 }) (kPre D cy sa [.ref h0] [(h0, .inr (7, [.null, .null, .int 0, .int 0, .int 0, .int 0, .int 0, .int 0, .int 0, .int 0]))] sz) (va_Qv (fun (_ : Nat → Nat) => True) (kB D (va_A [(h0, .inr (7, [.null, .null, .int 0, .int 0, .int 0, .int 0, .int 0, .int 0, .int 0, .int 0]))] sz) (fun u => [(h0, .inr (7, [.ref (u 0), .ref (u 1), .int 0, .int 0, .int 0, .int 0, .int 0, .int 0, .int 0, .int 0])), ((u 0), .inl (cy 0, 9, .inl (fun _ => 0))), ((u 1), .inl (cy 0, 9, .inl (fun _ => 0)))])) (va_A [(h0, .inr (7, [.null, .null, .int 0, .int 0, .int 0, .int 0, .int 0, .int 0, .int 0, .int 0]))] sz)) 2 18 (va_A [(h0, .inr (7, [.null, .null, .int 0, .int 0, .int 0, .int 0, .int 0, .int 0, .int 0, .int 0]))] sz) := by
  refine k_ofW (Qc := fun A => va_Qv (fun (_ : Nat → Nat) => True) (kB D A (fun u => [(h0, .inr (7, [.ref (u 0), .ref (u 1), .int 0, .int 0, .int 0, .int 0, .int 0, .int 0, .int 0, .int 0])), ((u 0), .inl (cy 0, 9, .inl (fun _ => 0))), ((u 1), .inl (cy 0, 9, .inl (fun _ => 0)))])) A) (by decide) (Nat.le_of_ble_eq_true rfl) ?_
  intro p e s m below meth c ls A E hA hP hD hG hS hl
  obtain ⟨hx, hb, hml, hown, hts, hr, hlk, hnm⟩ := id E
  have hown : s.vm.findClass RX5 = some m.cls := hown
  have hl : lv_has ls 1 [(0, .ref h0)] := hl
  obtain ⟨H, hH⟩ : ∃ H, H = s.heap := ⟨_, rfl⟩
  have hP : va_P D vwCl [(h0, .inr (7, [.null, .null, .int 0, .int 0, .int 0, .int 0, .int 0, .int 0, .int 0, .int 0]))] H := by rw [hH]; exact hP
  have hS : va_S A s.heap H [] := by rw [hH]; exact va_S.rf
  rw [← hH]
  clear hH
  refine lv_aload_n hx hb dX5_init_0 rfl (lv_at hl 0 rfl) ?_
  refine W.objInit hx hb hown (hts _ wm_178) (hts _ wm_39) (hts _ wm_40) rfl (by rw [hml]; exact hl.1) rfl dX5_init_1 (Nat.le_of_ble_eq_true rfl) (Nat.le_of_ble_eq_true rfl) ?_
  refine W.eq (g2 := F0 m 4 ls []) rfl ?_
  refine lv_aload_n hx hb dX5_init_4 rfl (lv_at hl 0 rfl) ?_
  refine lv_bipush (v := 9) hx hb dX5_init_5 (by decide) ?_
  refine k_newa 0 (atype := .int) hx hb (hts _ wm_68) rfl rfl hG.1 hP hD hS hA (a0 := (9, .inl (fun _ => 0))) trivial (fun _ => rfl) (by decide) (by decide) (by decide) (Nat.le_of_ble_eq_true rfl) (Nat.le_of_ble_eq_true rfl) dX5_init_7 (fun q1q H hP hD hS => ?_)
  have hP : va_P D vwCl [(h0, .inr (7, [.null, .null, .int 0, .int 0, .int 0, .int 0, .int 0, .int 0, .int 0, .int 0])), (q1q, .inl (cy 0, 9, .inl (fun _ => 0)))] H := hP
  have hD : va_D A [(h0, .inr (7, [.null, .null, .int 0, .int 0, .int 0, .int 0, .int 0, .int 0, .int 0, .int 0])), (q1q, .inl (cy 0, 9, .inl (fun _ => 0)))] := hD
  refine va_putF (D := D) (ci := 7) (v := .ref q1q) (ty := (.array .int)) (C := RX5) (T := TX5) (N := 10) hx hb hts kin_RX5 tyX5 tyX5_ok nmX5 hown hG.1 hP hD hS 0 rfl rfl 0 (by decide) (hts _ wm_179) (fun _ h9 => h9) rfl hnm rfl (by decide +kernel) rfl rfl (Nat.le_of_ble_eq_true rfl) dX5_init_9 (fun H locs hP hD hS => ?_)
  have hP : va_P D vwCl [(h0, .inr (7, [.ref q1q, .null, .int 0, .int 0, .int 0, .int 0, .int 0, .int 0, .int 0, .int 0])), (q1q, .inl (cy 0, 9, .inl (fun _ => 0)))] H := hP
  have hD : va_D A [(h0, .inr (7, [.ref q1q, .null, .int 0, .int 0, .int 0, .int 0, .int 0, .int 0, .int 0, .int 0])), (q1q, .inl (cy 0, 9, .inl (fun _ => 0)))] := hD
  refine lv_aload_n hx hb dX5_init_12 rfl (lv_at hl 0 rfl) ?_
  refine lv_bipush (v := 9) hx hb dX5_init_13 (by decide) ?_
  refine k_newa 0 (atype := .int) hx hb (hts _ wm_68) rfl rfl hG.1 hP hD hS hA (a0 := (9, .inl (fun _ => 0))) trivial (fun _ => rfl) (by decide) (by decide) (by decide) (Nat.le_of_ble_eq_true rfl) (Nat.le_of_ble_eq_true rfl) dX5_init_15 (fun q2q H hP hD hS => ?_)
  have hP : va_P D vwCl [(h0, .inr (7, [.ref q1q, .null, .int 0, .int 0, .int 0, .int 0, .int 0, .int 0, .int 0, .int 0])), (q1q, .inl (cy 0, 9, .inl (fun _ => 0))), (q2q, .inl (cy 0, 9, .inl (fun _ => 0)))] H := hP
  have hD : va_D A [(h0, .inr (7, [.ref q1q, .null, .int 0, .int 0, .int 0, .int 0, .int 0, .int 0, .int 0, .int 0])), (q1q, .inl (cy 0, 9, .inl (fun _ => 0))), (q2q, .inl (cy 0, 9, .inl (fun _ => 0)))] := hD
  refine va_putF (D := D) (ci := 7) (v := .ref q2q) (ty := (.array .int)) (C := RX5) (T := TX5) (N := 10) hx hb hts kin_RX5 tyX5 tyX5_ok nmX5 hown hG.1 hP hD hS 0 rfl rfl 1 (by decide) (hts _ wm_181) (fun _ h9 => h9) rfl hnm rfl (by decide +kernel) rfl rfl (Nat.le_of_ble_eq_true rfl) dX5_init_17 (fun H locs hP hD hS => ?_)
  have hP : va_P D vwCl [(h0, .inr (7, [.ref q1q, .ref q2q, .int 0, .int 0, .int 0, .int 0, .int 0, .int 0, .int 0, .int 0])), (q1q, .inl (cy 0, 9, .inl (fun _ => 0))), (q2q, .inl (cy 0, 9, .inl (fun _ => 0)))] H := hP
  have hD : va_D A [(h0, .inr (7, [.ref q1q, .ref q2q, .int 0, .int 0, .int 0, .int 0, .int 0, .int 0, .int 0, .int 0])), (q1q, .inl (cy 0, 9, .inl (fun _ => 0))), (q2q, .inl (cy 0, 9, .inl (fun _ => 0)))] := hD
  refine lv_aload_n hx hb dX5_init_20 rfl (lv_at hl 0 rfl) ?_
  refine lv_iconst (v := 0) hx hb dX5_init_21 (by decide) ?_
  refine va_put (D := D) (ci := 7) (v := .int 0) (ty := .int) (C := RX5) (T := TX5) (N := 10) hx hb hts kin_RX5 tyX5 tyX5_ok nmX5 hown hG.1 hP hD hS 0 rfl rfl 2 (by decide) (hts _ wm_184) (fun _ h9 => h9) rfl (by decide +kernel) rfl rfl (Nat.le_of_ble_eq_true rfl) dX5_init_22 (fun H locs hP hD hS => ?_)
  have hP : va_P D vwCl [(h0, .inr (7, [.ref q1q, .ref q2q, .int 0, .int 0, .int 0, .int 0, .int 0, .int 0, .int 0, .int 0])), (q1q, .inl (cy 0, 9, .inl (fun _ => 0))), (q2q, .inl (cy 0, 9, .inl (fun _ => 0)))] H := hP
  have hD : va_D A [(h0, .inr (7, [.ref q1q, .ref q2q, .int 0, .int 0, .int 0, .int 0, .int 0, .int 0, .int 0, .int 0])), (q1q, .inl (cy 0, 9, .inl (fun _ => 0))), (q2q, .inl (cy 0, 9, .inl (fun _ => 0)))] := hD
  refine lv_aload_n hx hb dX5_init_25 rfl (lv_at hl 0 rfl) ?_
  refine lv_iconst (v := 0) hx hb dX5_init_26 (by decide) ?_
  refine va_put (D := D) (ci := 7) (v := .int 0) (ty := .int) (C := RX5) (T := TX5) (N := 10) hx hb hts kin_RX5 tyX5 tyX5_ok nmX5 hown hG.1 hP hD hS 0 rfl rfl 3 (by decide) (hts _ wm_189) (fun _ h9 => h9) rfl (by decide +kernel) rfl rfl (Nat.le_of_ble_eq_true rfl) dX5_init_27 (fun H locs hP hD hS => ?_)
  have hP : va_P D vwCl [(h0, .inr (7, [.ref q1q, .ref q2q, .int 0, .int 0, .int 0, .int 0, .int 0, .int 0, .int 0, .int 0])), (q1q, .inl (cy 0, 9, .inl (fun _ => 0))), (q2q, .inl (cy 0, 9, .inl (fun _ => 0)))] H := hP
  have hD : va_D A [(h0, .inr (7, [.ref q1q, .ref q2q, .int 0, .int 0, .int 0, .int 0, .int 0, .int 0, .int 0, .int 0])), (q1q, .inl (cy 0, 9, .inl (fun _ => 0))), (q2q, .inl (cy 0, 9, .inl (fun _ => 0)))] := hD
  refine lv_aload_n hx hb dX5_init_30 rfl (lv_at hl 0 rfl) ?_
  refine lv_iconst (v := 0) hx hb dX5_init_31 (by decide) ?_
  refine va_put (D := D) (ci := 7) (v := .int 0) (ty := .int) (C := RX5) (T := TX5) (N := 10) hx hb hts kin_RX5 tyX5 tyX5_ok nmX5 hown hG.1 hP hD hS 0 rfl rfl 4 (by decide) (hts _ wm_194) (fun _ h9 => h9) rfl (by decide +kernel) rfl rfl (Nat.le_of_ble_eq_true rfl) dX5_init_32 (fun H locs hP hD hS => ?_)
  have hP : va_P D vwCl [(h0, .inr (7, [.ref q1q, .ref q2q, .int 0, .int 0, .int 0, .int 0, .int 0, .int 0, .int 0, .int 0])), (q1q, .inl (cy 0, 9, .inl (fun _ => 0))), (q2q, .inl (cy 0, 9, .inl (fun _ => 0)))] H := hP
  have hD : va_D A [(h0, .inr (7, [.ref q1q, .ref q2q, .int 0, .int 0, .int 0, .int 0, .int 0, .int 0, .int 0, .int 0])), (q1q, .inl (cy 0, 9, .inl (fun _ => 0))), (q2q, .inl (cy 0, 9, .inl (fun _ => 0)))] := hD
  refine lv_aload_n hx hb dX5_init_35 rfl (lv_at hl 0 rfl) ?_
  refine lv_iconst (v := 0) hx hb dX5_init_36 (by decide) ?_
  refine va_put (D := D) (ci := 7) (v := .int 0) (ty := .int) (C := RX5) (T := TX5) (N := 10) hx hb hts kin_RX5 tyX5 tyX5_ok nmX5 hown hG.1 hP hD hS 0 rfl rfl 5 (by decide) (hts _ wm_199) (fun _ h9 => h9) rfl (by decide +kernel) rfl rfl (Nat.le_of_ble_eq_true rfl) dX5_init_37 (fun H locs hP hD hS => ?_)
  have hP : va_P D vwCl [(h0, .inr (7, [.ref q1q, .ref q2q, .int 0, .int 0, .int 0, .int 0, .int 0, .int 0, .int 0, .int 0])), (q1q, .inl (cy 0, 9, .inl (fun _ => 0))), (q2q, .inl (cy 0, 9, .inl (fun _ => 0)))] H := hP
  have hD : va_D A [(h0, .inr (7, [.ref q1q, .ref q2q, .int 0, .int 0, .int 0, .int 0, .int 0, .int 0, .int 0, .int 0])), (q1q, .inl (cy 0, 9, .inl (fun _ => 0))), (q2q, .inl (cy 0, 9, .inl (fun _ => 0)))] := hD
  refine lv_aload_n hx hb dX5_init_40 rfl (lv_at hl 0 rfl) ?_
  refine lv_iconst (v := 0) hx hb dX5_init_41 (by decide) ?_
  refine va_put (D := D) (ci := 7) (v := .int 0) (ty := .int) (C := RX5) (T := TX5) (N := 10) hx hb hts kin_RX5 tyX5 tyX5_ok nmX5 hown hG.1 hP hD hS 0 rfl rfl 6 (by decide) (hts _ wm_201) (fun _ h9 => h9) rfl (by decide +kernel) rfl rfl (Nat.le_of_ble_eq_true rfl) dX5_init_42 (fun H locs hP hD hS => ?_)
  have hP : va_P D vwCl [(h0, .inr (7, [.ref q1q, .ref q2q, .int 0, .int 0, .int 0, .int 0, .int 0, .int 0, .int 0, .int 0])), (q1q, .inl (cy 0, 9, .inl (fun _ => 0))), (q2q, .inl (cy 0, 9, .inl (fun _ => 0)))] H := hP
  have hD : va_D A [(h0, .inr (7, [.ref q1q, .ref q2q, .int 0, .int 0, .int 0, .int 0, .int 0, .int 0, .int 0, .int 0])), (q1q, .inl (cy 0, 9, .inl (fun _ => 0))), (q2q, .inl (cy 0, 9, .inl (fun _ => 0)))] := hD
  refine lv_aload_n hx hb dX5_init_45 rfl (lv_at hl 0 rfl) ?_
  refine lv_iconst (v := 0) hx hb dX5_init_46 (by decide) ?_
  refine va_put (D := D) (ci := 7) (v := .int 0) (ty := .int) (C := RX5) (T := TX5) (N := 10) hx hb hts kin_RX5 tyX5 tyX5_ok nmX5 hown hG.1 hP hD hS 0 rfl rfl 7 (by decide) (hts _ wm_203) (fun _ h9 => h9) rfl (by decide +kernel) rfl rfl (Nat.le_of_ble_eq_true rfl) dX5_init_47 (fun H locs hP hD hS => ?_)
  have hP : va_P D vwCl [(h0, .inr (7, [.ref q1q, .ref q2q, .int 0, .int 0, .int 0, .int 0, .int 0, .int 0, .int 0, .int 0])), (q1q, .inl (cy 0, 9, .inl (fun _ => 0))), (q2q, .inl (cy 0, 9, .inl (fun _ => 0)))] H := hP
  have hD : va_D A [(h0, .inr (7, [.ref q1q, .ref q2q, .int 0, .int 0, .int 0, .int 0, .int 0, .int 0, .int 0, .int 0])), (q1q, .inl (cy 0, 9, .inl (fun _ => 0))), (q2q, .inl (cy 0, 9, .inl (fun _ => 0)))] := hD
  refine lv_aload_n hx hb dX5_init_50 rfl (lv_at hl 0 rfl) ?_
  refine lv_iconst (v := 0) hx hb dX5_init_51 (by decide) ?_
  refine va_put (D := D) (ci := 7) (v := .int 0) (ty := .int) (C := RX5) (T := TX5) (N := 10) hx hb hts kin_RX5 tyX5 tyX5_ok nmX5 hown hG.1 hP hD hS 0 rfl rfl 8 (by decide) (hts _ wm_205) (fun _ h9 => h9) rfl (by decide +kernel) rfl rfl (Nat.le_of_ble_eq_true rfl) dX5_init_52 (fun H locs hP hD hS => ?_)
  have hP : va_P D vwCl [(h0, .inr (7, [.ref q1q, .ref q2q, .int 0, .int 0, .int 0, .int 0, .int 0, .int 0, .int 0, .int 0])), (q1q, .inl (cy 0, 9, .inl (fun _ => 0))), (q2q, .inl (cy 0, 9, .inl (fun _ => 0)))] H := hP
  have hD : va_D A [(h0, .inr (7, [.ref q1q, .ref q2q, .int 0, .int 0, .int 0, .int 0, .int 0, .int 0, .int 0, .int 0])), (q1q, .inl (cy 0, 9, .inl (fun _ => 0))), (q2q, .inl (cy 0, 9, .inl (fun _ => 0)))] := hD
  refine lv_aload_n hx hb dX5_init_55 rfl (lv_at hl 0 rfl) ?_
  refine lv_iconst (v := 0) hx hb dX5_init_56 (by decide) ?_
  refine va_put (D := D) (ci := 7) (v := .int 0) (ty := .int) (C := RX5) (T := TX5) (N := 10) hx hb hts kin_RX5 tyX5 tyX5_ok nmX5 hown hG.1 hP hD hS 0 rfl rfl 9 (by decide) (hts _ wm_207) (fun _ h9 => h9) rfl (by decide +kernel) rfl rfl (Nat.le_of_ble_eq_true rfl) dX5_init_57 (fun H locs hP hD hS => ?_)
  have hP : va_P D vwCl [(h0, .inr (7, [.ref q1q, .ref q2q, .int 0, .int 0, .int 0, .int 0, .int 0, .int 0, .int 0, .int 0])), (q1q, .inl (cy 0, 9, .inl (fun _ => 0))), (q2q, .inl (cy 0, 9, .inl (fun _ => 0)))] H := hP
  have hD : va_D A [(h0, .inr (7, [.ref q1q, .ref q2q, .int 0, .int 0, .int 0, .int 0, .int 0, .int 0, .int 0, .int 0])), (q1q, .inl (cy 0, 9, .inl (fun _ => 0))), (q2q, .inl (cy 0, 9, .inl (fun _ => 0)))] := hD
  exact k_vret (fun k => [q1q, q2q].getD k 0) hx hb hr hlk (trivial) (hP.sub [0, 1, 2] rfl) (hD.sub [0, 1, 2] (by decide) rfl) hS (by decide) (by decide) dX5_init_60

set_option maxHeartbeats 4000000 in
set_option maxRecDepth 100000 in
/-- LentMinds$House(): a new one -/
theorem c_House_init (l : Launch) (hl0 : l.stackTraces = false) (D : va_G) (cy : Nat → ClassId) (sa : Nat → Nat) (h0 : Nat) (sz : Nat) : Met l yX2_init (Cond.code yX2_init cX2_init 1 none :: kWS) ({ frames := 11, cells := 12, slots := 108, locals := 360 }) (kPre D cy sa [.ref h0] [(h0, .inr (4, [.null, .null, .null, .null, .null, .null, .null, .null, .null, .null, .null, .null, .int 0, .int 0, .int 0, .int 0, .int 0]))] sz) (va_Qv (fun (_ : Nat → Nat) => True) (kB D (va_A [(h0, .inr (4, [.null, .null, .null, .null, .null, .null, .null, .null, .null, .null, .null, .null, .int 0, .int 0, .int 0, .int 0, .int 0]))] sz) (fun u => [(h0, .inr (4, [.ref (u 0), .ref (u 1), .ref (u 2), .ref (u 3), .ref (u 4), .ref (u 5), .ref (u 6), .ref (u 7), .ref (u 8), .ref (u 9), .ref (u 10), .ref (u 11), .int 0, .int 0, .int 0, .int 0, .int 0])), ((u 0), .inl (cy 0, 9, .inl (fun _ => 0))), ((u 1), .inl (cy 0, 9, .inl (fun _ => 0))), ((u 2), .inl (cy 0, 9, .inl (fun _ => 0))), ((u 3), .inl (cy 0, 9, .inl (fun _ => 0))), ((u 4), .inl (cy 0, 9, .inl (fun _ => 0))), ((u 5), .inl (cy 0, 9, .inl (fun _ => 0))), ((u 6), .inl (cy 0, 9, .inl (fun _ => 0))), ((u 7), .inl (cy 0, 9, .inl (fun _ => 0))), ((u 8), .inl (cy 0, 9, .inl (fun _ => 0))), ((u 9), .inl (cy 0, 9, .inl (fun _ => 0))), ((u 10), .inl (cy 0, 9, .inl (fun _ => 0))), ((u 11), .inl (cy 0, 9, .inl (fun _ => 0)))])) (va_A [(h0, .inr (4, [.null, .null, .null, .null, .null, .null, .null, .null, .null, .null, .null, .null, .int 0, .int 0, .int 0, .int 0, .int 0]))] sz)) 12 108 (va_A [(h0, .inr (4, [.null, .null, .null, .null, .null, .null, .null, .null, .null, .null, .null, .null, .int 0, .int 0, .int 0, .int 0, .int 0]))] sz) := by
  refine k_ofW (Qc := fun A => va_Qv (fun (_ : Nat → Nat) => True) (kB D A (fun u => [(h0, .inr (4, [.ref (u 0), .ref (u 1), .ref (u 2), .ref (u 3), .ref (u 4), .ref (u 5), .ref (u 6), .ref (u 7), .ref (u 8), .ref (u 9), .ref (u 10), .ref (u 11), .int 0, .int 0, .int 0, .int 0, .int 0])), ((u 0), .inl (cy 0, 9, .inl (fun _ => 0))), ((u 1), .inl (cy 0, 9, .inl (fun _ => 0))), ((u 2), .inl (cy 0, 9, .inl (fun _ => 0))), ((u 3), .inl (cy 0, 9, .inl (fun _ => 0))), ((u 4), .inl (cy 0, 9, .inl (fun _ => 0))), ((u 5), .inl (cy 0, 9, .inl (fun _ => 0))), ((u 6), .inl (cy 0, 9, .inl (fun _ => 0))), ((u 7), .inl (cy 0, 9, .inl (fun _ => 0))), ((u 8), .inl (cy 0, 9, .inl (fun _ => 0))), ((u 9), .inl (cy 0, 9, .inl (fun _ => 0))), ((u 10), .inl (cy 0, 9, .inl (fun _ => 0))), ((u 11), .inl (cy 0, 9, .inl (fun _ => 0)))])) A) (by decide) (Nat.le_of_ble_eq_true rfl) ?_
  intro p e s m below meth c ls A E hA hP hD hG hS hl
  obtain ⟨hx, hb, hml, hown, hts, hr, hlk, hnm⟩ := id E
  have hown : s.vm.findClass RX2 = some m.cls := hown
  have hl : lv_has ls 1 [(0, .ref h0)] := hl
  obtain ⟨H, hH⟩ : ∃ H, H = s.heap := ⟨_, rfl⟩
  have hP : va_P D vwCl [(h0, .inr (4, [.null, .null, .null, .null, .null, .null, .null, .null, .null, .null, .null, .null, .int 0, .int 0, .int 0, .int 0, .int 0]))] H := by rw [hH]; exact hP
  have hS : va_S A s.heap H [] := by rw [hH]; exact va_S.rf
  rw [← hH]
  clear hH
  refine lv_aload_n hx hb dX2_init_0 rfl (lv_at hl 0 rfl) ?_
  refine W.objInit hx hb hown (hts _ wm_74) (hts _ wm_39) (hts _ wm_40) rfl (by rw [hml]; exact hl.1) rfl dX2_init_1 (Nat.le_of_ble_eq_true rfl) (Nat.le_of_ble_eq_true rfl) ?_
  refine W.eq (g2 := F0 m 4 ls []) rfl ?_
  refine lv_aload_n hx hb dX2_init_4 rfl (lv_at hl 0 rfl) ?_
  refine lv_bipush (v := 9) hx hb dX2_init_5 (by decide) ?_
  refine k_newa 0 (atype := .int) hx hb (hts _ wm_68) rfl rfl hG.1 hP hD hS hA (a0 := (9, .inl (fun _ => 0))) trivial (fun _ => rfl) (by decide) (by decide) (by decide) (Nat.le_of_ble_eq_true rfl) (Nat.le_of_ble_eq_true rfl) dX2_init_7 (fun q1q H hP hD hS => ?_)
  have hP : va_P D vwCl [(h0, .inr (4, [.null, .null, .null, .null, .null, .null, .null, .null, .null, .null, .null, .null, .int 0, .int 0, .int 0, .int 0, .int 0])), (q1q, .inl (cy 0, 9, .inl (fun _ => 0)))] H := hP
  have hD : va_D A [(h0, .inr (4, [.null, .null, .null, .null, .null, .null, .null, .null, .null, .null, .null, .null, .int 0, .int 0, .int 0, .int 0, .int 0])), (q1q, .inl (cy 0, 9, .inl (fun _ => 0)))] := hD
  refine va_putF (D := D) (ci := 4) (v := .ref q1q) (ty := (.array .int)) (C := RX2) (T := TX2) (N := 17) hx hb hts kin_RX2 tyX2 tyX2_ok nmX2 hown hG.1 hP hD hS 0 rfl rfl 0 (by decide) (hts _ wm_75) (fun _ h9 => h9) rfl hnm rfl (by decide +kernel) rfl rfl (Nat.le_of_ble_eq_true rfl) dX2_init_9 (fun H locs hP hD hS => ?_)
  have hP : va_P D vwCl [(h0, .inr (4, [.ref q1q, .null, .null, .null, .null, .null, .null, .null, .null, .null, .null, .null, .int 0, .int 0, .int 0, .int 0, .int 0])), (q1q, .inl (cy 0, 9, .inl (fun _ => 0)))] H := hP
  have hD : va_D A [(h0, .inr (4, [.ref q1q, .null, .null, .null, .null, .null, .null, .null, .null, .null, .null, .null, .int 0, .int 0, .int 0, .int 0, .int 0])), (q1q, .inl (cy 0, 9, .inl (fun _ => 0)))] := hD
  refine lv_aload_n hx hb dX2_init_12 rfl (lv_at hl 0 rfl) ?_
  refine lv_bipush (v := 9) hx hb dX2_init_13 (by decide) ?_
  refine k_newa 0 (atype := .int) hx hb (hts _ wm_68) rfl rfl hG.1 hP hD hS hA (a0 := (9, .inl (fun _ => 0))) trivial (fun _ => rfl) (by decide) (by decide) (by decide) (Nat.le_of_ble_eq_true rfl) (Nat.le_of_ble_eq_true rfl) dX2_init_15 (fun q2q H hP hD hS => ?_)
  have hP : va_P D vwCl [(h0, .inr (4, [.ref q1q, .null, .null, .null, .null, .null, .null, .null, .null, .null, .null, .null, .int 0, .int 0, .int 0, .int 0, .int 0])), (q1q, .inl (cy 0, 9, .inl (fun _ => 0))), (q2q, .inl (cy 0, 9, .inl (fun _ => 0)))] H := hP
  have hD : va_D A [(h0, .inr (4, [.ref q1q, .null, .null, .null, .null, .null, .null, .null, .null, .null, .null, .null, .int 0, .int 0, .int 0, .int 0, .int 0])), (q1q, .inl (cy 0, 9, .inl (fun _ => 0))), (q2q, .inl (cy 0, 9, .inl (fun _ => 0)))] := hD
  refine va_putF (D := D) (ci := 4) (v := .ref q2q) (ty := (.array .int)) (C := RX2) (T := TX2) (N := 17) hx hb hts kin_RX2 tyX2 tyX2_ok nmX2 hown hG.1 hP hD hS 0 rfl rfl 1 (by decide) (hts _ wm_77) (fun _ h9 => h9) rfl hnm rfl (by decide +kernel) rfl rfl (Nat.le_of_ble_eq_true rfl) dX2_init_17 (fun H locs hP hD hS => ?_)
  have hP : va_P D vwCl [(h0, .inr (4, [.ref q1q, .ref q2q, .null, .null, .null, .null, .null, .null, .null, .null, .null, .null, .int 0, .int 0, .int 0, .int 0, .int 0])), (q1q, .inl (cy 0, 9, .inl (fun _ => 0))), (q2q, .inl (cy 0, 9, .inl (fun _ => 0)))] H := hP
  have hD : va_D A [(h0, .inr (4, [.ref q1q, .ref q2q, .null, .null, .null, .null, .null, .null, .null, .null, .null, .null, .int 0, .int 0, .int 0, .int 0, .int 0])), (q1q, .inl (cy 0, 9, .inl (fun _ => 0))), (q2q, .inl (cy 0, 9, .inl (fun _ => 0)))] := hD
  refine lv_aload_n hx hb dX2_init_20 rfl (lv_at hl 0 rfl) ?_
  refine lv_bipush (v := 9) hx hb dX2_init_21 (by decide) ?_
  refine k_newa 0 (atype := .int) hx hb (hts _ wm_68) rfl rfl hG.1 hP hD hS hA (a0 := (9, .inl (fun _ => 0))) trivial (fun _ => rfl) (by decide) (by decide) (by decide) (Nat.le_of_ble_eq_true rfl) (Nat.le_of_ble_eq_true rfl) dX2_init_23 (fun q3q H hP hD hS => ?_)
  have hP : va_P D vwCl [(h0, .inr (4, [.ref q1q, .ref q2q, .null, .null, .null, .null, .null, .null, .null, .null, .null, .null, .int 0, .int 0, .int 0, .int 0, .int 0])), (q1q, .inl (cy 0, 9, .inl (fun _ => 0))), (q2q, .inl (cy 0, 9, .inl (fun _ => 0))), (q3q, .inl (cy 0, 9, .inl (fun _ => 0)))] H := hP
  have hD : va_D A [(h0, .inr (4, [.ref q1q, .ref q2q, .null, .null, .null, .null, .null, .null, .null, .null, .null, .null, .int 0, .int 0, .int 0, .int 0, .int 0])), (q1q, .inl (cy 0, 9, .inl (fun _ => 0))), (q2q, .inl (cy 0, 9, .inl (fun _ => 0))), (q3q, .inl (cy 0, 9, .inl (fun _ => 0)))] := hD
  refine va_putF (D := D) (ci := 4) (v := .ref q3q) (ty := (.array .int)) (C := RX2) (T := TX2) (N := 17) hx hb hts kin_RX2 tyX2 tyX2_ok nmX2 hown hG.1 hP hD hS 0 rfl rfl 2 (by decide) (hts _ wm_79) (fun _ h9 => h9) rfl hnm rfl (by decide +kernel) rfl rfl (Nat.le_of_ble_eq_true rfl) dX2_init_25 (fun H locs hP hD hS => ?_)
  have hP : va_P D vwCl [(h0, .inr (4, [.ref q1q, .ref q2q, .ref q3q, .null, .null, .null, .null, .null, .null, .null, .null, .null, .int 0, .int 0, .int 0, .int 0, .int 0])), (q1q, .inl (cy 0, 9, .inl (fun _ => 0))), (q2q, .inl (cy 0, 9, .inl (fun _ => 0))), (q3q, .inl (cy 0, 9, .inl (fun _ => 0)))] H := hP
  have hD : va_D A [(h0, .inr (4, [.ref q1q, .ref q2q, .ref q3q, .null, .null, .null, .null, .null, .null, .null, .null, .null, .int 0, .int 0, .int 0, .int 0, .int 0])), (q1q, .inl (cy 0, 9, .inl (fun _ => 0))), (q2q, .inl (cy 0, 9, .inl (fun _ => 0))), (q3q, .inl (cy 0, 9, .inl (fun _ => 0)))] := hD
  refine lv_aload_n hx hb dX2_init_28 rfl (lv_at hl 0 rfl) ?_
  refine lv_bipush (v := 9) hx hb dX2_init_29 (by decide) ?_
  refine k_newa 0 (atype := .int) hx hb (hts _ wm_68) rfl rfl hG.1 hP hD hS hA (a0 := (9, .inl (fun _ => 0))) trivial (fun _ => rfl) (by decide) (by decide) (by decide) (Nat.le_of_ble_eq_true rfl) (Nat.le_of_ble_eq_true rfl) dX2_init_31 (fun q4q H hP hD hS => ?_)
  have hP : va_P D vwCl [(h0, .inr (4, [.ref q1q, .ref q2q, .ref q3q, .null, .null, .null, .null, .null, .null, .null, .null, .null, .int 0, .int 0, .int 0, .int 0, .int 0])), (q1q, .inl (cy 0, 9, .inl (fun _ => 0))), (q2q, .inl (cy 0, 9, .inl (fun _ => 0))), (q3q, .inl (cy 0, 9, .inl (fun _ => 0))), (q4q, .inl (cy 0, 9, .inl (fun _ => 0)))] H := hP
  have hD : va_D A [(h0, .inr (4, [.ref q1q, .ref q2q, .ref q3q, .null, .null, .null, .null, .null, .null, .null, .null, .null, .int 0, .int 0, .int 0, .int 0, .int 0])), (q1q, .inl (cy 0, 9, .inl (fun _ => 0))), (q2q, .inl (cy 0, 9, .inl (fun _ => 0))), (q3q, .inl (cy 0, 9, .inl (fun _ => 0))), (q4q, .inl (cy 0, 9, .inl (fun _ => 0)))] := hD
  refine va_putF (D := D) (ci := 4) (v := .ref q4q) (ty := (.array .int)) (C := RX2) (T := TX2) (N := 17) hx hb hts kin_RX2 tyX2 tyX2_ok nmX2 hown hG.1 hP hD hS 0 rfl rfl 3 (by decide) (hts _ wm_82) (fun _ h9 => h9) rfl hnm rfl (by decide +kernel) rfl rfl (Nat.le_of_ble_eq_true rfl) dX2_init_33 (fun H locs hP hD hS => ?_)
  have hP : va_P D vwCl [(h0, .inr (4, [.ref q1q, .ref q2q, .ref q3q, .ref q4q, .null, .null, .null, .null, .null, .null, .null, .null, .int 0, .int 0, .int 0, .int 0, .int 0])), (q1q, .inl (cy 0, 9, .inl (fun _ => 0))), (q2q, .inl (cy 0, 9, .inl (fun _ => 0))), (q3q, .inl (cy 0, 9, .inl (fun _ => 0))), (q4q, .inl (cy 0, 9, .inl (fun _ => 0)))] H := hP
  have hD : va_D A [(h0, .inr (4, [.ref q1q, .ref q2q, .ref q3q, .ref q4q, .null, .null, .null, .null, .null, .null, .null, .null, .int 0, .int 0, .int 0, .int 0, .int 0])), (q1q, .inl (cy 0, 9, .inl (fun _ => 0))), (q2q, .inl (cy 0, 9, .inl (fun _ => 0))), (q3q, .inl (cy 0, 9, .inl (fun _ => 0))), (q4q, .inl (cy 0, 9, .inl (fun _ => 0)))] := hD
  refine lv_aload_n hx hb dX2_init_36 rfl (lv_at hl 0 rfl) ?_
  refine lv_bipush (v := 9) hx hb dX2_init_37 (by decide) ?_
  refine k_newa 0 (atype := .int) hx hb (hts _ wm_68) rfl rfl hG.1 hP hD hS hA (a0 := (9, .inl (fun _ => 0))) trivial (fun _ => rfl) (by decide) (by decide) (by decide) (Nat.le_of_ble_eq_true rfl) (Nat.le_of_ble_eq_true rfl) dX2_init_39 (fun q5q H hP hD hS => ?_)
  have hP : va_P D vwCl [(h0, .inr (4, [.ref q1q, .ref q2q, .ref q3q, .ref q4q, .null, .null, .null, .null, .null, .null, .null, .null, .int 0, .int 0, .int 0, .int 0, .int 0])), (q1q, .inl (cy 0, 9, .inl (fun _ => 0))), (q2q, .inl (cy 0, 9, .inl (fun _ => 0))), (q3q, .inl (cy 0, 9, .inl (fun _ => 0))), (q4q, .inl (cy 0, 9, .inl (fun _ => 0))), (q5q, .inl (cy 0, 9, .inl (fun _ => 0)))] H := hP
  have hD : va_D A [(h0, .inr (4, [.ref q1q, .ref q2q, .ref q3q, .ref q4q, .null, .null, .null, .null, .null, .null, .null, .null, .int 0, .int 0, .int 0, .int 0, .int 0])), (q1q, .inl (cy 0, 9, .inl (fun _ => 0))), (q2q, .inl (cy 0, 9, .inl (fun _ => 0))), (q3q, .inl (cy 0, 9, .inl (fun _ => 0))), (q4q, .inl (cy 0, 9, .inl (fun _ => 0))), (q5q, .inl (cy 0, 9, .inl (fun _ => 0)))] := hD
  refine va_putF (D := D) (ci := 4) (v := .ref q5q) (ty := (.array .int)) (C := RX2) (T := TX2) (N := 17) hx hb hts kin_RX2 tyX2 tyX2_ok nmX2 hown hG.1 hP hD hS 0 rfl rfl 4 (by decide) (hts _ wm_86) (fun _ h9 => h9) rfl hnm rfl (by decide +kernel) rfl rfl (Nat.le_of_ble_eq_true rfl) dX2_init_41 (fun H locs hP hD hS => ?_)
  have hP : va_P D vwCl [(h0, .inr (4, [.ref q1q, .ref q2q, .ref q3q, .ref q4q, .ref q5q, .null, .null, .null, .null, .null, .null, .null, .int 0, .int 0, .int 0, .int 0, .int 0])), (q1q, .inl (cy 0, 9, .inl (fun _ => 0))), (q2q, .inl (cy 0, 9, .inl (fun _ => 0))), (q3q, .inl (cy 0, 9, .inl (fun _ => 0))), (q4q, .inl (cy 0, 9, .inl (fun _ => 0))), (q5q, .inl (cy 0, 9, .inl (fun _ => 0)))] H := hP
  have hD : va_D A [(h0, .inr (4, [.ref q1q, .ref q2q, .ref q3q, .ref q4q, .ref q5q, .null, .null, .null, .null, .null, .null, .null, .int 0, .int 0, .int 0, .int 0, .int 0])), (q1q, .inl (cy 0, 9, .inl (fun _ => 0))), (q2q, .inl (cy 0, 9, .inl (fun _ => 0))), (q3q, .inl (cy 0, 9, .inl (fun _ => 0))), (q4q, .inl (cy 0, 9, .inl (fun _ => 0))), (q5q, .inl (cy 0, 9, .inl (fun _ => 0)))] := hD
  refine lv_aload_n hx hb dX2_init_44 rfl (lv_at hl 0 rfl) ?_
  refine lv_bipush (v := 9) hx hb dX2_init_45 (by decide) ?_
  refine k_newa 0 (atype := .int) hx hb (hts _ wm_68) rfl rfl hG.1 hP hD hS hA (a0 := (9, .inl (fun _ => 0))) trivial (fun _ => rfl) (by decide) (by decide) (by decide) (Nat.le_of_ble_eq_true rfl) (Nat.le_of_ble_eq_true rfl) dX2_init_47 (fun q6q H hP hD hS => ?_)
  have hP : va_P D vwCl [(h0, .inr (4, [.ref q1q, .ref q2q, .ref q3q, .ref q4q, .ref q5q, .null, .null, .null, .null, .null, .null, .null, .int 0, .int 0, .int 0, .int 0, .int 0])), (q1q, .inl (cy 0, 9, .inl (fun _ => 0))), (q2q, .inl (cy 0, 9, .inl (fun _ => 0))), (q3q, .inl (cy 0, 9, .inl (fun _ => 0))), (q4q, .inl (cy 0, 9, .inl (fun _ => 0))), (q5q, .inl (cy 0, 9, .inl (fun _ => 0))), (q6q, .inl (cy 0, 9, .inl (fun _ => 0)))] H := hP
  have hD : va_D A [(h0, .inr (4, [.ref q1q, .ref q2q, .ref q3q, .ref q4q, .ref q5q, .null, .null, .null, .null, .null, .null, .null, .int 0, .int 0, .int 0, .int 0, .int 0])), (q1q, .inl (cy 0, 9, .inl (fun _ => 0))), (q2q, .inl (cy 0, 9, .inl (fun _ => 0))), (q3q, .inl (cy 0, 9, .inl (fun _ => 0))), (q4q, .inl (cy 0, 9, .inl (fun _ => 0))), (q5q, .inl (cy 0, 9, .inl (fun _ => 0))), (q6q, .inl (cy 0, 9, .inl (fun _ => 0)))] := hD
  refine va_putF (D := D) (ci := 4) (v := .ref q6q) (ty := (.array .int)) (C := RX2) (T := TX2) (N := 17) hx hb hts kin_RX2 tyX2 tyX2_ok nmX2 hown hG.1 hP hD hS 0 rfl rfl 5 (by decide) (hts _ wm_91) (fun _ h9 => h9) rfl hnm rfl (by decide +kernel) rfl rfl (Nat.le_of_ble_eq_true rfl) dX2_init_49 (fun H locs hP hD hS => ?_)
  have hP : va_P D vwCl [(h0, .inr (4, [.ref q1q, .ref q2q, .ref q3q, .ref q4q, .ref q5q, .ref q6q, .null, .null, .null, .null, .null, .null, .int 0, .int 0, .int 0, .int 0, .int 0])), (q1q, .inl (cy 0, 9, .inl (fun _ => 0))), (q2q, .inl (cy 0, 9, .inl (fun _ => 0))), (q3q, .inl (cy 0, 9, .inl (fun _ => 0))), (q4q, .inl (cy 0, 9, .inl (fun _ => 0))), (q5q, .inl (cy 0, 9, .inl (fun _ => 0))), (q6q, .inl (cy 0, 9, .inl (fun _ => 0)))] H := hP
  have hD : va_D A [(h0, .inr (4, [.ref q1q, .ref q2q, .ref q3q, .ref q4q, .ref q5q, .ref q6q, .null, .null, .null, .null, .null, .null, .int 0, .int 0, .int 0, .int 0, .int 0])), (q1q, .inl (cy 0, 9, .inl (fun _ => 0))), (q2q, .inl (cy 0, 9, .inl (fun _ => 0))), (q3q, .inl (cy 0, 9, .inl (fun _ => 0))), (q4q, .inl (cy 0, 9, .inl (fun _ => 0))), (q5q, .inl (cy 0, 9, .inl (fun _ => 0))), (q6q, .inl (cy 0, 9, .inl (fun _ => 0)))] := hD
  refine lv_aload_n hx hb dX2_init_52 rfl (lv_at hl 0 rfl) ?_
  refine lv_bipush (v := 9) hx hb dX2_init_53 (by decide) ?_
  refine k_newa 0 (atype := .int) hx hb (hts _ wm_68) rfl rfl hG.1 hP hD hS hA (a0 := (9, .inl (fun _ => 0))) trivial (fun _ => rfl) (by decide) (by decide) (by decide) (Nat.le_of_ble_eq_true rfl) (Nat.le_of_ble_eq_true rfl) dX2_init_55 (fun q7q H hP hD hS => ?_)
  have hP : va_P D vwCl [(h0, .inr (4, [.ref q1q, .ref q2q, .ref q3q, .ref q4q, .ref q5q, .ref q6q, .null, .null, .null, .null, .null, .null, .int 0, .int 0, .int 0, .int 0, .int 0])), (q1q, .inl (cy 0, 9, .inl (fun _ => 0))), (q2q, .inl (cy 0, 9, .inl (fun _ => 0))), (q3q, .inl (cy 0, 9, .inl (fun _ => 0))), (q4q, .inl (cy 0, 9, .inl (fun _ => 0))), (q5q, .inl (cy 0, 9, .inl (fun _ => 0))), (q6q, .inl (cy 0, 9, .inl (fun _ => 0))), (q7q, .inl (cy 0, 9, .inl (fun _ => 0)))] H := hP
  have hD : va_D A [(h0, .inr (4, [.ref q1q, .ref q2q, .ref q3q, .ref q4q, .ref q5q, .ref q6q, .null, .null, .null, .null, .null, .null, .int 0, .int 0, .int 0, .int 0, .int 0])), (q1q, .inl (cy 0, 9, .inl (fun _ => 0))), (q2q, .inl (cy 0, 9, .inl (fun _ => 0))), (q3q, .inl (cy 0, 9, .inl (fun _ => 0))), (q4q, .inl (cy 0, 9, .inl (fun _ => 0))), (q5q, .inl (cy 0, 9, .inl (fun _ => 0))), (q6q, .inl (cy 0, 9, .inl (fun _ => 0))), (q7q, .inl (cy 0, 9, .inl (fun _ => 0)))] := hD
  refine va_putF (D := D) (ci := 4) (v := .ref q7q) (ty := (.array .int)) (C := RX2) (T := TX2) (N := 17) hx hb hts kin_RX2 tyX2 tyX2_ok nmX2 hown hG.1 hP hD hS 0 rfl rfl 6 (by decide) (hts _ wm_94) (fun _ h9 => h9) rfl hnm rfl (by decide +kernel) rfl rfl (Nat.le_of_ble_eq_true rfl) dX2_init_57 (fun H locs hP hD hS => ?_)
  have hP : va_P D vwCl [(h0, .inr (4, [.ref q1q, .ref q2q, .ref q3q, .ref q4q, .ref q5q, .ref q6q, .ref q7q, .null, .null, .null, .null, .null, .int 0, .int 0, .int 0, .int 0, .int 0])), (q1q, .inl (cy 0, 9, .inl (fun _ => 0))), (q2q, .inl (cy 0, 9, .inl (fun _ => 0))), (q3q, .inl (cy 0, 9, .inl (fun _ => 0))), (q4q, .inl (cy 0, 9, .inl (fun _ => 0))), (q5q, .inl (cy 0, 9, .inl (fun _ => 0))), (q6q, .inl (cy 0, 9, .inl (fun _ => 0))), (q7q, .inl (cy 0, 9, .inl (fun _ => 0)))] H := hP
  have hD : va_D A [(h0, .inr (4, [.ref q1q, .ref q2q, .ref q3q, .ref q4q, .ref q5q, .ref q6q, .ref q7q, .null, .null, .null, .null, .null, .int 0, .int 0, .int 0, .int 0, .int 0])), (q1q, .inl (cy 0, 9, .inl (fun _ => 0))), (q2q, .inl (cy 0, 9, .inl (fun _ => 0))), (q3q, .inl (cy 0, 9, .inl (fun _ => 0))), (q4q, .inl (cy 0, 9, .inl (fun _ => 0))), (q5q, .inl (cy 0, 9, .inl (fun _ => 0))), (q6q, .inl (cy 0, 9, .inl (fun _ => 0))), (q7q, .inl (cy 0, 9, .inl (fun _ => 0)))] := hD
  refine lv_aload_n hx hb dX2_init_60 rfl (lv_at hl 0 rfl) ?_
  refine lv_bipush (v := 9) hx hb dX2_init_61 (by decide) ?_
  refine k_newa 0 (atype := .int) hx hb (hts _ wm_68) rfl rfl hG.1 hP hD hS hA (a0 := (9, .inl (fun _ => 0))) trivial (fun _ => rfl) (by decide) (by decide) (by decide) (Nat.le_of_ble_eq_true rfl) (Nat.le_of_ble_eq_true rfl) dX2_init_63 (fun q8q H hP hD hS => ?_)
  have hP : va_P D vwCl [(h0, .inr (4, [.ref q1q, .ref q2q, .ref q3q, .ref q4q, .ref q5q, .ref q6q, .ref q7q, .null, .null, .null, .null, .null, .int 0, .int 0, .int 0, .int 0, .int 0])), (q1q, .inl (cy 0, 9, .inl (fun _ => 0))), (q2q, .inl (cy 0, 9, .inl (fun _ => 0))), (q3q, .inl (cy 0, 9, .inl (fun _ => 0))), (q4q, .inl (cy 0, 9, .inl (fun _ => 0))), (q5q, .inl (cy 0, 9, .inl (fun _ => 0))), (q6q, .inl (cy 0, 9, .inl (fun _ => 0))), (q7q, .inl (cy 0, 9, .inl (fun _ => 0))), (q8q, .inl (cy 0, 9, .inl (fun _ => 0)))] H := hP
  have hD : va_D A [(h0, .inr (4, [.ref q1q, .ref q2q, .ref q3q, .ref q4q, .ref q5q, .ref q6q, .ref q7q, .null, .null, .null, .null, .null, .int 0, .int 0, .int 0, .int 0, .int 0])), (q1q, .inl (cy 0, 9, .inl (fun _ => 0))), (q2q, .inl (cy 0, 9, .inl (fun _ => 0))), (q3q, .inl (cy 0, 9, .inl (fun _ => 0))), (q4q, .inl (cy 0, 9, .inl (fun _ => 0))), (q5q, .inl (cy 0, 9, .inl (fun _ => 0))), (q6q, .inl (cy 0, 9, .inl (fun _ => 0))), (q7q, .inl (cy 0, 9, .inl (fun _ => 0))), (q8q, .inl (cy 0, 9, .inl (fun _ => 0)))] := hD
  refine va_putF (D := D) (ci := 4) (v := .ref q8q) (ty := (.array .int)) (C := RX2) (T := TX2) (N := 17) hx hb hts kin_RX2 tyX2 tyX2_ok nmX2 hown hG.1 hP hD hS 0 rfl rfl 7 (by decide) (hts _ wm_99) (fun _ h9 => h9) rfl hnm rfl (by decide +kernel) rfl rfl (Nat.le_of_ble_eq_true rfl) dX2_init_65 (fun H locs hP hD hS => ?_)
  have hP : va_P D vwCl [(h0, .inr (4, [.ref q1q, .ref q2q, .ref q3q, .ref q4q, .ref q5q, .ref q6q, .ref q7q, .ref q8q, .null, .null, .null, .null, .int 0, .int 0, .int 0, .int 0, .int 0])), (q1q, .inl (cy 0, 9, .inl (fun _ => 0))), (q2q, .inl (cy 0, 9, .inl (fun _ => 0))), (q3q, .inl (cy 0, 9, .inl (fun _ => 0))), (q4q, .inl (cy 0, 9, .inl (fun _ => 0))), (q5q, .inl (cy 0, 9, .inl (fun _ => 0))), (q6q, .inl (cy 0, 9, .inl (fun _ => 0))), (q7q, .inl (cy 0, 9, .inl (fun _ => 0))), (q8q, .inl (cy 0, 9, .inl (fun _ => 0)))] H := hP
  have hD : va_D A [(h0, .inr (4, [.ref q1q, .ref q2q, .ref q3q, .ref q4q, .ref q5q, .ref q6q, .ref q7q, .ref q8q, .null, .null, .null, .null, .int 0, .int 0, .int 0, .int 0, .int 0])), (q1q, .inl (cy 0, 9, .inl (fun _ => 0))), (q2q, .inl (cy 0, 9, .inl (fun _ => 0))), (q3q, .inl (cy 0, 9, .inl (fun _ => 0))), (q4q, .inl (cy 0, 9, .inl (fun _ => 0))), (q5q, .inl (cy 0, 9, .inl (fun _ => 0))), (q6q, .inl (cy 0, 9, .inl (fun _ => 0))), (q7q, .inl (cy 0, 9, .inl (fun _ => 0))), (q8q, .inl (cy 0, 9, .inl (fun _ => 0)))] := hD
  refine lv_aload_n hx hb dX2_init_68 rfl (lv_at hl 0 rfl) ?_
  refine lv_bipush (v := 9) hx hb dX2_init_69 (by decide) ?_
  refine k_newa 0 (atype := .int) hx hb (hts _ wm_68) rfl rfl hG.1 hP hD hS hA (a0 := (9, .inl (fun _ => 0))) trivial (fun _ => rfl) (by decide) (by decide) (by decide) (Nat.le_of_ble_eq_true rfl) (Nat.le_of_ble_eq_true rfl) dX2_init_71 (fun q9q H hP hD hS => ?_)
  have hP : va_P D vwCl [(h0, .inr (4, [.ref q1q, .ref q2q, .ref q3q, .ref q4q, .ref q5q, .ref q6q, .ref q7q, .ref q8q, .null, .null, .null, .null, .int 0, .int 0, .int 0, .int 0, .int 0])), (q1q, .inl (cy 0, 9, .inl (fun _ => 0))), (q2q, .inl (cy 0, 9, .inl (fun _ => 0))), (q3q, .inl (cy 0, 9, .inl (fun _ => 0))), (q4q, .inl (cy 0, 9, .inl (fun _ => 0))), (q5q, .inl (cy 0, 9, .inl (fun _ => 0))), (q6q, .inl (cy 0, 9, .inl (fun _ => 0))), (q7q, .inl (cy 0, 9, .inl (fun _ => 0))), (q8q, .inl (cy 0, 9, .inl (fun _ => 0))), (q9q, .inl (cy 0, 9, .inl (fun _ => 0)))] H := hP
  have hD : va_D A [(h0, .inr (4, [.ref q1q, .ref q2q, .ref q3q, .ref q4q, .ref q5q, .ref q6q, .ref q7q, .ref q8q, .null, .null, .null, .null, .int 0, .int 0, .int 0, .int 0, .int 0])), (q1q, .inl (cy 0, 9, .inl (fun _ => 0))), (q2q, .inl (cy 0, 9, .inl (fun _ => 0))), (q3q, .inl (cy 0, 9, .inl (fun _ => 0))), (q4q, .inl (cy 0, 9, .inl (fun _ => 0))), (q5q, .inl (cy 0, 9, .inl (fun _ => 0))), (q6q, .inl (cy 0, 9, .inl (fun _ => 0))), (q7q, .inl (cy 0, 9, .inl (fun _ => 0))), (q8q, .inl (cy 0, 9, .inl (fun _ => 0))), (q9q, .inl (cy 0, 9, .inl (fun _ => 0)))] := hD
  refine va_putF (D := D) (ci := 4) (v := .ref q9q) (ty := (.array .int)) (C := RX2) (T := TX2) (N := 17) hx hb hts kin_RX2 tyX2 tyX2_ok nmX2 hown hG.1 hP hD hS 0 rfl rfl 8 (by decide) (hts _ wm_103) (fun _ h9 => h9) rfl hnm rfl (by decide +kernel) rfl rfl (Nat.le_of_ble_eq_true rfl) dX2_init_73 (fun H locs hP hD hS => ?_)
  have hP : va_P D vwCl [(h0, .inr (4, [.ref q1q, .ref q2q, .ref q3q, .ref q4q, .ref q5q, .ref q6q, .ref q7q, .ref q8q, .ref q9q, .null, .null, .null, .int 0, .int 0, .int 0, .int 0, .int 0])), (q1q, .inl (cy 0, 9, .inl (fun _ => 0))), (q2q, .inl (cy 0, 9, .inl (fun _ => 0))), (q3q, .inl (cy 0, 9, .inl (fun _ => 0))), (q4q, .inl (cy 0, 9, .inl (fun _ => 0))), (q5q, .inl (cy 0, 9, .inl (fun _ => 0))), (q6q, .inl (cy 0, 9, .inl (fun _ => 0))), (q7q, .inl (cy 0, 9, .inl (fun _ => 0))), (q8q, .inl (cy 0, 9, .inl (fun _ => 0))), (q9q, .inl (cy 0, 9, .inl (fun _ => 0)))] H := hP
  have hD : va_D A [(h0, .inr (4, [.ref q1q, .ref q2q, .ref q3q, .ref q4q, .ref q5q, .ref q6q, .ref q7q, .ref q8q, .ref q9q, .null, .null, .null, .int 0, .int 0, .int 0, .int 0, .int 0])), (q1q, .inl (cy 0, 9, .inl (fun _ => 0))), (q2q, .inl (cy 0, 9, .inl (fun _ => 0))), (q3q, .inl (cy 0, 9, .inl (fun _ => 0))), (q4q, .inl (cy 0, 9, .inl (fun _ => 0))), (q5q, .inl (cy 0, 9, .inl (fun _ => 0))), (q6q, .inl (cy 0, 9, .inl (fun _ => 0))), (q7q, .inl (cy 0, 9, .inl (fun _ => 0))), (q8q, .inl (cy 0, 9, .inl (fun _ => 0))), (q9q, .inl (cy 0, 9, .inl (fun _ => 0)))] := hD
  refine lv_aload_n hx hb dX2_init_76 rfl (lv_at hl 0 rfl) ?_
  refine lv_bipush (v := 9) hx hb dX2_init_77 (by decide) ?_
  refine k_newa 0 (atype := .int) hx hb (hts _ wm_68) rfl rfl hG.1 hP hD hS hA (a0 := (9, .inl (fun _ => 0))) trivial (fun _ => rfl) (by decide) (by decide) (by decide) (Nat.le_of_ble_eq_true rfl) (Nat.le_of_ble_eq_true rfl) dX2_init_79 (fun q10q H hP hD hS => ?_)
  have hP : va_P D vwCl [(h0, .inr (4, [.ref q1q, .ref q2q, .ref q3q, .ref q4q, .ref q5q, .ref q6q, .ref q7q, .ref q8q, .ref q9q, .null, .null, .null, .int 0, .int 0, .int 0, .int 0, .int 0])), (q1q, .inl (cy 0, 9, .inl (fun _ => 0))), (q2q, .inl (cy 0, 9, .inl (fun _ => 0))), (q3q, .inl (cy 0, 9, .inl (fun _ => 0))), (q4q, .inl (cy 0, 9, .inl (fun _ => 0))), (q5q, .inl (cy 0, 9, .inl (fun _ => 0))), (q6q, .inl (cy 0, 9, .inl (fun _ => 0))), (q7q, .inl (cy 0, 9, .inl (fun _ => 0))), (q8q, .inl (cy 0, 9, .inl (fun _ => 0))), (q9q, .inl (cy 0, 9, .inl (fun _ => 0))), (q10q, .inl (cy 0, 9, .inl (fun _ => 0)))] H := hP
  have hD : va_D A [(h0, .inr (4, [.ref q1q, .ref q2q, .ref q3q, .ref q4q, .ref q5q, .ref q6q, .ref q7q, .ref q8q, .ref q9q, .null, .null, .null, .int 0, .int 0, .int 0, .int 0, .int 0])), (q1q, .inl (cy 0, 9, .inl (fun _ => 0))), (q2q, .inl (cy 0, 9, .inl (fun _ => 0))), (q3q, .inl (cy 0, 9, .inl (fun _ => 0))), (q4q, .inl (cy 0, 9, .inl (fun _ => 0))), (q5q, .inl (cy 0, 9, .inl (fun _ => 0))), (q6q, .inl (cy 0, 9, .inl (fun _ => 0))), (q7q, .inl (cy 0, 9, .inl (fun _ => 0))), (q8q, .inl (cy 0, 9, .inl (fun _ => 0))), (q9q, .inl (cy 0, 9, .inl (fun _ => 0))), (q10q, .inl (cy 0, 9, .inl (fun _ => 0)))] := hD
  refine va_putF (D := D) (ci := 4) (v := .ref q10q) (ty := (.array .int)) (C := RX2) (T := TX2) (N := 17) hx hb hts kin_RX2 tyX2 tyX2_ok nmX2 hown hG.1 hP hD hS 0 rfl rfl 9 (by decide) (hts _ wm_106) (fun _ h9 => h9) rfl hnm rfl (by decide +kernel) rfl rfl (Nat.le_of_ble_eq_true rfl) dX2_init_81 (fun H locs hP hD hS => ?_)
  have hP : va_P D vwCl [(h0, .inr (4, [.ref q1q, .ref q2q, .ref q3q, .ref q4q, .ref q5q, .ref q6q, .ref q7q, .ref q8q, .ref q9q, .ref q10q, .null, .null, .int 0, .int 0, .int 0, .int 0, .int 0])), (q1q, .inl (cy 0, 9, .inl (fun _ => 0))), (q2q, .inl (cy 0, 9, .inl (fun _ => 0))), (q3q, .inl (cy 0, 9, .inl (fun _ => 0))), (q4q, .inl (cy 0, 9, .inl (fun _ => 0))), (q5q, .inl (cy 0, 9, .inl (fun _ => 0))), (q6q, .inl (cy 0, 9, .inl (fun _ => 0))), (q7q, .inl (cy 0, 9, .inl (fun _ => 0))), (q8q, .inl (cy 0, 9, .inl (fun _ => 0))), (q9q, .inl (cy 0, 9, .inl (fun _ => 0))), (q10q, .inl (cy 0, 9, .inl (fun _ => 0)))] H := hP
  have hD : va_D A [(h0, .inr (4, [.ref q1q, .ref q2q, .ref q3q, .ref q4q, .ref q5q, .ref q6q, .ref q7q, .ref q8q, .ref q9q, .ref q10q, .null, .null, .int 0, .int 0, .int 0, .int 0, .int 0])), (q1q, .inl (cy 0, 9, .inl (fun _ => 0))), (q2q, .inl (cy 0, 9, .inl (fun _ => 0))), (q3q, .inl (cy 0, 9, .inl (fun _ => 0))), (q4q, .inl (cy 0, 9, .inl (fun _ => 0))), (q5q, .inl (cy 0, 9, .inl (fun _ => 0))), (q6q, .inl (cy 0, 9, .inl (fun _ => 0))), (q7q, .inl (cy 0, 9, .inl (fun _ => 0))), (q8q, .inl (cy 0, 9, .inl (fun _ => 0))), (q9q, .inl (cy 0, 9, .inl (fun _ => 0))), (q10q, .inl (cy 0, 9, .inl (fun _ => 0)))] := hD
  refine lv_aload_n hx hb dX2_init_84 rfl (lv_at hl 0 rfl) ?_
  refine lv_bipush (v := 9) hx hb dX2_init_85 (by decide) ?_
  refine k_newa 0 (atype := .int) hx hb (hts _ wm_68) rfl rfl hG.1 hP hD hS hA (a0 := (9, .inl (fun _ => 0))) trivial (fun _ => rfl) (by decide) (by decide) (by decide) (Nat.le_of_ble_eq_true rfl) (Nat.le_of_ble_eq_true rfl) dX2_init_87 (fun q11q H hP hD hS => ?_)
  have hP : va_P D vwCl [(h0, .inr (4, [.ref q1q, .ref q2q, .ref q3q, .ref q4q, .ref q5q, .ref q6q, .ref q7q, .ref q8q, .ref q9q, .ref q10q, .null, .null, .int 0, .int 0, .int 0, .int 0, .int 0])), (q1q, .inl (cy 0, 9, .inl (fun _ => 0))), (q2q, .inl (cy 0, 9, .inl (fun _ => 0))), (q3q, .inl (cy 0, 9, .inl (fun _ => 0))), (q4q, .inl (cy 0, 9, .inl (fun _ => 0))), (q5q, .inl (cy 0, 9, .inl (fun _ => 0))), (q6q, .inl (cy 0, 9, .inl (fun _ => 0))), (q7q, .inl (cy 0, 9, .inl (fun _ => 0))), (q8q, .inl (cy 0, 9, .inl (fun _ => 0))), (q9q, .inl (cy 0, 9, .inl (fun _ => 0))), (q10q, .inl (cy 0, 9, .inl (fun _ => 0))), (q11q, .inl (cy 0, 9, .inl (fun _ => 0)))] H := hP
  have hD : va_D A [(h0, .inr (4, [.ref q1q, .ref q2q, .ref q3q, .ref q4q, .ref q5q, .ref q6q, .ref q7q, .ref q8q, .ref q9q, .ref q10q, .null, .null, .int 0, .int 0, .int 0, .int 0, .int 0])), (q1q, .inl (cy 0, 9, .inl (fun _ => 0))), (q2q, .inl (cy 0, 9, .inl (fun _ => 0))), (q3q, .inl (cy 0, 9, .inl (fun _ => 0))), (q4q, .inl (cy 0, 9, .inl (fun _ => 0))), (q5q, .inl (cy 0, 9, .inl (fun _ => 0))), (q6q, .inl (cy 0, 9, .inl (fun _ => 0))), (q7q, .inl (cy 0, 9, .inl (fun _ => 0))), (q8q, .inl (cy 0, 9, .inl (fun _ => 0))), (q9q, .inl (cy 0, 9, .inl (fun _ => 0))), (q10q, .inl (cy 0, 9, .inl (fun _ => 0))), (q11q, .inl (cy 0, 9, .inl (fun _ => 0)))] := hD
  refine va_putF (D := D) (ci := 4) (v := .ref q11q) (ty := (.array .int)) (C := RX2) (T := TX2) (N := 17) hx hb hts kin_RX2 tyX2 tyX2_ok nmX2 hown hG.1 hP hD hS 0 rfl rfl 10 (by decide) (hts _ wm_109) (fun _ h9 => h9) rfl hnm rfl (by decide +kernel) rfl rfl (Nat.le_of_ble_eq_true rfl) dX2_init_89 (fun H locs hP hD hS => ?_)
  have hP : va_P D vwCl [(h0, .inr (4, [.ref q1q, .ref q2q, .ref q3q, .ref q4q, .ref q5q, .ref q6q, .ref q7q, .ref q8q, .ref q9q, .ref q10q, .ref q11q, .null, .int 0, .int 0, .int 0, .int 0, .int 0])), (q1q, .inl (cy 0, 9, .inl (fun _ => 0))), (q2q, .inl (cy 0, 9, .inl (fun _ => 0))), (q3q, .inl (cy 0, 9, .inl (fun _ => 0))), (q4q, .inl (cy 0, 9, .inl (fun _ => 0))), (q5q, .inl (cy 0, 9, .inl (fun _ => 0))), (q6q, .inl (cy 0, 9, .inl (fun _ => 0))), (q7q, .inl (cy 0, 9, .inl (fun _ => 0))), (q8q, .inl (cy 0, 9, .inl (fun _ => 0))), (q9q, .inl (cy 0, 9, .inl (fun _ => 0))), (q10q, .inl (cy 0, 9, .inl (fun _ => 0))), (q11q, .inl (cy 0, 9, .inl (fun _ => 0)))] H := hP
  have hD : va_D A [(h0, .inr (4, [.ref q1q, .ref q2q, .ref q3q, .ref q4q, .ref q5q, .ref q6q, .ref q7q, .ref q8q, .ref q9q, .ref q10q, .ref q11q, .null, .int 0, .int 0, .int 0, .int 0, .int 0])), (q1q, .inl (cy 0, 9, .inl (fun _ => 0))), (q2q, .inl (cy 0, 9, .inl (fun _ => 0))), (q3q, .inl (cy 0, 9, .inl (fun _ => 0))), (q4q, .inl (cy 0, 9, .inl (fun _ => 0))), (q5q, .inl (cy 0, 9, .inl (fun _ => 0))), (q6q, .inl (cy 0, 9, .inl (fun _ => 0))), (q7q, .inl (cy 0, 9, .inl (fun _ => 0))), (q8q, .inl (cy 0, 9, .inl (fun _ => 0))), (q9q, .inl (cy 0, 9, .inl (fun _ => 0))), (q10q, .inl (cy 0, 9, .inl (fun _ => 0))), (q11q, .inl (cy 0, 9, .inl (fun _ => 0)))] := hD
  refine lv_aload_n hx hb dX2_init_92 rfl (lv_at hl 0 rfl) ?_
  refine lv_bipush (v := 9) hx hb dX2_init_93 (by decide) ?_
  refine k_newa 0 (atype := .int) hx hb (hts _ wm_68) rfl rfl hG.1 hP hD hS hA (a0 := (9, .inl (fun _ => 0))) trivial (fun _ => rfl) (by decide) (by decide) (by decide) (Nat.le_of_ble_eq_true rfl) (Nat.le_of_ble_eq_true rfl) dX2_init_95 (fun q12q H hP hD hS => ?_)
  have hP : va_P D vwCl [(h0, .inr (4, [.ref q1q, .ref q2q, .ref q3q, .ref q4q, .ref q5q, .ref q6q, .ref q7q, .ref q8q, .ref q9q, .ref q10q, .ref q11q, .null, .int 0, .int 0, .int 0, .int 0, .int 0])), (q1q, .inl (cy 0, 9, .inl (fun _ => 0))), (q2q, .inl (cy 0, 9, .inl (fun _ => 0))), (q3q, .inl (cy 0, 9, .inl (fun _ => 0))), (q4q, .inl (cy 0, 9, .inl (fun _ => 0))), (q5q, .inl (cy 0, 9, .inl (fun _ => 0))), (q6q, .inl (cy 0, 9, .inl (fun _ => 0))), (q7q, .inl (cy 0, 9, .inl (fun _ => 0))), (q8q, .inl (cy 0, 9, .inl (fun _ => 0))), (q9q, .inl (cy 0, 9, .inl (fun _ => 0))), (q10q, .inl (cy 0, 9, .inl (fun _ => 0))), (q11q, .inl (cy 0, 9, .inl (fun _ => 0))), (q12q, .inl (cy 0, 9, .inl (fun _ => 0)))] H := hP
  have hD : va_D A [(h0, .inr (4, [.ref q1q, .ref q2q, .ref q3q, .ref q4q, .ref q5q, .ref q6q, .ref q7q, .ref q8q, .ref q9q, .ref q10q, .ref q11q, .null, .int 0, .int 0, .int 0, .int 0, .int 0])), (q1q, .inl (cy 0, 9, .inl (fun _ => 0))), (q2q, .inl (cy 0, 9, .inl (fun _ => 0))), (q3q, .inl (cy 0, 9, .inl (fun _ => 0))), (q4q, .inl (cy 0, 9, .inl (fun _ => 0))), (q5q, .inl (cy 0, 9, .inl (fun _ => 0))), (q6q, .inl (cy 0, 9, .inl (fun _ => 0))), (q7q, .inl (cy 0, 9, .inl (fun _ => 0))), (q8q, .inl (cy 0, 9, .inl (fun _ => 0))), (q9q, .inl (cy 0, 9, .inl (fun _ => 0))), (q10q, .inl (cy 0, 9, .inl (fun _ => 0))), (q11q, .inl (cy 0, 9, .inl (fun _ => 0))), (q12q, .inl (cy 0, 9, .inl (fun _ => 0)))] := hD
  refine va_putF (D := D) (ci := 4) (v := .ref q12q) (ty := (.array .int)) (C := RX2) (T := TX2) (N := 17) hx hb hts kin_RX2 tyX2 tyX2_ok nmX2 hown hG.1 hP hD hS 0 rfl rfl 11 (by decide) (hts _ wm_113) (fun _ h9 => h9) rfl hnm rfl (by decide +kernel) rfl rfl (Nat.le_of_ble_eq_true rfl) dX2_init_97 (fun H locs hP hD hS => ?_)
  have hP : va_P D vwCl [(h0, .inr (4, [.ref q1q, .ref q2q, .ref q3q, .ref q4q, .ref q5q, .ref q6q, .ref q7q, .ref q8q, .ref q9q, .ref q10q, .ref q11q, .ref q12q, .int 0, .int 0, .int 0, .int 0, .int 0])), (q1q, .inl (cy 0, 9, .inl (fun _ => 0))), (q2q, .inl (cy 0, 9, .inl (fun _ => 0))), (q3q, .inl (cy 0, 9, .inl (fun _ => 0))), (q4q, .inl (cy 0, 9, .inl (fun _ => 0))), (q5q, .inl (cy 0, 9, .inl (fun _ => 0))), (q6q, .inl (cy 0, 9, .inl (fun _ => 0))), (q7q, .inl (cy 0, 9, .inl (fun _ => 0))), (q8q, .inl (cy 0, 9, .inl (fun _ => 0))), (q9q, .inl (cy 0, 9, .inl (fun _ => 0))), (q10q, .inl (cy 0, 9, .inl (fun _ => 0))), (q11q, .inl (cy 0, 9, .inl (fun _ => 0))), (q12q, .inl (cy 0, 9, .inl (fun _ => 0)))] H := hP
  have hD : va_D A [(h0, .inr (4, [.ref q1q, .ref q2q, .ref q3q, .ref q4q, .ref q5q, .ref q6q, .ref q7q, .ref q8q, .ref q9q, .ref q10q, .ref q11q, .ref q12q, .int 0, .int 0, .int 0, .int 0, .int 0])), (q1q, .inl (cy 0, 9, .inl (fun _ => 0))), (q2q, .inl (cy 0, 9, .inl (fun _ => 0))), (q3q, .inl (cy 0, 9, .inl (fun _ => 0))), (q4q, .inl (cy 0, 9, .inl (fun _ => 0))), (q5q, .inl (cy 0, 9, .inl (fun _ => 0))), (q6q, .inl (cy 0, 9, .inl (fun _ => 0))), (q7q, .inl (cy 0, 9, .inl (fun _ => 0))), (q8q, .inl (cy 0, 9, .inl (fun _ => 0))), (q9q, .inl (cy 0, 9, .inl (fun _ => 0))), (q10q, .inl (cy 0, 9, .inl (fun _ => 0))), (q11q, .inl (cy 0, 9, .inl (fun _ => 0))), (q12q, .inl (cy 0, 9, .inl (fun _ => 0)))] := hD
  refine lv_aload_n hx hb dX2_init_100 rfl (lv_at hl 0 rfl) ?_
  refine lv_iconst (v := 0) hx hb dX2_init_101 (by decide) ?_
  refine va_put (D := D) (ci := 4) (v := .int 0) (ty := .int) (C := RX2) (T := TX2) (N := 17) hx hb hts kin_RX2 tyX2 tyX2_ok nmX2 hown hG.1 hP hD hS 0 rfl rfl 12 (by decide) (hts _ wm_117) (fun _ h9 => h9) rfl (by decide +kernel) rfl rfl (Nat.le_of_ble_eq_true rfl) dX2_init_102 (fun H locs hP hD hS => ?_)
  have hP : va_P D vwCl [(h0, .inr (4, [.ref q1q, .ref q2q, .ref q3q, .ref q4q, .ref q5q, .ref q6q, .ref q7q, .ref q8q, .ref q9q, .ref q10q, .ref q11q, .ref q12q, .int 0, .int 0, .int 0, .int 0, .int 0])), (q1q, .inl (cy 0, 9, .inl (fun _ => 0))), (q2q, .inl (cy 0, 9, .inl (fun _ => 0))), (q3q, .inl (cy 0, 9, .inl (fun _ => 0))), (q4q, .inl (cy 0, 9, .inl (fun _ => 0))), (q5q, .inl (cy 0, 9, .inl (fun _ => 0))), (q6q, .inl (cy 0, 9, .inl (fun _ => 0))), (q7q, .inl (cy 0, 9, .inl (fun _ => 0))), (q8q, .inl (cy 0, 9, .inl (fun _ => 0))), (q9q, .inl (cy 0, 9, .inl (fun _ => 0))), (q10q, .inl (cy 0, 9, .inl (fun _ => 0))), (q11q, .inl (cy 0, 9, .inl (fun _ => 0))), (q12q, .inl (cy 0, 9, .inl (fun _ => 0)))] H := hP
  have hD : va_D A [(h0, .inr (4, [.ref q1q, .ref q2q, .ref q3q, .ref q4q, .ref q5q, .ref q6q, .ref q7q, .ref q8q, .ref q9q, .ref q10q, .ref q11q, .ref q12q, .int 0, .int 0, .int 0, .int 0, .int 0])), (q1q, .inl (cy 0, 9, .inl (fun _ => 0))), (q2q, .inl (cy 0, 9, .inl (fun _ => 0))), (q3q, .inl (cy 0, 9, .inl (fun _ => 0))), (q4q, .inl (cy 0, 9, .inl (fun _ => 0))), (q5q, .inl (cy 0, 9, .inl (fun _ => 0))), (q6q, .inl (cy 0, 9, .inl (fun _ => 0))), (q7q, .inl (cy 0, 9, .inl (fun _ => 0))), (q8q, .inl (cy 0, 9, .inl (fun _ => 0))), (q9q, .inl (cy 0, 9, .inl (fun _ => 0))), (q10q, .inl (cy 0, 9, .inl (fun _ => 0))), (q11q, .inl (cy 0, 9, .inl (fun _ => 0))), (q12q, .inl (cy 0, 9, .inl (fun _ => 0)))] := hD
  refine lv_aload_n hx hb dX2_init_105 rfl (lv_at hl 0 rfl) ?_
  refine lv_iconst (v := 0) hx hb dX2_init_106 (by decide) ?_
  refine va_put (D := D) (ci := 4) (v := .int 0) (ty := .int) (C := RX2) (T := TX2) (N := 17) hx hb hts kin_RX2 tyX2 tyX2_ok nmX2 hown hG.1 hP hD hS 0 rfl rfl 13 (by decide) (hts _ wm_124) (fun _ h9 => h9) rfl (by decide +kernel) rfl rfl (Nat.le_of_ble_eq_true rfl) dX2_init_107 (fun H locs hP hD hS => ?_)
  have hP : va_P D vwCl [(h0, .inr (4, [.ref q1q, .ref q2q, .ref q3q, .ref q4q, .ref q5q, .ref q6q, .ref q7q, .ref q8q, .ref q9q, .ref q10q, .ref q11q, .ref q12q, .int 0, .int 0, .int 0, .int 0, .int 0])), (q1q, .inl (cy 0, 9, .inl (fun _ => 0))), (q2q, .inl (cy 0, 9, .inl (fun _ => 0))), (q3q, .inl (cy 0, 9, .inl (fun _ => 0))), (q4q, .inl (cy 0, 9, .inl (fun _ => 0))), (q5q, .inl (cy 0, 9, .inl (fun _ => 0))), (q6q, .inl (cy 0, 9, .inl (fun _ => 0))), (q7q, .inl (cy 0, 9, .inl (fun _ => 0))), (q8q, .inl (cy 0, 9, .inl (fun _ => 0))), (q9q, .inl (cy 0, 9, .inl (fun _ => 0))), (q10q, .inl (cy 0, 9, .inl (fun _ => 0))), (q11q, .inl (cy 0, 9, .inl (fun _ => 0))), (q12q, .inl (cy 0, 9, .inl (fun _ => 0)))] H := hP
  have hD : va_D A [(h0, .inr (4, [.ref q1q, .ref q2q, .ref q3q, .ref q4q, .ref q5q, .ref q6q, .ref q7q, .ref q8q, .ref q9q, .ref q10q, .ref q11q, .ref q12q, .int 0, .int 0, .int 0, .int 0, .int 0])), (q1q, .inl (cy 0, 9, .inl (fun _ => 0))), (q2q, .inl (cy 0, 9, .inl (fun _ => 0))), (q3q, .inl (cy 0, 9, .inl (fun _ => 0))), (q4q, .inl (cy 0, 9, .inl (fun _ => 0))), (q5q, .inl (cy 0, 9, .inl (fun _ => 0))), (q6q, .inl (cy 0, 9, .inl (fun _ => 0))), (q7q, .inl (cy 0, 9, .inl (fun _ => 0))), (q8q, .inl (cy 0, 9, .inl (fun _ => 0))), (q9q, .inl (cy 0, 9, .inl (fun _ => 0))), (q10q, .inl (cy 0, 9, .inl (fun _ => 0))), (q11q, .inl (cy 0, 9, .inl (fun _ => 0))), (q12q, .inl (cy 0, 9, .inl (fun _ => 0)))] := hD
  refine lv_aload_n hx hb dX2_init_110 rfl (lv_at hl 0 rfl) ?_
  refine lv_iconst (v := 0) hx hb dX2_init_111 (by decide) ?_
  refine va_put (D := D) (ci := 4) (v := .int 0) (ty := .int) (C := RX2) (T := TX2) (N := 17) hx hb hts kin_RX2 tyX2 tyX2_ok nmX2 hown hG.1 hP hD hS 0 rfl rfl 14 (by decide) (hts _ wm_126) (fun _ h9 => h9) rfl (by decide +kernel) rfl rfl (Nat.le_of_ble_eq_true rfl) dX2_init_112 (fun H locs hP hD hS => ?_)
  have hP : va_P D vwCl [(h0, .inr (4, [.ref q1q, .ref q2q, .ref q3q, .ref q4q, .ref q5q, .ref q6q, .ref q7q, .ref q8q, .ref q9q, .ref q10q, .ref q11q, .ref q12q, .int 0, .int 0, .int 0, .int 0, .int 0])), (q1q, .inl (cy 0, 9, .inl (fun _ => 0))), (q2q, .inl (cy 0, 9, .inl (fun _ => 0))), (q3q, .inl (cy 0, 9, .inl (fun _ => 0))), (q4q, .inl (cy 0, 9, .inl (fun _ => 0))), (q5q, .inl (cy 0, 9, .inl (fun _ => 0))), (q6q, .inl (cy 0, 9, .inl (fun _ => 0))), (q7q, .inl (cy 0, 9, .inl (fun _ => 0))), (q8q, .inl (cy 0, 9, .inl (fun _ => 0))), (q9q, .inl (cy 0, 9, .inl (fun _ => 0))), (q10q, .inl (cy 0, 9, .inl (fun _ => 0))), (q11q, .inl (cy 0, 9, .inl (fun _ => 0))), (q12q, .inl (cy 0, 9, .inl (fun _ => 0)))] H := hP
  have hD : va_D A [(h0, .inr (4, [.ref q1q, .ref q2q, .ref q3q, .ref q4q, .ref q5q, .ref q6q, .ref q7q, .ref q8q, .ref q9q, .ref q10q, .ref q11q, .ref q12q, .int 0, .int 0, .int 0, .int 0, .int 0])), (q1q, .inl (cy 0, 9, .inl (fun _ => 0))), (q2q, .inl (cy 0, 9, .inl (fun _ => 0))), (q3q, .inl (cy 0, 9, .inl (fun _ => 0))), (q4q, .inl (cy 0, 9, .inl (fun _ => 0))), (q5q, .inl (cy 0, 9, .inl (fun _ => 0))), (q6q, .inl (cy 0, 9, .inl (fun _ => 0))), (q7q, .inl (cy 0, 9, .inl (fun _ => 0))), (q8q, .inl (cy 0, 9, .inl (fun _ => 0))), (q9q, .inl (cy 0, 9, .inl (fun _ => 0))), (q10q, .inl (cy 0, 9, .inl (fun _ => 0))), (q11q, .inl (cy 0, 9, .inl (fun _ => 0))), (q12q, .inl (cy 0, 9, .inl (fun _ => 0)))] := hD
  refine lv_aload_n hx hb dX2_init_115 rfl (lv_at hl 0 rfl) ?_
  refine lv_iconst (v := 0) hx hb dX2_init_116 (by decide) ?_
  refine va_put (D := D) (ci := 4) (v := .int 0) (ty := .int) (C := RX2) (T := TX2) (N := 17) hx hb hts kin_RX2 tyX2 tyX2_ok nmX2 hown hG.1 hP hD hS 0 rfl rfl 15 (by decide) (hts _ wm_129) (fun _ h9 => h9) rfl (by decide +kernel) rfl rfl (Nat.le_of_ble_eq_true rfl) dX2_init_117 (fun H locs hP hD hS => ?_)
  have hP : va_P D vwCl [(h0, .inr (4, [.ref q1q, .ref q2q, .ref q3q, .ref q4q, .ref q5q, .ref q6q, .ref q7q, .ref q8q, .ref q9q, .ref q10q, .ref q11q, .ref q12q, .int 0, .int 0, .int 0, .int 0, .int 0])), (q1q, .inl (cy 0, 9, .inl (fun _ => 0))), (q2q, .inl (cy 0, 9, .inl (fun _ => 0))), (q3q, .inl (cy 0, 9, .inl (fun _ => 0))), (q4q, .inl (cy 0, 9, .inl (fun _ => 0))), (q5q, .inl (cy 0, 9, .inl (fun _ => 0))), (q6q, .inl (cy 0, 9, .inl (fun _ => 0))), (q7q, .inl (cy 0, 9, .inl (fun _ => 0))), (q8q, .inl (cy 0, 9, .inl (fun _ => 0))), (q9q, .inl (cy 0, 9, .inl (fun _ => 0))), (q10q, .inl (cy 0, 9, .inl (fun _ => 0))), (q11q, .inl (cy 0, 9, .inl (fun _ => 0))), (q12q, .inl (cy 0, 9, .inl (fun _ => 0)))] H := hP
  have hD : va_D A [(h0, .inr (4, [.ref q1q, .ref q2q, .ref q3q, .ref q4q, .ref q5q, .ref q6q, .ref q7q, .ref q8q, .ref q9q, .ref q10q, .ref q11q, .ref q12q, .int 0, .int 0, .int 0, .int 0, .int 0])), (q1q, .inl (cy 0, 9, .inl (fun _ => 0))), (q2q, .inl (cy 0, 9, .inl (fun _ => 0))), (q3q, .inl (cy 0, 9, .inl (fun _ => 0))), (q4q, .inl (cy 0, 9, .inl (fun _ => 0))), (q5q, .inl (cy 0, 9, .inl (fun _ => 0))), (q6q, .inl (cy 0, 9, .inl (fun _ => 0))), (q7q, .inl (cy 0, 9, .inl (fun _ => 0))), (q8q, .inl (cy 0, 9, .inl (fun _ => 0))), (q9q, .inl (cy 0, 9, .inl (fun _ => 0))), (q10q, .inl (cy 0, 9, .inl (fun _ => 0))), (q11q, .inl (cy 0, 9, .inl (fun _ => 0))), (q12q, .inl (cy 0, 9, .inl (fun _ => 0)))] := hD
  refine lv_aload_n hx hb dX2_init_120 rfl (lv_at hl 0 rfl) ?_
  refine lv_iconst (v := 0) hx hb dX2_init_121 (by decide) ?_
  refine va_put (D := D) (ci := 4) (v := .int 0) (ty := .int) (C := RX2) (T := TX2) (N := 17) hx hb hts kin_RX2 tyX2 tyX2_ok nmX2 hown hG.1 hP hD hS 0 rfl rfl 16 (by decide) (hts _ wm_132) (fun _ h9 => h9) rfl (by decide +kernel) rfl rfl (Nat.le_of_ble_eq_true rfl) dX2_init_122 (fun H locs hP hD hS => ?_)
  have hP : va_P D vwCl [(h0, .inr (4, [.ref q1q, .ref q2q, .ref q3q, .ref q4q, .ref q5q, .ref q6q, .ref q7q, .ref q8q, .ref q9q, .ref q10q, .ref q11q, .ref q12q, .int 0, .int 0, .int 0, .int 0, .int 0])), (q1q, .inl (cy 0, 9, .inl (fun _ => 0))), (q2q, .inl (cy 0, 9, .inl (fun _ => 0))), (q3q, .inl (cy 0, 9, .inl (fun _ => 0))), (q4q, .inl (cy 0, 9, .inl (fun _ => 0))), (q5q, .inl (cy 0, 9, .inl (fun _ => 0))), (q6q, .inl (cy 0, 9, .inl (fun _ => 0))), (q7q, .inl (cy 0, 9, .inl (fun _ => 0))), (q8q, .inl (cy 0, 9, .inl (fun _ => 0))), (q9q, .inl (cy 0, 9, .inl (fun _ => 0))), (q10q, .inl (cy 0, 9, .inl (fun _ => 0))), (q11q, .inl (cy 0, 9, .inl (fun _ => 0))), (q12q, .inl (cy 0, 9, .inl (fun _ => 0)))] H := hP
  have hD : va_D A [(h0, .inr (4, [.ref q1q, .ref q2q, .ref q3q, .ref q4q, .ref q5q, .ref q6q, .ref q7q, .ref q8q, .ref q9q, .ref q10q, .ref q11q, .ref q12q, .int 0, .int 0, .int 0, .int 0, .int 0])), (q1q, .inl (cy 0, 9, .inl (fun _ => 0))), (q2q, .inl (cy 0, 9, .inl (fun _ => 0))), (q3q, .inl (cy 0, 9, .inl (fun _ => 0))), (q4q, .inl (cy 0, 9, .inl (fun _ => 0))), (q5q, .inl (cy 0, 9, .inl (fun _ => 0))), (q6q, .inl (cy 0, 9, .inl (fun _ => 0))), (q7q, .inl (cy 0, 9, .inl (fun _ => 0))), (q8q, .inl (cy 0, 9, .inl (fun _ => 0))), (q9q, .inl (cy 0, 9, .inl (fun _ => 0))), (q10q, .inl (cy 0, 9, .inl (fun _ => 0))), (q11q, .inl (cy 0, 9, .inl (fun _ => 0))), (q12q, .inl (cy 0, 9, .inl (fun _ => 0)))] := hD
  exact k_vret (fun k => [q1q, q2q, q3q, q4q, q5q, q6q, q7q, q8q, q9q, q10q, q11q, q12q].getD k 0) hx hb hr hlk (trivial) (hP.sub [0, 1, 2, 3, 4, 5, 6, 7, 8, 9, 10, 11, 12] rfl) (hD.sub [0, 1, 2, 3, 4, 5, 6, 7, 8, 9, 10, 11, 12] (by decide) rfl) hS (by decide) (by decide) dX2_init_125

set_option maxHeartbeats 4000000 in
set_option maxRecDepth 100000 in
/-- LentMinds$Plan(): a new one -/
theorem c_Plan_init (l : Launch) (hl0 : l.stackTraces = false) (D : va_G) (cy : Nat → ClassId) (sa : Nat → Nat) (h0 : Nat) (sz : Nat) : Met l yX6_init (Cond.code yX6_init cX6_init 1 none :: kWS) ({ frames := 11, cells := 5, slots := 78, locals := 360 }) (kPre D cy sa [.ref h0] [(h0, .inr (8, [.null, .null, .int 0, .null, .null, .int 0, .null]))] sz) (va_Qv (fun (_ : Nat → Nat) => True) (kB D (va_A [(h0, .inr (8, [.null, .null, .int 0, .null, .null, .int 0, .null]))] sz) (fun u => [(h0, .inr (8, [.ref (u 0), .ref (u 1), .int 0, .ref (u 2), .ref (u 3), .int 0, .ref (u 4)])), ((u 0), .inl (cy 0, 30, .inl (fun _ => 0))), ((u 1), .inl (cy 0, 30, .inl (fun _ => 0))), ((u 2), .inl (cy 0, 6, .inl (fun _ => 0))), ((u 3), .inl (cy 0, 6, .inl (fun _ => 0))), ((u 4), .inl (cy 0, 6, .inl (fun _ => 0)))])) (va_A [(h0, .inr (8, [.null, .null, .int 0, .null, .null, .int 0, .null]))] sz)) 5 78 (va_A [(h0, .inr (8, [.null, .null, .int 0, .null, .null, .int 0, .null]))] sz) := by
  refine k_ofW (Qc := fun A => va_Qv (fun (_ : Nat → Nat) => True) (kB D A (fun u => [(h0, .inr (8, [.ref (u 0), .ref (u 1), .int 0, .ref (u 2), .ref (u 3), .int 0, .ref (u 4)])), ((u 0), .inl (cy 0, 30, .inl (fun _ => 0))), ((u 1), .inl (cy 0, 30, .inl (fun _ => 0))), ((u 2), .inl (cy 0, 6, .inl (fun _ => 0))), ((u 3), .inl (cy 0, 6, .inl (fun _ => 0))), ((u 4), .inl (cy 0, 6, .inl (fun _ => 0)))])) A) (by decide) (Nat.le_of_ble_eq_true rfl) ?_
  intro p e s m below meth c ls A E hA hP hD hG hS hl
  obtain ⟨hx, hb, hml, hown, hts, hr, hlk, hnm⟩ := id E
  have hown : s.vm.findClass RX6 = some m.cls := hown
  have hl : lv_has ls 1 [(0, .ref h0)] := hl
  obtain ⟨H, hH⟩ : ∃ H, H = s.heap := ⟨_, rfl⟩
  have hP : va_P D vwCl [(h0, .inr (8, [.null, .null, .int 0, .null, .null, .int 0, .null]))] H := by rw [hH]; exact hP
  have hS : va_S A s.heap H [] := by rw [hH]; exact va_S.rf
  rw [← hH]
  clear hH
  refine lv_aload_n hx hb dX6_init_0 rfl (lv_at hl 0 rfl) ?_
  refine W.objInit hx hb hown (hts _ wm_235) (hts _ wm_39) (hts _ wm_40) rfl (by rw [hml]; exact hl.1) rfl dX6_init_1 (Nat.le_of_ble_eq_true rfl) (Nat.le_of_ble_eq_true rfl) ?_
  refine W.eq (g2 := F0 m 4 ls []) rfl ?_
  refine lv_aload_n hx hb dX6_init_4 rfl (lv_at hl 0 rfl) ?_
  refine lv_bipush (v := 30) hx hb dX6_init_5 (by decide) ?_
  refine k_newa 0 (atype := .int) hx hb (hts _ wm_68) rfl rfl hG.1 hP hD hS hA (a0 := (30, .inl (fun _ => 0))) trivial (fun _ => rfl) (by decide) (by decide) (by decide) (Nat.le_of_ble_eq_true rfl) (Nat.le_of_ble_eq_true rfl) dX6_init_7 (fun q1q H hP hD hS => ?_)
  have hP : va_P D vwCl [(h0, .inr (8, [.null, .null, .int 0, .null, .null, .int 0, .null])), (q1q, .inl (cy 0, 30, .inl (fun _ => 0)))] H := hP
  have hD : va_D A [(h0, .inr (8, [.null, .null, .int 0, .null, .null, .int 0, .null])), (q1q, .inl (cy 0, 30, .inl (fun _ => 0)))] := hD
  refine va_putF (D := D) (ci := 8) (v := .ref q1q) (ty := (.array .int)) (C := RX6) (T := TX6) (N := 7) hx hb hts kin_RX6 tyX6 tyX6_ok nmX6 hown hG.1 hP hD hS 0 rfl rfl 0 (by decide) (hts _ wm_236) (fun _ h9 => h9) rfl hnm rfl (by decide +kernel) rfl rfl (Nat.le_of_ble_eq_true rfl) dX6_init_9 (fun H locs hP hD hS => ?_)
  have hP : va_P D vwCl [(h0, .inr (8, [.ref q1q, .null, .int 0, .null, .null, .int 0, .null])), (q1q, .inl (cy 0, 30, .inl (fun _ => 0)))] H := hP
  have hD : va_D A [(h0, .inr (8, [.ref q1q, .null, .int 0, .null, .null, .int 0, .null])), (q1q, .inl (cy 0, 30, .inl (fun _ => 0)))] := hD
  refine lv_aload_n hx hb dX6_init_12 rfl (lv_at hl 0 rfl) ?_
  refine lv_bipush (v := 30) hx hb dX6_init_13 (by decide) ?_
  refine k_newa 0 (atype := .int) hx hb (hts _ wm_68) rfl rfl hG.1 hP hD hS hA (a0 := (30, .inl (fun _ => 0))) trivial (fun _ => rfl) (by decide) (by decide) (by decide) (Nat.le_of_ble_eq_true rfl) (Nat.le_of_ble_eq_true rfl) dX6_init_15 (fun q2q H hP hD hS => ?_)
  have hP : va_P D vwCl [(h0, .inr (8, [.ref q1q, .null, .int 0, .null, .null, .int 0, .null])), (q1q, .inl (cy 0, 30, .inl (fun _ => 0))), (q2q, .inl (cy 0, 30, .inl (fun _ => 0)))] H := hP
  have hD : va_D A [(h0, .inr (8, [.ref q1q, .null, .int 0, .null, .null, .int 0, .null])), (q1q, .inl (cy 0, 30, .inl (fun _ => 0))), (q2q, .inl (cy 0, 30, .inl (fun _ => 0)))] := hD
  refine va_putF (D := D) (ci := 8) (v := .ref q2q) (ty := (.array .int)) (C := RX6) (T := TX6) (N := 7) hx hb hts kin_RX6 tyX6 tyX6_ok nmX6 hown hG.1 hP hD hS 0 rfl rfl 1 (by decide) (hts _ wm_238) (fun _ h9 => h9) rfl hnm rfl (by decide +kernel) rfl rfl (Nat.le_of_ble_eq_true rfl) dX6_init_17 (fun H locs hP hD hS => ?_)
  have hP : va_P D vwCl [(h0, .inr (8, [.ref q1q, .ref q2q, .int 0, .null, .null, .int 0, .null])), (q1q, .inl (cy 0, 30, .inl (fun _ => 0))), (q2q, .inl (cy 0, 30, .inl (fun _ => 0)))] H := hP
  have hD : va_D A [(h0, .inr (8, [.ref q1q, .ref q2q, .int 0, .null, .null, .int 0, .null])), (q1q, .inl (cy 0, 30, .inl (fun _ => 0))), (q2q, .inl (cy 0, 30, .inl (fun _ => 0)))] := hD
  refine lv_aload_n hx hb dX6_init_20 rfl (lv_at hl 0 rfl) ?_
  refine lv_iconst (v := 0) hx hb dX6_init_21 (by decide) ?_
  refine va_put (D := D) (ci := 8) (v := .int 0) (ty := .int) (C := RX6) (T := TX6) (N := 7) hx hb hts kin_RX6 tyX6 tyX6_ok nmX6 hown hG.1 hP hD hS 0 rfl rfl 2 (by decide) (hts _ wm_240) (fun _ h9 => h9) rfl (by decide +kernel) rfl rfl (Nat.le_of_ble_eq_true rfl) dX6_init_22 (fun H locs hP hD hS => ?_)
  have hP : va_P D vwCl [(h0, .inr (8, [.ref q1q, .ref q2q, .int 0, .null, .null, .int 0, .null])), (q1q, .inl (cy 0, 30, .inl (fun _ => 0))), (q2q, .inl (cy 0, 30, .inl (fun _ => 0)))] H := hP
  have hD : va_D A [(h0, .inr (8, [.ref q1q, .ref q2q, .int 0, .null, .null, .int 0, .null])), (q1q, .inl (cy 0, 30, .inl (fun _ => 0))), (q2q, .inl (cy 0, 30, .inl (fun _ => 0)))] := hD
  refine lv_aload_n hx hb dX6_init_25 rfl (lv_at hl 0 rfl) ?_
  refine lv_bipush (v := 6) hx hb dX6_init_26 (by decide) ?_
  refine k_newa 0 (atype := .int) hx hb (hts _ wm_68) rfl rfl hG.1 hP hD hS hA (a0 := (6, .inl (fun _ => 0))) trivial (fun _ => rfl) (by decide) (by decide) (by decide) (Nat.le_of_ble_eq_true rfl) (Nat.le_of_ble_eq_true rfl) dX6_init_28 (fun q3q H hP hD hS => ?_)
  have hP : va_P D vwCl [(h0, .inr (8, [.ref q1q, .ref q2q, .int 0, .null, .null, .int 0, .null])), (q1q, .inl (cy 0, 30, .inl (fun _ => 0))), (q2q, .inl (cy 0, 30, .inl (fun _ => 0))), (q3q, .inl (cy 0, 6, .inl (fun _ => 0)))] H := hP
  have hD : va_D A [(h0, .inr (8, [.ref q1q, .ref q2q, .int 0, .null, .null, .int 0, .null])), (q1q, .inl (cy 0, 30, .inl (fun _ => 0))), (q2q, .inl (cy 0, 30, .inl (fun _ => 0))), (q3q, .inl (cy 0, 6, .inl (fun _ => 0)))] := hD
  refine va_putF (D := D) (ci := 8) (v := .ref q3q) (ty := (.array .int)) (C := RX6) (T := TX6) (N := 7) hx hb hts kin_RX6 tyX6 tyX6_ok nmX6 hown hG.1 hP hD hS 0 rfl rfl 3 (by decide) (hts _ wm_243) (fun _ h9 => h9) rfl hnm rfl (by decide +kernel) rfl rfl (Nat.le_of_ble_eq_true rfl) dX6_init_30 (fun H locs hP hD hS => ?_)
  have hP : va_P D vwCl [(h0, .inr (8, [.ref q1q, .ref q2q, .int 0, .ref q3q, .null, .int 0, .null])), (q1q, .inl (cy 0, 30, .inl (fun _ => 0))), (q2q, .inl (cy 0, 30, .inl (fun _ => 0))), (q3q, .inl (cy 0, 6, .inl (fun _ => 0)))] H := hP
  have hD : va_D A [(h0, .inr (8, [.ref q1q, .ref q2q, .int 0, .ref q3q, .null, .int 0, .null])), (q1q, .inl (cy 0, 30, .inl (fun _ => 0))), (q2q, .inl (cy 0, 30, .inl (fun _ => 0))), (q3q, .inl (cy 0, 6, .inl (fun _ => 0)))] := hD
  refine lv_aload_n hx hb dX6_init_33 rfl (lv_at hl 0 rfl) ?_
  refine lv_bipush (v := 6) hx hb dX6_init_34 (by decide) ?_
  refine k_newa 0 (atype := .int) hx hb (hts _ wm_68) rfl rfl hG.1 hP hD hS hA (a0 := (6, .inl (fun _ => 0))) trivial (fun _ => rfl) (by decide) (by decide) (by decide) (Nat.le_of_ble_eq_true rfl) (Nat.le_of_ble_eq_true rfl) dX6_init_36 (fun q4q H hP hD hS => ?_)
  have hP : va_P D vwCl [(h0, .inr (8, [.ref q1q, .ref q2q, .int 0, .ref q3q, .null, .int 0, .null])), (q1q, .inl (cy 0, 30, .inl (fun _ => 0))), (q2q, .inl (cy 0, 30, .inl (fun _ => 0))), (q3q, .inl (cy 0, 6, .inl (fun _ => 0))), (q4q, .inl (cy 0, 6, .inl (fun _ => 0)))] H := hP
  have hD : va_D A [(h0, .inr (8, [.ref q1q, .ref q2q, .int 0, .ref q3q, .null, .int 0, .null])), (q1q, .inl (cy 0, 30, .inl (fun _ => 0))), (q2q, .inl (cy 0, 30, .inl (fun _ => 0))), (q3q, .inl (cy 0, 6, .inl (fun _ => 0))), (q4q, .inl (cy 0, 6, .inl (fun _ => 0)))] := hD
  refine va_putF (D := D) (ci := 8) (v := .ref q4q) (ty := (.array .int)) (C := RX6) (T := TX6) (N := 7) hx hb hts kin_RX6 tyX6 tyX6_ok nmX6 hown hG.1 hP hD hS 0 rfl rfl 4 (by decide) (hts _ wm_244) (fun _ h9 => h9) rfl hnm rfl (by decide +kernel) rfl rfl (Nat.le_of_ble_eq_true rfl) dX6_init_38 (fun H locs hP hD hS => ?_)
  have hP : va_P D vwCl [(h0, .inr (8, [.ref q1q, .ref q2q, .int 0, .ref q3q, .ref q4q, .int 0, .null])), (q1q, .inl (cy 0, 30, .inl (fun _ => 0))), (q2q, .inl (cy 0, 30, .inl (fun _ => 0))), (q3q, .inl (cy 0, 6, .inl (fun _ => 0))), (q4q, .inl (cy 0, 6, .inl (fun _ => 0)))] H := hP
  have hD : va_D A [(h0, .inr (8, [.ref q1q, .ref q2q, .int 0, .ref q3q, .ref q4q, .int 0, .null])), (q1q, .inl (cy 0, 30, .inl (fun _ => 0))), (q2q, .inl (cy 0, 30, .inl (fun _ => 0))), (q3q, .inl (cy 0, 6, .inl (fun _ => 0))), (q4q, .inl (cy 0, 6, .inl (fun _ => 0)))] := hD
  refine lv_aload_n hx hb dX6_init_41 rfl (lv_at hl 0 rfl) ?_
  refine lv_iconst (v := 0) hx hb dX6_init_42 (by decide) ?_
  refine va_put (D := D) (ci := 8) (v := .int 0) (ty := .int) (C := RX6) (T := TX6) (N := 7) hx hb hts kin_RX6 tyX6 tyX6_ok nmX6 hown hG.1 hP hD hS 0 rfl rfl 5 (by decide) (hts _ wm_245) (fun _ h9 => h9) rfl (by decide +kernel) rfl rfl (Nat.le_of_ble_eq_true rfl) dX6_init_43 (fun H locs hP hD hS => ?_)
  have hP : va_P D vwCl [(h0, .inr (8, [.ref q1q, .ref q2q, .int 0, .ref q3q, .ref q4q, .int 0, .null])), (q1q, .inl (cy 0, 30, .inl (fun _ => 0))), (q2q, .inl (cy 0, 30, .inl (fun _ => 0))), (q3q, .inl (cy 0, 6, .inl (fun _ => 0))), (q4q, .inl (cy 0, 6, .inl (fun _ => 0)))] H := hP
  have hD : va_D A [(h0, .inr (8, [.ref q1q, .ref q2q, .int 0, .ref q3q, .ref q4q, .int 0, .null])), (q1q, .inl (cy 0, 30, .inl (fun _ => 0))), (q2q, .inl (cy 0, 30, .inl (fun _ => 0))), (q3q, .inl (cy 0, 6, .inl (fun _ => 0))), (q4q, .inl (cy 0, 6, .inl (fun _ => 0)))] := hD
  refine lv_aload_n hx hb dX6_init_46 rfl (lv_at hl 0 rfl) ?_
  refine lv_bipush (v := 6) hx hb dX6_init_47 (by decide) ?_
  refine k_newa 0 (atype := .int) hx hb (hts _ wm_68) rfl rfl hG.1 hP hD hS hA (a0 := (6, .inl (fun _ => 0))) trivial (fun _ => rfl) (by decide) (by decide) (by decide) (Nat.le_of_ble_eq_true rfl) (Nat.le_of_ble_eq_true rfl) dX6_init_49 (fun q5q H hP hD hS => ?_)
  have hP : va_P D vwCl [(h0, .inr (8, [.ref q1q, .ref q2q, .int 0, .ref q3q, .ref q4q, .int 0, .null])), (q1q, .inl (cy 0, 30, .inl (fun _ => 0))), (q2q, .inl (cy 0, 30, .inl (fun _ => 0))), (q3q, .inl (cy 0, 6, .inl (fun _ => 0))), (q4q, .inl (cy 0, 6, .inl (fun _ => 0))), (q5q, .inl (cy 0, 6, .inl (fun _ => 0)))] H := hP
  have hD : va_D A [(h0, .inr (8, [.ref q1q, .ref q2q, .int 0, .ref q3q, .ref q4q, .int 0, .null])), (q1q, .inl (cy 0, 30, .inl (fun _ => 0))), (q2q, .inl (cy 0, 30, .inl (fun _ => 0))), (q3q, .inl (cy 0, 6, .inl (fun _ => 0))), (q4q, .inl (cy 0, 6, .inl (fun _ => 0))), (q5q, .inl (cy 0, 6, .inl (fun _ => 0)))] := hD
  refine va_putF (D := D) (ci := 8) (v := .ref q5q) (ty := (.array .int)) (C := RX6) (T := TX6) (N := 7) hx hb hts kin_RX6 tyX6 tyX6_ok nmX6 hown hG.1 hP hD hS 0 rfl rfl 6 (by decide) (hts _ wm_247) (fun _ h9 => h9) rfl hnm rfl (by decide +kernel) rfl rfl (Nat.le_of_ble_eq_true rfl) dX6_init_51 (fun H locs hP hD hS => ?_)
  have hP : va_P D vwCl [(h0, .inr (8, [.ref q1q, .ref q2q, .int 0, .ref q3q, .ref q4q, .int 0, .ref q5q])), (q1q, .inl (cy 0, 30, .inl (fun _ => 0))), (q2q, .inl (cy 0, 30, .inl (fun _ => 0))), (q3q, .inl (cy 0, 6, .inl (fun _ => 0))), (q4q, .inl (cy 0, 6, .inl (fun _ => 0))), (q5q, .inl (cy 0, 6, .inl (fun _ => 0)))] H := hP
  have hD : va_D A [(h0, .inr (8, [.ref q1q, .ref q2q, .int 0, .ref q3q, .ref q4q, .int 0, .ref q5q])), (q1q, .inl (cy 0, 30, .inl (fun _ => 0))), (q2q, .inl (cy 0, 30, .inl (fun _ => 0))), (q3q, .inl (cy 0, 6, .inl (fun _ => 0))), (q4q, .inl (cy 0, 6, .inl (fun _ => 0))), (q5q, .inl (cy 0, 6, .inl (fun _ => 0)))] := hD
  exact k_vret (fun k => [q1q, q2q, q3q, q4q, q5q].getD k 0) hx hb hr hlk (trivial) (hP.sub [0, 1, 2, 3, 4, 5] rfl) (hD.sub [0, 1, 2, 3, 4, 5] (by decide) rfl) hS (by decide) (by decide) dX6_init_54

set_option maxHeartbeats 4000000 in
set_option maxRecDepth 100000 in
/-- LentMinds$Reader(): a new one -/
theorem c_Reader_init (l : Launch) (hl0 : l.stackTraces = false) (D : va_G) (cy : Nat → ClassId) (sa : Nat → Nat) (h0 : Nat) (sz : Nat) : Met l yX7_init (Cond.code yX7_init cX7_init 1 none :: kWS) ({ frames := 11, cells := 2, slots := 6, locals := 360 }) (kPre D cy sa [.ref h0] [(h0, .inr (9, [.null, .null, .int 0, .int 0, .int 0, .int 0]))] sz) (va_Qv (fun (_ : Nat → Nat) => True) (kB D (va_A [(h0, .inr (9, [.null, .null, .int 0, .int 0, .int 0, .int 0]))] sz) (fun u => [(h0, .inr (9, [.ref (u 0), .ref (u 1), .int 0, .int 0, .int 0, .int (-1)])), ((u 0), .inl (cy 0, 6, .inl (fun _ => 0))), ((u 1), .inl (cy 1, 0, .inl (fun _ => 0)))])) (va_A [(h0, .inr (9, [.null, .null, .int 0, .int 0, .int 0, .int 0]))] sz)) 2 6 (va_A [(h0, .inr (9, [.null, .null, .int 0, .int 0, .int 0, .int 0]))] sz) := by
  refine k_ofW (Qc := fun A => va_Qv (fun (_ : Nat → Nat) => True) (kB D A (fun u => [(h0, .inr (9, [.ref (u 0), .ref (u 1), .int 0, .int 0, .int 0, .int (-1)])), ((u 0), .inl (cy 0, 6, .inl (fun _ => 0))), ((u 1), .inl (cy 1, 0, .inl (fun _ => 0)))])) A) (by decide) (Nat.le_of_ble_eq_true rfl) ?_
  intro p e s m below meth c ls A E hA hP hD hG hS hl
  obtain ⟨hx, hb, hml, hown, hts, hr, hlk, hnm⟩ := id E
  have hown : s.vm.findClass RX7 = some m.cls := hown
  have hl : lv_has ls 1 [(0, .ref h0)] := hl
  obtain ⟨H, hH⟩ : ∃ H, H = s.heap := ⟨_, rfl⟩
  have hP : va_P D vwCl [(h0, .inr (9, [.null, .null, .int 0, .int 0, .int 0, .int 0]))] H := by rw [hH]; exact hP
  have hS : va_S A s.heap H [] := by rw [hH]; exact va_S.rf
  rw [← hH]
  clear hH
  refine lv_aload_n hx hb dX7_init_0 rfl (lv_at hl 0 rfl) ?_
  refine W.objInit hx hb hown (hts _ wm_46) (hts _ wm_39) (hts _ wm_40) rfl (by rw [hml]; exact hl.1) rfl dX7_init_1 (Nat.le_of_ble_eq_true rfl) (Nat.le_of_ble_eq_true rfl) ?_
  refine W.eq (g2 := F0 m 4 ls []) rfl ?_
  refine lv_aload_n hx hb dX7_init_4 rfl (lv_at hl 0 rfl) ?_
  refine lv_bipush (v := 6) hx hb dX7_init_5 (by decide) ?_
  refine k_newa 0 (atype := .int) hx hb (hts _ wm_68) rfl rfl hG.1 hP hD hS hA (a0 := (6, .inl (fun _ => 0))) trivial (fun _ => rfl) (by decide) (by decide) (by decide) (Nat.le_of_ble_eq_true rfl) (Nat.le_of_ble_eq_true rfl) dX7_init_7 (fun q1q H hP hD hS => ?_)
  have hP : va_P D vwCl [(h0, .inr (9, [.null, .null, .int 0, .int 0, .int 0, .int 0])), (q1q, .inl (cy 0, 6, .inl (fun _ => 0)))] H := hP
  have hD : va_D A [(h0, .inr (9, [.null, .null, .int 0, .int 0, .int 0, .int 0])), (q1q, .inl (cy 0, 6, .inl (fun _ => 0)))] := hD
  refine va_putF (D := D) (ci := 9) (v := .ref q1q) (ty := (.array .int)) (C := RX7) (T := TX7) (N := 6) hx hb hts kin_RX7 tyX7 tyX7_ok nmX7 hown hG.1 hP hD hS 0 rfl rfl 0 (by decide) (hts _ wm_47) (fun _ h9 => h9) rfl hnm rfl (by decide +kernel) rfl rfl (Nat.le_of_ble_eq_true rfl) dX7_init_9 (fun H locs hP hD hS => ?_)
  have hP : va_P D vwCl [(h0, .inr (9, [.ref q1q, .null, .int 0, .int 0, .int 0, .int 0])), (q1q, .inl (cy 0, 6, .inl (fun _ => 0)))] H := hP
  have hD : va_D A [(h0, .inr (9, [.ref q1q, .null, .int 0, .int 0, .int 0, .int 0])), (q1q, .inl (cy 0, 6, .inl (fun _ => 0)))] := hD
  refine lv_aload_n hx hb dX7_init_12 rfl (lv_at hl 0 rfl) ?_
  refine lv_iconst (v := 0) hx hb dX7_init_13 (by decide) ?_
  refine k_newa 1 (atype := .byte) hx hb (hts _ wm_67) rfl rfl hG.1 hP hD hS hA (a0 := (0, .inl (fun _ => 0))) trivial (fun _ => rfl) (by decide) (by decide) (by decide) (Nat.le_of_ble_eq_true rfl) (Nat.le_of_ble_eq_true rfl) dX7_init_14 (fun q2q H hP hD hS => ?_)
  have hP : va_P D vwCl [(h0, .inr (9, [.ref q1q, .null, .int 0, .int 0, .int 0, .int 0])), (q1q, .inl (cy 0, 6, .inl (fun _ => 0))), (q2q, .inl (cy 1, 0, .inl (fun _ => 0)))] H := hP
  have hD : va_D A [(h0, .inr (9, [.ref q1q, .null, .int 0, .int 0, .int 0, .int 0])), (q1q, .inl (cy 0, 6, .inl (fun _ => 0))), (q2q, .inl (cy 1, 0, .inl (fun _ => 0)))] := hD
  refine va_put (D := D) (ci := 9) (v := .ref q2q) (ty := (.array .byte)) (C := RX7) (T := TX7) (N := 6) hx hb hts kin_RX7 tyX7 tyX7_ok nmX7 hown hG.1 hP hD hS 0 rfl rfl 1 (by decide) (hts _ wm_48) (fun _ h9 => h9) rfl (by decide +kernel) rfl rfl (Nat.le_of_ble_eq_true rfl) dX7_init_16 (fun H locs hP hD hS => ?_)
  have hP : va_P D vwCl [(h0, .inr (9, [.ref q1q, .ref q2q, .int 0, .int 0, .int 0, .int 0])), (q1q, .inl (cy 0, 6, .inl (fun _ => 0))), (q2q, .inl (cy 1, 0, .inl (fun _ => 0)))] H := hP
  have hD : va_D A [(h0, .inr (9, [.ref q1q, .ref q2q, .int 0, .int 0, .int 0, .int 0])), (q1q, .inl (cy 0, 6, .inl (fun _ => 0))), (q2q, .inl (cy 1, 0, .inl (fun _ => 0)))] := hD
  refine lv_aload_n hx hb dX7_init_19 rfl (lv_at hl 0 rfl) ?_
  refine lv_iconst (v := 0) hx hb dX7_init_20 (by decide) ?_
  refine va_put (D := D) (ci := 9) (v := .int 0) (ty := .int) (C := RX7) (T := TX7) (N := 6) hx hb hts kin_RX7 tyX7 tyX7_ok nmX7 hown hG.1 hP hD hS 0 rfl rfl 2 (by decide) (hts _ wm_49) (fun _ h9 => h9) rfl (by decide +kernel) rfl rfl (Nat.le_of_ble_eq_true rfl) dX7_init_21 (fun H locs hP hD hS => ?_)
  have hP : va_P D vwCl [(h0, .inr (9, [.ref q1q, .ref q2q, .int 0, .int 0, .int 0, .int 0])), (q1q, .inl (cy 0, 6, .inl (fun _ => 0))), (q2q, .inl (cy 1, 0, .inl (fun _ => 0)))] H := hP
  have hD : va_D A [(h0, .inr (9, [.ref q1q, .ref q2q, .int 0, .int 0, .int 0, .int 0])), (q1q, .inl (cy 0, 6, .inl (fun _ => 0))), (q2q, .inl (cy 1, 0, .inl (fun _ => 0)))] := hD
  refine lv_aload_n hx hb dX7_init_24 rfl (lv_at hl 0 rfl) ?_
  refine lv_iconst (v := 0) hx hb dX7_init_25 (by decide) ?_
  refine va_put (D := D) (ci := 9) (v := .int 0) (ty := .int) (C := RX7) (T := TX7) (N := 6) hx hb hts kin_RX7 tyX7 tyX7_ok nmX7 hown hG.1 hP hD hS 0 rfl rfl 3 (by decide) (hts _ wm_50) (fun _ h9 => h9) rfl (by decide +kernel) rfl rfl (Nat.le_of_ble_eq_true rfl) dX7_init_26 (fun H locs hP hD hS => ?_)
  have hP : va_P D vwCl [(h0, .inr (9, [.ref q1q, .ref q2q, .int 0, .int 0, .int 0, .int 0])), (q1q, .inl (cy 0, 6, .inl (fun _ => 0))), (q2q, .inl (cy 1, 0, .inl (fun _ => 0)))] H := hP
  have hD : va_D A [(h0, .inr (9, [.ref q1q, .ref q2q, .int 0, .int 0, .int 0, .int 0])), (q1q, .inl (cy 0, 6, .inl (fun _ => 0))), (q2q, .inl (cy 1, 0, .inl (fun _ => 0)))] := hD
  refine lv_aload_n hx hb dX7_init_29 rfl (lv_at hl 0 rfl) ?_
  refine lv_iconst (v := 0) hx hb dX7_init_30 (by decide) ?_
  refine va_put (D := D) (ci := 9) (v := .int 0) (ty := .int) (C := RX7) (T := TX7) (N := 6) hx hb hts kin_RX7 tyX7 tyX7_ok nmX7 hown hG.1 hP hD hS 0 rfl rfl 4 (by decide) (hts _ wm_51) (fun _ h9 => h9) rfl (by decide +kernel) rfl rfl (Nat.le_of_ble_eq_true rfl) dX7_init_31 (fun H locs hP hD hS => ?_)
  have hP : va_P D vwCl [(h0, .inr (9, [.ref q1q, .ref q2q, .int 0, .int 0, .int 0, .int 0])), (q1q, .inl (cy 0, 6, .inl (fun _ => 0))), (q2q, .inl (cy 1, 0, .inl (fun _ => 0)))] H := hP
  have hD : va_D A [(h0, .inr (9, [.ref q1q, .ref q2q, .int 0, .int 0, .int 0, .int 0])), (q1q, .inl (cy 0, 6, .inl (fun _ => 0))), (q2q, .inl (cy 1, 0, .inl (fun _ => 0)))] := hD
  refine lv_aload_n hx hb dX7_init_34 rfl (lv_at hl 0 rfl) ?_
  refine lv_iconst (v := (-1)) hx hb dX7_init_35 (by decide) ?_
  refine va_put (D := D) (ci := 9) (v := .int (-1)) (ty := .int) (C := RX7) (T := TX7) (N := 6) hx hb hts kin_RX7 tyX7 tyX7_ok nmX7 hown hG.1 hP hD hS 0 rfl rfl 5 (by decide) (hts _ wm_52) (fun _ h9 => h9) rfl (by decide +kernel) rfl rfl (Nat.le_of_ble_eq_true rfl) dX7_init_36 (fun H locs hP hD hS => ?_)
  have hP : va_P D vwCl [(h0, .inr (9, [.ref q1q, .ref q2q, .int 0, .int 0, .int 0, .int (-1)])), (q1q, .inl (cy 0, 6, .inl (fun _ => 0))), (q2q, .inl (cy 1, 0, .inl (fun _ => 0)))] H := hP
  have hD : va_D A [(h0, .inr (9, [.ref q1q, .ref q2q, .int 0, .int 0, .int 0, .int (-1)])), (q1q, .inl (cy 0, 6, .inl (fun _ => 0))), (q2q, .inl (cy 1, 0, .inl (fun _ => 0)))] := hD
  exact k_vret (fun k => [q1q, q2q].getD k 0) hx hb hr hlk (trivial) (hP.sub [0, 1, 2] rfl) (hD.sub [0, 1, 2] (by decide) rfl) hS (by decide) (by decide) dX7_init_39

set_option maxHeartbeats 4000000 in
set_option maxRecDepth 100000 in
/-- LentMinds$Few(): a new one -/
theorem c_Few_init (l : Launch) (hl0 : l.stackTraces = false) (D : va_G) (cy : Nat → ClassId) (sa : Nat → Nat) (h0 : Nat) (sz : Nat) : Met l yX1_init (Cond.code yX1_init cX1_init 1 none :: kWS) ({ frames := 11, cells := 4, slots := 28, locals := 360 }) (kPre D cy sa [.ref h0] [(h0, .inr (3, [.null, .null, .null, .null, .int 0]))] sz) (va_Qv (fun (_ : Nat → Nat) => True) (kB D (va_A [(h0, .inr (3, [.null, .null, .null, .null, .int 0]))] sz) (fun u => [(h0, .inr (3, [.ref (u 0), .ref (u 1), .ref (u 2), .ref (u 3), .int 0])), ((u 0), .inl (cy 0, 4, .inl (fun _ => 0))), ((u 1), .inl (cy 0, 4, .inl (fun _ => 0))), ((u 2), .inl (cy 0, 4, .inl (fun _ => 0))), ((u 3), .inl (cy 0, 16, .inl (fun _ => 0)))])) (va_A [(h0, .inr (3, [.null, .null, .null, .null, .int 0]))] sz)) 4 28 (va_A [(h0, .inr (3, [.null, .null, .null, .null, .int 0]))] sz) := by
  refine k_ofW (Qc := fun A => va_Qv (fun (_ : Nat → Nat) => True) (kB D A (fun u => [(h0, .inr (3, [.ref (u 0), .ref (u 1), .ref (u 2), .ref (u 3), .int 0])), ((u 0), .inl (cy 0, 4, .inl (fun _ => 0))), ((u 1), .inl (cy 0, 4, .inl (fun _ => 0))), ((u 2), .inl (cy 0, 4, .inl (fun _ => 0))), ((u 3), .inl (cy 0, 16, .inl (fun _ => 0)))])) A) (by decide) (Nat.le_of_ble_eq_true rfl) ?_
  intro p e s m below meth c ls A E hA hP hD hG hS hl
  obtain ⟨hx, hb, hml, hown, hts, hr, hlk, hnm⟩ := id E
  have hown : s.vm.findClass RX1 = some m.cls := hown
  have hl : lv_has ls 1 [(0, .ref h0)] := hl
  obtain ⟨H, hH⟩ : ∃ H, H = s.heap := ⟨_, rfl⟩
  have hP : va_P D vwCl [(h0, .inr (3, [.null, .null, .null, .null, .int 0]))] H := by rw [hH]; exact hP
  have hS : va_S A s.heap H [] := by rw [hH]; exact va_S.rf
  rw [← hH]
  clear hH
  refine lv_aload_n hx hb dX1_init_0 rfl (lv_at hl 0 rfl) ?_
  refine W.objInit hx hb hown (hts _ wm_334) (hts _ wm_39) (hts _ wm_40) rfl (by rw [hml]; exact hl.1) rfl dX1_init_1 (Nat.le_of_ble_eq_true rfl) (Nat.le_of_ble_eq_true rfl) ?_
  refine W.eq (g2 := F0 m 4 ls []) rfl ?_
  refine lv_aload_n hx hb dX1_init_4 rfl (lv_at hl 0 rfl) ?_
  refine lv_iconst (v := 4) hx hb dX1_init_5 (by decide) ?_
  refine k_newa 0 (atype := .int) hx hb (hts _ wm_68) rfl rfl hG.1 hP hD hS hA (a0 := (4, .inl (fun _ => 0))) trivial (fun _ => rfl) (by decide) (by decide) (by decide) (Nat.le_of_ble_eq_true rfl) (Nat.le_of_ble_eq_true rfl) dX1_init_6 (fun q1q H hP hD hS => ?_)
  have hP : va_P D vwCl [(h0, .inr (3, [.null, .null, .null, .null, .int 0])), (q1q, .inl (cy 0, 4, .inl (fun _ => 0)))] H := hP
  have hD : va_D A [(h0, .inr (3, [.null, .null, .null, .null, .int 0])), (q1q, .inl (cy 0, 4, .inl (fun _ => 0)))] := hD
  refine va_putF (D := D) (ci := 3) (v := .ref q1q) (ty := (.array .int)) (C := RX1) (T := TX1) (N := 5) hx hb hts kin_RX1 tyX1 tyX1_ok nmX1 hown hG.1 hP hD hS 0 rfl rfl 0 (by decide) (hts _ wm_335) (fun _ h9 => h9) rfl hnm rfl (by decide +kernel) rfl rfl (Nat.le_of_ble_eq_true rfl) dX1_init_8 (fun H locs hP hD hS => ?_)
  have hP : va_P D vwCl [(h0, .inr (3, [.ref q1q, .null, .null, .null, .int 0])), (q1q, .inl (cy 0, 4, .inl (fun _ => 0)))] H := hP
  have hD : va_D A [(h0, .inr (3, [.ref q1q, .null, .null, .null, .int 0])), (q1q, .inl (cy 0, 4, .inl (fun _ => 0)))] := hD
  refine lv_aload_n hx hb dX1_init_11 rfl (lv_at hl 0 rfl) ?_
  refine lv_iconst (v := 4) hx hb dX1_init_12 (by decide) ?_
  refine k_newa 0 (atype := .int) hx hb (hts _ wm_68) rfl rfl hG.1 hP hD hS hA (a0 := (4, .inl (fun _ => 0))) trivial (fun _ => rfl) (by decide) (by decide) (by decide) (Nat.le_of_ble_eq_true rfl) (Nat.le_of_ble_eq_true rfl) dX1_init_13 (fun q2q H hP hD hS => ?_)
  have hP : va_P D vwCl [(h0, .inr (3, [.ref q1q, .null, .null, .null, .int 0])), (q1q, .inl (cy 0, 4, .inl (fun _ => 0))), (q2q, .inl (cy 0, 4, .inl (fun _ => 0)))] H := hP
  have hD : va_D A [(h0, .inr (3, [.ref q1q, .null, .null, .null, .int 0])), (q1q, .inl (cy 0, 4, .inl (fun _ => 0))), (q2q, .inl (cy 0, 4, .inl (fun _ => 0)))] := hD
  refine va_putF (D := D) (ci := 3) (v := .ref q2q) (ty := (.array .int)) (C := RX1) (T := TX1) (N := 5) hx hb hts kin_RX1 tyX1 tyX1_ok nmX1 hown hG.1 hP hD hS 0 rfl rfl 1 (by decide) (hts _ wm_338) (fun _ h9 => h9) rfl hnm rfl (by decide +kernel) rfl rfl (Nat.le_of_ble_eq_true rfl) dX1_init_15 (fun H locs hP hD hS => ?_)
  have hP : va_P D vwCl [(h0, .inr (3, [.ref q1q, .ref q2q, .null, .null, .int 0])), (q1q, .inl (cy 0, 4, .inl (fun _ => 0))), (q2q, .inl (cy 0, 4, .inl (fun _ => 0)))] H := hP
  have hD : va_D A [(h0, .inr (3, [.ref q1q, .ref q2q, .null, .null, .int 0])), (q1q, .inl (cy 0, 4, .inl (fun _ => 0))), (q2q, .inl (cy 0, 4, .inl (fun _ => 0)))] := hD
  refine lv_aload_n hx hb dX1_init_18 rfl (lv_at hl 0 rfl) ?_
  refine lv_iconst (v := 4) hx hb dX1_init_19 (by decide) ?_
  refine k_newa 0 (atype := .int) hx hb (hts _ wm_68) rfl rfl hG.1 hP hD hS hA (a0 := (4, .inl (fun _ => 0))) trivial (fun _ => rfl) (by decide) (by decide) (by decide) (Nat.le_of_ble_eq_true rfl) (Nat.le_of_ble_eq_true rfl) dX1_init_20 (fun q3q H hP hD hS => ?_)
  have hP : va_P D vwCl [(h0, .inr (3, [.ref q1q, .ref q2q, .null, .null, .int 0])), (q1q, .inl (cy 0, 4, .inl (fun _ => 0))), (q2q, .inl (cy 0, 4, .inl (fun _ => 0))), (q3q, .inl (cy 0, 4, .inl (fun _ => 0)))] H := hP
  have hD : va_D A [(h0, .inr (3, [.ref q1q, .ref q2q, .null, .null, .int 0])), (q1q, .inl (cy 0, 4, .inl (fun _ => 0))), (q2q, .inl (cy 0, 4, .inl (fun _ => 0))), (q3q, .inl (cy 0, 4, .inl (fun _ => 0)))] := hD
  refine va_putF (D := D) (ci := 3) (v := .ref q3q) (ty := (.array .int)) (C := RX1) (T := TX1) (N := 5) hx hb hts kin_RX1 tyX1 tyX1_ok nmX1 hown hG.1 hP hD hS 0 rfl rfl 2 (by decide) (hts _ wm_342) (fun _ h9 => h9) rfl hnm rfl (by decide +kernel) rfl rfl (Nat.le_of_ble_eq_true rfl) dX1_init_22 (fun H locs hP hD hS => ?_)
  have hP : va_P D vwCl [(h0, .inr (3, [.ref q1q, .ref q2q, .ref q3q, .null, .int 0])), (q1q, .inl (cy 0, 4, .inl (fun _ => 0))), (q2q, .inl (cy 0, 4, .inl (fun _ => 0))), (q3q, .inl (cy 0, 4, .inl (fun _ => 0)))] H := hP
  have hD : va_D A [(h0, .inr (3, [.ref q1q, .ref q2q, .ref q3q, .null, .int 0])), (q1q, .inl (cy 0, 4, .inl (fun _ => 0))), (q2q, .inl (cy 0, 4, .inl (fun _ => 0))), (q3q, .inl (cy 0, 4, .inl (fun _ => 0)))] := hD
  refine lv_aload_n hx hb dX1_init_25 rfl (lv_at hl 0 rfl) ?_
  refine lv_bipush (v := 16) hx hb dX1_init_26 (by decide) ?_
  refine k_newa 0 (atype := .int) hx hb (hts _ wm_68) rfl rfl hG.1 hP hD hS hA (a0 := (16, .inl (fun _ => 0))) trivial (fun _ => rfl) (by decide) (by decide) (by decide) (Nat.le_of_ble_eq_true rfl) (Nat.le_of_ble_eq_true rfl) dX1_init_28 (fun q4q H hP hD hS => ?_)
  have hP : va_P D vwCl [(h0, .inr (3, [.ref q1q, .ref q2q, .ref q3q, .null, .int 0])), (q1q, .inl (cy 0, 4, .inl (fun _ => 0))), (q2q, .inl (cy 0, 4, .inl (fun _ => 0))), (q3q, .inl (cy 0, 4, .inl (fun _ => 0))), (q4q, .inl (cy 0, 16, .inl (fun _ => 0)))] H := hP
  have hD : va_D A [(h0, .inr (3, [.ref q1q, .ref q2q, .ref q3q, .null, .int 0])), (q1q, .inl (cy 0, 4, .inl (fun _ => 0))), (q2q, .inl (cy 0, 4, .inl (fun _ => 0))), (q3q, .inl (cy 0, 4, .inl (fun _ => 0))), (q4q, .inl (cy 0, 16, .inl (fun _ => 0)))] := hD
  refine va_putF (D := D) (ci := 3) (v := .ref q4q) (ty := (.array .int)) (C := RX1) (T := TX1) (N := 5) hx hb hts kin_RX1 tyX1 tyX1_ok nmX1 hown hG.1 hP hD hS 0 rfl rfl 3 (by decide) (hts _ wm_344) (fun _ h9 => h9) rfl hnm rfl (by decide +kernel) rfl rfl (Nat.le_of_ble_eq_true rfl) dX1_init_30 (fun H locs hP hD hS => ?_)
  have hP : va_P D vwCl [(h0, .inr (3, [.ref q1q, .ref q2q, .ref q3q, .ref q4q, .int 0])), (q1q, .inl (cy 0, 4, .inl (fun _ => 0))), (q2q, .inl (cy 0, 4, .inl (fun _ => 0))), (q3q, .inl (cy 0, 4, .inl (fun _ => 0))), (q4q, .inl (cy 0, 16, .inl (fun _ => 0)))] H := hP
  have hD : va_D A [(h0, .inr (3, [.ref q1q, .ref q2q, .ref q3q, .ref q4q, .int 0])), (q1q, .inl (cy 0, 4, .inl (fun _ => 0))), (q2q, .inl (cy 0, 4, .inl (fun _ => 0))), (q3q, .inl (cy 0, 4, .inl (fun _ => 0))), (q4q, .inl (cy 0, 16, .inl (fun _ => 0)))] := hD
  refine lv_aload_n hx hb dX1_init_33 rfl (lv_at hl 0 rfl) ?_
  refine lv_iconst (v := 0) hx hb dX1_init_34 (by decide) ?_
  refine va_put (D := D) (ci := 3) (v := .int 0) (ty := .int) (C := RX1) (T := TX1) (N := 5) hx hb hts kin_RX1 tyX1 tyX1_ok nmX1 hown hG.1 hP hD hS 0 rfl rfl 4 (by decide) (hts _ wm_345) (fun _ h9 => h9) rfl (by decide +kernel) rfl rfl (Nat.le_of_ble_eq_true rfl) dX1_init_35 (fun H locs hP hD hS => ?_)
  have hP : va_P D vwCl [(h0, .inr (3, [.ref q1q, .ref q2q, .ref q3q, .ref q4q, .int 0])), (q1q, .inl (cy 0, 4, .inl (fun _ => 0))), (q2q, .inl (cy 0, 4, .inl (fun _ => 0))), (q3q, .inl (cy 0, 4, .inl (fun _ => 0))), (q4q, .inl (cy 0, 16, .inl (fun _ => 0)))] H := hP
  have hD : va_D A [(h0, .inr (3, [.ref q1q, .ref q2q, .ref q3q, .ref q4q, .int 0])), (q1q, .inl (cy 0, 4, .inl (fun _ => 0))), (q2q, .inl (cy 0, 4, .inl (fun _ => 0))), (q3q, .inl (cy 0, 4, .inl (fun _ => 0))), (q4q, .inl (cy 0, 16, .inl (fun _ => 0)))] := hD
  exact k_vret (fun k => [q1q, q2q, q3q, q4q].getD k 0) hx hb hr hlk (trivial) (hP.sub [0, 1, 2, 3, 4] rfl) (hD.sub [0, 1, 2, 3, 4] (by decide) rfl) hS (by decide) (by decide) dX1_init_38

set_option maxHeartbeats 4000000 in
set_option maxRecDepth 100000 in
/-- LentMinds$Trial(): a new one -/
theorem c_Trial_init (l : Launch) (hl0 : l.stackTraces = false) (D : va_G) (cy : Nat → ClassId) (sa : Nat → Nat) (h0 : Nat) (sz : Nat) : Met l yX8_init (Cond.code yX8_init cX8_init 1 none :: kWS) ({ frames := 12, cells := 3, slots := 28, locals := 420 }) (kPre D cy sa [.ref h0] [(h0, .inr (10, [.null, .int 0, .int 0]))] sz) (va_Qv (fun (_ : Nat → Nat) => True) (kB D (va_A [(h0, .inr (10, [.null, .int 0, .int 0]))] sz) (fun u => [(h0, .inr (10, [.ref (u 0), .int 0, .int 0])), ((u 0), .inr (7, [.ref (u 1), .ref (u 2), .int 0, .int 0, .int 0, .int 0, .int 0, .int 0, .int 0, .int 0])), ((u 1), .inl (cy 0, 9, .inl (fun _ => 0))), ((u 2), .inl (cy 0, 9, .inl (fun _ => 0)))])) (va_A [(h0, .inr (10, [.null, .int 0, .int 0]))] sz)) 3 28 (va_A [(h0, .inr (10, [.null, .int 0, .int 0]))] sz) := by
  refine k_ofW (Qc := fun A => va_Qv (fun (_ : Nat → Nat) => True) (kB D A (fun u => [(h0, .inr (10, [.ref (u 0), .int 0, .int 0])), ((u 0), .inr (7, [.ref (u 1), .ref (u 2), .int 0, .int 0, .int 0, .int 0, .int 0, .int 0, .int 0, .int 0])), ((u 1), .inl (cy 0, 9, .inl (fun _ => 0))), ((u 2), .inl (cy 0, 9, .inl (fun _ => 0)))])) A) (by decide) (Nat.le_of_ble_eq_true rfl) ?_
  intro p e s m below meth c ls A E hA hP hD hG hS hl
  obtain ⟨hx, hb, hml, hown, hts, hr, hlk, hnm⟩ := id E
  have hown : s.vm.findClass RX8 = some m.cls := hown
  have hl : lv_has ls 1 [(0, .ref h0)] := hl
  obtain ⟨H, hH⟩ : ∃ H, H = s.heap := ⟨_, rfl⟩
  have hP : va_P D vwCl [(h0, .inr (10, [.null, .int 0, .int 0]))] H := by rw [hH]; exact hP
  have hS : va_S A s.heap H [] := by rw [hH]; exact va_S.rf
  rw [← hH]
  clear hH
  refine lv_aload_n hx hb dX8_init_0 rfl (lv_at hl 0 rfl) ?_
  refine W.objInit hx hb hown (hts _ wm_270) (hts _ wm_39) (hts _ wm_40) rfl (by rw [hml]; exact hl.1) rfl dX8_init_1 (Nat.le_of_ble_eq_true rfl) (Nat.le_of_ble_eq_true rfl) ?_
  refine W.eq (g2 := F0 m 4 ls []) rfl ?_
  refine lv_aload_n hx hb dX8_init_4 rfl (lv_at hl 0 rfl) ?_
  refine va_new (ci := 7) (fs := [.null, .null, .int 0, .int 0, .int 0, .int 0, .int 0, .int 0, .int 0, .int 0]) (C := RX5) (T := TX5) (N := 10) hx hb hts kin_RX5 tyX5 tyX5_ok hown (hts _ wm_271) (hts _ wm_174) (hts _ wm_4) hG.1 hP hD hS hA rfl (k_fs_RX5) (Nat.le_of_ble_eq_true rfl) (Nat.le_of_ble_eq_true rfl) dX8_init_5 (fun q1q H hP hD hS => ?_)
  have hP : va_P D vwCl [(h0, .inr (10, [.null, .int 0, .int 0])), (q1q, .inr (7, [.null, .null, .int 0, .int 0, .int 0, .int 0, .int 0, .int 0, .int 0, .int 0]))] H := hP
  have hD : va_D A [(h0, .inr (10, [.null, .int 0, .int 0])), (q1q, .inr (7, [.null, .null, .int 0, .int 0, .int 0, .int 0, .int 0, .int 0, .int 0, .int 0]))] := hD
  refine lv_dup hx hb dX8_init_8 rfl ?_
  refine k_calv [0] (⟨hP, hD, hG, hS, hA, rfl, rfl⟩ : kAt D cy sa A s H _ _ [(q1q, .inr (7, [.null, .null, .int 0, .int 0, .int 0, .int 0, .int 0, .int 0, .int 0, .int 0]))] [1]) (wr := [(h0, .inr (10, [.null, .int 0, .int 0]))]) rfl rfl (by decide) (k_runN (As := []) (rest := [.ref q1q, .ref h0]) E lk_NRX8_11 (c_Moment_init l hl0 D cy sa q1q H.size) (⟨hP, hD, hG, hS, hA, rfl, rfl⟩ : kAt D cy sa A s H _ _ [(q1q, .inr (7, [.null, .null, .int 0, .int 0, .int 0, .int 0, .int 0, .int 0, .int 0, .int 0]))] [1]) hl.1 rfl rfl ⟨rfl, rfl, ⟨Nat.le_of_ble_eq_true rfl, Nat.le_of_ble_eq_true rfl⟩, ⟨Nat.le_of_ble_eq_true rfl, Nat.le_of_ble_eq_true rfl⟩, Nat.le_of_ble_eq_true rfl⟩ dX8_init_9) (fun u3q H locs hwu3q hP hD hS => ?_)
  have hP : va_P D vwCl [(h0, .inr (10, [.null, .int 0, .int 0])), (q1q, .inr (7, [.ref (u3q 0), .ref (u3q 1), .int 0, .int 0, .int 0, .int 0, .int 0, .int 0, .int 0, .int 0])), ((u3q 0), .inl (cy 0, 9, .inl (fun _ => 0))), ((u3q 1), .inl (cy 0, 9, .inl (fun _ => 0)))] H := hP
  have hD : va_D A [(h0, .inr (10, [.null, .int 0, .int 0])), (q1q, .inr (7, [.ref (u3q 0), .ref (u3q 1), .int 0, .int 0, .int 0, .int 0, .int 0, .int 0, .int 0, .int 0])), ((u3q 0), .inl (cy 0, 9, .inl (fun _ => 0))), ((u3q 1), .inl (cy 0, 9, .inl (fun _ => 0)))] := hD
  refine va_putF (D := D) (ci := 10) (v := .ref q1q) (ty := (.object "LentMinds$Moment")) (C := RX8) (T := TX8) (N := 3) hx hb hts kin_RX8 tyX8 tyX8_ok nmX8 hown hG.1 hP hD hS 0 rfl rfl 0 (by decide) (hts _ wm_273) (fun _ h9 => h9) rfl hnm rfl (by decide +kernel) rfl rfl (Nat.le_of_ble_eq_true rfl) dX8_init_12 (fun H locs hP hD hS => ?_)
  have hP : va_P D vwCl [(h0, .inr (10, [.ref q1q, .int 0, .int 0])), (q1q, .inr (7, [.ref (u3q 0), .ref (u3q 1), .int 0, .int 0, .int 0, .int 0, .int 0, .int 0, .int 0, .int 0])), ((u3q 0), .inl (cy 0, 9, .inl (fun _ => 0))), ((u3q 1), .inl (cy 0, 9, .inl (fun _ => 0)))] H := hP
  have hD : va_D A [(h0, .inr (10, [.ref q1q, .int 0, .int 0])), (q1q, .inr (7, [.ref (u3q 0), .ref (u3q 1), .int 0, .int 0, .int 0, .int 0, .int 0, .int 0, .int 0, .int 0])), ((u3q 0), .inl (cy 0, 9, .inl (fun _ => 0))), ((u3q 1), .inl (cy 0, 9, .inl (fun _ => 0)))] := hD
  refine lv_aload_n hx hb dX8_init_15 rfl (lv_at hl 0 rfl) ?_
  refine lv_iconst (v := 0) hx hb dX8_init_16 (by decide) ?_
  refine va_put (D := D) (ci := 10) (v := .int 0) (ty := .int) (C := RX8) (T := TX8) (N := 3) hx hb hts kin_RX8 tyX8 tyX8_ok nmX8 hown hG.1 hP hD hS 0 rfl rfl 1 (by decide) (hts _ wm_275) (fun _ h9 => h9) rfl (by decide +kernel) rfl rfl (Nat.le_of_ble_eq_true rfl) dX8_init_17 (fun H locs hP hD hS => ?_)
  have hP : va_P D vwCl [(h0, .inr (10, [.ref q1q, .int 0, .int 0])), (q1q, .inr (7, [.ref (u3q 0), .ref (u3q 1), .int 0, .int 0, .int 0, .int 0, .int 0, .int 0, .int 0, .int 0])), ((u3q 0), .inl (cy 0, 9, .inl (fun _ => 0))), ((u3q 1), .inl (cy 0, 9, .inl (fun _ => 0)))] H := hP
  have hD : va_D A [(h0, .inr (10, [.ref q1q, .int 0, .int 0])), (q1q, .inr (7, [.ref (u3q 0), .ref (u3q 1), .int 0, .int 0, .int 0, .int 0, .int 0, .int 0, .int 0, .int 0])), ((u3q 0), .inl (cy 0, 9, .inl (fun _ => 0))), ((u3q 1), .inl (cy 0, 9, .inl (fun _ => 0)))] := hD
  refine lv_aload_n hx hb dX8_init_20 rfl (lv_at hl 0 rfl) ?_
  refine lv_iconst (v := 0) hx hb dX8_init_21 (by decide) ?_
  refine va_put (D := D) (ci := 10) (v := .int 0) (ty := .int) (C := RX8) (T := TX8) (N := 3) hx hb hts kin_RX8 tyX8 tyX8_ok nmX8 hown hG.1 hP hD hS 0 rfl rfl 2 (by decide) (hts _ wm_276) (fun _ h9 => h9) rfl (by decide +kernel) rfl rfl (Nat.le_of_ble_eq_true rfl) dX8_init_22 (fun H locs hP hD hS => ?_)
  have hP : va_P D vwCl [(h0, .inr (10, [.ref q1q, .int 0, .int 0])), (q1q, .inr (7, [.ref (u3q 0), .ref (u3q 1), .int 0, .int 0, .int 0, .int 0, .int 0, .int 0, .int 0, .int 0])), ((u3q 0), .inl (cy 0, 9, .inl (fun _ => 0))), ((u3q 1), .inl (cy 0, 9, .inl (fun _ => 0)))] H := hP
  have hD : va_D A [(h0, .inr (10, [.ref q1q, .int 0, .int 0])), (q1q, .inr (7, [.ref (u3q 0), .ref (u3q 1), .int 0, .int 0, .int 0, .int 0, .int 0, .int 0, .int 0, .int 0])), ((u3q 0), .inl (cy 0, 9, .inl (fun _ => 0))), ((u3q 1), .inl (cy 0, 9, .inl (fun _ => 0)))] := hD
  exact k_vret (fun k => [q1q, (u3q 0), (u3q 1)].getD k 0) hx hb hr hlk (trivial) (hP.sub [0, 1, 2, 3] rfl) (hD.sub [0, 1, 2, 3] (by decide) rfl) hS (by decide) (by decide) dX8_init_25

set_option maxHeartbeats 4000000 in
set_option maxRecDepth 100000 in
/-- LentMinds$Judge(): a new one -/
theorem c_Judge_init (l : Launch) (hl0 : l.stackTraces = false) (D : va_G) (cy : Nat → ClassId) (sa : Nat → Nat) (h0 : Nat) (sz : Nat) : Met l yX3_init (Cond.code yX3_init cX3_init 1 none :: kWS) ({ frames := 12, cells := 3, slots := 28, locals := 420 }) (kPre D cy sa [.ref h0] [(h0, .inr (5, [.null, .int 0, .int 0]))] sz) (va_Qv (fun (_ : Nat → Nat) => True) (kB D (va_A [(h0, .inr (5, [.null, .int 0, .int 0]))] sz) (fun u => [(h0, .inr (5, [.ref (u 0), .int (-1), .int 0])), ((u 0), .inr (7, [.ref (u 1), .ref (u 2), .int 0, .int 0, .int 0, .int 0, .int 0, .int 0, .int 0, .int 0])), ((u 1), .inl (cy 0, 9, .inl (fun _ => 0))), ((u 2), .inl (cy 0, 9, .inl (fun _ => 0)))])) (va_A [(h0, .inr (5, [.null, .int 0, .int 0]))] sz)) 3 28 (va_A [(h0, .inr (5, [.null, .int 0, .int 0]))] sz) := by
  refine k_ofW (Qc := fun A => va_Qv (fun (_ : Nat → Nat) => True) (kB D A (fun u => [(h0, .inr (5, [.ref (u 0), .int (-1), .int 0])), ((u 0), .inr (7, [.ref (u 1), .ref (u 2), .int 0, .int 0, .int 0, .int 0, .int 0, .int 0, .int 0, .int 0])), ((u 1), .inl (cy 0, 9, .inl (fun _ => 0))), ((u 2), .inl (cy 0, 9, .inl (fun _ => 0)))])) A) (by decide) (Nat.le_of_ble_eq_true rfl) ?_
  intro p e s m below meth c ls A E hA hP hD hG hS hl
  obtain ⟨hx, hb, hml, hown, hts, hr, hlk, hnm⟩ := id E
  have hown : s.vm.findClass RX3 = some m.cls := hown
  have hl : lv_has ls 1 [(0, .ref h0)] := hl
  obtain ⟨H, hH⟩ : ∃ H, H = s.heap := ⟨_, rfl⟩
  have hP : va_P D vwCl [(h0, .inr (5, [.null, .int 0, .int 0]))] H := by rw [hH]; exact hP
  have hS : va_S A s.heap H [] := by rw [hH]; exact va_S.rf
  rw [← hH]
  clear hH
  refine lv_aload_n hx hb dX3_init_0 rfl (lv_at hl 0 rfl) ?_
  refine W.objInit hx hb hown (hts _ wm_289) (hts _ wm_39) (hts _ wm_40) rfl (by rw [hml]; exact hl.1) rfl dX3_init_1 (Nat.le_of_ble_eq_true rfl) (Nat.le_of_ble_eq_true rfl) ?_
  refine W.eq (g2 := F0 m 4 ls []) rfl ?_
  refine lv_aload_n hx hb dX3_init_4 rfl (lv_at hl 0 rfl) ?_
  refine va_new (ci := 7) (fs := [.null, .null, .int 0, .int 0, .int 0, .int 0, .int 0, .int 0, .int 0, .int 0]) (C := RX5) (T := TX5) (N := 10) hx hb hts kin_RX5 tyX5 tyX5_ok hown (hts _ wm_290) (hts _ wm_174) (hts _ wm_4) hG.1 hP hD hS hA rfl (k_fs_RX5) (Nat.le_of_ble_eq_true rfl) (Nat.le_of_ble_eq_true rfl) dX3_init_5 (fun q1q H hP hD hS => ?_)
  have hP : va_P D vwCl [(h0, .inr (5, [.null, .int 0, .int 0])), (q1q, .inr (7, [.null, .null, .int 0, .int 0, .int 0, .int 0, .int 0, .int 0, .int 0, .int 0]))] H := hP
  have hD : va_D A [(h0, .inr (5, [.null, .int 0, .int 0])), (q1q, .inr (7, [.null, .null, .int 0, .int 0, .int 0, .int 0, .int 0, .int 0, .int 0, .int 0]))] := hD
  refine lv_dup hx hb dX3_init_8 rfl ?_
  refine k_calv [0] (⟨hP, hD, hG, hS, hA, rfl, rfl⟩ : kAt D cy sa A s H _ _ [(q1q, .inr (7, [.null, .null, .int 0, .int 0, .int 0, .int 0, .int 0, .int 0, .int 0, .int 0]))] [1]) (wr := [(h0, .inr (5, [.null, .int 0, .int 0]))]) rfl rfl (by decide) (k_runN (As := []) (rest := [.ref q1q, .ref h0]) E lk_NRX3_11 (c_Moment_init l hl0 D cy sa q1q H.size) (⟨hP, hD, hG, hS, hA, rfl, rfl⟩ : kAt D cy sa A s H _ _ [(q1q, .inr (7, [.null, .null, .int 0, .int 0, .int 0, .int 0, .int 0, .int 0, .int 0, .int 0]))] [1]) hl.1 rfl rfl ⟨rfl, rfl, ⟨Nat.le_of_ble_eq_true rfl, Nat.le_of_ble_eq_true rfl⟩, ⟨Nat.le_of_ble_eq_true rfl, Nat.le_of_ble_eq_true rfl⟩, Nat.le_of_ble_eq_true rfl⟩ dX3_init_9) (fun u3q H locs hwu3q hP hD hS => ?_)
  have hP : va_P D vwCl [(h0, .inr (5, [.null, .int 0, .int 0])), (q1q, .inr (7, [.ref (u3q 0), .ref (u3q 1), .int 0, .int 0, .int 0, .int 0, .int 0, .int 0, .int 0, .int 0])), ((u3q 0), .inl (cy 0, 9, .inl (fun _ => 0))), ((u3q 1), .inl (cy 0, 9, .inl (fun _ => 0)))] H := hP
  have hD : va_D A [(h0, .inr (5, [.null, .int 0, .int 0])), (q1q, .inr (7, [.ref (u3q 0), .ref (u3q 1), .int 0, .int 0, .int 0, .int 0, .int 0, .int 0, .int 0, .int 0])), ((u3q 0), .inl (cy 0, 9, .inl (fun _ => 0))), ((u3q 1), .inl (cy 0, 9, .inl (fun _ => 0)))] := hD
  refine va_putF (D := D) (ci := 5) (v := .ref q1q) (ty := (.object "LentMinds$Moment")) (C := RX3) (T := TX3) (N := 3) hx hb hts kin_RX3 tyX3 tyX3_ok nmX3 hown hG.1 hP hD hS 0 rfl rfl 0 (by decide) (hts _ wm_292) (fun _ h9 => h9) rfl hnm rfl (by decide +kernel) rfl rfl (Nat.le_of_ble_eq_true rfl) dX3_init_12 (fun H locs hP hD hS => ?_)
  have hP : va_P D vwCl [(h0, .inr (5, [.ref q1q, .int 0, .int 0])), (q1q, .inr (7, [.ref (u3q 0), .ref (u3q 1), .int 0, .int 0, .int 0, .int 0, .int 0, .int 0, .int 0, .int 0])), ((u3q 0), .inl (cy 0, 9, .inl (fun _ => 0))), ((u3q 1), .inl (cy 0, 9, .inl (fun _ => 0)))] H := hP
  have hD : va_D A [(h0, .inr (5, [.ref q1q, .int 0, .int 0])), (q1q, .inr (7, [.ref (u3q 0), .ref (u3q 1), .int 0, .int 0, .int 0, .int 0, .int 0, .int 0, .int 0, .int 0])), ((u3q 0), .inl (cy 0, 9, .inl (fun _ => 0))), ((u3q 1), .inl (cy 0, 9, .inl (fun _ => 0)))] := hD
  refine lv_aload_n hx hb dX3_init_15 rfl (lv_at hl 0 rfl) ?_
  refine lv_iconst (v := (-1)) hx hb dX3_init_16 (by decide) ?_
  refine va_put (D := D) (ci := 5) (v := .int (-1)) (ty := .int) (C := RX3) (T := TX3) (N := 3) hx hb hts kin_RX3 tyX3 tyX3_ok nmX3 hown hG.1 hP hD hS 0 rfl rfl 1 (by decide) (hts _ wm_294) (fun _ h9 => h9) rfl (by decide +kernel) rfl rfl (Nat.le_of_ble_eq_true rfl) dX3_init_17 (fun H locs hP hD hS => ?_)
  have hP : va_P D vwCl [(h0, .inr (5, [.ref q1q, .int (-1), .int 0])), (q1q, .inr (7, [.ref (u3q 0), .ref (u3q 1), .int 0, .int 0, .int 0, .int 0, .int 0, .int 0, .int 0, .int 0])), ((u3q 0), .inl (cy 0, 9, .inl (fun _ => 0))), ((u3q 1), .inl (cy 0, 9, .inl (fun _ => 0)))] H := hP
  have hD : va_D A [(h0, .inr (5, [.ref q1q, .int (-1), .int 0])), (q1q, .inr (7, [.ref (u3q 0), .ref (u3q 1), .int 0, .int 0, .int 0, .int 0, .int 0, .int 0, .int 0, .int 0])), ((u3q 0), .inl (cy 0, 9, .inl (fun _ => 0))), ((u3q 1), .inl (cy 0, 9, .inl (fun _ => 0)))] := hD
  refine lv_aload_n hx hb dX3_init_20 rfl (lv_at hl 0 rfl) ?_
  refine lv_iconst (v := 0) hx hb dX3_init_21 (by decide) ?_
  refine va_put (D := D) (ci := 5) (v := .int 0) (ty := .int) (C := RX3) (T := TX3) (N := 3) hx hb hts kin_RX3 tyX3 tyX3_ok nmX3 hown hG.1 hP hD hS 0 rfl rfl 2 (by decide) (hts _ wm_296) (fun _ h9 => h9) rfl (by decide +kernel) rfl rfl (Nat.le_of_ble_eq_true rfl) dX3_init_22 (fun H locs hP hD hS => ?_)
  have hP : va_P D vwCl [(h0, .inr (5, [.ref q1q, .int (-1), .int 0])), (q1q, .inr (7, [.ref (u3q 0), .ref (u3q 1), .int 0, .int 0, .int 0, .int 0, .int 0, .int 0, .int 0, .int 0])), ((u3q 0), .inl (cy 0, 9, .inl (fun _ => 0))), ((u3q 1), .inl (cy 0, 9, .inl (fun _ => 0)))] H := hP
  have hD : va_D A [(h0, .inr (5, [.ref q1q, .int (-1), .int 0])), (q1q, .inr (7, [.ref (u3q 0), .ref (u3q 1), .int 0, .int 0, .int 0, .int 0, .int 0, .int 0, .int 0, .int 0])), ((u3q 0), .inl (cy 0, 9, .inl (fun _ => 0))), ((u3q 1), .inl (cy 0, 9, .inl (fun _ => 0)))] := hD
  exact k_vret (fun k => [q1q, (u3q 0), (u3q 1)].getD k 0) hx hb hr hlk (trivial) (hP.sub [0, 1, 2, 3] rfl) (hD.sub [0, 1, 2, 3] (by decide) rfl) hS (by decide) (by decide) dX3_init_25

set_option maxHeartbeats 4000000 in
set_option maxRecDepth 100000 in
/-- LentMinds$Watch(): a new one -/
theorem c_Watch_init (l : Launch) (hl0 : l.stackTraces = false) (D : va_G) (cy : Nat → ClassId) (sa : Nat → Nat) (h0 : Nat) (sz : Nat) : Met l yX9_init (Cond.code yX9_init cX9_init 1 none :: kWS) ({ frames := 12, cells := 4, slots := 37, locals := 420 }) (kPre D cy sa [.ref h0] [(h0, .inr (11, [.null, .null, .int 0, .int 0, .int 0]))] sz) (va_Qv (fun (_ : Nat → Nat) => True) (kB D (va_A [(h0, .inr (11, [.null, .null, .int 0, .int 0, .int 0]))] sz) (fun u => [(h0, .inr (11, [.ref (u 0), .ref (u 3), .int 0, .int 0, .int 0])), ((u 0), .inr (7, [.ref (u 1), .ref (u 2), .int 0, .int 0, .int 0, .int 0, .int 0, .int 0, .int 0, .int 0])), ((u 1), .inl (cy 0, 9, .inl (fun _ => 0))), ((u 2), .inl (cy 0, 9, .inl (fun _ => 0))), ((u 3), .inl (cy 0, 9, .inl (fun _ => 0)))])) (va_A [(h0, .inr (11, [.null, .null, .int 0, .int 0, .int 0]))] sz)) 4 37 (va_A [(h0, .inr (11, [.null, .null, .int 0, .int 0, .int 0]))] sz) := by
  refine k_ofW (Qc := fun A => va_Qv (fun (_ : Nat → Nat) => True) (kB D A (fun u => [(h0, .inr (11, [.ref (u 0), .ref (u 3), .int 0, .int 0, .int 0])), ((u 0), .inr (7, [.ref (u 1), .ref (u 2), .int 0, .int 0, .int 0, .int 0, .int 0, .int 0, .int 0, .int 0])), ((u 1), .inl (cy 0, 9, .inl (fun _ => 0))), ((u 2), .inl (cy 0, 9, .inl (fun _ => 0))), ((u 3), .inl (cy 0, 9, .inl (fun _ => 0)))])) A) (by decide) (Nat.le_of_ble_eq_true rfl) ?_
  intro p e s m below meth c ls A E hA hP hD hG hS hl
  obtain ⟨hx, hb, hml, hown, hts, hr, hlk, hnm⟩ := id E
  have hown : s.vm.findClass RX9 = some m.cls := hown
  have hl : lv_has ls 1 [(0, .ref h0)] := hl
  obtain ⟨H, hH⟩ : ∃ H, H = s.heap := ⟨_, rfl⟩
  have hP : va_P D vwCl [(h0, .inr (11, [.null, .null, .int 0, .int 0, .int 0]))] H := by rw [hH]; exact hP
  have hS : va_S A s.heap H [] := by rw [hH]; exact va_S.rf
  rw [← hH]
  clear hH
  refine lv_aload_n hx hb dX9_init_0 rfl (lv_at hl 0 rfl) ?_
  refine W.objInit hx hb hown (hts _ wm_310) (hts _ wm_39) (hts _ wm_40) rfl (by rw [hml]; exact hl.1) rfl dX9_init_1 (Nat.le_of_ble_eq_true rfl) (Nat.le_of_ble_eq_true rfl) ?_
  refine W.eq (g2 := F0 m 4 ls []) rfl ?_
  refine lv_aload_n hx hb dX9_init_4 rfl (lv_at hl 0 rfl) ?_
  refine va_new (ci := 7) (fs := [.null, .null, .int 0, .int 0, .int 0, .int 0, .int 0, .int 0, .int 0, .int 0]) (C := RX5) (T := TX5) (N := 10) hx hb hts kin_RX5 tyX5 tyX5_ok hown (hts _ wm_311) (hts _ wm_174) (hts _ wm_4) hG.1 hP hD hS hA rfl (k_fs_RX5) (Nat.le_of_ble_eq_true rfl) (Nat.le_of_ble_eq_true rfl) dX9_init_5 (fun q1q H hP hD hS => ?_)
  have hP : va_P D vwCl [(h0, .inr (11, [.null, .null, .int 0, .int 0, .int 0])), (q1q, .inr (7, [.null, .null, .int 0, .int 0, .int 0, .int 0, .int 0, .int 0, .int 0, .int 0]))] H := hP
  have hD : va_D A [(h0, .inr (11, [.null, .null, .int 0, .int 0, .int 0])), (q1q, .inr (7, [.null, .null, .int 0, .int 0, .int 0, .int 0, .int 0, .int 0, .int 0, .int 0]))] := hD
  refine lv_dup hx hb dX9_init_8 rfl ?_
  refine k_calv [0] (⟨hP, hD, hG, hS, hA, rfl, rfl⟩ : kAt D cy sa A s H _ _ [(q1q, .inr (7, [.null, .null, .int 0, .int 0, .int 0, .int 0, .int 0, .int 0, .int 0, .int 0]))] [1]) (wr := [(h0, .inr (11, [.null, .null, .int 0, .int 0, .int 0]))]) rfl rfl (by decide) (k_runN (As := []) (rest := [.ref q1q, .ref h0]) E lk_NRX9_11 (c_Moment_init l hl0 D cy sa q1q H.size) (⟨hP, hD, hG, hS, hA, rfl, rfl⟩ : kAt D cy sa A s H _ _ [(q1q, .inr (7, [.null, .null, .int 0, .int 0, .int 0, .int 0, .int 0, .int 0, .int 0, .int 0]))] [1]) hl.1 rfl rfl ⟨rfl, rfl, ⟨Nat.le_of_ble_eq_true rfl, Nat.le_of_ble_eq_true rfl⟩, ⟨Nat.le_of_ble_eq_true rfl, Nat.le_of_ble_eq_true rfl⟩, Nat.le_of_ble_eq_true rfl⟩ dX9_init_9) (fun u3q H locs hwu3q hP hD hS => ?_)
  have hP : va_P D vwCl [(h0, .inr (11, [.null, .null, .int 0, .int 0, .int 0])), (q1q, .inr (7, [.ref (u3q 0), .ref (u3q 1), .int 0, .int 0, .int 0, .int 0, .int 0, .int 0, .int 0, .int 0])), ((u3q 0), .inl (cy 0, 9, .inl (fun _ => 0))), ((u3q 1), .inl (cy 0, 9, .inl (fun _ => 0)))] H := hP
  have hD : va_D A [(h0, .inr (11, [.null, .null, .int 0, .int 0, .int 0])), (q1q, .inr (7, [.ref (u3q 0), .ref (u3q 1), .int 0, .int 0, .int 0, .int 0, .int 0, .int 0, .int 0, .int 0])), ((u3q 0), .inl (cy 0, 9, .inl (fun _ => 0))), ((u3q 1), .inl (cy 0, 9, .inl (fun _ => 0)))] := hD
  refine va_putF (D := D) (ci := 11) (v := .ref q1q) (ty := (.object "LentMinds$Moment")) (C := RX9) (T := TX9) (N := 5) hx hb hts kin_RX9 tyX9 tyX9_ok nmX9 hown hG.1 hP hD hS 0 rfl rfl 0 (by decide) (hts _ wm_313) (fun _ h9 => h9) rfl hnm rfl (by decide +kernel) rfl rfl (Nat.le_of_ble_eq_true rfl) dX9_init_12 (fun H locs hP hD hS => ?_)
  have hP : va_P D vwCl [(h0, .inr (11, [.ref q1q, .null, .int 0, .int 0, .int 0])), (q1q, .inr (7, [.ref (u3q 0), .ref (u3q 1), .int 0, .int 0, .int 0, .int 0, .int 0, .int 0, .int 0, .int 0])), ((u3q 0), .inl (cy 0, 9, .inl (fun _ => 0))), ((u3q 1), .inl (cy 0, 9, .inl (fun _ => 0)))] H := hP
  have hD : va_D A [(h0, .inr (11, [.ref q1q, .null, .int 0, .int 0, .int 0])), (q1q, .inr (7, [.ref (u3q 0), .ref (u3q 1), .int 0, .int 0, .int 0, .int 0, .int 0, .int 0, .int 0, .int 0])), ((u3q 0), .inl (cy 0, 9, .inl (fun _ => 0))), ((u3q 1), .inl (cy 0, 9, .inl (fun _ => 0)))] := hD
  refine lv_aload_n hx hb dX9_init_15 rfl (lv_at hl 0 rfl) ?_
  refine lv_bipush (v := 9) hx hb dX9_init_16 (by decide) ?_
  refine k_newa 0 (atype := .int) hx hb (hts _ wm_68) rfl rfl hG.1 hP hD hS hA (a0 := (9, .inl (fun _ => 0))) trivial (fun _ => rfl) (by decide) (by decide) (by decide) (Nat.le_of_ble_eq_true rfl) (Nat.le_of_ble_eq_true rfl) dX9_init_18 (fun q4q H hP hD hS => ?_)
  have hP : va_P D vwCl [(h0, .inr (11, [.ref q1q, .null, .int 0, .int 0, .int 0])), (q1q, .inr (7, [.ref (u3q 0), .ref (u3q 1), .int 0, .int 0, .int 0, .int 0, .int 0, .int 0, .int 0, .int 0])), ((u3q 0), .inl (cy 0, 9, .inl (fun _ => 0))), ((u3q 1), .inl (cy 0, 9, .inl (fun _ => 0))), (q4q, .inl (cy 0, 9, .inl (fun _ => 0)))] H := hP
  have hD : va_D A [(h0, .inr (11, [.ref q1q, .null, .int 0, .int 0, .int 0])), (q1q, .inr (7, [.ref (u3q 0), .ref (u3q 1), .int 0, .int 0, .int 0, .int 0, .int 0, .int 0, .int 0, .int 0])), ((u3q 0), .inl (cy 0, 9, .inl (fun _ => 0))), ((u3q 1), .inl (cy 0, 9, .inl (fun _ => 0))), (q4q, .inl (cy 0, 9, .inl (fun _ => 0)))] := hD
  refine va_putF (D := D) (ci := 11) (v := .ref q4q) (ty := (.array .int)) (C := RX9) (T := TX9) (N := 5) hx hb hts kin_RX9 tyX9 tyX9_ok nmX9 hown hG.1 hP hD hS 0 rfl rfl 1 (by decide) (hts _ wm_314) (fun _ h9 => h9) rfl hnm rfl (by decide +kernel) rfl rfl (Nat.le_of_ble_eq_true rfl) dX9_init_20 (fun H locs hP hD hS => ?_)
  have hP : va_P D vwCl [(h0, .inr (11, [.ref q1q, .ref q4q, .int 0, .int 0, .int 0])), (q1q, .inr (7, [.ref (u3q 0), .ref (u3q 1), .int 0, .int 0, .int 0, .int 0, .int 0, .int 0, .int 0, .int 0])), ((u3q 0), .inl (cy 0, 9, .inl (fun _ => 0))), ((u3q 1), .inl (cy 0, 9, .inl (fun _ => 0))), (q4q, .inl (cy 0, 9, .inl (fun _ => 0)))] H := hP
  have hD : va_D A [(h0, .inr (11, [.ref q1q, .ref q4q, .int 0, .int 0, .int 0])), (q1q, .inr (7, [.ref (u3q 0), .ref (u3q 1), .int 0, .int 0, .int 0, .int 0, .int 0, .int 0, .int 0, .int 0])), ((u3q 0), .inl (cy 0, 9, .inl (fun _ => 0))), ((u3q 1), .inl (cy 0, 9, .inl (fun _ => 0))), (q4q, .inl (cy 0, 9, .inl (fun _ => 0)))] := hD
  refine lv_aload_n hx hb dX9_init_23 rfl (lv_at hl 0 rfl) ?_
  refine lv_iconst (v := 0) hx hb dX9_init_24 (by decide) ?_
  refine va_put (D := D) (ci := 11) (v := .int 0) (ty := .int) (C := RX9) (T := TX9) (N := 5) hx hb hts kin_RX9 tyX9 tyX9_ok nmX9 hown hG.1 hP hD hS 0 rfl rfl 2 (by decide) (hts _ wm_315) (fun _ h9 => h9) rfl (by decide +kernel) rfl rfl (Nat.le_of_ble_eq_true rfl) dX9_init_25 (fun H locs hP hD hS => ?_)
  have hP : va_P D vwCl [(h0, .inr (11, [.ref q1q, .ref q4q, .int 0, .int 0, .int 0])), (q1q, .inr (7, [.ref (u3q 0), .ref (u3q 1), .int 0, .int 0, .int 0, .int 0, .int 0, .int 0, .int 0, .int 0])), ((u3q 0), .inl (cy 0, 9, .inl (fun _ => 0))), ((u3q 1), .inl (cy 0, 9, .inl (fun _ => 0))), (q4q, .inl (cy 0, 9, .inl (fun _ => 0)))] H := hP
  have hD : va_D A [(h0, .inr (11, [.ref q1q, .ref q4q, .int 0, .int 0, .int 0])), (q1q, .inr (7, [.ref (u3q 0), .ref (u3q 1), .int 0, .int 0, .int 0, .int 0, .int 0, .int 0, .int 0, .int 0])), ((u3q 0), .inl (cy 0, 9, .inl (fun _ => 0))), ((u3q 1), .inl (cy 0, 9, .inl (fun _ => 0))), (q4q, .inl (cy 0, 9, .inl (fun _ => 0)))] := hD
  refine lv_aload_n hx hb dX9_init_28 rfl (lv_at hl 0 rfl) ?_
  refine lv_iconst (v := 0) hx hb dX9_init_29 (by decide) ?_
  refine va_put (D := D) (ci := 11) (v := .int 0) (ty := .int) (C := RX9) (T := TX9) (N := 5) hx hb hts kin_RX9 tyX9 tyX9_ok nmX9 hown hG.1 hP hD hS 0 rfl rfl 3 (by decide) (hts _ wm_316) (fun _ h9 => h9) rfl (by decide +kernel) rfl rfl (Nat.le_of_ble_eq_true rfl) dX9_init_30 (fun H locs hP hD hS => ?_)
  have hP : va_P D vwCl [(h0, .inr (11, [.ref q1q, .ref q4q, .int 0, .int 0, .int 0])), (q1q, .inr (7, [.ref (u3q 0), .ref (u3q 1), .int 0, .int 0, .int 0, .int 0, .int 0, .int 0, .int 0, .int 0])), ((u3q 0), .inl (cy 0, 9, .inl (fun _ => 0))), ((u3q 1), .inl (cy 0, 9, .inl (fun _ => 0))), (q4q, .inl (cy 0, 9, .inl (fun _ => 0)))] H := hP
  have hD : va_D A [(h0, .inr (11, [.ref q1q, .ref q4q, .int 0, .int 0, .int 0])), (q1q, .inr (7, [.ref (u3q 0), .ref (u3q 1), .int 0, .int 0, .int 0, .int 0, .int 0, .int 0, .int 0, .int 0])), ((u3q 0), .inl (cy 0, 9, .inl (fun _ => 0))), ((u3q 1), .inl (cy 0, 9, .inl (fun _ => 0))), (q4q, .inl (cy 0, 9, .inl (fun _ => 0)))] := hD
  refine lv_aload_n hx hb dX9_init_33 rfl (lv_at hl 0 rfl) ?_
  refine lv_iconst (v := 0) hx hb dX9_init_34 (by decide) ?_
  refine va_put (D := D) (ci := 11) (v := .int 0) (ty := .int) (C := RX9) (T := TX9) (N := 5) hx hb hts kin_RX9 tyX9 tyX9_ok nmX9 hown hG.1 hP hD hS 0 rfl rfl 4 (by decide) (hts _ wm_317) (fun _ h9 => h9) rfl (by decide +kernel) rfl rfl (Nat.le_of_ble_eq_true rfl) dX9_init_35 (fun H locs hP hD hS => ?_)
  have hP : va_P D vwCl [(h0, .inr (11, [.ref q1q, .ref q4q, .int 0, .int 0, .int 0])), (q1q, .inr (7, [.ref (u3q 0), .ref (u3q 1), .int 0, .int 0, .int 0, .int 0, .int 0, .int 0, .int 0, .int 0])), ((u3q 0), .inl (cy 0, 9, .inl (fun _ => 0))), ((u3q 1), .inl (cy 0, 9, .inl (fun _ => 0))), (q4q, .inl (cy 0, 9, .inl (fun _ => 0)))] H := hP
  have hD : va_D A [(h0, .inr (11, [.ref q1q, .ref q4q, .int 0, .int 0, .int 0])), (q1q, .inr (7, [.ref (u3q 0), .ref (u3q 1), .int 0, .int 0, .int 0, .int 0, .int 0, .int 0, .int 0, .int 0])), ((u3q 0), .inl (cy 0, 9, .inl (fun _ => 0))), ((u3q 1), .inl (cy 0, 9, .inl (fun _ => 0))), (q4q, .inl (cy 0, 9, .inl (fun _ => 0)))] := hD
  exact k_vret (fun k => [q1q, (u3q 0), (u3q 1), q4q].getD k 0) hx hb hr hlk (trivial) (hP.sub [0, 1, 2, 3, 4] rfl) (hD.sub [0, 1, 2, 3, 4] (by decide) rfl) hS (by decide) (by decide) dX9_init_38

set_option maxHeartbeats 4000000 in
set_option maxRecDepth 100000 in
/-- LentMinds$Keeper(): a new one -/
theorem c_Keeper_init (l : Launch) (hl0 : l.stackTraces = false) (D : va_G) (cy : Nat → ClassId) (sa : Nat → Nat) (h0 f0 : Nat) (sz : Nat) : Met l yX4_init (Cond.code yX4_init cX4_init 2 none :: kWS) ({ frames := 11, cells := 4, slots := 8752, locals := 360 }) (kPre D cy sa [.ref h0, .ref f0] [(h0, .inr (6, [.null, .null, .null, .null, .null, .int 0, .int 0, .int 0]))] sz) (va_Qv (fun (_ : Nat → Nat) => True) (kB D (va_A [(h0, .inr (6, [.null, .null, .null, .null, .null, .int 0, .int 0, .int 0]))] sz) (fun u => [(h0, .inr (6, [.ref f0, .ref (u 0), .ref (u 1), .ref (u 2), .ref (u 3), .int 1, .int 0, .int 0])), ((u 0), .inl (cy 0, 2916, .inl (fun _ => 0))), ((u 1), .inl (cy 0, 2916, .inl (fun _ => 0))), ((u 2), .inl (cy 0, 2916, .inl (fun _ => 0))), ((u 3), .inl (cy 0, 4, .inl (fun _ => 0)))])) (va_A [(h0, .inr (6, [.null, .null, .null, .null, .null, .int 0, .int 0, .int 0]))] sz)) 4 8752 (va_A [(h0, .inr (6, [.null, .null, .null, .null, .null, .int 0, .int 0, .int 0]))] sz) := by
  refine k_ofW (Qc := fun A => va_Qv (fun (_ : Nat → Nat) => True) (kB D A (fun u => [(h0, .inr (6, [.ref f0, .ref (u 0), .ref (u 1), .ref (u 2), .ref (u 3), .int 1, .int 0, .int 0])), ((u 0), .inl (cy 0, 2916, .inl (fun _ => 0))), ((u 1), .inl (cy 0, 2916, .inl (fun _ => 0))), ((u 2), .inl (cy 0, 2916, .inl (fun _ => 0))), ((u 3), .inl (cy 0, 4, .inl (fun _ => 0)))])) A) (by decide) (Nat.le_of_ble_eq_true rfl) ?_
  intro p e s m below meth c ls A E hA hP hD hG hS hl
  obtain ⟨hx, hb, hml, hown, hts, hr, hlk, hnm⟩ := id E
  have hown : s.vm.findClass RX4 = some m.cls := hown
  have hl : lv_has ls 2 [(0, .ref h0), (1, .ref f0)] := hl
  obtain ⟨H, hH⟩ : ∃ H, H = s.heap := ⟨_, rfl⟩
  have hP : va_P D vwCl [(h0, .inr (6, [.null, .null, .null, .null, .null, .int 0, .int 0, .int 0]))] H := by rw [hH]; exact hP
  have hS : va_S A s.heap H [] := by rw [hH]; exact va_S.rf
  rw [← hH]
  clear hH
  refine lv_aload_n hx hb dX4_init_0 rfl (lv_at hl 0 rfl) ?_
  refine W.objInit hx hb hown (hts _ wm_365) (hts _ wm_39) (hts _ wm_40) rfl (by rw [hml]; exact hl.1) rfl dX4_init_1 (Nat.le_of_ble_eq_true rfl) (Nat.le_of_ble_eq_true rfl) ?_
  refine W.eq (g2 := F0 m 4 ls []) rfl ?_
  refine lv_aload_n hx hb dX4_init_4 rfl (lv_at hl 0 rfl) ?_
  refine lv_sipush (v := 2916) hx hb dX4_init_5 (by decide) ?_
  refine k_newa 0 (atype := .int) hx hb (hts _ wm_68) rfl rfl hG.1 hP hD hS hA (a0 := (2916, .inl (fun _ => 0))) trivial (fun _ => rfl) (by decide) (by decide) (by decide) (Nat.le_of_ble_eq_true rfl) (Nat.le_of_ble_eq_true rfl) dX4_init_8 (fun q1q H hP hD hS => ?_)
  have hP : va_P D vwCl [(h0, .inr (6, [.null, .null, .null, .null, .null, .int 0, .int 0, .int 0])), (q1q, .inl (cy 0, 2916, .inl (fun _ => 0)))] H := hP
  have hD : va_D A [(h0, .inr (6, [.null, .null, .null, .null, .null, .int 0, .int 0, .int 0])), (q1q, .inl (cy 0, 2916, .inl (fun _ => 0)))] := hD
  refine va_putF (D := D) (ci := 6) (v := .ref q1q) (ty := (.array .int)) (C := RX4) (T := TX4) (N := 8) hx hb hts kin_RX4 tyX4 tyX4_ok nmX4 hown hG.1 hP hD hS 0 rfl rfl 1 (by decide) (hts _ wm_367) (fun _ h9 => h9) rfl hnm rfl (by decide +kernel) rfl rfl (Nat.le_of_ble_eq_true rfl) dX4_init_10 (fun H locs hP hD hS => ?_)
  have hP : va_P D vwCl [(h0, .inr (6, [.null, .ref q1q, .null, .null, .null, .int 0, .int 0, .int 0])), (q1q, .inl (cy 0, 2916, .inl (fun _ => 0)))] H := hP
  have hD : va_D A [(h0, .inr (6, [.null, .ref q1q, .null, .null, .null, .int 0, .int 0, .int 0])), (q1q, .inl (cy 0, 2916, .inl (fun _ => 0)))] := hD
  refine lv_aload_n hx hb dX4_init_13 rfl (lv_at hl 0 rfl) ?_
  refine lv_sipush (v := 2916) hx hb dX4_init_14 (by decide) ?_
  refine k_newa 0 (atype := .int) hx hb (hts _ wm_68) rfl rfl hG.1 hP hD hS hA (a0 := (2916, .inl (fun _ => 0))) trivial (fun _ => rfl) (by decide) (by decide) (by decide) (Nat.le_of_ble_eq_true rfl) (Nat.le_of_ble_eq_true rfl) dX4_init_17 (fun q2q H hP hD hS => ?_)
  have hP : va_P D vwCl [(h0, .inr (6, [.null, .ref q1q, .null, .null, .null, .int 0, .int 0, .int 0])), (q1q, .inl (cy 0, 2916, .inl (fun _ => 0))), (q2q, .inl (cy 0, 2916, .inl (fun _ => 0)))] H := hP
  have hD : va_D A [(h0, .inr (6, [.null, .ref q1q, .null, .null, .null, .int 0, .int 0, .int 0])), (q1q, .inl (cy 0, 2916, .inl (fun _ => 0))), (q2q, .inl (cy 0, 2916, .inl (fun _ => 0)))] := hD
  refine va_putF (D := D) (ci := 6) (v := .ref q2q) (ty := (.array .int)) (C := RX4) (T := TX4) (N := 8) hx hb hts kin_RX4 tyX4 tyX4_ok nmX4 hown hG.1 hP hD hS 0 rfl rfl 2 (by decide) (hts _ wm_368) (fun _ h9 => h9) rfl hnm rfl (by decide +kernel) rfl rfl (Nat.le_of_ble_eq_true rfl) dX4_init_19 (fun H locs hP hD hS => ?_)
  have hP : va_P D vwCl [(h0, .inr (6, [.null, .ref q1q, .ref q2q, .null, .null, .int 0, .int 0, .int 0])), (q1q, .inl (cy 0, 2916, .inl (fun _ => 0))), (q2q, .inl (cy 0, 2916, .inl (fun _ => 0)))] H := hP
  have hD : va_D A [(h0, .inr (6, [.null, .ref q1q, .ref q2q, .null, .null, .int 0, .int 0, .int 0])), (q1q, .inl (cy 0, 2916, .inl (fun _ => 0))), (q2q, .inl (cy 0, 2916, .inl (fun _ => 0)))] := hD
  refine lv_aload_n hx hb dX4_init_22 rfl (lv_at hl 0 rfl) ?_
  refine lv_sipush (v := 2916) hx hb dX4_init_23 (by decide) ?_
  refine k_newa 0 (atype := .int) hx hb (hts _ wm_68) rfl rfl hG.1 hP hD hS hA (a0 := (2916, .inl (fun _ => 0))) trivial (fun _ => rfl) (by decide) (by decide) (by decide) (Nat.le_of_ble_eq_true rfl) (Nat.le_of_ble_eq_true rfl) dX4_init_26 (fun q3q H hP hD hS => ?_)
  have hP : va_P D vwCl [(h0, .inr (6, [.null, .ref q1q, .ref q2q, .null, .null, .int 0, .int 0, .int 0])), (q1q, .inl (cy 0, 2916, .inl (fun _ => 0))), (q2q, .inl (cy 0, 2916, .inl (fun _ => 0))), (q3q, .inl (cy 0, 2916, .inl (fun _ => 0)))] H := hP
  have hD : va_D A [(h0, .inr (6, [.null, .ref q1q, .ref q2q, .null, .null, .int 0, .int 0, .int 0])), (q1q, .inl (cy 0, 2916, .inl (fun _ => 0))), (q2q, .inl (cy 0, 2916, .inl (fun _ => 0))), (q3q, .inl (cy 0, 2916, .inl (fun _ => 0)))] := hD
  refine va_putF (D := D) (ci := 6) (v := .ref q3q) (ty := (.array .int)) (C := RX4) (T := TX4) (N := 8) hx hb hts kin_RX4 tyX4 tyX4_ok nmX4 hown hG.1 hP hD hS 0 rfl rfl 3 (by decide) (hts _ wm_369) (fun _ h9 => h9) rfl hnm rfl (by decide +kernel) rfl rfl (Nat.le_of_ble_eq_true rfl) dX4_init_28 (fun H locs hP hD hS => ?_)
  have hP : va_P D vwCl [(h0, .inr (6, [.null, .ref q1q, .ref q2q, .ref q3q, .null, .int 0, .int 0, .int 0])), (q1q, .inl (cy 0, 2916, .inl (fun _ => 0))), (q2q, .inl (cy 0, 2916, .inl (fun _ => 0))), (q3q, .inl (cy 0, 2916, .inl (fun _ => 0)))] H := hP
  have hD : va_D A [(h0, .inr (6, [.null, .ref q1q, .ref q2q, .ref q3q, .null, .int 0, .int 0, .int 0])), (q1q, .inl (cy 0, 2916, .inl (fun _ => 0))), (q2q, .inl (cy 0, 2916, .inl (fun _ => 0))), (q3q, .inl (cy 0, 2916, .inl (fun _ => 0)))] := hD
  refine lv_aload_n hx hb dX4_init_31 rfl (lv_at hl 0 rfl) ?_
  refine lv_iconst (v := 4) hx hb dX4_init_32 (by decide) ?_
  refine k_newa 0 (atype := .int) hx hb (hts _ wm_68) rfl rfl hG.1 hP hD hS hA (a0 := (4, .inl (fun _ => 0))) trivial (fun _ => rfl) (by decide) (by decide) (by decide) (Nat.le_of_ble_eq_true rfl) (Nat.le_of_ble_eq_true rfl) dX4_init_33 (fun q4q H hP hD hS => ?_)
  have hP : va_P D vwCl [(h0, .inr (6, [.null, .ref q1q, .ref q2q, .ref q3q, .null, .int 0, .int 0, .int 0])), (q1q, .inl (cy 0, 2916, .inl (fun _ => 0))), (q2q, .inl (cy 0, 2916, .inl (fun _ => 0))), (q3q, .inl (cy 0, 2916, .inl (fun _ => 0))), (q4q, .inl (cy 0, 4, .inl (fun _ => 0)))] H := hP
  have hD : va_D A [(h0, .inr (6, [.null, .ref q1q, .ref q2q, .ref q3q, .null, .int 0, .int 0, .int 0])), (q1q, .inl (cy 0, 2916, .inl (fun _ => 0))), (q2q, .inl (cy 0, 2916, .inl (fun _ => 0))), (q3q, .inl (cy 0, 2916, .inl (fun _ => 0))), (q4q, .inl (cy 0, 4, .inl (fun _ => 0)))] := hD
  refine va_putF (D := D) (ci := 6) (v := .ref q4q) (ty := (.array .int)) (C := RX4) (T := TX4) (N := 8) hx hb hts kin_RX4 tyX4 tyX4_ok nmX4 hown hG.1 hP hD hS 0 rfl rfl 4 (by decide) (hts _ wm_370) (fun _ h9 => h9) rfl hnm rfl (by decide +kernel) rfl rfl (Nat.le_of_ble_eq_true rfl) dX4_init_35 (fun H locs hP hD hS => ?_)
  have hP : va_P D vwCl [(h0, .inr (6, [.null, .ref q1q, .ref q2q, .ref q3q, .ref q4q, .int 0, .int 0, .int 0])), (q1q, .inl (cy 0, 2916, .inl (fun _ => 0))), (q2q, .inl (cy 0, 2916, .inl (fun _ => 0))), (q3q, .inl (cy 0, 2916, .inl (fun _ => 0))), (q4q, .inl (cy 0, 4, .inl (fun _ => 0)))] H := hP
  have hD : va_D A [(h0, .inr (6, [.null, .ref q1q, .ref q2q, .ref q3q, .ref q4q, .int 0, .int 0, .int 0])), (q1q, .inl (cy 0, 2916, .inl (fun _ => 0))), (q2q, .inl (cy 0, 2916, .inl (fun _ => 0))), (q3q, .inl (cy 0, 2916, .inl (fun _ => 0))), (q4q, .inl (cy 0, 4, .inl (fun _ => 0)))] := hD
  refine lv_aload_n hx hb dX4_init_38 rfl (lv_at hl 0 rfl) ?_
  refine lv_iconst (v := 1) hx hb dX4_init_39 (by decide) ?_
  refine va_put (D := D) (ci := 6) (v := .int 1) (ty := .int) (C := RX4) (T := TX4) (N := 8) hx hb hts kin_RX4 tyX4 tyX4_ok nmX4 hown hG.1 hP hD hS 0 rfl rfl 5 (by decide) (hts _ wm_371) (fun _ h9 => h9) rfl (by decide +kernel) rfl rfl (Nat.le_of_ble_eq_true rfl) dX4_init_40 (fun H locs hP hD hS => ?_)
  have hP : va_P D vwCl [(h0, .inr (6, [.null, .ref q1q, .ref q2q, .ref q3q, .ref q4q, .int 1, .int 0, .int 0])), (q1q, .inl (cy 0, 2916, .inl (fun _ => 0))), (q2q, .inl (cy 0, 2916, .inl (fun _ => 0))), (q3q, .inl (cy 0, 2916, .inl (fun _ => 0))), (q4q, .inl (cy 0, 4, .inl (fun _ => 0)))] H := hP
  have hD : va_D A [(h0, .inr (6, [.null, .ref q1q, .ref q2q, .ref q3q, .ref q4q, .int 1, .int 0, .int 0])), (q1q, .inl (cy 0, 2916, .inl (fun _ => 0))), (q2q, .inl (cy 0, 2916, .inl (fun _ => 0))), (q3q, .inl (cy 0, 2916, .inl (fun _ => 0))), (q4q, .inl (cy 0, 4, .inl (fun _ => 0)))] := hD
  refine lv_aload_n hx hb dX4_init_43 rfl (lv_at hl 0 rfl) ?_
  refine lv_iconst (v := 0) hx hb dX4_init_44 (by decide) ?_
  refine va_put (D := D) (ci := 6) (v := .int 0) (ty := .int) (C := RX4) (T := TX4) (N := 8) hx hb hts kin_RX4 tyX4 tyX4_ok nmX4 hown hG.1 hP hD hS 0 rfl rfl 6 (by decide) (hts _ wm_372) (fun _ h9 => h9) rfl (by decide +kernel) rfl rfl (Nat.le_of_ble_eq_true rfl) dX4_init_45 (fun H locs hP hD hS => ?_)
  have hP : va_P D vwCl [(h0, .inr (6, [.null, .ref q1q, .ref q2q, .ref q3q, .ref q4q, .int 1, .int 0, .int 0])), (q1q, .inl (cy 0, 2916, .inl (fun _ => 0))), (q2q, .inl (cy 0, 2916, .inl (fun _ => 0))), (q3q, .inl (cy 0, 2916, .inl (fun _ => 0))), (q4q, .inl (cy 0, 4, .inl (fun _ => 0)))] H := hP
  have hD : va_D A [(h0, .inr (6, [.null, .ref q1q, .ref q2q, .ref q3q, .ref q4q, .int 1, .int 0, .int 0])), (q1q, .inl (cy 0, 2916, .inl (fun _ => 0))), (q2q, .inl (cy 0, 2916, .inl (fun _ => 0))), (q3q, .inl (cy 0, 2916, .inl (fun _ => 0))), (q4q, .inl (cy 0, 4, .inl (fun _ => 0)))] := hD
  refine lv_aload_n hx hb dX4_init_48 rfl (lv_at hl 0 rfl) ?_
  refine lv_iconst (v := 0) hx hb dX4_init_49 (by decide) ?_
  refine va_put (D := D) (ci := 6) (v := .int 0) (ty := .int) (C := RX4) (T := TX4) (N := 8) hx hb hts kin_RX4 tyX4 tyX4_ok nmX4 hown hG.1 hP hD hS 0 rfl rfl 7 (by decide) (hts _ wm_374) (fun _ h9 => h9) rfl (by decide +kernel) rfl rfl (Nat.le_of_ble_eq_true rfl) dX4_init_50 (fun H locs hP hD hS => ?_)
  have hP : va_P D vwCl [(h0, .inr (6, [.null, .ref q1q, .ref q2q, .ref q3q, .ref q4q, .int 1, .int 0, .int 0])), (q1q, .inl (cy 0, 2916, .inl (fun _ => 0))), (q2q, .inl (cy 0, 2916, .inl (fun _ => 0))), (q3q, .inl (cy 0, 2916, .inl (fun _ => 0))), (q4q, .inl (cy 0, 4, .inl (fun _ => 0)))] H := hP
  have hD : va_D A [(h0, .inr (6, [.null, .ref q1q, .ref q2q, .ref q3q, .ref q4q, .int 1, .int 0, .int 0])), (q1q, .inl (cy 0, 2916, .inl (fun _ => 0))), (q2q, .inl (cy 0, 2916, .inl (fun _ => 0))), (q3q, .inl (cy 0, 2916, .inl (fun _ => 0))), (q4q, .inl (cy 0, 4, .inl (fun _ => 0)))] := hD
  refine lv_aload_n hx hb dX4_init_53 rfl (lv_at hl 0 rfl) ?_
  refine lv_aload_n hx hb dX4_init_54 rfl (lv_at hl 1 rfl) ?_
  refine va_putF (D := D) (ci := 6) (v := .ref f0) (ty := (.object "LentMinds$Few")) (C := RX4) (T := TX4) (N := 8) hx hb hts kin_RX4 tyX4 tyX4_ok nmX4 hown hG.1 hP hD hS 0 rfl rfl 0 (by decide) (hts _ wm_366) (fun _ h9 => h9) rfl hnm rfl (by decide +kernel) rfl rfl (Nat.le_of_ble_eq_true rfl) dX4_init_55 (fun H locs hP hD hS => ?_)
  have hP : va_P D vwCl [(h0, .inr (6, [.ref f0, .ref q1q, .ref q2q, .ref q3q, .ref q4q, .int 1, .int 0, .int 0])), (q1q, .inl (cy 0, 2916, .inl (fun _ => 0))), (q2q, .inl (cy 0, 2916, .inl (fun _ => 0))), (q3q, .inl (cy 0, 2916, .inl (fun _ => 0))), (q4q, .inl (cy 0, 4, .inl (fun _ => 0)))] H := hP
  have hD : va_D A [(h0, .inr (6, [.ref f0, .ref q1q, .ref q2q, .ref q3q, .ref q4q, .int 1, .int 0, .int 0])), (q1q, .inl (cy 0, 2916, .inl (fun _ => 0))), (q2q, .inl (cy 0, 2916, .inl (fun _ => 0))), (q3q, .inl (cy 0, 2916, .inl (fun _ => 0))), (q4q, .inl (cy 0, 4, .inl (fun _ => 0)))] := hD
  exact k_vret (fun k => [q1q, q2q, q3q, q4q].getD k 0) hx hb hr hlk (trivial) (hP.sub [0, 1, 2, 3, 4] rfl) (hD.sub [0, 1, 2, 3, 4] (by decide) rfl) hS (by decide) (by decide) dX4_init_58

set_option maxHeartbeats 4000000 in
set_option maxRecDepth 100000 in
/-- LentMinds$Backlog(): a new one -/
theorem c_Backlog_init (l : Launch) (hl0 : l.stackTraces = false) (D : va_G) (cy : Nat → ClassId) (sa : Nat → Nat) (h0 f0 : Nat) (sz : Nat) : Met l yX0_init (Cond.code yX0_init cX0_init 2 none :: kWS) ({ frames := 11, cells := 2, slots := 12004, locals := 360 }) (kPre D cy sa [.ref h0, .ref f0] [(h0, .inr (2, [.null, .null, .null, .int 0, .int 0]))] sz) (va_Qv (fun (_ : Nat → Nat) => True) (kB D (va_A [(h0, .inr (2, [.null, .null, .null, .int 0, .int 0]))] sz) (fun u => [(h0, .inr (2, [.ref f0, .ref (u 0), .ref (u 1), .int 0, .int 1000000000])), ((u 0), .inl (cy 0, 12000, .inl (fun _ => 0))), ((u 1), .inl (cy 0, 4, .inl (fun _ => 0)))])) (va_A [(h0, .inr (2, [.null, .null, .null, .int 0, .int 0]))] sz)) 2 12004 (va_A [(h0, .inr (2, [.null, .null, .null, .int 0, .int 0]))] sz) := by
  refine k_ofW (Qc := fun A => va_Qv (fun (_ : Nat → Nat) => True) (kB D A (fun u => [(h0, .inr (2, [.ref f0, .ref (u 0), .ref (u 1), .int 0, .int 1000000000])), ((u 0), .inl (cy 0, 12000, .inl (fun _ => 0))), ((u 1), .inl (cy 0, 4, .inl (fun _ => 0)))])) A) (by decide) (Nat.le_of_ble_eq_true rfl) ?_
  intro p e s m below meth c ls A E hA hP hD hG hS hl
  obtain ⟨hx, hb, hml, hown, hts, hr, hlk, hnm⟩ := id E
  have hown : s.vm.findClass RX0 = some m.cls := hown
  have hl : lv_has ls 2 [(0, .ref h0), (1, .ref f0)] := hl
  obtain ⟨H, hH⟩ : ∃ H, H = s.heap := ⟨_, rfl⟩
  have hP : va_P D vwCl [(h0, .inr (2, [.null, .null, .null, .int 0, .int 0]))] H := by rw [hH]; exact hP
  have hS : va_S A s.heap H [] := by rw [hH]; exact va_S.rf
  rw [← hH]
  clear hH
  refine lv_aload_n hx hb dX0_init_0 rfl (lv_at hl 0 rfl) ?_
  refine W.objInit hx hb hown (hts _ wm_398) (hts _ wm_39) (hts _ wm_40) rfl (by rw [hml]; exact hl.1) rfl dX0_init_1 (Nat.le_of_ble_eq_true rfl) (Nat.le_of_ble_eq_true rfl) ?_
  refine W.eq (g2 := F0 m 4 ls []) rfl ?_
  refine lv_aload_n hx hb dX0_init_4 rfl (lv_at hl 0 rfl) ?_
  refine lv_sipush (v := 12000) hx hb dX0_init_5 (by decide) ?_
  refine k_newa 0 (atype := .int) hx hb (hts _ wm_68) rfl rfl hG.1 hP hD hS hA (a0 := (12000, .inl (fun _ => 0))) trivial (fun _ => rfl) (by decide) (by decide) (by decide) (Nat.le_of_ble_eq_true rfl) (Nat.le_of_ble_eq_true rfl) dX0_init_8 (fun q1q H hP hD hS => ?_)
  have hP : va_P D vwCl [(h0, .inr (2, [.null, .null, .null, .int 0, .int 0])), (q1q, .inl (cy 0, 12000, .inl (fun _ => 0)))] H := hP
  have hD : va_D A [(h0, .inr (2, [.null, .null, .null, .int 0, .int 0])), (q1q, .inl (cy 0, 12000, .inl (fun _ => 0)))] := hD
  refine va_putF (D := D) (ci := 2) (v := .ref q1q) (ty := (.array .int)) (C := RX0) (T := TX0) (N := 5) hx hb hts kin_RX0 tyX0 tyX0_ok nmX0 hown hG.1 hP hD hS 0 rfl rfl 1 (by decide) (hts _ wm_401) (fun _ h9 => h9) rfl hnm rfl (by decide +kernel) rfl rfl (Nat.le_of_ble_eq_true rfl) dX0_init_10 (fun H locs hP hD hS => ?_)
  have hP : va_P D vwCl [(h0, .inr (2, [.null, .ref q1q, .null, .int 0, .int 0])), (q1q, .inl (cy 0, 12000, .inl (fun _ => 0)))] H := hP
  have hD : va_D A [(h0, .inr (2, [.null, .ref q1q, .null, .int 0, .int 0])), (q1q, .inl (cy 0, 12000, .inl (fun _ => 0)))] := hD
  refine lv_aload_n hx hb dX0_init_13 rfl (lv_at hl 0 rfl) ?_
  refine lv_iconst (v := 4) hx hb dX0_init_14 (by decide) ?_
  refine k_newa 0 (atype := .int) hx hb (hts _ wm_68) rfl rfl hG.1 hP hD hS hA (a0 := (4, .inl (fun _ => 0))) trivial (fun _ => rfl) (by decide) (by decide) (by decide) (Nat.le_of_ble_eq_true rfl) (Nat.le_of_ble_eq_true rfl) dX0_init_15 (fun q2q H hP hD hS => ?_)
  have hP : va_P D vwCl [(h0, .inr (2, [.null, .ref q1q, .null, .int 0, .int 0])), (q1q, .inl (cy 0, 12000, .inl (fun _ => 0))), (q2q, .inl (cy 0, 4, .inl (fun _ => 0)))] H := hP
  have hD : va_D A [(h0, .inr (2, [.null, .ref q1q, .null, .int 0, .int 0])), (q1q, .inl (cy 0, 12000, .inl (fun _ => 0))), (q2q, .inl (cy 0, 4, .inl (fun _ => 0)))] := hD
  refine va_putF (D := D) (ci := 2) (v := .ref q2q) (ty := (.array .int)) (C := RX0) (T := TX0) (N := 5) hx hb hts kin_RX0 tyX0 tyX0_ok nmX0 hown hG.1 hP hD hS 0 rfl rfl 2 (by decide) (hts _ wm_402) (fun _ h9 => h9) rfl hnm rfl (by decide +kernel) rfl rfl (Nat.le_of_ble_eq_true rfl) dX0_init_17 (fun H locs hP hD hS => ?_)
  have hP : va_P D vwCl [(h0, .inr (2, [.null, .ref q1q, .ref q2q, .int 0, .int 0])), (q1q, .inl (cy 0, 12000, .inl (fun _ => 0))), (q2q, .inl (cy 0, 4, .inl (fun _ => 0)))] H := hP
  have hD : va_D A [(h0, .inr (2, [.null, .ref q1q, .ref q2q, .int 0, .int 0])), (q1q, .inl (cy 0, 12000, .inl (fun _ => 0))), (q2q, .inl (cy 0, 4, .inl (fun _ => 0)))] := hD
  refine lv_aload_n hx hb dX0_init_20 rfl (lv_at hl 0 rfl) ?_
  refine lv_iconst (v := 0) hx hb dX0_init_21 (by decide) ?_
  refine va_put (D := D) (ci := 2) (v := .int 0) (ty := .int) (C := RX0) (T := TX0) (N := 5) hx hb hts kin_RX0 tyX0 tyX0_ok nmX0 hown hG.1 hP hD hS 0 rfl rfl 3 (by decide) (hts _ wm_403) (fun _ h9 => h9) rfl (by decide +kernel) rfl rfl (Nat.le_of_ble_eq_true rfl) dX0_init_22 (fun H locs hP hD hS => ?_)
  have hP : va_P D vwCl [(h0, .inr (2, [.null, .ref q1q, .ref q2q, .int 0, .int 0])), (q1q, .inl (cy 0, 12000, .inl (fun _ => 0))), (q2q, .inl (cy 0, 4, .inl (fun _ => 0)))] H := hP
  have hD : va_D A [(h0, .inr (2, [.null, .ref q1q, .ref q2q, .int 0, .int 0])), (q1q, .inl (cy 0, 12000, .inl (fun _ => 0))), (q2q, .inl (cy 0, 4, .inl (fun _ => 0)))] := hD
  refine lv_aload_n hx hb dX0_init_25 rfl (lv_at hl 0 rfl) ?_
  refine lv_ldc (v := 1000000000) hx hb hown (hts _ wm_399) dX0_init_26 ?_
  refine va_put (D := D) (ci := 2) (v := .int 1000000000) (ty := .int) (C := RX0) (T := TX0) (N := 5) hx hb hts kin_RX0 tyX0 tyX0_ok nmX0 hown hG.1 hP hD hS 0 rfl rfl 4 (by decide) (hts _ wm_404) (fun _ h9 => h9) rfl (by decide +kernel) rfl rfl (Nat.le_of_ble_eq_true rfl) dX0_init_28 (fun H locs hP hD hS => ?_)
  have hP : va_P D vwCl [(h0, .inr (2, [.null, .ref q1q, .ref q2q, .int 0, .int 1000000000])), (q1q, .inl (cy 0, 12000, .inl (fun _ => 0))), (q2q, .inl (cy 0, 4, .inl (fun _ => 0)))] H := hP
  have hD : va_D A [(h0, .inr (2, [.null, .ref q1q, .ref q2q, .int 0, .int 1000000000])), (q1q, .inl (cy 0, 12000, .inl (fun _ => 0))), (q2q, .inl (cy 0, 4, .inl (fun _ => 0)))] := hD
  refine lv_aload_n hx hb dX0_init_31 rfl (lv_at hl 0 rfl) ?_
  refine lv_aload_n hx hb dX0_init_32 rfl (lv_at hl 1 rfl) ?_
  refine va_putF (D := D) (ci := 2) (v := .ref f0) (ty := (.object "LentMinds$Few")) (C := RX0) (T := TX0) (N := 5) hx hb hts kin_RX0 tyX0 tyX0_ok nmX0 hown hG.1 hP hD hS 0 rfl rfl 0 (by decide) (hts _ wm_400) (fun _ h9 => h9) rfl hnm rfl (by decide +kernel) rfl rfl (Nat.le_of_ble_eq_true rfl) dX0_init_33 (fun H locs hP hD hS => ?_)
  have hP : va_P D vwCl [(h0, .inr (2, [.ref f0, .ref q1q, .ref q2q, .int 0, .int 1000000000])), (q1q, .inl (cy 0, 12000, .inl (fun _ => 0))), (q2q, .inl (cy 0, 4, .inl (fun _ => 0)))] H := hP
  have hD : va_D A [(h0, .inr (2, [.ref f0, .ref q1q, .ref q2q, .int 0, .int 1000000000])), (q1q, .inl (cy 0, 12000, .inl (fun _ => 0))), (q2q, .inl (cy 0, 4, .inl (fun _ => 0)))] := hD
  exact k_vret (fun k => [q1q, q2q].getD k 0) hx hb hr hlk (trivial) (hP.sub [0, 1, 2] rfl) (hD.sub [0, 1, 2] (by decide) rfl) hS (by decide) (by decide) dX0_init_36
